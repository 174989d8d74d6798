/-! CONTRACTS over worlds by address: a method gets the whole world, and says what the world is behind it -/
def rmL (lev mc ms : Nat) : Room := { frames := 40 + 20 * lev, cells := mc, slots := ms, locals := 1000 + 200 * lev }
def PreQ (D : va_G) (cy : Nat → Nat) (σ : Wd) (sz : Nat) (av : List Value) : Array Value → State → Prop := fun v U => v = av.toArray ∧ U.heap.size = sz ∧ (∀ w ∈ lw_g, w.before #[] U = true) ∧ va_K D vwc (tyz cy) U ∧ Go (cy 7) (cy 8) cy (AA σ sz) U U.heap ∧ va_P D vwc (wl σ) U.heap ∧ va_D (fun _ => True) (wl σ)
def PostQ (D : va_G) (σ : Wd) (sz : Nat) (Post : Option Value → Wd → Prop) : Array Value → State → Outcome → State → Prop := fun _ st oc t => (∃ (v : Option Value) (σ' : Wd), oc = .returned v ∧ Post v σ' ∧ va_P D vwc (wl σ') t.heap ∧ va_D (AA σ sz) (wl σ')) ∧ va_F (AA σ sz) st t
def ExcQ (D : va_G) (σ : Wd) (sz : Nat) (Exc : String → Wd → Prop) : String → State → State → Prop := fun E st t => (∃ σ' : Wd, Exc E σ' ∧ va_P D vwc (wl σ') t.heap ∧ va_D (AA σ sz) (wl σ')) ∧ va_F (AA σ sz) st t
/-- the contract of y at the arguments av and the world σ -/
def Ct (l : Launch) (y : MethodName) (bytes : ByteArray) (maxL : Nat) (ret : Option FieldType) (lev mc ms : Nat) (D : va_G) (cy : Nat → Nat) (av : List Value) (σ : Wd) (Post : Option Value → Wd → Prop) (Exc : String → Wd → Prop) : Prop :=
  ∀ sz : Nat, vx_Met l y [Cond.code y bytes maxL ret] (rmL lev mc ms) (PreQ D cy σ sz av) (PostQ D σ sz Post) (ExcQ D σ sz Exc) mc ms (AA σ sz)
/-- the same of a method with handlers -/
def CtH (l : Launch) (y : MethodName) (bytes : ByteArray) (maxL : Nat) (ret : Option FieldType) (hh : List (Nat × Nat × Nat × Nat)) (lev mc ms : Nat) (D : va_G) (cy : Nat → Nat) (av : List Value) (σ : Wd) (Post : Option Value → Wd → Prop) (Exc : String → Wd → Prop) : Prop :=
  ∀ sz : Nat, vx_Met l y [Cond.codeWith y bytes maxL ret hh] (rmL lev mc ms) (PreQ D cy σ sz av) (PostQ D σ sz Post) (ExcQ D σ sz Exc) mc ms (AA σ sz)
/-- no exception -/
def noX : String → Wd → Prop := fun _ _ => False
theorem PreQ.blind {D : va_G} {cy : Nat → Nat} {σ : Wd} {sz : Nat} {av : List Value} : FrameBlind (PreQ D cy σ sz av) := by
  intro a U g mk h
  obtain ⟨h1, h2, h3, h4, h5, h6, h7⟩ := h
  have hW : U.WarmedH (U.calling g mk a).vm := State.WarmedH.refl U
  exact ⟨h1, h2, lw_mv hW h3, va_K.moved (Vm.Alike.refl U.vm) h4, h5.moved hW, h6, h7⟩
/-- what is owed at the end -/
def En (κ : Kx) (ret : Option FieldType) (mc ms : Nat) (Post : Option Value → Wd → Prop) (Exc : String → Wd → Prop) : Prop :=
  ∃ σ0 : Wd, kA κ = AA σ0 (kS κ).heap.size ∧ kQ κ = vx_MQ (kB κ) (PostQ (kD κ) σ0 (kS κ).heap.size Post) (ExcQ (kD κ) σ0 (kS κ).heap.size Exc) (kG κ) (kS κ) mc ms (AA σ0 (kS κ).heap.size) ∧ (kH κ).sig.returnType = ret ∧ (kR κ).cells = mc ∧ (kR κ).slots = ms
/-- no handlers -/
def NoH (κ : Kx) : Prop := ∀ x ∈ (kC κ).exceptionTable.toList, False
theorem vx_ofWF {l : Launch} {y : MethodName} {ws ws' : List Cond} {rm : Room} {Pc : Array Value → State → Prop} {Qc : Array Value → State → Outcome → State → Prop} {XC : String → State → State → Prop} {mc ms : Nat} {free : Addr → Prop} {cc : ByteArray} {maxL : Nat} {ret : Option FieldType}
    (hy : plainFor y = true) (hw : ws = Cond.code y cc maxL ret :: ws')
    (body : ∀ p e s m args below meth c s₁, BodyLoose p l y (headSpec ws rm) cc maxL ret e s m args below meth c s₁ → c.maxLocals = maxL → (∀ x ∈ c.exceptionTable.toList, False) → Pc args s →
      W p l e (headSpec ws rm).room s m args below meth c s.heap [] 0 0 (vx_MQ below Qc XC args s mc ms free) (entryFrame m args maxL)) : vx_Met l y ws rm Pc Qc XC mc ms free := by
  refine MetFree.of_bodySF (code := cc) (maxLocals := maxL) (ret := ret) hy ?_ ?_
  · intro args s m h hn
    obtain ⟨meth, c, h1, h2, h3, h4, h5, h6, -, -⟩ := Cond.code_spec hn (atoms_spec (ws := ws) h _ (by rw [hw]; exact List.mem_cons_self))
    exact ⟨meth, c, h1, h2, h3, h4, h5, h6⟩
  · intro p e s m args below meth c s₁ B hml hP _
    have hh0 : s₁.heap = s.heap := by rw [B.state]; rfl
    have ht : ∀ x ∈ c.exceptionTable.toList, False := by
      obtain ⟨meth9, c9, h1, h2, -, -, -, -, h7, -⟩ := Cond.code_spec B.named (atoms_spec (ws := ws) B.pre _ (by rw [hw]; exact List.mem_cons_self))
      cases Option.some.inj (h1.symm.trans B.method)
      cases Option.some.inj (h2.symm.trans (Stand.of_body B).code)
      intro x hx
      rw [Array.isEmpty_iff.mp h7] at hx
      cases hx
    obtain ⟨t, a1, o, b1, b2, b3⟩ := body p e s m args below meth c s₁ B hml ht hP s₁ hh0 (Stand.of_body B)
    exact ⟨t, o, a1, b1, b2, b3⟩
theorem ct_start {l : Launch} {y : MethodName} {cc : ByteArray} {maxL : Nat} {ret : Option FieldType} {lev mc ms : Nat} {D : va_G} {cy : Nat → Nat} {av : List Value} {σ : Wd} {Post : Option Value → Wd → Prop} {Exc : String → Wd → Prop} (hy : plainFor y = true) (hfl : l.stackTraces = false) (hlen : Nat.ble (lg_sl av).length maxL = true)
    (body : ∀ κ : Kx, kL κ = l → kD κ = D → kc κ = cy → Cx κ cc maxL y.cls y.name lev → En κ ret mc ms Post Exc → NoH κ → J κ σ (lv_args 0 av) 0 [] 0 0) : Ct l y cc maxL ret lev mc ms D cy av σ Post Exc := by
  intro sz
  refine vx_ofWF hy rfl ?_
  intro p e s m args below meth c s₁ B hml htab hpre
  obtain ⟨rfl, hsz, hG, hK, hGo, hP, hD⟩ := hpre
  subst hsz
  have hlen' := Nat.le_of_ble_eq_true hlen
  have h := body (p, l, e, rmL lev mc ms, s, m, av.toArray, below, meth, c, vx_MQ below (PostQ D σ s.heap.size Post) (ExcQ D σ s.heap.size Exc) av.toArray s mc ms (AA σ s.heap.size), D, cy, AA σ s.heap.size, maxL) rfl rfl rfl
    ⟨⟨B.exec, B.bytes, hml, rfl⟩, ⟨findClass_of_methodNamed B.named, (name_of_methodNamed B.named B.method).1, B.notSynchronized, hfl⟩, lw_mv (State.WarmedH.refl s) hG, hK, hGo, fun q h => Or.inr h, ⟨Nat.le_refl _, Nat.le_refl _⟩⟩
    ⟨σ, rfl, rfl, B.returns, rfl, rfl⟩ htab s.heap [] _ (lv_entry av hlen') hP (AA.self hD) va_S.rf
  rw [lg_entry_eq]
  exact h
/-- a method called by its name -/
def MV (own : String) (idx : Nat) (C : String) (y : MethodName) (bytes : ByteArray) (maxL : Nat) (ret : Option FieldType) (nargs : Nat) : Prop := Cond.methodLink own idx y ∈ lw_g ∧ Cond.instanceMethod y ∈ lw_g ∧ Cond.selects C y y ∈ lw_g ∧ Cond.initialized y.cls ∈ lw_g ∧ Cond.code y bytes maxL ret ∈ lw_g ∧ (y.cls ≠ "java/lang/invoke/MethodHandle" ∧ y.cls ≠ "java/lang/invoke/VarHandle") ∧ (parseMethodDescriptor y.desc).map (fun d => d.parameters.length) = some nargs ∧ Nat.ble maxL 100 = true
def MS (own : String) (idx : Nat) (y : MethodName) (bytes : ByteArray) (maxL : Nat) (ret : Option FieldType) (nargs : Nat) : Prop := Cond.methodLink own idx y ∈ lw_g ∧ Cond.static y ∈ lw_g ∧ Cond.initialized y.cls ∈ lw_g ∧ Cond.code y bytes maxL ret ∈ lw_g ∧ (y.cls ≠ "java/lang/invoke/MethodHandle" ∧ y.cls ≠ "java/lang/invoke/VarHandle") ∧ (parseMethodDescriptor y.desc).map (fun d => d.parameters.length) = some nargs ∧ Nat.ble maxL 100 = true
def MI (own : String) (idx : Nat) (y : MethodName) (bytes : ByteArray) (maxL : Nat) (nargs : Nat) : Prop := Cond.methodLink own idx y ∈ lw_g ∧ Cond.instanceMethod y ∈ lw_g ∧ Cond.initialized y.cls ∈ lw_g ∧ Cond.code y bytes maxL none ∈ lw_g ∧ (y.cls ≠ "java/lang/invoke/MethodHandle" ∧ y.cls ≠ "java/lang/invoke/VarHandle") ∧ (parseMethodDescriptor y.desc).map (fun d => d.parameters.length) = some nargs ∧ Nat.ble maxL 100 = true ∧ y.name = "<init>"
/-- .. a nest mate's private constructor -/
def MN (own : String) (idx : Nat) (y : MethodName) (host : String) (bytes : ByteArray) (maxL : Nat) (nargs : Nat) : Prop := Cond.methodLinkNest own idx y host ∈ lw_g ∧ Cond.instanceMethod y ∈ lw_g ∧ Cond.initialized y.cls ∈ lw_g ∧ Cond.code y bytes maxL none ∈ lw_g ∧ (y.cls ≠ "java/lang/invoke/MethodHandle" ∧ y.cls ≠ "java/lang/invoke/VarHandle") ∧ (parseMethodDescriptor y.desc).map (fun d => d.parameters.length) = some nargs ∧ Nat.ble maxL 100 = true ∧ y.name = "<init>"
/-- .. a superclass's method, by super -/
def MU (own : String) (idx : Nat) (y : MethodName) (bytes : ByteArray) (maxL : Nat) (ret : Option FieldType) (nargs : Nat) : Prop := Cond.methodLink own idx y ∈ lw_g ∧ Cond.sameMethod y.cls y.cls y.name y.desc ∈ lw_g ∧ Cond.superclass own y.cls ∈ lw_g ∧ Cond.instanceMethod y ∈ lw_g ∧ Cond.initialized y.cls ∈ lw_g ∧ Cond.code y bytes maxL ret ∈ lw_g ∧ y.name ≠ "<init>" ∧ (parseMethodDescriptor y.desc).map (fun d => d.parameters.length) = some nargs ∧ Nat.ble maxL 100 = true
/-- .. a static method with handlers -/
def MSH (own : String) (idx : Nat) (y : MethodName) (bytes : ByteArray) (maxL : Nat) (ret : Option FieldType) (hh : List (Nat × Nat × Nat × Nat)) (nargs : Nat) : Prop := Cond.methodLink own idx y ∈ lw_g ∧ Cond.static y ∈ lw_g ∧ Cond.initialized y.cls ∈ lw_g ∧ Cond.codeWith y bytes maxL ret hh ∈ lw_g ∧ (y.cls ≠ "java/lang/invoke/MethodHandle" ∧ y.cls ≠ "java/lang/invoke/VarHandle") ∧ (parseMethodDescriptor y.desc).map (fun d => d.parameters.length) = some nargs ∧ Nat.ble maxL 100 = true
section CallJ
variable {κ : Kx} {cc : ByteArray} {nL : Nat} {own nm : String} {lev : Nat} {σ : Wd} {lv : List (Nat × Value)} {pc pc' : Nat} {st st' : List Value} {k n : Nat}
variable {idx b maxL lev' mc ms nargs : Nat} {y : MethodName} {bytes : ByteArray} {ret : Option FieldType} {As : List Value} {Post : Option Value → Wd → Prop} {Exc : String → Wd → Prop}
theorem pre_now {H : Heap} {locs : List Loc} {av : List Value} (C : Cx κ cc nL own nm lev) (hP : va_P (kD κ) vwc (wl σ) H) (hD : va_D (kA κ) (wl σ)) (hS : va_S (kA κ) (kS κ).heap H locs) : ∀ U : State, U.heap = H → (kS κ).WarmedH U.vm → PreQ (kD κ) (kc κ) σ H.size av av.toArray U := by
  obtain ⟨-, -, hG, hK, hGo, hA, -⟩ := C
  intro U hU hW
  subst hU
  exact ⟨rfl, rfl, lw_mv hW hG, va_K.moved hW.alike hK, ((hGo.kept hS.1 hS.2.1).narrow (AA.le hD hS hA)).moved hW, hP, hD.weaken (fun _ _ _ _ => trivial)⟩
theorem j_after {a : Array Value} (C : Cx κ cc nL own nm lev) (hp : pc + 3 = pc')
    (hr : ∀ (H : Heap) (locs : List Loc) (ls : Array Slot), lv_has ls (kN κ) lv → va_P (kD κ) vwc (wl σ) H → va_D (kA κ) (wl σ) → va_S (kA κ) (kS κ).heap H locs → vx_Run (kP κ) (kL κ) (kE κ) (kR κ) (kS κ) (kM κ) (kG κ) (kB κ) (kH κ) (kC κ) H locs k n mc ms (F0 (kM κ) pc ls st) st' (PostQ (kD κ) σ H.size Post a) (ExcQ (kD κ) σ H.size Exc) (AA σ H.size))
    (kx : ∀ (E : String) (σ' : Wd), Exc E σ' → JX κ σ' lv pc E (k + mc) (n + ms)) (kk : ∀ (v : Option Value) (σ' : Wd), Post v σ' → J κ σ' lv pc' (v.toList ++ st') (k + mc) (n + ms)) : J κ σ lv pc st k n := by
  obtain ⟨-, -, -, -, -, hA, -⟩ := C
  subst hp
  intro H locs ls hl hP hD hS T hT X
  rcases hr H locs ls hl hP hD hS T hT X with ⟨v, st₀, t, T', L, h0, X', hL, e1, e2, ⟨⟨v', σ', hv, hpo, hP1, hD1⟩, hF⟩, stp⟩ | ⟨q, st₀, t, T', L, E, ce, h0, X', hL, e1, e2, ⟨⟨σ', hpx, hP1, hD1⟩, hF⟩, hce, hcv, hcl, stp⟩
  · cases hv
    obtain ⟨k1, k2, k3⟩ := vx_keep h0 e1 hS (fun q _ h => AA.le hD hS hA q h) (AA.le hD hS hA) hL hF
    obtain ⟨t2, a1, b1⟩ := kk v σ' hpo T'.heap (locs ++ L) ls hl (by rw [e1]; exact hP1) (hD1.weaken (fun _ q _ h => AA.le hD hS hA q.1 h)) k3 T' rfl X'
    exact ⟨t2, stp t2 a1, b1⟩
  · obtain ⟨k1, k2, k3⟩ := vx_keep h0 e1 hS (fun q _ h => AA.le hD hS hA q h) (AA.le hD hS hA) hL hF
    obtain ⟨t2, a1, b1⟩ := kx E σ' hpx T'.heap (locs ++ L) ls st' q ce hl (by rw [e1]; exact hP1) (hD1.weaken (fun _ q _ h => AA.le hD hS hA q.1 h)) k3 (by rw [e1]; exact hce) hcv hcl T' rfl X'
    exact ⟨t2, stp.trans a1, b1⟩
theorem mv_words {s U : State} {args a' : Array Value} {w : Cond} (hG : ∀ w ∈ lw_g, w.before args s = true) (h : w ∈ lw_g) : ∀ w' ∈ [w], ∀ (a' : Array Value) (U : State), s.WarmedH U.vm → w'.before a' U = true := by
  intro w' hw' a' U hW
  cases List.mem_singleton.mp hw'
  exact lw_mv hW hG _ h
theorem mv_len {y : MethodName} {nargs : Nat} (h : (parseMethodDescriptor y.desc).map (fun d => d.parameters.length) = some nargs) : ∀ sig, parseMethodDescriptor y.desc = some sig → nargs = sig.parameters.length := by
  intro sig hs
  rw [hs] at h
  exact (Option.some.inj h).symm
theorem j_callV {ci : Nat} {fs : List Value} {r : vw_C} (C : Cx κ cc nL own nm lev) (hd : decode cc pc = .ok (.invokevirtual idx, 3)) (hp : pc + 3 = pc') (M : MV own idx r.1 y bytes maxL ret nargs) (hh : has σ b (.inr (ci, fs))) (hc : vwc[ci]? = some r) (hst : st = As.reverse ++ .ref b :: st') (hna : As.length = nargs) (ct : Ct (kL κ) y bytes maxL ret lev' mc ms (kD κ) (kc κ) (.ref b :: As) σ Post Exc) (hw : Nat.ble (st'.map fun v => v.category).sum 8 = true) (hlev : lev' + 1 ≤ lev) (hk : k + mc ≤ (kR κ).cells) (hn : n + ms ≤ (kR κ).slots)
    (kx : ∀ (E : String) (σ' : Wd), Exc E σ' → JX κ σ' lv pc E (k + mc) (n + ms)) (kk : ∀ (v : Option Value) (σ' : Wd), Post v σ' → J κ σ' lv pc' (v.toList ++ st') (k + mc) (n + ms)) : J κ σ lv pc st k n := by
  refine j_after C hp (a := (Value.ref b :: As).toArray) (fun H locs ls hl hP hD hS => ?_) kx kk
  have hpre := pre_now (av := .ref b :: As) C hP hD hS
  obtain ⟨⟨hx, hb, hmx, hkn⟩, ⟨hown, -, -, -⟩, hG, hK, hGo, hA, hf1, hf2⟩ := C
  obtain ⟨m1, m2, m3, m4, m5, m6, m7, m8⟩ := M
  have m8 := Nat.le_of_ble_eq_true m8
  obtain ⟨q, hq⟩ := hh.at
  exact vx_runV (rm := rmL lev' mc ms) (Ts := lw_g) ⟨hx, hb, hmx, hown, hG⟩ (ct H.size)
    ⟨⟨rfl, rfl, by show 40 + 20 * lev' + 1 ≤ _; omega, by show 8 + (maxL + 11) + (1000 + 200 * lev') ≤ _; omega, mv_words (a' := #[]) (U := kS κ) hG m5, List.mem_singleton.mpr rfl, hG _ m5, hG _ m4, m6, mv_len m7, hG _ m1⟩, hG _ m2, hG _ m3⟩
    ⟨PreQ.blind, va_recv hK hP hc hq, hpre⟩ rfl hna (by rw [← hkn]; exact hl.1) hst (by show 2 * 0 + _ ≤ 8; rw [Nat.mul_zero, Nat.zero_add]; exact Nat.le_of_ble_eq_true hw) hd ⟨hk, hn⟩
theorem j_callS (C : Cx κ cc nL own nm lev) (hd : decode cc pc = .ok (.invokestatic idx, 3)) (hp : pc + 3 = pc') (M : MS own idx y bytes maxL ret nargs) (hst : st = As.reverse ++ st') (hna : As.length = nargs) (ct : Ct (kL κ) y bytes maxL ret lev' mc ms (kD κ) (kc κ) As σ Post Exc) (hw : Nat.ble (st'.map fun v => v.category).sum 8 = true) (hlev : lev' + 1 ≤ lev) (hk : k + mc ≤ (kR κ).cells) (hn : n + ms ≤ (kR κ).slots)
    (kx : ∀ (E : String) (σ' : Wd), Exc E σ' → JX κ σ' lv pc E (k + mc) (n + ms)) (kk : ∀ (v : Option Value) (σ' : Wd), Post v σ' → J κ σ' lv pc' (v.toList ++ st') (k + mc) (n + ms)) : J κ σ lv pc st k n := by
  refine j_after C hp (a := As.toArray) (fun H locs ls hl hP hD hS => ?_) kx kk
  have hpre := pre_now (av := As) C hP hD hS
  obtain ⟨⟨hx, hb, hmx, hkn⟩, ⟨hown, -, -, -⟩, hG, hK, hGo, hA, hf1, hf2⟩ := C
  obtain ⟨m1, m2, m4, m5, m6, m7, m8⟩ := M
  have m8 := Nat.le_of_ble_eq_true m8
  exact vx_runS (rm := rmL lev' mc ms) (Ts := lw_g) ⟨hx, hb, hmx, hown, hG⟩ (ct H.size)
    ⟨⟨rfl, rfl, by show 40 + 20 * lev' + 1 ≤ _; omega, by show 8 + (maxL + 11) + (1000 + 200 * lev') ≤ _; omega, mv_words (a' := #[]) (U := kS κ) hG m5, List.mem_singleton.mpr rfl, hG _ m5, hG _ m4, m6, mv_len m7, hG _ m1⟩, hG _ m2⟩
    ⟨PreQ.blind, hpre⟩ rfl hna (by rw [← hkn]; exact hl.1) hst (by show 2 * 0 + _ ≤ 8; rw [Nat.mul_zero, Nat.zero_add]; exact Nat.le_of_ble_eq_true hw) hd ⟨hk, hn⟩
theorem j_callI (C : Cx κ cc nL own nm lev) (hd : decode cc pc = .ok (.invokespecial idx, 3)) (hp : pc + 3 = pc') (M : MI own idx y bytes maxL nargs) (hst : st = As.reverse ++ .ref b :: st') (hna : As.length = nargs) (ct : Ct (kL κ) y bytes maxL none lev' mc ms (kD κ) (kc κ) (.ref b :: As) σ Post Exc) (hw : Nat.ble (st'.map fun v => v.category).sum 8 = true) (hlev : lev' + 1 ≤ lev) (hk : k + mc ≤ (kR κ).cells) (hn : n + ms ≤ (kR κ).slots)
    (kx : ∀ (E : String) (σ' : Wd), Exc E σ' → JX κ σ' lv pc E (k + mc) (n + ms)) (kk : ∀ (v : Option Value) (σ' : Wd), Post v σ' → J κ σ' lv pc' (v.toList ++ st') (k + mc) (n + ms)) : J κ σ lv pc st k n := by
  refine j_after C hp (a := (Value.ref b :: As).toArray) (fun H locs ls hl hP hD hS => ?_) kx kk
  have hpre := pre_now (av := .ref b :: As) C hP hD hS
  obtain ⟨⟨hx, hb, hmx, hkn⟩, ⟨hown, -, -, -⟩, hG, hK, hGo, hA, hf1, hf2⟩ := C
  obtain ⟨m1, m2, m4, m5, m6, m7, m8, m9⟩ := M
  have m8 := Nat.le_of_ble_eq_true m8
  exact vx_runI (rm := rmL lev' mc ms) (Ts := lw_g) ⟨hx, hb, hmx, hown, hG⟩ (ct H.size)
    ⟨⟨rfl, rfl, by show 40 + 20 * lev' + 1 ≤ _; omega, by show 8 + (maxL + 11) + (1000 + 200 * lev') ≤ _; omega, mv_words (a' := #[]) (U := kS κ) hG m5, List.mem_singleton.mpr rfl, hG _ m5, hG _ m4, m6, mv_len m7, hG _ m1⟩, m9, hG _ m2⟩
    ⟨PreQ.blind, hpre⟩ rfl hna (by rw [← hkn]; exact hl.1) hst (by show 2 * 0 + _ ≤ 8; rw [Nat.mul_zero, Nat.zero_add]; exact Nat.le_of_ble_eq_true hw) hd ⟨hk, hn⟩
theorem j_callN {host : String} (C : Cx κ cc nL own nm lev) (hd : decode cc pc = .ok (.invokespecial idx, 3)) (hp : pc + 3 = pc') (M : MN own idx y host bytes maxL nargs) (hst : st = As.reverse ++ .ref b :: st') (hna : As.length = nargs) (ct : Ct (kL κ) y bytes maxL none lev' mc ms (kD κ) (kc κ) (.ref b :: As) σ Post Exc) (hw : Nat.ble (st'.map fun v => v.category).sum 8 = true) (hlev : lev' + 1 ≤ lev) (hk : k + mc ≤ (kR κ).cells) (hn : n + ms ≤ (kR κ).slots)
    (kx : ∀ (E : String) (σ' : Wd), Exc E σ' → JX κ σ' lv pc E (k + mc) (n + ms)) (kk : ∀ (v : Option Value) (σ' : Wd), Post v σ' → J κ σ' lv pc' (v.toList ++ st') (k + mc) (n + ms)) : J κ σ lv pc st k n := by
  refine j_after C hp (a := (Value.ref b :: As).toArray) (fun H locs ls hl hP hD hS => ?_) kx kk
  have hpre := pre_now (av := .ref b :: As) C hP hD hS
  obtain ⟨⟨hx, hb, hmx, hkn⟩, ⟨hown, -, -, -⟩, hG, hK, hGo, hA, hf1, hf2⟩ := C
  obtain ⟨m1, m2, m4, m5, m6, m7, m8, m9⟩ := M
  have m8 := Nat.le_of_ble_eq_true m8
  exact vx_runIN (rm := rmL lev' mc ms) (Ts := lw_g) ⟨hx, hb, hmx, hown, hG⟩ (ct H.size)
    ⟨⟨⟨rfl, rfl, by show 40 + 20 * lev' + 1 ≤ _; omega, by show 8 + (maxL + 11) + (1000 + 200 * lev') ≤ _; omega, mv_words (a' := #[]) (U := kS κ) hG m5, List.mem_singleton.mpr rfl⟩, hG _ m5, hG _ m4, m6, mv_len m7, hG _ m1⟩, m9, hG _ m2⟩
    ⟨PreQ.blind, hpre⟩ rfl hna (by rw [← hkn]; exact hl.1) hst (by show 2 * 0 + _ ≤ 8; rw [Nat.mul_zero, Nat.zero_add]; exact Nat.le_of_ble_eq_true hw) hd ⟨hk, hn⟩
theorem j_callU {ci : Nat} {fs : List Value} {r : vw_C} (C : Cx κ cc nL own nm lev) (hd : decode cc pc = .ok (.invokespecial idx, 3)) (hp : pc + 3 = pc') (M : MU own idx y bytes maxL ret nargs) (hh : has σ b (.inr (ci, fs))) (hc : vwc[ci]? = some r) (hst : st = As.reverse ++ .ref b :: st') (hna : As.length = nargs) (ct : Ct (kL κ) y bytes maxL ret lev' mc ms (kD κ) (kc κ) (.ref b :: As) σ Post Exc) (hw : Nat.ble (st'.map fun v => v.category).sum 8 = true) (hlev : lev' + 1 ≤ lev) (hk : k + mc ≤ (kR κ).cells) (hn : n + ms ≤ (kR κ).slots)
    (kx : ∀ (E : String) (σ' : Wd), Exc E σ' → JX κ σ' lv pc E (k + mc) (n + ms)) (kk : ∀ (v : Option Value) (σ' : Wd), Post v σ' → J κ σ' lv pc' (v.toList ++ st') (k + mc) (n + ms)) : J κ σ lv pc st k n := by
  refine j_after C hp (a := (Value.ref b :: As).toArray) (fun H locs ls hl hP hD hS => ?_) kx kk
  have hpre := pre_now (av := .ref b :: As) C hP hD hS
  obtain ⟨⟨hx, hb, hmx, hkn⟩, ⟨hown, -, -, -⟩, hG, hK, hGo, hA, hf1, hf2⟩ := C
  obtain ⟨m1, m2, m3, m4, m5, m6, m7, m8, m9⟩ := M
  have m9 := Nat.le_of_ble_eq_true m9
  obtain ⟨q, hq⟩ := hh.at
  exact vx_runSU (rm := rmL lev' mc ms) (Ts := lw_g) (hK.1 ci r hc).2 ⟨hx, hb, hmx, hown, hG⟩ (ct H.size)
    ⟨⟨rfl, rfl, by show 40 + 20 * lev' + 1 ≤ _; omega, by show 8 + (maxL + 11) + (1000 + 200 * lev') ≤ _; omega, mv_words (a' := #[]) (U := kS κ) hG m6, List.mem_singleton.mpr rfl⟩, hG _ m1, hG _ m2, hG _ m3, hG _ m4, hG _ m5, hG _ m6, m7, mv_len m8⟩
    ⟨PreQ.blind, va_recv hK hP hc hq, hpre⟩ rfl hna (by rw [← hkn]; exact hl.1) hst (by show 2 * 0 + _ ≤ 8; rw [Nat.mul_zero, Nat.zero_add]; exact Nat.le_of_ble_eq_true hw) hd ⟨hk, hn⟩
theorem j_callSH {hh : List (Nat × Nat × Nat × Nat)} (C : Cx κ cc nL own nm lev) (hd : decode cc pc = .ok (.invokestatic idx, 3)) (hp : pc + 3 = pc') (M : MSH own idx y bytes maxL ret hh nargs) (hst : st = As.reverse ++ st') (hna : As.length = nargs) (ct : CtH (kL κ) y bytes maxL ret hh lev' mc ms (kD κ) (kc κ) As σ Post Exc) (hw : Nat.ble (st'.map fun v => v.category).sum 8 = true) (hlev : lev' + 1 ≤ lev) (hk : k + mc ≤ (kR κ).cells) (hn : n + ms ≤ (kR κ).slots)
    (kx : ∀ (E : String) (σ' : Wd), Exc E σ' → JX κ σ' lv pc E (k + mc) (n + ms)) (kk : ∀ (v : Option Value) (σ' : Wd), Post v σ' → J κ σ' lv pc' (v.toList ++ st') (k + mc) (n + ms)) : J κ σ lv pc st k n := by
  refine j_after C hp (a := As.toArray) (fun H locs ls hl hP hD hS => ?_) kx kk
  have hpre := pre_now (av := As) C hP hD hS
  obtain ⟨⟨hx, hb, hmx, hkn⟩, ⟨hown, -, -, -⟩, hG, hK, hGo, hA, hf1, hf2⟩ := C
  obtain ⟨m1, m2, m4, m5, m6, m7, m8⟩ := M
  have m8 := Nat.le_of_ble_eq_true m8
  exact vx_runSX (rm := rmL lev' mc ms) (Ts := lw_g) ⟨hx, hb, hmx, hown, hG⟩ (ct H.size)
    ⟨⟨rfl, rfl, by show 40 + 20 * lev' + 1 ≤ _; omega, by show 8 + (maxL + 11) + (1000 + 200 * lev') ≤ _; omega, mv_words (a' := #[]) (U := kS κ) hG m5, List.mem_singleton.mpr rfl⟩, hG _ m5, hG _ m4, m6, mv_len m7, hG _ m1, hG _ m2⟩
    ⟨PreQ.blind, hpre⟩ rfl hna (by rw [← hkn]; exact hl.1) hst (by show 2 * 0 + _ ≤ 8; rw [Nat.mul_zero, Nat.zero_add]; exact Nat.le_of_ble_eq_true hw) hd ⟨hk, hn⟩
end CallJ
section EndJ
variable {κ : Kx} {cc : ByteArray} {nL : Nat} {own nm : String} {lev : Nat} {σ : Wd} {lv : List (Nat × Value)} {pc : Nat} {st : List Value} {k n mc ms : Nat} {Post : Option Value → Wd → Prop} {Exc : String → Wd → Prop}
theorem j_iret {z : Int} (C : Cx κ cc nL own nm lev) (E : En κ (some .int) mc ms Post Exc) (hd : decode cc pc = .ok (.ireturn, 1)) (hk : k ≤ mc) (hn : n ≤ ms) (hpo : Post (some (vi z)) σ) : J κ σ lv pc [vi z] k n := by
  obtain ⟨⟨hx, hb, -, -⟩, ⟨-, -, hlk, -⟩, -⟩ := C
  obtain ⟨σ0, eA, eQ, hr, -, -⟩ := E
  intro H locs ls hl hP hD hS
  rw [eA] at hD hS
  show W (kP κ) (kL κ) (kE κ) (kR κ) (kS κ) (kM κ) (kG κ) (kB κ) (kH κ) (kC κ) H locs k n (kQ κ) _
  rw [eQ]
  refine W.widen hk hn (vx_ret ?_)
  exact W.iret (v := Int32.ofInt z) hx hb hr (fun t ht hW => ⟨⟨_, σ, rfl, hpo, by rw [ht]; exact hP, hD⟩, hS.F ht⟩) hS.2.2 hd hlk
theorem j_zret {z : Int} {rt : FieldType} (C : Cx κ cc nL own nm lev) (E : En κ (some rt) mc ms Post Exc) (hd : decode cc pc = .ok (.ireturn, 1)) (hz : narrow rt (vi z) = vi z) (hk : k ≤ mc) (hn : n ≤ ms) (hpo : Post (some (vi z)) σ) : J κ σ lv pc [vi z] k n := by
  obtain ⟨⟨hx, hb, -, -⟩, ⟨-, -, hlk, -⟩, -⟩ := C
  obtain ⟨σ0, eA, eQ, hr, -, -⟩ := E
  intro H locs ls hl hP hD hS
  rw [eA] at hD hS
  show W (kP κ) (kL κ) (kE κ) (kR κ) (kS κ) (kM κ) (kG κ) (kB κ) (kH κ) (kC κ) H locs k n (kQ κ) _
  rw [eQ]
  refine W.widen hk hn (vx_ret ?_)
  exact W.zret (v := Int32.ofInt z) hx hb hr hz (fun t ht hW => ⟨⟨_, σ, rfl, hpo, by rw [ht]; exact hP, hD⟩, hS.F ht⟩) hS.2.2 hd hlk
theorem j_lret {z : Int} (C : Cx κ cc nL own nm lev) (E : En κ (some .long) mc ms Post Exc) (hd : decode cc pc = .ok (.lreturn, 1)) (hk : k ≤ mc) (hn : n ≤ ms) (hpo : Post (some (vl z)) σ) : J κ σ lv pc [vl z] k n := by
  obtain ⟨⟨hx, hb, -, -⟩, ⟨-, -, hlk, -⟩, -⟩ := C
  obtain ⟨σ0, eA, eQ, hr, -, -⟩ := E
  intro H locs ls hl hP hD hS
  rw [eA] at hD hS
  show W (kP κ) (kL κ) (kE κ) (kR κ) (kS κ) (kM κ) (kG κ) (kB κ) (kH κ) (kC κ) H locs k n (kQ κ) _
  rw [eQ]
  refine W.widen hk hn (vx_ret ?_)
  exact W.lret (v := Int64.ofInt z) hx hb hr (fun t ht hW => ⟨⟨_, σ, rfl, hpo, by rw [ht]; exact hP, hD⟩, hS.F ht⟩) hS.2.2 hd hlk
theorem j_dret {x : UInt64} (C : Cx κ cc nL own nm lev) (E : En κ (some .double) mc ms Post Exc) (hd : decode cc pc = .ok (.dreturn, 1)) (hk : k ≤ mc) (hn : n ≤ ms) (hpo : Post (some (.double x)) σ) : J κ σ lv pc [.double x] k n := by
  obtain ⟨⟨hx, hb, -, -⟩, ⟨-, -, hlk, -⟩, -⟩ := C
  obtain ⟨σ0, eA, eQ, hr, -, -⟩ := E
  intro H locs ls hl hP hD hS
  rw [eA] at hD hS
  show W (kP κ) (kL κ) (kE κ) (kR κ) (kS κ) (kM κ) (kG κ) (kB κ) (kH κ) (kC κ) H locs k n (kQ κ) _
  rw [eQ]
  refine W.widen hk hn (vx_ret ?_)
  exact W.dret (v := x) hx hb hr (fun t ht hW => ⟨⟨_, σ, rfl, hpo, by rw [ht]; exact hP, hD⟩, hS.F ht⟩) hS.2.2 hd hlk
theorem j_fret {x : UInt32} (C : Cx κ cc nL own nm lev) (E : En κ (some .float) mc ms Post Exc) (hd : decode cc pc = .ok (.freturn, 1)) (hk : k ≤ mc) (hn : n ≤ ms) (hpo : Post (some (.float x)) σ) : J κ σ lv pc [.float x] k n := by
  obtain ⟨⟨hx, hb, -, -⟩, ⟨-, -, hlk, -⟩, -⟩ := C
  obtain ⟨σ0, eA, eQ, hr, -, -⟩ := E
  intro H locs ls hl hP hD hS
  rw [eA] at hD hS
  show W (kP κ) (kL κ) (kE κ) (kR κ) (kS κ) (kM κ) (kG κ) (kB κ) (kH κ) (kC κ) H locs k n (kQ κ) _
  rw [eQ]
  refine W.widen hk hn (vx_ret ?_)
  exact W.fret (v := x) hx hb hr (fun t ht hW => ⟨⟨_, σ, rfl, hpo, by rw [ht]; exact hP, hD⟩, hS.F ht⟩) hS.2.2 hd hlk
theorem j_vret (C : Cx κ cc nL own nm lev) (E : En κ none mc ms Post Exc) (hd : decode cc pc = .ok (.return_, 1)) (hk : k ≤ mc) (hn : n ≤ ms) (hpo : Post none σ) : J κ σ lv pc [] k n := by
  obtain ⟨⟨hx, hb, -, -⟩, ⟨-, -, hlk, -⟩, -⟩ := C
  obtain ⟨σ0, eA, eQ, hr, -, -⟩ := E
  intro H locs ls hl hP hD hS
  rw [eA] at hD hS
  show W (kP κ) (kL κ) (kE κ) (kR κ) (kS κ) (kM κ) (kG κ) (kB κ) (kH κ) (kC κ) H locs k n (kQ κ) _
  rw [eQ]
  refine W.widen hk hn (vx_ret ?_)
  exact W.vret hx hb hr (fun t ht hW => ⟨⟨_, σ, rfl, hpo, by rw [ht]; exact hP, hD⟩, hS.F ht⟩) hS.2.2 hd hlk
theorem j_aret {a : Nat} {rt : FieldType} (C : Cx κ cc nL own nm lev) (E : En κ (some rt) mc ms Post Exc) (hd : decode cc pc = .ok (.areturn, 1)) (hrt : (∃ n, rt = .object n) ∨ ∃ t, rt = .array t) (hk : k ≤ mc) (hn : n ≤ ms) (hpo : Post (some (.ref a)) σ) : J κ σ lv pc [.ref a] k n := by
  obtain ⟨⟨hx, hb, -, -⟩, ⟨-, -, hlk, -⟩, -⟩ := C
  obtain ⟨σ0, eA, eQ, hr, -, -⟩ := E
  intro H locs ls hl hP hD hS
  rw [eA] at hD hS
  show W (kP κ) (kL κ) (kE κ) (kR κ) (kS κ) (kM κ) (kG κ) (kB κ) (kH κ) (kC κ) H locs k n (kQ κ) _
  rw [eQ]
  refine W.widen hk hn (vx_ret ?_)
  exact W.aret (v := .ref a) hx hb hr hrt (Or.inr ⟨_, rfl⟩) (fun t ht hW => ⟨⟨_, σ, rfl, hpo, by rw [ht]; exact hP, hD⟩, hS.F ht⟩) hS.2.2 hd hlk
theorem jx_out {E : String} (C : Cx κ cc nL own nm lev) {ret : Option FieldType} (En9 : En κ ret mc ms Post Exc) (hN : NoH κ) (hk : k ≤ mc) (hn : n ≤ ms) (hpx : Exc E σ) : JX κ σ lv pc E k n := by
  obtain ⟨⟨hx, hb, -, -⟩, ⟨-, -, hlk, -⟩, -⟩ := C
  obtain ⟨σ0, eA, eQ, hr, -, -⟩ := En9
  intro H locs ls rest q ce hl hP hD hS hce hcv hcl
  rw [eA] at hD hS
  show vx_W (kP κ) (kL κ) (kE κ) (kR κ) (kS κ) (kM κ) (kG κ) (kB κ) (kH κ) (kC κ) H locs k n (kQ κ) _ q
  rw [eQ]
  exact vx_out (fun x hx => (hN x hx).elim) hlk hce hcv hcl (fun t ht hW => ⟨⟨σ, hpx, by rw [ht]; exact hP, hD⟩, hS.F ht⟩) hS.2.2 hk hn
/-- an exception that 'own' makes with a text -/
def TX (own : String) (ik ic : Nat) (cls : String) (names : List String) : Prop := (Bundle.fit cls = true ∧ (∀ n ∈ names, Bundle.fit n = true)) ∧ Cond.classLink own ik cls ∈ lw_g ∧ Cond.initialized cls ∈ lw_g ∧ (∀ w ∈ vx_atS own ic cls names, w ∈ lw_g) ∧ (∀ w ∈ Cond.classLink own ik cls :: Cond.initialized cls :: vx_atS own ic cls names, vx_ot w = true) ∧ Nat.ble names.length 8 = true
theorem j_throw {ik is ic : Nat} {cls text : String} {names : List String} (C : Cx κ cc nL RX6 nm lev) {ret : Option FieldType} (En9 : En κ ret mc ms Post Exc) (hN : NoH κ) (X : TX RX6 ik ic cls names) (htx : (is, text) ∈ txts) (d0 : decode cc pc = .ok (.new ik, 3)) (d3 : decode cc (pc + 3) = .ok (.dup, 1)) (d4 : decode cc (pc + 4) = .ok (.ldc is, 2)) (d6 : decode cc (pc + 6) = .ok (.invokespecial ic, 3)) (d9 : decode cc (pc + 9) = .ok (.athrow, 1)) (hr : Nat.ble (st.map fun v => v.category).sum 8 = true) (hk : k + 1 ≤ mc) (hn : n + 6 ≤ ms) (hpx : Exc cls σ) : J κ σ lv pc st k n := by
  obtain ⟨⟨hx, hb, hmx, hkn⟩, ⟨hown, -, hlk, hfl⟩, hG, hK, hGo, hA, hf1, hf2⟩ := C
  obtain ⟨σ0, eA, eQ, -, hRc, hRs⟩ := En9
  obtain ⟨⟨x1, x2⟩, x3, x4, x5, x6, x7⟩ := X
  have x7 := Nat.le_of_ble_eq_true x7
  have hr := Nat.le_of_ble_eq_true hr
  obtain ⟨⟨hU, hN9⟩, -, -, ht, -⟩ := hGo
  obtain ⟨sa, hsa⟩ := ht _ htx
  intro H locs ls hl hP hD hS
  rw [eA] at hD hS hU hN9
  show W (kP κ) (kL κ) (kE κ) (kR κ) (kS κ) (kM κ) (kG κ) (kB κ) (kH κ) (kC κ) H locs k n (kQ κ) _
  rw [eQ]
  refine vx_throwS hx hb hfl hown x1 x2 (hG _ x3) (hG _ x4) hsa (fun w hw => hG _ (x5 w hw)) x6 hU hN9 hS (by rw [hmx, ← hkn]; exact hl.1) d0 d3 d4 d6 d9 (fun x hx => (hN x hx).elim) (by omega) (by omega) (by omega) (by omega) hlk (fun t hvm hz hq => ⟨⟨σ, hpx, hP.kept (fun i q hi => hq q.1 (hP i q hi).lt), hD⟩, Nat.le_trans hS.1 hz, fun q h1 h2 => (hq q (Nat.lt_of_lt_of_le h1 hS.1)).trans (hS.2.1 q h1 h2)⟩) hS.2.2 hk hn
theorem j_throwW {ik is ic : Nat} {cls text : String} {names : List String} (C : Cx κ cc nL RX6 nm lev) {ret : Option FieldType} (En9 : En κ ret mc ms Post Exc) (hN : NoH κ) (X : TX RX6 ik ic cls names) (htx : (is, text) ∈ txts) (d0 : decode cc pc = .ok (.new ik, 3)) (d3 : decode cc (pc + 3) = .ok (.dup, 1)) (d4 : decode cc (pc + 4) = .ok (.ldc_w is, 3)) (d6 : decode cc (pc + 7) = .ok (.invokespecial ic, 3)) (d9 : decode cc (pc + 10) = .ok (.athrow, 1)) (hr : Nat.ble (st.map fun v => v.category).sum 8 = true) (hk : k + 1 ≤ mc) (hn : n + 6 ≤ ms) (hpx : Exc cls σ) : J κ σ lv pc st k n := by
  obtain ⟨⟨hx, hb, hmx, hkn⟩, ⟨hown, -, hlk, hfl⟩, hG, hK, hGo, hA, hf1, hf2⟩ := C
  obtain ⟨σ0, eA, eQ, -, hRc, hRs⟩ := En9
  obtain ⟨⟨x1, x2⟩, x3, x4, x5, x6, x7⟩ := X
  have x7 := Nat.le_of_ble_eq_true x7
  have hr := Nat.le_of_ble_eq_true hr
  obtain ⟨⟨hU, hN9⟩, -, -, ht, -⟩ := hGo
  obtain ⟨sa, hsa⟩ := ht _ htx
  intro H locs ls hl hP hD hS
  rw [eA] at hD hS hU hN9
  show W (kP κ) (kL κ) (kE κ) (kR κ) (kS κ) (kM κ) (kG κ) (kB κ) (kH κ) (kC κ) H locs k n (kQ κ) _
  rw [eQ]
  refine vx_throwSW hx hb hfl hown x1 x2 (hG _ x3) (hG _ x4) hsa (fun w hw => hG _ (x5 w hw)) x6 hU hN9 hS (by rw [hmx, ← hkn]; exact hl.1) d0 d3 d4 d6 d9 (fun x hx => (hN x hx).elim) (by omega) (by omega) (by omega) (by omega) hlk (fun t hvm hz hq => ⟨⟨σ, hpx, hP.kept (fun i q hi => hq q.1 (hP i q hi).lt), hD⟩, Nat.le_trans hS.1 hz, fun q h1 h2 => (hq q (Nat.lt_of_lt_of_le h1 hS.1)).trans (hS.2.1 q h1 h2)⟩) hS.2.2 hk hn
end EndJ
