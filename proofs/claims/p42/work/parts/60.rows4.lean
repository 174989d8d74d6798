/-! ROWS over J: catching; the script; longs and bits whose number nobody asks for; the law's own texts -/
section Rows4J
variable {κ : Kx} {cc : ByteArray} {nL : Nat} {own nm : String} {lev : Nat} {σ : Wd} {lv lv' : List (Nat × Value)} {pc pc' tgt : Nat} {st : List Value} {k n : Nat}
theorem Cx.ncs (C : Cx κ cc nL own nm lev) : Ncs (kS κ) := C.go.2.2.2.2.2.2.2.1
theorem Cx.lits (C : Cx κ cc nL own nm lev) : Lits (kc κ) (kA κ) (kS κ) (kS κ).heap := C.go.2.2.2.2.2.2.2.2.1
theorem Cx.scr (C : Cx κ cc nL own nm lev) : Scr (kc κ 9) (kA κ) (kS κ) (kS κ).heap := C.go.2.2.2.2.2.2.2.2.2
/-- the table of handlers -/
def HT (κ : Kx) (hh : List (Nat × Nat × Nat × Nat)) : Prop := (kC κ).exceptionTable.toList.map (fun h => (h.startPc, h.endPc, h.handlerPc, h.catchType)) = hh
theorem cth_start {l : Launch} {y : MethodName} {cc : ByteArray} {maxL : Nat} {ret : Option FieldType} {hh : List (Nat × Nat × Nat × Nat)} {lev mc ms : Nat} {D : va_G} {cy : Nat → Nat} {av : List Value} {σ : Wd} {Post : Option Value → Wd → Prop} {Exc : String → Wd → Prop} (hy : plainName y.cls = true) (hfl : l.stackTraces = false) (hlen : Nat.ble (lg_sl av).length maxL = true)
    (body : ∀ κ : Kx, kL κ = l → kD κ = D → kc κ = cy → Cx κ cc maxL y.cls y.name lev → En κ ret mc ms Post Exc → HT κ hh → J κ σ (lv_args 0 av) 0 [] 0 0) : CtH l y cc maxL ret hh lev mc ms D cy av σ Post Exc := by
  intro sz
  refine vx_ofWH hy rfl ?_
  intro p e s m args below meth c s₁ B hml hpre
  obtain ⟨rfl, hsz, hG, hK, hGo, hP, hD⟩ := hpre
  subst hsz
  have htab : c.exceptionTable.toList.map (fun h => (h.startPc, h.endPc, h.handlerPc, h.catchType)) = hh := by
    obtain ⟨m9, meth9, c9, hn9, h1, h2, -, -, h5, -⟩ := Cond.codeWith_spec (atoms_spec (ws := [Cond.codeWith y cc maxL ret hh]) B.pre _ List.mem_cons_self)
    cases Option.some.inj (hn9.symm.trans B.named)
    cases Option.some.inj (h1.symm.trans B.method)
    cases Option.some.inj (h2.symm.trans (Stand.of_body B).code)
    exact h5
  have hlen' := Nat.le_of_ble_eq_true hlen
  have h := body (p, l, e, rmL lev mc ms, s, m, av.toArray, below, meth, c, vx_MQ below (PostQ D σ s.heap.size Post) (ExcQ D σ s.heap.size Exc) av.toArray s mc ms (AA σ s.heap.size), D, cy, AA σ s.heap.size, maxL) rfl rfl rfl
    ⟨⟨B.exec, B.bytes, hml, rfl⟩, ⟨findClass_of_methodNamed B.named, (name_of_methodNamed B.named B.method).1, B.notSynchronized, hfl⟩, lw_mv (State.WarmedH.refl s) hG, hK, hGo, fun q h => Or.inr h, ⟨Nat.le_refl _, Nat.le_refl _⟩⟩
    ⟨σ, rfl, rfl, B.returns, rfl, rfl⟩ htab s.heap [] _ (lv_entry av hlen') hP (AA.self hD) va_S.rf
  rw [lg_entry_eq]
  exact h
theorem j_catch {E name : String} {hh : List (Nat × Nat × Nat × Nat)} (pre : List (Nat × Nat × Nat × Nat)) (x : Nat × Nat × Nat × Nat) (suf : List (Nat × Nat × Nat × Nat)) (C : Cx κ cc nL own nm lev) (T : HT κ hh) (hs : hh = pre ++ x :: suf)
    (hpass : ∀ z ∈ pre, z.2.2.2 ≠ 0 ∧ ∃ nm9 : String, Cond.classLink own z.2.2.2 nm9 ∈ lw_g ∧ (E, nm9) ∈ ncl) (hx : x.1 ≤ pc ∧ pc < x.2.1) (h0 : x.2.2.2 ≠ 0) (hlk : Cond.classLink own x.2.2.2 name ∈ lw_g) (hca : Cond.castable E name ∈ lw_g)
    (kk : ∀ q : Nat, J κ σ lv x.2.2.1 [.ref q] k n) : JX κ σ lv pc E k n := by
  have hN := C.ncs
  obtain ⟨-, ⟨hown, -, -, -⟩, hG, -⟩ := C
  subst hs
  obtain ⟨tp, tr, htr, hp, hr⟩ := List.map_eq_append_iff.mp T
  obtain ⟨tx, ts, htx, hxe, -⟩ := List.map_eq_cons_iff.mp hr
  subst htx
  subst hxe
  intro H locs ls rest q ce hl hP hD hS hce hcv hcl
  refine vx_catch hown tp tx ts htr (fun z hz => ?_) ?_ h0 (hG _ hlk) (hG _ hca) hce hcv hcl (kk q H locs ls hl hP hD hS)
  · have hz9 := hpass _ (by rw [← hp]; exact List.mem_map.mpr ⟨z, hz, rfl⟩)
    obtain ⟨a1, nm9, a2, a3⟩ := hz9
    exact Or.inr ⟨a1, nm9, hG _ a2, hN _ a3⟩
  · unfold covers
    simp only [Bool.and_eq_true, decide_eq_true_eq]
    exact hx
theorem j_laldE {a m : Nat} {g : Nat → Int} {z : Int} (C : Cx κ cc nL own nm lev) (hd : decode cc pc = .ok (.laload, 1)) (hp : pc + 1 = pc') (hh : has σ a (lA (kc κ) m g)) (hz : 0 ≤ z ∧ z < (m : Int)) (hm : z < 2147483648) (kk : ∀ y : Int, J κ σ lv pc' (vl y :: st) k n) : J κ σ lv pc (vi z :: .ref a :: st) k n := by
  obtain ⟨⟨hx, hb, -, -⟩, ⟨hown, -, -, -⟩, hG, hK, -⟩ := C
  subst hp
  intro H locs ls hl hP hD hS
  obtain ⟨q, hq⟩ := hh.at
  exact va_lald hx hb hK hP q 5 hq rfl (z_in hz hm) hd (kk _ H locs ls hl hP hD hS)
theorem j_i2lE {a : Int} (C : Cx κ cc nL own nm lev) (hd : decode cc pc = .ok (.i2l, 1)) (hp : pc + 1 = pc') (kk : ∀ y : Int, J κ σ lv pc' (vl y :: st) k n) : J κ σ lv pc (vi a :: st) k n := by
  obtain ⟨⟨hx, hb, -, -⟩, -⟩ := C
  subst hp
  intro H locs ls hl hP hD hS
  have h := kk (Int32.ofInt a).toInt64.toInt H locs ls hl hP hD hS
  unfold vl at h
  rw [Int64.ofInt_toInt] at h
  exact lv_i2l hx hb hd rfl h
theorem j_iushrE {a b : Int} (C : Cx κ cc nL own nm lev) (hd : decode cc pc = .ok (.iushr, 1)) (hp : pc + 1 = pc') (kk : ∀ y : Int, J κ σ lv pc' (vi y :: st) k n) : J κ σ lv pc (vi b :: vi a :: st) k n := by
  obtain ⟨⟨hx, hb, -, -⟩, -⟩ := C
  subst hp
  intro H locs ls hl hP hD hS
  obtain ⟨z, -, hz⟩ := z_of (((Int32.ofInt a).toUInt32 >>> ((Int32.ofInt b).toUInt32 &&& Int32.toUInt32 31)).toInt32)
  exact lv_iushr hx hb hd hz (kk z H locs ls hl hP hD hS)
theorem j_ixorE {a b : Int} (C : Cx κ cc nL own nm lev) (hd : decode cc pc = .ok (.ixor, 1)) (hp : pc + 1 = pc') (kk : ∀ y : Int, J κ σ lv pc' (vi y :: st) k n) : J κ σ lv pc (vi b :: vi a :: st) k n := by
  obtain ⟨⟨hx, hb, -, -⟩, -⟩ := C
  subst hp
  intro H locs ls hl hP hD hS
  obtain ⟨z, -, hz⟩ := z_of (Int32.ofInt a ^^^ Int32.ofInt b)
  refine lv_ixor hx hb hd ?_
  rw [hz]
  exact kk z H locs ls hl hP hD hS
theorem i31 (x : Int32) : ∃ z : Int, 0 ≤ z ∧ z < 2147483648 ∧ x &&& Int32.ofInt 2147483647 = Int32.ofInt z := by
  refine ⟨((x.toBitVec &&& 2147483647#32).toNat : Int), Int.natCast_nonneg _, ?_, ?_⟩
  · have h1 : (x.toBitVec &&& 2147483647#32).toNat ≤ 2147483647 := by rw [BitVec.toNat_and]; exact Nat.and_le_right
    omega
  · have e : (Int32.ofInt 2147483647).toBitVec = 2147483647#32 := by decide
    apply Int32.toBitVec_inj.mp
    rw [Int32.toBitVec_and, e]
    show x.toBitVec &&& 2147483647#32 = BitVec.ofInt 32 _
    rw [BitVec.ofInt_natCast, BitVec.ofNat_toNat, BitVec.setWidth_eq]
theorem j_iandM {a : Int} (C : Cx κ cc nL own nm lev) (hd : decode cc pc = .ok (.iand, 1)) (hp : pc + 1 = pc') (kk : ∀ z : Int, 0 ≤ z ∧ z < 2147483648 → J κ σ lv pc' (vi z :: st) k n) : J κ σ lv pc (vi 2147483647 :: vi a :: st) k n := by
  obtain ⟨⟨hx, hb, -, -⟩, -⟩ := C
  subst hp
  intro H locs ls hl hP hD hS
  obtain ⟨z, h1, h2, hz⟩ := i31 (Int32.ofInt a)
  refine lv_iand hx hb hd ?_
  rw [hz]
  exact kk z ⟨h1, h2⟩ H locs ls hl hP hD hS
theorem j_iand1 {a b z : Int} (C : Cx κ cc nL own nm lev) (hd : decode cc pc = .ok (.iand, 1)) (hp : pc + 1 = pc') (ha : a = 1) (hb9 : b = 1) (kk : J κ σ lv pc' (vi 1 :: st) k n) : J κ σ lv pc (vi b :: vi a :: st) k n := by
  obtain ⟨⟨hx, hb, -, -⟩, -⟩ := C
  subst hp ha hb9
  intro H locs ls hl hP hD hS
  exact lv_iand hx hb hd (kk H locs ls hl hP hD hS)
theorem j_sldE {b L : Nat} {xs : Nat → Int32} {z : Int} (C : Cx κ cc nL own nm lev) (hX : va_X b L xs (kS κ) (kS κ).heap) (hbl : b < (kS κ).heap.size) (hbA : ¬ kA κ b) (hd : decode cc pc = .ok (.iaload, 1)) (hp : pc + 1 = pc') (hz : 0 ≤ z ∧ z < (L : Int)) (hm : z < 2147483648) (kk : ∀ y : Int, J κ σ lv pc' (vi y :: st) k n) : J κ σ lv pc (vi z :: .ref b :: st) k n := by
  obtain ⟨⟨hx, hb, -, -⟩, -⟩ := C
  subst hp
  intro H locs ls hl hP hD hS
  have h := kk (xs (Int32.ofInt z).toNatClampNeg).toInt H locs ls hl hP hD hS
  unfold vi at h
  rw [Int32.ofInt_toInt] at h
  exact va_sld hx hb hX hbl hbA hS (z_in hz hm) hd h
theorem j_slen {b L : Nat} {xs : Nat → Int32} (C : Cx κ cc nL own nm lev) (hX : va_X b L xs (kS κ) (kS κ).heap) (hbl : b < (kS κ).heap.size) (hbA : ¬ kA κ b) (hd : decode cc pc = .ok (.arraylength, 1)) (hp : pc + 1 = pc') (kk : J κ σ lv pc' (vi (L : Int) :: st) k n) : J κ σ lv pc (.ref b :: st) k n := by
  obtain ⟨⟨hx, hb, -, -⟩, -⟩ := C
  subst hp
  intro H locs ls hl hP hD hS
  refine va_slen hx hb hX hbl hbA hS hd ?_
  rw [← Int32.ofInt_eq_ofNat]
  exact kk H locs ls hl hP hD hS
theorem j_ldcT {q idx : Nat} {tx : String} (C : Cx κ cc nL own nm lev) (hd : decode cc pc = .ok (.ldc idx, 2)) (hp : pc + 2 = pc') (hR : vk_R own idx tx q (kS κ)) (kk : J κ σ lv pc' (.ref q :: st) k n) : J κ σ lv pc st k n := by
  obtain ⟨⟨hx, hb, -, -⟩, ⟨hown, -, -, -⟩, -⟩ := C
  subst hp
  intro H locs ls hl hP hD hS
  exact va_ldcS hx hb hown hR hd (kk H locs ls hl hP hD hS)
theorem j_ifnull {a : Nat} {off : Int} (C : Cx κ cc nL own nm lev) (hd : decode cc pc = .ok (.ifnull off, 3)) (hp : pc + 3 = pc') (kk : J κ σ lv pc' st k n) : J κ σ lv pc (.ref a :: st) k n := by
  obtain ⟨⟨hx, hb, -, -⟩, -⟩ := C
  subst hp
  intro H locs ls hl hP hD hS
  exact lv_ifnull hx hb hd (kk H locs ls hl hP hD hS)
theorem j_tget {Cn fn d : String} {q idx : Nat} {v : Value} (C : Cx κ cc nL own nm lev) (hd : decode cc pc = .ok (.getfield idx, 3)) (hp : pc + 3 = pc') (hE : va_OF Cn fn d v q (kA κ) (kS κ) (kS κ).heap) (hlk : Cond.fieldLink own idx Cn fn d ∈ lw_g) (kk : J κ σ lv pc' (v :: st) k n) : J κ σ lv pc (.ref q :: st) k n := by
  obtain ⟨⟨hx, hb, -, -⟩, ⟨hown, -, -, -⟩, hG, -⟩ := C
  subst hp
  intro H locs ls hl hP hD hS
  exact vk_getf hx hb hE hS hown (hG _ hlk) (fun _ h => h) hd (kk H locs ls hl hP hD hS)
theorem j_copyT {b0 a1 n0 n1 idx : Nat} {f : Nat → Int32} {g : Nat → Int} {sp dp nn : Int} (C : Cx κ cc nL own nm lev) (hd : decode cc pc = .ok (.invokestatic idx, 3)) (hp : pc + 3 = pc') (hlk : Cond.methodLink own idx arraycopyName ∈ lw_g) (hT : va_T .byte b0 n0 (fun j => .int (f j)) (kA κ) (kS κ) (kS κ).heap) (h1 : has σ a1 (bA (kc κ) n1 g)) (r : 0 ≤ sp ∧ 0 ≤ dp ∧ 0 ≤ nn) (rr : sp + nn ≤ (n0 : Int) ∧ dp + nn ≤ (n1 : Int)) (rm : n0 < 2147483648 ∧ n1 < 2147483648) (hfit : ∀ i : Nat, i < nn.toNat → fits .byte (.int (f (sp.toNat + i))) = true) (hr : (st.map fun v => v.category).sum ≤ 40) (kk : ∀ σ' : Wd, σ' = put σ a1 (bA (kc κ) n1 (va_cpy (fun i => (f i).toInt) g sp.toNat dp.toNat nn.toNat)) → J κ σ' lv pc' st k n) : J κ σ lv pc (vi nn :: vi dp :: .ref a1 :: vi sp :: .ref b0 :: st) k n := by
  obtain ⟨⟨hx, hb, hmx, hkn⟩, ⟨hown, -, -, -⟩, hG, hK, -, -, hf⟩ := C
  subst hp
  intro H locs ls hl hP hD hS
  obtain ⟨q1, hq1⟩ := h1.at
  have e9 : nativeFrameWords "java/lang/System" "arraycopy" 5 + 11 ≤ 100 := by decide
  have neg : ∀ z : Int, 0 ≤ z → z < 2147483648 → ¬ Int32.ofInt z < 0 := fun z z0 z1 q => by
    rw [← z_0, z_lt ⟨by omega, z1⟩ ⟨by omega, by omega⟩] at q
    omega
  refine vk_copyt hx hb (by rw [hmx, ← hkn]; exact hl.1.symm) hown (hG _ hlk) (hG _ ac_na) (hG _ ac_st) (hG _ ac_in) hK hP hD hS hT q1 0 hq1 rfl (neg sp r.1 (by omega)) (neg dp r.2.1 (by omega)) (neg nn r.2.2 (by omega)) (by rw [z_cl ⟨by omega, by omega⟩, z_cl ⟨by omega, by omega⟩]; omega) (by rw [z_cl ⟨by omega, by omega⟩, z_cl ⟨by omega, by omega⟩]; omega) ?_ (by omega) (by omega) hd ?_
  · intro i hi
    rw [z_cl ⟨by omega, by omega⟩] at hi ⊢
    exact hfit i hi
  · intro H1 locs1 hP1 hD1 hS1
    rw [z_cl ⟨by omega, by omega⟩, z_cl ⟨by omega, by omega⟩, z_cl ⟨by omega, by omega⟩] at hP1 hD1
    have e : (va_cpy f (fun i => Int32.ofInt (g i)) sp.toNat dp.toNat nn.toNat) = fun i => Int32.ofInt (va_cpy (fun i => (f i).toInt) g sp.toNat dp.toNat nn.toNat i) := by
      funext i
      unfold va_cpy
      split
      · exact (Int32.ofInt_toInt _).symm
      · rfl
    rw [e] at hP1 hD1
    exact kk _ rfl H1 locs1 ls hl (by rw [← h1.set hD hq1]; exact hP1) (by rw [← h1.set hD hq1]; exact hD1) hS1
end Rows4J
section CallT
variable {κ : Kx} {cc : ByteArray} {nL : Nat} {own nm : String} {lev : Nat} {σ : Wd} {lv : List (Nat × Value)} {pc pc' : Nat} {st st' : List Value} {k n : Nat}
variable {idx b maxL lev' mc ms nargs : Nat} {y : MethodName} {bytes : ByteArray} {ret : Option FieldType} {As : List Value} {Post : Option Value → Wd → Prop} {Exc : String → Wd → Prop}
theorem j_callT {ti : Nat} (C : Cx κ cc nL own nm lev) (hd : decode cc pc = .ok (.invokevirtual idx, 3)) (hp : pc + 3 = pc') (M : MV own idx "java/lang/String" y bytes maxL ret nargs) (hti : ti < 2) (hb8 : kc κ (10 + ti) = b) (hst : st = As.reverse ++ .ref b :: st') (hna : As.length = nargs) (ct : Ct (kL κ) y bytes maxL ret lev' mc ms (kD κ) (kc κ) (.ref b :: As) σ Post Exc) (hw : Nat.ble (st'.map fun v => v.category).sum 8 = true) (hlev : lev' + 1 ≤ lev) (hk : k + mc ≤ (kR κ).cells) (hn : n + ms ≤ (kR κ).slots)
    (kx : ∀ (E : String) (σ' : Wd), Exc E σ' → JX κ σ' lv pc E (k + mc) (n + ms)) (kk : ∀ (v : Option Value) (σ' : Wd), Post v σ' → J κ σ' lv pc' (v.toList ++ st') (k + mc) (n + ms)) : J κ σ lv pc st k n := by
  refine j_after C hp (a := (Value.ref b :: As).toArray) (fun H locs ls hl hP hD hS => ?_) kx kk
  have hpre := pre_now (av := .ref b :: As) C hP hD hS
  have hrcv : ∃ cell : Cell, H[b]? = some cell ∧ cell.vm.isStatics = false ∧ (kS κ).vm.findClass "java/lang/String" = some cell.cls := by rw [← hb8]; exact vk_recv (adK := fun i => kc κ (10 + i)) (i := ti) C.lits.1 hti hS
  obtain ⟨⟨hx, hb, hmx, hkn⟩, ⟨hown, -, -, -⟩, hG, hK, hGo, hA, hf1, hf2⟩ := C
  obtain ⟨m1, m2, m3, m4, m5, m6, m7, m8⟩ := M
  have m8 := Nat.le_of_ble_eq_true m8
  exact vx_runV (rm := rmL lev' mc ms) (Ts := lw_g) ⟨hx, hb, hmx, hown, hG⟩ (ct H.size)
    ⟨⟨rfl, rfl, by show 40 + 20 * lev' + 1 ≤ _; omega, by show 8 + (maxL + 11) + (1000 + 200 * lev') ≤ _; omega, mv_words (a' := #[]) (U := kS κ) hG m5, List.mem_singleton.mpr rfl, hG _ m5, hG _ m4, m6, mv_len m7, hG _ m1⟩, hG _ m2, hG _ m3⟩
    ⟨PreQ.blind, hrcv, hpre⟩ rfl hna (by rw [← hkn]; exact hl.1) hst (by show 2 * 0 + _ ≤ 8; rw [Nat.mul_zero, Nat.zero_add]; exact Nat.le_of_ble_eq_true hw) hd ⟨hk, hn⟩
end CallT
theorem hl_15 : Cond.classLink RL 15 "java/lang/IllegalArgumentException" ∈ lw_g := tm_1 (w := Cond.classLink RL 15 "java/lang/IllegalArgumentException") 36 rfl rfl
theorem hc_15 : Cond.castable "java/lang/IllegalArgumentException" "java/lang/IllegalArgumentException" ∈ lw_g := tm_1 (w := Cond.castable "java/lang/IllegalArgumentException" "java/lang/IllegalArgumentException") 47 rfl rfl
theorem hl_18 : Cond.classLink RL 18 "java/lang/IllegalStateException" ∈ lw_g := tm_1 (w := Cond.classLink RL 18 "java/lang/IllegalStateException") 37 rfl rfl
theorem hc_18 : Cond.castable "java/lang/IllegalStateException" "java/lang/IllegalStateException" ∈ lw_g := tm_1 (w := Cond.castable "java/lang/IllegalStateException" "java/lang/IllegalStateException") 124 rfl rfl
theorem hl_25 : Cond.classLink RL 25 "java/lang/IndexOutOfBoundsException" ∈ lw_g := tm_2 (w := Cond.classLink RL 25 "java/lang/IndexOutOfBoundsException") 11 rfl rfl
theorem hc_25 : Cond.castable "java/lang/IndexOutOfBoundsException" "java/lang/IndexOutOfBoundsException" ∈ lw_g := tm_2 (w := Cond.castable "java/lang/IndexOutOfBoundsException" "java/lang/IndexOutOfBoundsException") 44 rfl rfl
theorem hl_82 : Cond.classLink RL 82 "java/util/NoSuchElementException" ∈ lw_g := tm_5 (w := Cond.classLink RL 82 "java/util/NoSuchElementException") 158 rfl rfl
theorem hc_82 : Cond.castable "java/util/NoSuchElementException" "java/util/NoSuchElementException" ∈ lw_g := tm_5 (w := Cond.castable "java/util/NoSuchElementException" "java/util/NoSuchElementException") 211 rfl rfl
