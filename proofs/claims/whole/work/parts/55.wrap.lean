/-! the law's calls: methods that catch -/
def ncl : List (String × String) := [("java/lang/IllegalArgumentException", "java/lang/IndexOutOfBoundsException"), ("java/lang/IllegalStateException", "java/lang/IndexOutOfBoundsException"), ("java/lang/IllegalStateException", "java/lang/IllegalArgumentException"), ("java/util/NoSuchElementException", "java/lang/IndexOutOfBoundsException"), ("java/util/NoSuchElementException", "java/lang/IllegalArgumentException"), ("java/lang/IllegalStateException", "java/util/NoSuchElementException"), ("java/lang/ArithmeticException", "java/lang/IndexOutOfBoundsException"), ("java/lang/ArithmeticException", "java/lang/IllegalArgumentException")]
/-- what isn't of what kind -/
def Ncs (U : State) : Prop := ∀ p ∈ ncl, va_Nc p.1 p.2 U
theorem Ncs.moved {u U : State} (hvm : u.vm.Alike U.vm) (h : Ncs u) : Ncs U := fun p hp => (h p hp).moved hvm
def PreN (D : va_G) (cy : Nat → Nat) (σ : Wd) (sz : Nat) (av : List Value) : Array Value → State → Prop := fun v U => PreQ D cy σ sz av v U ∧ Ncs U
def CtN (l : Launch) (y : MethodName) (bytes : ByteArray) (maxL : Nat) (ret : Option FieldType) (hh : List (Nat × Nat × Nat × Nat)) (lev mc ms : Nat) (D : va_G) (cy : Nat → Nat) (av : List Value) (σ : Wd) (Post : Option Value → Wd → Prop) (Exc : String → Wd → Prop) : Prop :=
  ∀ sz : Nat, vx_Met l y [Cond.codeWith y bytes maxL ret hh] (rmL lev mc ms) (PreN D cy σ sz av) (PostQ D σ sz Post) (ExcQ D σ sz Exc) mc ms (AA σ sz)
theorem PreN.blind {D : va_G} {cy : Nat → Nat} {σ : Wd} {sz : Nat} {av : List Value} : FrameBlind (PreN D cy σ sz av) := by
  intro a U g mk h
  exact ⟨PreQ.blind a U g mk h.1, Ncs.moved (Vm.Alike.refl U.vm) h.2⟩
/-- the table of handlers -/
def HT (κ : Kx) (hh : List (Nat × Nat × Nat × Nat)) : Prop := (kC κ).exceptionTable.toList.map (fun h => (h.startPc, h.endPc, h.handlerPc, h.catchType)) = hh
theorem cth_start {l : Launch} {y : MethodName} {cc : ByteArray} {maxL : Nat} {ret : Option FieldType} {hh : List (Nat × Nat × Nat × Nat)} {lev mc ms : Nat} {D : va_G} {cy : Nat → Nat} {av : List Value} {σ : Wd} {Post : Option Value → Wd → Prop} {Exc : String → Wd → Prop} (hy : plainName y.cls = true) (hfl : l.stackTraces = false) (hlen : Nat.ble (lg_sl av).length maxL = true)
    (body : ∀ κ : Kx, kL κ = l → kD κ = D → kc κ = cy → Cx κ cc maxL y.cls y.name lev → En κ ret mc ms Post Exc → HT κ hh → Ncs (kS κ) → J κ σ (lv_args 0 av) 0 [] 0 0) : CtN l y cc maxL ret hh lev mc ms D cy av σ Post Exc := by
  intro sz
  refine vx_ofWH hy rfl ?_
  intro p e s m args below meth c s₁ B hml hpre
  obtain ⟨⟨rfl, hsz, hG, hK, hGo, hP, hD⟩, hN⟩ := hpre
  subst hsz
  have htab : c.exceptionTable.toList.map (fun h => (h.startPc, h.endPc, h.handlerPc, h.catchType)) = hh := by
    obtain ⟨m9, meth9, c9, hn9, h1, h2, -, -, h5, -⟩ := Cond.codeWith_spec (atoms_spec (ws := [Cond.codeWith y cc maxL ret hh]) B.pre _ List.mem_cons_self)
    cases Option.some.inj (hn9.symm.trans B.named)
    cases Option.some.inj (h1.symm.trans B.method)
    cases Option.some.inj (h2.symm.trans (Stand.of_body B).code)
    exact h5
  have hlen' := Nat.le_of_ble_eq_true hlen
  have h := body (p, l, e, rmL lev mc ms, s, m, av.toArray, below, meth, c, vx_MQ below (PostQ D σ s.heap.size Post) (ExcQ D σ s.heap.size Exc) av.toArray s mc ms (AA σ s.heap.size), D, cy, AA σ s.heap.size, maxL) rfl rfl rfl
    ⟨⟨B.exec, B.bytes, hml, rfl⟩, ⟨findClass_of_methodNamed B.named, (name_of_methodNamed B.named B.method).1, B.notSynchronized, hfl⟩, lw_mv (State.WarmedH.refl s) hG, hK, hGo, fun q h => Or.inr h, ⟨Nat.le_refl _, Nat.le_refl _⟩⟩
    ⟨σ, rfl, rfl, B.returns, rfl, rfl⟩ htab hN s.heap [] _ (lv_entry av hlen') hP (AA.self hD) va_S.rf
  rw [lg_entry_eq]
  exact h
theorem j_catch {κ : Kx} {cc : ByteArray} {nL : Nat} {own nm : String} {lev : Nat} {σ : Wd} {lv : List (Nat × Value)} {pc k n : Nat} {E name : String} {hh : List (Nat × Nat × Nat × Nat)} (pre : List (Nat × Nat × Nat × Nat)) (x : Nat × Nat × Nat × Nat) (suf : List (Nat × Nat × Nat × Nat)) (C : Cx κ cc nL own nm lev) (T : HT κ hh) (hN : Ncs (kS κ)) (hs : hh = pre ++ x :: suf)
    (hpass : ∀ z ∈ pre, z.2.2.2 ≠ 0 ∧ ∃ nm9 : String, Cond.classLink own z.2.2.2 nm9 ∈ lw_g ∧ (E, nm9) ∈ ncl) (hx : x.1 ≤ pc ∧ pc < x.2.1) (h0 : x.2.2.2 ≠ 0) (hlk : Cond.classLink own x.2.2.2 name ∈ lw_g) (hca : Cond.castable E name ∈ lw_g)
    (kk : ∀ q : Nat, J κ σ lv x.2.2.1 [.ref q] k n) : JX κ σ lv pc E k n := by
  obtain ⟨-, ⟨hown, -, -, -⟩, hG, -⟩ := C
  subst hs
  obtain ⟨tp, tr, htr, hp, hr⟩ := List.map_eq_append_iff.mp T
  obtain ⟨tx, ts, htx, hxe, -⟩ := List.map_eq_cons_iff.mp hr
  subst htx
  subst hxe
  intro H locs ls rest q ce hl hP hD hS hce hcv hcl
  refine vx_catch hown tp tx ts htr (fun z hz => ?_) ?_ h0 (hG _ hlk) (hG _ hca) hce hcv hcl (kk q H locs ls hl hP hD hS)
  · have hz9 := hpass _ (by rw [← hp]; exact List.mem_map.mpr ⟨z, hz, rfl⟩)
    obtain ⟨a1, nm9, a2, a3⟩ := hz9
    exact Or.inr ⟨a1, nm9, hG _ a2, hN _ a3⟩
  · unfold covers
    simp only [Bool.and_eq_true, decide_eq_true_eq]
    exact hx
/-- an int's own number -/
def w32 (a : Int) : Int := (Int32.ofInt a).toInt
theorem vi_w (a : Int) : vi a = vi (w32 a) := by unfold vi w32; rw [Int32.ofInt_toInt]
theorem w32_in (a : Int) : -2147483648 ≤ w32 a ∧ w32 a < 2147483648 := ⟨Int32.le_toInt _, Int32.toInt_lt _⟩
theorem RX.keepO {cy : Nat → Nat} {σ σ' : Wd} {tg ad : Nat → Nat} {bs : List Bn} {ru : Nat → Int × Int} {se : Int} {pf : Nat → Int} {hd : Hd} {ca : Int} {evs : List Evt} {ln : List Int} (h : RX cy σ tg ad bs ru se pf hd ca evs ln) {o : Nat} {x : va_E} (e : σ' = put σ o x) (ho : 1000 ≤ tg o) : RX cy σ' tg ad bs ru se pf hd ca evs ln := h.keep ((Keep.rf : Keep σ σ (fun y => y = o)).put e rfl) (fun y _ z => by rw [show y = o from z]; exact ho)
theorem RX.keep0 {cy : Nat → Nat} {σ σ' : Wd} {tg ad : Nat → Nat} {bs : List Bn} {ru : Nat → Int × Int} {se : Int} {pf : Nat → Int} {hd : Hd} {ca : Int} {evs : List Evt} {ln : List Int} (h : RX cy σ tg ad bs ru se pf hd ca evs ln) (hk : Keep σ σ' (fun _ => False)) : RX cy σ' tg ad bs ru se pf hd ca evs ln := h.keep hk (fun _ _ z => z.elim)
theorem RX.ok {cy : Nat → Nat} {σ : Wd} {tg ad : Nat → Nat} {bs : List Bn} {ru : Nat → Int × Int} {se : Int} {pf : Nat → Int} {hd : Hd} {ca : Int} {evs : List Evt} {ln : List Int} (h : RX cy σ tg ad bs ru se pf hd ca evs ln) : Ok bs ru se pf hd evs ln := h.2.2.2.2.2
theorem hl_13 : Cond.classLink RL 13 "java/lang/IllegalArgumentException" ∈ lw_g := (tm_2 (w := Cond.classLink RL 13 "java/lang/IllegalArgumentException") 172 rfl rfl)
theorem hc_13 : Cond.castable "java/lang/IllegalArgumentException" "java/lang/IllegalArgumentException" ∈ lw_g := (tm_2 (w := Cond.castable "java/lang/IllegalArgumentException" "java/lang/IllegalArgumentException") 183 rfl rfl)
theorem hl_15 : Cond.classLink RL 15 "java/lang/IllegalStateException" ∈ lw_g := (tm_2 (w := Cond.classLink RL 15 "java/lang/IllegalStateException") 173 rfl rfl)
theorem hc_15 : Cond.castable "java/lang/IllegalStateException" "java/lang/IllegalStateException" ∈ lw_g := (tm_2 (w := Cond.castable "java/lang/IllegalStateException" "java/lang/IllegalStateException") 199 rfl rfl)
theorem hl_21 : Cond.classLink RL 21 "java/lang/IndexOutOfBoundsException" ∈ lw_g := (tm_3 (w := Cond.classLink RL 21 "java/lang/IndexOutOfBoundsException") 79 rfl rfl)
theorem hc_21 : Cond.castable "java/lang/IndexOutOfBoundsException" "java/lang/IndexOutOfBoundsException" ∈ lw_g := (tm_2 (w := Cond.castable "java/lang/IndexOutOfBoundsException" "java/lang/IndexOutOfBoundsException") 61 rfl rfl)
theorem hl_81 : Cond.classLink RL 81 "java/lang/ArithmeticException" ∈ lw_g := (tm_4 (w := Cond.classLink RL 81 "java/lang/ArithmeticException") 95 rfl rfl)
theorem hc_81 : Cond.castable "java/lang/ArithmeticException" "java/lang/ArithmeticException" ∈ lw_g := (tm_4 (w := Cond.castable "java/lang/ArithmeticException" "java/lang/ArithmeticException") 107 rfl rfl)
theorem hl_90 : Cond.classLink RL 90 "java/util/NoSuchElementException" ∈ lw_g := (tm_4 (w := Cond.classLink RL 90 "java/util/NoSuchElementException") 127 rfl rfl)
theorem hc_90 : Cond.castable "java/util/NoSuchElementException" "java/util/NoSuchElementException" ∈ lw_g := (tm_4 (w := Cond.castable "java/util/NoSuchElementException" "java/util/NoSuchElementException") 181 rfl rfl)
set_option maxHeartbeats 8000000 in
set_option maxRecDepth 20000 in
theorem W_addBin (l : Launch) (hfl : l.stackTraces = false) (D : va_G) (cy : Nat → Nat) (σ : Wd) (tg ad : Nat → Nat) (bs : List Bn) (ru : Nat → Int × Int) (se : Int) (pf : Nat → Int) (hd : Hd) (ca : Int) (evs : List Evt) (ln : List Int) (hX0 : RX cy σ tg ad bs ru se pf hd ca evs ln) (o : Nat) (g0 : Nat → Int) (hout : has σ o (lA cy 1 g0)) (hot : 1000 ≤ tg o) (c : Int) (hc9 : (-2147483648 ≤ c ∧ c < 2147483648)) (m : Bool) : CtN l yL_addBin cL_addBin 5 (some .int) [(0, 10, 13, 13), (0, 10, 17, 15)] 8 250 7604 D cy [.ref (ad 0), vi (c), vi (b01 m), .ref o] σ (fun v σ' => v = some (vi (o_addBin bs ru se pf hd ca evs ln c m).1) ∧ (∃ tg' ad' : Nat → Nat, RXs cy σ' tg' ad' (o_addBin bs ru se pf hd ca evs ln c m).2.2 ∧ (∀ y, y ∈ σ.1 → tg' y = tg y) ∧ ad' 0 = ad 0) ∧ (∃ g' : Nat → Int, has σ' o (lA cy 1 g') ∧ ((o_addBin bs ru se pf hd ca evs ln c m).1 = 0 → g' 0 = w32 (o_addBin bs ru se pf hd ca evs ln c m).2.1)) ∧ Keep σ σ' (fun y => tg y < 1000 ∨ y = o) ∧ ∀ y, y ∈ σ.1 → y ∈ σ'.1) noX := by
  refine cth_start (by decide +kernel) hfl rfl (fun κ e1 e2 e3 C E HH HN => ?_)
  subst e1 e2 e3
  have C : Cx κ cL_addBin 5 RL "addBin" 8 := C
  obtain ⟨-, -, -, -, hc, hs⟩ := id E
  show J κ σ [(0, .ref (ad 0)), (1, vi (c)), (2, vi (b01 m)), (3, .ref o)] 0 [] 0 0
  have hXX := hX0
  obtain ⟨⟨x1, x2⟩, -, -, -, -, hO⟩ := hXX
  have h6 := hO.1
  have hlb := hO.2.2.1
  refine j_aload_n 3 C dL_addBin_0 rfl rfl rfl ?_
  refine j_iconst C dL_addBin_1 rfl ?_
  refine j_aload_n 0 C dL_addBin_2 rfl rfl rfl ?_
  refine j_iload_n 1 C dL_addBin_3 rfl rfl rfl ?_
  refine j_iload_n 2 C dL_addBin_4 rfl rfl rfl ?_
  rcases Classical.em (c < 1 ∨ 5000 < c) with hq | hq
  · have ho : o_addBin bs ru se pf hd ca evs ln c m = (1, 0, (bs, ru, se, pf, hd, ca, evs, ln)) := by unfold o_addBin; rw [if_pos (by omega)]
    refine j_callV (st' := [vi (0), .ref o]) (As := [vi (c), vi (b01 m)]) C dL_addBin_5 rfl m_L_7 x1 rfl rfl rfl (c_addBinB1 (kL κ) hfl (kD κ) (kc κ) σ tg ad bs ru se pf hd ca evs ln hX0 c hc9 m hq) rfl (by omega) (by omega) (by omega) (fun E9 τ2 hx => ?_) (fun _ _ hx => hx.elim)
    obtain ⟨rfl, hs9⟩ := hx
    replace hs9 := hs9.symm
    subst hs9
    refine j_catch [] (0, 10, 13, 13) [(0, 10, 17, 15)] C HH HN rfl (fun z hz => absurd hz List.not_mem_nil) ⟨by decide, by decide⟩ (by decide) hl_13 hc_13 (fun q9 => ?_)
    refine j_astore (lv' := [(0, .ref (ad 0)), (1, vi (c)), (2, vi (b01 m)), (3, .ref o), (4, .ref q9)]) [1, 2, 3, 4, 0] C dL_addBin_13 rfl rfl rfl ?_
    refine j_iconst C dL_addBin_15 rfl ?_
    exact j_iret C E dL_addBin_16 (by omega) (by omega) ⟨by rw [ho], ⟨tg, ad, by rw [ho]; exact hX0, fun _ _ => rfl, rfl⟩, ⟨g0, hout, fun h9 => by rw [ho] at h9; exact absurd (show (1 : Int) = 0 from h9) (by decide)⟩, Keep.rf, fun _ hy => hy⟩
  · rcases Classical.em ((bs.length : Int) = 6) with hq2 | hq2
    · have ho : o_addBin bs ru se pf hd ca evs ln c m = (2, 0, (bs, ru, se, pf, hd, ca, evs, ln)) := by unfold o_addBin; rw [if_neg (by omega), if_pos (by omega)]
      refine j_callV (st' := [vi (0), .ref o]) (As := [vi (c), vi (b01 m)]) C dL_addBin_5 rfl m_L_7 x1 rfl rfl rfl (c_addBinB2 (kL κ) hfl (kD κ) (kc κ) σ tg ad bs ru se pf hd ca evs ln hX0 c hc9 m ⟨by omega, by omega⟩ hq2) rfl (by omega) (by omega) (by omega) (fun E9 τ5 hx => ?_) (fun _ _ hx => hx.elim)
      obtain ⟨rfl, hs9⟩ := hx
      replace hs9 := hs9.symm
      subst hs9
      refine j_catch [(0, 10, 13, 13)] (0, 10, 17, 15) [] C HH HN rfl (List.forall_mem_cons.mpr ⟨⟨by decide, "java/lang/IllegalArgumentException", hl_13, by decide⟩, fun z hz => absurd hz List.not_mem_nil⟩) ⟨by decide, by decide⟩ (by decide) hl_15 hc_15 (fun q9 => ?_)
      refine j_astore (lv' := [(0, .ref (ad 0)), (1, vi (c)), (2, vi (b01 m)), (3, .ref o), (4, .ref q9)]) [1, 2, 3, 4, 0] C dL_addBin_17 rfl rfl rfl ?_
      refine j_iconst C dL_addBin_19 rfl ?_
      exact j_iret C E dL_addBin_20 (by omega) (by omega) ⟨by rw [ho], ⟨tg, ad, by rw [ho]; exact hX0, fun _ _ => rfl, rfl⟩, ⟨g0, hout, fun h9 => by rw [ho] at h9; exact absurd (show (2 : Int) = 0 from h9) (by decide)⟩, Keep.rf, fun _ hy => hy⟩
    · have ho : o_addBin bs ru se pf hd ca evs ln c m = (0, (bs.length : Int), (bs ++ [(c, m, [])], ru, se, pf, hd, ca, evs, ln)) := by unfold o_addBin; rw [if_neg (by omega), if_neg (by omega)]
      refine j_callV (st' := [vi (0), .ref o]) (As := [vi (c), vi (b01 m)]) C dL_addBin_5 rfl m_L_7 x1 rfl rfl rfl (c_addBin (kL κ) hfl (kD κ) (kc κ) σ tg ad bs ru se pf hd ca evs ln hX0 c hc9 m ⟨by omega, by omega⟩ (by omega)) rfl (by omega) (by omega) (by omega) (fun _ _ hx => hx.elim) (fun v8 τ7 hp9 => ?_)
      obtain ⟨rfl, tg1, ad1, hR1, hT1, ha1, hK1, hM1⟩ := hp9
      have ho1 := hK1 _ _ hout (fun z => by have z1 : tg o < 1000 := z; omega)
      show J κ τ7 [(0, .ref (ad 0)), (1, vi (c)), (2, vi (b01 m)), (3, .ref o)] 8 [vi ((bs.length : Int)), vi (0), .ref o] _ _
      rw [vi_w ((bs.length : Int))]
      refine j_i2l C dL_addBin_8 rfl (w32_in _) ?_
      refine j_last C dL_addBin_9 rfl ho1 ⟨by omega, by omega⟩ (by omega) (fun τ10 ee11 => ?_)
      have u12 : has τ10 o (lA (kc κ) 1 (ups g0 0 (w32 ((bs.length : Int))))) := ho1.self' ee11
      refine j_goto (tgt := 21) C dL_addBin_10 rfl ?_
      refine j_iconst C dL_addBin_21 rfl ?_
      exact j_iret C E dL_addBin_22 (by omega) (by omega) ⟨by rw [ho], ⟨tg1, ad1, by rw [ho]; exact hR1.keepO ee11 (by rw [hT1 o hout.1]; exact hot), hT1, ha1⟩, ⟨_, u12, fun _ => by rw [ho]; exact ups_u rfl⟩, (hK1.mono (fun _ z => Or.inl z) : Keep σ τ7 (fun y => tg y < 1000 ∨ y = o)).put ee11 (Or.inr rfl), fun y hy => by rw [dom_put ee11]; exact hM1 y hy⟩
set_option maxHeartbeats 8000000 in
set_option maxRecDepth 20000 in
theorem W_capacityOf (l : Launch) (hfl : l.stackTraces = false) (D : va_G) (cy : Nat → Nat) (σ : Wd) (tg ad : Nat → Nat) (bs : List Bn) (ru : Nat → Int × Int) (se : Int) (pf : Nat → Int) (hd : Hd) (ca : Int) (evs : List Evt) (ln : List Int) (hX0 : RX cy σ tg ad bs ru se pf hd ca evs ln) (o : Nat) (g0 : Nat → Int) (hout : has σ o (lA cy 1 g0)) (hot : 1000 ≤ tg o) (b : Int) (hb9 : (-2147483648 ≤ b ∧ b < 2147483648)) : CtN l yL_capacityOf cL_capacityOf 4 (some .int) [(0, 9, 12, 21)] 8 250 7604 D cy [.ref (ad 0), vi (b), .ref o] σ (fun v σ' => v = some (vi (o_capacityOf bs ru se pf hd ca evs ln b).1) ∧ (∃ tg' ad' : Nat → Nat, RXs cy σ' tg' ad' (o_capacityOf bs ru se pf hd ca evs ln b).2.2 ∧ (∀ y, y ∈ σ.1 → tg' y = tg y) ∧ ad' 0 = ad 0) ∧ (∃ g' : Nat → Int, has σ' o (lA cy 1 g') ∧ ((o_capacityOf bs ru se pf hd ca evs ln b).1 = 0 → g' 0 = w32 (o_capacityOf bs ru se pf hd ca evs ln b).2.1)) ∧ Keep σ σ' (fun y => tg y < 1000 ∨ y = o) ∧ ∀ y, y ∈ σ.1 → y ∈ σ'.1) noX := by
  refine cth_start (by decide +kernel) hfl rfl (fun κ e1 e2 e3 C E HH HN => ?_)
  subst e1 e2 e3
  have C : Cx κ cL_capacityOf 4 RL "capacityOf" 8 := C
  obtain ⟨-, -, -, -, hc, hs⟩ := id E
  show J κ σ [(0, .ref (ad 0)), (1, vi (b)), (2, .ref o)] 0 [] 0 0
  have hXX := hX0
  obtain ⟨⟨x1, x2⟩, -, -, -, -, hO⟩ := hXX
  have h6 := hO.1
  have hlb := hO.2.2.1
  refine j_aload_n 2 C dL_capacityOf_0 rfl rfl rfl ?_
  refine j_iconst C dL_capacityOf_1 rfl ?_
  refine j_aload_n 0 C dL_capacityOf_2 rfl rfl rfl ?_
  refine j_iload_n 1 C dL_capacityOf_3 rfl rfl rfl ?_
  rcases Classical.em (b < 0 ∨ (bs.length : Int) ≤ b) with hq | hq
  · have ho : o_capacityOf bs ru se pf hd ca evs ln b = (1, 0, (bs, ru, se, pf, hd, ca, evs, ln)) := by unfold o_capacityOf; rw [if_pos (by omega)]
    refine j_callV (st' := [vi (0), .ref o]) (As := [vi (b)]) C dL_capacityOf_4 rfl m_L_17 x1 rfl rfl rfl (c_capacityOfB (kL κ) hfl (kD κ) (kc κ) σ tg ad bs ru se pf hd ca evs ln hX0 b hb9 hq) rfl (by omega) (by omega) (by omega) (fun E9 τ2 hx => ?_) (fun _ _ hx => hx.elim)
    obtain ⟨rfl, hs9⟩ := hx
    replace hs9 := hs9.symm
    subst hs9
    refine j_catch [] (0, 9, 12, 21) [] C HH HN rfl (fun z hz => absurd hz List.not_mem_nil) ⟨by decide, by decide⟩ (by decide) hl_21 hc_21 (fun q9 => ?_)
    refine j_astore_n (lv' := [(0, .ref (ad 0)), (1, vi (b)), (2, .ref o), (3, .ref q9)]) [1, 2, 3, 0] C dL_capacityOf_12 rfl rfl rfl rfl ?_
    refine j_iconst C dL_capacityOf_13 rfl ?_
    exact j_iret C E dL_capacityOf_14 (by omega) (by omega) ⟨by rw [ho], ⟨tg, ad, by rw [ho]; exact hX0, fun _ _ => rfl, rfl⟩, ⟨g0, hout, fun h9 => by rw [ho] at h9; exact absurd (show (1 : Int) = 0 from h9) (by decide)⟩, Keep.rf, fun _ hy => hy⟩
  · obtain ⟨i, hi, rfl⟩ : ∃ i : Nat, i < bs.length ∧ b = (i : Int) := ⟨b.toNat, by omega, by omega⟩
    have ho : o_capacityOf bs ru se pf hd ca evs ln (i : Int) = (0, (gB bs (i : Int)).1, (bs, ru, se, pf, hd, ca, evs, ln)) := by unfold o_capacityOf; rw [if_neg (by omega)]
    refine j_callV (st' := [vi (0), .ref o]) (As := [vi ((i : Int))]) C dL_capacityOf_4 rfl m_L_17 x1 rfl rfl rfl (c_capacityOf (kL κ) hfl (kD κ) (kc κ) σ tg ad bs ru se pf hd ca evs ln hX0 i hi) rfl (by omega) (by omega) (by omega) (fun _ _ hx => hx.elim) (fun v5 τ4 hp6 => ?_)
    obtain ⟨rfl, hs9⟩ := hp6
    replace hs9 := hs9.symm
    subst hs9
    show J κ σ [(0, .ref (ad 0)), (1, vi ((i : Int))), (2, .ref o)] 7 [vi ((gB bs (i : Int)).1), vi (0), .ref o] _ _
    rw [vi_w ((gB bs (i : Int)).1)]
    refine j_i2l C dL_capacityOf_7 rfl (w32_in _) ?_
    refine j_last C dL_capacityOf_8 rfl hout ⟨by omega, by omega⟩ (by omega) (fun τ7 ee8 => ?_)
    have u9 : has τ7 o (lA (kc κ) 1 (ups g0 0 (w32 ((gB bs (i : Int)).1)))) := hout.self' ee8
    refine j_goto (tgt := 15) C dL_capacityOf_9 rfl ?_
    refine j_iconst C dL_capacityOf_15 rfl ?_
    exact j_iret C E dL_capacityOf_16 (by omega) (by omega) ⟨by rw [ho], ⟨tg, ad, by rw [ho]; exact hX0.keepO ee8 hot, (fun _ _ => rfl), rfl⟩, ⟨_, u9, fun _ => by rw [ho]; exact ups_u rfl⟩, (Keep.rf : Keep σ σ (fun y => tg y < 1000 ∨ y = o)).put ee8 (Or.inr rfl), fun y hy => by rw [dom_put ee8]; exact (fun _ hy => hy) y hy⟩
set_option maxHeartbeats 8000000 in
set_option maxRecDepth 20000 in
theorem W_bushelsIn (l : Launch) (hfl : l.stackTraces = false) (D : va_G) (cy : Nat → Nat) (σ : Wd) (tg ad : Nat → Nat) (bs : List Bn) (ru : Nat → Int × Int) (se : Int) (pf : Nat → Int) (hd : Hd) (ca : Int) (evs : List Evt) (ln : List Int) (hX0 : RX cy σ tg ad bs ru se pf hd ca evs ln) (o : Nat) (g0 : Nat → Int) (hout : has σ o (lA cy 1 g0)) (hot : 1000 ≤ tg o) (b : Int) (hb9 : (-2147483648 ≤ b ∧ b < 2147483648)) : CtN l yL_bushelsIn cL_bushelsIn 4 (some .int) [(0, 9, 12, 21)] 8 250 7604 D cy [.ref (ad 0), vi (b), .ref o] σ (fun v σ' => v = some (vi (o_bushelsIn bs ru se pf hd ca evs ln b).1) ∧ (∃ tg' ad' : Nat → Nat, RXs cy σ' tg' ad' (o_bushelsIn bs ru se pf hd ca evs ln b).2.2 ∧ (∀ y, y ∈ σ.1 → tg' y = tg y) ∧ ad' 0 = ad 0) ∧ (∃ g' : Nat → Int, has σ' o (lA cy 1 g') ∧ ((o_bushelsIn bs ru se pf hd ca evs ln b).1 = 0 → g' 0 = w32 (o_bushelsIn bs ru se pf hd ca evs ln b).2.1)) ∧ Keep σ σ' (fun y => tg y < 1000 ∨ y = o) ∧ ∀ y, y ∈ σ.1 → y ∈ σ'.1) noX := by
  refine cth_start (by decide +kernel) hfl rfl (fun κ e1 e2 e3 C E HH HN => ?_)
  subst e1 e2 e3
  have C : Cx κ cL_bushelsIn 4 RL "bushelsIn" 8 := C
  obtain ⟨-, -, -, -, hc, hs⟩ := id E
  show J κ σ [(0, .ref (ad 0)), (1, vi (b)), (2, .ref o)] 0 [] 0 0
  have hXX := hX0
  obtain ⟨⟨x1, x2⟩, -, -, -, -, hO⟩ := hXX
  have h6 := hO.1
  have hlb := hO.2.2.1
  refine j_aload_n 2 C dL_bushelsIn_0 rfl rfl rfl ?_
  refine j_iconst C dL_bushelsIn_1 rfl ?_
  refine j_aload_n 0 C dL_bushelsIn_2 rfl rfl rfl ?_
  refine j_iload_n 1 C dL_bushelsIn_3 rfl rfl rfl ?_
  rcases Classical.em (b < 0 ∨ (bs.length : Int) ≤ b) with hq | hq
  · have ho : o_bushelsIn bs ru se pf hd ca evs ln b = (1, 0, (bs, ru, se, pf, hd, ca, evs, ln)) := by unfold o_bushelsIn; rw [if_pos (by omega)]
    refine j_callV (st' := [vi (0), .ref o]) (As := [vi (b)]) C dL_bushelsIn_4 rfl m_L_56 x1 rfl rfl rfl (c_bushelsInB (kL κ) hfl (kD κ) (kc κ) σ tg ad bs ru se pf hd ca evs ln hX0 b hb9 hq) rfl (by omega) (by omega) (by omega) (fun E9 τ2 hx => ?_) (fun _ _ hx => hx.elim)
    obtain ⟨rfl, hs9⟩ := hx
    replace hs9 := hs9.symm
    subst hs9
    refine j_catch [] (0, 9, 12, 21) [] C HH HN rfl (fun z hz => absurd hz List.not_mem_nil) ⟨by decide, by decide⟩ (by decide) hl_21 hc_21 (fun q9 => ?_)
    refine j_astore_n (lv' := [(0, .ref (ad 0)), (1, vi (b)), (2, .ref o), (3, .ref q9)]) [1, 2, 3, 0] C dL_bushelsIn_12 rfl rfl rfl rfl ?_
    refine j_iconst C dL_bushelsIn_13 rfl ?_
    exact j_iret C E dL_bushelsIn_14 (by omega) (by omega) ⟨by rw [ho], ⟨tg, ad, by rw [ho]; exact hX0, fun _ _ => rfl, rfl⟩, ⟨g0, hout, fun h9 => by rw [ho] at h9; exact absurd (show (1 : Int) = 0 from h9) (by decide)⟩, Keep.rf, fun _ hy => hy⟩
  · obtain ⟨i, hi, rfl⟩ : ∃ i : Nat, i < bs.length ∧ b = (i : Int) := ⟨b.toNat, by omega, by omega⟩
    have ho : o_bushelsIn bs ru se pf hd ca evs ln (i : Int) = (0, tot (gB bs (i : Int)).2.2, (bs, ru, se, pf, hd, ca, evs, ln)) := by unfold o_bushelsIn; rw [if_neg (by omega)]
    refine j_callV (st' := [vi (0), .ref o]) (As := [vi ((i : Int))]) C dL_bushelsIn_4 rfl m_L_56 x1 rfl rfl rfl (c_bushelsIn (kL κ) hfl (kD κ) (kc κ) σ tg ad bs ru se pf hd ca evs ln hX0 i hi) rfl (by omega) (by omega) (by omega) (fun _ _ hx => hx.elim) (fun v5 τ4 hp6 => ?_)
    obtain ⟨rfl, hs9⟩ := hp6
    replace hs9 := hs9.symm
    subst hs9
    show J κ σ [(0, .ref (ad 0)), (1, vi ((i : Int))), (2, .ref o)] 7 [vi (tot (gB bs (i : Int)).2.2), vi (0), .ref o] _ _
    rw [vi_w (tot (gB bs (i : Int)).2.2)]
    refine j_i2l C dL_bushelsIn_7 rfl (w32_in _) ?_
    refine j_last C dL_bushelsIn_8 rfl hout ⟨by omega, by omega⟩ (by omega) (fun τ7 ee8 => ?_)
    have u9 : has τ7 o (lA (kc κ) 1 (ups g0 0 (w32 (tot (gB bs (i : Int)).2.2)))) := hout.self' ee8
    refine j_goto (tgt := 15) C dL_bushelsIn_9 rfl ?_
    refine j_iconst C dL_bushelsIn_15 rfl ?_
    exact j_iret C E dL_bushelsIn_16 (by omega) (by omega) ⟨by rw [ho], ⟨tg, ad, by rw [ho]; exact hX0.keepO ee8 hot, (fun _ _ => rfl), rfl⟩, ⟨_, u9, fun _ => by rw [ho]; exact ups_u rfl⟩, (Keep.rf : Keep σ σ (fun y => tg y < 1000 ∨ y = o)).put ee8 (Or.inr rfl), fun y hy => by rw [dom_put ee8]; exact (fun _ hy => hy) y hy⟩
set_option maxHeartbeats 8000000 in
set_option maxRecDepth 20000 in
theorem W_layersIn (l : Launch) (hfl : l.stackTraces = false) (D : va_G) (cy : Nat → Nat) (σ : Wd) (tg ad : Nat → Nat) (bs : List Bn) (ru : Nat → Int × Int) (se : Int) (pf : Nat → Int) (hd : Hd) (ca : Int) (evs : List Evt) (ln : List Int) (hX0 : RX cy σ tg ad bs ru se pf hd ca evs ln) (o : Nat) (g0 : Nat → Int) (hout : has σ o (lA cy 1 g0)) (hot : 1000 ≤ tg o) (b : Int) (hb9 : (-2147483648 ≤ b ∧ b < 2147483648)) : CtN l yL_layersIn cL_layersIn 4 (some .int) [(0, 9, 12, 21)] 8 250 7604 D cy [.ref (ad 0), vi (b), .ref o] σ (fun v σ' => v = some (vi (o_layersIn bs ru se pf hd ca evs ln b).1) ∧ (∃ tg' ad' : Nat → Nat, RXs cy σ' tg' ad' (o_layersIn bs ru se pf hd ca evs ln b).2.2 ∧ (∀ y, y ∈ σ.1 → tg' y = tg y) ∧ ad' 0 = ad 0) ∧ (∃ g' : Nat → Int, has σ' o (lA cy 1 g') ∧ ((o_layersIn bs ru se pf hd ca evs ln b).1 = 0 → g' 0 = w32 (o_layersIn bs ru se pf hd ca evs ln b).2.1)) ∧ Keep σ σ' (fun y => tg y < 1000 ∨ y = o) ∧ ∀ y, y ∈ σ.1 → y ∈ σ'.1) noX := by
  refine cth_start (by decide +kernel) hfl rfl (fun κ e1 e2 e3 C E HH HN => ?_)
  subst e1 e2 e3
  have C : Cx κ cL_layersIn 4 RL "layersIn" 8 := C
  obtain ⟨-, -, -, -, hc, hs⟩ := id E
  show J κ σ [(0, .ref (ad 0)), (1, vi (b)), (2, .ref o)] 0 [] 0 0
  have hXX := hX0
  obtain ⟨⟨x1, x2⟩, -, -, -, -, hO⟩ := hXX
  have h6 := hO.1
  have hlb := hO.2.2.1
  refine j_aload_n 2 C dL_layersIn_0 rfl rfl rfl ?_
  refine j_iconst C dL_layersIn_1 rfl ?_
  refine j_aload_n 0 C dL_layersIn_2 rfl rfl rfl ?_
  refine j_iload_n 1 C dL_layersIn_3 rfl rfl rfl ?_
  rcases Classical.em (b < 0 ∨ (bs.length : Int) ≤ b) with hq | hq
  · have ho : o_layersIn bs ru se pf hd ca evs ln b = (1, 0, (bs, ru, se, pf, hd, ca, evs, ln)) := by unfold o_layersIn; rw [if_pos (by omega)]
    refine j_callV (st' := [vi (0), .ref o]) (As := [vi (b)]) C dL_layersIn_4 rfl m_L_59 x1 rfl rfl rfl (c_layersInB (kL κ) hfl (kD κ) (kc κ) σ tg ad bs ru se pf hd ca evs ln hX0 b hb9 hq) rfl (by omega) (by omega) (by omega) (fun E9 τ2 hx => ?_) (fun _ _ hx => hx.elim)
    obtain ⟨rfl, hs9⟩ := hx
    replace hs9 := hs9.symm
    subst hs9
    refine j_catch [] (0, 9, 12, 21) [] C HH HN rfl (fun z hz => absurd hz List.not_mem_nil) ⟨by decide, by decide⟩ (by decide) hl_21 hc_21 (fun q9 => ?_)
    refine j_astore_n (lv' := [(0, .ref (ad 0)), (1, vi (b)), (2, .ref o), (3, .ref q9)]) [1, 2, 3, 0] C dL_layersIn_12 rfl rfl rfl rfl ?_
    refine j_iconst C dL_layersIn_13 rfl ?_
    exact j_iret C E dL_layersIn_14 (by omega) (by omega) ⟨by rw [ho], ⟨tg, ad, by rw [ho]; exact hX0, fun _ _ => rfl, rfl⟩, ⟨g0, hout, fun h9 => by rw [ho] at h9; exact absurd (show (1 : Int) = 0 from h9) (by decide)⟩, Keep.rf, fun _ hy => hy⟩
  · obtain ⟨i, hi, rfl⟩ : ∃ i : Nat, i < bs.length ∧ b = (i : Int) := ⟨b.toNat, by omega, by omega⟩
    have ho : o_layersIn bs ru se pf hd ca evs ln (i : Int) = (0, ((gB bs (i : Int)).2.2.length : Int), (bs, ru, se, pf, hd, ca, evs, ln)) := by unfold o_layersIn; rw [if_neg (by omega)]
    refine j_callV (st' := [vi (0), .ref o]) (As := [vi ((i : Int))]) C dL_layersIn_4 rfl m_L_59 x1 rfl rfl rfl (c_layersIn (kL κ) hfl (kD κ) (kc κ) σ tg ad bs ru se pf hd ca evs ln hX0 i hi) rfl (by omega) (by omega) (by omega) (fun _ _ hx => hx.elim) (fun v5 τ4 hp6 => ?_)
    obtain ⟨rfl, hs9⟩ := hp6
    replace hs9 := hs9.symm
    subst hs9
    show J κ σ [(0, .ref (ad 0)), (1, vi ((i : Int))), (2, .ref o)] 7 [vi (((gB bs (i : Int)).2.2.length : Int)), vi (0), .ref o] _ _
    rw [vi_w (((gB bs (i : Int)).2.2.length : Int))]
    refine j_i2l C dL_layersIn_7 rfl (w32_in _) ?_
    refine j_last C dL_layersIn_8 rfl hout ⟨by omega, by omega⟩ (by omega) (fun τ7 ee8 => ?_)
    have u9 : has τ7 o (lA (kc κ) 1 (ups g0 0 (w32 (((gB bs (i : Int)).2.2.length : Int))))) := hout.self' ee8
    refine j_goto (tgt := 15) C dL_layersIn_9 rfl ?_
    refine j_iconst C dL_layersIn_15 rfl ?_
    exact j_iret C E dL_layersIn_16 (by omega) (by omega) ⟨by rw [ho], ⟨tg, ad, by rw [ho]; exact hX0.keepO ee8 hot, (fun _ _ => rfl), rfl⟩, ⟨_, u9, fun _ => by rw [ho]; exact ups_u rfl⟩, (Keep.rf : Keep σ σ (fun y => tg y < 1000 ∨ y = o)).put ee8 (Or.inr rfl), fun y hy => by rw [dom_put ee8]; exact (fun _ hy => hy) y hy⟩
set_option maxHeartbeats 8000000 in
set_option maxRecDepth 20000 in
theorem W_setRule (l : Launch) (hfl : l.stackTraces = false) (D : va_G) (cy : Nat → Nat) (σ : Wd) (tg ad : Nat → Nat) (bs : List Bn) (ru : Nat → Int × Int) (se : Int) (pf : Nat → Int) (hd : Hd) (ca : Int) (evs : List Evt) (ln : List Int) (hX0 : RX cy σ tg ad bs ru se pf hd ca evs ln) (o : Nat) (g0 : Nat → Int) (hout : has σ o (lA cy 1 g0)) (hot : 1000 ≤ tg o) (s : Int) (hs9 : (-2147483648 ≤ s ∧ s < 2147483648)) (g : Int) (hg9 : (-2147483648 ≤ g ∧ g < 2147483648)) (y : Int) (hy9 : (-2147483648 ≤ y ∧ y < 2147483648)) (z : Int) (hz9 : (-2147483648 ≤ z ∧ z < 2147483648)) : CtN l yL_setRule cL_setRule 7 (some .int) [(0, 14, 17, 13)] 8 250 7604 D cy [.ref (ad 0), vi (s), vi (g), vi (y), vi (z), .ref o] σ (fun v σ' => v = some (vi (o_setRule bs ru se pf hd ca evs ln s g y z).1) ∧ (∃ tg' ad' : Nat → Nat, RXs cy σ' tg' ad' (o_setRule bs ru se pf hd ca evs ln s g y z).2.2 ∧ (∀ y, y ∈ σ.1 → tg' y = tg y) ∧ ad' 0 = ad 0) ∧ (∃ g' : Nat → Int, has σ' o (lA cy 1 g') ∧ ((o_setRule bs ru se pf hd ca evs ln s g y z).1 = 0 → g' 0 = w32 (o_setRule bs ru se pf hd ca evs ln s g y z).2.1)) ∧ Keep σ σ' (fun y => tg y < 1000 ∨ y = o) ∧ ∀ y, y ∈ σ.1 → y ∈ σ'.1) noX := by
  refine cth_start (by decide +kernel) hfl rfl (fun κ e1 e2 e3 C E HH HN => ?_)
  subst e1 e2 e3
  have C : Cx κ cL_setRule 7 RL "setRule" 8 := C
  obtain ⟨-, -, -, -, hc, hs⟩ := id E
  show J κ σ [(0, .ref (ad 0)), (1, vi (s)), (2, vi (g)), (3, vi (y)), (4, vi (z)), (5, .ref o)] 0 [] 0 0
  have hXX := hX0
  obtain ⟨⟨x1, x2⟩, -, -, -, -, hO⟩ := hXX
  have h6 := hO.1
  have hlb := hO.2.2.1
  refine j_aload 5 C dL_setRule_0 rfl rfl ?_
  refine j_iconst C dL_setRule_2 rfl ?_
  refine j_aload_n 0 C dL_setRule_3 rfl rfl rfl ?_
  refine j_iload_n 1 C dL_setRule_4 rfl rfl rfl ?_
  refine j_iload_n 2 C dL_setRule_5 rfl rfl rfl ?_
  refine j_iload_n 3 C dL_setRule_6 rfl rfl rfl ?_
  refine j_iload 4 C dL_setRule_7 rfl rfl ?_
  rcases Classical.em (s < 0 ∨ 3 < s ∨ g < 1 ∨ 3 < g ∨ y < 80 ∨ 300 < y ∨ z < 0 ∨ 100 < z) with hq | hq
  · have ho : o_setRule bs ru se pf hd ca evs ln s g y z = (1, 0, (bs, ru, se, pf, hd, ca, evs, ln)) := by unfold o_setRule; rw [if_pos (by omega)]
    refine j_callV (st' := [vi (0), .ref o]) (As := [vi (s), vi (g), vi (y), vi (z)]) C dL_setRule_9 rfl m_L_23 x1 rfl rfl rfl (c_setRuleB (kL κ) hfl (kD κ) (kc κ) σ tg ad bs ru se pf hd ca evs ln hX0 s g y z hs9 hg9 hy9 hz9 (by omega)) rfl (by omega) (by omega) (by omega) (fun E9 τ2 hx => ?_) (fun _ _ hx => hx.elim)
    obtain ⟨rfl, hs9⟩ := hx
    replace hs9 := hs9.symm
    subst hs9
    refine j_catch [] (0, 14, 17, 13) [] C HH HN rfl (fun z hz => absurd hz List.not_mem_nil) ⟨by decide, by decide⟩ (by decide) hl_13 hc_13 (fun q9 => ?_)
    refine j_astore (lv' := [(0, .ref (ad 0)), (1, vi (s)), (2, vi (g)), (3, vi (y)), (4, vi (z)), (5, .ref o), (6, .ref q9)]) [1, 2, 3, 4, 5, 6, 0] C dL_setRule_17 rfl rfl rfl ?_
    refine j_iconst C dL_setRule_19 rfl ?_
    exact j_iret C E dL_setRule_20 (by omega) (by omega) ⟨by rw [ho], ⟨tg, ad, by rw [ho]; exact hX0, fun _ _ => rfl, rfl⟩, ⟨g0, hout, fun h9 => by rw [ho] at h9; exact absurd (show (1 : Int) = 0 from h9) (by decide)⟩, Keep.rf, fun _ hy => hy⟩
  · have ho : o_setRule bs ru se pf hd ca evs ln s g y z = (0, (rAt ru s g).1, (bs, ruU ru (s * 3 + g - 1).toNat y z, se, pf, hd, ca, evs, ln)) := by unfold o_setRule; rw [if_neg (by omega)]
    refine j_callV (st' := [vi (0), .ref o]) (As := [vi (s), vi (g), vi (y), vi (z)]) C dL_setRule_9 rfl m_L_23 x1 rfl rfl rfl (c_setRule (kL κ) hfl (kD κ) (kc κ) σ tg ad bs ru se pf hd ca evs ln hX0 s g y z hs9 hg9 hy9 hz9 ⟨by omega, by omega⟩ ⟨by omega, by omega⟩ ⟨⟨by omega, by omega⟩, ⟨by omega, by omega⟩⟩) rfl (by omega) (by omega) (by omega) (fun _ _ hx => hx.elim) (fun v5 τ4 hp6 => ?_)
    obtain ⟨rfl, hR1, hK1, hd1⟩ := hp6
    have ho1 := hK1 _ _ hout (fun z => by have z1 : tg o < 1000 := z; omega)
    have hmm1 : ∀ y, y ∈ σ.1 → y ∈ τ4.1 := fun y hy => by rw [hd1]; exact hy
    show J κ τ4 [(0, .ref (ad 0)), (1, vi (s)), (2, vi (g)), (3, vi (y)), (4, vi (z)), (5, .ref o)] 12 [vi ((rAt ru s g).1), vi (0), .ref o] _ _
    rw [vi_w ((rAt ru s g).1)]
    refine j_i2l C dL_setRule_12 rfl (w32_in _) ?_
    refine j_last C dL_setRule_13 rfl ho1 ⟨by omega, by omega⟩ (by omega) (fun τ7 ee8 => ?_)
    have u9 : has τ7 o (lA (kc κ) 1 (ups g0 0 (w32 ((rAt ru s g).1)))) := ho1.self' ee8
    refine j_goto (tgt := 21) C dL_setRule_14 rfl ?_
    refine j_iconst C dL_setRule_21 rfl ?_
    exact j_iret C E dL_setRule_22 (by omega) (by omega) ⟨by rw [ho], ⟨tg, ad, by rw [ho]; exact hR1.keepO ee8 hot, (fun _ _ => rfl), rfl⟩, ⟨_, u9, fun _ => by rw [ho]; exact ups_u rfl⟩, (hK1.mono (fun _ z => Or.inl z) : Keep σ τ4 (fun y => tg y < 1000 ∨ y = o)).put ee8 (Or.inr rfl), fun y hy => by rw [dom_put ee8]; exact hmm1 y hy⟩
set_option maxHeartbeats 8000000 in
set_option maxRecDepth 20000 in
theorem W_setSeason (l : Launch) (hfl : l.stackTraces = false) (D : va_G) (cy : Nat → Nat) (σ : Wd) (tg ad : Nat → Nat) (bs : List Bn) (ru : Nat → Int × Int) (se : Int) (pf : Nat → Int) (hd : Hd) (ca : Int) (evs : List Evt) (ln : List Int) (hX0 : RX cy σ tg ad bs ru se pf hd ca evs ln) (o : Nat) (g0 : Nat → Int) (hout : has σ o (lA cy 1 g0)) (hot : 1000 ≤ tg o) (z : Int) (hz9 : (-2147483648 ≤ z ∧ z < 2147483648)) : CtN l yL_setSeason cL_setSeason 4 (some .int) [(0, 9, 12, 13)] 8 250 7604 D cy [.ref (ad 0), vi (z), .ref o] σ (fun v σ' => v = some (vi (o_setSeason bs ru se pf hd ca evs ln z).1) ∧ (∃ tg' ad' : Nat → Nat, RXs cy σ' tg' ad' (o_setSeason bs ru se pf hd ca evs ln z).2.2 ∧ (∀ y, y ∈ σ.1 → tg' y = tg y) ∧ ad' 0 = ad 0) ∧ (∃ g' : Nat → Int, has σ' o (lA cy 1 g') ∧ ((o_setSeason bs ru se pf hd ca evs ln z).1 = 0 → g' 0 = w32 (o_setSeason bs ru se pf hd ca evs ln z).2.1)) ∧ Keep σ σ' (fun y => tg y < 1000 ∨ y = o) ∧ ∀ y, y ∈ σ.1 → y ∈ σ'.1) noX := by
  refine cth_start (by decide +kernel) hfl rfl (fun κ e1 e2 e3 C E HH HN => ?_)
  subst e1 e2 e3
  have C : Cx κ cL_setSeason 4 RL "setSeason" 8 := C
  obtain ⟨-, -, -, -, hc, hs⟩ := id E
  show J κ σ [(0, .ref (ad 0)), (1, vi (z)), (2, .ref o)] 0 [] 0 0
  have hXX := hX0
  obtain ⟨⟨x1, x2⟩, -, -, -, -, hO⟩ := hXX
  have h6 := hO.1
  have hlb := hO.2.2.1
  refine j_aload_n 2 C dL_setSeason_0 rfl rfl rfl ?_
  refine j_iconst C dL_setSeason_1 rfl ?_
  refine j_aload_n 0 C dL_setSeason_2 rfl rfl rfl ?_
  refine j_iload_n 1 C dL_setSeason_3 rfl rfl rfl ?_
  rcases Classical.em (z < 0 ∨ 3 < z) with hq | hq
  · have ho : o_setSeason bs ru se pf hd ca evs ln z = (1, 0, (bs, ru, se, pf, hd, ca, evs, ln)) := by unfold o_setSeason; rw [if_pos (by omega)]
    refine j_callV (st' := [vi (0), .ref o]) (As := [vi (z)]) C dL_setSeason_4 rfl m_L_27 x1 rfl rfl rfl (c_setSeasonB (kL κ) hfl (kD κ) (kc κ) σ tg ad bs ru se pf hd ca evs ln hX0 z hz9 hq) rfl (by omega) (by omega) (by omega) (fun E9 τ2 hx => ?_) (fun _ _ hx => hx.elim)
    obtain ⟨rfl, hs9⟩ := hx
    replace hs9 := hs9.symm
    subst hs9
    refine j_catch [] (0, 9, 12, 13) [] C HH HN rfl (fun z hz => absurd hz List.not_mem_nil) ⟨by decide, by decide⟩ (by decide) hl_13 hc_13 (fun q9 => ?_)
    refine j_astore_n (lv' := [(0, .ref (ad 0)), (1, vi (z)), (2, .ref o), (3, .ref q9)]) [1, 2, 3, 0] C dL_setSeason_12 rfl rfl rfl rfl ?_
    refine j_iconst C dL_setSeason_13 rfl ?_
    exact j_iret C E dL_setSeason_14 (by omega) (by omega) ⟨by rw [ho], ⟨tg, ad, by rw [ho]; exact hX0, fun _ _ => rfl, rfl⟩, ⟨g0, hout, fun h9 => by rw [ho] at h9; exact absurd (show (1 : Int) = 0 from h9) (by decide)⟩, Keep.rf, fun _ hy => hy⟩
  · have ho : o_setSeason bs ru se pf hd ca evs ln z = (0, se, (bs, ru, z, pf, hd, ca, evs, ln)) := by unfold o_setSeason; rw [if_neg (by omega)]
    refine j_callV (st' := [vi (0), .ref o]) (As := [vi (z)]) C dL_setSeason_4 rfl m_L_27 x1 rfl rfl rfl (c_setSeason (kL κ) hfl (kD κ) (kc κ) σ tg ad bs ru se pf hd ca evs ln hX0 z hz9 ⟨by omega, by omega⟩) rfl (by omega) (by omega) (by omega) (fun _ _ hx => hx.elim) (fun v5 τ4 hp6 => ?_)
    obtain ⟨rfl, hR1, hK1, hd1⟩ := hp6
    have ho1 := hK1 _ _ hout (fun z => by have z1 : tg o < 1000 := z; omega)
    have hmm1 : ∀ y, y ∈ σ.1 → y ∈ τ4.1 := fun y hy => by rw [hd1]; exact hy
    show J κ τ4 [(0, .ref (ad 0)), (1, vi (z)), (2, .ref o)] 7 [vi (se), vi (0), .ref o] _ _
    rw [vi_w (se)]
    refine j_i2l C dL_setSeason_7 rfl (w32_in _) ?_
    refine j_last C dL_setSeason_8 rfl ho1 ⟨by omega, by omega⟩ (by omega) (fun τ7 ee8 => ?_)
    have u9 : has τ7 o (lA (kc κ) 1 (ups g0 0 (w32 (se)))) := ho1.self' ee8
    refine j_goto (tgt := 15) C dL_setSeason_9 rfl ?_
    refine j_iconst C dL_setSeason_15 rfl ?_
    exact j_iret C E dL_setSeason_16 (by omega) (by omega) ⟨by rw [ho], ⟨tg, ad, by rw [ho]; exact hR1.keepO ee8 hot, (fun _ _ => rfl), rfl⟩, ⟨_, u9, fun _ => by rw [ho]; exact ups_u rfl⟩, (hK1.mono (fun _ z => Or.inl z) : Keep σ τ4 (fun y => tg y < 1000 ∨ y = o)).put ee8 (Or.inr rfl), fun y hy => by rw [dom_put ee8]; exact hmm1 y hy⟩
set_option maxHeartbeats 8000000 in
set_option maxRecDepth 20000 in
theorem W_gradeFor (l : Launch) (hfl : l.stackTraces = false) (D : va_G) (cy : Nat → Nat) (σ : Wd) (tg ad : Nat → Nat) (bs : List Bn) (ru : Nat → Int × Int) (se : Int) (pf : Nat → Int) (hd : Hd) (ca : Int) (evs : List Evt) (ln : List Int) (hX0 : RX cy σ tg ad bs ru se pf hd ca evs ln) (o : Nat) (g0 : Nat → Int) (hout : has σ o (lA cy 1 g0)) (hot : 1000 ≤ tg o) (y : Int) (hy9 : (-2147483648 ≤ y ∧ y < 2147483648)) (z : Int) (hz9 : (-2147483648 ≤ z ∧ z < 2147483648)) : CtN l yL_gradeFor cL_gradeFor 5 (some .int) [(0, 10, 13, 13)] 8 250 7604 D cy [.ref (ad 0), vi (y), vi (z), .ref o] σ (fun v σ' => v = some (vi (o_gradeFor bs ru se pf hd ca evs ln y z).1) ∧ (∃ tg' ad' : Nat → Nat, RXs cy σ' tg' ad' (o_gradeFor bs ru se pf hd ca evs ln y z).2.2 ∧ (∀ y, y ∈ σ.1 → tg' y = tg y) ∧ ad' 0 = ad 0) ∧ (∃ g' : Nat → Int, has σ' o (lA cy 1 g') ∧ ((o_gradeFor bs ru se pf hd ca evs ln y z).1 = 0 → g' 0 = w32 (o_gradeFor bs ru se pf hd ca evs ln y z).2.1)) ∧ Keep σ σ' (fun y => tg y < 1000 ∨ y = o) ∧ ∀ y, y ∈ σ.1 → y ∈ σ'.1) noX := by
  refine cth_start (by decide +kernel) hfl rfl (fun κ e1 e2 e3 C E HH HN => ?_)
  subst e1 e2 e3
  have C : Cx κ cL_gradeFor 5 RL "gradeFor" 8 := C
  obtain ⟨-, -, -, -, hc, hs⟩ := id E
  show J κ σ [(0, .ref (ad 0)), (1, vi (y)), (2, vi (z)), (3, .ref o)] 0 [] 0 0
  have hXX := hX0
  obtain ⟨⟨x1, x2⟩, -, -, -, -, hO⟩ := hXX
  have h6 := hO.1
  have hlb := hO.2.2.1
  refine j_aload_n 3 C dL_gradeFor_0 rfl rfl rfl ?_
  refine j_iconst C dL_gradeFor_1 rfl ?_
  refine j_aload_n 0 C dL_gradeFor_2 rfl rfl rfl ?_
  refine j_iload_n 1 C dL_gradeFor_3 rfl rfl rfl ?_
  refine j_iload_n 2 C dL_gradeFor_4 rfl rfl rfl ?_
  rcases Classical.em (y < 80 ∨ 300 < y ∨ z < 0 ∨ 100 < z) with hq | hq
  · have ho : o_gradeFor bs ru se pf hd ca evs ln y z = (1, 0, (bs, ru, se, pf, hd, ca, evs, ln)) := by unfold o_gradeFor; rw [if_pos (by omega)]
    refine j_callV (st' := [vi (0), .ref o]) (As := [vi (y), vi (z)]) C dL_gradeFor_5 rfl m_L_30 x1 rfl rfl rfl (c_gradeForB (kL κ) hfl (kD κ) (kc κ) σ tg ad bs ru se pf hd ca evs ln hX0 y z hy9 hz9 (by omega)) rfl (by omega) (by omega) (by omega) (fun E9 τ2 hx => ?_) (fun _ _ hx => hx.elim)
    obtain ⟨rfl, hs9⟩ := hx
    replace hs9 := hs9.symm
    subst hs9
    refine j_catch [] (0, 10, 13, 13) [] C HH HN rfl (fun z hz => absurd hz List.not_mem_nil) ⟨by decide, by decide⟩ (by decide) hl_13 hc_13 (fun q9 => ?_)
    refine j_astore (lv' := [(0, .ref (ad 0)), (1, vi (y)), (2, vi (z)), (3, .ref o), (4, .ref q9)]) [1, 2, 3, 4, 0] C dL_gradeFor_13 rfl rfl rfl ?_
    refine j_iconst C dL_gradeFor_15 rfl ?_
    exact j_iret C E dL_gradeFor_16 (by omega) (by omega) ⟨by rw [ho], ⟨tg, ad, by rw [ho]; exact hX0, fun _ _ => rfl, rfl⟩, ⟨g0, hout, fun h9 => by rw [ho] at h9; exact absurd (show (1 : Int) = 0 from h9) (by decide)⟩, Keep.rf, fun _ hy => hy⟩
  · have ho : o_gradeFor bs ru se pf hd ca evs ln y z = (0, gradeF ru se y z, (bs, ru, se, pf, hd, ca, evs, ln)) := by unfold o_gradeFor; rw [if_neg (by omega)]
    refine j_callV (st' := [vi (0), .ref o]) (As := [vi (y), vi (z)]) C dL_gradeFor_5 rfl m_L_30 x1 rfl rfl rfl (c_gradeFor (kL κ) hfl (kD κ) (kc κ) σ tg ad bs ru se pf hd ca evs ln hX0 y z hy9 hz9 ⟨⟨by omega, by omega⟩, ⟨by omega, by omega⟩⟩) rfl (by omega) (by omega) (by omega) (fun _ _ hx => hx.elim) (fun v5 τ4 hp6 => ?_)
    obtain ⟨rfl, hs9⟩ := hp6
    replace hs9 := hs9.symm
    subst hs9
    show J κ σ [(0, .ref (ad 0)), (1, vi (y)), (2, vi (z)), (3, .ref o)] 8 [vi (gradeF ru se y z), vi (0), .ref o] _ _
    rw [vi_w (gradeF ru se y z)]
    refine j_i2l C dL_gradeFor_8 rfl (w32_in _) ?_
    refine j_last C dL_gradeFor_9 rfl hout ⟨by omega, by omega⟩ (by omega) (fun τ7 ee8 => ?_)
    have u9 : has τ7 o (lA (kc κ) 1 (ups g0 0 (w32 (gradeF ru se y z)))) := hout.self' ee8
    refine j_goto (tgt := 17) C dL_gradeFor_10 rfl ?_
    refine j_iconst C dL_gradeFor_17 rfl ?_
    exact j_iret C E dL_gradeFor_18 (by omega) (by omega) ⟨by rw [ho], ⟨tg, ad, by rw [ho]; exact hX0.keepO ee8 hot, (fun _ _ => rfl), rfl⟩, ⟨_, u9, fun _ => by rw [ho]; exact ups_u rfl⟩, (Keep.rf : Keep σ σ (fun y => tg y < 1000 ∨ y = o)).put ee8 (Or.inr rfl), fun y hy => by rw [dom_put ee8]; exact (fun _ hy => hy) y hy⟩
set_option maxHeartbeats 8000000 in
set_option maxRecDepth 20000 in
theorem W_setPrice (l : Launch) (hfl : l.stackTraces = false) (D : va_G) (cy : Nat → Nat) (σ : Wd) (tg ad : Nat → Nat) (bs : List Bn) (ru : Nat → Int × Int) (se : Int) (pf : Nat → Int) (hd : Hd) (ca : Int) (evs : List Evt) (ln : List Int) (hX0 : RX cy σ tg ad bs ru se pf hd ca evs ln) (o : Nat) (g0 : Nat → Int) (hout : has σ o (lA cy 1 g0)) (hot : 1000 ≤ tg o) (z : Int) (hz9 : (-2147483648 ≤ z ∧ z < 2147483648)) (y : Int) (hy9 : (-2147483648 ≤ y ∧ y < 2147483648)) : CtN l yL_setPrice cL_setPrice 5 (some .int) [(0, 10, 13, 13)] 8 250 7604 D cy [.ref (ad 0), vi (z), vi (y), .ref o] σ (fun v σ' => v = some (vi (o_setPrice bs ru se pf hd ca evs ln z y).1) ∧ (∃ tg' ad' : Nat → Nat, RXs cy σ' tg' ad' (o_setPrice bs ru se pf hd ca evs ln z y).2.2 ∧ (∀ y, y ∈ σ.1 → tg' y = tg y) ∧ ad' 0 = ad 0) ∧ (∃ g' : Nat → Int, has σ' o (lA cy 1 g') ∧ ((o_setPrice bs ru se pf hd ca evs ln z y).1 = 0 → g' 0 = w32 (o_setPrice bs ru se pf hd ca evs ln z y).2.1)) ∧ Keep σ σ' (fun y => tg y < 1000 ∨ y = o) ∧ ∀ y, y ∈ σ.1 → y ∈ σ'.1) noX := by
  refine cth_start (by decide +kernel) hfl rfl (fun κ e1 e2 e3 C E HH HN => ?_)
  subst e1 e2 e3
  have C : Cx κ cL_setPrice 5 RL "setPrice" 8 := C
  obtain ⟨-, -, -, -, hc, hs⟩ := id E
  show J κ σ [(0, .ref (ad 0)), (1, vi (z)), (2, vi (y)), (3, .ref o)] 0 [] 0 0
  have hXX := hX0
  obtain ⟨⟨x1, x2⟩, -, -, -, -, hO⟩ := hXX
  have h6 := hO.1
  have hlb := hO.2.2.1
  refine j_aload_n 3 C dL_setPrice_0 rfl rfl rfl ?_
  refine j_iconst C dL_setPrice_1 rfl ?_
  refine j_aload_n 0 C dL_setPrice_2 rfl rfl rfl ?_
  refine j_iload_n 1 C dL_setPrice_3 rfl rfl rfl ?_
  refine j_iload_n 2 C dL_setPrice_4 rfl rfl rfl ?_
  rcases Classical.em (z < 1 ∨ 4 < z ∨ y < 0 ∨ 2000 < y) with hq | hq
  · have ho : o_setPrice bs ru se pf hd ca evs ln z y = (1, 0, (bs, ru, se, pf, hd, ca, evs, ln)) := by unfold o_setPrice; rw [if_pos (by omega)]
    refine j_callV (st' := [vi (0), .ref o]) (As := [vi (z), vi (y)]) C dL_setPrice_5 rfl m_L_34 x1 rfl rfl rfl (c_setPriceB (kL κ) hfl (kD κ) (kc κ) σ tg ad bs ru se pf hd ca evs ln hX0 z y hz9 hy9 (by omega)) rfl (by omega) (by omega) (by omega) (fun E9 τ2 hx => ?_) (fun _ _ hx => hx.elim)
    obtain ⟨rfl, hs9⟩ := hx
    replace hs9 := hs9.symm
    subst hs9
    refine j_catch [] (0, 10, 13, 13) [] C HH HN rfl (fun z hz => absurd hz List.not_mem_nil) ⟨by decide, by decide⟩ (by decide) hl_13 hc_13 (fun q9 => ?_)
    refine j_astore (lv' := [(0, .ref (ad 0)), (1, vi (z)), (2, vi (y)), (3, .ref o), (4, .ref q9)]) [1, 2, 3, 4, 0] C dL_setPrice_13 rfl rfl rfl ?_
    refine j_iconst C dL_setPrice_15 rfl ?_
    exact j_iret C E dL_setPrice_16 (by omega) (by omega) ⟨by rw [ho], ⟨tg, ad, by rw [ho]; exact hX0, fun _ _ => rfl, rfl⟩, ⟨g0, hout, fun h9 => by rw [ho] at h9; exact absurd (show (1 : Int) = 0 from h9) (by decide)⟩, Keep.rf, fun _ hy => hy⟩
  · have ho : o_setPrice bs ru se pf hd ca evs ln z y = (0, pf z.toNat, (bs, ru, se, ups pf z.toNat y, hd, ca, evs, ln)) := by unfold o_setPrice; rw [if_neg (by omega)]
    refine j_callV (st' := [vi (0), .ref o]) (As := [vi (z), vi (y)]) C dL_setPrice_5 rfl m_L_34 x1 rfl rfl rfl (c_setPrice (kL κ) hfl (kD κ) (kc κ) σ tg ad bs ru se pf hd ca evs ln hX0 z y hz9 hy9 ⟨by omega, by omega⟩ ⟨by omega, by omega⟩) rfl (by omega) (by omega) (by omega) (fun _ _ hx => hx.elim) (fun v5 τ4 hp6 => ?_)
    obtain ⟨rfl, hR1, hK1, hd1⟩ := hp6
    have ho1 := hK1 _ _ hout (fun z => by have z1 : tg o < 1000 := z; omega)
    have hmm1 : ∀ y, y ∈ σ.1 → y ∈ τ4.1 := fun y hy => by rw [hd1]; exact hy
    show J κ τ4 [(0, .ref (ad 0)), (1, vi (z)), (2, vi (y)), (3, .ref o)] 8 [vi (pf z.toNat), vi (0), .ref o] _ _
    rw [vi_w (pf z.toNat)]
    refine j_i2l C dL_setPrice_8 rfl (w32_in _) ?_
    refine j_last C dL_setPrice_9 rfl ho1 ⟨by omega, by omega⟩ (by omega) (fun τ7 ee8 => ?_)
    have u9 : has τ7 o (lA (kc κ) 1 (ups g0 0 (w32 (pf z.toNat)))) := ho1.self' ee8
    refine j_goto (tgt := 17) C dL_setPrice_10 rfl ?_
    refine j_iconst C dL_setPrice_17 rfl ?_
    exact j_iret C E dL_setPrice_18 (by omega) (by omega) ⟨by rw [ho], ⟨tg, ad, by rw [ho]; exact hR1.keepO ee8 hot, (fun _ _ => rfl), rfl⟩, ⟨_, u9, fun _ => by rw [ho]; exact ups_u rfl⟩, (hK1.mono (fun _ z => Or.inl z) : Keep σ τ4 (fun y => tg y < 1000 ∨ y = o)).put ee8 (Or.inr rfl), fun y hy => by rw [dom_put ee8]; exact hmm1 y hy⟩
set_option maxHeartbeats 8000000 in
set_option maxRecDepth 20000 in
theorem W_priceOf (l : Launch) (hfl : l.stackTraces = false) (D : va_G) (cy : Nat → Nat) (σ : Wd) (tg ad : Nat → Nat) (bs : List Bn) (ru : Nat → Int × Int) (se : Int) (pf : Nat → Int) (hd : Hd) (ca : Int) (evs : List Evt) (ln : List Int) (hX0 : RX cy σ tg ad bs ru se pf hd ca evs ln) (o : Nat) (g0 : Nat → Int) (hout : has σ o (lA cy 1 g0)) (hot : 1000 ≤ tg o) (z : Int) (hz9 : (-2147483648 ≤ z ∧ z < 2147483648)) : CtN l yL_priceOf cL_priceOf 4 (some .int) [(0, 9, 12, 13)] 8 250 7604 D cy [.ref (ad 0), vi (z), .ref o] σ (fun v σ' => v = some (vi (o_priceOf bs ru se pf hd ca evs ln z).1) ∧ (∃ tg' ad' : Nat → Nat, RXs cy σ' tg' ad' (o_priceOf bs ru se pf hd ca evs ln z).2.2 ∧ (∀ y, y ∈ σ.1 → tg' y = tg y) ∧ ad' 0 = ad 0) ∧ (∃ g' : Nat → Int, has σ' o (lA cy 1 g') ∧ ((o_priceOf bs ru se pf hd ca evs ln z).1 = 0 → g' 0 = w32 (o_priceOf bs ru se pf hd ca evs ln z).2.1)) ∧ Keep σ σ' (fun y => tg y < 1000 ∨ y = o) ∧ ∀ y, y ∈ σ.1 → y ∈ σ'.1) noX := by
  refine cth_start (by decide +kernel) hfl rfl (fun κ e1 e2 e3 C E HH HN => ?_)
  subst e1 e2 e3
  have C : Cx κ cL_priceOf 4 RL "priceOf" 8 := C
  obtain ⟨-, -, -, -, hc, hs⟩ := id E
  show J κ σ [(0, .ref (ad 0)), (1, vi (z)), (2, .ref o)] 0 [] 0 0
  have hXX := hX0
  obtain ⟨⟨x1, x2⟩, -, -, -, -, hO⟩ := hXX
  have h6 := hO.1
  have hlb := hO.2.2.1
  refine j_aload_n 2 C dL_priceOf_0 rfl rfl rfl ?_
  refine j_iconst C dL_priceOf_1 rfl ?_
  refine j_aload_n 0 C dL_priceOf_2 rfl rfl rfl ?_
  refine j_iload_n 1 C dL_priceOf_3 rfl rfl rfl ?_
  rcases Classical.em (z < 1 ∨ 4 < z) with hq | hq
  · have ho : o_priceOf bs ru se pf hd ca evs ln z = (1, 0, (bs, ru, se, pf, hd, ca, evs, ln)) := by unfold o_priceOf; rw [if_pos (by omega)]
    refine j_callV (st' := [vi (0), .ref o]) (As := [vi (z)]) C dL_priceOf_4 rfl m_L_37 x1 rfl rfl rfl (c_priceOfB (kL κ) hfl (kD κ) (kc κ) σ tg ad bs ru se pf hd ca evs ln hX0 z hz9 hq) rfl (by omega) (by omega) (by omega) (fun E9 τ2 hx => ?_) (fun _ _ hx => hx.elim)
    obtain ⟨rfl, hs9⟩ := hx
    replace hs9 := hs9.symm
    subst hs9
    refine j_catch [] (0, 9, 12, 13) [] C HH HN rfl (fun z hz => absurd hz List.not_mem_nil) ⟨by decide, by decide⟩ (by decide) hl_13 hc_13 (fun q9 => ?_)
    refine j_astore_n (lv' := [(0, .ref (ad 0)), (1, vi (z)), (2, .ref o), (3, .ref q9)]) [1, 2, 3, 0] C dL_priceOf_12 rfl rfl rfl rfl ?_
    refine j_iconst C dL_priceOf_13 rfl ?_
    exact j_iret C E dL_priceOf_14 (by omega) (by omega) ⟨by rw [ho], ⟨tg, ad, by rw [ho]; exact hX0, fun _ _ => rfl, rfl⟩, ⟨g0, hout, fun h9 => by rw [ho] at h9; exact absurd (show (1 : Int) = 0 from h9) (by decide)⟩, Keep.rf, fun _ hy => hy⟩
  · have ho : o_priceOf bs ru se pf hd ca evs ln z = (0, pf z.toNat, (bs, ru, se, pf, hd, ca, evs, ln)) := by unfold o_priceOf; rw [if_neg (by omega)]
    refine j_callV (st' := [vi (0), .ref o]) (As := [vi (z)]) C dL_priceOf_4 rfl m_L_37 x1 rfl rfl rfl (c_priceOf (kL κ) hfl (kD κ) (kc κ) σ tg ad bs ru se pf hd ca evs ln hX0 z hz9 ⟨by omega, by omega⟩) rfl (by omega) (by omega) (by omega) (fun _ _ hx => hx.elim) (fun v5 τ4 hp6 => ?_)
    obtain ⟨rfl, hs9⟩ := hp6
    replace hs9 := hs9.symm
    subst hs9
    show J κ σ [(0, .ref (ad 0)), (1, vi (z)), (2, .ref o)] 7 [vi (pf z.toNat), vi (0), .ref o] _ _
    rw [vi_w (pf z.toNat)]
    refine j_i2l C dL_priceOf_7 rfl (w32_in _) ?_
    refine j_last C dL_priceOf_8 rfl hout ⟨by omega, by omega⟩ (by omega) (fun τ7 ee8 => ?_)
    have u9 : has τ7 o (lA (kc κ) 1 (ups g0 0 (w32 (pf z.toNat)))) := hout.self' ee8
    refine j_goto (tgt := 15) C dL_priceOf_9 rfl ?_
    refine j_iconst C dL_priceOf_15 rfl ?_
    exact j_iret C E dL_priceOf_16 (by omega) (by omega) ⟨by rw [ho], ⟨tg, ad, by rw [ho]; exact hX0.keepO ee8 hot, (fun _ _ => rfl), rfl⟩, ⟨_, u9, fun _ => by rw [ho]; exact ups_u rfl⟩, (Keep.rf : Keep σ σ (fun y => tg y < 1000 ∨ y = o)).put ee8 (Or.inr rfl), fun y hy => by rw [dom_put ee8]; exact (fun _ hy => hy) y hy⟩
set_option maxHeartbeats 8000000 in
set_option maxRecDepth 20000 in
theorem W_load (l : Launch) (hfl : l.stackTraces = false) (D : va_G) (cy : Nat → Nat) (σ : Wd) (tg ad : Nat → Nat) (bs : List Bn) (ru : Nat → Int × Int) (se : Int) (pf : Nat → Int) (hd : Hd) (ca : Int) (evs : List Evt) (ln : List Int) (hX0 : RX cy σ tg ad bs ru se pf hd ca evs ln) (o : Nat) (g0 : Nat → Int) (hout : has σ o (lA cy 1 g0)) (hot : 1000 ≤ tg o) (b : Int) (hb9 : (-2147483648 ≤ b ∧ b < 2147483648)) (n : Int) (hn9 : (-2147483648 ≤ n ∧ n < 2147483648)) (x : Int) (hx9 : (-2147483648 ≤ x ∧ x < 2147483648)) (f : Int) (hf9 : (-2147483648 ≤ f ∧ f < 2147483648)) : CtN l yL_load cL_load 7 (some .int) [(0, 14, 17, 21), (0, 14, 21, 13), (0, 14, 25, 15)] 8 250 7604 D cy [.ref (ad 0), vi (b), vi (n), vi (x), vi (f), .ref o] σ (fun v σ' => v = some (vi (o_load bs ru se pf hd ca evs ln b n x f).1) ∧ (∃ tg' ad' : Nat → Nat, RXs cy σ' tg' ad' (o_load bs ru se pf hd ca evs ln b n x f).2.2 ∧ (∀ y, y ∈ σ.1 → tg' y = tg y) ∧ ad' 0 = ad 0) ∧ (∃ g' : Nat → Int, has σ' o (lA cy 1 g') ∧ ((o_load bs ru se pf hd ca evs ln b n x f).1 = 0 → g' 0 = w32 (o_load bs ru se pf hd ca evs ln b n x f).2.1)) ∧ Keep σ σ' (fun y => tg y < 1000 ∨ y = o) ∧ ∀ y, y ∈ σ.1 → y ∈ σ'.1) noX := by
  refine cth_start (by decide +kernel) hfl rfl (fun κ e1 e2 e3 C E HH HN => ?_)
  subst e1 e2 e3
  have C : Cx κ cL_load 7 RL "load" 8 := C
  obtain ⟨-, -, -, -, hc, hs⟩ := id E
  show J κ σ [(0, .ref (ad 0)), (1, vi (b)), (2, vi (n)), (3, vi (x)), (4, vi (f)), (5, .ref o)] 0 [] 0 0
  have hXX := hX0
  obtain ⟨⟨x1, x2⟩, -, -, -, -, hO⟩ := hXX
  have h6 := hO.1
  have hlb := hO.2.2.1
  refine j_aload 5 C dL_load_0 rfl rfl ?_
  refine j_iconst C dL_load_2 rfl ?_
  refine j_aload_n 0 C dL_load_3 rfl rfl rfl ?_
  refine j_iload_n 1 C dL_load_4 rfl rfl rfl ?_
  refine j_iload_n 2 C dL_load_5 rfl rfl rfl ?_
  refine j_iload_n 3 C dL_load_6 rfl rfl rfl ?_
  refine j_iload 4 C dL_load_7 rfl rfl ?_
  rcases Classical.em (b < 0 ∨ (bs.length : Int) ≤ b) with hq | hq
  · have ho : o_load bs ru se pf hd ca evs ln b n x f = (1, 0, (bs, ru, se, pf, hd, ca, evs, ln)) := by unfold o_load; rw [if_pos (by omega)]
    refine j_callV (st' := [vi (0), .ref o]) (As := [vi (b), vi (n), vi (x), vi (f)]) C dL_load_9 rfl m_L_40 x1 rfl rfl rfl (c_loadB0 (kL κ) hfl (kD κ) (kc κ) σ tg ad bs ru se pf hd ca evs ln hX0 b hb9 hq n x f hn9 hx9 hf9) rfl (by omega) (by omega) (by omega) (fun E9 τ2 hx => ?_) (fun _ _ hx => hx.elim)
    obtain ⟨rfl, hs9⟩ := hx
    replace hs9 := hs9.symm
    subst hs9
    refine j_catch [] (0, 14, 17, 21) [(0, 14, 21, 13), (0, 14, 25, 15)] C HH HN rfl (fun z hz => absurd hz List.not_mem_nil) ⟨by decide, by decide⟩ (by decide) hl_21 hc_21 (fun q9 => ?_)
    refine j_astore (lv' := [(0, .ref (ad 0)), (1, vi (b)), (2, vi (n)), (3, vi (x)), (4, vi (f)), (5, .ref o), (6, .ref q9)]) [1, 2, 3, 4, 5, 6, 0] C dL_load_17 rfl rfl rfl ?_
    refine j_iconst C dL_load_19 rfl ?_
    exact j_iret C E dL_load_20 (by omega) (by omega) ⟨by rw [ho], ⟨tg, ad, by rw [ho]; exact hX0, fun _ _ => rfl, rfl⟩, ⟨g0, hout, fun h9 => by rw [ho] at h9; exact absurd (show (1 : Int) = 0 from h9) (by decide)⟩, Keep.rf, fun _ hy => hy⟩
  · obtain ⟨i, hi, rfl⟩ : ∃ i : Nat, i < bs.length ∧ b = (i : Int) := ⟨b.toNat, by omega, by omega⟩
    rcases Classical.em (n < 1 ∨ 2000 < n ∨ x < 80 ∨ 300 < x ∨ f < 0 ∨ 100 < f) with hq2 | hq2
    · have ho : o_load bs ru se pf hd ca evs ln (i : Int) n x f = (2, 0, (bs, ru, se, pf, hd, ca, evs, ln)) := by unfold o_load; rw [if_neg (by omega), if_pos (by omega)]
      refine j_callV (st' := [vi (0), .ref o]) (As := [vi ((i : Int)), vi (n), vi (x), vi (f)]) C dL_load_9 rfl m_L_40 x1 rfl rfl rfl (c_loadB1 (kL κ) hfl (kD κ) (kc κ) σ tg ad bs ru se pf hd ca evs ln hX0 i hi n x f hn9 hx9 hf9 (by omega)) rfl (by omega) (by omega) (by omega) (fun E9 τ5 hx => ?_) (fun _ _ hx => hx.elim)
      obtain ⟨rfl, hs9⟩ := hx
      replace hs9 := hs9.symm
      subst hs9
      refine j_catch [(0, 14, 17, 21)] (0, 14, 21, 13) [(0, 14, 25, 15)] C HH HN rfl (List.forall_mem_cons.mpr ⟨⟨by decide, "java/lang/IndexOutOfBoundsException", hl_21, by decide⟩, fun z hz => absurd hz List.not_mem_nil⟩) ⟨by decide, by decide⟩ (by decide) hl_13 hc_13 (fun q9 => ?_)
      refine j_astore (lv' := [(0, .ref (ad 0)), (1, vi ((i : Int))), (2, vi (n)), (3, vi (x)), (4, vi (f)), (5, .ref o), (6, .ref q9)]) [1, 2, 3, 4, 5, 6, 0] C dL_load_21 rfl rfl rfl ?_
      refine j_iconst C dL_load_23 rfl ?_
      exact j_iret C E dL_load_24 (by omega) (by omega) ⟨by rw [ho], ⟨tg, ad, by rw [ho]; exact hX0, fun _ _ => rfl, rfl⟩, ⟨g0, hout, fun h9 => by rw [ho] at h9; exact absurd (show (2 : Int) = 0 from h9) (by decide)⟩, Keep.rf, fun _ hy => hy⟩
    · rcases Classical.em ((gB bs (i : Int)).1 - tot (gB bs (i : Int)).2.2 < n ∨ 80 ≤ evs.length) with hq3 | hq3
      · have ho : o_load bs ru se pf hd ca evs ln (i : Int) n x f = (3, 0, (bs, ru, se, pf, hd, ca, evs, ln)) := by unfold o_load; rw [if_neg (by omega), if_neg (by omega), if_pos (by omega)]
        refine j_callV (st' := [vi (0), .ref o]) (As := [vi ((i : Int)), vi (n), vi (x), vi (f)]) C dL_load_9 rfl m_L_40 x1 rfl rfl rfl (c_loadB2 (kL κ) hfl (kD κ) (kc κ) σ tg ad bs ru se pf hd ca evs ln hX0 i hi n x f hn9 hx9 hf9 ⟨⟨by omega, by omega⟩, ⟨by omega, by omega⟩, ⟨by omega, by omega⟩⟩ (by omega)) rfl (by omega) (by omega) (by omega) (fun E9 τ8 hx => ?_) (fun _ _ hx => hx.elim)
        obtain ⟨rfl, hs9⟩ := hx
        replace hs9 := hs9.symm
        subst hs9
        refine j_catch [(0, 14, 17, 21), (0, 14, 21, 13)] (0, 14, 25, 15) [] C HH HN rfl (List.forall_mem_cons.mpr ⟨⟨by decide, "java/lang/IndexOutOfBoundsException", hl_21, by decide⟩, List.forall_mem_cons.mpr ⟨⟨by decide, "java/lang/IllegalArgumentException", hl_13, by decide⟩, fun z hz => absurd hz List.not_mem_nil⟩⟩) ⟨by decide, by decide⟩ (by decide) hl_15 hc_15 (fun q9 => ?_)
        refine j_astore (lv' := [(0, .ref (ad 0)), (1, vi ((i : Int))), (2, vi (n)), (3, vi (x)), (4, vi (f)), (5, .ref o), (6, .ref q9)]) [1, 2, 3, 4, 5, 6, 0] C dL_load_25 rfl rfl rfl ?_
        refine j_iconst C dL_load_27 rfl ?_
        exact j_iret C E dL_load_28 (by omega) (by omega) ⟨by rw [ho], ⟨tg, ad, by rw [ho]; exact hX0, fun _ _ => rfl, rfl⟩, ⟨g0, hout, fun h9 => by rw [ho] at h9; exact absurd (show (3 : Int) = 0 from h9) (by decide)⟩, Keep.rf, fun _ hy => hy⟩
      · have ho : o_load bs ru se pf hd ca evs ln (i : Int) n x f = (0, gradeF ru se x f, evS bs ru se pf hd ca evs ln (108, (i : Int), (i : Int), n, 0, x, f) (-n * pf (gradeF ru se x f).toNat)) := by unfold o_load; rw [if_neg (by omega), if_neg (by omega), if_neg (by omega)]
        refine j_callV (st' := [vi (0), .ref o]) (As := [vi ((i : Int)), vi (n), vi (x), vi (f)]) C dL_load_9 rfl m_L_40 x1 rfl rfl rfl (c_load (kL κ) hfl (kD κ) (kc κ) σ tg ad bs ru se pf hd ca evs ln hX0 i hi n x f hn9 hx9 hf9 ⟨by omega, by omega⟩ ⟨by omega, by omega⟩ ⟨by omega, by omega⟩ (by omega) (by omega)) rfl (by omega) (by omega) (by omega) (fun _ _ hx => hx.elim) (fun v11 τ10 hp12 => ?_)
        obtain ⟨rfl, tg1, ad1, hR1, hT1, ha1, hK1, hM1⟩ := hp12
        have ho1 := hK1 _ _ hout (fun z => by have z1 : tg o < 1000 := z; omega)
        show J κ τ10 [(0, .ref (ad 0)), (1, vi ((i : Int))), (2, vi (n)), (3, vi (x)), (4, vi (f)), (5, .ref o)] 12 [vi (gradeF ru se x f), vi (0), .ref o] _ _
        rw [vi_w (gradeF ru se x f)]
        refine j_i2l C dL_load_12 rfl (w32_in _) ?_
        refine j_last C dL_load_13 rfl ho1 ⟨by omega, by omega⟩ (by omega) (fun τ13 ee14 => ?_)
        have u15 : has τ13 o (lA (kc κ) 1 (ups g0 0 (w32 (gradeF ru se x f)))) := ho1.self' ee14
        refine j_goto (tgt := 29) C dL_load_14 rfl ?_
        refine j_iconst C dL_load_29 rfl ?_
        exact j_iret C E dL_load_30 (by omega) (by omega) ⟨by rw [ho], ⟨tg1, ad1, by rw [ho]; exact hR1.keepO ee14 (by rw [hT1 o hout.1]; exact hot), hT1, ha1⟩, ⟨_, u15, fun _ => by rw [ho]; exact ups_u rfl⟩, (hK1.mono (fun _ z => Or.inl z) : Keep σ τ10 (fun y => tg y < 1000 ∨ y = o)).put ee14 (Or.inr rfl), fun y hy => by rw [dom_put ee14]; exact hM1 y hy⟩
set_option maxHeartbeats 8000000 in
set_option maxRecDepth 20000 in
theorem W_sell (l : Launch) (hfl : l.stackTraces = false) (D : va_G) (cy : Nat → Nat) (σ : Wd) (tg ad : Nat → Nat) (bs : List Bn) (ru : Nat → Int × Int) (se : Int) (pf : Nat → Int) (hd : Hd) (ca : Int) (evs : List Evt) (ln : List Int) (hX0 : RX cy σ tg ad bs ru se pf hd ca evs ln) (o : Nat) (g0 : Nat → Int) (hout : has σ o (lA cy 1 g0)) (hot : 1000 ≤ tg o) (b : Int) (hb9 : (-2147483648 ≤ b ∧ b < 2147483648)) (n : Int) (hn9 : (-2147483648 ≤ n ∧ n < 2147483648)) : CtN l yL_sell cL_sell 5 (some .int) [(0, 10, 13, 21), (0, 10, 17, 13), (0, 10, 21, 15)] 8 250 7604 D cy [.ref (ad 0), vi (b), vi (n), .ref o] σ (fun v σ' => v = some (vi (o_sell bs ru se pf hd ca evs ln b n).1) ∧ (∃ tg' ad' : Nat → Nat, RXs cy σ' tg' ad' (o_sell bs ru se pf hd ca evs ln b n).2.2 ∧ (∀ y, y ∈ σ.1 → tg' y = tg y) ∧ ad' 0 = ad 0) ∧ (∃ g' : Nat → Int, has σ' o (lA cy 1 g') ∧ ((o_sell bs ru se pf hd ca evs ln b n).1 = 0 → g' 0 = w32 (o_sell bs ru se pf hd ca evs ln b n).2.1)) ∧ Keep σ σ' (fun y => tg y < 1000 ∨ y = o) ∧ ∀ y, y ∈ σ.1 → y ∈ σ'.1) noX := by
  refine cth_start (by decide +kernel) hfl rfl (fun κ e1 e2 e3 C E HH HN => ?_)
  subst e1 e2 e3
  have C : Cx κ cL_sell 5 RL "sell" 8 := C
  obtain ⟨-, -, -, -, hc, hs⟩ := id E
  show J κ σ [(0, .ref (ad 0)), (1, vi (b)), (2, vi (n)), (3, .ref o)] 0 [] 0 0
  have hXX := hX0
  obtain ⟨⟨x1, x2⟩, -, -, -, -, hO⟩ := hXX
  have h6 := hO.1
  have hlb := hO.2.2.1
  refine j_aload_n 3 C dL_sell_0 rfl rfl rfl ?_
  refine j_iconst C dL_sell_1 rfl ?_
  refine j_aload_n 0 C dL_sell_2 rfl rfl rfl ?_
  refine j_iload_n 1 C dL_sell_3 rfl rfl rfl ?_
  refine j_iload_n 2 C dL_sell_4 rfl rfl rfl ?_
  rcases Classical.em (b < 0 ∨ (bs.length : Int) ≤ b) with hq | hq
  · have ho : o_sell bs ru se pf hd ca evs ln b n = (1, 0, (bs, ru, se, pf, hd, ca, evs, ln)) := by unfold o_sell; rw [if_pos (by omega)]
    refine j_callV (st' := [vi (0), .ref o]) (As := [vi (b), vi (n)]) C dL_sell_5 rfl m_L_43 x1 rfl rfl rfl (c_sellB0 (kL κ) hfl (kD κ) (kc κ) σ tg ad bs ru se pf hd ca evs ln hX0 b hb9 hq n hn9) rfl (by omega) (by omega) (by omega) (fun E9 τ2 hx => ?_) (fun _ _ hx => hx.elim)
    obtain ⟨rfl, hs9⟩ := hx
    replace hs9 := hs9.symm
    subst hs9
    refine j_catch [] (0, 10, 13, 21) [(0, 10, 17, 13), (0, 10, 21, 15)] C HH HN rfl (fun z hz => absurd hz List.not_mem_nil) ⟨by decide, by decide⟩ (by decide) hl_21 hc_21 (fun q9 => ?_)
    refine j_astore (lv' := [(0, .ref (ad 0)), (1, vi (b)), (2, vi (n)), (3, .ref o), (4, .ref q9)]) [1, 2, 3, 4, 0] C dL_sell_13 rfl rfl rfl ?_
    refine j_iconst C dL_sell_15 rfl ?_
    exact j_iret C E dL_sell_16 (by omega) (by omega) ⟨by rw [ho], ⟨tg, ad, by rw [ho]; exact hX0, fun _ _ => rfl, rfl⟩, ⟨g0, hout, fun h9 => by rw [ho] at h9; exact absurd (show (1 : Int) = 0 from h9) (by decide)⟩, Keep.rf, fun _ hy => hy⟩
  · obtain ⟨i, hi, rfl⟩ : ∃ i : Nat, i < bs.length ∧ b = (i : Int) := ⟨b.toNat, by omega, by omega⟩
    rcases Classical.em (n < 1 ∨ 5000 < n) with hq2 | hq2
    · have ho : o_sell bs ru se pf hd ca evs ln (i : Int) n = (2, 0, (bs, ru, se, pf, hd, ca, evs, ln)) := by unfold o_sell; rw [if_neg (by omega), if_pos (by omega)]
      refine j_callV (st' := [vi (0), .ref o]) (As := [vi ((i : Int)), vi (n)]) C dL_sell_5 rfl m_L_43 x1 rfl rfl rfl (c_sellB1 (kL κ) hfl (kD κ) (kc κ) σ tg ad bs ru se pf hd ca evs ln hX0 i hi n hn9 hq2) rfl (by omega) (by omega) (by omega) (fun E9 τ5 hx => ?_) (fun _ _ hx => hx.elim)
      obtain ⟨rfl, hs9⟩ := hx
      replace hs9 := hs9.symm
      subst hs9
      refine j_catch [(0, 10, 13, 21)] (0, 10, 17, 13) [(0, 10, 21, 15)] C HH HN rfl (List.forall_mem_cons.mpr ⟨⟨by decide, "java/lang/IndexOutOfBoundsException", hl_21, by decide⟩, fun z hz => absurd hz List.not_mem_nil⟩) ⟨by decide, by decide⟩ (by decide) hl_13 hc_13 (fun q9 => ?_)
      refine j_astore (lv' := [(0, .ref (ad 0)), (1, vi ((i : Int))), (2, vi (n)), (3, .ref o), (4, .ref q9)]) [1, 2, 3, 4, 0] C dL_sell_17 rfl rfl rfl ?_
      refine j_iconst C dL_sell_19 rfl ?_
      exact j_iret C E dL_sell_20 (by omega) (by omega) ⟨by rw [ho], ⟨tg, ad, by rw [ho]; exact hX0, fun _ _ => rfl, rfl⟩, ⟨g0, hout, fun h9 => by rw [ho] at h9; exact absurd (show (2 : Int) = 0 from h9) (by decide)⟩, Keep.rf, fun _ hy => hy⟩
    · rcases Classical.em (tot (gB bs (i : Int)).2.2 < n ∨ 80 ≤ evs.length) with hq3 | hq3
      · have ho : o_sell bs ru se pf hd ca evs ln (i : Int) n = (3, 0, (bs, ru, se, pf, hd, ca, evs, ln)) := by unfold o_sell; rw [if_neg (by omega), if_neg (by omega), if_pos (by omega)]
        refine j_callV (st' := [vi (0), .ref o]) (As := [vi ((i : Int)), vi (n)]) C dL_sell_5 rfl m_L_43 x1 rfl rfl rfl (c_sellB2 (kL κ) hfl (kD κ) (kc κ) σ tg ad bs ru se pf hd ca evs ln hX0 i hi n hn9 ⟨by omega, by omega⟩ (by omega)) rfl (by omega) (by omega) (by omega) (fun E9 τ8 hx => ?_) (fun _ _ hx => hx.elim)
        obtain ⟨rfl, hs9⟩ := hx
        replace hs9 := hs9.symm
        subst hs9
        refine j_catch [(0, 10, 13, 21), (0, 10, 17, 13)] (0, 10, 21, 15) [] C HH HN rfl (List.forall_mem_cons.mpr ⟨⟨by decide, "java/lang/IndexOutOfBoundsException", hl_21, by decide⟩, List.forall_mem_cons.mpr ⟨⟨by decide, "java/lang/IllegalArgumentException", hl_13, by decide⟩, fun z hz => absurd hz List.not_mem_nil⟩⟩) ⟨by decide, by decide⟩ (by decide) hl_15 hc_15 (fun q9 => ?_)
        refine j_astore (lv' := [(0, .ref (ad 0)), (1, vi ((i : Int))), (2, vi (n)), (3, .ref o), (4, .ref q9)]) [1, 2, 3, 4, 0] C dL_sell_21 rfl rfl rfl ?_
        refine j_iconst C dL_sell_23 rfl ?_
        exact j_iret C E dL_sell_24 (by omega) (by omega) ⟨by rw [ho], ⟨tg, ad, by rw [ho]; exact hX0, fun _ _ => rfl, rfl⟩, ⟨g0, hout, fun h9 => by rw [ho] at h9; exact absurd (show (3 : Int) = 0 from h9) (by decide)⟩, Keep.rf, fun _ hy => hy⟩
      · have ho : o_sell bs ru se pf hd ca evs ln (i : Int) n = (0, sumL (cf pf) (takeL n (fl (gB bs (i : Int)))), evS bs ru se pf hd ca evs ln (115, (i : Int), (i : Int), n, 0, 0, 0) (sumL (cf pf) (takeL n (fl (gB bs (i : Int)))))) := by unfold o_sell; rw [if_neg (by omega), if_neg (by omega), if_neg (by omega)]
        refine j_callV (st' := [vi (0), .ref o]) (As := [vi ((i : Int)), vi (n)]) C dL_sell_5 rfl m_L_43 x1 rfl rfl rfl (c_sell (kL κ) hfl (kD κ) (kc κ) σ tg ad bs ru se pf hd ca evs ln hX0 i hi n hn9 ⟨by omega, by omega⟩ (by omega) (by omega)) rfl (by omega) (by omega) (by omega) (fun _ _ hx => hx.elim) (fun v11 τ10 hp12 => ?_)
        obtain ⟨rfl, tg1, ad1, hR1, hT1, ha1, hK1, hM1⟩ := hp12
        have ho1 := hK1 _ _ hout (fun z => by have z1 : tg o < 1000 := z; omega)
        show J κ τ10 [(0, .ref (ad 0)), (1, vi ((i : Int))), (2, vi (n)), (3, .ref o)] 8 [vi (sumL (cf pf) (takeL n (fl (gB bs (i : Int))))), vi (0), .ref o] _ _
        rw [vi_w (sumL (cf pf) (takeL n (fl (gB bs (i : Int)))))]
        refine j_i2l C dL_sell_8 rfl (w32_in _) ?_
        refine j_last C dL_sell_9 rfl ho1 ⟨by omega, by omega⟩ (by omega) (fun τ13 ee14 => ?_)
        have u15 : has τ13 o (lA (kc κ) 1 (ups g0 0 (w32 (sumL (cf pf) (takeL n (fl (gB bs (i : Int)))))))) := ho1.self' ee14
        refine j_goto (tgt := 25) C dL_sell_10 rfl ?_
        refine j_iconst C dL_sell_25 rfl ?_
        exact j_iret C E dL_sell_26 (by omega) (by omega) ⟨by rw [ho], ⟨tg1, ad1, by rw [ho]; exact hR1.keepO ee14 (by rw [hT1 o hout.1]; exact hot), hT1, ha1⟩, ⟨_, u15, fun _ => by rw [ho]; exact ups_u rfl⟩, (hK1.mono (fun _ z => Or.inl z) : Keep σ τ10 (fun y => tg y < 1000 ∨ y = o)).put ee14 (Or.inr rfl), fun y hy => by rw [dom_put ee14]; exact hM1 y hy⟩
set_option maxHeartbeats 8000000 in
set_option maxRecDepth 20000 in
theorem W_transfer (l : Launch) (hfl : l.stackTraces = false) (D : va_G) (cy : Nat → Nat) (σ : Wd) (tg ad : Nat → Nat) (bs : List Bn) (ru : Nat → Int × Int) (se : Int) (pf : Nat → Int) (hd : Hd) (ca : Int) (evs : List Evt) (ln : List Int) (hX0 : RX cy σ tg ad bs ru se pf hd ca evs ln) (o : Nat) (g0 : Nat → Int) (hout : has σ o (lA cy 1 g0)) (hot : 1000 ≤ tg o) (a : Int) (ha9 : (-2147483648 ≤ a ∧ a < 2147483648)) (b : Int) (hb9 : (-2147483648 ≤ b ∧ b < 2147483648)) (n : Int) (hn9 : (-2147483648 ≤ n ∧ n < 2147483648)) : CtN l yL_transfer cL_transfer 6 (some .int) [(0, 12, 15, 21), (0, 12, 19, 13), (0, 12, 23, 15)] 8 250 7604 D cy [.ref (ad 0), vi (a), vi (b), vi (n), .ref o] σ (fun v σ' => v = some (vi (o_transfer bs ru se pf hd ca evs ln a b n).1) ∧ (∃ tg' ad' : Nat → Nat, RXs cy σ' tg' ad' (o_transfer bs ru se pf hd ca evs ln a b n).2.2 ∧ (∀ y, y ∈ σ.1 → tg' y = tg y) ∧ ad' 0 = ad 0) ∧ (∃ g' : Nat → Int, has σ' o (lA cy 1 g') ∧ ((o_transfer bs ru se pf hd ca evs ln a b n).1 = 0 → g' 0 = w32 (o_transfer bs ru se pf hd ca evs ln a b n).2.1)) ∧ Keep σ σ' (fun y => tg y < 1000 ∨ y = o) ∧ ∀ y, y ∈ σ.1 → y ∈ σ'.1) noX := by
  refine cth_start (by decide +kernel) hfl rfl (fun κ e1 e2 e3 C E HH HN => ?_)
  subst e1 e2 e3
  have C : Cx κ cL_transfer 6 RL "transfer" 8 := C
  obtain ⟨-, -, -, -, hc, hs⟩ := id E
  show J κ σ [(0, .ref (ad 0)), (1, vi (a)), (2, vi (b)), (3, vi (n)), (4, .ref o)] 0 [] 0 0
  have hXX := hX0
  obtain ⟨⟨x1, x2⟩, -, -, -, -, hO⟩ := hXX
  have h6 := hO.1
  have hlb := hO.2.2.1
  refine j_aload 4 C dL_transfer_0 rfl rfl ?_
  refine j_iconst C dL_transfer_2 rfl ?_
  refine j_aload_n 0 C dL_transfer_3 rfl rfl rfl ?_
  refine j_iload_n 1 C dL_transfer_4 rfl rfl rfl ?_
  refine j_iload_n 2 C dL_transfer_5 rfl rfl rfl ?_
  refine j_iload_n 3 C dL_transfer_6 rfl rfl rfl ?_
  rcases Classical.em (a < 0 ∨ (bs.length : Int) ≤ a ∨ b < 0 ∨ (bs.length : Int) ≤ b) with hq | hq
  · have ho : o_transfer bs ru se pf hd ca evs ln a b n = (1, 0, (bs, ru, se, pf, hd, ca, evs, ln)) := by unfold o_transfer; rw [if_pos (by omega)]
    refine j_callV (st' := [vi (0), .ref o]) (As := [vi (a), vi (b), vi (n)]) C dL_transfer_7 rfl m_L_46 x1 rfl rfl rfl (c_transferB0 (kL κ) hfl (kD κ) (kc κ) σ tg ad bs ru se pf hd ca evs ln hX0 a b ha9 hb9 n hn9 (by omega)) rfl (by omega) (by omega) (by omega) (fun E9 τ2 hx => ?_) (fun _ _ hx => hx.elim)
    obtain ⟨rfl, hs9⟩ := hx
    replace hs9 := hs9.symm
    subst hs9
    refine j_catch [] (0, 12, 15, 21) [(0, 12, 19, 13), (0, 12, 23, 15)] C HH HN rfl (fun z hz => absurd hz List.not_mem_nil) ⟨by decide, by decide⟩ (by decide) hl_21 hc_21 (fun q9 => ?_)
    refine j_astore (lv' := [(0, .ref (ad 0)), (1, vi (a)), (2, vi (b)), (3, vi (n)), (4, .ref o), (5, .ref q9)]) [1, 2, 3, 4, 5, 0] C dL_transfer_15 rfl rfl rfl ?_
    refine j_iconst C dL_transfer_17 rfl ?_
    exact j_iret C E dL_transfer_18 (by omega) (by omega) ⟨by rw [ho], ⟨tg, ad, by rw [ho]; exact hX0, fun _ _ => rfl, rfl⟩, ⟨g0, hout, fun h9 => by rw [ho] at h9; exact absurd (show (1 : Int) = 0 from h9) (by decide)⟩, Keep.rf, fun _ hy => hy⟩
  · obtain ⟨i, hi, rfl⟩ : ∃ i : Nat, i < bs.length ∧ a = (i : Int) := ⟨a.toNat, by omega, by omega⟩
    obtain ⟨j, hj, rfl⟩ : ∃ j : Nat, j < bs.length ∧ b = (j : Int) := ⟨b.toNat, by omega, by omega⟩
    rcases Classical.em ((i : Int) = (j : Int) ∨ n < 1 ∨ 5000 < n) with hq2 | hq2
    · have ho : o_transfer bs ru se pf hd ca evs ln (i : Int) (j : Int) n = (2, 0, (bs, ru, se, pf, hd, ca, evs, ln)) := by unfold o_transfer; rw [if_neg (by omega), if_pos (by omega)]
      refine j_callV (st' := [vi (0), .ref o]) (As := [vi ((i : Int)), vi ((j : Int)), vi (n)]) C dL_transfer_7 rfl m_L_46 x1 rfl rfl rfl (c_transferB1 (kL κ) hfl (kD κ) (kc κ) σ tg ad bs ru se pf hd ca evs ln hX0 i hi j hj n hn9 (by omega)) rfl (by omega) (by omega) (by omega) (fun E9 τ5 hx => ?_) (fun _ _ hx => hx.elim)
      obtain ⟨rfl, hs9⟩ := hx
      replace hs9 := hs9.symm
      subst hs9
      refine j_catch [(0, 12, 15, 21)] (0, 12, 19, 13) [(0, 12, 23, 15)] C HH HN rfl (List.forall_mem_cons.mpr ⟨⟨by decide, "java/lang/IndexOutOfBoundsException", hl_21, by decide⟩, fun z hz => absurd hz List.not_mem_nil⟩) ⟨by decide, by decide⟩ (by decide) hl_13 hc_13 (fun q9 => ?_)
      refine j_astore (lv' := [(0, .ref (ad 0)), (1, vi ((i : Int))), (2, vi ((j : Int))), (3, vi (n)), (4, .ref o), (5, .ref q9)]) [1, 2, 3, 4, 5, 0] C dL_transfer_19 rfl rfl rfl ?_
      refine j_iconst C dL_transfer_21 rfl ?_
      exact j_iret C E dL_transfer_22 (by omega) (by omega) ⟨by rw [ho], ⟨tg, ad, by rw [ho]; exact hX0, fun _ _ => rfl, rfl⟩, ⟨g0, hout, fun h9 => by rw [ho] at h9; exact absurd (show (2 : Int) = 0 from h9) (by decide)⟩, Keep.rf, fun _ hy => hy⟩
    · rcases Classical.em (tot (gB bs (i : Int)).2.2 < n ∨ (gB bs (j : Int)).1 - tot (gB bs (j : Int)).2.2 < n ∨ 80 ≤ evs.length) with hq3 | hq3
      · have ho : o_transfer bs ru se pf hd ca evs ln (i : Int) (j : Int) n = (3, 0, (bs, ru, se, pf, hd, ca, evs, ln)) := by unfold o_transfer; rw [if_neg (by omega), if_neg (by omega), if_pos (by omega)]
        refine j_callV (st' := [vi (0), .ref o]) (As := [vi ((i : Int)), vi ((j : Int)), vi (n)]) C dL_transfer_7 rfl m_L_46 x1 rfl rfl rfl (c_transferB2 (kL κ) hfl (kD κ) (kc κ) σ tg ad bs ru se pf hd ca evs ln hX0 i hi j hj n hn9 ⟨by omega, by omega, by omega⟩ (by omega)) rfl (by omega) (by omega) (by omega) (fun E9 τ8 hx => ?_) (fun _ _ hx => hx.elim)
        obtain ⟨rfl, hs9⟩ := hx
        replace hs9 := hs9.symm
        subst hs9
        refine j_catch [(0, 12, 15, 21), (0, 12, 19, 13)] (0, 12, 23, 15) [] C HH HN rfl (List.forall_mem_cons.mpr ⟨⟨by decide, "java/lang/IndexOutOfBoundsException", hl_21, by decide⟩, List.forall_mem_cons.mpr ⟨⟨by decide, "java/lang/IllegalArgumentException", hl_13, by decide⟩, fun z hz => absurd hz List.not_mem_nil⟩⟩) ⟨by decide, by decide⟩ (by decide) hl_15 hc_15 (fun q9 => ?_)
        refine j_astore (lv' := [(0, .ref (ad 0)), (1, vi ((i : Int))), (2, vi ((j : Int))), (3, vi (n)), (4, .ref o), (5, .ref q9)]) [1, 2, 3, 4, 5, 0] C dL_transfer_23 rfl rfl rfl ?_
        refine j_iconst C dL_transfer_25 rfl ?_
        exact j_iret C E dL_transfer_26 (by omega) (by omega) ⟨by rw [ho], ⟨tg, ad, by rw [ho]; exact hX0, fun _ _ => rfl, rfl⟩, ⟨g0, hout, fun h9 => by rw [ho] at h9; exact absurd (show (3 : Int) = 0 from h9) (by decide)⟩, Keep.rf, fun _ hy => hy⟩
      · have ho : o_transfer bs ru se pf hd ca evs ln (i : Int) (j : Int) n = (0, ((gB (apB (gradeF ru se) bs (116, (i : Int), (j : Int), n, 0, 0, 0)) (j : Int)).2.2.length : Int) - ((gB bs (j : Int)).2.2.length : Int), evS bs ru se pf hd ca evs ln (116, (i : Int), (j : Int), n, 0, 0, 0) (0)) := by unfold o_transfer; rw [if_neg (by omega), if_neg (by omega), if_neg (by omega)]
        refine j_callV (st' := [vi (0), .ref o]) (As := [vi ((i : Int)), vi ((j : Int)), vi (n)]) C dL_transfer_7 rfl m_L_46 x1 rfl rfl rfl (c_transfer (kL κ) hfl (kD κ) (kc κ) σ tg ad bs ru se pf hd ca evs ln hX0 i hi j hj (by omega) n hn9 ⟨by omega, by omega⟩ (by omega) (by omega) (by omega)) rfl (by omega) (by omega) (by omega) (fun _ _ hx => hx.elim) (fun v11 τ10 hp12 => ?_)
        obtain ⟨rfl, tg1, ad1, hR1, hT1, ha1, hK1, hM1⟩ := hp12
        have ho1 := hK1 _ _ hout (fun z => by have z1 : tg o < 1000 := z; omega)
        rw [show ca = ca + 0 from (Int.add_zero ca).symm] at hR1
        show J κ τ10 [(0, .ref (ad 0)), (1, vi ((i : Int))), (2, vi ((j : Int))), (3, vi (n)), (4, .ref o)] 10 [vi (((gB (apB (gradeF ru se) bs (116, (i : Int), (j : Int), n, 0, 0, 0)) (j : Int)).2.2.length : Int) - ((gB bs (j : Int)).2.2.length : Int)), vi (0), .ref o] _ _
        rw [vi_w (((gB (apB (gradeF ru se) bs (116, (i : Int), (j : Int), n, 0, 0, 0)) (j : Int)).2.2.length : Int) - ((gB bs (j : Int)).2.2.length : Int))]
        refine j_i2l C dL_transfer_10 rfl (w32_in _) ?_
        refine j_last C dL_transfer_11 rfl ho1 ⟨by omega, by omega⟩ (by omega) (fun τ13 ee14 => ?_)
        have u15 : has τ13 o (lA (kc κ) 1 (ups g0 0 (w32 (((gB (apB (gradeF ru se) bs (116, (i : Int), (j : Int), n, 0, 0, 0)) (j : Int)).2.2.length : Int) - ((gB bs (j : Int)).2.2.length : Int))))) := ho1.self' ee14
        refine j_goto (tgt := 27) C dL_transfer_12 rfl ?_
        refine j_iconst C dL_transfer_27 rfl ?_
        exact j_iret C E dL_transfer_28 (by omega) (by omega) ⟨by rw [ho], ⟨tg1, ad1, by rw [ho]; exact hR1.keepO ee14 (by rw [hT1 o hout.1]; exact hot), hT1, ha1⟩, ⟨_, u15, fun _ => by rw [ho]; exact ups_u rfl⟩, (hK1.mono (fun _ z => Or.inl z) : Keep σ τ10 (fun y => tg y < 1000 ∨ y = o)).put ee14 (Or.inr rfl), fun y hy => by rw [dom_put ee14]; exact hM1 y hy⟩
set_option maxHeartbeats 8000000 in
set_option maxRecDepth 20000 in
theorem W_dry (l : Launch) (hfl : l.stackTraces = false) (D : va_G) (cy : Nat → Nat) (σ : Wd) (tg ad : Nat → Nat) (bs : List Bn) (ru : Nat → Int × Int) (se : Int) (pf : Nat → Int) (hd : Hd) (ca : Int) (evs : List Evt) (ln : List Int) (hX0 : RX cy σ tg ad bs ru se pf hd ca evs ln) (o : Nat) (g0 : Nat → Int) (hout : has σ o (lA cy 1 g0)) (hot : 1000 ≤ tg o) (b : Int) (hb9 : (-2147483648 ≤ b ∧ b < 2147483648)) (x : Int) (hx9 : (-2147483648 ≤ x ∧ x < 2147483648)) : CtN l yL_dry cL_dry 5 (some .int) [(0, 10, 13, 21), (0, 10, 17, 13), (0, 10, 21, 15)] 8 250 7604 D cy [.ref (ad 0), vi (b), vi (x), .ref o] σ (fun v σ' => v = some (vi (o_dry bs ru se pf hd ca evs ln b x).1) ∧ (∃ tg' ad' : Nat → Nat, RXs cy σ' tg' ad' (o_dry bs ru se pf hd ca evs ln b x).2.2 ∧ (∀ y, y ∈ σ.1 → tg' y = tg y) ∧ ad' 0 = ad 0) ∧ (∃ g' : Nat → Int, has σ' o (lA cy 1 g') ∧ ((o_dry bs ru se pf hd ca evs ln b x).1 = 0 → g' 0 = w32 (o_dry bs ru se pf hd ca evs ln b x).2.1)) ∧ Keep σ σ' (fun y => tg y < 1000 ∨ y = o) ∧ ∀ y, y ∈ σ.1 → y ∈ σ'.1) noX := by
  refine cth_start (by decide +kernel) hfl rfl (fun κ e1 e2 e3 C E HH HN => ?_)
  subst e1 e2 e3
  have C : Cx κ cL_dry 5 RL "dry" 8 := C
  obtain ⟨-, -, -, -, hc, hs⟩ := id E
  show J κ σ [(0, .ref (ad 0)), (1, vi (b)), (2, vi (x)), (3, .ref o)] 0 [] 0 0
  have hXX := hX0
  obtain ⟨⟨x1, x2⟩, -, -, -, -, hO⟩ := hXX
  have h6 := hO.1
  have hlb := hO.2.2.1
  refine j_aload_n 3 C dL_dry_0 rfl rfl rfl ?_
  refine j_iconst C dL_dry_1 rfl ?_
  refine j_aload_n 0 C dL_dry_2 rfl rfl rfl ?_
  refine j_iload_n 1 C dL_dry_3 rfl rfl rfl ?_
  refine j_iload_n 2 C dL_dry_4 rfl rfl rfl ?_
  rcases Classical.em (b < 0 ∨ (bs.length : Int) ≤ b) with hq | hq
  · have ho : o_dry bs ru se pf hd ca evs ln b x = (1, 0, (bs, ru, se, pf, hd, ca, evs, ln)) := by unfold o_dry; rw [if_pos (by omega)]
    refine j_callV (st' := [vi (0), .ref o]) (As := [vi (b), vi (x)]) C dL_dry_5 rfl m_L_50 x1 rfl rfl rfl (c_dryB0 (kL κ) hfl (kD κ) (kc κ) σ tg ad bs ru se pf hd ca evs ln hX0 b hb9 hq x hx9) rfl (by omega) (by omega) (by omega) (fun E9 τ2 hx => ?_) (fun _ _ hx => hx.elim)
    obtain ⟨rfl, hs9⟩ := hx
    replace hs9 := hs9.symm
    subst hs9
    refine j_catch [] (0, 10, 13, 21) [(0, 10, 17, 13), (0, 10, 21, 15)] C HH HN rfl (fun z hz => absurd hz List.not_mem_nil) ⟨by decide, by decide⟩ (by decide) hl_21 hc_21 (fun q9 => ?_)
    refine j_astore (lv' := [(0, .ref (ad 0)), (1, vi (b)), (2, vi (x)), (3, .ref o), (4, .ref q9)]) [1, 2, 3, 4, 0] C dL_dry_13 rfl rfl rfl ?_
    refine j_iconst C dL_dry_15 rfl ?_
    exact j_iret C E dL_dry_16 (by omega) (by omega) ⟨by rw [ho], ⟨tg, ad, by rw [ho]; exact hX0, fun _ _ => rfl, rfl⟩, ⟨g0, hout, fun h9 => by rw [ho] at h9; exact absurd (show (1 : Int) = 0 from h9) (by decide)⟩, Keep.rf, fun _ hy => hy⟩
  · obtain ⟨i, hi, rfl⟩ : ∃ i : Nat, i < bs.length ∧ b = (i : Int) := ⟨b.toNat, by omega, by omega⟩
    rcases Classical.em (x < 80 ∨ 300 < x) with hq2 | hq2
    · have ho : o_dry bs ru se pf hd ca evs ln (i : Int) x = (2, 0, (bs, ru, se, pf, hd, ca, evs, ln)) := by unfold o_dry; rw [if_neg (by omega), if_pos (by omega)]
      refine j_callV (st' := [vi (0), .ref o]) (As := [vi ((i : Int)), vi (x)]) C dL_dry_5 rfl m_L_50 x1 rfl rfl rfl (c_dryB1 (kL κ) hfl (kD κ) (kc κ) σ tg ad bs ru se pf hd ca evs ln hX0 i hi x hx9 hq2) rfl (by omega) (by omega) (by omega) (fun E9 τ5 hx => ?_) (fun _ _ hx => hx.elim)
      obtain ⟨rfl, hs9⟩ := hx
      replace hs9 := hs9.symm
      subst hs9
      refine j_catch [(0, 10, 13, 21)] (0, 10, 17, 13) [(0, 10, 21, 15)] C HH HN rfl (List.forall_mem_cons.mpr ⟨⟨by decide, "java/lang/IndexOutOfBoundsException", hl_21, by decide⟩, fun z hz => absurd hz List.not_mem_nil⟩) ⟨by decide, by decide⟩ (by decide) hl_13 hc_13 (fun q9 => ?_)
      refine j_astore (lv' := [(0, .ref (ad 0)), (1, vi ((i : Int))), (2, vi (x)), (3, .ref o), (4, .ref q9)]) [1, 2, 3, 4, 0] C dL_dry_17 rfl rfl rfl ?_
      refine j_iconst C dL_dry_19 rfl ?_
      exact j_iret C E dL_dry_20 (by omega) (by omega) ⟨by rw [ho], ⟨tg, ad, by rw [ho]; exact hX0, fun _ _ => rfl, rfl⟩, ⟨g0, hout, fun h9 => by rw [ho] at h9; exact absurd (show (2 : Int) = 0 from h9) (by decide)⟩, Keep.rf, fun _ hy => hy⟩
    · rcases Classical.em (sumL (wetF x) (gB bs (i : Int)).2.2 = 0 ∨ 80 ≤ evs.length) with hq3 | hq3
      · have ho : o_dry bs ru se pf hd ca evs ln (i : Int) x = (3, 0, (bs, ru, se, pf, hd, ca, evs, ln)) := by unfold o_dry; rw [if_neg (by omega), if_neg (by omega), if_pos (by omega)]
        refine j_callV (st' := [vi (0), .ref o]) (As := [vi ((i : Int)), vi (x)]) C dL_dry_5 rfl m_L_50 x1 rfl rfl rfl (c_dryB2 (kL κ) hfl (kD κ) (kc κ) σ tg ad bs ru se pf hd ca evs ln hX0 i hi x hx9 ⟨by omega, by omega⟩ (by omega)) rfl (by omega) (by omega) (by omega) (fun E9 τ8 hx => ?_) (fun _ _ hx => hx.elim)
        obtain ⟨rfl, hs9⟩ := hx
        replace hs9 := hs9.symm
        subst hs9
        refine j_catch [(0, 10, 13, 21), (0, 10, 17, 13)] (0, 10, 21, 15) [] C HH HN rfl (List.forall_mem_cons.mpr ⟨⟨by decide, "java/lang/IndexOutOfBoundsException", hl_21, by decide⟩, List.forall_mem_cons.mpr ⟨⟨by decide, "java/lang/IllegalArgumentException", hl_13, by decide⟩, fun z hz => absurd hz List.not_mem_nil⟩⟩) ⟨by decide, by decide⟩ (by decide) hl_15 hc_15 (fun q9 => ?_)
        refine j_astore (lv' := [(0, .ref (ad 0)), (1, vi ((i : Int))), (2, vi (x)), (3, .ref o), (4, .ref q9)]) [1, 2, 3, 4, 0] C dL_dry_21 rfl rfl rfl ?_
        refine j_iconst C dL_dry_23 rfl ?_
        exact j_iret C E dL_dry_24 (by omega) (by omega) ⟨by rw [ho], ⟨tg, ad, by rw [ho]; exact hX0, fun _ _ => rfl, rfl⟩, ⟨g0, hout, fun h9 => by rw [ho] at h9; exact absurd (show (3 : Int) = 0 from h9) (by decide)⟩, Keep.rf, fun _ hy => hy⟩
      · have ho : o_dry bs ru se pf hd ca evs ln (i : Int) x = (0, tot (gB bs (i : Int)).2.2 - tot (gB (apB (gradeF ru se) bs (100, (i : Int), (i : Int), 0, 0, x, 0)) (i : Int)).2.2, evS bs ru se pf hd ca evs ln (100, (i : Int), (i : Int), 0, 0, x, 0) (-sumL (dryC x) (gB bs (i : Int)).2.2)) := by unfold o_dry; rw [if_neg (by omega), if_neg (by omega), if_neg (by omega)]
        refine j_callV (st' := [vi (0), .ref o]) (As := [vi ((i : Int)), vi (x)]) C dL_dry_5 rfl m_L_50 x1 rfl rfl rfl (c_dry (kL κ) hfl (kD κ) (kc κ) σ tg ad bs ru se pf hd ca evs ln hX0 i hi x hx9 ⟨by omega, by omega⟩ (by omega) (by omega)) rfl (by omega) (by omega) (by omega) (fun _ _ hx => hx.elim) (fun v11 τ10 hp12 => ?_)
        obtain ⟨rfl, tg1, ad1, hR1, hT1, ha1, hK1, hM1⟩ := hp12
        have ho1 := hK1 _ _ hout (fun z => by have z1 : tg o < 1000 := z; omega)
        show J κ τ10 [(0, .ref (ad 0)), (1, vi ((i : Int))), (2, vi (x)), (3, .ref o)] 8 [vi (tot (gB bs (i : Int)).2.2 - tot (gB (apB (gradeF ru se) bs (100, (i : Int), (i : Int), 0, 0, x, 0)) (i : Int)).2.2), vi (0), .ref o] _ _
        rw [vi_w (tot (gB bs (i : Int)).2.2 - tot (gB (apB (gradeF ru se) bs (100, (i : Int), (i : Int), 0, 0, x, 0)) (i : Int)).2.2)]
        refine j_i2l C dL_dry_8 rfl (w32_in _) ?_
        refine j_last C dL_dry_9 rfl ho1 ⟨by omega, by omega⟩ (by omega) (fun τ13 ee14 => ?_)
        have u15 : has τ13 o (lA (kc κ) 1 (ups g0 0 (w32 (tot (gB bs (i : Int)).2.2 - tot (gB (apB (gradeF ru se) bs (100, (i : Int), (i : Int), 0, 0, x, 0)) (i : Int)).2.2)))) := ho1.self' ee14
        refine j_goto (tgt := 25) C dL_dry_10 rfl ?_
        refine j_iconst C dL_dry_25 rfl ?_
        exact j_iret C E dL_dry_26 (by omega) (by omega) ⟨by rw [ho], ⟨tg1, ad1, by rw [ho]; exact hR1.keepO ee14 (by rw [hT1 o hout.1]; exact hot), hT1, ha1⟩, ⟨_, u15, fun _ => by rw [ho]; exact ups_u rfl⟩, (hK1.mono (fun _ z => Or.inl z) : Keep σ τ10 (fun y => tg y < 1000 ∨ y = o)).put ee14 (Or.inr rfl), fun y hy => by rw [dom_put ee14]; exact hM1 y hy⟩
set_option maxHeartbeats 8000000 in
set_option maxRecDepth 20000 in
theorem W_dryingCost (l : Launch) (hfl : l.stackTraces = false) (D : va_G) (cy : Nat → Nat) (σ : Wd) (tg ad : Nat → Nat) (bs : List Bn) (ru : Nat → Int × Int) (se : Int) (pf : Nat → Int) (hd : Hd) (ca : Int) (evs : List Evt) (ln : List Int) (hX0 : RX cy σ tg ad bs ru se pf hd ca evs ln) (o : Nat) (g0 : Nat → Int) (hout : has σ o (lA cy 1 g0)) (hot : 1000 ≤ tg o) (b : Int) (hb9 : (-2147483648 ≤ b ∧ b < 2147483648)) (x : Int) (hx9 : (-2147483648 ≤ x ∧ x < 2147483648)) : CtN l yL_dryingCost cL_dryingCost 5 (some .int) [(0, 10, 13, 21), (0, 10, 17, 13)] 8 250 7604 D cy [.ref (ad 0), vi (b), vi (x), .ref o] σ (fun v σ' => v = some (vi (o_dryingCost bs ru se pf hd ca evs ln b x).1) ∧ (∃ tg' ad' : Nat → Nat, RXs cy σ' tg' ad' (o_dryingCost bs ru se pf hd ca evs ln b x).2.2 ∧ (∀ y, y ∈ σ.1 → tg' y = tg y) ∧ ad' 0 = ad 0) ∧ (∃ g' : Nat → Int, has σ' o (lA cy 1 g') ∧ ((o_dryingCost bs ru se pf hd ca evs ln b x).1 = 0 → g' 0 = w32 (o_dryingCost bs ru se pf hd ca evs ln b x).2.1)) ∧ Keep σ σ' (fun y => tg y < 1000 ∨ y = o) ∧ ∀ y, y ∈ σ.1 → y ∈ σ'.1) noX := by
  refine cth_start (by decide +kernel) hfl rfl (fun κ e1 e2 e3 C E HH HN => ?_)
  subst e1 e2 e3
  have C : Cx κ cL_dryingCost 5 RL "dryingCost" 8 := C
  obtain ⟨-, -, -, -, hc, hs⟩ := id E
  show J κ σ [(0, .ref (ad 0)), (1, vi (b)), (2, vi (x)), (3, .ref o)] 0 [] 0 0
  have hXX := hX0
  obtain ⟨⟨x1, x2⟩, -, -, -, -, hO⟩ := hXX
  have h6 := hO.1
  have hlb := hO.2.2.1
  refine j_aload_n 3 C dL_dryingCost_0 rfl rfl rfl ?_
  refine j_iconst C dL_dryingCost_1 rfl ?_
  refine j_aload_n 0 C dL_dryingCost_2 rfl rfl rfl ?_
  refine j_iload_n 1 C dL_dryingCost_3 rfl rfl rfl ?_
  refine j_iload_n 2 C dL_dryingCost_4 rfl rfl rfl ?_
  rcases Classical.em (b < 0 ∨ (bs.length : Int) ≤ b) with hq | hq
  · have ho : o_dryingCost bs ru se pf hd ca evs ln b x = (1, 0, (bs, ru, se, pf, hd, ca, evs, ln)) := by unfold o_dryingCost; rw [if_pos (by omega)]
    refine j_callV (st' := [vi (0), .ref o]) (As := [vi (b), vi (x)]) C dL_dryingCost_5 rfl m_L_53 x1 rfl rfl rfl (c_dryingCostB0 (kL κ) hfl (kD κ) (kc κ) σ tg ad bs ru se pf hd ca evs ln hX0 b hb9 hq x hx9) rfl (by omega) (by omega) (by omega) (fun E9 τ2 hx => ?_) (fun _ _ hx => hx.elim)
    obtain ⟨rfl, hs9⟩ := hx
    replace hs9 := hs9.symm
    subst hs9
    refine j_catch [] (0, 10, 13, 21) [(0, 10, 17, 13)] C HH HN rfl (fun z hz => absurd hz List.not_mem_nil) ⟨by decide, by decide⟩ (by decide) hl_21 hc_21 (fun q9 => ?_)
    refine j_astore (lv' := [(0, .ref (ad 0)), (1, vi (b)), (2, vi (x)), (3, .ref o), (4, .ref q9)]) [1, 2, 3, 4, 0] C dL_dryingCost_13 rfl rfl rfl ?_
    refine j_iconst C dL_dryingCost_15 rfl ?_
    exact j_iret C E dL_dryingCost_16 (by omega) (by omega) ⟨by rw [ho], ⟨tg, ad, by rw [ho]; exact hX0, fun _ _ => rfl, rfl⟩, ⟨g0, hout, fun h9 => by rw [ho] at h9; exact absurd (show (1 : Int) = 0 from h9) (by decide)⟩, Keep.rf, fun _ hy => hy⟩
  · obtain ⟨i, hi, rfl⟩ : ∃ i : Nat, i < bs.length ∧ b = (i : Int) := ⟨b.toNat, by omega, by omega⟩
    rcases Classical.em (x < 80 ∨ 300 < x) with hq2 | hq2
    · have ho : o_dryingCost bs ru se pf hd ca evs ln (i : Int) x = (2, 0, (bs, ru, se, pf, hd, ca, evs, ln)) := by unfold o_dryingCost; rw [if_neg (by omega), if_pos (by omega)]
      refine j_callV (st' := [vi (0), .ref o]) (As := [vi ((i : Int)), vi (x)]) C dL_dryingCost_5 rfl m_L_53 x1 rfl rfl rfl (c_dryingCostB (kL κ) hfl (kD κ) (kc κ) σ tg ad bs ru se pf hd ca evs ln hX0 i hi x hx9 hq2) rfl (by omega) (by omega) (by omega) (fun E9 τ5 hx => ?_) (fun _ _ hx => hx.elim)
      obtain ⟨rfl, hs9⟩ := hx
      replace hs9 := hs9.symm
      subst hs9
      refine j_catch [(0, 10, 13, 21)] (0, 10, 17, 13) [] C HH HN rfl (List.forall_mem_cons.mpr ⟨⟨by decide, "java/lang/IndexOutOfBoundsException", hl_21, by decide⟩, fun z hz => absurd hz List.not_mem_nil⟩) ⟨by decide, by decide⟩ (by decide) hl_13 hc_13 (fun q9 => ?_)
      refine j_astore (lv' := [(0, .ref (ad 0)), (1, vi ((i : Int))), (2, vi (x)), (3, .ref o), (4, .ref q9)]) [1, 2, 3, 4, 0] C dL_dryingCost_17 rfl rfl rfl ?_
      refine j_iconst C dL_dryingCost_19 rfl ?_
      exact j_iret C E dL_dryingCost_20 (by omega) (by omega) ⟨by rw [ho], ⟨tg, ad, by rw [ho]; exact hX0, fun _ _ => rfl, rfl⟩, ⟨g0, hout, fun h9 => by rw [ho] at h9; exact absurd (show (2 : Int) = 0 from h9) (by decide)⟩, Keep.rf, fun _ hy => hy⟩
    · have ho : o_dryingCost bs ru se pf hd ca evs ln (i : Int) x = (0, sumL (dryC x) (gB bs (i : Int)).2.2, (bs, ru, se, pf, hd, ca, evs, ln)) := by unfold o_dryingCost; rw [if_neg (by omega), if_neg (by omega)]
      refine j_callV (st' := [vi (0), .ref o]) (As := [vi ((i : Int)), vi (x)]) C dL_dryingCost_5 rfl m_L_53 x1 rfl rfl rfl (c_dryingCost (kL κ) hfl (kD κ) (kc κ) σ tg ad bs ru se pf hd ca evs ln hX0 i hi x hx9 ⟨by omega, by omega⟩) rfl (by omega) (by omega) (by omega) (fun _ _ hx => hx.elim) (fun v8 τ7 hp9 => ?_)
      obtain ⟨rfl, hs9⟩ := hp9
      replace hs9 := hs9.symm
      subst hs9
      show J κ σ [(0, .ref (ad 0)), (1, vi ((i : Int))), (2, vi (x)), (3, .ref o)] 8 [vi (sumL (dryC x) (gB bs (i : Int)).2.2), vi (0), .ref o] _ _
      rw [vi_w (sumL (dryC x) (gB bs (i : Int)).2.2)]
      refine j_i2l C dL_dryingCost_8 rfl (w32_in _) ?_
      refine j_last C dL_dryingCost_9 rfl hout ⟨by omega, by omega⟩ (by omega) (fun τ10 ee11 => ?_)
      have u12 : has τ10 o (lA (kc κ) 1 (ups g0 0 (w32 (sumL (dryC x) (gB bs (i : Int)).2.2)))) := hout.self' ee11
      refine j_goto (tgt := 21) C dL_dryingCost_10 rfl ?_
      refine j_iconst C dL_dryingCost_21 rfl ?_
      exact j_iret C E dL_dryingCost_22 (by omega) (by omega) ⟨by rw [ho], ⟨tg, ad, by rw [ho]; exact hX0.keepO ee11 hot, (fun _ _ => rfl), rfl⟩, ⟨_, u12, fun _ => by rw [ho]; exact ups_u rfl⟩, (Keep.rf : Keep σ σ (fun y => tg y < 1000 ∨ y = o)).put ee11 (Or.inr rfl), fun y hy => by rw [dom_put ee11]; exact (fun _ hy => hy) y hy⟩
set_option maxHeartbeats 8000000 in
set_option maxRecDepth 20000 in
theorem W_layerBushels (l : Launch) (hfl : l.stackTraces = false) (D : va_G) (cy : Nat → Nat) (σ : Wd) (tg ad : Nat → Nat) (bs : List Bn) (ru : Nat → Int × Int) (se : Int) (pf : Nat → Int) (hd : Hd) (ca : Int) (evs : List Evt) (ln : List Int) (hX0 : RX cy σ tg ad bs ru se pf hd ca evs ln) (o : Nat) (g0 : Nat → Int) (hout : has σ o (lA cy 1 g0)) (hot : 1000 ≤ tg o) (b : Int) (hb9 : (-2147483648 ≤ b ∧ b < 2147483648)) (q : Int) (hq9 : (-2147483648 ≤ q ∧ q < 2147483648)) : CtN l yL_layerBushels cL_layerBushels 5 (some .int) [(0, 10, 13, 21)] 8 250 7604 D cy [.ref (ad 0), vi (b), vi (q), .ref o] σ (fun v σ' => v = some (vi (o_layerBushels bs ru se pf hd ca evs ln b q).1) ∧ (∃ tg' ad' : Nat → Nat, RXs cy σ' tg' ad' (o_layerBushels bs ru se pf hd ca evs ln b q).2.2 ∧ (∀ y, y ∈ σ.1 → tg' y = tg y) ∧ ad' 0 = ad 0) ∧ (∃ g' : Nat → Int, has σ' o (lA cy 1 g') ∧ ((o_layerBushels bs ru se pf hd ca evs ln b q).1 = 0 → g' 0 = w32 (o_layerBushels bs ru se pf hd ca evs ln b q).2.1)) ∧ Keep σ σ' (fun y => tg y < 1000 ∨ y = o) ∧ ∀ y, y ∈ σ.1 → y ∈ σ'.1) noX := by
  refine cth_start (by decide +kernel) hfl rfl (fun κ e1 e2 e3 C E HH HN => ?_)
  subst e1 e2 e3
  have C : Cx κ cL_layerBushels 5 RL "layerBushels" 8 := C
  obtain ⟨-, -, -, -, hc, hs⟩ := id E
  show J κ σ [(0, .ref (ad 0)), (1, vi (b)), (2, vi (q)), (3, .ref o)] 0 [] 0 0
  have hXX := hX0
  obtain ⟨⟨x1, x2⟩, -, -, -, -, hO⟩ := hXX
  have h6 := hO.1
  have hlb := hO.2.2.1
  refine j_aload_n 3 C dL_layerBushels_0 rfl rfl rfl ?_
  refine j_iconst C dL_layerBushels_1 rfl ?_
  refine j_aload_n 0 C dL_layerBushels_2 rfl rfl rfl ?_
  refine j_iload_n 1 C dL_layerBushels_3 rfl rfl rfl ?_
  refine j_iload_n 2 C dL_layerBushels_4 rfl rfl rfl ?_
  rcases Classical.em (b < 0 ∨ (bs.length : Int) ≤ b) with hq | hq
  · have ho : o_layerBushels bs ru se pf hd ca evs ln b q = (1, 0, (bs, ru, se, pf, hd, ca, evs, ln)) := by unfold o_layerBushels; rw [if_pos (by omega)]
    refine j_callV (st' := [vi (0), .ref o]) (As := [vi (b), vi (q)]) C dL_layerBushels_5 rfl m_L_62 x1 rfl rfl rfl (c_layerBushelsB0 (kL κ) hfl (kD κ) (kc κ) σ tg ad bs ru se pf hd ca evs ln hX0 b hb9 hq q) rfl (by omega) (by omega) (by omega) (fun E9 τ2 hx => ?_) (fun _ _ hx => hx.elim)
    obtain ⟨rfl, hs9⟩ := hx
    replace hs9 := hs9.symm
    subst hs9
    refine j_catch [] (0, 10, 13, 21) [] C HH HN rfl (fun z hz => absurd hz List.not_mem_nil) ⟨by decide, by decide⟩ (by decide) hl_21 hc_21 (fun q9 => ?_)
    refine j_astore (lv' := [(0, .ref (ad 0)), (1, vi (b)), (2, vi (q)), (3, .ref o), (4, .ref q9)]) [1, 2, 3, 4, 0] C dL_layerBushels_13 rfl rfl rfl ?_
    refine j_iconst C dL_layerBushels_15 rfl ?_
    exact j_iret C E dL_layerBushels_16 (by omega) (by omega) ⟨by rw [ho], ⟨tg, ad, by rw [ho]; exact hX0, fun _ _ => rfl, rfl⟩, ⟨g0, hout, fun h9 => by rw [ho] at h9; exact absurd (show (1 : Int) = 0 from h9) (by decide)⟩, Keep.rf, fun _ hy => hy⟩
  · obtain ⟨i, hi, rfl⟩ : ∃ i : Nat, i < bs.length ∧ b = (i : Int) := ⟨b.toNat, by omega, by omega⟩
    rcases Classical.em (q < 0 ∨ ((gB bs (i : Int)).2.2.length : Int) ≤ q) with hq2 | hq2
    · have ho : o_layerBushels bs ru se pf hd ca evs ln (i : Int) q = (1, 0, (bs, ru, se, pf, hd, ca, evs, ln)) := by unfold o_layerBushels; rw [if_pos (by omega)]
      refine j_callV (st' := [vi (0), .ref o]) (As := [vi ((i : Int)), vi (q)]) C dL_layerBushels_5 rfl m_L_62 x1 rfl rfl rfl (c_layerBushelsB (kL κ) hfl (kD κ) (kc κ) σ tg ad bs ru se pf hd ca evs ln hX0 i hi q hq9 hq2) rfl (by omega) (by omega) (by omega) (fun E9 τ5 hx => ?_) (fun _ _ hx => hx.elim)
      obtain ⟨rfl, hs9⟩ := hx
      replace hs9 := hs9.symm
      subst hs9
      refine j_catch [] (0, 10, 13, 21) [] C HH HN rfl (fun z hz => absurd hz List.not_mem_nil) ⟨by decide, by decide⟩ (by decide) hl_21 hc_21 (fun q9 => ?_)
      refine j_astore (lv' := [(0, .ref (ad 0)), (1, vi ((i : Int))), (2, vi (q)), (3, .ref o), (4, .ref q9)]) [1, 2, 3, 4, 0] C dL_layerBushels_13 rfl rfl rfl ?_
      refine j_iconst C dL_layerBushels_15 rfl ?_
      exact j_iret C E dL_layerBushels_16 (by omega) (by omega) ⟨by rw [ho], ⟨tg, ad, by rw [ho]; exact hX0, fun _ _ => rfl, rfl⟩, ⟨g0, hout, fun h9 => by rw [ho] at h9; exact absurd (show (1 : Int) = 0 from h9) (by decide)⟩, Keep.rf, fun _ hy => hy⟩
    · have ho : o_layerBushels bs ru se pf hd ca evs ln (i : Int) q = (0, (lyAt (fl (gB bs (i : Int))) q).1, (bs, ru, se, pf, hd, ca, evs, ln)) := by unfold o_layerBushels; rw [if_neg (by omega)]
      refine j_callV (st' := [vi (0), .ref o]) (As := [vi ((i : Int)), vi (q)]) C dL_layerBushels_5 rfl m_L_62 x1 rfl rfl rfl (c_layerBushels (kL κ) hfl (kD κ) (kc κ) σ tg ad bs ru se pf hd ca evs ln hX0 i hi q ⟨by omega, by omega⟩) rfl (by omega) (by omega) (by omega) (fun _ _ hx => hx.elim) (fun v8 τ7 hp9 => ?_)
      obtain ⟨rfl, hs9⟩ := hp9
      replace hs9 := hs9.symm
      subst hs9
      show J κ σ [(0, .ref (ad 0)), (1, vi ((i : Int))), (2, vi (q)), (3, .ref o)] 8 [vi ((lyAt (fl (gB bs (i : Int))) q).1), vi (0), .ref o] _ _
      rw [vi_w ((lyAt (fl (gB bs (i : Int))) q).1)]
      refine j_i2l C dL_layerBushels_8 rfl (w32_in _) ?_
      refine j_last C dL_layerBushels_9 rfl hout ⟨by omega, by omega⟩ (by omega) (fun τ10 ee11 => ?_)
      have u12 : has τ10 o (lA (kc κ) 1 (ups g0 0 (w32 ((lyAt (fl (gB bs (i : Int))) q).1)))) := hout.self' ee11
      refine j_goto (tgt := 17) C dL_layerBushels_10 rfl ?_
      refine j_iconst C dL_layerBushels_17 rfl ?_
      exact j_iret C E dL_layerBushels_18 (by omega) (by omega) ⟨by rw [ho], ⟨tg, ad, by rw [ho]; exact hX0.keepO ee11 hot, (fun _ _ => rfl), rfl⟩, ⟨_, u12, fun _ => by rw [ho]; exact ups_u rfl⟩, (Keep.rf : Keep σ σ (fun y => tg y < 1000 ∨ y = o)).put ee11 (Or.inr rfl), fun y hy => by rw [dom_put ee11]; exact (fun _ hy => hy) y hy⟩
set_option maxHeartbeats 8000000 in
set_option maxRecDepth 20000 in
theorem W_layerMoisture (l : Launch) (hfl : l.stackTraces = false) (D : va_G) (cy : Nat → Nat) (σ : Wd) (tg ad : Nat → Nat) (bs : List Bn) (ru : Nat → Int × Int) (se : Int) (pf : Nat → Int) (hd : Hd) (ca : Int) (evs : List Evt) (ln : List Int) (hX0 : RX cy σ tg ad bs ru se pf hd ca evs ln) (o : Nat) (g0 : Nat → Int) (hout : has σ o (lA cy 1 g0)) (hot : 1000 ≤ tg o) (b : Int) (hb9 : (-2147483648 ≤ b ∧ b < 2147483648)) (q : Int) (hq9 : (-2147483648 ≤ q ∧ q < 2147483648)) : CtN l yL_layerMoisture cL_layerMoisture 5 (some .int) [(0, 10, 13, 21)] 8 250 7604 D cy [.ref (ad 0), vi (b), vi (q), .ref o] σ (fun v σ' => v = some (vi (o_layerMoisture bs ru se pf hd ca evs ln b q).1) ∧ (∃ tg' ad' : Nat → Nat, RXs cy σ' tg' ad' (o_layerMoisture bs ru se pf hd ca evs ln b q).2.2 ∧ (∀ y, y ∈ σ.1 → tg' y = tg y) ∧ ad' 0 = ad 0) ∧ (∃ g' : Nat → Int, has σ' o (lA cy 1 g') ∧ ((o_layerMoisture bs ru se pf hd ca evs ln b q).1 = 0 → g' 0 = w32 (o_layerMoisture bs ru se pf hd ca evs ln b q).2.1)) ∧ Keep σ σ' (fun y => tg y < 1000 ∨ y = o) ∧ ∀ y, y ∈ σ.1 → y ∈ σ'.1) noX := by
  refine cth_start (by decide +kernel) hfl rfl (fun κ e1 e2 e3 C E HH HN => ?_)
  subst e1 e2 e3
  have C : Cx κ cL_layerMoisture 5 RL "layerMoisture" 8 := C
  obtain ⟨-, -, -, -, hc, hs⟩ := id E
  show J κ σ [(0, .ref (ad 0)), (1, vi (b)), (2, vi (q)), (3, .ref o)] 0 [] 0 0
  have hXX := hX0
  obtain ⟨⟨x1, x2⟩, -, -, -, -, hO⟩ := hXX
  have h6 := hO.1
  have hlb := hO.2.2.1
  refine j_aload_n 3 C dL_layerMoisture_0 rfl rfl rfl ?_
  refine j_iconst C dL_layerMoisture_1 rfl ?_
  refine j_aload_n 0 C dL_layerMoisture_2 rfl rfl rfl ?_
  refine j_iload_n 1 C dL_layerMoisture_3 rfl rfl rfl ?_
  refine j_iload_n 2 C dL_layerMoisture_4 rfl rfl rfl ?_
  rcases Classical.em (b < 0 ∨ (bs.length : Int) ≤ b) with hq | hq
  · have ho : o_layerMoisture bs ru se pf hd ca evs ln b q = (1, 0, (bs, ru, se, pf, hd, ca, evs, ln)) := by unfold o_layerMoisture; rw [if_pos (by omega)]
    refine j_callV (st' := [vi (0), .ref o]) (As := [vi (b), vi (q)]) C dL_layerMoisture_5 rfl m_L_68 x1 rfl rfl rfl (c_layerMoistureB0 (kL κ) hfl (kD κ) (kc κ) σ tg ad bs ru se pf hd ca evs ln hX0 b hb9 hq q) rfl (by omega) (by omega) (by omega) (fun E9 τ2 hx => ?_) (fun _ _ hx => hx.elim)
    obtain ⟨rfl, hs9⟩ := hx
    replace hs9 := hs9.symm
    subst hs9
    refine j_catch [] (0, 10, 13, 21) [] C HH HN rfl (fun z hz => absurd hz List.not_mem_nil) ⟨by decide, by decide⟩ (by decide) hl_21 hc_21 (fun q9 => ?_)
    refine j_astore (lv' := [(0, .ref (ad 0)), (1, vi (b)), (2, vi (q)), (3, .ref o), (4, .ref q9)]) [1, 2, 3, 4, 0] C dL_layerMoisture_13 rfl rfl rfl ?_
    refine j_iconst C dL_layerMoisture_15 rfl ?_
    exact j_iret C E dL_layerMoisture_16 (by omega) (by omega) ⟨by rw [ho], ⟨tg, ad, by rw [ho]; exact hX0, fun _ _ => rfl, rfl⟩, ⟨g0, hout, fun h9 => by rw [ho] at h9; exact absurd (show (1 : Int) = 0 from h9) (by decide)⟩, Keep.rf, fun _ hy => hy⟩
  · obtain ⟨i, hi, rfl⟩ : ∃ i : Nat, i < bs.length ∧ b = (i : Int) := ⟨b.toNat, by omega, by omega⟩
    rcases Classical.em (q < 0 ∨ ((gB bs (i : Int)).2.2.length : Int) ≤ q) with hq2 | hq2
    · have ho : o_layerMoisture bs ru se pf hd ca evs ln (i : Int) q = (1, 0, (bs, ru, se, pf, hd, ca, evs, ln)) := by unfold o_layerMoisture; rw [if_pos (by omega)]
      refine j_callV (st' := [vi (0), .ref o]) (As := [vi ((i : Int)), vi (q)]) C dL_layerMoisture_5 rfl m_L_68 x1 rfl rfl rfl (c_layerMoistureB (kL κ) hfl (kD κ) (kc κ) σ tg ad bs ru se pf hd ca evs ln hX0 i hi q hq9 hq2) rfl (by omega) (by omega) (by omega) (fun E9 τ5 hx => ?_) (fun _ _ hx => hx.elim)
      obtain ⟨rfl, hs9⟩ := hx
      replace hs9 := hs9.symm
      subst hs9
      refine j_catch [] (0, 10, 13, 21) [] C HH HN rfl (fun z hz => absurd hz List.not_mem_nil) ⟨by decide, by decide⟩ (by decide) hl_21 hc_21 (fun q9 => ?_)
      refine j_astore (lv' := [(0, .ref (ad 0)), (1, vi ((i : Int))), (2, vi (q)), (3, .ref o), (4, .ref q9)]) [1, 2, 3, 4, 0] C dL_layerMoisture_13 rfl rfl rfl ?_
      refine j_iconst C dL_layerMoisture_15 rfl ?_
      exact j_iret C E dL_layerMoisture_16 (by omega) (by omega) ⟨by rw [ho], ⟨tg, ad, by rw [ho]; exact hX0, fun _ _ => rfl, rfl⟩, ⟨g0, hout, fun h9 => by rw [ho] at h9; exact absurd (show (1 : Int) = 0 from h9) (by decide)⟩, Keep.rf, fun _ hy => hy⟩
    · have ho : o_layerMoisture bs ru se pf hd ca evs ln (i : Int) q = (0, (lyAt (fl (gB bs (i : Int))) q).2.1, (bs, ru, se, pf, hd, ca, evs, ln)) := by unfold o_layerMoisture; rw [if_neg (by omega)]
      refine j_callV (st' := [vi (0), .ref o]) (As := [vi ((i : Int)), vi (q)]) C dL_layerMoisture_5 rfl m_L_68 x1 rfl rfl rfl (c_layerMoisture (kL κ) hfl (kD κ) (kc κ) σ tg ad bs ru se pf hd ca evs ln hX0 i hi q ⟨by omega, by omega⟩) rfl (by omega) (by omega) (by omega) (fun _ _ hx => hx.elim) (fun v8 τ7 hp9 => ?_)
      obtain ⟨rfl, hs9⟩ := hp9
      replace hs9 := hs9.symm
      subst hs9
      show J κ σ [(0, .ref (ad 0)), (1, vi ((i : Int))), (2, vi (q)), (3, .ref o)] 8 [vi ((lyAt (fl (gB bs (i : Int))) q).2.1), vi (0), .ref o] _ _
      rw [vi_w ((lyAt (fl (gB bs (i : Int))) q).2.1)]
      refine j_i2l C dL_layerMoisture_8 rfl (w32_in _) ?_
      refine j_last C dL_layerMoisture_9 rfl hout ⟨by omega, by omega⟩ (by omega) (fun τ10 ee11 => ?_)
      have u12 : has τ10 o (lA (kc κ) 1 (ups g0 0 (w32 ((lyAt (fl (gB bs (i : Int))) q).2.1)))) := hout.self' ee11
      refine j_goto (tgt := 17) C dL_layerMoisture_10 rfl ?_
      refine j_iconst C dL_layerMoisture_17 rfl ?_
      exact j_iret C E dL_layerMoisture_18 (by omega) (by omega) ⟨by rw [ho], ⟨tg, ad, by rw [ho]; exact hX0.keepO ee11 hot, (fun _ _ => rfl), rfl⟩, ⟨_, u12, fun _ => by rw [ho]; exact ups_u rfl⟩, (Keep.rf : Keep σ σ (fun y => tg y < 1000 ∨ y = o)).put ee11 (Or.inr rfl), fun y hy => by rw [dom_put ee11]; exact (fun _ hy => hy) y hy⟩
set_option maxHeartbeats 8000000 in
set_option maxRecDepth 20000 in
theorem W_layerForeign (l : Launch) (hfl : l.stackTraces = false) (D : va_G) (cy : Nat → Nat) (σ : Wd) (tg ad : Nat → Nat) (bs : List Bn) (ru : Nat → Int × Int) (se : Int) (pf : Nat → Int) (hd : Hd) (ca : Int) (evs : List Evt) (ln : List Int) (hX0 : RX cy σ tg ad bs ru se pf hd ca evs ln) (o : Nat) (g0 : Nat → Int) (hout : has σ o (lA cy 1 g0)) (hot : 1000 ≤ tg o) (b : Int) (hb9 : (-2147483648 ≤ b ∧ b < 2147483648)) (q : Int) (hq9 : (-2147483648 ≤ q ∧ q < 2147483648)) : CtN l yL_layerForeign cL_layerForeign 5 (some .int) [(0, 10, 13, 21)] 8 250 7604 D cy [.ref (ad 0), vi (b), vi (q), .ref o] σ (fun v σ' => v = some (vi (o_layerForeign bs ru se pf hd ca evs ln b q).1) ∧ (∃ tg' ad' : Nat → Nat, RXs cy σ' tg' ad' (o_layerForeign bs ru se pf hd ca evs ln b q).2.2 ∧ (∀ y, y ∈ σ.1 → tg' y = tg y) ∧ ad' 0 = ad 0) ∧ (∃ g' : Nat → Int, has σ' o (lA cy 1 g') ∧ ((o_layerForeign bs ru se pf hd ca evs ln b q).1 = 0 → g' 0 = w32 (o_layerForeign bs ru se pf hd ca evs ln b q).2.1)) ∧ Keep σ σ' (fun y => tg y < 1000 ∨ y = o) ∧ ∀ y, y ∈ σ.1 → y ∈ σ'.1) noX := by
  refine cth_start (by decide +kernel) hfl rfl (fun κ e1 e2 e3 C E HH HN => ?_)
  subst e1 e2 e3
  have C : Cx κ cL_layerForeign 5 RL "layerForeign" 8 := C
  obtain ⟨-, -, -, -, hc, hs⟩ := id E
  show J κ σ [(0, .ref (ad 0)), (1, vi (b)), (2, vi (q)), (3, .ref o)] 0 [] 0 0
  have hXX := hX0
  obtain ⟨⟨x1, x2⟩, -, -, -, -, hO⟩ := hXX
  have h6 := hO.1
  have hlb := hO.2.2.1
  refine j_aload_n 3 C dL_layerForeign_0 rfl rfl rfl ?_
  refine j_iconst C dL_layerForeign_1 rfl ?_
  refine j_aload_n 0 C dL_layerForeign_2 rfl rfl rfl ?_
  refine j_iload_n 1 C dL_layerForeign_3 rfl rfl rfl ?_
  refine j_iload_n 2 C dL_layerForeign_4 rfl rfl rfl ?_
  rcases Classical.em (b < 0 ∨ (bs.length : Int) ≤ b) with hq | hq
  · have ho : o_layerForeign bs ru se pf hd ca evs ln b q = (1, 0, (bs, ru, se, pf, hd, ca, evs, ln)) := by unfold o_layerForeign; rw [if_pos (by omega)]
    refine j_callV (st' := [vi (0), .ref o]) (As := [vi (b), vi (q)]) C dL_layerForeign_5 rfl m_L_71 x1 rfl rfl rfl (c_layerForeignB0 (kL κ) hfl (kD κ) (kc κ) σ tg ad bs ru se pf hd ca evs ln hX0 b hb9 hq q) rfl (by omega) (by omega) (by omega) (fun E9 τ2 hx => ?_) (fun _ _ hx => hx.elim)
    obtain ⟨rfl, hs9⟩ := hx
    replace hs9 := hs9.symm
    subst hs9
    refine j_catch [] (0, 10, 13, 21) [] C HH HN rfl (fun z hz => absurd hz List.not_mem_nil) ⟨by decide, by decide⟩ (by decide) hl_21 hc_21 (fun q9 => ?_)
    refine j_astore (lv' := [(0, .ref (ad 0)), (1, vi (b)), (2, vi (q)), (3, .ref o), (4, .ref q9)]) [1, 2, 3, 4, 0] C dL_layerForeign_13 rfl rfl rfl ?_
    refine j_iconst C dL_layerForeign_15 rfl ?_
    exact j_iret C E dL_layerForeign_16 (by omega) (by omega) ⟨by rw [ho], ⟨tg, ad, by rw [ho]; exact hX0, fun _ _ => rfl, rfl⟩, ⟨g0, hout, fun h9 => by rw [ho] at h9; exact absurd (show (1 : Int) = 0 from h9) (by decide)⟩, Keep.rf, fun _ hy => hy⟩
  · obtain ⟨i, hi, rfl⟩ : ∃ i : Nat, i < bs.length ∧ b = (i : Int) := ⟨b.toNat, by omega, by omega⟩
    rcases Classical.em (q < 0 ∨ ((gB bs (i : Int)).2.2.length : Int) ≤ q) with hq2 | hq2
    · have ho : o_layerForeign bs ru se pf hd ca evs ln (i : Int) q = (1, 0, (bs, ru, se, pf, hd, ca, evs, ln)) := by unfold o_layerForeign; rw [if_pos (by omega)]
      refine j_callV (st' := [vi (0), .ref o]) (As := [vi ((i : Int)), vi (q)]) C dL_layerForeign_5 rfl m_L_71 x1 rfl rfl rfl (c_layerForeignB (kL κ) hfl (kD κ) (kc κ) σ tg ad bs ru se pf hd ca evs ln hX0 i hi q hq9 hq2) rfl (by omega) (by omega) (by omega) (fun E9 τ5 hx => ?_) (fun _ _ hx => hx.elim)
      obtain ⟨rfl, hs9⟩ := hx
      replace hs9 := hs9.symm
      subst hs9
      refine j_catch [] (0, 10, 13, 21) [] C HH HN rfl (fun z hz => absurd hz List.not_mem_nil) ⟨by decide, by decide⟩ (by decide) hl_21 hc_21 (fun q9 => ?_)
      refine j_astore (lv' := [(0, .ref (ad 0)), (1, vi ((i : Int))), (2, vi (q)), (3, .ref o), (4, .ref q9)]) [1, 2, 3, 4, 0] C dL_layerForeign_13 rfl rfl rfl ?_
      refine j_iconst C dL_layerForeign_15 rfl ?_
      exact j_iret C E dL_layerForeign_16 (by omega) (by omega) ⟨by rw [ho], ⟨tg, ad, by rw [ho]; exact hX0, fun _ _ => rfl, rfl⟩, ⟨g0, hout, fun h9 => by rw [ho] at h9; exact absurd (show (1 : Int) = 0 from h9) (by decide)⟩, Keep.rf, fun _ hy => hy⟩
    · have ho : o_layerForeign bs ru se pf hd ca evs ln (i : Int) q = (0, (lyAt (fl (gB bs (i : Int))) q).2.2.1, (bs, ru, se, pf, hd, ca, evs, ln)) := by unfold o_layerForeign; rw [if_neg (by omega)]
      refine j_callV (st' := [vi (0), .ref o]) (As := [vi ((i : Int)), vi (q)]) C dL_layerForeign_5 rfl m_L_71 x1 rfl rfl rfl (c_layerForeign (kL κ) hfl (kD κ) (kc κ) σ tg ad bs ru se pf hd ca evs ln hX0 i hi q ⟨by omega, by omega⟩) rfl (by omega) (by omega) (by omega) (fun _ _ hx => hx.elim) (fun v8 τ7 hp9 => ?_)
      obtain ⟨rfl, hs9⟩ := hp9
      replace hs9 := hs9.symm
      subst hs9
      show J κ σ [(0, .ref (ad 0)), (1, vi ((i : Int))), (2, vi (q)), (3, .ref o)] 8 [vi ((lyAt (fl (gB bs (i : Int))) q).2.2.1), vi (0), .ref o] _ _
      rw [vi_w ((lyAt (fl (gB bs (i : Int))) q).2.2.1)]
      refine j_i2l C dL_layerForeign_8 rfl (w32_in _) ?_
      refine j_last C dL_layerForeign_9 rfl hout ⟨by omega, by omega⟩ (by omega) (fun τ10 ee11 => ?_)
      have u12 : has τ10 o (lA (kc κ) 1 (ups g0 0 (w32 ((lyAt (fl (gB bs (i : Int))) q).2.2.1)))) := hout.self' ee11
      refine j_goto (tgt := 17) C dL_layerForeign_10 rfl ?_
      refine j_iconst C dL_layerForeign_17 rfl ?_
      exact j_iret C E dL_layerForeign_18 (by omega) (by omega) ⟨by rw [ho], ⟨tg, ad, by rw [ho]; exact hX0.keepO ee11 hot, (fun _ _ => rfl), rfl⟩, ⟨_, u12, fun _ => by rw [ho]; exact ups_u rfl⟩, (Keep.rf : Keep σ σ (fun y => tg y < 1000 ∨ y = o)).put ee11 (Or.inr rfl), fun y hy => by rw [dom_put ee11]; exact (fun _ hy => hy) y hy⟩
set_option maxHeartbeats 8000000 in
set_option maxRecDepth 20000 in
theorem W_layerGrade (l : Launch) (hfl : l.stackTraces = false) (D : va_G) (cy : Nat → Nat) (σ : Wd) (tg ad : Nat → Nat) (bs : List Bn) (ru : Nat → Int × Int) (se : Int) (pf : Nat → Int) (hd : Hd) (ca : Int) (evs : List Evt) (ln : List Int) (hX0 : RX cy σ tg ad bs ru se pf hd ca evs ln) (o : Nat) (g0 : Nat → Int) (hout : has σ o (lA cy 1 g0)) (hot : 1000 ≤ tg o) (b : Int) (hb9 : (-2147483648 ≤ b ∧ b < 2147483648)) (q : Int) (hq9 : (-2147483648 ≤ q ∧ q < 2147483648)) : CtN l yL_layerGrade cL_layerGrade 5 (some .int) [(0, 10, 13, 21)] 8 250 7604 D cy [.ref (ad 0), vi (b), vi (q), .ref o] σ (fun v σ' => v = some (vi (o_layerGrade bs ru se pf hd ca evs ln b q).1) ∧ (∃ tg' ad' : Nat → Nat, RXs cy σ' tg' ad' (o_layerGrade bs ru se pf hd ca evs ln b q).2.2 ∧ (∀ y, y ∈ σ.1 → tg' y = tg y) ∧ ad' 0 = ad 0) ∧ (∃ g' : Nat → Int, has σ' o (lA cy 1 g') ∧ ((o_layerGrade bs ru se pf hd ca evs ln b q).1 = 0 → g' 0 = w32 (o_layerGrade bs ru se pf hd ca evs ln b q).2.1)) ∧ Keep σ σ' (fun y => tg y < 1000 ∨ y = o) ∧ ∀ y, y ∈ σ.1 → y ∈ σ'.1) noX := by
  refine cth_start (by decide +kernel) hfl rfl (fun κ e1 e2 e3 C E HH HN => ?_)
  subst e1 e2 e3
  have C : Cx κ cL_layerGrade 5 RL "layerGrade" 8 := C
  obtain ⟨-, -, -, -, hc, hs⟩ := id E
  show J κ σ [(0, .ref (ad 0)), (1, vi (b)), (2, vi (q)), (3, .ref o)] 0 [] 0 0
  have hXX := hX0
  obtain ⟨⟨x1, x2⟩, -, -, -, -, hO⟩ := hXX
  have h6 := hO.1
  have hlb := hO.2.2.1
  refine j_aload_n 3 C dL_layerGrade_0 rfl rfl rfl ?_
  refine j_iconst C dL_layerGrade_1 rfl ?_
  refine j_aload_n 0 C dL_layerGrade_2 rfl rfl rfl ?_
  refine j_iload_n 1 C dL_layerGrade_3 rfl rfl rfl ?_
  refine j_iload_n 2 C dL_layerGrade_4 rfl rfl rfl ?_
  rcases Classical.em (b < 0 ∨ (bs.length : Int) ≤ b) with hq | hq
  · have ho : o_layerGrade bs ru se pf hd ca evs ln b q = (1, 0, (bs, ru, se, pf, hd, ca, evs, ln)) := by unfold o_layerGrade; rw [if_pos (by omega)]
    refine j_callV (st' := [vi (0), .ref o]) (As := [vi (b), vi (q)]) C dL_layerGrade_5 rfl m_L_74 x1 rfl rfl rfl (c_layerGradeB0 (kL κ) hfl (kD κ) (kc κ) σ tg ad bs ru se pf hd ca evs ln hX0 b hb9 hq q) rfl (by omega) (by omega) (by omega) (fun E9 τ2 hx => ?_) (fun _ _ hx => hx.elim)
    obtain ⟨rfl, hs9⟩ := hx
    replace hs9 := hs9.symm
    subst hs9
    refine j_catch [] (0, 10, 13, 21) [] C HH HN rfl (fun z hz => absurd hz List.not_mem_nil) ⟨by decide, by decide⟩ (by decide) hl_21 hc_21 (fun q9 => ?_)
    refine j_astore (lv' := [(0, .ref (ad 0)), (1, vi (b)), (2, vi (q)), (3, .ref o), (4, .ref q9)]) [1, 2, 3, 4, 0] C dL_layerGrade_13 rfl rfl rfl ?_
    refine j_iconst C dL_layerGrade_15 rfl ?_
    exact j_iret C E dL_layerGrade_16 (by omega) (by omega) ⟨by rw [ho], ⟨tg, ad, by rw [ho]; exact hX0, fun _ _ => rfl, rfl⟩, ⟨g0, hout, fun h9 => by rw [ho] at h9; exact absurd (show (1 : Int) = 0 from h9) (by decide)⟩, Keep.rf, fun _ hy => hy⟩
  · obtain ⟨i, hi, rfl⟩ : ∃ i : Nat, i < bs.length ∧ b = (i : Int) := ⟨b.toNat, by omega, by omega⟩
    rcases Classical.em (q < 0 ∨ ((gB bs (i : Int)).2.2.length : Int) ≤ q) with hq2 | hq2
    · have ho : o_layerGrade bs ru se pf hd ca evs ln (i : Int) q = (1, 0, (bs, ru, se, pf, hd, ca, evs, ln)) := by unfold o_layerGrade; rw [if_pos (by omega)]
      refine j_callV (st' := [vi (0), .ref o]) (As := [vi ((i : Int)), vi (q)]) C dL_layerGrade_5 rfl m_L_74 x1 rfl rfl rfl (c_layerGradeB (kL κ) hfl (kD κ) (kc κ) σ tg ad bs ru se pf hd ca evs ln hX0 i hi q hq9 hq2) rfl (by omega) (by omega) (by omega) (fun E9 τ5 hx => ?_) (fun _ _ hx => hx.elim)
      obtain ⟨rfl, hs9⟩ := hx
      replace hs9 := hs9.symm
      subst hs9
      refine j_catch [] (0, 10, 13, 21) [] C HH HN rfl (fun z hz => absurd hz List.not_mem_nil) ⟨by decide, by decide⟩ (by decide) hl_21 hc_21 (fun q9 => ?_)
      refine j_astore (lv' := [(0, .ref (ad 0)), (1, vi ((i : Int))), (2, vi (q)), (3, .ref o), (4, .ref q9)]) [1, 2, 3, 4, 0] C dL_layerGrade_13 rfl rfl rfl ?_
      refine j_iconst C dL_layerGrade_15 rfl ?_
      exact j_iret C E dL_layerGrade_16 (by omega) (by omega) ⟨by rw [ho], ⟨tg, ad, by rw [ho]; exact hX0, fun _ _ => rfl, rfl⟩, ⟨g0, hout, fun h9 => by rw [ho] at h9; exact absurd (show (1 : Int) = 0 from h9) (by decide)⟩, Keep.rf, fun _ hy => hy⟩
    · have ho : o_layerGrade bs ru se pf hd ca evs ln (i : Int) q = (0, (lyAt (fl (gB bs (i : Int))) q).2.2.2, (bs, ru, se, pf, hd, ca, evs, ln)) := by unfold o_layerGrade; rw [if_neg (by omega)]
      refine j_callV (st' := [vi (0), .ref o]) (As := [vi ((i : Int)), vi (q)]) C dL_layerGrade_5 rfl m_L_74 x1 rfl rfl rfl (c_layerGrade (kL κ) hfl (kD κ) (kc κ) σ tg ad bs ru se pf hd ca evs ln hX0 i hi q ⟨by omega, by omega⟩) rfl (by omega) (by omega) (by omega) (fun _ _ hx => hx.elim) (fun v8 τ7 hp9 => ?_)
      obtain ⟨rfl, hs9⟩ := hp9
      replace hs9 := hs9.symm
      subst hs9
      show J κ σ [(0, .ref (ad 0)), (1, vi ((i : Int))), (2, vi (q)), (3, .ref o)] 8 [vi ((lyAt (fl (gB bs (i : Int))) q).2.2.2), vi (0), .ref o] _ _
      rw [vi_w ((lyAt (fl (gB bs (i : Int))) q).2.2.2)]
      refine j_i2l C dL_layerGrade_8 rfl (w32_in _) ?_
      refine j_last C dL_layerGrade_9 rfl hout ⟨by omega, by omega⟩ (by omega) (fun τ10 ee11 => ?_)
      have u12 : has τ10 o (lA (kc κ) 1 (ups g0 0 (w32 ((lyAt (fl (gB bs (i : Int))) q).2.2.2)))) := hout.self' ee11
      refine j_goto (tgt := 17) C dL_layerGrade_10 rfl ?_
      refine j_iconst C dL_layerGrade_17 rfl ?_
      exact j_iret C E dL_layerGrade_18 (by omega) (by omega) ⟨by rw [ho], ⟨tg, ad, by rw [ho]; exact hX0.keepO ee11 hot, (fun _ _ => rfl), rfl⟩, ⟨_, u12, fun _ => by rw [ho]; exact ups_u rfl⟩, (Keep.rf : Keep σ σ (fun y => tg y < 1000 ∨ y = o)).put ee11 (Or.inr rfl), fun y hy => by rw [dom_put ee11]; exact (fun _ hy => hy) y hy⟩
set_option maxHeartbeats 8000000 in
set_option maxRecDepth 20000 in
theorem W_layerAnew (l : Launch) (hfl : l.stackTraces = false) (D : va_G) (cy : Nat → Nat) (σ : Wd) (tg ad : Nat → Nat) (bs : List Bn) (ru : Nat → Int × Int) (se : Int) (pf : Nat → Int) (hd : Hd) (ca : Int) (evs : List Evt) (ln : List Int) (hX0 : RX cy σ tg ad bs ru se pf hd ca evs ln) (o : Nat) (g0 : Nat → Int) (hout : has σ o (lA cy 1 g0)) (hot : 1000 ≤ tg o) (b : Int) (hb9 : (-2147483648 ≤ b ∧ b < 2147483648)) (q : Int) (hq9 : (-2147483648 ≤ q ∧ q < 2147483648)) : CtN l yL_layerAnew cL_layerAnew 5 (some .int) [(0, 10, 13, 21)] 8 250 7604 D cy [.ref (ad 0), vi (b), vi (q), .ref o] σ (fun v σ' => v = some (vi (o_layerBushels bs ru se pf hd ca evs ln b q).1) ∧ (∃ tg' ad' : Nat → Nat, RXs cy σ' tg' ad' (o_layerBushels bs ru se pf hd ca evs ln b q).2.2 ∧ (∀ y, y ∈ σ.1 → tg' y = tg y) ∧ ad' 0 = ad 0) ∧ (∃ g' : Nat → Int, has σ' o (lA cy 1 g') ∧ ((o_layerBushels bs ru se pf hd ca evs ln b q).1 = 0 → g' 0 = w32 (o_layerBushels bs ru se pf hd ca evs ln b q).2.1)) ∧ Keep σ σ' (fun y => tg y < 1000 ∨ y = o) ∧ ∀ y, y ∈ σ.1 → y ∈ σ'.1) noX := by
  refine cth_start (by decide +kernel) hfl rfl (fun κ e1 e2 e3 C E HH HN => ?_)
  subst e1 e2 e3
  have C : Cx κ cL_layerAnew 5 RL "layerAnew" 8 := C
  obtain ⟨-, -, -, -, hc, hs⟩ := id E
  show J κ σ [(0, .ref (ad 0)), (1, vi (b)), (2, vi (q)), (3, .ref o)] 0 [] 0 0
  have hXX := hX0
  obtain ⟨⟨x1, x2⟩, -, -, -, -, hO⟩ := hXX
  have h6 := hO.1
  have hlb := hO.2.2.1
  refine j_aload_n 3 C dL_layerAnew_0 rfl rfl rfl ?_
  refine j_iconst C dL_layerAnew_1 rfl ?_
  refine j_aload_n 0 C dL_layerAnew_2 rfl rfl rfl ?_
  refine j_iload_n 1 C dL_layerAnew_3 rfl rfl rfl ?_
  refine j_iload_n 2 C dL_layerAnew_4 rfl rfl rfl ?_
  rcases Classical.em (b < 0 ∨ (bs.length : Int) ≤ b) with hq | hq
  · have ho : o_layerBushels bs ru se pf hd ca evs ln b q = (1, 0, (bs, ru, se, pf, hd, ca, evs, ln)) := by unfold o_layerBushels; rw [if_pos (by omega)]
    refine j_callV (st' := [vi (0), .ref o]) (As := [vi (b), vi (q)]) C dL_layerAnew_5 rfl m_L_65 x1 rfl rfl rfl (c_layerAnewB0 (kL κ) hfl (kD κ) (kc κ) σ tg ad bs ru se pf hd ca evs ln hX0 b hb9 hq q) rfl (by omega) (by omega) (by omega) (fun E9 τ2 hx => ?_) (fun _ _ hx => hx.elim)
    obtain ⟨rfl, hR1, hK1, hd1⟩ := hx
    refine j_catch [] (0, 10, 13, 21) [] C HH HN rfl (fun z hz => absurd hz List.not_mem_nil) ⟨by decide, by decide⟩ (by decide) hl_21 hc_21 (fun q9 => ?_)
    refine j_astore (lv' := [(0, .ref (ad 0)), (1, vi (b)), (2, vi (q)), (3, .ref o), (4, .ref q9)]) [1, 2, 3, 4, 0] C dL_layerAnew_13 rfl rfl rfl ?_
    refine j_iconst C dL_layerAnew_15 rfl ?_
    exact j_iret C E dL_layerAnew_16 (by omega) (by omega) ⟨by rw [ho], ⟨tg, ad, by rw [ho]; exact hR1, fun _ _ => rfl, rfl⟩, ⟨g0, hK1 _ _ hout (fun z => by have z1 := z.2; omega), fun h9 => by rw [ho] at h9; exact absurd (show (1 : Int) = 0 from h9) (by decide)⟩, hK1.mono (fun y z => Or.inl (by have z1 := z.2; show tg y < 1000; omega)), fun y hy => by rw [hd1]; exact hy⟩
  · obtain ⟨i, hi, rfl⟩ : ∃ i : Nat, i < bs.length ∧ b = (i : Int) := ⟨b.toNat, by omega, by omega⟩
    rcases Classical.em (q < 0 ∨ ((gB bs (i : Int)).2.2.length : Int) ≤ q) with hq2 | hq2
    · have ho : o_layerBushels bs ru se pf hd ca evs ln (i : Int) q = (1, 0, (bs, ru, se, pf, hd, ca, evs, ln)) := by unfold o_layerBushels; rw [if_pos (by omega)]
      refine j_callV (st' := [vi (0), .ref o]) (As := [vi ((i : Int)), vi (q)]) C dL_layerAnew_5 rfl m_L_65 x1 rfl rfl rfl (c_layerAnewB (kL κ) hfl (kD κ) (kc κ) σ tg ad bs ru se pf hd ca evs ln hX0 i hi q hq9 hq2) rfl (by omega) (by omega) (by omega) (fun E9 τ5 hx => ?_) (fun _ _ hx => hx.elim)
      obtain ⟨rfl, hR1, hK1, hd1⟩ := hx
      refine j_catch [] (0, 10, 13, 21) [] C HH HN rfl (fun z hz => absurd hz List.not_mem_nil) ⟨by decide, by decide⟩ (by decide) hl_21 hc_21 (fun q9 => ?_)
      refine j_astore (lv' := [(0, .ref (ad 0)), (1, vi ((i : Int))), (2, vi (q)), (3, .ref o), (4, .ref q9)]) [1, 2, 3, 4, 0] C dL_layerAnew_13 rfl rfl rfl ?_
      refine j_iconst C dL_layerAnew_15 rfl ?_
      exact j_iret C E dL_layerAnew_16 (by omega) (by omega) ⟨by rw [ho], ⟨tg, ad, by rw [ho]; exact hR1, fun _ _ => rfl, rfl⟩, ⟨g0, hK1 _ _ hout (fun z => by have z1 := z.2; omega), fun h9 => by rw [ho] at h9; exact absurd (show (1 : Int) = 0 from h9) (by decide)⟩, hK1.mono (fun y z => Or.inl (by have z1 := z.2; show tg y < 1000; omega)), fun y hy => by rw [hd1]; exact hy⟩
    · have ho : o_layerBushels bs ru se pf hd ca evs ln (i : Int) q = (0, (lyAt (fl (gB bs (i : Int))) q).1, (bs, ru, se, pf, hd, ca, evs, ln)) := by unfold o_layerBushels; rw [if_neg (by omega)]
      refine j_callV (st' := [vi (0), .ref o]) (As := [vi ((i : Int)), vi (q)]) C dL_layerAnew_5 rfl m_L_65 x1 rfl rfl rfl (c_layerAnew (kL κ) hfl (kD κ) (kc κ) σ tg ad bs ru se pf hd ca evs ln hX0 i hi q ⟨by omega, by omega⟩) rfl (by omega) (by omega) (by omega) (fun _ _ hx => hx.elim) (fun v8 τ7 hp9 => ?_)
      obtain ⟨rfl, hR1, hK1, hd1⟩ := hp9
      have ho1 := hK1 _ _ hout (fun z => by have z1 := z.2; omega)
      have hmm1 : ∀ y, y ∈ σ.1 → y ∈ τ7.1 := fun y hy => by rw [hd1]; exact hy
      show J κ τ7 [(0, .ref (ad 0)), (1, vi ((i : Int))), (2, vi (q)), (3, .ref o)] 8 [vi ((lyAt (fl (gB bs (i : Int))) q).1), vi (0), .ref o] _ _
      rw [vi_w ((lyAt (fl (gB bs (i : Int))) q).1)]
      refine j_i2l C dL_layerAnew_8 rfl (w32_in _) ?_
      refine j_last C dL_layerAnew_9 rfl ho1 ⟨by omega, by omega⟩ (by omega) (fun τ10 ee11 => ?_)
      have u12 : has τ10 o (lA (kc κ) 1 (ups g0 0 (w32 ((lyAt (fl (gB bs (i : Int))) q).1)))) := ho1.self' ee11
      refine j_goto (tgt := 17) C dL_layerAnew_10 rfl ?_
      refine j_iconst C dL_layerAnew_17 rfl ?_
      exact j_iret C E dL_layerAnew_18 (by omega) (by omega) ⟨by rw [ho], ⟨tg, ad, by rw [ho]; exact hR1.keepO ee11 hot, (fun _ _ => rfl), rfl⟩, ⟨_, u12, fun _ => by rw [ho]; exact ups_u rfl⟩, (hK1.mono (fun y z => Or.inl (by have z1 := z.2; show tg y < 1000; omega)) : Keep σ τ7 (fun y => tg y < 1000 ∨ y = o)).put ee11 (Or.inr rfl), fun y hy => by rw [dom_put ee11]; exact hmm1 y hy⟩
set_option maxHeartbeats 8000000 in
set_option maxRecDepth 20000 in
theorem W_setFutures (l : Launch) (hfl : l.stackTraces = false) (D : va_G) (cy : Nat → Nat) (σ : Wd) (tg ad : Nat → Nat) (bs : List Bn) (ru : Nat → Int × Int) (se : Int) (pf : Nat → Int) (hd : Hd) (ca : Int) (evs : List Evt) (ln : List Int) (hX0 : RX cy σ tg ad bs ru se pf hd ca evs ln) (o : Nat) (g0 : Nat → Int) (hout : has σ o (lA cy 1 g0)) (hot : 1000 ≤ tg o) (z : Int) (hz9 : (-2147483648 ≤ z ∧ z < 2147483648)) : CtN l yL_setFutures cL_setFutures 4 (some .int) [(0, 9, 12, 13)] 8 250 7604 D cy [.ref (ad 0), vi (z), .ref o] σ (fun v σ' => v = some (vi (o_setFutures bs ru se pf hd ca evs ln z).1) ∧ (∃ tg' ad' : Nat → Nat, RXs cy σ' tg' ad' (o_setFutures bs ru se pf hd ca evs ln z).2.2 ∧ (∀ y, y ∈ σ.1 → tg' y = tg y) ∧ ad' 0 = ad 0) ∧ (∃ g' : Nat → Int, has σ' o (lA cy 1 g') ∧ ((o_setFutures bs ru se pf hd ca evs ln z).1 = 0 → g' 0 = w32 (o_setFutures bs ru se pf hd ca evs ln z).2.1)) ∧ Keep σ σ' (fun y => tg y < 1000 ∨ y = o) ∧ ∀ y, y ∈ σ.1 → y ∈ σ'.1) noX := by
  refine cth_start (by decide +kernel) hfl rfl (fun κ e1 e2 e3 C E HH HN => ?_)
  subst e1 e2 e3
  have C : Cx κ cL_setFutures 4 RL "setFutures" 8 := C
  obtain ⟨-, -, -, -, hc, hs⟩ := id E
  show J κ σ [(0, .ref (ad 0)), (1, vi (z)), (2, .ref o)] 0 [] 0 0
  have hXX := hX0
  obtain ⟨⟨x1, x2⟩, -, -, -, -, hO⟩ := hXX
  have h6 := hO.1
  have hlb := hO.2.2.1
  refine j_aload_n 2 C dL_setFutures_0 rfl rfl rfl ?_
  refine j_iconst C dL_setFutures_1 rfl ?_
  refine j_aload_n 0 C dL_setFutures_2 rfl rfl rfl ?_
  refine j_iload_n 1 C dL_setFutures_3 rfl rfl rfl ?_
  rcases Classical.em (z < 0 ∨ 2000 < z) with hq | hq
  · have ho : o_setFutures bs ru se pf hd ca evs ln z = (1, 0, (bs, ru, se, pf, hd, ca, evs, ln)) := by unfold o_setFutures; rw [if_pos (by omega)]
    refine j_callV (st' := [vi (0), .ref o]) (As := [vi (z)]) C dL_setFutures_4 rfl m_L_101 x1 rfl rfl rfl (c_setFuturesB (kL κ) hfl (kD κ) (kc κ) σ tg ad bs ru se pf hd ca evs ln hX0 z hz9 hq) rfl (by omega) (by omega) (by omega) (fun E9 τ2 hx => ?_) (fun _ _ hx => hx.elim)
    obtain ⟨rfl, hs9⟩ := hx
    replace hs9 := hs9.symm
    subst hs9
    refine j_catch [] (0, 9, 12, 13) [] C HH HN rfl (fun z hz => absurd hz List.not_mem_nil) ⟨by decide, by decide⟩ (by decide) hl_13 hc_13 (fun q9 => ?_)
    refine j_astore_n (lv' := [(0, .ref (ad 0)), (1, vi (z)), (2, .ref o), (3, .ref q9)]) [1, 2, 3, 0] C dL_setFutures_12 rfl rfl rfl rfl ?_
    refine j_iconst C dL_setFutures_13 rfl ?_
    exact j_iret C E dL_setFutures_14 (by omega) (by omega) ⟨by rw [ho], ⟨tg, ad, by rw [ho]; exact hX0, fun _ _ => rfl, rfl⟩, ⟨g0, hout, fun h9 => by rw [ho] at h9; exact absurd (show (1 : Int) = 0 from h9) (by decide)⟩, Keep.rf, fun _ hy => hy⟩
  · have ho : o_setFutures bs ru se pf hd ca evs ln z = (0, hd.2.2.2.1, (bs, ru, se, pf, hdP hd z, ca, evs, ln)) := by unfold o_setFutures; rw [if_neg (by omega)]
    refine j_callV (st' := [vi (0), .ref o]) (As := [vi (z)]) C dL_setFutures_4 rfl m_L_101 x1 rfl rfl rfl (c_setFutures (kL κ) hfl (kD κ) (kc κ) σ tg ad bs ru se pf hd ca evs ln hX0 z hz9 ⟨by omega, by omega⟩) rfl (by omega) (by omega) (by omega) (fun _ _ hx => hx.elim) (fun v5 τ4 hp6 => ?_)
    obtain ⟨rfl, hR1, hK1, hd1⟩ := hp6
    have ho1 := hK1 _ _ hout (fun z => by have z1 : tg o < 1000 := z; omega)
    have hmm1 : ∀ y, y ∈ σ.1 → y ∈ τ4.1 := fun y hy => by rw [hd1]; exact hy
    show J κ τ4 [(0, .ref (ad 0)), (1, vi (z)), (2, .ref o)] 7 [vi (hd.2.2.2.1), vi (0), .ref o] _ _
    rw [vi_w (hd.2.2.2.1)]
    refine j_i2l C dL_setFutures_7 rfl (w32_in _) ?_
    refine j_last C dL_setFutures_8 rfl ho1 ⟨by omega, by omega⟩ (by omega) (fun τ7 ee8 => ?_)
    have u9 : has τ7 o (lA (kc κ) 1 (ups g0 0 (w32 (hd.2.2.2.1)))) := ho1.self' ee8
    refine j_goto (tgt := 15) C dL_setFutures_9 rfl ?_
    refine j_iconst C dL_setFutures_15 rfl ?_
    exact j_iret C E dL_setFutures_16 (by omega) (by omega) ⟨by rw [ho], ⟨tg, ad, by rw [ho]; exact hR1.keepO ee8 hot, (fun _ _ => rfl), rfl⟩, ⟨_, u9, fun _ => by rw [ho]; exact ups_u rfl⟩, (hK1.mono (fun _ z => Or.inl z) : Keep σ τ4 (fun y => tg y < 1000 ∨ y = o)).put ee8 (Or.inr rfl), fun y hy => by rw [dom_put ee8]; exact hmm1 y hy⟩
set_option maxHeartbeats 8000000 in
set_option maxRecDepth 20000 in
theorem W_tradeAt (l : Launch) (hfl : l.stackTraces = false) (D : va_G) (cy : Nat → Nat) (σ : Wd) (tg ad : Nat → Nat) (bs : List Bn) (ru : Nat → Int × Int) (se : Int) (pf : Nat → Int) (hd : Hd) (ca : Int) (evs : List Evt) (ln : List Int) (hX0 : RX cy σ tg ad bs ru se pf hd ca evs ln) (o : Nat) (g0 : Nat → Int) (hout : has σ o (lA cy 1 g0)) (hot : 1000 ≤ tg o) (z : Int) (hz9 : (-2147483648 ≤ z ∧ z < 2147483648)) : CtN l yL_tradeAt cL_tradeAt 4 (some .int) [(0, 9, 12, 21)] 8 250 7604 D cy [.ref (ad 0), vi (z), .ref o] σ (fun v σ' => v = some (vi (o_tradeAt bs ru se pf hd ca evs ln z).1) ∧ (∃ tg' ad' : Nat → Nat, RXs cy σ' tg' ad' (o_tradeAt bs ru se pf hd ca evs ln z).2.2 ∧ (∀ y, y ∈ σ.1 → tg' y = tg y) ∧ ad' 0 = ad 0) ∧ (∃ g' : Nat → Int, has σ' o (lA cy 1 g') ∧ ((o_tradeAt bs ru se pf hd ca evs ln z).1 = 0 → g' 0 = w32 (o_tradeAt bs ru se pf hd ca evs ln z).2.1)) ∧ Keep σ σ' (fun y => tg y < 1000 ∨ y = o) ∧ ∀ y, y ∈ σ.1 → y ∈ σ'.1) noX := by
  refine cth_start (by decide +kernel) hfl rfl (fun κ e1 e2 e3 C E HH HN => ?_)
  subst e1 e2 e3
  have C : Cx κ cL_tradeAt 4 RL "tradeAt" 8 := C
  obtain ⟨-, -, -, -, hc, hs⟩ := id E
  show J κ σ [(0, .ref (ad 0)), (1, vi (z)), (2, .ref o)] 0 [] 0 0
  have hXX := hX0
  obtain ⟨⟨x1, x2⟩, -, -, -, -, hO⟩ := hXX
  have h6 := hO.1
  have hlb := hO.2.2.1
  refine j_aload_n 2 C dL_tradeAt_0 rfl rfl rfl ?_
  refine j_iconst C dL_tradeAt_1 rfl ?_
  refine j_aload_n 0 C dL_tradeAt_2 rfl rfl rfl ?_
  refine j_iload_n 1 C dL_tradeAt_3 rfl rfl rfl ?_
  rcases Classical.em (z < 0 ∨ hd.2.1 ≤ z) with hq | hq
  · have ho : o_tradeAt bs ru se pf hd ca evs ln z = (1, 0, (bs, ru, se, pf, hd, ca, evs, ln)) := by unfold o_tradeAt; rw [if_pos (by omega)]
    refine j_callV (st' := [vi (0), .ref o]) (As := [vi (z)]) C dL_tradeAt_4 rfl m_L_104 x1 rfl rfl rfl (c_tradeAtB (kL κ) hfl (kD κ) (kc κ) σ tg ad bs ru se pf hd ca evs ln hX0 z hz9 hq) rfl (by omega) (by omega) (by omega) (fun E9 τ2 hx => ?_) (fun _ _ hx => hx.elim)
    obtain ⟨rfl, hs9⟩ := hx
    replace hs9 := hs9.symm
    subst hs9
    refine j_catch [] (0, 9, 12, 21) [] C HH HN rfl (fun z hz => absurd hz List.not_mem_nil) ⟨by decide, by decide⟩ (by decide) hl_21 hc_21 (fun q9 => ?_)
    refine j_astore_n (lv' := [(0, .ref (ad 0)), (1, vi (z)), (2, .ref o), (3, .ref q9)]) [1, 2, 3, 0] C dL_tradeAt_12 rfl rfl rfl rfl ?_
    refine j_iconst C dL_tradeAt_13 rfl ?_
    exact j_iret C E dL_tradeAt_14 (by omega) (by omega) ⟨by rw [ho], ⟨tg, ad, by rw [ho]; exact hX0, fun _ _ => rfl, rfl⟩, ⟨g0, hout, fun h9 => by rw [ho] at h9; exact absurd (show (1 : Int) = 0 from h9) (by decide)⟩, Keep.rf, fun _ hy => hy⟩
  · have ho : o_tradeAt bs ru se pf hd ca evs ln z = (0, hd.1 z.toNat, (bs, ru, se, pf, hd, ca, evs, ln)) := by unfold o_tradeAt; rw [if_neg (by omega)]
    refine j_callV (st' := [vi (0), .ref o]) (As := [vi (z)]) C dL_tradeAt_4 rfl m_L_104 x1 rfl rfl rfl (c_tradeAt (kL κ) hfl (kD κ) (kc κ) σ tg ad bs ru se pf hd ca evs ln hX0 z hz9 ⟨by omega, by omega⟩) rfl (by omega) (by omega) (by omega) (fun _ _ hx => hx.elim) (fun v5 τ4 hp6 => ?_)
    obtain ⟨rfl, hs9⟩ := hp6
    replace hs9 := hs9.symm
    subst hs9
    show J κ σ [(0, .ref (ad 0)), (1, vi (z)), (2, .ref o)] 7 [vi (hd.1 z.toNat), vi (0), .ref o] _ _
    rw [vi_w (hd.1 z.toNat)]
    refine j_i2l C dL_tradeAt_7 rfl (w32_in _) ?_
    refine j_last C dL_tradeAt_8 rfl hout ⟨by omega, by omega⟩ (by omega) (fun τ7 ee8 => ?_)
    have u9 : has τ7 o (lA (kc κ) 1 (ups g0 0 (w32 (hd.1 z.toNat)))) := hout.self' ee8
    refine j_goto (tgt := 15) C dL_tradeAt_9 rfl ?_
    refine j_iconst C dL_tradeAt_15 rfl ?_
    exact j_iret C E dL_tradeAt_16 (by omega) (by omega) ⟨by rw [ho], ⟨tg, ad, by rw [ho]; exact hX0.keepO ee8 hot, (fun _ _ => rfl), rfl⟩, ⟨_, u9, fun _ => by rw [ho]; exact ups_u rfl⟩, (Keep.rf : Keep σ σ (fun y => tg y < 1000 ∨ y = o)).put ee8 (Or.inr rfl), fun y hy => by rw [dom_put ee8]; exact (fun _ hy => hy) y hy⟩
set_option maxHeartbeats 8000000 in
set_option maxRecDepth 20000 in
theorem W_eventKind (l : Launch) (hfl : l.stackTraces = false) (D : va_G) (cy : Nat → Nat) (σ : Wd) (tg ad : Nat → Nat) (bs : List Bn) (ru : Nat → Int × Int) (se : Int) (pf : Nat → Int) (hd : Hd) (ca : Int) (evs : List Evt) (ln : List Int) (hX0 : RX cy σ tg ad bs ru se pf hd ca evs ln) (o : Nat) (g0 : Nat → Int) (hout : has σ o (lA cy 1 g0)) (hot : 1000 ≤ tg o) (z : Int) (hz9 : (-2147483648 ≤ z ∧ z < 2147483648)) : CtN l yL_eventKind cL_eventKind 4 (some .int) [(0, 9, 12, 21)] 8 250 7604 D cy [.ref (ad 0), vi (z), .ref o] σ (fun v σ' => v = some (vi (o_eventKind bs ru se pf hd ca evs ln z).1) ∧ (∃ tg' ad' : Nat → Nat, RXs cy σ' tg' ad' (o_eventKind bs ru se pf hd ca evs ln z).2.2 ∧ (∀ y, y ∈ σ.1 → tg' y = tg y) ∧ ad' 0 = ad 0) ∧ (∃ g' : Nat → Int, has σ' o (lA cy 1 g') ∧ ((o_eventKind bs ru se pf hd ca evs ln z).1 = 0 → g' 0 = w32 (o_eventKind bs ru se pf hd ca evs ln z).2.1)) ∧ Keep σ σ' (fun y => tg y < 1000 ∨ y = o) ∧ ∀ y, y ∈ σ.1 → y ∈ σ'.1) noX := by
  refine cth_start (by decide +kernel) hfl rfl (fun κ e1 e2 e3 C E HH HN => ?_)
  subst e1 e2 e3
  have C : Cx κ cL_eventKind 4 RL "eventKind" 8 := C
  obtain ⟨-, -, -, -, hc, hs⟩ := id E
  show J κ σ [(0, .ref (ad 0)), (1, vi (z)), (2, .ref o)] 0 [] 0 0
  have hXX := hX0
  obtain ⟨⟨x1, x2⟩, -, -, -, -, hO⟩ := hXX
  have h6 := hO.1
  have hlb := hO.2.2.1
  refine j_aload_n 2 C dL_eventKind_0 rfl rfl rfl ?_
  refine j_iconst C dL_eventKind_1 rfl ?_
  refine j_aload_n 0 C dL_eventKind_2 rfl rfl rfl ?_
  refine j_iload_n 1 C dL_eventKind_3 rfl rfl rfl ?_
  rcases Classical.em (z < 0 ∨ (evs.length : Int) ≤ z) with hq | hq
  · have ho : o_eventKind bs ru se pf hd ca evs ln z = (1, 0, (bs, ru, se, pf, hd, ca, evs, ln)) := by unfold o_eventKind; rw [if_pos (by omega)]
    refine j_callV (st' := [vi (0), .ref o]) (As := [vi (z)]) C dL_eventKind_4 rfl m_L_107 x1 rfl rfl rfl (c_eventKindB (kL κ) hfl (kD κ) (kc κ) σ tg ad bs ru se pf hd ca evs ln hX0 z hz9 hq) rfl (by omega) (by omega) (by omega) (fun E9 τ2 hx => ?_) (fun _ _ hx => hx.elim)
    obtain ⟨rfl, hs9⟩ := hx
    replace hs9 := hs9.symm
    subst hs9
    refine j_catch [] (0, 9, 12, 21) [] C HH HN rfl (fun z hz => absurd hz List.not_mem_nil) ⟨by decide, by decide⟩ (by decide) hl_21 hc_21 (fun q9 => ?_)
    refine j_astore_n (lv' := [(0, .ref (ad 0)), (1, vi (z)), (2, .ref o), (3, .ref q9)]) [1, 2, 3, 0] C dL_eventKind_12 rfl rfl rfl rfl ?_
    refine j_iconst C dL_eventKind_13 rfl ?_
    exact j_iret C E dL_eventKind_14 (by omega) (by omega) ⟨by rw [ho], ⟨tg, ad, by rw [ho]; exact hX0, fun _ _ => rfl, rfl⟩, ⟨g0, hout, fun h9 => by rw [ho] at h9; exact absurd (show (1 : Int) = 0 from h9) (by decide)⟩, Keep.rf, fun _ hy => hy⟩
  · obtain ⟨i, hi, rfl⟩ : ∃ i : Nat, i < evs.length ∧ z = (i : Int) := ⟨z.toNat, by omega, by omega⟩
    have ho : o_eventKind bs ru se pf hd ca evs ln (i : Int) = (0, (evs.getD i (0, 0, 0, 0, 0, 0, 0)).1, (bs, ru, se, pf, hd, ca, evs, ln)) := by unfold o_eventKind; rw [if_neg (by omega), Int.toNat_natCast]
    refine j_callV (st' := [vi (0), .ref o]) (As := [vi ((i : Int))]) C dL_eventKind_4 rfl m_L_107 x1 rfl rfl rfl (c_eventKind (kL κ) hfl (kD κ) (kc κ) σ tg ad bs ru se pf hd ca evs ln hX0 i hi) rfl (by omega) (by omega) (by omega) (fun _ _ hx => hx.elim) (fun v5 τ4 hp6 => ?_)
    obtain ⟨rfl, hs9⟩ := hp6
    replace hs9 := hs9.symm
    subst hs9
    show J κ σ [(0, .ref (ad 0)), (1, vi ((i : Int))), (2, .ref o)] 7 [vi ((evs.getD i (0, 0, 0, 0, 0, 0, 0)).1), vi (0), .ref o] _ _
    rw [vi_w ((evs.getD i (0, 0, 0, 0, 0, 0, 0)).1)]
    refine j_i2l C dL_eventKind_7 rfl (w32_in _) ?_
    refine j_last C dL_eventKind_8 rfl hout ⟨by omega, by omega⟩ (by omega) (fun τ7 ee8 => ?_)
    have u9 : has τ7 o (lA (kc κ) 1 (ups g0 0 (w32 ((evs.getD i (0, 0, 0, 0, 0, 0, 0)).1)))) := hout.self' ee8
    refine j_goto (tgt := 15) C dL_eventKind_9 rfl ?_
    refine j_iconst C dL_eventKind_15 rfl ?_
    exact j_iret C E dL_eventKind_16 (by omega) (by omega) ⟨by rw [ho], ⟨tg, ad, by rw [ho]; exact hX0.keepO ee8 hot, (fun _ _ => rfl), rfl⟩, ⟨_, u9, fun _ => by rw [ho]; exact ups_u rfl⟩, (Keep.rf : Keep σ σ (fun y => tg y < 1000 ∨ y = o)).put ee8 (Or.inr rfl), fun y hy => by rw [dom_put ee8]; exact (fun _ hy => hy) y hy⟩
set_option maxHeartbeats 8000000 in
set_option maxRecDepth 20000 in
theorem W_lineAt (l : Launch) (hfl : l.stackTraces = false) (D : va_G) (cy : Nat → Nat) (σ : Wd) (tg ad : Nat → Nat) (bs : List Bn) (ru : Nat → Int × Int) (se : Int) (pf : Nat → Int) (hd : Hd) (ca : Int) (evs : List Evt) (ln : List Int) (hX0 : RX cy σ tg ad bs ru se pf hd ca evs ln) (o : Nat) (g0 : Nat → Int) (hout : has σ o (lA cy 1 g0)) (hot : 1000 ≤ tg o) (z : Int) (hz9 : (-2147483648 ≤ z ∧ z < 2147483648)) : CtN l yL_lineAt cL_lineAt 4 (some .int) [(0, 9, 12, 21)] 8 250 7604 D cy [.ref (ad 0), vi (z), .ref o] σ (fun v σ' => v = some (vi (o_lineAt bs ru se pf hd ca evs ln z).1) ∧ (∃ tg' ad' : Nat → Nat, RXs cy σ' tg' ad' (o_lineAt bs ru se pf hd ca evs ln z).2.2 ∧ (∀ y, y ∈ σ.1 → tg' y = tg y) ∧ ad' 0 = ad 0) ∧ (∃ g' : Nat → Int, has σ' o (lA cy 1 g') ∧ ((o_lineAt bs ru se pf hd ca evs ln z).1 = 0 → g' 0 = w32 (o_lineAt bs ru se pf hd ca evs ln z).2.1)) ∧ Keep σ σ' (fun y => tg y < 1000 ∨ y = o) ∧ ∀ y, y ∈ σ.1 → y ∈ σ'.1) noX := by
  refine cth_start (by decide +kernel) hfl rfl (fun κ e1 e2 e3 C E HH HN => ?_)
  subst e1 e2 e3
  have C : Cx κ cL_lineAt 4 RL "lineAt" 8 := C
  obtain ⟨-, -, -, -, hc, hs⟩ := id E
  show J κ σ [(0, .ref (ad 0)), (1, vi (z)), (2, .ref o)] 0 [] 0 0
  have hXX := hX0
  obtain ⟨⟨x1, x2⟩, -, -, -, -, hO⟩ := hXX
  have h6 := hO.1
  have hlb := hO.2.2.1
  refine j_aload_n 2 C dL_lineAt_0 rfl rfl rfl ?_
  refine j_iconst C dL_lineAt_1 rfl ?_
  refine j_aload_n 0 C dL_lineAt_2 rfl rfl rfl ?_
  refine j_iload_n 1 C dL_lineAt_3 rfl rfl rfl ?_
  rcases Classical.em (z < 0 ∨ (ln.length : Int) ≤ z) with hq | hq
  · have ho : o_lineAt bs ru se pf hd ca evs ln z = (1, 0, (bs, ru, se, pf, hd, ca, evs, ln)) := by unfold o_lineAt; rw [if_pos (by omega)]
    refine j_callV (st' := [vi (0), .ref o]) (As := [vi (z)]) C dL_lineAt_4 rfl m_L_114 x1 rfl rfl rfl (c_lineAtB (kL κ) hfl (kD κ) (kc κ) σ tg ad bs ru se pf hd ca evs ln hX0 z hz9 hq) rfl (by omega) (by omega) (by omega) (fun E9 τ2 hx => ?_) (fun _ _ hx => hx.elim)
    obtain ⟨rfl, hs9⟩ := hx
    replace hs9 := hs9.symm
    subst hs9
    refine j_catch [] (0, 9, 12, 21) [] C HH HN rfl (fun z hz => absurd hz List.not_mem_nil) ⟨by decide, by decide⟩ (by decide) hl_21 hc_21 (fun q9 => ?_)
    refine j_astore_n (lv' := [(0, .ref (ad 0)), (1, vi (z)), (2, .ref o), (3, .ref q9)]) [1, 2, 3, 0] C dL_lineAt_12 rfl rfl rfl rfl ?_
    refine j_iconst C dL_lineAt_13 rfl ?_
    exact j_iret C E dL_lineAt_14 (by omega) (by omega) ⟨by rw [ho], ⟨tg, ad, by rw [ho]; exact hX0, fun _ _ => rfl, rfl⟩, ⟨g0, hout, fun h9 => by rw [ho] at h9; exact absurd (show (1 : Int) = 0 from h9) (by decide)⟩, Keep.rf, fun _ hy => hy⟩
  · have ho : o_lineAt bs ru se pf hd ca evs ln z = (0, ln.getD z.toNat 0, (bs, ru, se, pf, hd, ca, evs, ln)) := by unfold o_lineAt; rw [if_neg (by omega)]
    refine j_callV (st' := [vi (0), .ref o]) (As := [vi (z)]) C dL_lineAt_4 rfl m_L_114 x1 rfl rfl rfl (c_lineAt (kL κ) hfl (kD κ) (kc κ) σ tg ad bs ru se pf hd ca evs ln hX0 z hz9 ⟨by omega, by omega⟩) rfl (by omega) (by omega) (by omega) (fun _ _ hx => hx.elim) (fun v5 τ4 hp6 => ?_)
    obtain ⟨rfl, hs9⟩ := hp6
    replace hs9 := hs9.symm
    subst hs9
    show J κ σ [(0, .ref (ad 0)), (1, vi (z)), (2, .ref o)] 7 [vi (ln.getD z.toNat 0), vi (0), .ref o] _ _
    rw [vi_w (ln.getD z.toNat 0)]
    refine j_i2l C dL_lineAt_7 rfl (w32_in _) ?_
    refine j_last C dL_lineAt_8 rfl hout ⟨by omega, by omega⟩ (by omega) (fun τ7 ee8 => ?_)
    have u9 : has τ7 o (lA (kc κ) 1 (ups g0 0 (w32 (ln.getD z.toNat 0)))) := hout.self' ee8
    refine j_goto (tgt := 15) C dL_lineAt_9 rfl ?_
    refine j_iconst C dL_lineAt_15 rfl ?_
    exact j_iret C E dL_lineAt_16 (by omega) (by omega) ⟨by rw [ho], ⟨tg, ad, by rw [ho]; exact hX0.keepO ee8 hot, (fun _ _ => rfl), rfl⟩, ⟨_, u9, fun _ => by rw [ho]; exact ups_u rfl⟩, (Keep.rf : Keep σ σ (fun y => tg y < 1000 ∨ y = o)).put ee8 (Or.inr rfl), fun y hy => by rw [dom_put ee8]; exact (fun _ hy => hy) y hy⟩
set_option maxHeartbeats 8000000 in
set_option maxRecDepth 20000 in
theorem W_writeBin (l : Launch) (hfl : l.stackTraces = false) (D : va_G) (cy : Nat → Nat) (σ : Wd) (tg ad : Nat → Nat) (bs : List Bn) (ru : Nat → Int × Int) (se : Int) (pf : Nat → Int) (hd : Hd) (ca : Int) (evs : List Evt) (ln : List Int) (hX0 : RX cy σ tg ad bs ru se pf hd ca evs ln) (o : Nat) (g0 : Nat → Int) (hout : has σ o (lA cy 1 g0)) (hot : 1000 ≤ tg o) (b : Int) (hb9 : (-2147483648 ≤ b ∧ b < 2147483648)) : CtN l yL_writeBin cL_writeBin 4 (some .int) [(0, 9, 12, 21)] 8 250 7604 D cy [.ref (ad 0), vi (b), .ref o] σ (fun v σ' => v = some (vi (o_writeBin bs ru se pf hd ca evs ln b).1) ∧ (∃ tg' ad' : Nat → Nat, RXs cy σ' tg' ad' (o_writeBin bs ru se pf hd ca evs ln b).2.2 ∧ (∀ y, y ∈ σ.1 → tg' y = tg y) ∧ ad' 0 = ad 0) ∧ (∃ g' : Nat → Int, has σ' o (lA cy 1 g') ∧ ((o_writeBin bs ru se pf hd ca evs ln b).1 = 0 → g' 0 = w32 (o_writeBin bs ru se pf hd ca evs ln b).2.1)) ∧ Keep σ σ' (fun y => tg y < 1000 ∨ y = o) ∧ ∀ y, y ∈ σ.1 → y ∈ σ'.1) noX := by
  refine cth_start (by decide +kernel) hfl rfl (fun κ e1 e2 e3 C E HH HN => ?_)
  subst e1 e2 e3
  have C : Cx κ cL_writeBin 4 RL "writeBin" 8 := C
  obtain ⟨-, -, -, -, hc, hs⟩ := id E
  show J κ σ [(0, .ref (ad 0)), (1, vi (b)), (2, .ref o)] 0 [] 0 0
  have hXX := hX0
  obtain ⟨⟨x1, x2⟩, -, -, -, -, hO⟩ := hXX
  have h6 := hO.1
  have hlb := hO.2.2.1
  refine j_aload_n 2 C dL_writeBin_0 rfl rfl rfl ?_
  refine j_iconst C dL_writeBin_1 rfl ?_
  refine j_aload_n 0 C dL_writeBin_2 rfl rfl rfl ?_
  refine j_iload_n 1 C dL_writeBin_3 rfl rfl rfl ?_
  rcases Classical.em (b < 0 ∨ (bs.length : Int) ≤ b) with hq | hq
  · have ho : o_writeBin bs ru se pf hd ca evs ln b = (1, 0, (bs, ru, se, pf, hd, ca, evs, ln)) := by unfold o_writeBin; rw [if_pos (by omega)]
    refine j_callV (st' := [vi (0), .ref o]) (As := [vi (b)]) C dL_writeBin_4 rfl m_L_111 x1 rfl rfl rfl (c_writeBinB (kL κ) hfl (kD κ) (kc κ) σ tg ad bs ru se pf hd ca evs ln hX0 b hb9 hq) rfl (by omega) (by omega) (by omega) (fun E9 τ2 hx => ?_) (fun _ _ hx => hx.elim)
    obtain ⟨rfl, hs9⟩ := hx
    replace hs9 := hs9.symm
    subst hs9
    refine j_catch [] (0, 9, 12, 21) [] C HH HN rfl (fun z hz => absurd hz List.not_mem_nil) ⟨by decide, by decide⟩ (by decide) hl_21 hc_21 (fun q9 => ?_)
    refine j_astore_n (lv' := [(0, .ref (ad 0)), (1, vi (b)), (2, .ref o), (3, .ref q9)]) [1, 2, 3, 0] C dL_writeBin_12 rfl rfl rfl rfl ?_
    refine j_iconst C dL_writeBin_13 rfl ?_
    exact j_iret C E dL_writeBin_14 (by omega) (by omega) ⟨by rw [ho], ⟨tg, ad, by rw [ho]; exact hX0, fun _ _ => rfl, rfl⟩, ⟨g0, hout, fun h9 => by rw [ho] at h9; exact absurd (show (1 : Int) = 0 from h9) (by decide)⟩, Keep.rf, fun _ hy => hy⟩
  · obtain ⟨i, hi, rfl⟩ : ∃ i : Nat, i < bs.length ∧ b = (i : Int) := ⟨b.toNat, by omega, by omega⟩
    have ho : o_writeBin bs ru se pf hd ca evs ln (i : Int) = (0, ((lnF (fl (gB bs (i : Int)))).length : Int), (bs, ru, se, pf, hd, ca, evs, lnF (fl (gB bs (i : Int))))) := by unfold o_writeBin; rw [if_neg (by omega)]
    refine j_callV (st' := [vi (0), .ref o]) (As := [vi ((i : Int))]) C dL_writeBin_4 rfl m_L_111 x1 rfl rfl rfl (c_writeBin (kL κ) hfl (kD κ) (kc κ) σ tg ad bs ru se pf hd ca evs ln hX0 i hi) rfl (by omega) (by omega) (by omega) (fun _ _ hx => hx.elim) (fun v5 τ4 hp6 => ?_)
    obtain ⟨rfl, tg1, ad1, hR1, hT1, ha1, hK1, hM1⟩ := hp6
    have ho1 := hK1 _ _ hout (fun z => by have z1 : tg o < 1000 := z; omega)
    show J κ τ4 [(0, .ref (ad 0)), (1, vi ((i : Int))), (2, .ref o)] 7 [vi (((lnF (fl (gB bs (i : Int)))).length : Int)), vi (0), .ref o] _ _
    rw [vi_w (((lnF (fl (gB bs (i : Int)))).length : Int))]
    refine j_i2l C dL_writeBin_7 rfl (w32_in _) ?_
    refine j_last C dL_writeBin_8 rfl ho1 ⟨by omega, by omega⟩ (by omega) (fun τ7 ee8 => ?_)
    have u9 : has τ7 o (lA (kc κ) 1 (ups g0 0 (w32 (((lnF (fl (gB bs (i : Int)))).length : Int))))) := ho1.self' ee8
    refine j_goto (tgt := 15) C dL_writeBin_9 rfl ?_
    refine j_iconst C dL_writeBin_15 rfl ?_
    exact j_iret C E dL_writeBin_16 (by omega) (by omega) ⟨by rw [ho], ⟨tg1, ad1, by rw [ho]; exact hR1.keepO ee8 (by rw [hT1 o hout.1]; exact hot), hT1, ha1⟩, ⟨_, u9, fun _ => by rw [ho]; exact ups_u rfl⟩, (hK1.mono (fun _ z => Or.inl z) : Keep σ τ4 (fun y => tg y < 1000 ∨ y = o)).put ee8 (Or.inr rfl), fun y hy => by rw [dom_put ee8]; exact hM1 y hy⟩
