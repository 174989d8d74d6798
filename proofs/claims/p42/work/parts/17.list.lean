/-! JDK: ArrayList -/
theorem z_shr {a : Int} {s : Int32} (k : Nat) (hs : (s.toBitVec.smod 32).toNat = k) (ha : 0 ≤ a ∧ a < 2147483648) {z : Int} (hz : a / (2 ^ k : Nat) = z) : Int32.ofInt a >>> s = Int32.ofInt z := by
  have h1 : 0 ≤ z := by rw [← hz]; exact Int.ediv_nonneg ha.1 (Int.natCast_nonneg _)
  have h2 : z ≤ a := by rw [← hz]; exact Int.ediv_le_self _ ha.1
  apply Int32.toInt_inj.mp
  rw [pk_shr _ _ k hs, z_toInt ⟨by omega, by omega⟩, z_toInt ⟨by omega, by omega⟩, Int.shiftRight_eq_div_pow, hz]
theorem z_shl0 (a : Int) : Int32.ofInt a <<< (Int32.ofInt 0 &&& 31) = Int32.ofInt a := by
  rw [show (Int32.ofInt 0 &&& 31 : Int32) = 0 by decide]
  exact Int32.shiftLeft_zero
theorem z_shr0 (a : Int) : Int32.ofInt a >>> (Int32.ofInt 0 &&& 31) = Int32.ofInt a := by
  rw [show (Int32.ofInt 0 &&& 31 : Int32) = 0 by decide]
  exact Int32.shiftRight_zero
/-- an object that a list may hold -/
def Elt (σ : Wd) (y : Nat) : Prop := ∃ (ci : Nat) (fs : List Value) (r : vw_C), has σ y (.inr (ci, fs)) ∧ vwc[ci]? = some r ∧ Cond.castable r.1 "java/lang/Object" ∈ lw_g
theorem Elt.bin {σ : Wd} {y : Nat} {fs : List Value} (h : has σ y (.inr (0, fs))) : Elt σ y := ⟨0, fs, _, h, rfl, co_X0⟩
theorem Elt.evt {σ : Wd} {y : Nat} {fs : List Value} (h : has σ y (.inr (2, fs))) : Elt σ y := ⟨2, fs, _, h, rfl, co_X2⟩
/-- a list at a, its places at d -/
def LstR (cy : Nat → Nat) (σ : Wd) (a d : Nat) (xs : List Nat) : Prop := ∃ m : Int, has σ a (.inr (9, [vi m, .ref d, vi (xs.length : Int)])) ∧ ((d = cy 7 ∧ xs = []) ∨ ∃ (cap : Nat) (f : Nat → Option Nat), has σ d (oA cy cap f) ∧ (10 ≤ cap ∧ cap ≤ 150 ∧ xs.length ≤ cap) ∧ ∀ i, i < xs.length → f i = xs[i]?)
theorem LstR.keep {cy : Nat → Nat} {σ σ' : Wd} {a d : Nat} {xs : List Nat} {F : Nat → Prop} (h : LstR cy σ a d xs) (hk : Keep σ σ' F) (hF : ¬ F a ∧ (F d → d = cy 7 ∧ xs = [])) : LstR cy σ' a d xs := by
  obtain ⟨m, h1, h2⟩ := h
  refine ⟨m, hk _ _ h1 hF.1, ?_⟩
  rcases h2 with h2 | ⟨cap, f, h3, h4, h5⟩
  · exact Or.inl h2
  · by_cases hd : F d
    · exact Or.inl (hF.2 hd)
    · exact Or.inr ⟨cap, f, hk _ _ h3 hd, h4, h5⟩
set_option maxHeartbeats 4000000 in
set_option maxRecDepth 20000 in
theorem c_collInit (l : Launch) (hfl : l.stackTraces = false) (D : va_G) (cy : Nat → Nat) (σ : Wd) (a : Nat) : Ct l yJxa1e45_init_da8c8 cJxa1e45_init_da8c8 1 none 0 0 0 D cy [.ref a] σ (fun v σ' => v = none ∧ σ' = σ) noX := by
  refine ct_start (by decide +kernel) hfl rfl (fun κ e1 e2 e3 C E NH => ?_)
  subst e1 e2 e3
  have C : Cx κ cJxa1e45_init_da8c8 1 RJxa1e45 "<init>" 0 := C
  obtain ⟨-, -, -, -, hc, hs⟩ := id E
  show J κ σ [(0, .ref a)] 0 [] 0 0
  refine j_aload_n 0 C dJxa1e45_init_da8c8_0 rfl rfl rfl ?_
  refine j_objInit C dJxa1e45_init_da8c8_1 rfl oi_Jxa1e45_1 oi_in oi_co (Nat.le_of_ble_eq_true rfl) ?_
  exact j_vret C E dJxa1e45_init_da8c8_4 (by omega) (by omega) ⟨rfl, rfl⟩
set_option maxHeartbeats 4000000 in
set_option maxRecDepth 20000 in
theorem c_absInit (l : Launch) (hfl : l.stackTraces = false) (D : va_G) (cy : Nat → Nat) (σ : Wd) (a : Nat) (hh : has σ a (.inr (9, [vi 0, .null, vi 0]))) : Ct l yJxc12de_init_da8c8 cJxc12de_init_da8c8 1 none 1 0 0 D cy [.ref a] σ (fun v σ' => v = none ∧ has σ' a (.inr (9, [vi 0, .null, vi 0])) ∧ Keep σ σ' (fun x => x = a) ∧ σ'.1 = σ.1) noX := by
  refine ct_start (by decide +kernel) hfl rfl (fun κ e1 e2 e3 C E NH => ?_)
  subst e1 e2 e3
  have C : Cx κ cJxc12de_init_da8c8 1 RJxc12de "<init>" 1 := C
  obtain ⟨-, -, -, -, hc, hs⟩ := id E
  show J κ σ [(0, .ref a)] 0 [] 0 0
  have kp0 : Keep σ σ (fun x => x = a) := Keep.rf
  have dm0 : σ.1 = σ.1 := rfl
  refine j_aload_n 0 C dJxc12de_init_da8c8_0 rfl rfl rfl ?_
  refine j_callI (st' := []) (As := []) C dJxc12de_init_da8c8_1 rfl m_Jxc12de_1 rfl rfl (c_collInit (kL κ) hfl (kD κ) (kc κ) σ a) rfl (by omega) (by omega) (by omega) (fun _ _ hx => hx.elim) (fun v2 τ1 hp3 => ?_)
  obtain ⟨rfl, hs9⟩ := hp3
  replace hs9 := hs9.symm
  subst hs9
  show J κ σ [(0, .ref a)] 4 [] _ _
  refine j_aload_n 0 C dJxc12de_init_da8c8_4 rfl rfl rfl ?_
  refine j_iconst C dJxc12de_init_da8c8_5 rfl ?_
  refine j_put (fs' := [vi (0), .null, vi (0)]) C dJxc12de_init_da8c8_6 rfl fa_Jxc12de_7 hh rfl rfl rfl rfl (fun τ4 ee5 => ?_)
  have u6 : has τ4 a (.inr (9, [vi (0), .null, vi (0)])) := hh.self' ee5
  have kp7 := kp0.put ee5 rfl
  have dm8 := (dom_put ee5).trans dm0
  exact j_vret C E dJxc12de_init_da8c8_9 (by omega) (by omega) ⟨rfl, u6, kp7, dm8⟩
set_option maxHeartbeats 4000000 in
set_option maxRecDepth 20000 in
theorem c_listInit (l : Launch) (hfl : l.stackTraces = false) (D : va_G) (cy : Nat → Nat) (σ : Wd) (a : Nat) (hh : has σ a (.inr (9, [vi 0, .null, vi 0]))) : Ct l yJx4a65c_init_da8c8 cJx4a65c_init_da8c8 1 none 2 0 0 D cy [.ref a] σ (fun v σ' => v = none ∧ LstR cy σ' a (cy 7) [] ∧ Keep σ σ' (fun x => x = a) ∧ σ'.1 = σ.1) noX := by
  refine ct_start (by decide +kernel) hfl rfl (fun κ e1 e2 e3 C E NH => ?_)
  subst e1 e2 e3
  have C : Cx κ cJx4a65c_init_da8c8 1 RJx4a65c "<init>" 2 := C
  obtain ⟨-, -, -, -, hc, hs⟩ := id E
  show J κ σ [(0, .ref a)] 0 [] 0 0
  refine j_aload_n 0 C dJx4a65c_init_da8c8_0 rfl rfl rfl ?_
  refine j_callI (st' := []) (As := []) C dJx4a65c_init_da8c8_1 rfl m_Jx4a65c_1 rfl rfl (c_absInit (kL κ) hfl (kD κ) (kc κ) σ a hh) rfl (by omega) (by omega) (by omega) (fun _ _ hx => hx.elim) (fun v2 τ1 hp3 => ?_)
  obtain ⟨rfl, hh2, hk2, hd2⟩ := hp3
  show J κ τ1 [(0, .ref a)] 4 [] _ _
  refine j_aload_n 0 C dJx4a65c_init_da8c8_4 rfl rfl rfl ?_
  refine j_gets C dJx4a65c_init_da8c8_5 rfl gs_Jx4a65c_39 C.go.2.1.2.1 ?_
  refine j_put (fs' := [vi (0), .ref (kc κ 7), vi (0)]) C dJx4a65c_init_da8c8_8 rfl fa_Jx4a65c_9 hh2 rfl rfl rfl rfl (fun τ4 ee5 => ?_)
  have u6 : has τ4 a (.inr (9, [vi (0), .ref (kc κ 7), vi (0)])) := hh2.self' ee5
  have kp7 := hk2.put ee5 rfl
  have dm8 := (dom_put ee5).trans hd2
  exact j_vret C E dJx4a65c_init_da8c8_11 (by omega) (by omega) ⟨rfl, ⟨0, u6, Or.inl ⟨rfl, rfl⟩⟩, kp7, dm8⟩
set_option maxHeartbeats 4000000 in
set_option maxRecDepth 20000 in
theorem c_size (l : Launch) (hfl : l.stackTraces = false) (D : va_G) (cy : Nat → Nat) (σ : Wd) (a d : Nat) (xs : List Nat) (hL : LstR cy σ a d xs) : Ct l yJx4a65c_size_8abf5 cJx4a65c_size_8abf5 1 (some .int) 0 0 0 D cy [.ref a] σ (fun v σ' => v = some (vi (xs.length : Int)) ∧ σ' = σ) noX := by
  refine ct_start (by decide +kernel) hfl rfl (fun κ e1 e2 e3 C E NH => ?_)
  subst e1 e2 e3
  have C : Cx κ cJx4a65c_size_8abf5 1 RJx4a65c "size" 0 := C
  obtain ⟨-, -, -, -, hc, hs⟩ := id E
  show J κ σ [(0, .ref a)] 0 [] 0 0
  obtain ⟨m, hh, -⟩ := hL
  refine j_aload_n 0 C dJx4a65c_size_8abf5_0 rfl rfl rfl ?_
  refine j_get C dJx4a65c_size_8abf5_1 rfl fg_Jx4a65c_48 hh rfl ?_
  exact j_iret C E dJx4a65c_size_8abf5_4 (by omega) (by omega) ⟨rfl, rfl⟩
set_option maxHeartbeats 4000000 in
set_option maxRecDepth 20000 in
theorem c_checkIndex3 (l : Launch) (hfl : l.stackTraces = false) (D : va_G) (cy : Nat → Nat) (σ : Wd) (i n : Int) (hi : 0 ≤ i ∧ i < n) (hn : n < 2147483648) : Ct l yJ3_checkIndex_8e157 cJ3_checkIndex_8e157 3 (some .int) 0 0 0 D cy [vi (i), vi (n), .null] σ (fun v σ' => v = some (vi i) ∧ σ' = σ) noX := by
  refine ct_start (by decide +kernel) hfl rfl (fun κ e1 e2 e3 C E NH => ?_)
  subst e1 e2 e3
  have C : Cx κ cJ3_checkIndex_8e157 3 RJ3 "checkIndex" 0 := C
  obtain ⟨-, -, -, -, hc, hs⟩ := id E
  show J κ σ [(0, vi (i)), (1, vi (n)), (2, .null)] 0 [] 0 0
  refine j_iload_n 0 C dJ3_checkIndex_8e157_0 rfl rfl rfl ?_
  refine j_if_lt (tgt := 9) C dJ3_checkIndex_8e157_1 rfl rfl ⟨by omega, by omega⟩ (fun cc1 => ?_) (fun cc1 => ?_)
  · exact absurd cc1 (by omega)
  · refine j_iload_n 0 C dJ3_checkIndex_8e157_4 rfl rfl rfl ?_
    refine j_iload_n 1 C dJ3_checkIndex_8e157_5 rfl rfl rfl ?_
    refine j_icmp_lt (tgt := 16) C dJ3_checkIndex_8e157_6 rfl rfl ⟨by omega, by omega⟩ ⟨by omega, by omega⟩ (fun cc2 => ?_) (fun cc2 => ?_)
    · refine j_iload_n 0 C dJ3_checkIndex_8e157_16 rfl rfl rfl ?_
      exact j_iret C E dJ3_checkIndex_8e157_17 (by omega) (by omega) ⟨rfl, rfl⟩
    · exact absurd cc2 (by omega)
set_option maxHeartbeats 4000000 in
set_option maxRecDepth 20000 in
theorem c_checkIndex3r (l : Launch) (hfl : l.stackTraces = false) (D : va_G) (cy : Nat → Nat) (σ : Wd) (i n : Int) (hi : 0 ≤ i ∧ i < n) (hn : n < 2147483648) (z : Nat) : Ct l yJ3_checkIndex_8e157 cJ3_checkIndex_8e157 3 (some .int) 0 0 0 D cy [vi (i), vi (n), .ref z] σ (fun v σ' => v = some (vi i) ∧ σ' = σ) noX := by
  refine ct_start (by decide +kernel) hfl rfl (fun κ e1 e2 e3 C E NH => ?_)
  subst e1 e2 e3
  have C : Cx κ cJ3_checkIndex_8e157 3 RJ3 "checkIndex" 0 := C
  obtain ⟨-, -, -, -, hc, hs⟩ := id E
  show J κ σ [(0, vi (i)), (1, vi (n)), (2, .ref z)] 0 [] 0 0
  refine j_iload_n 0 C dJ3_checkIndex_8e157_0 rfl rfl rfl ?_
  refine j_if_lt (tgt := 9) C dJ3_checkIndex_8e157_1 rfl rfl ⟨by omega, by omega⟩ (fun cc1 => ?_) (fun cc1 => ?_)
  · exact absurd cc1 (by omega)
  · refine j_iload_n 0 C dJ3_checkIndex_8e157_4 rfl rfl rfl ?_
    refine j_iload_n 1 C dJ3_checkIndex_8e157_5 rfl rfl rfl ?_
    refine j_icmp_lt (tgt := 16) C dJ3_checkIndex_8e157_6 rfl rfl ⟨by omega, by omega⟩ ⟨by omega, by omega⟩ (fun cc2 => ?_) (fun cc2 => ?_)
    · refine j_iload_n 0 C dJ3_checkIndex_8e157_16 rfl rfl rfl ?_
      exact j_iret C E dJ3_checkIndex_8e157_17 (by omega) (by omega) ⟨rfl, rfl⟩
    · exact absurd cc2 (by omega)
set_option maxHeartbeats 4000000 in
set_option maxRecDepth 20000 in
theorem c_checkIndex2 (l : Launch) (hfl : l.stackTraces = false) (D : va_G) (cy : Nat → Nat) (σ : Wd) (i n : Int) (hi : 0 ≤ i ∧ i < n) (hn : n < 2147483648) : Ct l yJ15_checkIndex_7cf53 cJ15_checkIndex_7cf53 2 (some .int) 1 0 0 D cy [vi (i), vi (n)] σ (fun v σ' => v = some (vi i) ∧ σ' = σ) noX := by
  refine ct_start (by decide +kernel) hfl rfl (fun κ e1 e2 e3 C E NH => ?_)
  subst e1 e2 e3
  have C : Cx κ cJ15_checkIndex_7cf53 2 RJ15 "checkIndex" 1 := C
  obtain ⟨-, -, -, -, hc, hs⟩ := id E
  show J κ σ [(0, vi (i)), (1, vi (n))] 0 [] 0 0
  refine j_iload_n 0 C dJ15_checkIndex_7cf53_0 rfl rfl rfl ?_
  refine j_iload_n 1 C dJ15_checkIndex_7cf53_1 rfl rfl rfl ?_
  refine j_null C dJ15_checkIndex_7cf53_2 rfl ?_
  refine j_callS (st' := []) (As := [vi (i), vi (n), .null]) C dJ15_checkIndex_7cf53_3 rfl m_J15_105 rfl rfl (c_checkIndex3 (kL κ) hfl (kD κ) (kc κ) σ i n hi hn) rfl (by omega) (by omega) (by omega) (fun _ _ hx => hx.elim) (fun v2 τ1 hp3 => ?_)
  obtain ⟨rfl, hs9⟩ := hp3
  replace hs9 := hs9.symm
  subst hs9
  show J κ σ [(0, vi (i)), (1, vi (n))] 6 [vi (i)] _ _
  exact j_iret C E dJ15_checkIndex_7cf53_6 (by omega) (by omega) ⟨rfl, rfl⟩
set_option maxHeartbeats 4000000 in
set_option maxRecDepth 20000 in
theorem c_elementData (l : Launch) (hfl : l.stackTraces = false) (D : va_G) (cy : Nat → Nat) (σ : Wd) (a d : Nat) (xs : List Nat) (hL : LstR cy σ a d xs) (i : Nat) (hi : i < xs.length) : Ct l yJx4a65c_elementData_915e3 cJx4a65c_elementData_915e3 2 (some (.object "java/lang/Object")) 0 0 0 D cy [.ref a, vi ((i : Int))] σ (fun v σ' => v = some (.ref (xs[i]'hi)) ∧ σ' = σ) noX := by
  refine ct_start (by decide +kernel) hfl rfl (fun κ e1 e2 e3 C E NH => ?_)
  subst e1 e2 e3
  have C : Cx κ cJx4a65c_elementData_915e3 2 RJx4a65c "elementData" 0 := C
  obtain ⟨-, -, -, -, hc, hs⟩ := id E
  show J κ σ [(0, .ref a), (1, vi ((i : Int)))] 0 [] 0 0
  obtain ⟨m, hh, hd9⟩ := hL
  obtain ⟨hde, hxe⟩ | ⟨cap, f, hf, hcp, hfi⟩ := hd9
  · subst hxe; exact absurd hi (by simp)
  have hy : va_rf (f (i : Int).toNat) = .ref (xs[i]'hi) := by rw [show (i : Int).toNat = i from rfl, hfi i hi, List.getElem?_eq_getElem hi]; rfl
  refine j_aload_n 0 C dJx4a65c_elementData_915e3_0 rfl rfl rfl ?_
  refine j_get C dJx4a65c_elementData_915e3_1 rfl fg_Jx4a65c_9 hh rfl ?_
  refine j_iload_n 1 C dJx4a65c_elementData_915e3_4 rfl rfl rfl ?_
  refine j_ald C dJx4a65c_elementData_915e3_5 rfl hf ⟨by omega, by omega⟩ (by omega) hy ?_
  exact j_aret C E dJx4a65c_elementData_915e3_6 (Or.inl ⟨_, rfl⟩) (by omega) (by omega) ⟨rfl, rfl⟩
set_option maxHeartbeats 4000000 in
set_option maxRecDepth 20000 in
theorem c_listGet (l : Launch) (hfl : l.stackTraces = false) (D : va_G) (cy : Nat → Nat) (σ : Wd) (a d : Nat) (xs : List Nat) (hL : LstR cy σ a d xs) (i : Nat) (hi : i < xs.length) : Ct l yJx4a65c_get_915e3 cJx4a65c_get_915e3 2 (some (.object "java/lang/Object")) 2 0 0 D cy [.ref a, vi ((i : Int))] σ (fun v σ' => v = some (.ref (xs[i]'hi)) ∧ σ' = σ) noX := by
  refine ct_start (by decide +kernel) hfl rfl (fun κ e1 e2 e3 C E NH => ?_)
  subst e1 e2 e3
  have C : Cx κ cJx4a65c_get_915e3 2 RJx4a65c "get" 2 := C
  obtain ⟨-, -, -, -, hc, hs⟩ := id E
  show J κ σ [(0, .ref a), (1, vi ((i : Int)))] 0 [] 0 0
  have hL9 := hL
  obtain ⟨m, hh, hd9⟩ := hL
  have hxl : xs.length ≤ 150 := hd9.elim (fun z => by rw [z.2]; decide) (fun ⟨cap, f, hf, hcp, hfi⟩ => by omega)
  refine j_iload_n 1 C dJx4a65c_get_915e3_0 rfl rfl rfl ?_
  refine j_aload_n 0 C dJx4a65c_get_915e3_1 rfl rfl rfl ?_
  refine j_get C dJx4a65c_get_915e3_2 rfl fg_Jx4a65c_48 hh rfl ?_
  refine j_callS (st' := []) (As := [vi ((i : Int)), vi ((xs.length : Int))]) C dJx4a65c_get_915e3_5 rfl m_Jx4a65c_118 rfl rfl (c_checkIndex2 (kL κ) hfl (kD κ) (kc κ) σ i xs.length ⟨by omega, by omega⟩ (by omega)) rfl (by omega) (by omega) (by omega) (fun _ _ hx => hx.elim) (fun v2 τ1 hp3 => ?_)
  obtain ⟨rfl, hs9⟩ := hp3
  replace hs9 := hs9.symm
  subst hs9
  show J κ σ [(0, .ref a), (1, vi ((i : Int)))] 8 [vi ((i : Int))] _ _
  refine j_pop C dJx4a65c_get_915e3_8 rfl rfl ?_
  refine j_aload_n 0 C dJx4a65c_get_915e3_9 rfl rfl rfl ?_
  refine j_iload_n 1 C dJx4a65c_get_915e3_10 rfl rfl rfl ?_
  refine j_callV (st' := []) (As := [vi ((i : Int))]) C dJx4a65c_get_915e3_11 rfl m_Jx4a65c_123 hh rfl rfl rfl (c_elementData (kL κ) hfl (kD κ) (kc κ) σ a d xs hL9 i hi) rfl (by omega) (by omega) (by omega) (fun _ _ hx => hx.elim) (fun v5 τ4 hp6 => ?_)
  obtain ⟨rfl, hs9⟩ := hp6
  replace hs9 := hs9.symm
  subst hs9
  show J κ σ [(0, .ref a), (1, vi ((i : Int)))] 14 [.ref (xs[i]'hi)] _ _
  exact j_aret C E dJx4a65c_get_915e3_14 (Or.inl ⟨_, rfl⟩) (by omega) (by omega) ⟨rfl, rfl⟩
set_option maxHeartbeats 4000000 in
set_option maxRecDepth 20000 in
theorem c_newLength (l : Launch) (hfl : l.stackTraces = false) (D : va_G) (cy : Nat → Nat) (σ : Wd) (a b c : Int) (ha : 0 ≤ a ∧ a ≤ 100000000) (hb : 1 ≤ b ∧ b ≤ 100000000) (hc : 0 ≤ c ∧ c ≤ 100000000) : Ct l yJ8_newLength_cabcc cJ8_newLength_cabcc 4 (some .int) 0 0 0 D cy [vi (a), vi (b), vi (c)] σ (fun v σ' => v = some (vi (a + max b c)) ∧ σ' = σ) noX := by
  refine ct_start (by decide +kernel) hfl rfl (fun κ e1 e2 e3 C E NH => ?_)
  subst e1 e2 e3
  have C : Cx κ cJ8_newLength_cabcc 4 RJ8 "newLength" 0 := C
  obtain ⟨-, -, -, -, hc, hs⟩ := id E
  show J κ σ [(0, vi (a)), (1, vi (b)), (2, vi (c))] 0 [] 0 0
  refine j_iload_n 0 C dJ8_newLength_cabcc_0 rfl rfl rfl ?_
  refine j_iload_n 1 C dJ8_newLength_cabcc_1 rfl rfl rfl ?_
  refine j_iload_n 2 C dJ8_newLength_cabcc_2 rfl rfl rfl ?_
  refine j_max (z := (max b c)) C dJ8_newLength_cabcc_3 rfl mm_J8_194 ms_max mi_math mc_max (Nat.le_of_ble_eq_true rfl) (by omega) (by omega) ⟨by omega, by omega⟩ ⟨by omega, by omega⟩ rfl ?_
  refine j_iadd C dJ8_newLength_cabcc_6 rfl ?_
  refine j_istore_n (lv' := [(0, vi (a)), (1, vi (b)), (2, vi (c)), (3, vi (a + (max b c)))]) [1, 2, 3, 0] C dJ8_newLength_cabcc_7 rfl rfl rfl rfl ?_
  refine j_iconst C dJ8_newLength_cabcc_8 rfl ?_
  refine j_iload_n 3 C dJ8_newLength_cabcc_9 rfl rfl rfl ?_
  refine j_icmp_ge (tgt := 21) C dJ8_newLength_cabcc_10 rfl rfl ⟨by omega, by omega⟩ ⟨by omega, by omega⟩ (fun cc1 => ?_) (fun cc1 => ?_)
  · exact absurd cc1 (by omega)
  · refine j_iload_n 3 C dJ8_newLength_cabcc_13 rfl rfl rfl ?_
    refine j_ldc (z := 2147483639) C dJ8_newLength_cabcc_14 rfl kc_J8_200 ?_
    refine j_icmp_gt (tgt := 21) C dJ8_newLength_cabcc_16 rfl rfl ⟨by omega, by omega⟩ ⟨by omega, by omega⟩ (fun cc2 => ?_) (fun cc2 => ?_)
    · exact absurd cc2 (by omega)
    · refine j_iload_n 3 C dJ8_newLength_cabcc_19 rfl rfl rfl ?_
      exact j_iret C E dJ8_newLength_cabcc_20 (by omega) (by omega) ⟨rfl, rfl⟩
set_option maxHeartbeats 4000000 in
set_option maxRecDepth 20000 in
theorem c_copyOf3 (l : Launch) (hfl : l.stackTraces = false) (D : va_G) (cy : Nat → Nat) (σ : Wd) (a n0 n1 : Nat) (f : Nat → Option Nat) (hh : has σ a (oA cy n0 f)) (hn : n0 ≤ n1 ∧ n1 ≤ 250) (hel : ∀ i, i < n0 → ∀ y, f i = some y → Elt σ y) : Ct l yJ7_copyOf_6403c cJ7_copyOf_6403c 4 (some (.array (.object "java/lang/Object"))) 0 1 250 D cy [.ref a, vi ((n1 : Int)), .ref (cy 8)] σ (fun v σ' => ∃ q : Nat, v = some (.ref q) ∧ has σ' q (oA cy n1 (va_cpy f (fun _ => none) 0 0 n0)) ∧ q ∉ σ.1 ∧ Keep σ σ' (fun _ => False) ∧ σ'.1 = σ.1 ++ [q]) noX := by
  refine ct_start (by decide +kernel) hfl rfl (fun κ e1 e2 e3 C E NH => ?_)
  subst e1 e2 e3
  have C : Cx κ cJ7_copyOf_6403c 4 RJ7 "copyOf" 0 := C
  obtain ⟨-, -, -, -, hc, hs⟩ := id E
  show J κ σ [(0, .ref a), (1, vi ((n1 : Int))), (2, .ref (kc κ 8))] 0 [] 0 0
  have kp0 : Keep σ σ (fun _ => False) := Keep.rf
  have dm0 : σ.1 = σ.1 := rfl
  refine j_aload_n 2 C dJ7_copyOf_6403c_0 rfl rfl rfl ?_
  refine j_ldcM C dJ7_copyOf_6403c_1 rfl cl_J7_110 ?_
  refine j_acmp_ne (tgt := 13) C dJ7_copyOf_6403c_3 rfl rfl (fun cc1 => ?_) (fun cc1 => ?_)
  · exact absurd rfl cc1
  · refine j_iload_n 1 C dJ7_copyOf_6403c_6 rfl rfl rfl ?_
    refine j_newO C dJ7_copyOf_6403c_7 rfl cl_J7_2 ⟨by omega, by omega⟩ (by omega) (by omega) (k' := 1) (n' := (n1 : Int).toNat) (by first | rfl | omega) (by first | rfl | omega) (fun q τ2 nq4 ee3 => ?_)
    have u5 := hh.old' ee3 nq4
    have u6 : has τ2 q (oA (kc κ) (n1 : Int).toNat (fun _ => none)) := has.fresh' ee3
    have kp7 := kp0.new ee3 nq4
    have dm8 := (dom_new ee3).trans (congrArg (· ++ [q]) dm0)
    have nnq : q ∉ σ.1 := nq4
    refine j_goto (tgt := 24) C dJ7_copyOf_6403c_10 rfl ?_
    refine j_astore_n (lv' := [(0, .ref a), (1, vi ((n1 : Int))), (2, .ref (kc κ 8)), (3, .ref q)]) [1, 2, 3, 0] C dJ7_copyOf_6403c_24 rfl rfl rfl rfl ?_
    refine j_aload_n 0 C dJ7_copyOf_6403c_25 rfl rfl rfl ?_
    refine j_iconst C dJ7_copyOf_6403c_26 rfl ?_
    refine j_aload_n 3 C dJ7_copyOf_6403c_27 rfl rfl rfl ?_
    refine j_iconst C dJ7_copyOf_6403c_28 rfl ?_
    refine j_aload_n 0 C dJ7_copyOf_6403c_29 rfl rfl rfl ?_
    refine j_alen (i := 4) C dJ7_copyOf_6403c_30 rfl rfl u5 ?_
    refine j_iload_n 1 C dJ7_copyOf_6403c_31 rfl rfl rfl ?_
    refine j_min (z := (n0 : Int)) C dJ7_copyOf_6403c_32 rfl mm_J7_304 ms_min mi_math mc_min (Nat.le_of_ble_eq_true rfl) (by omega) (by omega) ⟨by omega, by omega⟩ ⟨by omega, by omega⟩ (by omega) ?_
    refine j_copyO C dJ7_copyOf_6403c_35 rfl ac_J7_150 ac_na ac_st ac_in u5 u6 ⟨by omega, by omega, by omega⟩ ⟨by omega, by omega⟩ ⟨by omega, by omega⟩ (fun i hi y hy => (hel i (by omega) y (by rw [show (0 : Int).toNat + i = i by simp] at hy; exact hy)).elim (fun ci z => z.elim (fun fs z => z.elim (fun r z => ⟨ci, fs, r, kp7 _ _ z.1 (fun q => q), z.2⟩)))) (Nat.le_of_ble_eq_true rfl) (fun τ9 ee10 => ?_)
    have u11 := u5.ne' ee10 (hh.apart nq4)
    have u12 : has τ9 q (oA (kc κ) (n1 : Int).toNat (va_cpy f (fun _ => none) 0 0 n0)) := u6.self' ee10
    refine j_aload_n 3 C dJ7_copyOf_6403c_38 rfl rfl rfl ?_
    exact j_aret C E dJ7_copyOf_6403c_39 (Or.inr ⟨_, rfl⟩) (by omega) (by omega) ⟨q, rfl, u12, nnq, kp7.tr2 (Keep.put (F := fun x => x = q) Keep.rf ee10 rfl) (fun x z => Or.inr (by rw [z]; exact nnq)), (dom_put ee10).trans dm8⟩
set_option maxHeartbeats 4000000 in
set_option maxRecDepth 20000 in
theorem c_copyOf2 (l : Launch) (hfl : l.stackTraces = false) (D : va_G) (cy : Nat → Nat) (σ : Wd) (a n0 n1 : Nat) (f : Nat → Option Nat) (hh : has σ a (oA cy n0 f)) (hn : n0 ≤ n1 ∧ n1 ≤ 250) (hel : ∀ i, i < n0 → ∀ y, f i = some y → Elt σ y) : Ct l yJ7_copyOf_1904c cJ7_copyOf_1904c 2 (some (.array (.object "java/lang/Object"))) 1 1 250 D cy [.ref a, vi ((n1 : Int))] σ (fun v σ' => ∃ q : Nat, v = some (.ref q) ∧ has σ' q (oA cy n1 (va_cpy f (fun _ => none) 0 0 n0)) ∧ q ∉ σ.1 ∧ Keep σ σ' (fun _ => False) ∧ σ'.1 = σ.1 ++ [q]) noX := by
  refine ct_start (by decide +kernel) hfl rfl (fun κ e1 e2 e3 C E NH => ?_)
  subst e1 e2 e3
  have C : Cx κ cJ7_copyOf_1904c 2 RJ7 "copyOf" 1 := C
  obtain ⟨-, -, -, -, hc, hs⟩ := id E
  show J κ σ [(0, .ref a), (1, vi ((n1 : Int)))] 0 [] 0 0
  refine j_aload_n 0 C dJ7_copyOf_1904c_0 rfl rfl rfl ?_
  refine j_iload_n 1 C dJ7_copyOf_1904c_1 rfl rfl rfl ?_
  refine j_aload_n 0 C dJ7_copyOf_1904c_2 rfl rfl rfl ?_
  refine j_getC C dJ7_copyOf_1904c_3 rfl gc_lk gc_de gc_se gc_ii gc_na hh (Nat.le_of_ble_eq_true rfl) ?_
  refine j_callS (st' := []) (As := [.ref a, vi ((n1 : Int)), .ref (kc κ 8)]) C dJ7_copyOf_1904c_6 rfl m_J7_300 rfl rfl (c_copyOf3 (kL κ) hfl (kD κ) (kc κ) σ a n0 n1 f hh hn hel) rfl (by omega) (by omega) (by omega) (fun _ _ hx => hx.elim) (fun v2 τ1 hp3 => ?_)
  obtain ⟨q, rfl, h9⟩ := hp3
  show J κ τ1 [(0, .ref a), (1, vi ((n1 : Int)))] 9 [.ref q] _ _
  exact j_aret C E dJ7_copyOf_1904c_9 (Or.inr ⟨_, rfl⟩) (by omega) (by omega) ⟨q, rfl, h9⟩
set_option maxHeartbeats 4000000 in
set_option maxRecDepth 20000 in
theorem c_grow1 (l : Launch) (hfl : l.stackTraces = false) (D : va_G) (cy : Nat → Nat) (σ : Wd) (a d : Nat) (m : Int) (xs : List Nat) (hx : xs.length ≤ 80) (hh : has σ a (.inr (9, [vi m, .ref d, vi (xs.length : Int)]))) (hd9 : (d = cy 7 ∧ xs = []) ∨ ∃ f : Nat → Option Nat, has σ d (oA cy xs.length f) ∧ 10 ≤ xs.length ∧ ∀ i, i < xs.length → f i = xs[i]?) (hel : ∀ y ∈ xs, Elt σ y) : Ct l yJx4a65c_grow_92f84 cJx4a65c_grow_92f84 4 (some (.array (.object "java/lang/Object"))) 2 1 250 D cy [.ref a, vi ((xs.length : Int) + 1)] σ (fun v σ' => ∃ (q cap : Nat) (f : Nat → Option Nat), v = some (.ref q) ∧ has σ' a (.inr (9, [vi m, .ref q, vi (xs.length : Int)])) ∧ has σ' q (oA cy cap f) ∧ (10 ≤ cap ∧ cap ≤ 150 ∧ xs.length < cap) ∧ (∀ i, i < xs.length → f i = xs[i]?) ∧ q ∉ σ.1 ∧ Keep σ σ' (fun x => x = a) ∧ σ'.1 = σ.1 ++ [q]) noX := by
  refine ct_start (by decide +kernel) hfl rfl (fun κ e1 e2 e3 C E NH => ?_)
  subst e1 e2 e3
  have C : Cx κ cJx4a65c_grow_92f84 4 RJx4a65c "grow" 2 := C
  obtain ⟨-, -, -, -, hc, hs⟩ := id E
  show J κ σ [(0, .ref a), (1, vi ((xs.length : Int) + 1))] 0 [] 0 0
  rcases hd9 with ⟨hde, hxe⟩ | ⟨f, hf, hcp, hfi⟩
  · subst hde hxe
    have kp0 : Keep σ σ (fun x => x = a) := Keep.rf
    have dm0 : σ.1 = σ.1 := rfl
    show J κ σ [(0, .ref a), (1, vi (1))] 0 [] 0 0
    refine j_aload_n 0 C dJx4a65c_grow_92f84_0 rfl rfl rfl ?_
    refine j_get C dJx4a65c_grow_92f84_1 rfl fg_Jx4a65c_9 hh rfl ?_
    refine j_tlen C dJx4a65c_grow_92f84_4 rfl C.go.2.1.2.2 ?_
    refine j_istore_n (lv' := [(0, .ref a), (1, vi (1)), (2, vi ((0 : Nat)))]) [1, 2, 0] C dJx4a65c_grow_92f84_5 rfl rfl rfl rfl ?_
    refine j_iload_n 2 C dJx4a65c_grow_92f84_6 rfl rfl rfl ?_
    refine j_if_gt (tgt := 20) C dJx4a65c_grow_92f84_7 rfl rfl ⟨by omega, by omega⟩ (fun cc1 => ?_) (fun cc1 => ?_)
    · exact absurd cc1 (by decide)
    · refine j_aload_n 0 C dJx4a65c_grow_92f84_10 rfl rfl rfl ?_
      refine j_get C dJx4a65c_grow_92f84_11 rfl fg_Jx4a65c_9 hh rfl ?_
      refine j_gets C dJx4a65c_grow_92f84_14 rfl gs_Jx4a65c_39 C.go.2.1.2.1 ?_
      refine j_acmp_eq (tgt := 45) C dJx4a65c_grow_92f84_17 rfl rfl (fun cc2 => ?_) (fun cc2 => ?_)
      · refine j_aload_n 0 C dJx4a65c_grow_92f84_45 rfl rfl rfl ?_
        refine j_bipush C dJx4a65c_grow_92f84_46 rfl (by decide) ?_
        refine j_iload_n 1 C dJx4a65c_grow_92f84_48 rfl rfl rfl ?_
        refine j_max (z := 10) C dJx4a65c_grow_92f84_49 rfl mm_Jx4a65c_79 ms_max mi_math mc_max (Nat.le_of_ble_eq_true rfl) (by omega) (by omega) ⟨by omega, by omega⟩ ⟨by omega, by omega⟩ (by decide) ?_
        refine j_newO C dJx4a65c_grow_92f84_52 rfl cl_Jx4a65c_7 ⟨by omega, by omega⟩ (by omega) (by omega) (k' := 1) (n' := 10) (by first | rfl | omega) (by first | rfl | omega) (fun q τ3 nq5 ee4 => ?_)
        have u6 := hh.old' ee4 nq5
        have u7 : has τ3 q (oA (kc κ) 10 (fun _ => none)) := has.fresh' ee4
        have kp8 := kp0.new ee4 nq5
        have dm9 := (dom_new ee4).trans (congrArg (· ++ [q]) dm0)
        have nnq : q ∉ σ.1 := nq5
        refine j_dup_x1 C dJx4a65c_grow_92f84_55 rfl rfl rfl ?_
        refine j_put (fs' := [vi (m), .ref q, vi (0)]) C dJx4a65c_grow_92f84_56 rfl fa_Jx4a65c_9 u6 rfl rfl rfl rfl (fun τ10 ee11 => ?_)
        have u12 : has τ10 a (.inr (9, [vi (m), .ref q, vi (0)])) := u6.self' ee11
        have u13 := u7.ne' ee11 (Ne.symm (hh.apart nq5))
        have kp14 := kp8.put ee11 rfl
        have dm15 := (dom_put ee11).trans dm9
        exact j_aret C E dJx4a65c_grow_92f84_59 (Or.inr ⟨_, rfl⟩) (by omega) (by omega) ⟨q, 10, _, rfl, u12, u13, ⟨by decide, by decide, by decide⟩, (fun i hi => absurd hi (Nat.not_lt_zero _)), nnq, kp14, dm15⟩
      · exact absurd rfl cc2
  · have kp0 : Keep σ σ (fun x => x = a) := Keep.rf
    have dm0 : σ.1 = σ.1 := rfl
    refine j_aload_n 0 C dJx4a65c_grow_92f84_0 rfl rfl rfl ?_
    refine j_get C dJx4a65c_grow_92f84_1 rfl fg_Jx4a65c_9 hh rfl ?_
    refine j_alen (i := 4) C dJx4a65c_grow_92f84_4 rfl rfl hf ?_
    refine j_istore_n (lv' := [(0, .ref a), (1, vi ((xs.length : Int) + 1)), (2, vi ((xs.length : Nat)))]) [1, 2, 0] C dJx4a65c_grow_92f84_5 rfl rfl rfl rfl ?_
    refine j_iload_n 2 C dJx4a65c_grow_92f84_6 rfl rfl rfl ?_
    refine j_if_gt (tgt := 20) C dJx4a65c_grow_92f84_7 rfl rfl ⟨by omega, by omega⟩ (fun cc16 => ?_) (fun cc16 => ?_)
    · refine j_iload_n 2 C dJx4a65c_grow_92f84_20 rfl rfl rfl ?_
      refine j_iload_n 1 C dJx4a65c_grow_92f84_21 rfl rfl rfl ?_
      refine j_iload_n 2 C dJx4a65c_grow_92f84_22 rfl rfl rfl ?_
      refine j_isub C dJx4a65c_grow_92f84_23 rfl ?_
      refine j_iload_n 2 C dJx4a65c_grow_92f84_24 rfl rfl rfl ?_
      refine j_iconst C dJx4a65c_grow_92f84_25 rfl ?_
      refine j_ishr (z := (xs.length : Int) / 2) C dJx4a65c_grow_92f84_26 rfl (z_shr 1 (by decide) ⟨by omega, by omega⟩ (by simp)) ?_
      obtain ⟨hl2, hhl2⟩ : ∃ z : Int, (xs.length : Int) / 2 = z := ⟨_, rfl⟩
      rw [hhl2]
      refine j_callS (st' := []) (As := [vi ((xs.length : Nat)), vi (((xs.length : Int) + 1) - (xs.length : Nat)), vi (hl2)]) C dJx4a65c_grow_92f84_27 rfl m_Jx4a65c_73 rfl rfl (c_newLength (kL κ) hfl (kD κ) (kc κ) σ (xs.length : Nat) (((xs.length : Int) + 1) - (xs.length : Nat)) hl2 ⟨by omega, by omega⟩ ⟨by omega, by omega⟩ ⟨by omega, by omega⟩) rfl (by omega) (by omega) (by omega) (fun _ _ hx => hx.elim) (fun v18 τ17 hp19 => ?_)
      obtain ⟨rfl, hs9⟩ := hp19
      replace hs9 := hs9.symm
      subst hs9
      show J κ σ [(0, .ref a), (1, vi ((xs.length : Int) + 1)), (2, vi ((xs.length : Nat)))] 30 [vi ((xs.length : Nat) + max (((xs.length : Int) + 1) - (xs.length : Nat)) hl2)] _ _
      obtain ⟨n1, hn1⟩ : ∃ z : Nat, (xs.length : Nat) + max (((xs.length : Int) + 1) - (xs.length : Nat)) hl2 = (z : Int) := ⟨((xs.length : Nat) + max (((xs.length : Int) + 1) - (xs.length : Nat)) hl2).toNat, by omega⟩
      rw [hn1]
      refine j_istore_n (lv' := [(0, .ref a), (1, vi ((xs.length : Int) + 1)), (2, vi ((xs.length : Nat))), (3, vi ((n1 : Int)))]) [1, 2, 3, 0] C dJx4a65c_grow_92f84_30 rfl rfl rfl rfl ?_
      refine j_aload_n 0 C dJx4a65c_grow_92f84_31 rfl rfl rfl ?_
      refine j_aload_n 0 C dJx4a65c_grow_92f84_32 rfl rfl rfl ?_
      refine j_get C dJx4a65c_grow_92f84_33 rfl fg_Jx4a65c_9 hh rfl ?_
      refine j_iload_n 3 C dJx4a65c_grow_92f84_36 rfl rfl rfl ?_
      refine j_callS (st' := [.ref a]) (As := [.ref d, vi ((n1 : Int))]) C dJx4a65c_grow_92f84_37 rfl m_Jx4a65c_66 rfl rfl (c_copyOf2 (kL κ) hfl (kD κ) (kc κ) σ d xs.length n1 f hf ⟨by omega, by omega⟩ (fun i hi y hy => hel y (by rw [hfi i hi] at hy; exact List.mem_of_getElem? hy))) rfl (by omega) (by omega) (by omega) (fun _ _ hx => hx.elim) (fun v21 τ20 hp22 => ?_)
      obtain ⟨q, rfl, hq1, hq2, hq3, hq4⟩ := hp22
      have hh2 := hq3 _ _ hh (fun z => z)
      have kp5 : Keep σ τ20 (fun x => x = a) := hq3.mono (fun _ z => z.elim)
      show J κ τ20 [(0, .ref a), (1, vi ((xs.length : Int) + 1)), (2, vi ((xs.length : Nat))), (3, vi ((n1 : Int)))] 40 [.ref q, .ref a] _ _
      refine j_dup_x1 C dJx4a65c_grow_92f84_40 rfl rfl rfl ?_
      refine j_put (fs' := [vi (m), .ref q, vi ((xs.length : Int))]) C dJx4a65c_grow_92f84_41 rfl fa_Jx4a65c_9 hh2 rfl rfl rfl rfl (fun τ23 ee24 => ?_)
      have u25 : has τ23 a (.inr (9, [vi (m), .ref q, vi ((xs.length : Int))])) := hh2.self' ee24
      have u26 := hq1.ne' ee24 (hq1.nk hh2 rfl)
      have kp27 := kp5.put ee24 rfl
      have dm28 := (dom_put ee24).trans hq4
      exact j_aret C E dJx4a65c_grow_92f84_44 (Or.inr ⟨_, rfl⟩) (by omega) (by omega) ⟨q, n1, _, rfl, u25, u26, ⟨by omega, by omega, by omega⟩, (fun i hi => by unfold va_cpy; rw [if_pos ⟨Nat.zero_le _, by omega⟩, ← hfi i hi]; simp), hq2, kp27, dm28⟩
    · exact absurd cc16 (by omega)
set_option maxHeartbeats 4000000 in
set_option maxRecDepth 20000 in
theorem c_grow0 (l : Launch) (hfl : l.stackTraces = false) (D : va_G) (cy : Nat → Nat) (σ : Wd) (a d : Nat) (m : Int) (xs : List Nat) (hx : xs.length ≤ 80) (hh : has σ a (.inr (9, [vi m, .ref d, vi (xs.length : Int)]))) (hd9 : (d = cy 7 ∧ xs = []) ∨ ∃ f : Nat → Option Nat, has σ d (oA cy xs.length f) ∧ 10 ≤ xs.length ∧ ∀ i, i < xs.length → f i = xs[i]?) (hel : ∀ y ∈ xs, Elt σ y) : Ct l yJx4a65c_grow_d5877 cJx4a65c_grow_d5877 1 (some (.array (.object "java/lang/Object"))) 3 1 250 D cy [.ref a] σ (fun v σ' => ∃ (q cap : Nat) (f : Nat → Option Nat), v = some (.ref q) ∧ has σ' a (.inr (9, [vi m, .ref q, vi (xs.length : Int)])) ∧ has σ' q (oA cy cap f) ∧ (10 ≤ cap ∧ cap ≤ 150 ∧ xs.length < cap) ∧ (∀ i, i < xs.length → f i = xs[i]?) ∧ q ∉ σ.1 ∧ Keep σ σ' (fun x => x = a) ∧ σ'.1 = σ.1 ++ [q]) noX := by
  refine ct_start (by decide +kernel) hfl rfl (fun κ e1 e2 e3 C E NH => ?_)
  subst e1 e2 e3
  have C : Cx κ cJx4a65c_grow_d5877 1 RJx4a65c "grow" 3 := C
  obtain ⟨-, -, -, -, hc, hs⟩ := id E
  show J κ σ [(0, .ref a)] 0 [] 0 0
  refine j_aload_n 0 C dJx4a65c_grow_d5877_0 rfl rfl rfl ?_
  refine j_aload_n 0 C dJx4a65c_grow_d5877_1 rfl rfl rfl ?_
  refine j_get C dJx4a65c_grow_d5877_2 rfl fg_Jx4a65c_48 hh rfl ?_
  refine j_iconst C dJx4a65c_grow_d5877_5 rfl ?_
  refine j_iadd C dJx4a65c_grow_d5877_6 rfl ?_
  refine j_callV (st' := []) (As := [vi ((xs.length : Int) + 1)]) C dJx4a65c_grow_d5877_7 rfl m_Jx4a65c_69 hh rfl rfl rfl (c_grow1 (kL κ) hfl (kD κ) (kc κ) σ a d m xs hx hh hd9 hel) rfl (by omega) (by omega) (by omega) (fun _ _ hx => hx.elim) (fun v2 τ1 hp3 => ?_)
  obtain ⟨q, cap, f, rfl, h9⟩ := hp3
  show J κ τ1 [(0, .ref a)] 10 [.ref q] _ _
  exact j_aret C E dJx4a65c_grow_d5877_10 (Or.inr ⟨_, rfl⟩) (by omega) (by omega) ⟨q, cap, f, rfl, h9⟩
theorem add_len {xs : List Nat} {e : Nat} : (((xs ++ [e]).length : Nat) : Int) = (xs.length : Int) + 1 := by rw [List.length_append]; rfl
theorem add_at {f : Nat → Option Nat} {xs : List Nat} {e : Nat} (hf : ∀ i, i < xs.length → f i = xs[i]?) : ∀ i, i < (xs ++ [e]).length → va_up f xs.length (some e) i = (xs ++ [e])[i]? := by
  intro i hi
  rw [List.length_append] at hi
  by_cases hie : i = xs.length
  · subst hie
    rw [va_up_self]
    simp
  · rw [va_up_ne _ _ hie, hf i (by have : i < xs.length + 1 := hi; omega), List.getElem?_append_left (by have : i < xs.length + 1 := hi; omega)]
theorem j_eq_st {κ : Kx} {σ : Wd} {lv : List (Nat × Value)} {pc k n : Nat} {st st' : List Value} (h : st = st') (kk : J κ σ lv pc st' k n) : J κ σ lv pc st k n := h ▸ kk
set_option maxHeartbeats 4000000 in
set_option maxRecDepth 20000 in
theorem c_add3room (l : Launch) (hfl : l.stackTraces = false) (D : va_G) (cy : Nat → Nat) (σ : Wd) (a d : Nat) (m : Int) (xs : List Nat) (cap : Nat) (f : Nat → Option Nat) (hh : has σ a (.inr (9, [vi m, .ref d, vi (xs.length : Int)]))) (hf : has σ d (oA cy cap f)) (hcp : 10 ≤ cap ∧ cap ≤ 150 ∧ xs.length < cap) (hfi : ∀ i, i < xs.length → f i = xs[i]?) (e : Nat) (hE : Elt σ e) (hEa : e ≠ a) (hEd : e ≠ d) : Ct l yJx4a65c_add_72be8 cJx4a65c_add_72be8 4 none 4 0 0 D cy [.ref a, .ref e, .ref d, vi ((xs.length : Int))] σ (fun v σ' => v = none ∧ ∃ d' : Nat, LstR cy σ' a d' (xs ++ [e]) ∧ ((d' = d ∧ σ'.1 = σ.1) ∨ (d' ∉ σ.1 ∧ σ'.1 = σ.1 ++ [d'])) ∧ Keep σ σ' (fun x => x = a ∨ x = d)) noX := by
  refine ct_start (by decide +kernel) hfl rfl (fun κ e1 e2 e3 C E NH => ?_)
  subst e1 e2 e3
  have C : Cx κ cJx4a65c_add_72be8 4 RJx4a65c "add" 4 := C
  obtain ⟨-, -, -, -, hc, hs⟩ := id E
  show J κ σ [(0, .ref a), (1, .ref e), (2, .ref d), (3, vi ((xs.length : Int)))] 0 [] 0 0
  obtain ⟨ce, fe, re, hE1, hE2, hE3⟩ := id hE
  have hany : ∀ (s : State) (cl comp : ClassId), s = kS κ → s.vm.findClass re.1 = some cl → s.vm.findClass "java/lang/Object" = some comp → s.vm.assignable cl comp = true := fun s cl comp h1 h2 h3 => by subst h1; exact asgO C.2.2.1 hE3 comp cl h3 h2
  have kp0 : Keep σ σ (fun x => x = a ∨ x = d) := Keep.rf
  have dm0 : σ.1 = σ.1 := rfl
  refine j_iload_n 3 C dJx4a65c_add_72be8_0 rfl rfl rfl ?_
  refine j_aload_n 2 C dJx4a65c_add_72be8_1 rfl rfl rfl ?_
  refine j_alen (i := 4) C dJx4a65c_add_72be8_2 rfl rfl hf ?_
  refine j_icmp_ne (tgt := 11) C dJx4a65c_add_72be8_3 rfl rfl ⟨by omega, by omega⟩ ⟨by omega, by omega⟩ (fun cc1 => ?_) (fun cc1 => ?_)
  · refine j_aload_n 2 C dJx4a65c_add_72be8_11 rfl rfl rfl ?_
    refine j_iload_n 3 C dJx4a65c_add_72be8_12 rfl rfl rfl ?_
    refine j_aload_n 1 C dJx4a65c_add_72be8_13 rfl rfl rfl ?_
    refine j_aast C dJx4a65c_add_72be8_14 rfl hf hE1 hE2 hany ⟨by omega, by omega⟩ (by omega) (fun τ2 ee3 => ?_)
    have u4 := hh.ne' ee3 (hh.nk hf rfl)
    have u5 : has τ2 d (oA (kc κ) cap (va_up f (xs.length : Int).toNat (some e))) := hf.self' ee3
    have kp6 := kp0.put ee3 (Or.inr rfl)
    have dm7 := (dom_put ee3).trans dm0
    refine j_aload_n 0 C dJx4a65c_add_72be8_15 rfl rfl rfl ?_
    refine j_iload_n 3 C dJx4a65c_add_72be8_16 rfl rfl rfl ?_
    refine j_iconst C dJx4a65c_add_72be8_17 rfl ?_
    refine j_iadd C dJx4a65c_add_72be8_18 rfl ?_
    refine j_put (fs' := [vi (m), .ref d, vi ((xs.length : Int) + 1)]) C dJx4a65c_add_72be8_19 rfl fa_Jx4a65c_48 u4 rfl rfl rfl rfl (fun τ8 ee9 => ?_)
    have u10 : has τ8 a (.inr (9, [vi (m), .ref d, vi ((xs.length : Int) + 1)])) := u4.self' ee9
    have u11 := u5.ne' ee9 (u5.nk u4 rfl)
    have kp12 := kp6.put ee9 (Or.inl rfl)
    have dm13 := (dom_put ee9).trans dm7
    exact j_vret C E dJx4a65c_add_72be8_22 (by omega) (by omega) ⟨rfl, d, ⟨m, (by rw [add_len]; exact u10), Or.inr ⟨cap, _, u11, ⟨by omega, by omega, by rw [List.length_append]; show xs.length + 1 ≤ cap; omega⟩, add_at hfi⟩⟩, Or.inl ⟨rfl, dm13⟩, kp12⟩
  · exact absurd cc1 (by omega)
set_option maxHeartbeats 4000000 in
set_option maxRecDepth 20000 in
theorem c_add3full (l : Launch) (hfl : l.stackTraces = false) (D : va_G) (cy : Nat → Nat) (σ : Wd) (a d : Nat) (m : Int) (xs : List Nat) (hx : xs.length ≤ 80) (hh : has σ a (.inr (9, [vi m, .ref d, vi (xs.length : Int)]))) (hd9 : (d = cy 7 ∧ xs = []) ∨ ∃ f : Nat → Option Nat, has σ d (oA cy xs.length f) ∧ 10 ≤ xs.length ∧ ∀ i, i < xs.length → f i = xs[i]?) (hel : ∀ y ∈ xs, Elt σ y) (e : Nat) (hE : Elt σ e) (hEa : e ≠ a) (hEd : e ≠ d) : Ct l yJx4a65c_add_72be8 cJx4a65c_add_72be8 4 none 4 1 250 D cy [.ref a, .ref e, .ref d, vi ((xs.length : Int))] σ (fun v σ' => v = none ∧ ∃ d' : Nat, LstR cy σ' a d' (xs ++ [e]) ∧ ((d' = d ∧ σ'.1 = σ.1) ∨ (d' ∉ σ.1 ∧ σ'.1 = σ.1 ++ [d'])) ∧ Keep σ σ' (fun x => x = a ∨ x = d)) noX := by
  refine ct_start (by decide +kernel) hfl rfl (fun κ e1 e2 e3 C E NH => ?_)
  subst e1 e2 e3
  have C : Cx κ cJx4a65c_add_72be8 4 RJx4a65c "add" 4 := C
  obtain ⟨-, -, -, -, hc, hs⟩ := id E
  show J κ σ [(0, .ref a), (1, .ref e), (2, .ref d), (3, vi ((xs.length : Int)))] 0 [] 0 0
  obtain ⟨ce, fe, re, hE1, hE2, hE3⟩ := id hE
  have hany : ∀ (s : State) (cl comp : ClassId), s = kS κ → s.vm.findClass re.1 = some cl → s.vm.findClass "java/lang/Object" = some comp → s.vm.assignable cl comp = true := fun s cl comp h1 h2 h3 => by subst h1; exact asgO C.2.2.1 hE3 comp cl h3 h2
  refine j_iload_n 3 C dJx4a65c_add_72be8_0 rfl rfl rfl ?_
  refine j_aload_n 2 C dJx4a65c_add_72be8_1 rfl rfl rfl ?_
  rcases id hd9 with ⟨hde, hxe⟩ | ⟨f, hf, hcp, hfi⟩
  · refine j_eq_st (st' := [.ref (kc κ 7), vi (0 : Int)]) (by rw [hde, hxe]; rfl) ?_
    refine j_tlen C dJx4a65c_add_72be8_2 rfl C.go.2.1.2.2 ?_
    refine j_icmp_ne (tgt := 11) C dJx4a65c_add_72be8_3 rfl rfl ⟨by omega, by omega⟩ ⟨by omega, by omega⟩ (fun cc1 => ?_) (fun cc1 => ?_)
    · exact absurd rfl cc1
    · refine j_aload_n 0 C dJx4a65c_add_72be8_6 rfl rfl rfl ?_
      refine j_callV (st' := []) (As := []) C dJx4a65c_add_72be8_7 rfl m_Jx4a65c_129 hh rfl rfl rfl (c_grow0 (kL κ) hfl (kD κ) (kc κ) σ a d m xs hx hh hd9 hel) rfl (by omega) (by omega) (by omega) (fun _ _ hx => hx.elim) (fun v3 τ2 hp4 => ?_)
      obtain ⟨q, cap9, f9, rfl, hq1, hq2, hq3, hq4, hq5, hq6, hq7⟩ := hp4
      show J κ τ2 [(0, .ref a), (1, .ref e), (2, .ref d), (3, vi ((xs.length : Int)))] 10 [.ref q] _ _
      have hE5 := hq6 _ _ hE1 hEa
      have kp7 : Keep τ2 τ2 (fun x => x = a ∨ x = q) := Keep.rf
      have dm7 : τ2.1 = τ2.1 := rfl
      refine j_astore_n (lv' := [(0, .ref a), (1, .ref e), (2, .ref q), (3, vi ((xs.length : Int)))]) [1, 2, 0, 3] C dJx4a65c_add_72be8_10 rfl rfl rfl rfl ?_
      refine j_aload_n 2 C dJx4a65c_add_72be8_11 rfl rfl rfl ?_
      refine j_iload_n 3 C dJx4a65c_add_72be8_12 rfl rfl rfl ?_
      refine j_aload_n 1 C dJx4a65c_add_72be8_13 rfl rfl rfl ?_
      refine j_aast C dJx4a65c_add_72be8_14 rfl hq2 hE5 hE2 hany ⟨by omega, by omega⟩ (by omega) (fun τ5 ee6 => ?_)
      have u7 := hq1.ne' ee6 (hq1.nk hq2 rfl)
      have u8 : has τ5 q (oA (kc κ) cap9 (va_up f9 (xs.length : Int).toNat (some e))) := hq2.self' ee6
      have kp9 := kp7.put ee6 (Or.inr rfl)
      have dm10 := (dom_put ee6).trans dm7
      refine j_aload_n 0 C dJx4a65c_add_72be8_15 rfl rfl rfl ?_
      refine j_iload_n 3 C dJx4a65c_add_72be8_16 rfl rfl rfl ?_
      refine j_iconst C dJx4a65c_add_72be8_17 rfl ?_
      refine j_iadd C dJx4a65c_add_72be8_18 rfl ?_
      refine j_put (fs' := [vi (m), .ref q, vi ((xs.length : Int) + 1)]) C dJx4a65c_add_72be8_19 rfl fa_Jx4a65c_48 u7 rfl rfl rfl rfl (fun τ11 ee12 => ?_)
      have u13 : has τ11 a (.inr (9, [vi (m), .ref q, vi ((xs.length : Int) + 1)])) := u7.self' ee12
      have u14 := u8.ne' ee12 (u8.nk u7 rfl)
      have kp15 := kp9.put ee12 (Or.inl rfl)
      have dm16 := (dom_put ee12).trans dm10
      exact j_vret C E dJx4a65c_add_72be8_22 (by omega) (by omega) ⟨rfl, q, ⟨m, (by rw [add_len]; exact u13), Or.inr ⟨cap9, _, u14, ⟨by omega, by omega, by rw [List.length_append]; show xs.length + 1 ≤ cap9; omega⟩, add_at hq4⟩⟩, Or.inr ⟨hq5, dm16.trans hq7⟩, (hq6.mono (fun x z => Or.inl z)).tr2 kp15 (fun x z => z.elim (fun z => Or.inl (Or.inl z)) (fun z => Or.inr (by rw [z]; exact hq5)))⟩
  · refine j_alen (i := 4) C dJx4a65c_add_72be8_2 rfl rfl hf ?_
    refine j_icmp_ne (tgt := 11) C dJx4a65c_add_72be8_3 rfl rfl ⟨by omega, by omega⟩ ⟨by omega, by omega⟩ (fun cc17 => ?_) (fun cc17 => ?_)
    · exact absurd rfl cc17
    · refine j_aload_n 0 C dJx4a65c_add_72be8_6 rfl rfl rfl ?_
      refine j_callV (st' := []) (As := []) C dJx4a65c_add_72be8_7 rfl m_Jx4a65c_129 hh rfl rfl rfl (c_grow0 (kL κ) hfl (kD κ) (kc κ) σ a d m xs hx hh hd9 hel) rfl (by omega) (by omega) (by omega) (fun _ _ hx => hx.elim) (fun v19 τ18 hp20 => ?_)
      obtain ⟨q, cap9, f9, rfl, hq1, hq2, hq3, hq4, hq5, hq6, hq7⟩ := hp20
      show J κ τ18 [(0, .ref a), (1, .ref e), (2, .ref d), (3, vi ((xs.length : Int)))] 10 [.ref q] _ _
      have hE5 := hq6 _ _ hE1 hEa
      have kp7 : Keep τ18 τ18 (fun x => x = a ∨ x = q) := Keep.rf
      have dm7 : τ18.1 = τ18.1 := rfl
      refine j_astore_n (lv' := [(0, .ref a), (1, .ref e), (2, .ref q), (3, vi ((xs.length : Int)))]) [1, 2, 0, 3] C dJx4a65c_add_72be8_10 rfl rfl rfl rfl ?_
      refine j_aload_n 2 C dJx4a65c_add_72be8_11 rfl rfl rfl ?_
      refine j_iload_n 3 C dJx4a65c_add_72be8_12 rfl rfl rfl ?_
      refine j_aload_n 1 C dJx4a65c_add_72be8_13 rfl rfl rfl ?_
      refine j_aast C dJx4a65c_add_72be8_14 rfl hq2 hE5 hE2 hany ⟨by omega, by omega⟩ (by omega) (fun τ21 ee22 => ?_)
      have u23 := hq1.ne' ee22 (hq1.nk hq2 rfl)
      have u24 : has τ21 q (oA (kc κ) cap9 (va_up f9 (xs.length : Int).toNat (some e))) := hq2.self' ee22
      have kp25 := kp7.put ee22 (Or.inr rfl)
      have dm26 := (dom_put ee22).trans dm7
      refine j_aload_n 0 C dJx4a65c_add_72be8_15 rfl rfl rfl ?_
      refine j_iload_n 3 C dJx4a65c_add_72be8_16 rfl rfl rfl ?_
      refine j_iconst C dJx4a65c_add_72be8_17 rfl ?_
      refine j_iadd C dJx4a65c_add_72be8_18 rfl ?_
      refine j_put (fs' := [vi (m), .ref q, vi ((xs.length : Int) + 1)]) C dJx4a65c_add_72be8_19 rfl fa_Jx4a65c_48 u23 rfl rfl rfl rfl (fun τ27 ee28 => ?_)
      have u29 : has τ27 a (.inr (9, [vi (m), .ref q, vi ((xs.length : Int) + 1)])) := u23.self' ee28
      have u30 := u24.ne' ee28 (u24.nk u23 rfl)
      have kp31 := kp25.put ee28 (Or.inl rfl)
      have dm32 := (dom_put ee28).trans dm26
      exact j_vret C E dJx4a65c_add_72be8_22 (by omega) (by omega) ⟨rfl, q, ⟨m, (by rw [add_len]; exact u29), Or.inr ⟨cap9, _, u30, ⟨by omega, by omega, by rw [List.length_append]; show xs.length + 1 ≤ cap9; omega⟩, add_at hq4⟩⟩, Or.inr ⟨hq5, dm32.trans hq7⟩, (hq6.mono (fun x z => Or.inl z)).tr2 kp31 (fun x z => z.elim (fun z => Or.inl (Or.inl z)) (fun z => Or.inr (by rw [z]; exact hq5)))⟩
theorem Elt.keep {σ σ' : Wd} {y : Nat} {F : Nat → Prop} (h : Elt σ y) (hk : Keep σ σ' F) (hF : ¬ F y) : Elt σ' y := by
  obtain ⟨ci, fs, r, h1, h2⟩ := h
  exact ⟨ci, fs, r, hk _ _ h1 hF, h2⟩
set_option maxHeartbeats 4000000 in
set_option maxRecDepth 20000 in
theorem c_listAdd (l : Launch) (hfl : l.stackTraces = false) (D : va_G) (cy : Nat → Nat) (σ : Wd) (a d : Nat) (xs : List Nat) (hL : LstR cy σ a d xs) (hx : xs.length ≤ 80) (hel : ∀ y ∈ xs, Elt σ y) (hela : ∀ y ∈ xs, ¬ y = a) (e : Nat) (hE : Elt σ e) (hEa : e ≠ a) (hEd : e ≠ d) : Ct l yJx4a65c_add_9ea2d cJx4a65c_add_9ea2d 2 (some .boolean) 5 1 250 D cy [.ref a, .ref e] σ (fun v σ' => v = some (vi 1) ∧ ∃ d' : Nat, LstR cy σ' a d' (xs ++ [e]) ∧ ((d' = d ∧ σ'.1 = σ.1) ∨ (d' ∉ σ.1 ∧ σ'.1 = σ.1 ++ [d'])) ∧ Keep σ σ' (fun x => x = a ∨ x = d)) noX := by
  refine ct_start (by decide +kernel) hfl rfl (fun κ e1 e2 e3 C E NH => ?_)
  subst e1 e2 e3
  have C : Cx κ cJx4a65c_add_9ea2d 2 RJx4a65c "add" 5 := C
  obtain ⟨-, -, -, -, hc, hs⟩ := id E
  show J κ σ [(0, .ref a), (1, .ref e)] 0 [] 0 0
  obtain ⟨m, hh, hd9⟩ := hL
  have kp0 : Keep σ σ (fun x => x = a) := Keep.rf
  have dm0 : σ.1 = σ.1 := rfl
  refine j_aload_n 0 C dJx4a65c_add_9ea2d_0 rfl rfl rfl ?_
  refine j_dup C dJx4a65c_add_9ea2d_1 rfl rfl ?_
  refine j_get C dJx4a65c_add_9ea2d_2 rfl fg_Jx4a65c_63 hh rfl ?_
  refine j_iconst C dJx4a65c_add_9ea2d_5 rfl ?_
  refine j_iadd C dJx4a65c_add_9ea2d_6 rfl ?_
  refine j_put (fs' := [vi (m + 1), .ref d, vi ((xs.length : Int))]) C dJx4a65c_add_9ea2d_7 rfl fa_Jx4a65c_63 hh rfl rfl rfl rfl (fun τ1 ee2 => ?_)
  have u3 : has τ1 a (.inr (9, [vi (m + 1), .ref d, vi ((xs.length : Int))])) := hh.self' ee2
  have kp4 := kp0.put ee2 rfl
  have dm5 := (dom_put ee2).trans dm0
  refine j_aload_n 0 C dJx4a65c_add_9ea2d_10 rfl rfl rfl ?_
  refine j_aload_n 1 C dJx4a65c_add_9ea2d_11 rfl rfl rfl ?_
  refine j_aload_n 0 C dJx4a65c_add_9ea2d_12 rfl rfl rfl ?_
  refine j_get C dJx4a65c_add_9ea2d_13 rfl fg_Jx4a65c_9 u3 rfl ?_
  refine j_aload_n 0 C dJx4a65c_add_9ea2d_16 rfl rfl rfl ?_
  refine j_get C dJx4a65c_add_9ea2d_17 rfl fg_Jx4a65c_48 u3 rfl ?_
  have hel2 : ∀ y ∈ xs, Elt τ1 y := fun y hy => (hel y hy).keep kp4 (hela y hy)
  have hE2 := hE.keep kp4 hEa
  by_cases hfu : ∃ (cap : Nat) (f : Nat → Option Nat), has σ d (oA (kc κ) cap f) ∧ (10 ≤ cap ∧ cap ≤ 150 ∧ xs.length < cap) ∧ ∀ i, i < xs.length → f i = xs[i]?
  · obtain ⟨cap, f, hf, hcp, hfi⟩ := hfu
    have hf2 := kp4 _ _ hf (hf.nk hh rfl)
    refine j_callV (st' := []) (As := [.ref e, .ref d, vi ((xs.length : Int))]) C dJx4a65c_add_9ea2d_20 rfl m_Jx4a65c_131 u3 rfl rfl rfl (c_add3room (kL κ) hfl (kD κ) (kc κ) τ1 a d (m + 1) xs cap f u3 hf2 hcp hfi e hE2 hEa hEd) rfl (by omega) (by omega) (by omega) (fun _ _ hx => hx.elim) (fun v7 τ6 hp8 => ?_)
    obtain ⟨rfl, d', hr1, hr2, hr3⟩ := hp8
    show J κ τ6 [(0, .ref a), (1, .ref e)] 23 [] _ _
    refine j_iconst C dJx4a65c_add_9ea2d_23 rfl ?_
    exact j_zret C E dJx4a65c_add_9ea2d_24 rfl (by omega) (by omega) ⟨rfl, d', hr1, hr2.elim (fun z => Or.inl ⟨z.1, z.2.trans dm5⟩) (fun z => Or.inr ⟨by have z1 := z.1; rw [dm5] at z1; exact z1, by rw [z.2, dm5]⟩), (kp4.mono (fun x z => Or.inl z)).tr hr3⟩
  · have hd8 : (d = kc κ 7 ∧ xs = []) ∨ ∃ f : Nat → Option Nat, has τ1 d (oA (kc κ) xs.length f) ∧ 10 ≤ xs.length ∧ ∀ i, i < xs.length → f i = xs[i]? := by
      rcases hd9 with hd9 | ⟨cap, f, hf, hcp, hfi⟩
      · exact Or.inl hd9
      · by_cases hl : xs.length < cap
        · exact absurd ⟨cap, f, hf, ⟨hcp.1, hcp.2.1, hl⟩, hfi⟩ hfu
        · have hc : cap = xs.length := by omega
          subst hc
          exact Or.inr ⟨f, kp4 _ _ hf (hf.nk hh rfl), hcp.1, hfi⟩
    refine j_callV (st' := []) (As := [.ref e, .ref d, vi ((xs.length : Int))]) C dJx4a65c_add_9ea2d_20 rfl m_Jx4a65c_131 u3 rfl rfl rfl (c_add3full (kL κ) hfl (kD κ) (kc κ) τ1 a d (m + 1) xs hx u3 hd8 hel2 e hE2 hEa hEd) rfl (by omega) (by omega) (by omega) (fun _ _ hx => hx.elim) (fun v10 τ9 hp11 => ?_)
    obtain ⟨rfl, d', hr1, hr2, hr3⟩ := hp11
    show J κ τ9 [(0, .ref a), (1, .ref e)] 23 [] _ _
    refine j_iconst C dJx4a65c_add_9ea2d_23 rfl ?_
    exact j_zret C E dJx4a65c_add_9ea2d_24 rfl (by omega) (by omega) ⟨rfl, d', hr1, hr2.elim (fun z => Or.inl ⟨z.1, z.2.trans dm5⟩) (fun z => Or.inr ⟨by have z1 := z.1; rw [dm5] at z1; exact z1, by rw [z.2, dm5]⟩), (kp4.mono (fun x z => Or.inl z)).tr hr3⟩
