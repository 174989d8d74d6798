/-! JDK: StringBuilder's append of the law's own texts -/
theorem m_J5_208 : MV RJ5 208 RJ4 yJ5_putStringAt_47b60 cJ5_putStringAt_47b60 3 none 2 := ⟨(tm_4 (w := Cond.methodLink RJ5 208 yJ5_putStringAt_47b60) 27 rfl rfl), (tm_4 (w := Cond.instanceMethod yJ5_putStringAt_47b60) 29 rfl rfl), (tm_0 (w := Cond.selects RJ4 yJ5_putStringAt_47b60 yJ5_putStringAt_47b60) 2 rfl rfl), (tm_1 (w := Cond.initialized RJ5) 7 rfl rfl), (tm_4 (w := Cond.code yJ5_putStringAt_47b60 cJ5_putStringAt_47b60 3 none) 30 rfl rfl), ⟨by decide +kernel, by decide +kernel⟩, by decide +kernel, rfl⟩
theorem m_J5_397 : MV RJ5 397 RJ4 yJ5_inflateIfNeededFor_a7421 cJ5_inflateIfNeededFor_a7421 2 none 1 := ⟨(tm_4 (w := Cond.methodLink RJ5 397 yJ5_inflateIfNeededFor_a7421) 31 rfl rfl), (tm_4 (w := Cond.instanceMethod yJ5_inflateIfNeededFor_a7421) 33 rfl rfl), (tm_0 (w := Cond.selects RJ4 yJ5_inflateIfNeededFor_a7421 yJ5_inflateIfNeededFor_a7421) 3 rfl rfl), (tm_1 (w := Cond.initialized RJ5) 7 rfl rfl), (tm_4 (w := Cond.code yJ5_inflateIfNeededFor_a7421 cJ5_inflateIfNeededFor_a7421 2 none) 34 rfl rfl), ⟨by decide +kernel, by decide +kernel⟩, by decide +kernel, rfl⟩
theorem m_J5_399 : MV RJ5 399 RJ0 yJ0_getBytes_840e7 cJ0_getBytes_840e7 4 none 3 := ⟨(tm_4 (w := Cond.methodLink RJ5 399 yJ0_getBytes_840e7) 55 rfl rfl), (tm_4 (w := Cond.instanceMethod yJ0_getBytes_840e7) 56 rfl rfl), (tm_4 (w := Cond.selects RJ0 yJ0_getBytes_840e7 yJ0_getBytes_840e7) 57 rfl rfl), (tm_1 (w := Cond.initialized RJ0) 9 rfl rfl), (tm_4 (w := Cond.code yJ0_getBytes_840e7 cJ0_getBytes_840e7 4 none) 58 rfl rfl), ⟨by decide +kernel, by decide +kernel⟩, by decide +kernel, rfl⟩
theorem m_J5_40 : MV RJ5 40 RJ0 yJ0_coder_7d493 cJ0_coder_7d493 1 (some .byte) 0 := ⟨(tm_4 (w := Cond.methodLink RJ5 40 yJ0_coder_7d493) 35 rfl rfl), (tm_4 (w := Cond.instanceMethod yJ0_coder_7d493) 23 rfl rfl), (tm_4 (w := Cond.selects RJ0 yJ0_coder_7d493 yJ0_coder_7d493) 24 rfl rfl), (tm_1 (w := Cond.initialized RJ0) 9 rfl rfl), (tm_4 (w := Cond.code yJ0_coder_7d493 cJ0_coder_7d493 1 (some .byte)) 25 rfl rfl), ⟨by decide +kernel, by decide +kernel⟩, by decide +kernel, rfl⟩
theorem m_J0_335 : MV RJ0 335 RJ0 yJ0_coder_7d493 cJ0_coder_7d493 1 (some .byte) 0 := ⟨(tm_4 (w := Cond.methodLink RJ0 335 yJ0_coder_7d493) 22 rfl rfl), (tm_4 (w := Cond.instanceMethod yJ0_coder_7d493) 23 rfl rfl), (tm_4 (w := Cond.selects RJ0 yJ0_coder_7d493 yJ0_coder_7d493) 24 rfl rfl), (tm_1 (w := Cond.initialized RJ0) 9 rfl rfl), (tm_4 (w := Cond.code yJ0_coder_7d493 cJ0_coder_7d493 1 (some .byte)) 25 rfl rfl), ⟨by decide +kernel, by decide +kernel⟩, by decide +kernel, rfl⟩
theorem gs_J0_38 : Cond.fieldLink RJ0 38 "java/lang/String" "COMPACT_STRINGS" "Z" ∈ lw_g := (tm_4 (w := Cond.fieldLink RJ0 38 "java/lang/String" "COMPACT_STRINGS" "Z") 26 rfl rfl)
theorem fl_J0_9 : Cond.fieldLink RJ0 9 "java/lang/String" "value" "[B" ∈ lw_g := (tm_4 (w := Cond.fieldLink RJ0 9 "java/lang/String" "value" "[B") 142 rfl rfl)
theorem fl_J0_15 : Cond.fieldLink RJ0 15 "java/lang/String" "coder" "B" ∈ lw_g := (tm_4 (w := Cond.fieldLink RJ0 15 "java/lang/String" "coder" "B") 143 rfl rfl)
theorem ac_J0_212 : Cond.methodLink RJ0 212 arraycopyName ∈ lw_g := (tm_4 (w := Cond.methodLink RJ0 212 arraycopyName) 59 rfl rfl)
theorem shl00 (x : Int32) : x <<< (Int32.ofInt 0 &&& 31) = x := by
  have e : (Int32.ofInt 0 &&& 31 : Int32) = 0 := by decide
  rw [e]
  simp
/-- the texts' letters and lengths -/
def ltT (ti : Nat) : List Int := ([[], [32]] : List (List Int)).getD ti []
def tlT (ti : Nat) : Nat := ([0, 1] : List Nat).getD ti 0
theorem ltT_len {ti : Nat} (h : ti < 2) : (ltT ti).length = tlT ti ∧ tlT ti ≤ 1 := by
  rcases (show ti = 0 ∨ ti = 1 by omega) with rfl | rfl
  · exact ⟨rfl, by decide⟩
  · exact ⟨rfl, by decide⟩
theorem ltT_at {ti : Nat} (h : ti < 2) (j : Nat) (hj : j < tlT ti) : (((([[], [32]] : List (List Int32)).getD ti []).getD j 0).toInt = (ltT ti).getD j 0) ∧ fits .byte (.int ((([[], [32]] : List (List Int32)).getD ti []).getD j 0)) = true ∧ (0 ≤ (ltT ti).getD j 0 ∧ (ltT ti).getD j 0 < 128) := by
  rcases (show ti = 0 ∨ ti = 1 by omega) with rfl | rfl
  · have h0 : tlT 0 = 0 := rfl
    omega
  · have : j = 0 := by have h2 : tlT 1 = 1 := rfl; omega
    subst this
    exact ⟨by decide, by decide, by decide⟩
set_option maxHeartbeats 4000000 in
set_option maxRecDepth 20000 in
theorem c_strCoder (l : Launch) (hfl : l.stackTraces = false) (D : va_G) (cy : Nat → Nat) (σ : Wd) (ti : Nat) (hti : ti < 2) : Ct l yJ0_coder_7d493 cJ0_coder_7d493 1 (some .byte) 0 0 0 D cy [.ref (cy (10 + ti))] σ (fun v σ' => v = some (vi 0) ∧ σ' = σ) noX := by
  refine ct_start (by decide +kernel) hfl rfl (fun κ e1 e2 e3 C E NH => ?_)
  subst e1 e2 e3
  have C : Cx κ cJ0_coder_7d493 1 RJ0 "coder" 0 := C
  obtain ⟨-, -, -, -, hc, hs⟩ := id E
  show J κ σ [(0, .ref (kc κ (10 + ti)))] 0 [] 0 0
  obtain ⟨-, htc, htv, htT⟩ := C.lits.1.1 ti hti
  dsimp only at htc htv htT
  have htl := ltT_len hti
  refine j_gets (v := vi (1)) C dJ0_coder_7d493_0 rfl gs_J0_38 C.go.2.1.1 ?_
  refine j_if_eq (tgt := 13) C dJ0_coder_7d493_3 rfl rfl ⟨by omega, by omega⟩ (fun cc1 => ?_) (fun cc1 => ?_)
  · exact absurd cc1 (by decide)
  · refine j_aload_n 0 C dJ0_coder_7d493_6 rfl rfl rfl ?_
    refine j_tget (v := vi (0)) C dJ0_coder_7d493_7 rfl htc fl_J0_15 ?_
    refine j_goto (tgt := 14) C dJ0_coder_7d493_10 rfl ?_
    exact j_zret C E dJ0_coder_7d493_14 rfl (by omega) (by omega) ⟨rfl, rfl⟩
set_option maxHeartbeats 4000000 in
set_option maxRecDepth 20000 in
theorem c_strLen (l : Launch) (hfl : l.stackTraces = false) (D : va_G) (cy : Nat → Nat) (σ : Wd) (ti : Nat) (hti : ti < 2) : Ct l yJ0_length_8abf5 cJ0_length_8abf5 1 (some .int) 1 0 0 D cy [.ref (cy (10 + ti))] σ (fun v σ' => v = some (vi (tlT ti : Nat)) ∧ σ' = σ) noX := by
  refine ct_start (by decide +kernel) hfl rfl (fun κ e1 e2 e3 C E NH => ?_)
  subst e1 e2 e3
  have C : Cx κ cJ0_length_8abf5 1 RJ0 "length" 1 := C
  obtain ⟨-, -, -, -, hc, hs⟩ := id E
  show J κ σ [(0, .ref (kc κ (10 + ti)))] 0 [] 0 0
  obtain ⟨-, htc, htv, htT⟩ := C.lits.1.1 ti hti
  dsimp only at htc htv htT
  have htl := ltT_len hti
  refine j_aload_n 0 C dJ0_length_8abf5_0 rfl rfl rfl ?_
  refine j_tget (v := .ref (kc κ (12 + ti))) C dJ0_length_8abf5_1 rfl htv fl_J0_9 ?_
  refine j_tlen C dJ0_length_8abf5_4 rfl htT ?_
  show J κ σ [(0, .ref (kc κ (10 + ti)))] 5 [vi ((tlT ti : Nat))] _ _
  refine j_aload_n 0 C dJ0_length_8abf5_5 rfl rfl rfl ?_
  refine j_callT (ti := ti) (st' := [vi ((tlT ti : Nat))]) (As := []) C dJ0_length_8abf5_6 rfl m_J0_335 hti rfl rfl rfl (c_strCoder (kL κ) hfl (kD κ) (kc κ) σ ti hti) rfl (by omega) (by omega) (by omega) (fun _ _ hx => hx.elim) (fun v1 τ2 hp3 => ?_)
  obtain ⟨rfl, hs9⟩ := hp3
  replace hs9 := hs9.symm
  subst hs9
  show J κ σ [(0, .ref (kc κ (10 + ti)))] 9 [vi (0), vi ((tlT ti : Nat))] _ _
  refine j_ishr (z := (tlT ti : Nat)) C dJ0_length_8abf5_9 rfl (by rcases (show ti = 0 ∨ ti = 1 by omega) with rfl | rfl <;> decide) ?_
  exact j_iret C E dJ0_length_8abf5_10 (by omega) (by omega) ⟨rfl, rfl⟩
set_option maxHeartbeats 4000000 in
set_option maxRecDepth 20000 in
theorem c_getBytes (l : Launch) (hfl : l.stackTraces = false) (D : va_G) (cy : Nat → Nat) (σ : Wd) (ti : Nat) (hti : ti < 2) (d cap : Nat) (g : Nat → Int) (hd : has σ d (bA cy cap g)) (ix : Int) (hix : 0 ≤ ix ∧ ix + (tlT ti : Int) ≤ (cap : Int)) (hcap : cap ≤ 10000) : Ct l yJ0_getBytes_840e7 cJ0_getBytes_840e7 4 none 1 0 0 D cy [.ref (cy (10 + ti)), .ref d, vi (ix), vi (0)] σ (fun v σ' => v = none ∧ has σ' d (bA cy cap (va_cpy (fun i => ((([[], [32]] : List (List Int32)).getD ti []).getD i 0).toInt) g 0 ix.toNat (tlT ti))) ∧ Keep σ σ' (fun x => x = d) ∧ σ'.1 = σ.1) noX := by
  refine ct_start (by decide +kernel) hfl rfl (fun κ e1 e2 e3 C E NH => ?_)
  subst e1 e2 e3
  have C : Cx κ cJ0_getBytes_840e7 4 RJ0 "getBytes" 1 := C
  obtain ⟨-, -, -, -, hc, hs⟩ := id E
  show J κ σ [(0, .ref (kc κ (10 + ti))), (1, .ref d), (2, vi (ix)), (3, vi (0))] 0 [] 0 0
  obtain ⟨-, htc, htv, htT⟩ := C.lits.1.1 ti hti
  dsimp only at htc htv htT
  have htl := ltT_len hti
  have kp0 : Keep σ σ (fun x => x = d) := Keep.rf
  have dm0 : σ.1 = σ.1 := rfl
  refine j_aload_n 0 C dJ0_getBytes_840e7_0 rfl rfl rfl ?_
  refine j_callT (ti := ti) (st' := []) (As := []) C dJ0_getBytes_840e7_1 rfl m_J0_335 hti rfl rfl rfl (c_strCoder (kL κ) hfl (kD κ) (kc κ) σ ti hti) rfl (by omega) (by omega) (by omega) (fun _ _ hx => hx.elim) (fun v1 τ2 hp3 => ?_)
  obtain ⟨rfl, hs9⟩ := hp3
  replace hs9 := hs9.symm
  subst hs9
  show J κ σ [(0, .ref (kc κ (10 + ti))), (1, .ref d), (2, vi (ix)), (3, vi (0))] 4 [vi (0)] _ _
  refine j_iload_n 3 C dJ0_getBytes_840e7_4 rfl rfl rfl ?_
  refine j_icmp_ne (tgt := 28) C dJ0_getBytes_840e7_5 rfl rfl ⟨by omega, by omega⟩ ⟨by omega, by omega⟩ (fun cc4 => ?_) (fun cc4 => ?_)
  · exact absurd rfl cc4
  · refine j_aload_n 0 C dJ0_getBytes_840e7_8 rfl rfl rfl ?_
    refine j_tget (v := .ref (kc κ (12 + ti))) C dJ0_getBytes_840e7_9 rfl htv fl_J0_9 ?_
    refine j_iconst C dJ0_getBytes_840e7_12 rfl ?_
    refine j_aload_n 1 C dJ0_getBytes_840e7_13 rfl rfl rfl ?_
    refine j_iload_n 2 C dJ0_getBytes_840e7_14 rfl rfl rfl ?_
    refine j_iload_n 3 C dJ0_getBytes_840e7_15 rfl rfl rfl ?_
    refine j_ishl (z := ix) C dJ0_getBytes_840e7_16 rfl (shl00 _) ?_
    refine j_aload_n 0 C dJ0_getBytes_840e7_17 rfl rfl rfl ?_
    refine j_tget (v := .ref (kc κ (12 + ti))) C dJ0_getBytes_840e7_18 rfl htv fl_J0_9 ?_
    refine j_tlen C dJ0_getBytes_840e7_21 rfl htT ?_
    show J κ σ [(0, .ref (kc κ (10 + ti))), (1, .ref d), (2, vi (ix)), (3, vi (0))] 22 [vi ((tlT ti : Nat)), vi (ix), .ref d, vi (0), .ref (kc κ (12 + ti))] _ _
    refine j_copyT C dJ0_getBytes_840e7_22 rfl ac_J0_212 htT hd ⟨by omega, by omega, by omega⟩ ⟨by show 0 + ((tlT ti : Nat) : Int) ≤ ((tlT ti : Nat) : Int); omega, by omega⟩ ⟨by show tlT ti < 2147483648; omega, by omega⟩ (fun i hi => by rw [show (0 : Int).toNat + i = i by simp]; exact (ltT_at hti i (by omega)).2.1) (Nat.le_of_ble_eq_true rfl) (fun τ5 ee6 => ?_)
    have ee6b : τ5 = put σ d (bA (kc κ) cap (va_cpy (fun i => ((([[], [32]] : List (List Int32)).getD ti []).getD i 0).toInt) g 0 ix.toNat (tlT ti))) := ee6
    have u7 : has τ5 d (bA (kc κ) cap (va_cpy (fun i => ((([[], [32]] : List (List Int32)).getD ti []).getD i 0).toInt) g 0 ix.toNat (tlT ti))) := hd.self' ee6b
    have kp8 := kp0.put ee6b rfl
    have dm9 := (dom_put ee6b).trans dm0
    refine j_goto (tgt := 43) C dJ0_getBytes_840e7_25 rfl ?_
    exact j_vret C E dJ0_getBytes_840e7_43 (by omega) (by omega) ⟨rfl, u7, kp8, dm9⟩
set_option maxHeartbeats 4000000 in
set_option maxRecDepth 20000 in
theorem c_inflateIf (l : Launch) (hfl : l.stackTraces = false) (D : va_G) (cy : Nat → Nat) (σ : Wd) (ti : Nat) (hti : ti < 2) (a d cap : Nat) (ml n : Int) (g : Nat → Int) (hS : SbC cy σ a d cap ml n g) : Ct l yJ5_inflateIfNeededFor_a7421 cJ5_inflateIfNeededFor_a7421 2 none 1 0 0 D cy [.ref a, .ref (cy (10 + ti))] σ (fun v σ' => v = none ∧ σ' = σ) noX := by
  refine ct_start (by decide +kernel) hfl rfl (fun κ e1 e2 e3 C E NH => ?_)
  subst e1 e2 e3
  have C : Cx κ cJ5_inflateIfNeededFor_a7421 2 RJ5 "inflateIfNeededFor" 1 := C
  obtain ⟨-, -, -, -, hc, hs⟩ := id E
  show J κ σ [(0, .ref a), (1, .ref (kc κ (10 + ti)))] 0 [] 0 0
  obtain ⟨hh, hd, hcp, hb7⟩ := hS
  refine j_gets (v := vi (1)) C dJ5_inflateIfNeededFor_a7421_0 rfl gs_J5_18 C.go.2.1.1 ?_
  refine j_if_eq (tgt := 21) C dJ5_inflateIfNeededFor_a7421_3 rfl rfl ⟨by omega, by omega⟩ (fun cc1 => ?_) (fun cc1 => ?_)
  · exact absurd cc1 (by decide)
  · refine j_aload_n 0 C dJ5_inflateIfNeededFor_a7421_6 rfl rfl rfl ?_
    refine j_get C dJ5_inflateIfNeededFor_a7421_7 rfl fg_J5_22 hh rfl ?_
    refine j_aload_n 1 C dJ5_inflateIfNeededFor_a7421_10 rfl rfl rfl ?_
    refine j_callT (ti := ti) (st' := [vi (0)]) (As := []) C dJ5_inflateIfNeededFor_a7421_11 rfl m_J5_40 hti rfl rfl rfl (c_strCoder (kL κ) hfl (kD κ) (kc κ) σ ti hti) rfl (by omega) (by omega) (by omega) (fun _ _ hx => hx.elim) (fun v2 τ3 hp4 => ?_)
    obtain ⟨rfl, hs9⟩ := hp4
    replace hs9 := hs9.symm
    subst hs9
    show J κ σ [(0, .ref a), (1, .ref (kc κ (10 + ti)))] 14 [vi (0), vi (0)] _ _
    refine j_icmp_eq (tgt := 21) C dJ5_inflateIfNeededFor_a7421_14 rfl rfl ⟨by omega, by omega⟩ ⟨by omega, by omega⟩ (fun cc5 => ?_) (fun cc5 => ?_)
    · exact j_vret C E dJ5_inflateIfNeededFor_a7421_21 (by omega) (by omega) ⟨rfl, rfl⟩
    · exact absurd rfl cc5
set_option maxHeartbeats 4000000 in
set_option maxRecDepth 20000 in
theorem c_putStr (l : Launch) (hfl : l.stackTraces = false) (D : va_G) (cy : Nat → Nat) (σ : Wd) (ti : Nat) (hti : ti < 2) (a d cap : Nat) (ml n : Int) (g : Nat → Int) (hS : SbC cy σ a d cap ml n g) (ix : Int) (hix : 0 ≤ ix ∧ ix + (tlT ti : Int) ≤ (cap : Int)) : Ct l yJ5_putStringAt_47b60 cJ5_putStringAt_47b60 3 none 2 0 0 D cy [.ref a, vi (ix), .ref (cy (10 + ti))] σ (fun v σ' => v = none ∧ has σ' d (bA cy cap (va_cpy (fun i => ((([[], [32]] : List (List Int32)).getD ti []).getD i 0).toInt) g 0 ix.toNat (tlT ti))) ∧ Keep σ σ' (fun x => x = d) ∧ σ'.1 = σ.1) noX := by
  refine ct_start (by decide +kernel) hfl rfl (fun κ e1 e2 e3 C E NH => ?_)
  subst e1 e2 e3
  have C : Cx κ cJ5_putStringAt_47b60 3 RJ5 "putStringAt" 2 := C
  obtain ⟨-, -, -, -, hc, hs⟩ := id E
  show J κ σ [(0, .ref a), (1, vi (ix)), (2, .ref (kc κ (10 + ti)))] 0 [] 0 0
  have hS9 := hS
  obtain ⟨hh, hd, hcp, hb7⟩ := hS
  refine j_aload_n 0 C dJ5_putStringAt_47b60_0 rfl rfl rfl ?_
  refine j_aload_n 2 C dJ5_putStringAt_47b60_1 rfl rfl rfl ?_
  refine j_callV (st' := []) (As := [.ref (kc κ (10 + ti))]) C dJ5_putStringAt_47b60_2 rfl m_J5_397 hh rfl rfl rfl (c_inflateIf (kL κ) hfl (kD κ) (kc κ) σ ti hti a d cap ml n g hS9) rfl (by omega) (by omega) (by omega) (fun _ _ hx => hx.elim) (fun v2 τ1 hp3 => ?_)
  obtain ⟨rfl, hs9⟩ := hp3
  replace hs9 := hs9.symm
  subst hs9
  show J κ σ [(0, .ref a), (1, vi (ix)), (2, .ref (kc κ (10 + ti)))] 5 [] _ _
  refine j_aload_n 2 C dJ5_putStringAt_47b60_5 rfl rfl rfl ?_
  refine j_aload_n 0 C dJ5_putStringAt_47b60_6 rfl rfl rfl ?_
  refine j_get C dJ5_putStringAt_47b60_7 rfl fg_J5_15 hh rfl ?_
  refine j_iload_n 1 C dJ5_putStringAt_47b60_10 rfl rfl rfl ?_
  refine j_aload_n 0 C dJ5_putStringAt_47b60_11 rfl rfl rfl ?_
  refine j_get C dJ5_putStringAt_47b60_12 rfl fg_J5_22 hh rfl ?_
  refine j_callT (ti := ti) (st' := []) (As := [.ref d, vi (ix), vi (0)]) C dJ5_putStringAt_47b60_15 rfl m_J5_399 hti rfl rfl rfl (c_getBytes (kL κ) hfl (kD κ) (kc κ) σ ti hti d cap g hd ix hix (by omega)) rfl (by omega) (by omega) (by omega) (fun _ _ hx => hx.elim) (fun v4 τ5 hp6 => ?_)
  obtain ⟨rfl, h9⟩ := hp6
  show J κ τ5 [(0, .ref a), (1, vi (ix)), (2, .ref (kc κ (10 + ti)))] 18 [] _ _
  exact j_vret C E dJ5_putStringAt_47b60_18 (by omega) (by omega) ⟨rfl, h9⟩
set_option maxHeartbeats 4000000 in
set_option maxRecDepth 20000 in
theorem c_append5s (l : Launch) (hfl : l.stackTraces = false) (D : va_G) (cy : Nat → Nat) (σ : Wd) (ti : Nat) (hti : ti < 2) (a d cap : Nat) (cs : List Int) (hR : SbR cy σ a d cap cs) (hle : cs.length ≤ 1900) : Ct l yJ5_append_cf1ce cJ5_append_cf1ce 3 (some (.object "java/lang/AbstractStringBuilder")) 3 (gC cap ((cs.length : Int) + (tlT ti : Int))) (gS cap ((cs.length : Int) + (tlT ti : Int))) D cy [.ref a, .ref (cy (10 + ti))] σ (fun v σ' => v = some (.ref a) ∧ ∃ d' : Nat, SbR cy σ' a d' (capF cap ((cs.length : Int) + (tlT ti : Int))) (cs ++ ltT ti) ∧ ((d' = d ∧ σ'.1 = σ.1) ∨ (d' ∉ σ.1 ∧ σ'.1 = σ.1 ++ [d'])) ∧ Keep σ σ' (fun x => x = a ∨ x = d)) noX := by
  refine ct_start (by decide +kernel) hfl rfl (fun κ e1 e2 e3 C E NH => ?_)
  subst e1 e2 e3
  have C : Cx κ cJ5_append_cf1ce 3 RJ5 "append" 3 := C
  obtain ⟨-, -, -, -, hc, hs⟩ := id E
  show J κ σ [(0, .ref a), (1, .ref (kc κ (10 + ti)))] 0 [] 0 0
  obtain ⟨ml, g, hS, hn, hg⟩ := id hR
  have hS9 := hS
  obtain ⟨hh, hd, hcp, hb7⟩ := hS
  have htl := ltT_len hti
  refine j_aload_n 1 C dJ5_append_cf1ce_0 rfl rfl rfl ?_
  refine j_ifnonnull (tgt := 9) C dJ5_append_cf1ce_1 rfl ?_
  refine j_aload_n 1 C dJ5_append_cf1ce_9 rfl rfl rfl ?_
  refine j_callT (ti := ti) (st' := []) (As := []) C dJ5_append_cf1ce_10 rfl m_J5_32 hti rfl rfl rfl (c_strLen (kL κ) hfl (kD κ) (kc κ) σ ti hti) rfl (by omega) (by omega) (by omega) (fun _ _ hx => hx.elim) (fun v1 τ2 hp3 => ?_)
  obtain ⟨rfl, hs9⟩ := hp3
  replace hs9 := hs9.symm
  subst hs9
  show J κ σ [(0, .ref a), (1, .ref (kc κ (10 + ti)))] 13 [vi ((tlT ti : Int))] _ _
  refine j_istore_n (lv' := [(0, .ref a), (1, .ref (kc κ (10 + ti))), (2, vi ((tlT ti : Int)))]) [1, 2, 0] C dJ5_append_cf1ce_13 rfl rfl rfl rfl ?_
  refine j_aload_n 0 C dJ5_append_cf1ce_14 rfl rfl rfl ?_
  refine j_aload_n 0 C dJ5_append_cf1ce_15 rfl rfl rfl ?_
  refine j_get C dJ5_append_cf1ce_16 rfl fg_J5_79 hh rfl ?_
  refine j_iload_n 2 C dJ5_append_cf1ce_19 rfl rfl rfl ?_
  refine j_iadd C dJ5_append_cf1ce_20 rfl ?_
  refine j_callV (st' := []) (As := [vi ((cs.length : Int) + (tlT ti : Int))]) C dJ5_append_cf1ce_21 rfl m_J5_100 hh rfl rfl rfl (c_ensure (kL κ) hfl (kD κ) (kc κ) σ a d cap ml cs.length g hS9 ((cs.length : Int) + (tlT ti : Int)) ⟨by omega, by omega, by omega⟩) rfl (by omega) (by omega) (by omega) (fun _ _ hx => hx.elim) (fun v5 τ4 hp6 => ?_)
  obtain ⟨rfl, d', g', hS1, hgg, hdd, hk1⟩ := hp6
  show J κ τ4 [(0, .ref a), (1, .ref (kc κ (10 + ti))), (2, vi ((tlT ti : Int)))] 24 [] (0 + gC cap ((cs.length : Int) + (tlT ti : Int))) (0 + gS cap ((cs.length : Int) + (tlT ti : Int)))
  have hcl : ((cs.length : Int) + (tlT ti : Int)) ≤ (capF cap ((cs.length : Int) + (tlT ti : Int)) : Int) ∧ cap ≤ capF cap ((cs.length : Int) + (tlT ti : Int)) := capF_le (by omega)
  obtain ⟨cap1, hcap1⟩ : ∃ z, capF cap ((cs.length : Int) + (tlT ti : Int)) = z := ⟨_, rfl⟩
  rw [hcap1] at hS1 hcl E
  have hS2 := hS1
  obtain ⟨hh1, hd1, hcp1, hb71⟩ := hS1
  refine j_aload_n 0 C dJ5_append_cf1ce_24 rfl rfl rfl ?_
  refine j_aload_n 0 C dJ5_append_cf1ce_25 rfl rfl rfl ?_
  refine j_get C dJ5_append_cf1ce_26 rfl fg_J5_79 hh1 rfl ?_
  refine j_aload_n 1 C dJ5_append_cf1ce_29 rfl rfl rfl ?_
  refine j_callV (st' := []) (As := [vi ((cs.length : Int)), .ref (kc κ (10 + ti))]) C dJ5_append_cf1ce_30 rfl m_J5_208 hh1 rfl rfl rfl (c_putStr (kL κ) hfl (kD κ) (kc κ) τ4 ti hti a d' cap1 ml cs.length g' hS2 cs.length ⟨by omega, by omega⟩) rfl (by omega) (by omega) (by omega) (fun _ _ hx => hx.elim) (fun v8 τ7 hp9 => ?_)
  obtain ⟨rfl, hd2, hk2, hdm2⟩ := hp9
  have hh2 := hk2 _ _ hh1 (hh1.nk hd1 rfl)
  show J κ τ7 [(0, .ref a), (1, .ref (kc κ (10 + ti))), (2, vi ((tlT ti : Int)))] 33 [] (0 + gC cap ((cs.length : Int) + (tlT ti : Int))) (0 + gS cap ((cs.length : Int) + (tlT ti : Int)))
  have kp0 : Keep τ4 τ7 (fun x => x = a ∨ x = d') := hk2.mono (fun _ z => Or.inr z)
  refine j_aload_n 0 C dJ5_append_cf1ce_33 rfl rfl rfl ?_
  refine j_dup C dJ5_append_cf1ce_34 rfl rfl ?_
  refine j_get C dJ5_append_cf1ce_35 rfl fg_J5_79 hh2 rfl ?_
  refine j_iload_n 2 C dJ5_append_cf1ce_38 rfl rfl rfl ?_
  refine j_iadd C dJ5_append_cf1ce_39 rfl ?_
  refine j_put (fs' := [.ref d', vi (0), vi (ml), vi ((cs.length : Int) + (tlT ti : Int))]) C dJ5_append_cf1ce_40 rfl fa_J5_79 hh2 rfl rfl rfl rfl (fun τ10 ee11 => ?_)
  have u12 : has τ10 a (.inr (8, [.ref d', vi (0), vi (ml), vi ((cs.length : Int) + (tlT ti : Int))])) := hh2.self' ee11
  have u13 := hd2.ne' ee11 (hd2.nk hh2 rfl)
  have kp14 := kp0.put ee11 (Or.inl rfl)
  have dm15 := (dom_put ee11).trans hdm2
  refine j_aload_n 0 C dJ5_append_cf1ce_43 rfl rfl rfl ?_
  have hga : ∀ i, i < cs.length → (va_cpy (fun i => ((([[], [32]] : List (List Int32)).getD ti []).getD i 0).toInt) g' 0 (cs.length : Int).toNat (tlT ti)) i = g i := by
    intro i hi
    unfold va_cpy
    rw [if_neg (by omega)]
    exact hgg i (by omega)
  have hgb : ∀ j, j < (ltT ti).length → (va_cpy (fun i => ((([[], [32]] : List (List Int32)).getD ti []).getD i 0).toInt) g' 0 (cs.length : Int).toNat (tlT ti)) (cs.length + j) = (ltT ti).getD j 0 := by
    intro j hj
    have q := (ltT_at hti j (by omega)).1
    unfold va_cpy
    rw [if_pos (by omega), show 0 + (cs.length + j - (cs.length : Int).toNat) = j by omega]
    exact q
  have h7 : ∀ i, i < cap1 → 0 ≤ (va_cpy (fun i => ((([[], [32]] : List (List Int32)).getD ti []).getD i 0).toInt) g' 0 (cs.length : Int).toNat (tlT ti)) i ∧ (va_cpy (fun i => ((([[], [32]] : List (List Int32)).getD ti []).getD i 0).toInt) g' 0 (cs.length : Int).toNat (tlT ti)) i < 128 := by
    intro i hi
    unfold va_cpy
    by_cases hz : (cs.length : Int).toNat ≤ i ∧ i < (cs.length : Int).toNat + tlT ti
    · have q := ltT_at hti (i - cs.length) (by omega)
      rw [if_pos hz, show 0 + (i - (cs.length : Int).toNat) = i - cs.length by omega]
      dsimp only
      rw [q.1]
      exact q.2.2
    · rw [if_neg hz]
      exact hb71 i hi
  exact j_aret C E dJ5_append_cf1ce_44 (Or.inl ⟨_, rfl⟩) (by omega) (by omega) ⟨rfl, d', ⟨ml, _, ⟨by rw [List.length_append, htl.1]; exact u12, u13, hcp1, h7⟩, by rw [List.length_append, htl.1]; omega, getD_app hg hga hgb⟩, hdd.elim (fun z => Or.inl ⟨z.1, dm15.trans z.2⟩) (fun z => Or.inr ⟨z.1, dm15.trans z.2⟩), (hk1.mono (fun x z => Or.inl z)).tr2 kp14 (fun x z => z.elim (fun z => Or.inl (Or.inl z)) (fun z => hdd.elim (fun y => Or.inl (Or.inr (z.trans y.1))) (fun y => Or.inr (by rw [z]; exact y.1))))⟩
set_option maxHeartbeats 4000000 in
set_option maxRecDepth 20000 in
theorem c_appendS (l : Launch) (hfl : l.stackTraces = false) (D : va_G) (cy : Nat → Nat) (σ : Wd) (ti : Nat) (hti : ti < 2) (a d cap : Nat) (cs : List Int) (hR : SbR cy σ a d cap cs) (hle : cs.length ≤ 1900) : Ct l yJ4_append_15ec4 cJ4_append_15ec4 2 (some (.object "java/lang/StringBuilder")) 4 (gC cap ((cs.length : Int) + (tlT ti : Int))) (gS cap ((cs.length : Int) + (tlT ti : Int))) D cy [.ref a, .ref (cy (10 + ti))] σ (fun v σ' => v = some (.ref a) ∧ ∃ d' : Nat, SbR cy σ' a d' (capF cap ((cs.length : Int) + (tlT ti : Int))) (cs ++ ltT ti) ∧ ((d' = d ∧ σ'.1 = σ.1) ∨ (d' ∉ σ.1 ∧ σ'.1 = σ.1 ++ [d'])) ∧ Keep σ σ' (fun x => x = a ∨ x = d)) noX := by
  refine ct_start (by decide +kernel) hfl rfl (fun κ e1 e2 e3 C E NH => ?_)
  subst e1 e2 e3
  have C : Cx κ cJ4_append_15ec4 2 RJ4 "append" 4 := C
  obtain ⟨-, -, -, -, hc, hs⟩ := id E
  show J κ σ [(0, .ref a), (1, .ref (kc κ (10 + ti)))] 0 [] 0 0
  obtain ⟨ml9, g9, hS9, -⟩ := id hR
  obtain ⟨hh9, -⟩ := hS9
  refine j_aload_n 0 C dJ4_append_15ec4_0 rfl rfl rfl ?_
  refine j_aload_n 1 C dJ4_append_15ec4_1 rfl rfl rfl ?_
  refine j_callU (st' := []) (As := [.ref (kc κ (10 + ti))]) C dJ4_append_15ec4_2 rfl m_J4_29 hh9 rfl rfl rfl (c_append5s (kL κ) hfl (kD κ) (kc κ) σ ti hti a d cap cs hR hle) rfl (by omega) (by omega) (by omega) (fun _ _ hx => hx.elim) (fun v2 τ1 hp3 => ?_)
  obtain ⟨rfl, h9⟩ := hp3
  show J κ τ1 [(0, .ref a), (1, .ref (kc κ (10 + ti)))] 5 [.ref a] (0 + gC cap ((cs.length : Int) + (tlT ti : Int))) (0 + gS cap ((cs.length : Int) + (tlT ti : Int)))
  refine j_pop C dJ4_append_15ec4_5 rfl rfl ?_
  refine j_aload_n 0 C dJ4_append_15ec4_6 rfl rfl rfl ?_
  exact j_aret C E dJ4_append_15ec4_7 (Or.inl ⟨_, rfl⟩) (by omega) (by omega) ⟨rfl, h9⟩
