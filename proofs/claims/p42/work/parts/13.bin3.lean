/-! Bin: letting out, sums, drying, comparing, making -/
theorem fl_cons {b : Bn} (h : 0 < b.2.2.length) : ∃ (x : Ly) (r : List Ly), fl b = x :: r := by
  cases hf : fl b with
  | nil => have := fl_len b; rw [hf] at this; simp at this; omega
  | cons x r => exact ⟨x, r, rfl⟩
theorem fl_nil {b : Bn} (h : b.2.2.length ≤ 0) : fl b = [] := by
  have := fl_len b
  exact List.eq_nil_of_length_eq_zero (by omega)
theorem drop_step {n : Int} {x : Ly} {r : List Ly} (hn : 1 ≤ n) : dropL (n - min n x.1) (if n < x.1 then (x.1 - n, x.2) :: r else r) = dropL n (x :: r) := by
  have e : dropL n (x :: r) = if n < x.1 then (x.1 - n, x.2) :: r else dropL (n - x.1) r := by rw [dropL, if_neg (show ¬ n ≤ 0 by omega)]
  rw [e]
  by_cases h : n < x.1
  · rw [if_pos h, if_pos h, dropL_0 (by omega)]
  · rw [if_neg h, if_neg h, show min n x.1 = x.1 by omega]
theorem take_step {n : Int} {x : Ly} {r : List Ly} (hn : 1 ≤ n) : (min n x.1, x.2) :: takeL (n - min n x.1) (if n < x.1 then (x.1 - n, x.2) :: r else r) = takeL n (x :: r) := by
  have e : takeL n (x :: r) = if n < x.1 then [(n, x.2)] else x :: takeL (n - x.1) r := by rw [takeL, if_neg (show ¬ n ≤ 0 by omega)]
  rw [e]
  by_cases h : n < x.1
  · rw [if_pos h, if_pos h, takeL_0 (by omega), show min n x.1 = n by omega]
  · rw [if_neg h, if_neg h, show min n x.1 = x.1 by omega]
set_option maxHeartbeats 4000000 in
set_option maxRecDepth 20000 in
theorem c_letOut (l : Launch) (hfl : l.stackTraces = false) (D : va_G) (cy : Nat → Nat) (σ : Wd) (h q1 q2 q3 q4 : Nat) (cap : Int) (mf : Bool) (ly : List Ly) (hB : BinR cy σ h q1 q2 q3 q4 (cap, mf, ly)) (wt : Int) (hwt : 0 ≤ wt ∧ wt ≤ 1000000) : Ct l yX0_letOut cX0_letOut 4 none 3 0 0 D cy [.ref h, vi (wt)] σ (fun v σ' => v = none ∧ BinR cy σ' h q1 q2 q3 q4 (cap, mf, ofl mf (dropL wt (fl (cap, mf, ly)))) ∧ Keep σ σ' (inB h q1 q2 q3 q4) ∧ σ'.1 = σ.1) noX := by
  refine ct_start (by decide +kernel) hfl rfl (fun κ e1 e2 e3 C E NH => ?_)
  subst e1 e2 e3
  have C : Cx κ cX0_letOut 4 RX0 "letOut" 3 := C
  obtain ⟨-, -, -, -, hc, hs⟩ := id E
  show J κ σ [(0, .ref h), (1, vi (wt))] 0 [] 0 0
  have hB0 := hB
  have hlen9 : ly.length ≤ 80 := by obtain ⟨_, _, _, _, _, _, _, hcn9, _⟩ := hB; exact hcn9
  obtain ⟨old, g1, g2, g3, g4, ⟨hh, ⟨h1, h2, h3, h4⟩, hne⟩, ho, hcn, hly, hok⟩ := hB
  dsimp only at hh ho hcn hly hok
  refine j_iload_n 1 C dX0_letOut_0 rfl rfl rfl ?_
  refine j_istore_n (lv' := [(0, .ref h), (1, vi (wt)), (2, vi (wt))]) [1, 2, 0] C dX0_letOut_1 rfl rfl rfl rfl ?_
  refine j_aload_n 0 C dX0_letOut_2 rfl rfl rfl ?_
  refine j_get C dX0_letOut_3 rfl fg_X0_28 hh rfl ?_
  refine j_istore_n (lv' := [(0, .ref h), (1, vi (wt)), (2, vi (wt)), (3, vi ((ly.length : Int)))]) [1, 2, 3, 0] C dX0_letOut_6 rfl rfl rfl rfl ?_
  have lp : ∀ (N : Nat) (r : Int) (lay : Int) (σ1 : Wd) (ly1 : List Ly), BinR (kc κ) σ1 h q1 q2 q3 q4 (cap, mf, ly1) → Keep σ σ1 (inB h q1 q2 q3 q4) → σ1.1 = σ.1 → 0 ≤ r ∧ r ≤ 1000000 → 0 ≤ lay ∧ lay ≤ 80 → (r = 0 ∨ lay = (ly1.length : Int)) → dropL r (fl (cap, mf, ly1)) = dropL wt (fl (cap, mf, ly)) → (lay + 1).toNat < N → J κ σ1 [(0, .ref h), (1, vi (wt)), (2, vi (r)), (3, vi (lay))] 7 [] 0 0 := by
    intro N
    induction N with
    | zero => intro r lay σ1 ly1 hB1 hk1 hd1 hr hlb hlay hdr hN; exact absurd hN (Nat.not_lt_zero _)
    | succ N ih =>
      intro r lay σ1 ly1 hB1 hk1 hd1 hr hlb hlay hdr hN
      refine j_iload_n 3 C dX0_letOut_7 rfl rfl rfl ?_
      refine j_if_le (tgt := 29) C dX0_letOut_8 rfl rfl ⟨by omega, by omega⟩ (fun cc1 => ?_) (fun cc1 => ?_)
      · exact j_vret C E dX0_letOut_29 (by omega) (by omega) ⟨rfl, (by have e9 := (show fl (cap, mf, ly1) = dropL wt (fl (cap, mf, ly)) from hlay.elim (fun h0 => by rw [← hdr, dropL_0 (by omega)]) (fun h0 => by rw [← hdr, fl_nil (b := (cap, mf, ly1)) (by dsimp only; omega)]; rfl)); rw [← e9]; have e8 := ofl_fl (cap, mf, ly1); dsimp only at e8; rw [e8]; exact hB1), hk1, hd1⟩
      · refine j_iload_n 2 C dX0_letOut_11 rfl rfl rfl ?_
        refine j_if_le (tgt := 29) C dX0_letOut_12 rfl rfl ⟨by omega, by omega⟩ (fun cc2 => ?_) (fun cc2 => ?_)
        · exact j_vret C E dX0_letOut_29 (by omega) (by omega) ⟨rfl, (by have e9 := (show fl (cap, mf, ly1) = dropL wt (fl (cap, mf, ly)) by rw [← hdr, dropL_0 (by omega)]); rw [← e9]; have e8 := ofl_fl (cap, mf, ly1); dsimp only at e8; rw [e8]; exact hB1), hk1, hd1⟩
        · obtain ⟨x, r9, hf⟩ := fl_cons (b := (cap, mf, ly1)) (by dsimp only; omega)
          have hft := flow_tot hf
          have hh9 := hB1
          obtain ⟨old9, g19, g29, g39, g49, ⟨hh9, ⟨h19, h29, h39, h49⟩, hne9⟩, ho9, hcn9, hly9, hok9⟩ := hh9
          dsimp only at hh9 ho9 hcn9 hly9 hok9
          obtain ⟨⟨hx1, hx2⟩, hx3⟩ := fl_ok (b := (cap, mf, ly1)) hok9 x (by rw [hf]; exact List.mem_cons_self)
          refine j_iload_n 2 C dX0_letOut_15 rfl rfl rfl ?_
          refine j_aload_n 0 C dX0_letOut_16 rfl rfl rfl ?_
          refine j_iload_n 2 C dX0_letOut_17 rfl rfl rfl ?_
          refine j_callV (st' := [vi (r)]) (As := [vi (r)]) C dX0_letOut_18 rfl m_X0_57 hh9 rfl rfl rfl (c_takeOfNext (kL κ) hfl (kD κ) (kc κ) σ1 h q1 q2 q3 q4 cap mf ly1 hB1 x r9 hf r ⟨by omega, by omega⟩) rfl (by omega) (by omega) (by omega) (fun _ _ hx => hx.elim) (fun v4 τ3 hp5 => ?_)
          obtain ⟨rfl, hB2, hk2, hd2⟩ := hp5
          show J κ τ3 [(0, .ref h), (1, vi (wt)), (2, vi (r)), (3, vi (lay))] 21 [vi ((min r x.1)), vi (r)] _ _
          refine j_isub C dX0_letOut_21 rfl ?_
          refine j_istore_n (lv' := [(0, .ref h), (1, vi (wt)), (2, vi (r - (min r x.1))), (3, vi (lay))]) [1, 2, 0, 3] C dX0_letOut_22 rfl rfl rfl rfl ?_
          refine j_iinc (y := lay + (-1)) (lv' := [(0, .ref h), (1, vi (wt)), (2, vi (r - (min r x.1))), (3, vi (lay + (-1)))]) 3 [1, 2, 3, 0] C dX0_letOut_23 rfl rfl rfl rfl rfl ?_
          refine j_goto (tgt := 7) C dX0_letOut_26 rfl ?_
          refine ih (r - min r x.1) (lay + (-1)) τ3 _ hB2 (hk1.tr (hk2.mono (fun a ha => ha.elim Or.inl (fun h => Or.inr (Or.inl h))))) (hd2.trans hd1) ⟨by omega, by omega⟩ ⟨by omega, by omega⟩ ?_ ?_ (by omega)
          · by_cases hc9 : r < x.1
            · exact Or.inl (by omega)
            · right; rw [len_ofl, if_neg hc9]; omega
          · rw [fl_ofl, drop_step (by omega), ← hf]; exact hdr
  exact lp _ wt ly.length σ ly hB0 Keep.rf rfl hwt ⟨by omega, by omega⟩ (Or.inr rfl) rfl (Nat.lt_succ_self _)
set_option maxHeartbeats 4000000 in
set_option maxRecDepth 20000 in
theorem c_letOutInto (l : Launch) (hfl : l.stackTraces = false) (D : va_G) (cy : Nat → Nat) (σ : Wd) (h q1 q2 q3 q4 : Nat) (cap : Int) (mf : Bool) (ly : List Ly) (hB : BinR cy σ h q1 q2 q3 q4 (cap, mf, ly)) (h' p1 p2 p3 p4 : Nat) (cap' : Int) (mf' : Bool) (lz : List Ly) (hO : BinR cy σ h' p1 p2 p3 p4 (cap', mf', lz)) (hdis : ∀ a, inB h q1 q2 q3 q4 a → ¬ inB h' p1 p2 p3 p4 a) (wt : Int) (hwt : 0 ≤ wt ∧ wt ≤ 1000000) (hroom : (lz ++ takeL wt (fl (cap, mf, ly))).length ≤ 80) : Ct l yX0_letOutInto cX0_letOutInto 7 none 4 0 0 D cy [.ref h, .ref h', vi (wt)] σ (fun v σ' => v = none ∧ BinR cy σ' h q1 q2 q3 q4 (cap, mf, ofl mf (dropL wt (fl (cap, mf, ly)))) ∧ BinR cy σ' h' p1 p2 p3 p4 (cap', mf', lz ++ takeL wt (fl (cap, mf, ly))) ∧ Keep σ σ' (fun a => inB h q1 q2 q3 q4 a ∨ inB h' p1 p2 p3 p4 a) ∧ σ'.1 = σ.1) noX := by
  refine ct_start (by decide +kernel) hfl rfl (fun κ e1 e2 e3 C E NH => ?_)
  subst e1 e2 e3
  have C : Cx κ cX0_letOutInto 7 RX0 "letOutInto" 4 := C
  obtain ⟨-, -, -, -, hc, hs⟩ := id E
  show J κ σ [(0, .ref h), (1, .ref h'), (2, vi (wt))] 0 [] 0 0
  have hB0 := hB
  obtain ⟨old, g1, g2, g3, g4, ⟨hh, ⟨h1, h2, h3, h4⟩, hne⟩, ho, hcn, hly, hok⟩ := hB
  dsimp only at hh ho hcn hly hok
  refine j_iload_n 2 C dX0_letOutInto_0 rfl rfl rfl ?_
  refine j_istore_n (lv' := [(0, .ref h), (1, .ref h'), (2, vi (wt)), (3, vi (wt))]) [1, 2, 3, 0] C dX0_letOutInto_1 rfl rfl rfl rfl ?_
  refine j_aload_n 0 C dX0_letOutInto_2 rfl rfl rfl ?_
  refine j_get C dX0_letOutInto_3 rfl fg_X0_28 hh rfl ?_
  refine j_istore (lv' := [(0, .ref h), (1, .ref h'), (2, vi (wt)), (3, vi (wt)), (4, vi ((ly.length : Int)))]) [1, 2, 3, 4, 0] C dX0_letOutInto_6 rfl rfl rfl ?_
  have lp : ∀ (N : Nat) (r : Int) (lay : Int) (σ1 : Wd) (ly1 : List Ly) (lz1 : List Ly), BinR (kc κ) σ1 h q1 q2 q3 q4 (cap, mf, ly1) → BinR (kc κ) σ1 h' p1 p2 p3 p4 (cap', mf', lz1) → Keep σ σ1 (fun a => inB h q1 q2 q3 q4 a ∨ inB h' p1 p2 p3 p4 a) → σ1.1 = σ.1 → 0 ≤ r ∧ r ≤ 1000000 → 0 ≤ lay ∧ lay ≤ 80 → (r = 0 ∨ lay = (ly1.length : Int)) → dropL r (fl (cap, mf, ly1)) = dropL wt (fl (cap, mf, ly)) → lz1 ++ takeL r (fl (cap, mf, ly1)) = lz ++ takeL wt (fl (cap, mf, ly)) → (lay + 1).toNat < N → J κ σ1 [(0, .ref h), (1, .ref h'), (2, vi (wt)), (3, vi (r)), (4, vi (lay))] 8 [] 0 0 := by
    intro N
    induction N with
    | zero => intro r lay σ1 ly1 lz1 hB1 hO1 hk1 hd1 hr hlb hlay hdr htk hN; exact absurd hN (Nat.not_lt_zero _)
    | succ N ih =>
      intro r lay σ1 ly1 lz1 hB1 hO1 hk1 hd1 hr hlb hlay hdr htk hN
      refine j_iload 4 C dX0_letOutInto_8 rfl rfl ?_
      refine j_if_le (tgt := 69) C dX0_letOutInto_10 rfl rfl ⟨by omega, by omega⟩ (fun cc1 => ?_) (fun cc1 => ?_)
      · have ef : fl (cap, mf, ly1) = dropL wt (fl (cap, mf, ly)) ∧ takeL r (fl (cap, mf, ly1)) = [] := hlay.elim (fun h0 => ⟨by rw [← hdr, dropL_0 (by omega)], takeL_0 (by omega) _⟩) (fun h0 => by rw [fl_nil (b := (cap, mf, ly1)) (by dsimp only; omega)] at hdr ⊢; exact ⟨hdr, rfl⟩)
        exact j_vret C E dX0_letOutInto_69 (by omega) (by omega) ⟨rfl, (by have e9 := ef.1; rw [← e9]; have e8 := ofl_fl (cap, mf, ly1); dsimp only at e8; rw [e8]; exact hB1), (by have e9 := (show lz1 = lz ++ takeL wt (fl (cap, mf, ly)) by rw [← htk, ef.2, List.append_nil]); rw [← e9]; exact hO1), hk1, hd1⟩
      · refine j_iload_n 3 C dX0_letOutInto_13 rfl rfl rfl ?_
        refine j_if_le (tgt := 69) C dX0_letOutInto_14 rfl rfl ⟨by omega, by omega⟩ (fun cc2 => ?_) (fun cc2 => ?_)
        · exact j_vret C E dX0_letOutInto_69 (by omega) (by omega) ⟨rfl, (by have e9 := (show fl (cap, mf, ly1) = dropL wt (fl (cap, mf, ly)) by rw [← hdr, dropL_0 (by omega)]); rw [← e9]; have e8 := ofl_fl (cap, mf, ly1); dsimp only at e8; rw [e8]; exact hB1), (by have e9 := (show lz1 = lz ++ takeL wt (fl (cap, mf, ly)) by rw [← htk, takeL_0 (by omega), List.append_nil]); rw [← e9]; exact hO1), hk1, hd1⟩
        · obtain ⟨x, r9, hf⟩ := fl_cons (b := (cap, mf, ly1)) (by dsimp only; omega)
          have hft := flow_tot hf
          have hh9 := hB1
          obtain ⟨old9, g19, g29, g39, g49, ⟨hh9, ⟨h19, h29, h39, h49⟩, hne9⟩, ho9, hcn9, hly9, hok9⟩ := hh9
          dsimp only at hh9 ho9 hcn9 hly9 hok9
          have hx := fl_ok (b := (cap, mf, ly1)) hok9 x (by rw [hf]; exact List.mem_cons_self)
          obtain ⟨⟨hx1, hx2⟩, hx3⟩ := id hx
          have hsl := slotI_in mf old9 ly1.length 0
          have hxs : lyAt (fl (cap, mf, ly1)) 0 = x := by rw [hf]; rfl
          rw [ring_fl hly9 (by omega) (by omega)] at hxs
          refine j_aload_n 0 C dX0_letOutInto_17 rfl rfl rfl ?_
          refine j_iconst C dX0_letOutInto_18 rfl ?_
          refine j_callV (st' := []) (As := [vi (0)]) C dX0_letOutInto_19 rfl m_X0_47 hh9 rfl rfl rfl (c_slotAt (kL κ) hfl (kD κ) (kc κ) σ1 h q1 q2 q3 q4 cap mf old9 ly1.length (tot ly1) 0 hh9 ho9 ⟨by omega, by omega⟩ (by omega)) rfl (by omega) (by omega) (by omega) (fun _ _ hx => hx.elim) (fun v4 τ3 hp5 => ?_)
          obtain ⟨rfl, rfl⟩ := hp5
          show J κ τ3 [(0, .ref h), (1, .ref h'), (2, vi (wt)), (3, vi (r)), (4, vi (lay))] 22 [vi (slotI mf old9 ly1.length 0)] _ _
          obtain ⟨sl, hsl9⟩ : ∃ z : Int, slotI mf old9 ly1.length 0 = z := ⟨_, rfl⟩
          rw [hsl9] at hsl hxs ⊢
          refine j_istore (lv' := [(0, .ref h), (1, .ref h'), (2, vi (wt)), (3, vi (r)), (4, vi (lay)), (5, vi (sl))]) [1, 2, 3, 4, 5, 0] C dX0_letOutInto_22 rfl rfl rfl ?_
          refine j_aload_n 0 C dX0_letOutInto_24 rfl rfl rfl ?_
          refine j_iload_n 3 C dX0_letOutInto_25 rfl rfl rfl ?_
          refine j_callV (st' := []) (As := [vi (r)]) C dX0_letOutInto_26 rfl m_X0_57 hh9 rfl rfl rfl (c_takeOfNext (kL κ) hfl (kD κ) (kc κ) τ3 h q1 q2 q3 q4 cap mf ly1 hB1 x r9 hf r ⟨by omega, by omega⟩) rfl (by omega) (by omega) (by omega) (fun _ _ hx => hx.elim) (fun v7 τ6 hp8 => ?_)
          obtain ⟨rfl, hB2, hk2, hd2⟩ := hp8
          show J κ τ6 [(0, .ref h), (1, .ref h'), (2, vi (wt)), (3, vi (r)), (4, vi (lay)), (5, vi (sl))] 29 [vi ((min r x.1))] _ _
          obtain ⟨pt, hpt⟩ : ∃ z : Int, min r x.1 = z := ⟨_, rfl⟩
          rw [hpt]
          have hB3 := hB2
          have u2 := hk2 _ _ h29 (fun z => z.elim (fun z => (h29.nk hh9 rfl) z) (fun z => hne9.1 z.symm))
          have u3 := hk2 _ _ h39 (fun z => z.elim (fun z => (h39.nk hh9 rfl) z) (fun z => hne9.2.1 z.symm))
          have u4 := hk2 _ _ h49 (fun z => z.elim (fun z => (h49.nk hh9 rfl) z) (fun z => hne9.2.2.1 z.symm))
          obtain ⟨old8, g18, g28, g38, g48, ⟨hh8, -, -⟩, -⟩ := hB3
          dsimp only at hh8
          refine j_istore (lv' := [(0, .ref h), (1, .ref h'), (2, vi (wt)), (3, vi (r)), (4, vi (lay)), (5, vi (sl)), (6, vi (pt))]) [1, 2, 3, 4, 5, 6, 0] C dX0_letOutInto_29 rfl rfl rfl ?_
          refine j_aload_n 1 C dX0_letOutInto_31 rfl rfl rfl ?_
          refine j_iload 6 C dX0_letOutInto_32 rfl rfl ?_
          refine j_aload_n 0 C dX0_letOutInto_34 rfl rfl rfl ?_
          refine j_get C dX0_letOutInto_35 rfl fg_X0_15 hh8 rfl ?_
          refine j_iload 5 C dX0_letOutInto_38 rfl rfl ?_
          obtain ⟨y9, hy9⟩ : ∃ y : Int, g29 sl.toNat = y := ⟨_, rfl⟩
          have ry9 : y9 = x.2.1 := hy9.symm.trans (congrArg (fun x => x.2.1) hxs)
          refine j_iald C dX0_letOutInto_40 rfl u2 ⟨by omega, by omega⟩ (by omega) hy9 ?_
          refine j_aload_n 0 C dX0_letOutInto_41 rfl rfl rfl ?_
          refine j_get C dX0_letOutInto_42 rfl fg_X0_18 hh8 rfl ?_
          refine j_iload 5 C dX0_letOutInto_45 rfl rfl ?_
          obtain ⟨y10, hy10⟩ : ∃ y : Int, g39 sl.toNat = y := ⟨_, rfl⟩
          have ry10 : y10 = x.2.2.1 := hy10.symm.trans (congrArg (fun x => x.2.2.1) hxs)
          refine j_iald C dX0_letOutInto_47 rfl u3 ⟨by omega, by omega⟩ (by omega) hy10 ?_
          refine j_aload_n 0 C dX0_letOutInto_48 rfl rfl rfl ?_
          refine j_get C dX0_letOutInto_49 rfl fg_X0_21 hh8 rfl ?_
          refine j_iload 5 C dX0_letOutInto_52 rfl rfl ?_
          obtain ⟨y11, hy11⟩ : ∃ y : Int, g49 sl.toNat = y := ⟨_, rfl⟩
          have ry11 : y11 = x.2.2.2 := hy11.symm.trans (congrArg (fun x => x.2.2.2) hxs)
          refine j_iald C dX0_letOutInto_54 rfl u4 ⟨by omega, by omega⟩ (by omega) hy11 ?_
          have hO2 := hO1.keep hk2 (fun a ha hn => hdis a (hn.elim Or.inl (fun z => Or.inr (Or.inl z))) ha)
          obtain ⟨old7, g17, g27, g37, g47, hC7, ho7, hcn7, hly7, hok7⟩ := hO2
          dsimp only at hC7 ho7 hcn7 hly7 hok7
          have htl := congrArg List.length (take_step (r := r9) (n := r) (x := x) (by omega))
          have hl7 : lz1.length < 80 := by have h9 := congrArg List.length htk; rw [List.length_append, hf, ← htl, List.length_cons] at h9; omega
          refine j_callV (st' := []) (As := [vi (pt), vi (y9), vi (y10), vi (y11)]) C dX0_letOutInto_55 rfl m_X0_60 hC7.1 rfl rfl rfl (c_add (kL κ) hfl (kD κ) (kc κ) τ6 h' p1 p2 p3 p4 cap' mf' old7 lz1.length (tot lz1) g17 g27 g37 g47 hC7 ho7 ⟨by omega, by omega⟩ pt y9 y10 y11 (by omega) ⟨by omega, by omega⟩) rfl (by omega) (by omega) (by omega) (fun _ _ hx => hx.elim) (fun v13 τ12 hp14 => ?_)
          obtain ⟨rfl, hA⟩ := hp14
          show J κ τ12 [(0, .ref h), (1, .ref h'), (2, vi (wt)), (3, vi (r)), (4, vi (lay)), (5, vi (sl)), (6, vi (pt))] 58 [] _ _
          have hO3 := hA.R ho7 hl7 hly7 hok7 (show lyOk (pt, y9, y10, y11) by rw [ry9, ry10, ry11]; exact ⟨⟨by omega, by omega⟩, hx3⟩)
          have hB4 := hB2.keep hA.2.1 (fun a ha hn => hdis a ha hn)
          refine j_iload_n 3 C dX0_letOutInto_58 rfl rfl rfl ?_
          refine j_iload 6 C dX0_letOutInto_59 rfl rfl ?_
          refine j_isub C dX0_letOutInto_61 rfl ?_
          refine j_istore_n (lv' := [(0, .ref h), (1, .ref h'), (2, vi (wt)), (3, vi (r - pt)), (4, vi (lay)), (5, vi (sl)), (6, vi (pt))]) [1, 2, 3, 0, 4, 5, 6] C dX0_letOutInto_62 rfl rfl rfl rfl ?_
          refine j_iinc (y := lay + (-1)) (lv' := [(0, .ref h), (1, .ref h'), (2, vi (wt)), (3, vi (r - pt)), (4, vi (lay + (-1))), (5, vi (sl)), (6, vi (pt))]) 4 [1, 2, 3, 4, 0, 5, 6] C dX0_letOutInto_63 rfl rfl rfl rfl rfl ?_
          refine j_goto (tgt := 8) C dX0_letOutInto_66 rfl ?_
          refine j_locals (lv' := [(0, .ref h), (1, .ref h'), (2, vi (wt)), (3, vi (r - pt)), (4, vi (lay + (-1)))]) [0, 1, 2, 3, 4] rfl ?_
          refine ih (r - pt) (lay + (-1)) τ12 _ _ hB4 hO3 ((hk1.tr (hk2.mono (fun a ha => Or.inl (ha.elim Or.inl (fun h => Or.inr (Or.inl h)))))).tr (hA.2.1.mono (fun a ha => Or.inr ha))) (hA.2.2.trans (hd2.trans hd1)) ⟨by omega, by omega⟩ ⟨by omega, by omega⟩ ?_ ?_ ?_ (by omega)
          · by_cases hc9 : r < x.1
            · exact Or.inl (by omega)
            · right; rw [len_ofl, if_neg hc9]; omega
          · rw [fl_ofl, ← hpt, drop_step (by omega), ← hf]; exact hdr
          · rw [fl_ofl, List.append_assoc, ← htk, hf, ← take_step (r := r9) (n := r) (x := x) (by omega), hpt, ry9, ry10, ry11]; rfl
  exact lp _ wt ly.length σ ly lz hB0 hO Keep.rf rfl hwt ⟨by omega, by omega⟩ (Or.inr rfl) rfl rfl (Nat.lt_succ_self _)
