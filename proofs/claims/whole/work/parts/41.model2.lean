/-! GrainElevatorModel: within, at, graded, lays, clears, all, notes -/
theorem BnM.set {bs : List Bn} {gc gm gz gb go gf gg gm' gb' go' gf' gg' : Nat → Int} (h : BnM bs gc gm gz gb go gf gg) {b : Nat} (hb : b < bs.length) {l : List Ly} (hl : l.length ≤ 90) (hm : gm' b = (l.length : Int)) (hm' : ∀ i : Nat, i ≠ b → gm' i = gm i) (hG : ∀ s : Nat, (s < 90 * b ∨ 90 * b + 90 ≤ s) → G4 gb' go' gf' gg' s = G4 gb go gf gg s) (hr : l = rowL (G4 gb' go' gf' gg') (90 * b) l.length) : BnM (setL bs b l) gc gm' gz gb' go' gf' gg' := by
  obtain ⟨h6, h0, h1⟩ := h
  refine ⟨by rw [setL_len]; exact h6, fun i hi hn => ?_, fun i hi => ?_⟩
  · rw [setL_len] at hn
    rw [hm' i (by omega)]
    exact h0 i hi hn
  · rw [setL_len] at hi
    obtain ⟨⟨a1, a2⟩, ⟨a3, a4⟩, a5⟩ := h1 i hi
    have e := gB_set (bs := bs) (l := l) (i := (b : Int)) (j := (i : Int)) (by omega) (by omega) (by omega)
    by_cases c : i = b
    · subst c
      rw [if_pos rfl] at e
      rw [e]
      exact ⟨⟨a1, a2⟩, ⟨hm, hl⟩, hr⟩
    · rw [if_neg (by omega)] at e
      rw [e]
      refine ⟨⟨a1, a2⟩, ⟨by rw [hm' i c]; exact a3, a4⟩, ?_⟩
      refine a5.trans (rowL_cong (fun k hk => (hG _ ?_).symm))
      have hb9 : i < b ∨ b < i := by omega
      omega
theorem pl_F {m : Bool} {n i : Int} (h : b01 m = 0) : pl m n i = n - 1 - i := by
  rw [b01_eq0 h]; rfl
theorem pl_T {m : Bool} {n i : Int} (h : b01 m ≠ 0) : pl m n i = i := by
  rw [b01_ne0 h]; rfl
theorem row_add {gb go gf gg : Nat → Int} {s : Nat} {ly : List Ly} (h : ly = rowL (G4 gb go gf gg) s ly.length) {k : Nat} (hk : k = s + ly.length) (n x f g : Int) : ly ++ [(n, x, f, g)] = rowL (G4 (ups gb k n) (ups go k x) (ups gf k f) (ups gg k g)) s (ly ++ [(n, x, f, g)]).length := by
  subst hk
  rw [List.length_append, show [(n, x, f, g)].length = 1 from rfl, rowL_succ, G4_ups, if_pos rfl]
  have e : rowL (G4 gb go gf gg) s ly.length = rowL (G4 (ups gb (s + ly.length) n) (ups go (s + ly.length) x) (ups gf (s + ly.length) f) (ups gg (s + ly.length) g)) s ly.length := rowL_cong (fun j hj => by rw [G4_ups, if_neg (by omega)])
  rw [← e, ← h]
theorem G4_out {gb go gf gg : Nat → Int} {k b : Nat} (hk : 90 * b ≤ k ∧ k < 90 * b + 90) (n x f g : Int) : ∀ s : Nat, (s < 90 * b ∨ 90 * b + 90 ≤ s) → G4 (ups gb k n) (ups go k x) (ups gf k f) (ups gg k g) s = G4 gb go gf gg s := fun s hs => by rw [G4_ups, if_neg (by omega)]
theorem ups_o {g : Nat → Int} {k : Nat} {x : Int} : ∀ i : Nat, i ≠ k → ups g k x i = g i := fun i h => ups_n h
theorem ups_u {g : Nat → Int} {k : Nat} {x : Int} {i : Nat} (h : i = k) : ups g k x i = x := by rw [h]; exact ups_s
theorem len1 (l : List Ly) (x : Ly) : (((l ++ [x]).length : Nat) : Int) = (l.length : Int) + 1 := by rw [List.length_append]; rfl
theorem tot_take {l : List Ly} {k : Nat} (h : k < l.length) : tot (l.take (k + 1)) = tot (l.take k) + (lyAt l k).1 := sum_take (fun x => x.1) (l := l) (i := (k : Int)) (by omega) (by omega)
theorem sum_takeN (f : Ly → Int) {l : List Ly} {k : Nat} (h : k < l.length) : sumL f (l.take (k + 1)) = sumL f (l.take k) + f (lyAt l k) := sum_take f (l := l) (i := (k : Int)) (by omega) (by omega)
set_option maxHeartbeats 4000000 in
set_option maxRecDepth 20000 in
theorem c_at (l : Launch) (hfl : l.stackTraces = false) (D : va_G) (cy : Nat → Nat) (σ : Wd) (am : Nat → Nat) (bs : List Bn) (ru : Nat → Int × Int) (se : Int) (pf : Nat → Int) (hd : Hd) (ca : Int) (evs : List Evt) (ln : List Int) (bl : Int × Int × Int) (th : Int) (hM : RM cy σ am bs ru se pf hd ca evs ln bl th) (b : Nat) (hb : b < bs.length) (i : Int) : Ct l yX7_at cX7_at 3 (some .int) 0 0 0 D cy [.ref (am 0), vi ((b : Int)), vi (i)] σ (fun v σ' => v = some (vi (90 * (b : Int) + pl (gB bs b).2.1 (gB bs b).2.2.length i)) ∧ σ' = σ) noX := by
  refine ct_start (by decide +kernel) hfl rfl (fun κ e1 e2 e3 C E NH => ?_)
  subst e1 e2 e3
  have C : Cx κ cX7_at 3 RX7 "at" 0 := C
  obtain ⟨-, -, -, -, hc, hs⟩ := id E
  show J κ σ [(0, .ref (am 0)), (1, vi ((b : Int))), (2, vi (i))] 0 [] 0 0
  obtain ⟨hI1, gc1, gm1, gr1, gp1, gb1, go1, gf1, gg1, gt1, gz1, gk1, gl1, _, _, _, h01, ⟨hgc1, hgm1, hgr1, hgp1, hgb1, hgo1, hgf1, hgg1, hgt1, hgz1, hgk1, hgl1⟩, ⟨rfl, rfl, rfl⟩, hBn1, hRu1, hPr1, hTr1, hKi1, hLi1⟩ := id hM
  have hI := hI1
  have hnb61 := hBn1.1
  obtain ⟨⟨cap, mf, ly⟩, hg⟩ : ∃ z, gB bs (b : Int) = z := ⟨_, rfl⟩
  have hbk_1 := hBn1.2.2 b hb
  rw [hg] at hbk_1
  obtain ⟨⟨hcp_1, hmz_1⟩, ⟨hmn_1, hl9_1⟩, hrw_1⟩ := hbk_1
  dsimp only at hcp_1 hmz_1 hmn_1 hl9_1 hrw_1
  have hm := b01_in mf
  refine j_bipush C dX7_at_0 rfl (by decide) ?_
  refine j_iload_n 1 C dX7_at_2 rfl rfl rfl ?_
  refine j_imul C dX7_at_3 rfl ?_
  refine j_aload_n 0 C dX7_at_4 rfl rfl rfl ?_
  refine j_get C dX7_at_5 rfl fg_X7_37 h01 rfl ?_
  refine j_iload_n 1 C dX7_at_8 rfl rfl rfl ?_
  refine j_zald C dX7_at_9 rfl hgz1 ⟨by omega, by omega⟩ (by omega) hmz_1 ?_
  refine j_if_eq (tgt := 17) C dX7_at_10 rfl rfl ⟨by omega, by omega⟩ (fun cc2 => ?_) (fun cc2 => ?_)
  · refine j_aload_n 0 C dX7_at_17 rfl rfl rfl ?_
    refine j_get C dX7_at_18 rfl fg_X7_13 h01 rfl ?_
    refine j_iload_n 1 C dX7_at_21 rfl rfl rfl ?_
    refine j_iald C dX7_at_22 rfl hgm1 ⟨by omega, by omega⟩ (by omega) hmn_1 ?_
    refine j_iconst C dX7_at_23 rfl ?_
    refine j_isub C dX7_at_24 rfl ?_
    refine j_iload_n 2 C dX7_at_25 rfl rfl rfl ?_
    refine j_isub C dX7_at_26 rfl ?_
    refine j_iadd C dX7_at_27 rfl ?_
    exact j_iret C E dX7_at_28 (by omega) (by omega) ⟨congrArg some (congrArg vi (by rw [hg]; show _ = 90 * (b : Int) + pl mf ly.length i; rw [pl_F ‹b01 mf = 0›])), rfl⟩
  · refine j_iload_n 2 C dX7_at_13 rfl rfl rfl ?_
    refine j_goto (tgt := 27) C dX7_at_14 rfl ?_
    refine j_iadd C dX7_at_27 rfl ?_
    exact j_iret C E dX7_at_28 (by omega) (by omega) ⟨congrArg some (congrArg vi (by rw [hg]; show _ = 90 * (b : Int) + pl mf ly.length i; rw [pl_T ‹b01 mf ≠ 0›])), rfl⟩
set_option maxHeartbeats 4000000 in
set_option maxRecDepth 20000 in
theorem c_within (l : Launch) (hfl : l.stackTraces = false) (D : va_G) (cy : Nat → Nat) (σ : Wd) (am : Nat → Nat) (bs : List Bn) (ru : Nat → Int × Int) (se : Int) (pf : Nat → Int) (hd : Hd) (ca : Int) (evs : List Evt) (ln : List Int) (bl : Int × Int × Int) (th : Int) (hM : RM cy σ am bs ru se pf hd ca evs ln bl th) (b : Nat) (hb : b < bs.length) : Ct l yX7_within cX7_within 4 (some .int) 0 0 0 D cy [.ref (am 0), vi ((b : Int))] σ (fun v σ' => v = some (vi (tot (gB bs b).2.2)) ∧ σ' = σ) noX := by
  refine ct_start (by decide +kernel) hfl rfl (fun κ e1 e2 e3 C E NH => ?_)
  subst e1 e2 e3
  have C : Cx κ cX7_within 4 RX7 "within" 0 := C
  obtain ⟨-, -, -, -, hc, hs⟩ := id E
  show J κ σ [(0, .ref (am 0)), (1, vi ((b : Int)))] 0 [] 0 0
  obtain ⟨hI1, gc1, gm1, gr1, gp1, gb1, go1, gf1, gg1, gt1, gz1, gk1, gl1, _, _, _, h01, ⟨hgc1, hgm1, hgr1, hgp1, hgb1, hgo1, hgf1, hgg1, hgt1, hgz1, hgk1, hgl1⟩, ⟨rfl, rfl, rfl⟩, hBn1, hRu1, hPr1, hTr1, hKi1, hLi1⟩ := id hM
  have hI := hI1
  have hnb61 := hBn1.1
  obtain ⟨⟨cap, mf, ly⟩, hg⟩ : ∃ z, gB bs (b : Int) = z := ⟨_, rfl⟩
  have hbk_1 := hBn1.2.2 b hb
  rw [hg] at hbk_1
  obtain ⟨⟨hcp_1, hmz_1⟩, ⟨hmn_1, hl9_1⟩, hrw_1⟩ := hbk_1
  dsimp only at hcp_1 hmz_1 hmn_1 hl9_1 hrw_1
  refine j_iconst C dX7_within_0 rfl ?_
  refine j_istore_n (lv' := [(0, .ref (am 0)), (1, vi ((b : Int))), (2, vi (0))]) [1, 2, 0] C dX7_within_1 rfl rfl rfl rfl ?_
  refine j_iconst C dX7_within_2 rfl ?_
  refine j_istore_n (lv' := [(0, .ref (am 0)), (1, vi ((b : Int))), (2, vi (0)), (3, vi (0))]) [1, 2, 3, 0] C dX7_within_3 rfl rfl rfl rfl ?_
  have lp : ∀ (N : Nat) (k : Nat), k ≤ ly.length → (ly.length + 1 - k) < N → J κ σ [(0, .ref (am 0)), (1, vi ((b : Int))), (2, vi ((tot (ly.take k)))), (3, vi ((k : Int)))] 4 [] 0 0 := by
    intro N
    induction N with
    | zero => intro k hk hN; exact absurd hN (Nat.not_lt_zero _)
    | succ N ih =>
      intro k hk hN
      refine j_iload_n 3 C dX7_within_4 rfl rfl rfl ?_
      refine j_aload_n 0 C dX7_within_5 rfl rfl rfl ?_
      refine j_get C dX7_within_6 rfl fg_X7_13 h01 rfl ?_
      refine j_iload_n 1 C dX7_within_9 rfl rfl rfl ?_
      refine j_iald C dX7_within_10 rfl hgm1 ⟨by omega, by omega⟩ (by omega) hmn_1 ?_
      refine j_icmp_ge (tgt := 34) C dX7_within_11 rfl rfl ⟨by omega, by omega⟩ ⟨by omega, by omega⟩ (fun cc2 => ?_) (fun cc2 => ?_)
      · refine j_iload_n 2 C dX7_within_34 rfl rfl rfl ?_
        exact j_iret C E dX7_within_35 (by omega) (by omega) ⟨congrArg some (congrArg vi (by rw [hg, List.take_of_length_le (by omega)])), rfl⟩
      · refine j_iload_n 2 C dX7_within_14 rfl rfl rfl ?_
        refine j_aload_n 0 C dX7_within_15 rfl rfl rfl ?_
        refine j_get C dX7_within_16 rfl fg_X7_22 h01 rfl ?_
        refine j_bipush C dX7_within_19 rfl (by decide) ?_
        refine j_iload_n 1 C dX7_within_21 rfl rfl rfl ?_
        refine j_imul C dX7_within_22 rfl ?_
        refine j_iload_n 3 C dX7_within_23 rfl rfl rfl ?_
        refine j_iadd C dX7_within_24 rfl ?_
        refine j_iald C dX7_within_25 rfl hgb1 ⟨by omega, by omega⟩ (by omega) (rowK hrw_1 (k := k) (by omega) (z := (90 * (b : Int)) + (k : Int)) (by omega)).1 ?_
        refine j_iadd C dX7_within_26 rfl ?_
        refine j_istore_n (lv' := [(0, .ref (am 0)), (1, vi ((b : Int))), (2, vi ((tot (ly.take k)) + ((lyAt ly (k : Int)).1))), (3, vi ((k : Int)))]) [1, 2, 0, 3] C dX7_within_27 rfl rfl rfl rfl ?_
        refine j_iinc (y := (k : Int) + 1) (lv' := [(0, .ref (am 0)), (1, vi ((b : Int))), (2, vi ((tot (ly.take k)) + ((lyAt ly (k : Int)).1))), (3, vi ((k : Int) + 1))]) 3 [1, 2, 3, 0] C dX7_within_28 rfl rfl rfl rfl rfl ?_
        refine j_goto (tgt := 4) C dX7_within_31 rfl ?_
        have hs9 := tot_take (l := ly) (k := k) (by omega)
        rw [← hs9]
        exact ih (k + 1) (by omega) (by omega)
  exact lp _ 0 (Nat.zero_le _) (Nat.lt_succ_self _)
set_option maxHeartbeats 4000000 in
set_option maxRecDepth 20000 in
theorem c_all (l : Launch) (hfl : l.stackTraces = false) (D : va_G) (cy : Nat → Nat) (σ : Wd) (am : Nat → Nat) (bs : List Bn) (ru : Nat → Int × Int) (se : Int) (pf : Nat → Int) (hd : Hd) (ca : Int) (evs : List Evt) (ln : List Int) (bl : Int × Int × Int) (th : Int) (hM : RM cy σ am bs ru se pf hd ca evs ln bl th)  : Ct l yX7_all cX7_all 3 (some .int) 1 0 0 D cy [.ref (am 0)] σ (fun v σ' => v = some (vi (totB bs)) ∧ σ' = σ) noX := by
  refine ct_start (by decide +kernel) hfl rfl (fun κ e1 e2 e3 C E NH => ?_)
  subst e1 e2 e3
  have C : Cx κ cX7_all 3 RX7 "all" 1 := C
  obtain ⟨-, -, -, -, hc, hs⟩ := id E
  show J κ σ [(0, .ref (am 0))] 0 [] 0 0
  obtain ⟨hI1, gc1, gm1, gr1, gp1, gb1, go1, gf1, gg1, gt1, gz1, gk1, gl1, _, _, _, h01, ⟨hgc1, hgm1, hgr1, hgp1, hgb1, hgo1, hgf1, hgg1, hgt1, hgz1, hgk1, hgl1⟩, ⟨rfl, rfl, rfl⟩, hBn1, hRu1, hPr1, hTr1, hKi1, hLi1⟩ := id hM
  have hI := hI1
  have hnb61 := hBn1.1
  refine j_iconst C dX7_all_0 rfl ?_
  refine j_istore_n (lv' := [(0, .ref (am 0)), (1, vi (0))]) [1, 0] C dX7_all_1 rfl rfl rfl rfl ?_
  refine j_iconst C dX7_all_2 rfl ?_
  refine j_istore_n (lv' := [(0, .ref (am 0)), (1, vi (0)), (2, vi (0))]) [1, 2, 0] C dX7_all_3 rfl rfl rfl rfl ?_
  have lp : ∀ (N : Nat) (k : Nat), k ≤ bs.length → (bs.length + 1 - k) < N → J κ σ [(0, .ref (am 0)), (1, vi ((totB (bs.take k)))), (2, vi ((k : Int)))] 4 [] 0 0 := by
    intro N
    induction N with
    | zero => intro k hk hN; exact absurd hN (Nat.not_lt_zero _)
    | succ N ih =>
      intro k hk hN
      refine j_iload_n 2 C dX7_all_4 rfl rfl rfl ?_
      refine j_aload_n 0 C dX7_all_5 rfl rfl rfl ?_
      refine j_get C dX7_all_6 rfl fg_X7_55 h01 rfl ?_
      refine j_icmp_ge (tgt := 26) C dX7_all_9 rfl rfl ⟨by omega, by omega⟩ ⟨by omega, by omega⟩ (fun cc2 => ?_) (fun cc2 => ?_)
      · refine j_iload_n 1 C dX7_all_26 rfl rfl rfl ?_
        exact j_iret C E dX7_all_27 (by omega) (by omega) ⟨congrArg some (congrArg vi (by rw [List.take_of_length_le (by omega)])), rfl⟩
      · refine j_iload_n 1 C dX7_all_12 rfl rfl rfl ?_
        refine j_aload_n 0 C dX7_all_13 rfl rfl rfl ?_
        refine j_iload_n 2 C dX7_all_14 rfl rfl rfl ?_
        refine j_callV (st' := [vi ((totB (bs.take k)))]) (As := [vi ((k : Int))]) C dX7_all_15 rfl m_X7_93 h01 rfl rfl rfl (c_within (kL κ) hfl (kD κ) (kc κ) σ am bs ru se pf hd ca evs ln bl th hM k (by omega)) rfl (by omega) (by omega) (by omega) (fun _ _ hx => hx.elim) (fun v4 τ3 hp5 => ?_)
        obtain ⟨rfl, hs9⟩ := hp5
        replace hs9 := hs9.symm
        subst hs9
        show J κ σ [(0, .ref (am 0)), (1, vi ((totB (bs.take k)))), (2, vi ((k : Int)))] 18 [vi ((tot (gB bs k).2.2)), vi ((totB (bs.take k)))] _ _
        refine j_iadd C dX7_all_18 rfl ?_
        refine j_istore_n (lv' := [(0, .ref (am 0)), (1, vi ((totB (bs.take k)) + (tot (gB bs k).2.2))), (2, vi ((k : Int)))]) [1, 0, 2] C dX7_all_19 rfl rfl rfl rfl ?_
        refine j_iinc (y := (k : Int) + 1) (lv' := [(0, .ref (am 0)), (1, vi ((totB (bs.take k)) + (tot (gB bs k).2.2))), (2, vi ((k : Int) + 1))]) 2 [1, 2, 0] C dX7_all_20 rfl rfl rfl rfl rfl ?_
        refine j_goto (tgt := 4) C dX7_all_23 rfl ?_
        have hs9 := totB_take bs k (by omega)
        rw [← hs9]
        exact ih (k + 1) (by omega) (by omega)
  exact lp _ 0 (Nat.zero_le _) (Nat.lt_succ_self _)
theorem ruK {ru : Nat → Int × Int} {se : Int} {gr : Nat → Int} (h : RuM ru se gr) {k z : Int} (hk : 1 ≤ k ∧ k ≤ 3) (hz : z = 6 * se + 2 * k - 2) : gr z.toNat = (rAt ru se k).1 := by
  have h2 := (h.2 (se * 3 + k - 1).toNat (by have := h.1; omega)).1.1
  rw [show z.toNat = 2 * (se * 3 + k - 1).toNat by have := h.1; omega]
  exact h2
theorem ruK2 {ru : Nat → Int × Int} {se : Int} {gr : Nat → Int} (h : RuM ru se gr) {k z : Int} (hk : 1 ≤ k ∧ k ≤ 3) (hz : z = 6 * se + 2 * k - 2 + 1) : gr z.toNat = (rAt ru se k).2 := by
  have h2 := (h.2 (se * 3 + k - 1).toNat (by have := h.1; omega)).1.2
  rw [show z.toNat = 2 * (se * 3 + k - 1).toNat + 1 by have := h.1; omega]
  exact h2
theorem rAt_in {ru : Nat → Int × Int} {se : Int} {gr : Nat → Int} (h : RuM ru se gr) {k : Int} (hk : 1 ≤ k ∧ k ≤ 3) : (80 ≤ (rAt ru se k).1 ∧ (rAt ru se k).1 ≤ 300) ∧ (0 ≤ (rAt ru se k).2 ∧ (rAt ru se k).2 ≤ 100) := (h.2 (se * 3 + k - 1).toNat (by have := h.1; omega)).2
/-- the grade, by the rules from k + 1 on -/
def grK (ru : Nat → Int × Int) (se x y k : Int) : Int := if k < 1 ∧ (x ≤ (rAt ru se 1).1 ∧ y ≤ (rAt ru se 1).2) then 1 else if k < 2 ∧ (x ≤ (rAt ru se 2).1 ∧ y ≤ (rAt ru se 2).2) then 2 else if k < 3 ∧ (x ≤ (rAt ru se 3).1 ∧ y ≤ (rAt ru se 3).2) then 3 else 4
theorem grK_3 (ru : Nat → Int × Int) (se x y : Int) : grK ru se x y 3 = 4 := by
  unfold grK
  rw [if_neg (by omega), if_neg (by omega), if_neg (by omega)]
theorem grK_0 (ru : Nat → Int × Int) (se x y k : Int) (hk : k < 1) : grK ru se x y k = gradeF ru se x y := by
  unfold grK gradeF
  simp only [hk, show k < 2 by omega, show k < 3 by omega, true_and]
theorem grK_s {ru : Nat → Int × Int} {se x y k : Int} (hk : 1 ≤ k ∧ k ≤ 3) : grK ru se x y (k + (-1)) = if x ≤ (rAt ru se k).1 ∧ y ≤ (rAt ru se k).2 then k else grK ru se x y k := by
  rcases (show k = 1 ∨ k = 2 ∨ k = 3 by omega) with rfl | rfl | rfl
  · unfold grK; simp
  · unfold grK; simp
  · unfold grK; simp
set_option maxHeartbeats 4000000 in
set_option maxRecDepth 20000 in
theorem c_graded (l : Launch) (hfl : l.stackTraces = false) (D : va_G) (cy : Nat → Nat) (σ : Wd) (am : Nat → Nat) (bs : List Bn) (ru : Nat → Int × Int) (se : Int) (pf : Nat → Int) (hd : Hd) (ca : Int) (evs : List Evt) (ln : List Int) (bl : Int × Int × Int) (th : Int) (hM : RM cy σ am bs ru se pf hd ca evs ln bl th) (x y : Int) (hx : (-2147483648 ≤ x ∧ x < 2147483648)) (hy : (-2147483648 ≤ y ∧ y < 2147483648)) : Ct l yX7_graded cX7_graded 6 (some .int) 0 0 0 D cy [.ref (am 0), vi (x), vi (y)] σ (fun v σ' => v = some (vi (gradeF ru se x y)) ∧ σ' = σ) noX := by
  refine ct_start (by decide +kernel) hfl rfl (fun κ e1 e2 e3 C E NH => ?_)
  subst e1 e2 e3
  have C : Cx κ cX7_graded 6 RX7 "graded" 0 := C
  obtain ⟨-, -, -, -, hc, hs⟩ := id E
  show J κ σ [(0, .ref (am 0)), (1, vi (x)), (2, vi (y))] 0 [] 0 0
  obtain ⟨hI1, gc1, gm1, gr1, gp1, gb1, go1, gf1, gg1, gt1, gz1, gk1, gl1, _, _, _, h01, ⟨hgc1, hgm1, hgr1, hgp1, hgb1, hgo1, hgf1, hgg1, hgt1, hgz1, hgk1, hgl1⟩, ⟨rfl, rfl, rfl⟩, hBn1, hRu1, hPr1, hTr1, hKi1, hLi1⟩ := id hM
  have hI := hI1
  have hnb61 := hBn1.1
  have hse := hRu1.1
  refine j_iconst C dX7_graded_0 rfl ?_
  refine j_istore_n (lv' := [(0, .ref (am 0)), (1, vi (x)), (2, vi (y)), (3, vi (4))]) [1, 2, 3, 0] C dX7_graded_1 rfl rfl rfl rfl ?_
  refine j_iconst C dX7_graded_2 rfl ?_
  refine j_istore (lv' := [(0, .ref (am 0)), (1, vi (x)), (2, vi (y)), (3, vi (4)), (4, vi (3))]) [1, 2, 3, 4, 0] C dX7_graded_3 rfl rfl rfl ?_
  have lp : ∀ (N : Nat) (k : Int), 0 ≤ k ∧ k ≤ 3 → (k.toNat) < N → J κ σ [(0, .ref (am 0)), (1, vi (x)), (2, vi (y)), (3, vi ((grK ru se x y k))), (4, vi (k))] 5 [] 0 0 := by
    intro N
    induction N with
    | zero => intro k hk hN; exact absurd hN (Nat.not_lt_zero _)
    | succ N ih =>
      intro k hk hN
      have hrr : 1 ≤ k → (80 ≤ (rAt ru se k).1 ∧ (rAt ru se k).1 ≤ 300) ∧ (0 ≤ (rAt ru se k).2 ∧ (rAt ru se k).2 ≤ 100) := fun h1 => rAt_in hRu1 ⟨h1, hk.2⟩
      refine j_iload 4 C dX7_graded_5 rfl rfl ?_
      refine j_iconst C dX7_graded_7 rfl ?_
      refine j_icmp_lt (tgt := 64) C dX7_graded_8 rfl rfl ⟨by omega, by omega⟩ ⟨by omega, by omega⟩ (fun cc2 => ?_) (fun cc2 => ?_)
      · refine j_iload_n 3 C dX7_graded_64 rfl rfl rfl ?_
        exact j_iret C E dX7_graded_65 (by omega) (by omega) ⟨congrArg some (congrArg vi (grK_0 _ _ _ _ _ (by omega))), rfl⟩
      · have hr9 := hrr (by omega)
        refine j_bipush C dX7_graded_11 rfl (by decide) ?_
        refine j_aload_n 0 C dX7_graded_13 rfl rfl rfl ?_
        refine j_get C dX7_graded_14 rfl fg_X7_73 h01 rfl ?_
        refine j_imul C dX7_graded_17 rfl ?_
        refine j_iconst C dX7_graded_18 rfl ?_
        refine j_iload 4 C dX7_graded_19 rfl rfl ?_
        refine j_imul C dX7_graded_21 rfl ?_
        refine j_iadd C dX7_graded_22 rfl ?_
        refine j_iconst C dX7_graded_23 rfl ?_
        refine j_isub C dX7_graded_24 rfl ?_
        refine j_istore (lv' := [(0, .ref (am 0)), (1, vi (x)), (2, vi (y)), (3, vi ((grK ru se x y k))), (4, vi (k)), (5, vi (((6 * se) + (2 * k)) - 2))]) [1, 2, 3, 4, 5, 0] C dX7_graded_25 rfl rfl rfl ?_
        refine j_iload_n 1 C dX7_graded_27 rfl rfl rfl ?_
        refine j_aload_n 0 C dX7_graded_28 rfl rfl rfl ?_
        refine j_get C dX7_graded_29 rfl fg_X7_16 h01 rfl ?_
        refine j_iload 5 C dX7_graded_32 rfl rfl ?_
        refine j_iald C dX7_graded_34 rfl hgr1 ⟨by omega, by omega⟩ (by omega) (ruK hRu1 (k := k) ⟨by omega, by omega⟩ (z := ((6 * se) + (2 * k)) - 2) (by omega)) ?_
        refine j_icmp_gt (tgt := 56) C dX7_graded_35 rfl rfl ⟨by omega, by omega⟩ ⟨by omega, by omega⟩ (fun cc3 => ?_) (fun cc3 => ?_)
        · refine j_iload_n 3 C dX7_graded_56 rfl rfl rfl ?_
          refine j_istore_n (lv' := [(0, .ref (am 0)), (1, vi (x)), (2, vi (y)), (3, vi ((grK ru se x y k))), (4, vi (k)), (5, vi (((6 * se) + (2 * k)) - 2))]) [1, 2, 3, 0, 4, 5] C dX7_graded_57 rfl rfl rfl rfl ?_
          refine j_iinc (y := k + (-1)) (lv' := [(0, .ref (am 0)), (1, vi (x)), (2, vi (y)), (3, vi ((grK ru se x y k))), (4, vi (k + (-1))), (5, vi (((6 * se) + (2 * k)) - 2))]) 4 [1, 2, 3, 4, 0, 5] C dX7_graded_58 rfl rfl rfl rfl rfl ?_
          refine j_goto (tgt := 5) C dX7_graded_61 rfl ?_
          refine j_locals (lv' := [(0, .ref (am 0)), (1, vi (x)), (2, vi (y)), (3, vi ((grK ru se x y k))), (4, vi (k + (-1)))]) [0, 1, 2, 3, 4] rfl ?_
          have e9 : grK ru se x y (k + (-1)) = (grK ru se x y k) := by rw [grK_s ⟨by omega, by omega⟩, if_neg (by omega)]
          refine j_locals (lv' := [(0, .ref (am 0)), (1, vi (x)), (2, vi (y)), (3, vi (grK ru se x y (k + (-1)))), (4, vi (k + (-1)))]) [0, 1, 2, 3, 4] (by rw [e9]; rfl) ?_
          exact ih (k + (-1)) (by omega) (by omega)
        · refine j_iload_n 2 C dX7_graded_38 rfl rfl rfl ?_
          refine j_aload_n 0 C dX7_graded_39 rfl rfl rfl ?_
          refine j_get C dX7_graded_40 rfl fg_X7_16 h01 rfl ?_
          refine j_iload 5 C dX7_graded_43 rfl rfl ?_
          refine j_iconst C dX7_graded_45 rfl ?_
          refine j_iadd C dX7_graded_46 rfl ?_
          refine j_iald C dX7_graded_47 rfl hgr1 ⟨by omega, by omega⟩ (by omega) (ruK2 hRu1 (k := k) ⟨by omega, by omega⟩ (z := (((6 * se) + (2 * k)) - 2) + 1) (by omega)) ?_
          refine j_icmp_gt (tgt := 56) C dX7_graded_48 rfl rfl ⟨by omega, by omega⟩ ⟨by omega, by omega⟩ (fun cc4 => ?_) (fun cc4 => ?_)
          · refine j_iload_n 3 C dX7_graded_56 rfl rfl rfl ?_
            refine j_istore_n (lv' := [(0, .ref (am 0)), (1, vi (x)), (2, vi (y)), (3, vi ((grK ru se x y k))), (4, vi (k)), (5, vi (((6 * se) + (2 * k)) - 2))]) [1, 2, 3, 0, 4, 5] C dX7_graded_57 rfl rfl rfl rfl ?_
            refine j_iinc (y := k + (-1)) (lv' := [(0, .ref (am 0)), (1, vi (x)), (2, vi (y)), (3, vi ((grK ru se x y k))), (4, vi (k + (-1))), (5, vi (((6 * se) + (2 * k)) - 2))]) 4 [1, 2, 3, 4, 0, 5] C dX7_graded_58 rfl rfl rfl rfl rfl ?_
            refine j_goto (tgt := 5) C dX7_graded_61 rfl ?_
            refine j_locals (lv' := [(0, .ref (am 0)), (1, vi (x)), (2, vi (y)), (3, vi ((grK ru se x y k))), (4, vi (k + (-1)))]) [0, 1, 2, 3, 4] rfl ?_
            have e9 : grK ru se x y (k + (-1)) = (grK ru se x y k) := by rw [grK_s ⟨by omega, by omega⟩, if_neg (by omega)]
            refine j_locals (lv' := [(0, .ref (am 0)), (1, vi (x)), (2, vi (y)), (3, vi (grK ru se x y (k + (-1)))), (4, vi (k + (-1)))]) [0, 1, 2, 3, 4] (by rw [e9]; rfl) ?_
            exact ih (k + (-1)) (by omega) (by omega)
          · refine j_iload 4 C dX7_graded_51 rfl rfl ?_
            refine j_goto (tgt := 57) C dX7_graded_53 rfl ?_
            refine j_istore_n (lv' := [(0, .ref (am 0)), (1, vi (x)), (2, vi (y)), (3, vi (k)), (4, vi (k)), (5, vi (((6 * se) + (2 * k)) - 2))]) [1, 2, 3, 0, 4, 5] C dX7_graded_57 rfl rfl rfl rfl ?_
            refine j_iinc (y := k + (-1)) (lv' := [(0, .ref (am 0)), (1, vi (x)), (2, vi (y)), (3, vi (k)), (4, vi (k + (-1))), (5, vi (((6 * se) + (2 * k)) - 2))]) 4 [1, 2, 3, 4, 0, 5] C dX7_graded_58 rfl rfl rfl rfl rfl ?_
            refine j_goto (tgt := 5) C dX7_graded_61 rfl ?_
            refine j_locals (lv' := [(0, .ref (am 0)), (1, vi (x)), (2, vi (y)), (3, vi (k)), (4, vi (k + (-1)))]) [0, 1, 2, 3, 4] rfl ?_
            have e9 : grK ru se x y (k + (-1)) = k := by rw [grK_s ⟨by omega, by omega⟩, if_pos ⟨by omega, by omega⟩]
            refine j_locals (lv' := [(0, .ref (am 0)), (1, vi (x)), (2, vi (y)), (3, vi (grK ru se x y (k + (-1)))), (4, vi (k + (-1)))]) [0, 1, 2, 3, 4] (by rw [e9]; rfl) ?_
            exact ih (k + (-1)) (by omega) (by omega)
  rw [← grK_3 ru se x y]
  exact lp _ 3 ⟨by omega, by omega⟩ (Nat.lt_succ_self _)
set_option maxHeartbeats 4000000 in
set_option maxRecDepth 20000 in
theorem c_lays (l : Launch) (hfl : l.stackTraces = false) (D : va_G) (cy : Nat → Nat) (σ : Wd) (am : Nat → Nat) (bs : List Bn) (ru : Nat → Int × Int) (se : Int) (pf : Nat → Int) (hd : Hd) (ca : Int) (evs : List Evt) (ln : List Int) (bl : Int × Int × Int) (th : Int) (hM : RM cy σ am bs ru se pf hd ca evs ln bl th) (b : Nat) (hb : b < bs.length) (hl : (gB bs b).2.2.length < 90) (n x f g : Int) : Ct l yX7_lays cX7_lays 7 none 0 0 0 D cy [.ref (am 0), vi ((b : Int)), vi (n), vi (x), vi (f), vi (g)] σ (fun v σ' => v = none ∧ RM cy σ' am (setL bs b ((gB bs b).2.2 ++ [(n, x, f, g)])) ru se pf hd ca evs ln bl th ∧ Keep σ σ' (inM am) ∧ σ'.1 = σ.1) noX := by
  refine ct_start (by decide +kernel) hfl rfl (fun κ e1 e2 e3 C E NH => ?_)
  subst e1 e2 e3
  have C : Cx κ cX7_lays 7 RX7 "lays" 0 := C
  obtain ⟨-, -, -, -, hc, hs⟩ := id E
  show J κ σ [(0, .ref (am 0)), (1, vi ((b : Int))), (2, vi (n)), (3, vi (x)), (4, vi (f)), (5, vi (g))] 0 [] 0 0
  obtain ⟨hI1, gc1, gm1, gr1, gp1, gb1, go1, gf1, gg1, gt1, gz1, gk1, gl1, _, _, _, h01, ⟨hgc1, hgm1, hgr1, hgp1, hgb1, hgo1, hgf1, hgg1, hgt1, hgz1, hgk1, hgl1⟩, ⟨rfl, rfl, rfl⟩, hBn1, hRu1, hPr1, hTr1, hKi1, hLi1⟩ := id hM
  have hI := hI1
  have hnb61 := hBn1.1
  have kp0 : Keep σ σ (inM am) := Keep.rf
  have dm0 : σ.1 = σ.1 := rfl
  obtain ⟨⟨cap, mf, ly⟩, hg⟩ : ∃ z, gB bs (b : Int) = z := ⟨_, rfl⟩
  have hbk_1 := hBn1.2.2 b hb
  rw [hg] at hbk_1
  obtain ⟨⟨hcp_1, hmz_1⟩, ⟨hmn_1, hl9_1⟩, hrw_1⟩ := hbk_1
  dsimp only at hcp_1 hmz_1 hmn_1 hl9_1 hrw_1
  rw [hg] at hl
  dsimp only at hl
  refine j_bipush C dX7_lays_0 rfl (by decide) ?_
  refine j_iload_n 1 C dX7_lays_2 rfl rfl rfl ?_
  refine j_imul C dX7_lays_3 rfl ?_
  refine j_aload_n 0 C dX7_lays_4 rfl rfl rfl ?_
  refine j_get C dX7_lays_5 rfl fg_X7_13 h01 rfl ?_
  refine j_iload_n 1 C dX7_lays_8 rfl rfl rfl ?_
  refine j_iald C dX7_lays_9 rfl hgm1 ⟨by omega, by omega⟩ (by omega) hmn_1 ?_
  refine j_iadd C dX7_lays_10 rfl ?_
  refine j_istore (lv' := [(0, .ref (am 0)), (1, vi ((b : Int))), (2, vi (n)), (3, vi (x)), (4, vi (f)), (5, vi (g)), (6, vi ((90 * (b : Int)) + (ly.length : Int)))]) [1, 2, 3, 4, 5, 6, 0] C dX7_lays_11 rfl rfl rfl ?_
  refine j_aload_n 0 C dX7_lays_13 rfl rfl rfl ?_
  refine j_get C dX7_lays_14 rfl fg_X7_22 h01 rfl ?_
  refine j_iload 6 C dX7_lays_17 rfl rfl ?_
  refine j_iload_n 2 C dX7_lays_19 rfl rfl rfl ?_
  refine j_iast C dX7_lays_20 rfl hgb1 ⟨by omega, by omega⟩ (by omega) (fun τ2 ee3 => ?_)
  have u4 := h01.ne' ee3 (hI 0 5 (by decide) (by decide) (by decide))
  have u5 := hgc1.ne' ee3 (hI 1 5 (by decide) (by decide) (by decide))
  have u6 := hgm1.ne' ee3 (hI 2 5 (by decide) (by decide) (by decide))
  have u7 := hgr1.ne' ee3 (hI 3 5 (by decide) (by decide) (by decide))
  have u8 := hgp1.ne' ee3 (hI 4 5 (by decide) (by decide) (by decide))
  have u9 : has τ2 (am 5) (iA (kc κ) 540 (ups gb1 ((90 * (b : Int)) + (ly.length : Int)).toNat n)) := hgb1.self' ee3
  have u10 := hgo1.ne' ee3 (hI 6 5 (by decide) (by decide) (by decide))
  have u11 := hgf1.ne' ee3 (hI 7 5 (by decide) (by decide) (by decide))
  have u12 := hgg1.ne' ee3 (hI 8 5 (by decide) (by decide) (by decide))
  have u13 := hgt1.ne' ee3 (hI 9 5 (by decide) (by decide) (by decide))
  have u14 := hgz1.ne' ee3 (hI 10 5 (by decide) (by decide) (by decide))
  have u15 := hgk1.ne' ee3 (hI 11 5 (by decide) (by decide) (by decide))
  have u16 := hgl1.ne' ee3 (hI 12 5 (by decide) (by decide) (by decide))
  have kp17 := kp0.put ee3 ⟨5, by decide, rfl⟩
  have dm18 := (dom_put ee3).trans dm0
  refine j_aload_n 0 C dX7_lays_21 rfl rfl rfl ?_
  refine j_get C dX7_lays_22 rfl fg_X7_25 u4 rfl ?_
  refine j_iload 6 C dX7_lays_25 rfl rfl ?_
  refine j_iload_n 3 C dX7_lays_27 rfl rfl rfl ?_
  refine j_iast C dX7_lays_28 rfl u10 ⟨by omega, by omega⟩ (by omega) (fun τ19 ee20 => ?_)
  have u21 := u4.ne' ee20 (hI 0 6 (by decide) (by decide) (by decide))
  have u22 := u5.ne' ee20 (hI 1 6 (by decide) (by decide) (by decide))
  have u23 := u6.ne' ee20 (hI 2 6 (by decide) (by decide) (by decide))
  have u24 := u7.ne' ee20 (hI 3 6 (by decide) (by decide) (by decide))
  have u25 := u8.ne' ee20 (hI 4 6 (by decide) (by decide) (by decide))
  have u26 := u9.ne' ee20 (hI 5 6 (by decide) (by decide) (by decide))
  have u27 : has τ19 (am 6) (iA (kc κ) 540 (ups go1 ((90 * (b : Int)) + (ly.length : Int)).toNat x)) := u10.self' ee20
  have u28 := u11.ne' ee20 (hI 7 6 (by decide) (by decide) (by decide))
  have u29 := u12.ne' ee20 (hI 8 6 (by decide) (by decide) (by decide))
  have u30 := u13.ne' ee20 (hI 9 6 (by decide) (by decide) (by decide))
  have u31 := u14.ne' ee20 (hI 10 6 (by decide) (by decide) (by decide))
  have u32 := u15.ne' ee20 (hI 11 6 (by decide) (by decide) (by decide))
  have u33 := u16.ne' ee20 (hI 12 6 (by decide) (by decide) (by decide))
  have kp34 := kp17.put ee20 ⟨6, by decide, rfl⟩
  have dm35 := (dom_put ee20).trans dm18
  refine j_aload_n 0 C dX7_lays_29 rfl rfl rfl ?_
  refine j_get C dX7_lays_30 rfl fg_X7_28 u21 rfl ?_
  refine j_iload 6 C dX7_lays_33 rfl rfl ?_
  refine j_iload 4 C dX7_lays_35 rfl rfl ?_
  refine j_iast C dX7_lays_37 rfl u28 ⟨by omega, by omega⟩ (by omega) (fun τ36 ee37 => ?_)
  have u38 := u21.ne' ee37 (hI 0 7 (by decide) (by decide) (by decide))
  have u39 := u22.ne' ee37 (hI 1 7 (by decide) (by decide) (by decide))
  have u40 := u23.ne' ee37 (hI 2 7 (by decide) (by decide) (by decide))
  have u41 := u24.ne' ee37 (hI 3 7 (by decide) (by decide) (by decide))
  have u42 := u25.ne' ee37 (hI 4 7 (by decide) (by decide) (by decide))
  have u43 := u26.ne' ee37 (hI 5 7 (by decide) (by decide) (by decide))
  have u44 := u27.ne' ee37 (hI 6 7 (by decide) (by decide) (by decide))
  have u45 : has τ36 (am 7) (iA (kc κ) 540 (ups gf1 ((90 * (b : Int)) + (ly.length : Int)).toNat f)) := u28.self' ee37
  have u46 := u29.ne' ee37 (hI 8 7 (by decide) (by decide) (by decide))
  have u47 := u30.ne' ee37 (hI 9 7 (by decide) (by decide) (by decide))
  have u48 := u31.ne' ee37 (hI 10 7 (by decide) (by decide) (by decide))
  have u49 := u32.ne' ee37 (hI 11 7 (by decide) (by decide) (by decide))
  have u50 := u33.ne' ee37 (hI 12 7 (by decide) (by decide) (by decide))
  have kp51 := kp34.put ee37 ⟨7, by decide, rfl⟩
  have dm52 := (dom_put ee37).trans dm35
  refine j_aload_n 0 C dX7_lays_38 rfl rfl rfl ?_
  refine j_get C dX7_lays_39 rfl fg_X7_31 u38 rfl ?_
  refine j_iload 6 C dX7_lays_42 rfl rfl ?_
  refine j_iload 5 C dX7_lays_44 rfl rfl ?_
  refine j_iast C dX7_lays_46 rfl u46 ⟨by omega, by omega⟩ (by omega) (fun τ53 ee54 => ?_)
  have u55 := u38.ne' ee54 (hI 0 8 (by decide) (by decide) (by decide))
  have u56 := u39.ne' ee54 (hI 1 8 (by decide) (by decide) (by decide))
  have u57 := u40.ne' ee54 (hI 2 8 (by decide) (by decide) (by decide))
  have u58 := u41.ne' ee54 (hI 3 8 (by decide) (by decide) (by decide))
  have u59 := u42.ne' ee54 (hI 4 8 (by decide) (by decide) (by decide))
  have u60 := u43.ne' ee54 (hI 5 8 (by decide) (by decide) (by decide))
  have u61 := u44.ne' ee54 (hI 6 8 (by decide) (by decide) (by decide))
  have u62 := u45.ne' ee54 (hI 7 8 (by decide) (by decide) (by decide))
  have u63 : has τ53 (am 8) (iA (kc κ) 540 (ups gg1 ((90 * (b : Int)) + (ly.length : Int)).toNat g)) := u46.self' ee54
  have u64 := u47.ne' ee54 (hI 9 8 (by decide) (by decide) (by decide))
  have u65 := u48.ne' ee54 (hI 10 8 (by decide) (by decide) (by decide))
  have u66 := u49.ne' ee54 (hI 11 8 (by decide) (by decide) (by decide))
  have u67 := u50.ne' ee54 (hI 12 8 (by decide) (by decide) (by decide))
  have kp68 := kp51.put ee54 ⟨8, by decide, rfl⟩
  have dm69 := (dom_put ee54).trans dm52
  refine j_aload_n 0 C dX7_lays_47 rfl rfl rfl ?_
  refine j_get C dX7_lays_48 rfl fg_X7_13 u55 rfl ?_
  refine j_iload_n 1 C dX7_lays_51 rfl rfl rfl ?_
  refine j_dup2 C dX7_lays_52 rfl rfl rfl ?_
  refine j_iald C dX7_lays_53 rfl u57 ⟨by omega, by omega⟩ (by omega) hmn_1 ?_
  refine j_iconst C dX7_lays_54 rfl ?_
  refine j_iadd C dX7_lays_55 rfl ?_
  refine j_iast C dX7_lays_56 rfl u57 ⟨by omega, by omega⟩ (by omega) (fun τ70 ee71 => ?_)
  have u72 := u55.ne' ee71 (hI 0 2 (by decide) (by decide) (by decide))
  have u73 := u56.ne' ee71 (hI 1 2 (by decide) (by decide) (by decide))
  have u74 : has τ70 (am 2) (iA (kc κ) 6 (ups gm1 (b : Int).toNat ((ly.length : Int) + 1))) := u57.self' ee71
  have u75 := u58.ne' ee71 (hI 3 2 (by decide) (by decide) (by decide))
  have u76 := u59.ne' ee71 (hI 4 2 (by decide) (by decide) (by decide))
  have u77 := u60.ne' ee71 (hI 5 2 (by decide) (by decide) (by decide))
  have u78 := u61.ne' ee71 (hI 6 2 (by decide) (by decide) (by decide))
  have u79 := u62.ne' ee71 (hI 7 2 (by decide) (by decide) (by decide))
  have u80 := u63.ne' ee71 (hI 8 2 (by decide) (by decide) (by decide))
  have u81 := u64.ne' ee71 (hI 9 2 (by decide) (by decide) (by decide))
  have u82 := u65.ne' ee71 (hI 10 2 (by decide) (by decide) (by decide))
  have u83 := u66.ne' ee71 (hI 11 2 (by decide) (by decide) (by decide))
  have u84 := u67.ne' ee71 (hI 12 2 (by decide) (by decide) (by decide))
  have kp85 := kp68.put ee71 ⟨2, by decide, rfl⟩
  have dm86 := (dom_put ee71).trans dm69
  have hk9 : ((90 * (b : Int)) + (ly.length : Int)).toNat = 90 * b + ly.length := by omega
  have hl1 := len1 ly (n, x, f, g)
  exact j_vret C E dX7_lays_57 (by omega) (by omega) ⟨rfl, by rw [hg]; exact ⟨hI, _, _, _, _, _, _, _, _, _, _, _, _, _, _, _, u72, ⟨u73, u74, u75, u76, u77, u78, u79, u80, u81, u82, u83, u84⟩, ⟨by rw [setL_len], rfl, rfl⟩, (hBn1.set hb (by show (ly ++ [(n, x, f, g)]).length ≤ 90; omega) (by rw [hl1]; exact ups_u rfl) (fun i hi => ups_n (by omega)) (G4_out (by omega) n x f g) (row_add hrw_1 hk9 n x f g)), hRu1, hPr1, hTr1, hKi1, hLi1⟩, kp85, dm86⟩
