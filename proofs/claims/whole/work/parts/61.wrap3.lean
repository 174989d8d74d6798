/-! the law's calls: meanMoisture, wetShare -/
theorem vfu {f : Nat → UInt64} {x : UInt64} : vf_upd f (0 : Int).toNat x 0 = x := by unfold vf_upd; exact if_pos rfl
set_option maxHeartbeats 8000000 in
set_option maxRecDepth 20000 in
theorem W_meanMoisture (l : Launch) (hfl : l.stackTraces = false) (D : va_G) (cy : Nat → Nat) (σ : Wd) (tg ad : Nat → Nat) (bs : List Bn) (ru : Nat → Int × Int) (se : Int) (pf : Nat → Int) (hd : Hd) (ca : Int) (evs : List Evt) (ln : List Int) (hX0 : RX cy σ tg ad bs ru se pf hd ca evs ln) (o : Nat) (f0 : Nat → UInt64) (hout : has σ o (dA cy 1 f0)) (hot : 1000 ≤ tg o) (b : Int) (hb9 : (-2147483648 ≤ b ∧ b < 2147483648)) : CtN l yL_meanMoisture cL_meanMoisture 4 (some .int) [(0, 8, 11, 21), (0, 8, 14, 81)] 8 250 7604 D cy [.ref (ad 0), vi (b), .ref o] σ (fun v σ' => v = some (vi (cdMean bs b)) ∧ RX cy σ' tg ad bs ru se pf hd ca evs ln ∧ (∃ f' : Nat → UInt64, has σ' o (dA cy 1 f') ∧ (cdMean bs b = 0 → f' 0 = vMean bs b)) ∧ Keep σ σ' (fun y => tg y < 1000 ∨ y = o) ∧ ∀ y, y ∈ σ.1 → y ∈ σ'.1) noX := by
  refine cth_start (by decide +kernel) hfl rfl (fun κ e1 e2 e3 C E HH HN => ?_)
  subst e1 e2 e3
  have C : Cx κ cL_meanMoisture 4 RL "meanMoisture" 8 := C
  obtain ⟨-, -, -, -, hc, hs⟩ := id E
  show J κ σ [(0, .ref (ad 0)), (1, vi (b)), (2, .ref o)] 0 [] 0 0
  have hXX := hX0
  obtain ⟨⟨x1, x2⟩, -, -, -, -, hO⟩ := hXX
  have h6 := hO.1
  have hlb := hO.2.2.1
  have hTb := totB_in hO.2.1
  refine j_aload_n 2 C dL_meanMoisture_0 rfl rfl rfl ?_
  refine j_iconst C dL_meanMoisture_1 rfl ?_
  refine j_aload_n 0 C dL_meanMoisture_2 rfl rfl rfl ?_
  refine j_iload_n 1 C dL_meanMoisture_3 rfl rfl rfl ?_
  rcases Classical.em (b < 0 ∨ (bs.length : Int) ≤ b) with hq | hq
  · have ho : cdMean bs b = 1 := by unfold cdMean; rw [if_pos (by omega)]
    refine j_callV (st' := [vi (0), .ref o]) (As := [vi (b)]) C dL_meanMoisture_4 rfl m_L_77 x1 rfl rfl rfl (c_meanMoistureB1 (kL κ) hfl (kD κ) (kc κ) σ tg ad bs ru se pf hd ca evs ln hX0 b hb9 hq) rfl (by omega) (by omega) (by omega) (fun E9 τ2 hx => ?_) (fun _ _ hx => hx.elim)
    obtain ⟨rfl, hs9⟩ := hx
    replace hs9 := hs9.symm
    subst hs9
    refine j_catch [] (0, 8, 11, 21) [(0, 8, 14, 81)] C HH HN rfl (fun z hz => absurd hz List.not_mem_nil) ⟨by decide, by decide⟩ (by decide) hl_21 hc_21 (fun q9 => ?_)
    refine j_astore_n (lv' := [(0, .ref (ad 0)), (1, vi (b)), (2, .ref o), (3, .ref q9)]) [1, 2, 3, 0] C dL_meanMoisture_11 rfl rfl rfl rfl ?_
    refine j_iconst C dL_meanMoisture_12 rfl ?_
    exact j_iret C E dL_meanMoisture_13 (by omega) (by omega) ⟨by rw [ho], hX0, ⟨f0, hout, fun h9 => by rw [ho] at h9; exact absurd (show (1 : Int) = 0 from h9) (by decide)⟩, Keep.rf, fun _ hy => hy⟩
  · obtain ⟨i, hi, rfl⟩ : ∃ i : Nat, i < bs.length ∧ b = (i : Int) := ⟨b.toNat, by omega, by omega⟩
    rcases Classical.em (tot (gB bs (i : Int)).2.2 = 0) with hq2 | hq2
    · have ho : cdMean bs (i : Int) = 2 := by unfold cdMean; rw [if_neg (by omega), if_pos hq2]
      refine j_callV (st' := [vi (0), .ref o]) (As := [vi ((i : Int))]) C dL_meanMoisture_4 rfl m_L_77 x1 rfl rfl rfl (c_meanMoistureB2 (kL κ) hfl (kD κ) (kc κ) σ tg ad bs ru se pf hd ca evs ln hX0 i hi hq2) rfl (by omega) (by omega) (by omega) (fun E9 τ5 hx => ?_) (fun _ _ hx => hx.elim)
      obtain ⟨rfl, hs9⟩ := hx
      replace hs9 := hs9.symm
      subst hs9
      refine j_catch [(0, 8, 11, 21)] (0, 8, 14, 81) [] C HH HN rfl (List.forall_mem_cons.mpr ⟨⟨by decide, "java/lang/IndexOutOfBoundsException", hl_21, by decide⟩, fun z hz => absurd hz List.not_mem_nil⟩) ⟨by decide, by decide⟩ (by decide) hl_81 hc_81 (fun q9 => ?_)
      refine j_astore_n (lv' := [(0, .ref (ad 0)), (1, vi ((i : Int))), (2, .ref o), (3, .ref q9)]) [1, 2, 3, 0] C dL_meanMoisture_14 rfl rfl rfl rfl ?_
      refine j_iconst C dL_meanMoisture_15 rfl ?_
      exact j_iret C E dL_meanMoisture_16 (by omega) (by omega) ⟨by rw [ho], hX0, ⟨f0, hout, fun h9 => by rw [ho] at h9; exact absurd (show (2 : Int) = 0 from h9) (by decide)⟩, Keep.rf, fun _ hy => hy⟩
    · have ho : cdMean bs (i : Int) = 0 := by unfold cdMean; rw [if_neg (by omega), if_neg hq2]
      refine j_callV (st' := [vi (0), .ref o]) (As := [vi ((i : Int))]) C dL_meanMoisture_4 rfl m_L_77 x1 rfl rfl rfl (c_meanMoisture (kL κ) hfl (kD κ) (kc κ) σ tg ad bs ru se pf hd ca evs ln hX0 i hi hq2) rfl (by omega) (by omega) (by omega) (fun _ _ hx => hx.elim) (fun v8 τ7 hp9 => ?_)
      obtain ⟨rfl, hK1⟩ := hp9
      have hR1 := hX0.keep0 hK1
      have ho1 := hK1 _ _ hout (fun z => z)
      have hmm1 : ∀ y, y ∈ σ.1 → y ∈ τ7.1 := fun y hy => hK1.mem hy (fun z => z)
      refine j_dast C dL_meanMoisture_7 rfl ho1 ⟨by decide, by decide⟩ (by decide) (fun τ9 e9 => ?_)
      refine j_goto (tgt := 17) C dL_meanMoisture_8 rfl ?_
      refine j_iconst C dL_meanMoisture_17 rfl ?_
      exact j_iret C E dL_meanMoisture_18 (by omega) (by omega) ⟨by rw [ho], hR1.keepO e9 hot, ⟨_, by rw [e9]; exact ho1.self, fun _ => vfu⟩, (hK1.mono (fun _ z => z.elim) : Keep σ τ7 (fun y => tg y < 1000 ∨ y = o)).put e9 (Or.inr rfl), fun y hy => by rw [dom_put e9]; exact hmm1 y hy⟩
set_option maxHeartbeats 8000000 in
set_option maxRecDepth 20000 in
theorem W_wetShare (l : Launch) (hfl : l.stackTraces = false) (D : va_G) (cy : Nat → Nat) (σ : Wd) (tg ad : Nat → Nat) (bs : List Bn) (ru : Nat → Int × Int) (se : Int) (pf : Nat → Int) (hd : Hd) (ca : Int) (evs : List Evt) (ln : List Int) (hX0 : RX cy σ tg ad bs ru se pf hd ca evs ln) (o : Nat) (f0 : Nat → UInt64) (hout : has σ o (dA cy 1 f0)) (hot : 1000 ≤ tg o) (m : Int) (hm9 : (-2147483648 ≤ m ∧ m < 2147483648)) : CtN l yL_wetShare cL_wetShare 4 (some .int) [(0, 9, 12, 13), (0, 9, 15, 81)] 8 250 7604 D cy [.ref (ad 0), vi (m), .ref o] σ (fun v σ' => v = some (vi (cdWet bs m)) ∧ RX cy σ' tg ad bs ru se pf hd ca evs ln ∧ (∃ f' : Nat → UInt64, has σ' o (dA cy 1 f') ∧ (cdWet bs m = 0 → f' 0 = FP.f2d (vWet bs m))) ∧ Keep σ σ' (fun y => tg y < 1000 ∨ y = o) ∧ ∀ y, y ∈ σ.1 → y ∈ σ'.1) noX := by
  refine cth_start (by decide +kernel) hfl rfl (fun κ e1 e2 e3 C E HH HN => ?_)
  subst e1 e2 e3
  have C : Cx κ cL_wetShare 4 RL "wetShare" 8 := C
  obtain ⟨-, -, -, -, hc, hs⟩ := id E
  show J κ σ [(0, .ref (ad 0)), (1, vi (m)), (2, .ref o)] 0 [] 0 0
  have hXX := hX0
  obtain ⟨⟨x1, x2⟩, -, -, -, -, hO⟩ := hXX
  have h6 := hO.1
  have hlb := hO.2.2.1
  have hTb := totB_in hO.2.1
  refine j_aload_n 2 C dL_wetShare_0 rfl rfl rfl ?_
  refine j_iconst C dL_wetShare_1 rfl ?_
  refine j_aload_n 0 C dL_wetShare_2 rfl rfl rfl ?_
  refine j_iload_n 1 C dL_wetShare_3 rfl rfl rfl ?_
  rcases Classical.em (m < 80 ∨ 300 < m) with hq | hq
  · have ho : cdWet bs m = 1 := by unfold cdWet; rw [if_pos (by omega)]
    refine j_callV (st' := [vi (0), .ref o]) (As := [vi (m)]) C dL_wetShare_4 rfl m_L_83 x1 rfl rfl rfl (c_wetShareB1 (kL κ) hfl (kD κ) (kc κ) σ tg ad bs ru se pf hd ca evs ln hX0 m hm9 hq) rfl (by omega) (by omega) (by omega) (fun E9 τ2 hx => ?_) (fun _ _ hx => hx.elim)
    obtain ⟨rfl, hs9⟩ := hx
    replace hs9 := hs9.symm
    subst hs9
    refine j_catch [] (0, 9, 12, 13) [(0, 9, 15, 81)] C HH HN rfl (fun z hz => absurd hz List.not_mem_nil) ⟨by decide, by decide⟩ (by decide) hl_13 hc_13 (fun q9 => ?_)
    refine j_astore_n (lv' := [(0, .ref (ad 0)), (1, vi (m)), (2, .ref o), (3, .ref q9)]) [1, 2, 3, 0] C dL_wetShare_12 rfl rfl rfl rfl ?_
    refine j_iconst C dL_wetShare_13 rfl ?_
    exact j_iret C E dL_wetShare_14 (by omega) (by omega) ⟨by rw [ho], hX0, ⟨f0, hout, fun h9 => by rw [ho] at h9; exact absurd (show (1 : Int) = 0 from h9) (by decide)⟩, Keep.rf, fun _ hy => hy⟩
  · rcases Classical.em (totB bs = 0) with hq2 | hq2
    · have ho : cdWet bs m = 2 := by unfold cdWet; rw [if_neg (by omega), if_pos (by omega)]
      refine j_callV (st' := [vi (0), .ref o]) (As := [vi (m)]) C dL_wetShare_4 rfl m_L_83 x1 rfl rfl rfl (c_wetShareB2 (kL κ) hfl (kD κ) (kc κ) σ tg ad bs ru se pf hd ca evs ln hX0 m hm9 ⟨by omega, by omega⟩ hq2) rfl (by omega) (by omega) (by omega) (fun E9 τ5 hx => ?_) (fun _ _ hx => hx.elim)
      obtain ⟨rfl, hs9⟩ := hx
      replace hs9 := hs9.symm
      subst hs9
      refine j_catch [(0, 9, 12, 13)] (0, 9, 15, 81) [] C HH HN rfl (List.forall_mem_cons.mpr ⟨⟨by decide, "java/lang/IllegalArgumentException", hl_13, by decide⟩, fun z hz => absurd hz List.not_mem_nil⟩) ⟨by decide, by decide⟩ (by decide) hl_81 hc_81 (fun q9 => ?_)
      refine j_astore_n (lv' := [(0, .ref (ad 0)), (1, vi (m)), (2, .ref o), (3, .ref q9)]) [1, 2, 3, 0] C dL_wetShare_15 rfl rfl rfl rfl ?_
      refine j_iconst C dL_wetShare_16 rfl ?_
      exact j_iret C E dL_wetShare_17 (by omega) (by omega) ⟨by rw [ho], hX0, ⟨f0, hout, fun h9 => by rw [ho] at h9; exact absurd (show (2 : Int) = 0 from h9) (by decide)⟩, Keep.rf, fun _ hy => hy⟩
    · have ho : cdWet bs m = 0 := by unfold cdWet; rw [if_neg (by omega), if_neg (by omega)]
      refine j_callV (st' := [vi (0), .ref o]) (As := [vi (m)]) C dL_wetShare_4 rfl m_L_83 x1 rfl rfl rfl (c_wetShare (kL κ) hfl (kD κ) (kc κ) σ tg ad bs ru se pf hd ca evs ln hX0 m hm9 ⟨by omega, by omega⟩ hq2) rfl (by omega) (by omega) (by omega) (fun _ _ hx => hx.elim) (fun v8 τ7 hp9 => ?_)
      obtain ⟨rfl, hs9⟩ := hp9
      replace hs9 := hs9.symm
      subst hs9
      have hR1 := hX0
      have ho1 := hout
      have hmm1 : ∀ y, y ∈ σ.1 → y ∈ σ.1 := fun _ hy => hy
      refine j_f2d C dL_wetShare_7 rfl (fp_fd (fp_f _ ⟨by omega, by omega⟩)) ?_
      refine j_dast C dL_wetShare_8 rfl ho1 ⟨by decide, by decide⟩ (by decide) (fun τ9 e9 => ?_)
      refine j_goto (tgt := 18) C dL_wetShare_9 rfl ?_
      refine j_iconst C dL_wetShare_18 rfl ?_
      exact j_iret C E dL_wetShare_19 (by omega) (by omega) ⟨by rw [ho], hR1.keepO e9 hot, ⟨_, by rw [e9]; exact ho1.self, fun _ => vfu⟩, (Keep.rf : Keep σ σ (fun y => tg y < 1000 ∨ y = o)).put e9 (Or.inr rfl), fun y hy => by rw [dom_put e9]; exact hmm1 y hy⟩
