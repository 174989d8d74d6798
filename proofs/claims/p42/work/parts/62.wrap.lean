/-! the law's calls: methods that catch -/
set_option maxHeartbeats 1000000 in
set_option maxRecDepth 20000 in
theorem W_capacityOf (l : Launch) (hfl : l.stackTraces = false) (D : va_G) (cy : Nat → Nat) (σ : Wd) (tg ad : Nat → Nat) (bs : List Bn) (ru : Nat → Int × Int) (se : Int) (pf : Nat → Int) (hd : Hd) (ca : Int) (evs : List Evt) (ln : List Int) (hX0 : RX cy σ tg ad bs ru se pf hd ca evs ln) (i : Nat) (hi : i < bs.length) : CtH l yL_capacityOf cL_capacityOf 3 (some .int) [(0, 5, 6, 25)] 6 0 0 D cy [.ref (ad 0), vi ((i : Int))] σ (fun v σ' => v = some (vi ((gB bs i).1)) ∧ σ' = σ) noX := by
  refine cth_start (by decide +kernel) hfl rfl (fun κ e1 e2 e3 C E HH => ?_)
  subst e1 e2 e3
  have C : Cx κ cL_capacityOf 3 RL "capacityOf" 6 := C
  obtain ⟨-, -, -, -, hc, hs⟩ := id E
  show J κ σ [(0, .ref (ad 0)), (1, vi (i : Int))] 0 [] 0 0
  have x1 := hX0.1.1
  refine j_aload_n 0 C dL_capacityOf_0 rfl rfl rfl ?_
  refine j_iload_n 1 C dL_capacityOf_1 rfl rfl rfl ?_
  refine j_callV (st' := []) (As := [vi (i : Int)]) C dL_capacityOf_2 rfl m_L_21 x1 rfl rfl rfl (c_capacityOf (kL κ) hfl (kD κ) (kc κ) σ tg ad bs ru se pf hd ca evs ln hX0 i hi) rfl (by omega) (by omega) (by omega) (fun _ _ hx => hx.elim) (fun v1 τ1 hp => ?_)
  obtain ⟨rfl, hp⟩ := hp
  exact j_iret C E dL_capacityOf_5 (by omega) (by omega) ⟨rfl, hp⟩
set_option maxHeartbeats 1000000 in
set_option maxRecDepth 20000 in
theorem W_capacityOfB (l : Launch) (hfl : l.stackTraces = false) (D : va_G) (cy : Nat → Nat) (σ : Wd) (tg ad : Nat → Nat) (bs : List Bn) (ru : Nat → Int × Int) (se : Int) (pf : Nat → Int) (hd : Hd) (ca : Int) (evs : List Evt) (ln : List Int) (hX0 : RX cy σ tg ad bs ru se pf hd ca evs ln) (b : Int) (hb9 : (-2147483648 ≤ b ∧ b < 2147483648)) (hbad : b < 0 ∨ (bs.length : Int) ≤ b) : CtH l yL_capacityOf cL_capacityOf 3 (some .int) [(0, 5, 6, 25)] 6 1 6 D cy [.ref (ad 0), vi (b)] σ (fun v σ' => v = some (vi (-900001)) ∧ σ' = σ) noX := by
  refine cth_start (by decide +kernel) hfl rfl (fun κ e1 e2 e3 C E HH => ?_)
  subst e1 e2 e3
  have C : Cx κ cL_capacityOf 3 RL "capacityOf" 6 := C
  obtain ⟨-, -, -, -, hc, hs⟩ := id E
  show J κ σ [(0, .ref (ad 0)), (1, vi (b))] 0 [] 0 0
  have x1 := hX0.1.1
  refine j_aload_n 0 C dL_capacityOf_0 rfl rfl rfl ?_
  refine j_iload_n 1 C dL_capacityOf_1 rfl rfl rfl ?_
  refine j_callV (st' := []) (As := [vi (b)]) C dL_capacityOf_2 rfl m_L_21 x1 rfl rfl rfl (c_capacityOfB (kL κ) hfl (kD κ) (kc κ) σ tg ad bs ru se pf hd ca evs ln hX0 b hb9 hbad) rfl (by omega) (by omega) (by omega) (fun E9 τ1 hx => ?_) (fun _ _ hx => hx.elim)
  obtain ⟨rfl, hp⟩ := hx
  refine j_catch [] (0, 5, 6, 25) [] C HH rfl (fun z hz => absurd hz List.not_mem_nil) ⟨by decide, by decide⟩ (by decide) hl_25 hc_25 (fun q9 => ?_)
  refine j_astore_n (lv' := [(0, .ref (ad 0)), (1, vi (b)), (2, .ref q9)]) [1, 2, 0] C dL_capacityOf_6 rfl rfl rfl rfl ?_
  refine j_ldc (z := (-900001)) C dL_capacityOf_7 rfl kc_L_17 ?_
  exact j_iret C E dL_capacityOf_9 (by omega) (by omega) ⟨rfl, hp⟩
set_option maxHeartbeats 1000000 in
set_option maxRecDepth 20000 in
theorem W_bushelsIn (l : Launch) (hfl : l.stackTraces = false) (D : va_G) (cy : Nat → Nat) (σ : Wd) (tg ad : Nat → Nat) (bs : List Bn) (ru : Nat → Int × Int) (se : Int) (pf : Nat → Int) (hd : Hd) (ca : Int) (evs : List Evt) (ln : List Int) (hX0 : RX cy σ tg ad bs ru se pf hd ca evs ln) (i : Nat) (hi : i < bs.length) : CtH l yL_bushelsIn cL_bushelsIn 3 (some .int) [(0, 5, 6, 25)] 6 0 0 D cy [.ref (ad 0), vi ((i : Int))] σ (fun v σ' => v = some (vi (tot (gB bs i).2.2)) ∧ σ' = σ) noX := by
  refine cth_start (by decide +kernel) hfl rfl (fun κ e1 e2 e3 C E HH => ?_)
  subst e1 e2 e3
  have C : Cx κ cL_bushelsIn 3 RL "bushelsIn" 6 := C
  obtain ⟨-, -, -, -, hc, hs⟩ := id E
  show J κ σ [(0, .ref (ad 0)), (1, vi (i : Int))] 0 [] 0 0
  have x1 := hX0.1.1
  refine j_aload_n 0 C dL_bushelsIn_0 rfl rfl rfl ?_
  refine j_iload_n 1 C dL_bushelsIn_1 rfl rfl rfl ?_
  refine j_callV (st' := []) (As := [vi (i : Int)]) C dL_bushelsIn_2 rfl m_L_58 x1 rfl rfl rfl (c_bushelsIn (kL κ) hfl (kD κ) (kc κ) σ tg ad bs ru se pf hd ca evs ln hX0 i hi) rfl (by omega) (by omega) (by omega) (fun _ _ hx => hx.elim) (fun v1 τ1 hp => ?_)
  obtain ⟨rfl, hp⟩ := hp
  exact j_iret C E dL_bushelsIn_5 (by omega) (by omega) ⟨rfl, hp⟩
set_option maxHeartbeats 1000000 in
set_option maxRecDepth 20000 in
theorem W_bushelsInB (l : Launch) (hfl : l.stackTraces = false) (D : va_G) (cy : Nat → Nat) (σ : Wd) (tg ad : Nat → Nat) (bs : List Bn) (ru : Nat → Int × Int) (se : Int) (pf : Nat → Int) (hd : Hd) (ca : Int) (evs : List Evt) (ln : List Int) (hX0 : RX cy σ tg ad bs ru se pf hd ca evs ln) (b : Int) (hb9 : (-2147483648 ≤ b ∧ b < 2147483648)) (hbad : b < 0 ∨ (bs.length : Int) ≤ b) : CtH l yL_bushelsIn cL_bushelsIn 3 (some .int) [(0, 5, 6, 25)] 6 1 6 D cy [.ref (ad 0), vi (b)] σ (fun v σ' => v = some (vi (-900001)) ∧ σ' = σ) noX := by
  refine cth_start (by decide +kernel) hfl rfl (fun κ e1 e2 e3 C E HH => ?_)
  subst e1 e2 e3
  have C : Cx κ cL_bushelsIn 3 RL "bushelsIn" 6 := C
  obtain ⟨-, -, -, -, hc, hs⟩ := id E
  show J κ σ [(0, .ref (ad 0)), (1, vi (b))] 0 [] 0 0
  have x1 := hX0.1.1
  refine j_aload_n 0 C dL_bushelsIn_0 rfl rfl rfl ?_
  refine j_iload_n 1 C dL_bushelsIn_1 rfl rfl rfl ?_
  refine j_callV (st' := []) (As := [vi (b)]) C dL_bushelsIn_2 rfl m_L_58 x1 rfl rfl rfl (c_bushelsInB (kL κ) hfl (kD κ) (kc κ) σ tg ad bs ru se pf hd ca evs ln hX0 b hb9 hbad) rfl (by omega) (by omega) (by omega) (fun E9 τ1 hx => ?_) (fun _ _ hx => hx.elim)
  obtain ⟨rfl, hp⟩ := hx
  refine j_catch [] (0, 5, 6, 25) [] C HH rfl (fun z hz => absurd hz List.not_mem_nil) ⟨by decide, by decide⟩ (by decide) hl_25 hc_25 (fun q9 => ?_)
  refine j_astore_n (lv' := [(0, .ref (ad 0)), (1, vi (b)), (2, .ref q9)]) [1, 2, 0] C dL_bushelsIn_6 rfl rfl rfl rfl ?_
  refine j_ldc (z := (-900001)) C dL_bushelsIn_7 rfl kc_L_17 ?_
  exact j_iret C E dL_bushelsIn_9 (by omega) (by omega) ⟨rfl, hp⟩
set_option maxHeartbeats 1000000 in
set_option maxRecDepth 20000 in
theorem W_layersIn (l : Launch) (hfl : l.stackTraces = false) (D : va_G) (cy : Nat → Nat) (σ : Wd) (tg ad : Nat → Nat) (bs : List Bn) (ru : Nat → Int × Int) (se : Int) (pf : Nat → Int) (hd : Hd) (ca : Int) (evs : List Evt) (ln : List Int) (hX0 : RX cy σ tg ad bs ru se pf hd ca evs ln) (i : Nat) (hi : i < bs.length) : CtH l yL_layersIn cL_layersIn 3 (some .int) [(0, 5, 6, 25)] 6 0 0 D cy [.ref (ad 0), vi ((i : Int))] σ (fun v σ' => v = some (vi (((gB bs i).2.2.length : Int))) ∧ σ' = σ) noX := by
  refine cth_start (by decide +kernel) hfl rfl (fun κ e1 e2 e3 C E HH => ?_)
  subst e1 e2 e3
  have C : Cx κ cL_layersIn 3 RL "layersIn" 6 := C
  obtain ⟨-, -, -, -, hc, hs⟩ := id E
  show J κ σ [(0, .ref (ad 0)), (1, vi (i : Int))] 0 [] 0 0
  have x1 := hX0.1.1
  refine j_aload_n 0 C dL_layersIn_0 rfl rfl rfl ?_
  refine j_iload_n 1 C dL_layersIn_1 rfl rfl rfl ?_
  refine j_callV (st' := []) (As := [vi (i : Int)]) C dL_layersIn_2 rfl m_L_61 x1 rfl rfl rfl (c_layersIn (kL κ) hfl (kD κ) (kc κ) σ tg ad bs ru se pf hd ca evs ln hX0 i hi) rfl (by omega) (by omega) (by omega) (fun _ _ hx => hx.elim) (fun v1 τ1 hp => ?_)
  obtain ⟨rfl, hp⟩ := hp
  exact j_iret C E dL_layersIn_5 (by omega) (by omega) ⟨rfl, hp⟩
set_option maxHeartbeats 1000000 in
set_option maxRecDepth 20000 in
theorem W_layersInB (l : Launch) (hfl : l.stackTraces = false) (D : va_G) (cy : Nat → Nat) (σ : Wd) (tg ad : Nat → Nat) (bs : List Bn) (ru : Nat → Int × Int) (se : Int) (pf : Nat → Int) (hd : Hd) (ca : Int) (evs : List Evt) (ln : List Int) (hX0 : RX cy σ tg ad bs ru se pf hd ca evs ln) (b : Int) (hb9 : (-2147483648 ≤ b ∧ b < 2147483648)) (hbad : b < 0 ∨ (bs.length : Int) ≤ b) : CtH l yL_layersIn cL_layersIn 3 (some .int) [(0, 5, 6, 25)] 6 1 6 D cy [.ref (ad 0), vi (b)] σ (fun v σ' => v = some (vi (-900001)) ∧ σ' = σ) noX := by
  refine cth_start (by decide +kernel) hfl rfl (fun κ e1 e2 e3 C E HH => ?_)
  subst e1 e2 e3
  have C : Cx κ cL_layersIn 3 RL "layersIn" 6 := C
  obtain ⟨-, -, -, -, hc, hs⟩ := id E
  show J κ σ [(0, .ref (ad 0)), (1, vi (b))] 0 [] 0 0
  have x1 := hX0.1.1
  refine j_aload_n 0 C dL_layersIn_0 rfl rfl rfl ?_
  refine j_iload_n 1 C dL_layersIn_1 rfl rfl rfl ?_
  refine j_callV (st' := []) (As := [vi (b)]) C dL_layersIn_2 rfl m_L_61 x1 rfl rfl rfl (c_layersInB (kL κ) hfl (kD κ) (kc κ) σ tg ad bs ru se pf hd ca evs ln hX0 b hb9 hbad) rfl (by omega) (by omega) (by omega) (fun E9 τ1 hx => ?_) (fun _ _ hx => hx.elim)
  obtain ⟨rfl, hp⟩ := hx
  refine j_catch [] (0, 5, 6, 25) [] C HH rfl (fun z hz => absurd hz List.not_mem_nil) ⟨by decide, by decide⟩ (by decide) hl_25 hc_25 (fun q9 => ?_)
  refine j_astore_n (lv' := [(0, .ref (ad 0)), (1, vi (b)), (2, .ref q9)]) [1, 2, 0] C dL_layersIn_6 rfl rfl rfl rfl ?_
  refine j_ldc (z := (-900001)) C dL_layersIn_7 rfl kc_L_17 ?_
  exact j_iret C E dL_layersIn_9 (by omega) (by omega) ⟨rfl, hp⟩
set_option maxHeartbeats 1000000 in
set_option maxRecDepth 20000 in
theorem W_layerBushels (l : Launch) (hfl : l.stackTraces = false) (D : va_G) (cy : Nat → Nat) (σ : Wd) (tg ad : Nat → Nat) (bs : List Bn) (ru : Nat → Int × Int) (se : Int) (pf : Nat → Int) (hd : Hd) (ca : Int) (evs : List Evt) (ln : List Int) (hX0 : RX cy σ tg ad bs ru se pf hd ca evs ln) (i : Nat) (hi : i < bs.length) (q : Int) (hq : 0 ≤ q ∧ q < ((gB bs i).2.2.length : Int)) : CtH l yL_layerBushels cL_layerBushels 4 (some .int) [(0, 6, 7, 25)] 6 0 0 D cy [.ref (ad 0), vi ((i : Int)), vi (q)] σ (fun v σ' => v = some (vi (lyAt (fl (gB bs i)) q).1) ∧ σ' = σ) noX := by
  refine cth_start (by decide +kernel) hfl rfl (fun κ e1 e2 e3 C E HH => ?_)
  subst e1 e2 e3
  have C : Cx κ cL_layerBushels 4 RL "layerBushels" 6 := C
  obtain ⟨-, -, -, -, hc, hs⟩ := id E
  show J κ σ [(0, .ref (ad 0)), (1, vi (i : Int)), (2, vi (q))] 0 [] 0 0
  have x1 := hX0.1.1
  refine j_aload_n 0 C dL_layerBushels_0 rfl rfl rfl ?_
  refine j_iload_n 1 C dL_layerBushels_1 rfl rfl rfl ?_
  refine j_iload_n 2 C dL_layerBushels_2 rfl rfl rfl ?_
  refine j_callV (st' := []) (As := [vi (i : Int), vi (q)]) C dL_layerBushels_3 rfl m_L_64 x1 rfl rfl rfl (c_layerBushels (kL κ) hfl (kD κ) (kc κ) σ tg ad bs ru se pf hd ca evs ln hX0 i hi q hq) rfl (by omega) (by omega) (by omega) (fun _ _ hx => hx.elim) (fun v1 τ1 hp => ?_)
  obtain ⟨rfl, hp⟩ := hp
  exact j_iret C E dL_layerBushels_6 (by omega) (by omega) ⟨rfl, hp⟩
set_option maxHeartbeats 1000000 in
set_option maxRecDepth 20000 in
theorem W_layerBushelsB (l : Launch) (hfl : l.stackTraces = false) (D : va_G) (cy : Nat → Nat) (σ : Wd) (tg ad : Nat → Nat) (bs : List Bn) (ru : Nat → Int × Int) (se : Int) (pf : Nat → Int) (hd : Hd) (ca : Int) (evs : List Evt) (ln : List Int) (hX0 : RX cy σ tg ad bs ru se pf hd ca evs ln) (i : Nat) (hi : i < bs.length) (q : Int) (hq9 : (-2147483648 ≤ q ∧ q < 2147483648)) (hq : q < 0 ∨ ((gB bs i).2.2.length : Int) ≤ q) : CtH l yL_layerBushels cL_layerBushels 4 (some .int) [(0, 6, 7, 25)] 6 1 6 D cy [.ref (ad 0), vi ((i : Int)), vi (q)] σ (fun v σ' => v = some (vi (-900001)) ∧ σ' = σ) noX := by
  refine cth_start (by decide +kernel) hfl rfl (fun κ e1 e2 e3 C E HH => ?_)
  subst e1 e2 e3
  have C : Cx κ cL_layerBushels 4 RL "layerBushels" 6 := C
  obtain ⟨-, -, -, -, hc, hs⟩ := id E
  show J κ σ [(0, .ref (ad 0)), (1, vi (i : Int)), (2, vi (q))] 0 [] 0 0
  have x1 := hX0.1.1
  refine j_aload_n 0 C dL_layerBushels_0 rfl rfl rfl ?_
  refine j_iload_n 1 C dL_layerBushels_1 rfl rfl rfl ?_
  refine j_iload_n 2 C dL_layerBushels_2 rfl rfl rfl ?_
  refine j_callV (st' := []) (As := [vi (i : Int), vi (q)]) C dL_layerBushels_3 rfl m_L_64 x1 rfl rfl rfl (c_layerBushelsB (kL κ) hfl (kD κ) (kc κ) σ tg ad bs ru se pf hd ca evs ln hX0 i hi q hq9 hq) rfl (by omega) (by omega) (by omega) (fun E9 τ1 hx => ?_) (fun _ _ hx => hx.elim)
  obtain ⟨rfl, hp⟩ := hx
  refine j_catch [] (0, 6, 7, 25) [] C HH rfl (fun z hz => absurd hz List.not_mem_nil) ⟨by decide, by decide⟩ (by decide) hl_25 hc_25 (fun q9 => ?_)
  refine j_astore_n (lv' := [(0, .ref (ad 0)), (1, vi (i : Int)), (2, vi (q)), (3, .ref q9)]) [1, 2, 3, 0] C dL_layerBushels_7 rfl rfl rfl rfl ?_
  refine j_ldc (z := (-900001)) C dL_layerBushels_8 rfl kc_L_17 ?_
  exact j_iret C E dL_layerBushels_10 (by omega) (by omega) ⟨rfl, hp⟩
set_option maxHeartbeats 1000000 in
set_option maxRecDepth 20000 in
theorem W_layerBushelsB0 (l : Launch) (hfl : l.stackTraces = false) (D : va_G) (cy : Nat → Nat) (σ : Wd) (tg ad : Nat → Nat) (bs : List Bn) (ru : Nat → Int × Int) (se : Int) (pf : Nat → Int) (hd : Hd) (ca : Int) (evs : List Evt) (ln : List Int) (hX0 : RX cy σ tg ad bs ru se pf hd ca evs ln) (b : Int) (hb9 : (-2147483648 ≤ b ∧ b < 2147483648)) (hbad : b < 0 ∨ (bs.length : Int) ≤ b) (q : Int) : CtH l yL_layerBushels cL_layerBushels 4 (some .int) [(0, 6, 7, 25)] 6 1 6 D cy [.ref (ad 0), vi (b), vi (q)] σ (fun v σ' => v = some (vi (-900001)) ∧ σ' = σ) noX := by
  refine cth_start (by decide +kernel) hfl rfl (fun κ e1 e2 e3 C E HH => ?_)
  subst e1 e2 e3
  have C : Cx κ cL_layerBushels 4 RL "layerBushels" 6 := C
  obtain ⟨-, -, -, -, hc, hs⟩ := id E
  show J κ σ [(0, .ref (ad 0)), (1, vi (b)), (2, vi (q))] 0 [] 0 0
  have x1 := hX0.1.1
  refine j_aload_n 0 C dL_layerBushels_0 rfl rfl rfl ?_
  refine j_iload_n 1 C dL_layerBushels_1 rfl rfl rfl ?_
  refine j_iload_n 2 C dL_layerBushels_2 rfl rfl rfl ?_
  refine j_callV (st' := []) (As := [vi (b), vi (q)]) C dL_layerBushels_3 rfl m_L_64 x1 rfl rfl rfl (c_layerBushelsB0 (kL κ) hfl (kD κ) (kc κ) σ tg ad bs ru se pf hd ca evs ln hX0 b hb9 hbad q) rfl (by omega) (by omega) (by omega) (fun E9 τ1 hx => ?_) (fun _ _ hx => hx.elim)
  obtain ⟨rfl, hp⟩ := hx
  refine j_catch [] (0, 6, 7, 25) [] C HH rfl (fun z hz => absurd hz List.not_mem_nil) ⟨by decide, by decide⟩ (by decide) hl_25 hc_25 (fun q9 => ?_)
  refine j_astore_n (lv' := [(0, .ref (ad 0)), (1, vi (b)), (2, vi (q)), (3, .ref q9)]) [1, 2, 3, 0] C dL_layerBushels_7 rfl rfl rfl rfl ?_
  refine j_ldc (z := (-900001)) C dL_layerBushels_8 rfl kc_L_17 ?_
  exact j_iret C E dL_layerBushels_10 (by omega) (by omega) ⟨rfl, hp⟩
set_option maxHeartbeats 1000000 in
set_option maxRecDepth 20000 in
theorem W_layerMoisture (l : Launch) (hfl : l.stackTraces = false) (D : va_G) (cy : Nat → Nat) (σ : Wd) (tg ad : Nat → Nat) (bs : List Bn) (ru : Nat → Int × Int) (se : Int) (pf : Nat → Int) (hd : Hd) (ca : Int) (evs : List Evt) (ln : List Int) (hX0 : RX cy σ tg ad bs ru se pf hd ca evs ln) (i : Nat) (hi : i < bs.length) (q : Int) (hq : 0 ≤ q ∧ q < ((gB bs i).2.2.length : Int)) : CtH l yL_layerMoisture cL_layerMoisture 4 (some .int) [(0, 6, 7, 25)] 6 0 0 D cy [.ref (ad 0), vi ((i : Int)), vi (q)] σ (fun v σ' => v = some (vi (lyAt (fl (gB bs i)) q).2.1) ∧ σ' = σ) noX := by
  refine cth_start (by decide +kernel) hfl rfl (fun κ e1 e2 e3 C E HH => ?_)
  subst e1 e2 e3
  have C : Cx κ cL_layerMoisture 4 RL "layerMoisture" 6 := C
  obtain ⟨-, -, -, -, hc, hs⟩ := id E
  show J κ σ [(0, .ref (ad 0)), (1, vi (i : Int)), (2, vi (q))] 0 [] 0 0
  have x1 := hX0.1.1
  refine j_aload_n 0 C dL_layerMoisture_0 rfl rfl rfl ?_
  refine j_iload_n 1 C dL_layerMoisture_1 rfl rfl rfl ?_
  refine j_iload_n 2 C dL_layerMoisture_2 rfl rfl rfl ?_
  refine j_callV (st' := []) (As := [vi (i : Int), vi (q)]) C dL_layerMoisture_3 rfl m_L_70 x1 rfl rfl rfl (c_layerMoisture (kL κ) hfl (kD κ) (kc κ) σ tg ad bs ru se pf hd ca evs ln hX0 i hi q hq) rfl (by omega) (by omega) (by omega) (fun _ _ hx => hx.elim) (fun v1 τ1 hp => ?_)
  obtain ⟨rfl, hp⟩ := hp
  exact j_iret C E dL_layerMoisture_6 (by omega) (by omega) ⟨rfl, hp⟩
set_option maxHeartbeats 1000000 in
set_option maxRecDepth 20000 in
theorem W_layerMoistureB (l : Launch) (hfl : l.stackTraces = false) (D : va_G) (cy : Nat → Nat) (σ : Wd) (tg ad : Nat → Nat) (bs : List Bn) (ru : Nat → Int × Int) (se : Int) (pf : Nat → Int) (hd : Hd) (ca : Int) (evs : List Evt) (ln : List Int) (hX0 : RX cy σ tg ad bs ru se pf hd ca evs ln) (i : Nat) (hi : i < bs.length) (q : Int) (hq9 : (-2147483648 ≤ q ∧ q < 2147483648)) (hq : q < 0 ∨ ((gB bs i).2.2.length : Int) ≤ q) : CtH l yL_layerMoisture cL_layerMoisture 4 (some .int) [(0, 6, 7, 25)] 6 1 6 D cy [.ref (ad 0), vi ((i : Int)), vi (q)] σ (fun v σ' => v = some (vi (-900001)) ∧ σ' = σ) noX := by
  refine cth_start (by decide +kernel) hfl rfl (fun κ e1 e2 e3 C E HH => ?_)
  subst e1 e2 e3
  have C : Cx κ cL_layerMoisture 4 RL "layerMoisture" 6 := C
  obtain ⟨-, -, -, -, hc, hs⟩ := id E
  show J κ σ [(0, .ref (ad 0)), (1, vi (i : Int)), (2, vi (q))] 0 [] 0 0
  have x1 := hX0.1.1
  refine j_aload_n 0 C dL_layerMoisture_0 rfl rfl rfl ?_
  refine j_iload_n 1 C dL_layerMoisture_1 rfl rfl rfl ?_
  refine j_iload_n 2 C dL_layerMoisture_2 rfl rfl rfl ?_
  refine j_callV (st' := []) (As := [vi (i : Int), vi (q)]) C dL_layerMoisture_3 rfl m_L_70 x1 rfl rfl rfl (c_layerMoistureB (kL κ) hfl (kD κ) (kc κ) σ tg ad bs ru se pf hd ca evs ln hX0 i hi q hq9 hq) rfl (by omega) (by omega) (by omega) (fun E9 τ1 hx => ?_) (fun _ _ hx => hx.elim)
  obtain ⟨rfl, hp⟩ := hx
  refine j_catch [] (0, 6, 7, 25) [] C HH rfl (fun z hz => absurd hz List.not_mem_nil) ⟨by decide, by decide⟩ (by decide) hl_25 hc_25 (fun q9 => ?_)
  refine j_astore_n (lv' := [(0, .ref (ad 0)), (1, vi (i : Int)), (2, vi (q)), (3, .ref q9)]) [1, 2, 3, 0] C dL_layerMoisture_7 rfl rfl rfl rfl ?_
  refine j_ldc (z := (-900001)) C dL_layerMoisture_8 rfl kc_L_17 ?_
  exact j_iret C E dL_layerMoisture_10 (by omega) (by omega) ⟨rfl, hp⟩
set_option maxHeartbeats 1000000 in
set_option maxRecDepth 20000 in
theorem W_layerMoistureB0 (l : Launch) (hfl : l.stackTraces = false) (D : va_G) (cy : Nat → Nat) (σ : Wd) (tg ad : Nat → Nat) (bs : List Bn) (ru : Nat → Int × Int) (se : Int) (pf : Nat → Int) (hd : Hd) (ca : Int) (evs : List Evt) (ln : List Int) (hX0 : RX cy σ tg ad bs ru se pf hd ca evs ln) (b : Int) (hb9 : (-2147483648 ≤ b ∧ b < 2147483648)) (hbad : b < 0 ∨ (bs.length : Int) ≤ b) (q : Int) : CtH l yL_layerMoisture cL_layerMoisture 4 (some .int) [(0, 6, 7, 25)] 6 1 6 D cy [.ref (ad 0), vi (b), vi (q)] σ (fun v σ' => v = some (vi (-900001)) ∧ σ' = σ) noX := by
  refine cth_start (by decide +kernel) hfl rfl (fun κ e1 e2 e3 C E HH => ?_)
  subst e1 e2 e3
  have C : Cx κ cL_layerMoisture 4 RL "layerMoisture" 6 := C
  obtain ⟨-, -, -, -, hc, hs⟩ := id E
  show J κ σ [(0, .ref (ad 0)), (1, vi (b)), (2, vi (q))] 0 [] 0 0
  have x1 := hX0.1.1
  refine j_aload_n 0 C dL_layerMoisture_0 rfl rfl rfl ?_
  refine j_iload_n 1 C dL_layerMoisture_1 rfl rfl rfl ?_
  refine j_iload_n 2 C dL_layerMoisture_2 rfl rfl rfl ?_
  refine j_callV (st' := []) (As := [vi (b), vi (q)]) C dL_layerMoisture_3 rfl m_L_70 x1 rfl rfl rfl (c_layerMoistureB0 (kL κ) hfl (kD κ) (kc κ) σ tg ad bs ru se pf hd ca evs ln hX0 b hb9 hbad q) rfl (by omega) (by omega) (by omega) (fun E9 τ1 hx => ?_) (fun _ _ hx => hx.elim)
  obtain ⟨rfl, hp⟩ := hx
  refine j_catch [] (0, 6, 7, 25) [] C HH rfl (fun z hz => absurd hz List.not_mem_nil) ⟨by decide, by decide⟩ (by decide) hl_25 hc_25 (fun q9 => ?_)
  refine j_astore_n (lv' := [(0, .ref (ad 0)), (1, vi (b)), (2, vi (q)), (3, .ref q9)]) [1, 2, 3, 0] C dL_layerMoisture_7 rfl rfl rfl rfl ?_
  refine j_ldc (z := (-900001)) C dL_layerMoisture_8 rfl kc_L_17 ?_
  exact j_iret C E dL_layerMoisture_10 (by omega) (by omega) ⟨rfl, hp⟩
set_option maxHeartbeats 1000000 in
set_option maxRecDepth 20000 in
theorem W_layerForeign (l : Launch) (hfl : l.stackTraces = false) (D : va_G) (cy : Nat → Nat) (σ : Wd) (tg ad : Nat → Nat) (bs : List Bn) (ru : Nat → Int × Int) (se : Int) (pf : Nat → Int) (hd : Hd) (ca : Int) (evs : List Evt) (ln : List Int) (hX0 : RX cy σ tg ad bs ru se pf hd ca evs ln) (i : Nat) (hi : i < bs.length) (q : Int) (hq : 0 ≤ q ∧ q < ((gB bs i).2.2.length : Int)) : CtH l yL_layerForeign cL_layerForeign 4 (some .int) [(0, 6, 7, 25)] 6 0 0 D cy [.ref (ad 0), vi ((i : Int)), vi (q)] σ (fun v σ' => v = some (vi (lyAt (fl (gB bs i)) q).2.2.1) ∧ σ' = σ) noX := by
  refine cth_start (by decide +kernel) hfl rfl (fun κ e1 e2 e3 C E HH => ?_)
  subst e1 e2 e3
  have C : Cx κ cL_layerForeign 4 RL "layerForeign" 6 := C
  obtain ⟨-, -, -, -, hc, hs⟩ := id E
  show J κ σ [(0, .ref (ad 0)), (1, vi (i : Int)), (2, vi (q))] 0 [] 0 0
  have x1 := hX0.1.1
  refine j_aload_n 0 C dL_layerForeign_0 rfl rfl rfl ?_
  refine j_iload_n 1 C dL_layerForeign_1 rfl rfl rfl ?_
  refine j_iload_n 2 C dL_layerForeign_2 rfl rfl rfl ?_
  refine j_callV (st' := []) (As := [vi (i : Int), vi (q)]) C dL_layerForeign_3 rfl m_L_73 x1 rfl rfl rfl (c_layerForeign (kL κ) hfl (kD κ) (kc κ) σ tg ad bs ru se pf hd ca evs ln hX0 i hi q hq) rfl (by omega) (by omega) (by omega) (fun _ _ hx => hx.elim) (fun v1 τ1 hp => ?_)
  obtain ⟨rfl, hp⟩ := hp
  exact j_iret C E dL_layerForeign_6 (by omega) (by omega) ⟨rfl, hp⟩
set_option maxHeartbeats 1000000 in
set_option maxRecDepth 20000 in
theorem W_layerForeignB (l : Launch) (hfl : l.stackTraces = false) (D : va_G) (cy : Nat → Nat) (σ : Wd) (tg ad : Nat → Nat) (bs : List Bn) (ru : Nat → Int × Int) (se : Int) (pf : Nat → Int) (hd : Hd) (ca : Int) (evs : List Evt) (ln : List Int) (hX0 : RX cy σ tg ad bs ru se pf hd ca evs ln) (i : Nat) (hi : i < bs.length) (q : Int) (hq9 : (-2147483648 ≤ q ∧ q < 2147483648)) (hq : q < 0 ∨ ((gB bs i).2.2.length : Int) ≤ q) : CtH l yL_layerForeign cL_layerForeign 4 (some .int) [(0, 6, 7, 25)] 6 1 6 D cy [.ref (ad 0), vi ((i : Int)), vi (q)] σ (fun v σ' => v = some (vi (-900001)) ∧ σ' = σ) noX := by
  refine cth_start (by decide +kernel) hfl rfl (fun κ e1 e2 e3 C E HH => ?_)
  subst e1 e2 e3
  have C : Cx κ cL_layerForeign 4 RL "layerForeign" 6 := C
  obtain ⟨-, -, -, -, hc, hs⟩ := id E
  show J κ σ [(0, .ref (ad 0)), (1, vi (i : Int)), (2, vi (q))] 0 [] 0 0
  have x1 := hX0.1.1
  refine j_aload_n 0 C dL_layerForeign_0 rfl rfl rfl ?_
  refine j_iload_n 1 C dL_layerForeign_1 rfl rfl rfl ?_
  refine j_iload_n 2 C dL_layerForeign_2 rfl rfl rfl ?_
  refine j_callV (st' := []) (As := [vi (i : Int), vi (q)]) C dL_layerForeign_3 rfl m_L_73 x1 rfl rfl rfl (c_layerForeignB (kL κ) hfl (kD κ) (kc κ) σ tg ad bs ru se pf hd ca evs ln hX0 i hi q hq9 hq) rfl (by omega) (by omega) (by omega) (fun E9 τ1 hx => ?_) (fun _ _ hx => hx.elim)
  obtain ⟨rfl, hp⟩ := hx
  refine j_catch [] (0, 6, 7, 25) [] C HH rfl (fun z hz => absurd hz List.not_mem_nil) ⟨by decide, by decide⟩ (by decide) hl_25 hc_25 (fun q9 => ?_)
  refine j_astore_n (lv' := [(0, .ref (ad 0)), (1, vi (i : Int)), (2, vi (q)), (3, .ref q9)]) [1, 2, 3, 0] C dL_layerForeign_7 rfl rfl rfl rfl ?_
  refine j_ldc (z := (-900001)) C dL_layerForeign_8 rfl kc_L_17 ?_
  exact j_iret C E dL_layerForeign_10 (by omega) (by omega) ⟨rfl, hp⟩
set_option maxHeartbeats 1000000 in
set_option maxRecDepth 20000 in
theorem W_layerForeignB0 (l : Launch) (hfl : l.stackTraces = false) (D : va_G) (cy : Nat → Nat) (σ : Wd) (tg ad : Nat → Nat) (bs : List Bn) (ru : Nat → Int × Int) (se : Int) (pf : Nat → Int) (hd : Hd) (ca : Int) (evs : List Evt) (ln : List Int) (hX0 : RX cy σ tg ad bs ru se pf hd ca evs ln) (b : Int) (hb9 : (-2147483648 ≤ b ∧ b < 2147483648)) (hbad : b < 0 ∨ (bs.length : Int) ≤ b) (q : Int) : CtH l yL_layerForeign cL_layerForeign 4 (some .int) [(0, 6, 7, 25)] 6 1 6 D cy [.ref (ad 0), vi (b), vi (q)] σ (fun v σ' => v = some (vi (-900001)) ∧ σ' = σ) noX := by
  refine cth_start (by decide +kernel) hfl rfl (fun κ e1 e2 e3 C E HH => ?_)
  subst e1 e2 e3
  have C : Cx κ cL_layerForeign 4 RL "layerForeign" 6 := C
  obtain ⟨-, -, -, -, hc, hs⟩ := id E
  show J κ σ [(0, .ref (ad 0)), (1, vi (b)), (2, vi (q))] 0 [] 0 0
  have x1 := hX0.1.1
  refine j_aload_n 0 C dL_layerForeign_0 rfl rfl rfl ?_
  refine j_iload_n 1 C dL_layerForeign_1 rfl rfl rfl ?_
  refine j_iload_n 2 C dL_layerForeign_2 rfl rfl rfl ?_
  refine j_callV (st' := []) (As := [vi (b), vi (q)]) C dL_layerForeign_3 rfl m_L_73 x1 rfl rfl rfl (c_layerForeignB0 (kL κ) hfl (kD κ) (kc κ) σ tg ad bs ru se pf hd ca evs ln hX0 b hb9 hbad q) rfl (by omega) (by omega) (by omega) (fun E9 τ1 hx => ?_) (fun _ _ hx => hx.elim)
  obtain ⟨rfl, hp⟩ := hx
  refine j_catch [] (0, 6, 7, 25) [] C HH rfl (fun z hz => absurd hz List.not_mem_nil) ⟨by decide, by decide⟩ (by decide) hl_25 hc_25 (fun q9 => ?_)
  refine j_astore_n (lv' := [(0, .ref (ad 0)), (1, vi (b)), (2, vi (q)), (3, .ref q9)]) [1, 2, 3, 0] C dL_layerForeign_7 rfl rfl rfl rfl ?_
  refine j_ldc (z := (-900001)) C dL_layerForeign_8 rfl kc_L_17 ?_
  exact j_iret C E dL_layerForeign_10 (by omega) (by omega) ⟨rfl, hp⟩
set_option maxHeartbeats 1000000 in
set_option maxRecDepth 20000 in
theorem W_layerGrade (l : Launch) (hfl : l.stackTraces = false) (D : va_G) (cy : Nat → Nat) (σ : Wd) (tg ad : Nat → Nat) (bs : List Bn) (ru : Nat → Int × Int) (se : Int) (pf : Nat → Int) (hd : Hd) (ca : Int) (evs : List Evt) (ln : List Int) (hX0 : RX cy σ tg ad bs ru se pf hd ca evs ln) (i : Nat) (hi : i < bs.length) (q : Int) (hq : 0 ≤ q ∧ q < ((gB bs i).2.2.length : Int)) : CtH l yL_layerGrade cL_layerGrade 4 (some .int) [(0, 6, 7, 25)] 6 0 0 D cy [.ref (ad 0), vi ((i : Int)), vi (q)] σ (fun v σ' => v = some (vi (lyAt (fl (gB bs i)) q).2.2.2) ∧ σ' = σ) noX := by
  refine cth_start (by decide +kernel) hfl rfl (fun κ e1 e2 e3 C E HH => ?_)
  subst e1 e2 e3
  have C : Cx κ cL_layerGrade 4 RL "layerGrade" 6 := C
  obtain ⟨-, -, -, -, hc, hs⟩ := id E
  show J κ σ [(0, .ref (ad 0)), (1, vi (i : Int)), (2, vi (q))] 0 [] 0 0
  have x1 := hX0.1.1
  refine j_aload_n 0 C dL_layerGrade_0 rfl rfl rfl ?_
  refine j_iload_n 1 C dL_layerGrade_1 rfl rfl rfl ?_
  refine j_iload_n 2 C dL_layerGrade_2 rfl rfl rfl ?_
  refine j_callV (st' := []) (As := [vi (i : Int), vi (q)]) C dL_layerGrade_3 rfl m_L_76 x1 rfl rfl rfl (c_layerGrade (kL κ) hfl (kD κ) (kc κ) σ tg ad bs ru se pf hd ca evs ln hX0 i hi q hq) rfl (by omega) (by omega) (by omega) (fun _ _ hx => hx.elim) (fun v1 τ1 hp => ?_)
  obtain ⟨rfl, hp⟩ := hp
  exact j_iret C E dL_layerGrade_6 (by omega) (by omega) ⟨rfl, hp⟩
set_option maxHeartbeats 1000000 in
set_option maxRecDepth 20000 in
theorem W_layerGradeB (l : Launch) (hfl : l.stackTraces = false) (D : va_G) (cy : Nat → Nat) (σ : Wd) (tg ad : Nat → Nat) (bs : List Bn) (ru : Nat → Int × Int) (se : Int) (pf : Nat → Int) (hd : Hd) (ca : Int) (evs : List Evt) (ln : List Int) (hX0 : RX cy σ tg ad bs ru se pf hd ca evs ln) (i : Nat) (hi : i < bs.length) (q : Int) (hq9 : (-2147483648 ≤ q ∧ q < 2147483648)) (hq : q < 0 ∨ ((gB bs i).2.2.length : Int) ≤ q) : CtH l yL_layerGrade cL_layerGrade 4 (some .int) [(0, 6, 7, 25)] 6 1 6 D cy [.ref (ad 0), vi ((i : Int)), vi (q)] σ (fun v σ' => v = some (vi (-900001)) ∧ σ' = σ) noX := by
  refine cth_start (by decide +kernel) hfl rfl (fun κ e1 e2 e3 C E HH => ?_)
  subst e1 e2 e3
  have C : Cx κ cL_layerGrade 4 RL "layerGrade" 6 := C
  obtain ⟨-, -, -, -, hc, hs⟩ := id E
  show J κ σ [(0, .ref (ad 0)), (1, vi (i : Int)), (2, vi (q))] 0 [] 0 0
  have x1 := hX0.1.1
  refine j_aload_n 0 C dL_layerGrade_0 rfl rfl rfl ?_
  refine j_iload_n 1 C dL_layerGrade_1 rfl rfl rfl ?_
  refine j_iload_n 2 C dL_layerGrade_2 rfl rfl rfl ?_
  refine j_callV (st' := []) (As := [vi (i : Int), vi (q)]) C dL_layerGrade_3 rfl m_L_76 x1 rfl rfl rfl (c_layerGradeB (kL κ) hfl (kD κ) (kc κ) σ tg ad bs ru se pf hd ca evs ln hX0 i hi q hq9 hq) rfl (by omega) (by omega) (by omega) (fun E9 τ1 hx => ?_) (fun _ _ hx => hx.elim)
  obtain ⟨rfl, hp⟩ := hx
  refine j_catch [] (0, 6, 7, 25) [] C HH rfl (fun z hz => absurd hz List.not_mem_nil) ⟨by decide, by decide⟩ (by decide) hl_25 hc_25 (fun q9 => ?_)
  refine j_astore_n (lv' := [(0, .ref (ad 0)), (1, vi (i : Int)), (2, vi (q)), (3, .ref q9)]) [1, 2, 3, 0] C dL_layerGrade_7 rfl rfl rfl rfl ?_
  refine j_ldc (z := (-900001)) C dL_layerGrade_8 rfl kc_L_17 ?_
  exact j_iret C E dL_layerGrade_10 (by omega) (by omega) ⟨rfl, hp⟩
set_option maxHeartbeats 1000000 in
set_option maxRecDepth 20000 in
theorem W_layerGradeB0 (l : Launch) (hfl : l.stackTraces = false) (D : va_G) (cy : Nat → Nat) (σ : Wd) (tg ad : Nat → Nat) (bs : List Bn) (ru : Nat → Int × Int) (se : Int) (pf : Nat → Int) (hd : Hd) (ca : Int) (evs : List Evt) (ln : List Int) (hX0 : RX cy σ tg ad bs ru se pf hd ca evs ln) (b : Int) (hb9 : (-2147483648 ≤ b ∧ b < 2147483648)) (hbad : b < 0 ∨ (bs.length : Int) ≤ b) (q : Int) : CtH l yL_layerGrade cL_layerGrade 4 (some .int) [(0, 6, 7, 25)] 6 1 6 D cy [.ref (ad 0), vi (b), vi (q)] σ (fun v σ' => v = some (vi (-900001)) ∧ σ' = σ) noX := by
  refine cth_start (by decide +kernel) hfl rfl (fun κ e1 e2 e3 C E HH => ?_)
  subst e1 e2 e3
  have C : Cx κ cL_layerGrade 4 RL "layerGrade" 6 := C
  obtain ⟨-, -, -, -, hc, hs⟩ := id E
  show J κ σ [(0, .ref (ad 0)), (1, vi (b)), (2, vi (q))] 0 [] 0 0
  have x1 := hX0.1.1
  refine j_aload_n 0 C dL_layerGrade_0 rfl rfl rfl ?_
  refine j_iload_n 1 C dL_layerGrade_1 rfl rfl rfl ?_
  refine j_iload_n 2 C dL_layerGrade_2 rfl rfl rfl ?_
  refine j_callV (st' := []) (As := [vi (b), vi (q)]) C dL_layerGrade_3 rfl m_L_76 x1 rfl rfl rfl (c_layerGradeB0 (kL κ) hfl (kD κ) (kc κ) σ tg ad bs ru se pf hd ca evs ln hX0 b hb9 hbad q) rfl (by omega) (by omega) (by omega) (fun E9 τ1 hx => ?_) (fun _ _ hx => hx.elim)
  obtain ⟨rfl, hp⟩ := hx
  refine j_catch [] (0, 6, 7, 25) [] C HH rfl (fun z hz => absurd hz List.not_mem_nil) ⟨by decide, by decide⟩ (by decide) hl_25 hc_25 (fun q9 => ?_)
  refine j_astore_n (lv' := [(0, .ref (ad 0)), (1, vi (b)), (2, vi (q)), (3, .ref q9)]) [1, 2, 3, 0] C dL_layerGrade_7 rfl rfl rfl rfl ?_
  refine j_ldc (z := (-900001)) C dL_layerGrade_8 rfl kc_L_17 ?_
  exact j_iret C E dL_layerGrade_10 (by omega) (by omega) ⟨rfl, hp⟩
set_option maxHeartbeats 1000000 in
set_option maxRecDepth 20000 in
theorem W_gradeFor (l : Launch) (hfl : l.stackTraces = false) (D : va_G) (cy : Nat → Nat) (σ : Wd) (tg ad : Nat → Nat) (bs : List Bn) (ru : Nat → Int × Int) (se : Int) (pf : Nat → Int) (hd : Hd) (ca : Int) (evs : List Evt) (ln : List Int) (hX0 : RX cy σ tg ad bs ru se pf hd ca evs ln) (y z : Int) (hy : (-2147483648 ≤ y ∧ y < 2147483648)) (hz : (-2147483648 ≤ z ∧ z < 2147483648)) (h : ((80 ≤ y ∧ y ≤ 300) ∧ (0 ≤ z ∧ z ≤ 100))) : CtH l yL_gradeFor cL_gradeFor 4 (some .int) [(0, 6, 7, 15)] 5 0 0 D cy [.ref (ad 0), vi (y), vi (z)] σ (fun v σ' => v = some (vi (gradeF ru se y z)) ∧ σ' = σ) noX := by
  refine cth_start (by decide +kernel) hfl rfl (fun κ e1 e2 e3 C E HH => ?_)
  subst e1 e2 e3
  have C : Cx κ cL_gradeFor 4 RL "gradeFor" 5 := C
  obtain ⟨-, -, -, -, hc, hs⟩ := id E
  show J κ σ [(0, .ref (ad 0)), (1, vi (y)), (2, vi (z))] 0 [] 0 0
  have x1 := hX0.1.1
  refine j_aload_n 0 C dL_gradeFor_0 rfl rfl rfl ?_
  refine j_iload_n 1 C dL_gradeFor_1 rfl rfl rfl ?_
  refine j_iload_n 2 C dL_gradeFor_2 rfl rfl rfl ?_
  refine j_callV (st' := []) (As := [vi (y), vi (z)]) C dL_gradeFor_3 rfl m_L_34 x1 rfl rfl rfl (c_gradeFor (kL κ) hfl (kD κ) (kc κ) σ tg ad bs ru se pf hd ca evs ln hX0 y z hy hz h) rfl (by omega) (by omega) (by omega) (fun _ _ hx => hx.elim) (fun v1 τ1 hp => ?_)
  obtain ⟨rfl, hp⟩ := hp
  exact j_iret C E dL_gradeFor_6 (by omega) (by omega) ⟨rfl, hp⟩
set_option maxHeartbeats 1000000 in
set_option maxRecDepth 20000 in
theorem W_gradeForB (l : Launch) (hfl : l.stackTraces = false) (D : va_G) (cy : Nat → Nat) (σ : Wd) (tg ad : Nat → Nat) (bs : List Bn) (ru : Nat → Int × Int) (se : Int) (pf : Nat → Int) (hd : Hd) (ca : Int) (evs : List Evt) (ln : List Int) (hX0 : RX cy σ tg ad bs ru se pf hd ca evs ln) (y z : Int) (hy : (-2147483648 ≤ y ∧ y < 2147483648)) (hz : (-2147483648 ≤ z ∧ z < 2147483648)) (h : ¬ ((80 ≤ y ∧ y ≤ 300) ∧ (0 ≤ z ∧ z ≤ 100))) : CtH l yL_gradeFor cL_gradeFor 4 (some .int) [(0, 6, 7, 15)] 5 1 6 D cy [.ref (ad 0), vi (y), vi (z)] σ (fun v σ' => v = some (vi (-900001)) ∧ σ' = σ) noX := by
  refine cth_start (by decide +kernel) hfl rfl (fun κ e1 e2 e3 C E HH => ?_)
  subst e1 e2 e3
  have C : Cx κ cL_gradeFor 4 RL "gradeFor" 5 := C
  obtain ⟨-, -, -, -, hc, hs⟩ := id E
  show J κ σ [(0, .ref (ad 0)), (1, vi (y)), (2, vi (z))] 0 [] 0 0
  have x1 := hX0.1.1
  refine j_aload_n 0 C dL_gradeFor_0 rfl rfl rfl ?_
  refine j_iload_n 1 C dL_gradeFor_1 rfl rfl rfl ?_
  refine j_iload_n 2 C dL_gradeFor_2 rfl rfl rfl ?_
  refine j_callV (st' := []) (As := [vi (y), vi (z)]) C dL_gradeFor_3 rfl m_L_34 x1 rfl rfl rfl (c_gradeForB (kL κ) hfl (kD κ) (kc κ) σ tg ad bs ru se pf hd ca evs ln hX0 y z hy hz h) rfl (by omega) (by omega) (by omega) (fun E9 τ1 hx => ?_) (fun _ _ hx => hx.elim)
  obtain ⟨rfl, hp⟩ := hx
  refine j_catch [] (0, 6, 7, 15) [] C HH rfl (fun z hz => absurd hz List.not_mem_nil) ⟨by decide, by decide⟩ (by decide) hl_15 hc_15 (fun q9 => ?_)
  refine j_astore_n (lv' := [(0, .ref (ad 0)), (1, vi (y)), (2, vi (z)), (3, .ref q9)]) [1, 2, 3, 0] C dL_gradeFor_7 rfl rfl rfl rfl ?_
  refine j_ldc (z := (-900001)) C dL_gradeFor_8 rfl kc_L_17 ?_
  exact j_iret C E dL_gradeFor_10 (by omega) (by omega) ⟨rfl, hp⟩
set_option maxHeartbeats 1000000 in
set_option maxRecDepth 20000 in
theorem W_dryingCost (l : Launch) (hfl : l.stackTraces = false) (D : va_G) (cy : Nat → Nat) (σ : Wd) (tg ad : Nat → Nat) (bs : List Bn) (ru : Nat → Int × Int) (se : Int) (pf : Nat → Int) (hd : Hd) (ca : Int) (evs : List Evt) (ln : List Int) (hX0 : RX cy σ tg ad bs ru se pf hd ca evs ln) (i : Nat) (hi : i < bs.length) (z : Int) (hz : (-2147483648 ≤ z ∧ z < 2147483648)) (h : 80 ≤ z ∧ z ≤ 300) : CtH l yL_dryingCost cL_dryingCost 4 (some .int) [(0, 6, 7, 25), (0, 6, 11, 15)] 6 0 0 D cy [.ref (ad 0), vi ((i : Int)), vi (z)] σ (fun v σ' => v = some (vi (sumL (dryC z) (gB bs i).2.2)) ∧ σ' = σ) noX := by
  refine cth_start (by decide +kernel) hfl rfl (fun κ e1 e2 e3 C E HH => ?_)
  subst e1 e2 e3
  have C : Cx κ cL_dryingCost 4 RL "dryingCost" 6 := C
  obtain ⟨-, -, -, -, hc, hs⟩ := id E
  show J κ σ [(0, .ref (ad 0)), (1, vi (i : Int)), (2, vi (z))] 0 [] 0 0
  have x1 := hX0.1.1
  refine j_aload_n 0 C dL_dryingCost_0 rfl rfl rfl ?_
  refine j_iload_n 1 C dL_dryingCost_1 rfl rfl rfl ?_
  refine j_iload_n 2 C dL_dryingCost_2 rfl rfl rfl ?_
  refine j_callV (st' := []) (As := [vi (i : Int), vi (z)]) C dL_dryingCost_3 rfl m_L_55 x1 rfl rfl rfl (c_dryingCost (kL κ) hfl (kD κ) (kc κ) σ tg ad bs ru se pf hd ca evs ln hX0 i hi z hz h) rfl (by omega) (by omega) (by omega) (fun _ _ hx => hx.elim) (fun v1 τ1 hp => ?_)
  obtain ⟨rfl, hp⟩ := hp
  exact j_iret C E dL_dryingCost_6 (by omega) (by omega) ⟨rfl, hp⟩
set_option maxHeartbeats 1000000 in
set_option maxRecDepth 20000 in
theorem W_dryingCostB (l : Launch) (hfl : l.stackTraces = false) (D : va_G) (cy : Nat → Nat) (σ : Wd) (tg ad : Nat → Nat) (bs : List Bn) (ru : Nat → Int × Int) (se : Int) (pf : Nat → Int) (hd : Hd) (ca : Int) (evs : List Evt) (ln : List Int) (hX0 : RX cy σ tg ad bs ru se pf hd ca evs ln) (i : Nat) (hi : i < bs.length) (z : Int) (hz : (-2147483648 ≤ z ∧ z < 2147483648)) (h : z < 80 ∨ 300 < z) : CtH l yL_dryingCost cL_dryingCost 4 (some .int) [(0, 6, 7, 25), (0, 6, 11, 15)] 6 1 6 D cy [.ref (ad 0), vi ((i : Int)), vi (z)] σ (fun v σ' => v = some (vi (-900002)) ∧ σ' = σ) noX := by
  refine cth_start (by decide +kernel) hfl rfl (fun κ e1 e2 e3 C E HH => ?_)
  subst e1 e2 e3
  have C : Cx κ cL_dryingCost 4 RL "dryingCost" 6 := C
  obtain ⟨-, -, -, -, hc, hs⟩ := id E
  show J κ σ [(0, .ref (ad 0)), (1, vi (i : Int)), (2, vi (z))] 0 [] 0 0
  have x1 := hX0.1.1
  refine j_aload_n 0 C dL_dryingCost_0 rfl rfl rfl ?_
  refine j_iload_n 1 C dL_dryingCost_1 rfl rfl rfl ?_
  refine j_iload_n 2 C dL_dryingCost_2 rfl rfl rfl ?_
  refine j_callV (st' := []) (As := [vi (i : Int), vi (z)]) C dL_dryingCost_3 rfl m_L_55 x1 rfl rfl rfl (c_dryingCostB (kL κ) hfl (kD κ) (kc κ) σ tg ad bs ru se pf hd ca evs ln hX0 i hi z hz h) rfl (by omega) (by omega) (by omega) (fun E9 τ1 hx => ?_) (fun _ _ hx => hx.elim)
  obtain ⟨rfl, hp⟩ := hx
  refine j_catch [(0, 6, 7, 25)] (0, 6, 11, 15) [] C HH rfl (List.forall_mem_cons.mpr ⟨⟨by decide, "java/lang/IndexOutOfBoundsException", hl_25, by decide⟩, fun z hz => absurd hz List.not_mem_nil⟩) ⟨by decide, by decide⟩ (by decide) hl_15 hc_15 (fun q9 => ?_)
  refine j_astore_n (lv' := [(0, .ref (ad 0)), (1, vi (i : Int)), (2, vi (z)), (3, .ref q9)]) [1, 2, 3, 0] C dL_dryingCost_11 rfl rfl rfl rfl ?_
  refine j_ldc (z := (-900002)) C dL_dryingCost_12 rfl kc_L_20 ?_
  exact j_iret C E dL_dryingCost_14 (by omega) (by omega) ⟨rfl, hp⟩
set_option maxHeartbeats 1000000 in
set_option maxRecDepth 20000 in
theorem W_dryingCostB0 (l : Launch) (hfl : l.stackTraces = false) (D : va_G) (cy : Nat → Nat) (σ : Wd) (tg ad : Nat → Nat) (bs : List Bn) (ru : Nat → Int × Int) (se : Int) (pf : Nat → Int) (hd : Hd) (ca : Int) (evs : List Evt) (ln : List Int) (hX0 : RX cy σ tg ad bs ru se pf hd ca evs ln) (b : Int) (hb9 : (-2147483648 ≤ b ∧ b < 2147483648)) (hbad : b < 0 ∨ (bs.length : Int) ≤ b) (z : Int) (hz : (-2147483648 ≤ z ∧ z < 2147483648)) : CtH l yL_dryingCost cL_dryingCost 4 (some .int) [(0, 6, 7, 25), (0, 6, 11, 15)] 6 1 6 D cy [.ref (ad 0), vi (b), vi (z)] σ (fun v σ' => v = some (vi (-900001)) ∧ σ' = σ) noX := by
  refine cth_start (by decide +kernel) hfl rfl (fun κ e1 e2 e3 C E HH => ?_)
  subst e1 e2 e3
  have C : Cx κ cL_dryingCost 4 RL "dryingCost" 6 := C
  obtain ⟨-, -, -, -, hc, hs⟩ := id E
  show J κ σ [(0, .ref (ad 0)), (1, vi (b)), (2, vi (z))] 0 [] 0 0
  have x1 := hX0.1.1
  refine j_aload_n 0 C dL_dryingCost_0 rfl rfl rfl ?_
  refine j_iload_n 1 C dL_dryingCost_1 rfl rfl rfl ?_
  refine j_iload_n 2 C dL_dryingCost_2 rfl rfl rfl ?_
  refine j_callV (st' := []) (As := [vi (b), vi (z)]) C dL_dryingCost_3 rfl m_L_55 x1 rfl rfl rfl (c_dryingCostB0 (kL κ) hfl (kD κ) (kc κ) σ tg ad bs ru se pf hd ca evs ln hX0 b hb9 hbad z hz) rfl (by omega) (by omega) (by omega) (fun E9 τ1 hx => ?_) (fun _ _ hx => hx.elim)
  obtain ⟨rfl, hp⟩ := hx
  refine j_catch [] (0, 6, 7, 25) [(0, 6, 11, 15)] C HH rfl (fun z hz => absurd hz List.not_mem_nil) ⟨by decide, by decide⟩ (by decide) hl_25 hc_25 (fun q9 => ?_)
  refine j_astore_n (lv' := [(0, .ref (ad 0)), (1, vi (b)), (2, vi (z)), (3, .ref q9)]) [1, 2, 3, 0] C dL_dryingCost_7 rfl rfl rfl rfl ?_
  refine j_ldc (z := (-900001)) C dL_dryingCost_8 rfl kc_L_17 ?_
  exact j_iret C E dL_dryingCost_10 (by omega) (by omega) ⟨rfl, hp⟩
set_option maxHeartbeats 1000000 in
set_option maxRecDepth 20000 in
theorem W_lineAt (l : Launch) (hfl : l.stackTraces = false) (D : va_G) (cy : Nat → Nat) (σ : Wd) (tg ad : Nat → Nat) (bs : List Bn) (ru : Nat → Int × Int) (se : Int) (pf : Nat → Int) (hd : Hd) (ca : Int) (evs : List Evt) (ln : List Int) (hX0 : RX cy σ tg ad bs ru se pf hd ca evs ln) (z : Int) (hz : (-2147483648 ≤ z ∧ z < 2147483648)) (h : 0 ≤ z ∧ z < (ln.length : Int)) : CtH l yL_lineAt cL_lineAt 3 (some .int) [(0, 5, 6, 25)] 6 0 0 D cy [.ref (ad 0), vi (z)] σ (fun v σ' => v = some (vi (ln.getD z.toNat 0)) ∧ σ' = σ) noX := by
  refine cth_start (by decide +kernel) hfl rfl (fun κ e1 e2 e3 C E HH => ?_)
  subst e1 e2 e3
  have C : Cx κ cL_lineAt 3 RL "lineAt" 6 := C
  obtain ⟨-, -, -, -, hc, hs⟩ := id E
  show J κ σ [(0, .ref (ad 0)), (1, vi (z))] 0 [] 0 0
  have x1 := hX0.1.1
  refine j_aload_n 0 C dL_lineAt_0 rfl rfl rfl ?_
  refine j_iload_n 1 C dL_lineAt_1 rfl rfl rfl ?_
  refine j_callV (st' := []) (As := [vi (z)]) C dL_lineAt_2 rfl m_L_91 x1 rfl rfl rfl (c_lineAt (kL κ) hfl (kD κ) (kc κ) σ tg ad bs ru se pf hd ca evs ln hX0 z hz h) rfl (by omega) (by omega) (by omega) (fun _ _ hx => hx.elim) (fun v1 τ1 hp => ?_)
  obtain ⟨rfl, hp⟩ := hp
  exact j_iret C E dL_lineAt_5 (by omega) (by omega) ⟨rfl, hp⟩
set_option maxHeartbeats 1000000 in
set_option maxRecDepth 20000 in
theorem W_lineAtB (l : Launch) (hfl : l.stackTraces = false) (D : va_G) (cy : Nat → Nat) (σ : Wd) (tg ad : Nat → Nat) (bs : List Bn) (ru : Nat → Int × Int) (se : Int) (pf : Nat → Int) (hd : Hd) (ca : Int) (evs : List Evt) (ln : List Int) (hX0 : RX cy σ tg ad bs ru se pf hd ca evs ln) (z : Int) (hz : (-2147483648 ≤ z ∧ z < 2147483648)) (h : z < 0 ∨ (ln.length : Int) ≤ z) : CtH l yL_lineAt cL_lineAt 3 (some .int) [(0, 5, 6, 25)] 6 1 6 D cy [.ref (ad 0), vi (z)] σ (fun v σ' => v = some (vi (-900001)) ∧ σ' = σ) noX := by
  refine cth_start (by decide +kernel) hfl rfl (fun κ e1 e2 e3 C E HH => ?_)
  subst e1 e2 e3
  have C : Cx κ cL_lineAt 3 RL "lineAt" 6 := C
  obtain ⟨-, -, -, -, hc, hs⟩ := id E
  show J κ σ [(0, .ref (ad 0)), (1, vi (z))] 0 [] 0 0
  have x1 := hX0.1.1
  refine j_aload_n 0 C dL_lineAt_0 rfl rfl rfl ?_
  refine j_iload_n 1 C dL_lineAt_1 rfl rfl rfl ?_
  refine j_callV (st' := []) (As := [vi (z)]) C dL_lineAt_2 rfl m_L_91 x1 rfl rfl rfl (c_lineAtB (kL κ) hfl (kD κ) (kc κ) σ tg ad bs ru se pf hd ca evs ln hX0 z hz h) rfl (by omega) (by omega) (by omega) (fun E9 τ1 hx => ?_) (fun _ _ hx => hx.elim)
  obtain ⟨rfl, hp⟩ := hx
  refine j_catch [] (0, 5, 6, 25) [] C HH rfl (fun z hz => absurd hz List.not_mem_nil) ⟨by decide, by decide⟩ (by decide) hl_25 hc_25 (fun q9 => ?_)
  refine j_astore_n (lv' := [(0, .ref (ad 0)), (1, vi (z)), (2, .ref q9)]) [1, 2, 0] C dL_lineAt_6 rfl rfl rfl rfl ?_
  refine j_ldc (z := (-900001)) C dL_lineAt_7 rfl kc_L_17 ?_
  exact j_iret C E dL_lineAt_9 (by omega) (by omega) ⟨rfl, hp⟩
set_option maxHeartbeats 1000000 in
set_option maxRecDepth 20000 in
theorem W_setRule (l : Launch) (hfl : l.stackTraces = false) (D : va_G) (cy : Nat → Nat) (σ : Wd) (tg ad : Nat → Nat) (bs : List Bn) (ru : Nat → Int × Int) (se : Int) (pf : Nat → Int) (hd : Hd) (ca : Int) (evs : List Evt) (ln : List Int) (hX0 : RX cy σ tg ad bs ru se pf hd ca evs ln) (s g y z : Int) (hs9 : (-2147483648 ≤ s ∧ s < 2147483648)) (hg9 : (-2147483648 ≤ g ∧ g < 2147483648)) (hy : (-2147483648 ≤ y ∧ y < 2147483648)) (hz : (-2147483648 ≤ z ∧ z < 2147483648)) (hq1 : 0 ≤ s ∧ s ≤ 3) (hg : 1 ≤ g ∧ g ≤ 3) (h : ((80 ≤ y ∧ y ≤ 300) ∧ (0 ≤ z ∧ z ≤ 100))) : CtH l yL_setRule cL_setRule 6 (some .int) [(0, 9, 10, 15)] 5 0 0 D cy [.ref (ad 0), vi (s), vi (g), vi (y), vi (z)] σ (fun v σ' => v = some (vi (rAt ru s g).1) ∧ RX cy σ' tg ad bs (ruU ru (s * 3 + g - 1).toNat y z) se pf hd ca evs ln ∧ Keep σ σ' (fun y => tg y < 1000) ∧ σ'.1 = σ.1) noX := by
  refine cth_start (by decide +kernel) hfl rfl (fun κ e1 e2 e3 C E HH => ?_)
  subst e1 e2 e3
  have C : Cx κ cL_setRule 6 RL "setRule" 5 := C
  obtain ⟨-, -, -, -, hc, hs⟩ := id E
  show J κ σ [(0, .ref (ad 0)), (1, vi (s)), (2, vi (g)), (3, vi (y)), (4, vi (z))] 0 [] 0 0
  have x1 := hX0.1.1
  refine j_aload_n 0 C dL_setRule_0 rfl rfl rfl ?_
  refine j_iload_n 1 C dL_setRule_1 rfl rfl rfl ?_
  refine j_iload_n 2 C dL_setRule_2 rfl rfl rfl ?_
  refine j_iload_n 3 C dL_setRule_3 rfl rfl rfl ?_
  refine j_iload 4 C dL_setRule_4 rfl rfl ?_
  refine j_callV (st' := []) (As := [vi (s), vi (g), vi (y), vi (z)]) C dL_setRule_6 rfl m_L_27 x1 rfl rfl rfl (c_setRule (kL κ) hfl (kD κ) (kc κ) σ tg ad bs ru se pf hd ca evs ln hX0 s g y z hs9 hg9 hy hz hq1 hg h) rfl (by omega) (by omega) (by omega) (fun _ _ hx => hx.elim) (fun v1 τ1 hp => ?_)
  obtain ⟨rfl, hp⟩ := hp
  exact j_iret C E dL_setRule_9 (by omega) (by omega) ⟨rfl, hp⟩
set_option maxHeartbeats 1000000 in
set_option maxRecDepth 20000 in
theorem W_setRuleB (l : Launch) (hfl : l.stackTraces = false) (D : va_G) (cy : Nat → Nat) (σ : Wd) (tg ad : Nat → Nat) (bs : List Bn) (ru : Nat → Int × Int) (se : Int) (pf : Nat → Int) (hd : Hd) (ca : Int) (evs : List Evt) (ln : List Int) (hX0 : RX cy σ tg ad bs ru se pf hd ca evs ln) (s g y z : Int) (hs9 : (-2147483648 ≤ s ∧ s < 2147483648)) (hg9 : (-2147483648 ≤ g ∧ g < 2147483648)) (hy : (-2147483648 ≤ y ∧ y < 2147483648)) (hz : (-2147483648 ≤ z ∧ z < 2147483648)) (h : ¬ ((0 ≤ s ∧ s ≤ 3) ∧ (1 ≤ g ∧ g ≤ 3) ∧ ((80 ≤ y ∧ y ≤ 300) ∧ (0 ≤ z ∧ z ≤ 100)))) : CtH l yL_setRule cL_setRule 6 (some .int) [(0, 9, 10, 15)] 5 1 6 D cy [.ref (ad 0), vi (s), vi (g), vi (y), vi (z)] σ (fun v σ' => v = some (vi (-900001)) ∧ σ' = σ) noX := by
  refine cth_start (by decide +kernel) hfl rfl (fun κ e1 e2 e3 C E HH => ?_)
  subst e1 e2 e3
  have C : Cx κ cL_setRule 6 RL "setRule" 5 := C
  obtain ⟨-, -, -, -, hc, hs⟩ := id E
  show J κ σ [(0, .ref (ad 0)), (1, vi (s)), (2, vi (g)), (3, vi (y)), (4, vi (z))] 0 [] 0 0
  have x1 := hX0.1.1
  refine j_aload_n 0 C dL_setRule_0 rfl rfl rfl ?_
  refine j_iload_n 1 C dL_setRule_1 rfl rfl rfl ?_
  refine j_iload_n 2 C dL_setRule_2 rfl rfl rfl ?_
  refine j_iload_n 3 C dL_setRule_3 rfl rfl rfl ?_
  refine j_iload 4 C dL_setRule_4 rfl rfl ?_
  refine j_callV (st' := []) (As := [vi (s), vi (g), vi (y), vi (z)]) C dL_setRule_6 rfl m_L_27 x1 rfl rfl rfl (c_setRuleB (kL κ) hfl (kD κ) (kc κ) σ tg ad bs ru se pf hd ca evs ln hX0 s g y z hs9 hg9 hy hz h) rfl (by omega) (by omega) (by omega) (fun E9 τ1 hx => ?_) (fun _ _ hx => hx.elim)
  obtain ⟨rfl, hp⟩ := hx
  refine j_catch [] (0, 9, 10, 15) [] C HH rfl (fun z hz => absurd hz List.not_mem_nil) ⟨by decide, by decide⟩ (by decide) hl_15 hc_15 (fun q9 => ?_)
  refine j_astore (lv' := [(0, .ref (ad 0)), (1, vi (s)), (2, vi (g)), (3, vi (y)), (4, vi (z)), (5, .ref q9)]) [1, 2, 3, 4, 5, 0] C dL_setRule_10 rfl rfl rfl ?_
  refine j_ldc (z := (-900001)) C dL_setRule_12 rfl kc_L_17 ?_
  exact j_iret C E dL_setRule_14 (by omega) (by omega) ⟨rfl, hp⟩
set_option maxHeartbeats 1000000 in
set_option maxRecDepth 20000 in
theorem W_setSeason (l : Launch) (hfl : l.stackTraces = false) (D : va_G) (cy : Nat → Nat) (σ : Wd) (tg ad : Nat → Nat) (bs : List Bn) (ru : Nat → Int × Int) (se : Int) (pf : Nat → Int) (hd : Hd) (ca : Int) (evs : List Evt) (ln : List Int) (hX0 : RX cy σ tg ad bs ru se pf hd ca evs ln) (z : Int) (hz : (-2147483648 ≤ z ∧ z < 2147483648)) (h : 0 ≤ z ∧ z ≤ 3) : CtH l yL_setSeason cL_setSeason 3 (some .int) [(0, 5, 6, 15)] 5 0 0 D cy [.ref (ad 0), vi (z)] σ (fun v σ' => v = some (vi se) ∧ RX cy σ' tg ad bs ru z pf hd ca evs ln ∧ Keep σ σ' (fun y => tg y < 1000) ∧ σ'.1 = σ.1) noX := by
  refine cth_start (by decide +kernel) hfl rfl (fun κ e1 e2 e3 C E HH => ?_)
  subst e1 e2 e3
  have C : Cx κ cL_setSeason 3 RL "setSeason" 5 := C
  obtain ⟨-, -, -, -, hc, hs⟩ := id E
  show J κ σ [(0, .ref (ad 0)), (1, vi (z))] 0 [] 0 0
  have x1 := hX0.1.1
  refine j_aload_n 0 C dL_setSeason_0 rfl rfl rfl ?_
  refine j_iload_n 1 C dL_setSeason_1 rfl rfl rfl ?_
  refine j_callV (st' := []) (As := [vi (z)]) C dL_setSeason_2 rfl m_L_31 x1 rfl rfl rfl (c_setSeason (kL κ) hfl (kD κ) (kc κ) σ tg ad bs ru se pf hd ca evs ln hX0 z hz h) rfl (by omega) (by omega) (by omega) (fun _ _ hx => hx.elim) (fun v1 τ1 hp => ?_)
  obtain ⟨rfl, hp⟩ := hp
  exact j_iret C E dL_setSeason_5 (by omega) (by omega) ⟨rfl, hp⟩
set_option maxHeartbeats 1000000 in
set_option maxRecDepth 20000 in
theorem W_setSeasonB (l : Launch) (hfl : l.stackTraces = false) (D : va_G) (cy : Nat → Nat) (σ : Wd) (tg ad : Nat → Nat) (bs : List Bn) (ru : Nat → Int × Int) (se : Int) (pf : Nat → Int) (hd : Hd) (ca : Int) (evs : List Evt) (ln : List Int) (hX0 : RX cy σ tg ad bs ru se pf hd ca evs ln) (z : Int) (hz : (-2147483648 ≤ z ∧ z < 2147483648)) (h : z < 0 ∨ 3 < z) : CtH l yL_setSeason cL_setSeason 3 (some .int) [(0, 5, 6, 15)] 5 1 6 D cy [.ref (ad 0), vi (z)] σ (fun v σ' => v = some (vi (-900001)) ∧ σ' = σ) noX := by
  refine cth_start (by decide +kernel) hfl rfl (fun κ e1 e2 e3 C E HH => ?_)
  subst e1 e2 e3
  have C : Cx κ cL_setSeason 3 RL "setSeason" 5 := C
  obtain ⟨-, -, -, -, hc, hs⟩ := id E
  show J κ σ [(0, .ref (ad 0)), (1, vi (z))] 0 [] 0 0
  have x1 := hX0.1.1
  refine j_aload_n 0 C dL_setSeason_0 rfl rfl rfl ?_
  refine j_iload_n 1 C dL_setSeason_1 rfl rfl rfl ?_
  refine j_callV (st' := []) (As := [vi (z)]) C dL_setSeason_2 rfl m_L_31 x1 rfl rfl rfl (c_setSeasonB (kL κ) hfl (kD κ) (kc κ) σ tg ad bs ru se pf hd ca evs ln hX0 z hz h) rfl (by omega) (by omega) (by omega) (fun E9 τ1 hx => ?_) (fun _ _ hx => hx.elim)
  obtain ⟨rfl, hp⟩ := hx
  refine j_catch [] (0, 5, 6, 15) [] C HH rfl (fun z hz => absurd hz List.not_mem_nil) ⟨by decide, by decide⟩ (by decide) hl_15 hc_15 (fun q9 => ?_)
  refine j_astore_n (lv' := [(0, .ref (ad 0)), (1, vi (z)), (2, .ref q9)]) [1, 2, 0] C dL_setSeason_6 rfl rfl rfl rfl ?_
  refine j_ldc (z := (-900001)) C dL_setSeason_7 rfl kc_L_17 ?_
  exact j_iret C E dL_setSeason_9 (by omega) (by omega) ⟨rfl, hp⟩
set_option maxHeartbeats 1000000 in
set_option maxRecDepth 20000 in
theorem W_setPrice (l : Launch) (hfl : l.stackTraces = false) (D : va_G) (cy : Nat → Nat) (σ : Wd) (tg ad : Nat → Nat) (bs : List Bn) (ru : Nat → Int × Int) (se : Int) (pf : Nat → Int) (hd : Hd) (ca : Int) (evs : List Evt) (ln : List Int) (hX0 : RX cy σ tg ad bs ru se pf hd ca evs ln) (z y : Int) (hz : (-2147483648 ≤ z ∧ z < 2147483648)) (hy : (-2147483648 ≤ y ∧ y < 2147483648)) (h : 1 ≤ z ∧ z ≤ 4) (h2 : 0 ≤ y ∧ y ≤ 2000) : CtH l yL_setPrice cL_setPrice 4 (some .int) [(0, 6, 7, 15)] 5 0 0 D cy [.ref (ad 0), vi (z), vi (y)] σ (fun v σ' => v = some (vi (pf z.toNat)) ∧ RX cy σ' tg ad bs ru se (ups pf z.toNat y) hd ca evs ln ∧ Keep σ σ' (fun y => tg y < 1000) ∧ σ'.1 = σ.1) noX := by
  refine cth_start (by decide +kernel) hfl rfl (fun κ e1 e2 e3 C E HH => ?_)
  subst e1 e2 e3
  have C : Cx κ cL_setPrice 4 RL "setPrice" 5 := C
  obtain ⟨-, -, -, -, hc, hs⟩ := id E
  show J κ σ [(0, .ref (ad 0)), (1, vi (z)), (2, vi (y))] 0 [] 0 0
  have x1 := hX0.1.1
  refine j_aload_n 0 C dL_setPrice_0 rfl rfl rfl ?_
  refine j_iload_n 1 C dL_setPrice_1 rfl rfl rfl ?_
  refine j_iload_n 2 C dL_setPrice_2 rfl rfl rfl ?_
  refine j_callV (st' := []) (As := [vi (z), vi (y)]) C dL_setPrice_3 rfl m_L_38 x1 rfl rfl rfl (c_setPrice (kL κ) hfl (kD κ) (kc κ) σ tg ad bs ru se pf hd ca evs ln hX0 z y hz hy h h2) rfl (by omega) (by omega) (by omega) (fun _ _ hx => hx.elim) (fun v1 τ1 hp => ?_)
  obtain ⟨rfl, hp⟩ := hp
  exact j_iret C E dL_setPrice_6 (by omega) (by omega) ⟨rfl, hp⟩
set_option maxHeartbeats 1000000 in
set_option maxRecDepth 20000 in
theorem W_setPriceB (l : Launch) (hfl : l.stackTraces = false) (D : va_G) (cy : Nat → Nat) (σ : Wd) (tg ad : Nat → Nat) (bs : List Bn) (ru : Nat → Int × Int) (se : Int) (pf : Nat → Int) (hd : Hd) (ca : Int) (evs : List Evt) (ln : List Int) (hX0 : RX cy σ tg ad bs ru se pf hd ca evs ln) (z y : Int) (hz : (-2147483648 ≤ z ∧ z < 2147483648)) (hy : (-2147483648 ≤ y ∧ y < 2147483648)) (h : ¬ ((1 ≤ z ∧ z ≤ 4) ∧ (0 ≤ y ∧ y ≤ 2000))) : CtH l yL_setPrice cL_setPrice 4 (some .int) [(0, 6, 7, 15)] 5 1 6 D cy [.ref (ad 0), vi (z), vi (y)] σ (fun v σ' => v = some (vi (-900001)) ∧ σ' = σ) noX := by
  refine cth_start (by decide +kernel) hfl rfl (fun κ e1 e2 e3 C E HH => ?_)
  subst e1 e2 e3
  have C : Cx κ cL_setPrice 4 RL "setPrice" 5 := C
  obtain ⟨-, -, -, -, hc, hs⟩ := id E
  show J κ σ [(0, .ref (ad 0)), (1, vi (z)), (2, vi (y))] 0 [] 0 0
  have x1 := hX0.1.1
  refine j_aload_n 0 C dL_setPrice_0 rfl rfl rfl ?_
  refine j_iload_n 1 C dL_setPrice_1 rfl rfl rfl ?_
  refine j_iload_n 2 C dL_setPrice_2 rfl rfl rfl ?_
  refine j_callV (st' := []) (As := [vi (z), vi (y)]) C dL_setPrice_3 rfl m_L_38 x1 rfl rfl rfl (c_setPriceB (kL κ) hfl (kD κ) (kc κ) σ tg ad bs ru se pf hd ca evs ln hX0 z y hz hy h) rfl (by omega) (by omega) (by omega) (fun E9 τ1 hx => ?_) (fun _ _ hx => hx.elim)
  obtain ⟨rfl, hp⟩ := hx
  refine j_catch [] (0, 6, 7, 15) [] C HH rfl (fun z hz => absurd hz List.not_mem_nil) ⟨by decide, by decide⟩ (by decide) hl_15 hc_15 (fun q9 => ?_)
  refine j_astore_n (lv' := [(0, .ref (ad 0)), (1, vi (z)), (2, vi (y)), (3, .ref q9)]) [1, 2, 3, 0] C dL_setPrice_7 rfl rfl rfl rfl ?_
  refine j_ldc (z := (-900001)) C dL_setPrice_8 rfl kc_L_17 ?_
  exact j_iret C E dL_setPrice_10 (by omega) (by omega) ⟨rfl, hp⟩
set_option maxHeartbeats 1000000 in
set_option maxRecDepth 20000 in
theorem W_setFutures (l : Launch) (hfl : l.stackTraces = false) (D : va_G) (cy : Nat → Nat) (σ : Wd) (tg ad : Nat → Nat) (bs : List Bn) (ru : Nat → Int × Int) (se : Int) (pf : Nat → Int) (hd : Hd) (ca : Int) (evs : List Evt) (ln : List Int) (hX0 : RX cy σ tg ad bs ru se pf hd ca evs ln) (z : Int) (hz : (-2147483648 ≤ z ∧ z < 2147483648)) (h : 0 ≤ z ∧ z ≤ 2000) : CtH l yL_setFutures cL_setFutures 3 (some .int) [(0, 5, 6, 15)] 5 0 0 D cy [.ref (ad 0), vi (z)] σ (fun v σ' => v = some (vi hd.2.2.2.1) ∧ RX cy σ' tg ad bs ru se pf (hdP hd z) ca evs ln ∧ Keep σ σ' (fun y => tg y < 1000) ∧ σ'.1 = σ.1) noX := by
  refine cth_start (by decide +kernel) hfl rfl (fun κ e1 e2 e3 C E HH => ?_)
  subst e1 e2 e3
  have C : Cx κ cL_setFutures 3 RL "setFutures" 5 := C
  obtain ⟨-, -, -, -, hc, hs⟩ := id E
  show J κ σ [(0, .ref (ad 0)), (1, vi (z))] 0 [] 0 0
  have x1 := hX0.1.1
  refine j_aload_n 0 C dL_setFutures_0 rfl rfl rfl ?_
  refine j_iload_n 1 C dL_setFutures_1 rfl rfl rfl ?_
  refine j_callV (st' := []) (As := [vi (z)]) C dL_setFutures_2 rfl m_L_85 x1 rfl rfl rfl (c_setFutures (kL κ) hfl (kD κ) (kc κ) σ tg ad bs ru se pf hd ca evs ln hX0 z hz h) rfl (by omega) (by omega) (by omega) (fun _ _ hx => hx.elim) (fun v1 τ1 hp => ?_)
  obtain ⟨rfl, hp⟩ := hp
  exact j_iret C E dL_setFutures_5 (by omega) (by omega) ⟨rfl, hp⟩
set_option maxHeartbeats 1000000 in
set_option maxRecDepth 20000 in
theorem W_setFuturesB (l : Launch) (hfl : l.stackTraces = false) (D : va_G) (cy : Nat → Nat) (σ : Wd) (tg ad : Nat → Nat) (bs : List Bn) (ru : Nat → Int × Int) (se : Int) (pf : Nat → Int) (hd : Hd) (ca : Int) (evs : List Evt) (ln : List Int) (hX0 : RX cy σ tg ad bs ru se pf hd ca evs ln) (z : Int) (hz : (-2147483648 ≤ z ∧ z < 2147483648)) (h : z < 0 ∨ 2000 < z) : CtH l yL_setFutures cL_setFutures 3 (some .int) [(0, 5, 6, 15)] 5 1 6 D cy [.ref (ad 0), vi (z)] σ (fun v σ' => v = some (vi (-900001)) ∧ σ' = σ) noX := by
  refine cth_start (by decide +kernel) hfl rfl (fun κ e1 e2 e3 C E HH => ?_)
  subst e1 e2 e3
  have C : Cx κ cL_setFutures 3 RL "setFutures" 5 := C
  obtain ⟨-, -, -, -, hc, hs⟩ := id E
  show J κ σ [(0, .ref (ad 0)), (1, vi (z))] 0 [] 0 0
  have x1 := hX0.1.1
  refine j_aload_n 0 C dL_setFutures_0 rfl rfl rfl ?_
  refine j_iload_n 1 C dL_setFutures_1 rfl rfl rfl ?_
  refine j_callV (st' := []) (As := [vi (z)]) C dL_setFutures_2 rfl m_L_85 x1 rfl rfl rfl (c_setFuturesB (kL κ) hfl (kD κ) (kc κ) σ tg ad bs ru se pf hd ca evs ln hX0 z hz h) rfl (by omega) (by omega) (by omega) (fun E9 τ1 hx => ?_) (fun _ _ hx => hx.elim)
  obtain ⟨rfl, hp⟩ := hx
  refine j_catch [] (0, 5, 6, 15) [] C HH rfl (fun z hz => absurd hz List.not_mem_nil) ⟨by decide, by decide⟩ (by decide) hl_15 hc_15 (fun q9 => ?_)
  refine j_astore_n (lv' := [(0, .ref (ad 0)), (1, vi (z)), (2, .ref q9)]) [1, 2, 0] C dL_setFutures_6 rfl rfl rfl rfl ?_
  refine j_ldc (z := (-900001)) C dL_setFutures_7 rfl kc_L_17 ?_
  exact j_iret C E dL_setFutures_9 (by omega) (by omega) ⟨rfl, hp⟩
set_option maxHeartbeats 1000000 in
set_option maxRecDepth 20000 in
theorem W_load (l : Launch) (hfl : l.stackTraces = false) (D : va_G) (cy : Nat → Nat) (σ : Wd) (tg ad : Nat → Nat) (bs : List Bn) (ru : Nat → Int × Int) (se : Int) (pf : Nat → Int) (hd : Hd) (ca : Int) (evs : List Evt) (ln : List Int) (hX0 : RX cy σ tg ad bs ru se pf hd ca evs ln) (i : Nat) (hi : i < bs.length) (n x f : Int) (hn9 : (-2147483648 ≤ n ∧ n < 2147483648)) (hx8 : (-2147483648 ≤ x ∧ x < 2147483648)) (hf8 : (-2147483648 ≤ f ∧ f < 2147483648)) (hn : 1 ≤ n ∧ n ≤ 2000) (hx9 : 80 ≤ x ∧ x ≤ 300) (hf9 : 0 ≤ f ∧ f ≤ 100) (hr : n ≤ (gB bs i).1 - tot (gB bs i).2.2) (hl : evs.length < 80) : CtH l yL_load cL_load 6 (some .int) [(0, 9, 10, 25), (0, 9, 15, 15), (0, 9, 20, 18)] 8 2 257 D cy [.ref (ad 0), vi ((i : Int)), vi (n), vi (x), vi (f)] σ (fun v σ' => v = some (vi (gradeF ru se x f)) ∧ ∃ tg' ad' : Nat → Nat, RX cy σ' tg' ad' (apB (gradeF ru se) bs (108, (i : Int), (i : Int), n, 0, x, f)) ru se pf (hdF hd (totB (apB (gradeF ru se) bs (108, (i : Int), (i : Int), n, 0, x, f)))) (ca + -n * pf (gradeF ru se x f).toNat) (evs ++ [(108, (i : Int), (i : Int), n, 0, x, f)]) ln ∧ (∀ y, y ∈ σ.1 → tg' y = tg y) ∧ ad' 0 = ad 0 ∧ Keep σ σ' (fun y => tg y < 1000) ∧ ∀ y, y ∈ σ.1 → y ∈ σ'.1) noX := by
  refine cth_start (by decide +kernel) hfl rfl (fun κ e1 e2 e3 C E HH => ?_)
  subst e1 e2 e3
  have C : Cx κ cL_load 6 RL "load" 8 := C
  obtain ⟨-, -, -, -, hc, hs⟩ := id E
  show J κ σ [(0, .ref (ad 0)), (1, vi (i : Int)), (2, vi (n)), (3, vi (x)), (4, vi (f))] 0 [] 0 0
  have x1 := hX0.1.1
  refine j_aload_n 0 C dL_load_0 rfl rfl rfl ?_
  refine j_iload_n 1 C dL_load_1 rfl rfl rfl ?_
  refine j_iload_n 2 C dL_load_2 rfl rfl rfl ?_
  refine j_iload_n 3 C dL_load_3 rfl rfl rfl ?_
  refine j_iload 4 C dL_load_4 rfl rfl ?_
  refine j_callV (st' := []) (As := [vi (i : Int), vi (n), vi (x), vi (f)]) C dL_load_6 rfl m_L_41 x1 rfl rfl rfl (c_load (kL κ) hfl (kD κ) (kc κ) σ tg ad bs ru se pf hd ca evs ln hX0 i hi n x f hn9 hx8 hf8 hn hx9 hf9 hr hl) rfl (by omega) (by omega) (by omega) (fun _ _ hx => hx.elim) (fun v1 τ1 hp => ?_)
  obtain ⟨rfl, hp⟩ := hp
  exact j_iret C E dL_load_9 (by omega) (by omega) ⟨rfl, hp⟩
set_option maxHeartbeats 1000000 in
set_option maxRecDepth 20000 in
theorem W_sell (l : Launch) (hfl : l.stackTraces = false) (D : va_G) (cy : Nat → Nat) (σ : Wd) (tg ad : Nat → Nat) (bs : List Bn) (ru : Nat → Int × Int) (se : Int) (pf : Nat → Int) (hd : Hd) (ca : Int) (evs : List Evt) (ln : List Int) (hX0 : RX cy σ tg ad bs ru se pf hd ca evs ln) (i : Nat) (hi : i < bs.length) (n : Int) (hn9 : (-2147483648 ≤ n ∧ n < 2147483648)) (hn : 1 ≤ n ∧ n ≤ 5000) (hr : n ≤ tot (gB bs i).2.2) (hl : evs.length < 80) : CtH l yL_sell cL_sell 4 (some .int) [(0, 6, 7, 25), (0, 6, 11, 15), (0, 6, 15, 18)] 8 3 264 D cy [.ref (ad 0), vi ((i : Int)), vi (n)] σ (fun v σ' => v = some (vi (sumL (cf pf) (takeL n (fl (gB bs i))))) ∧ ∃ tg' ad' : Nat → Nat, RX cy σ' tg' ad' (apB (gradeF ru se) bs (115, (i : Int), (i : Int), n, 0, 0, 0)) ru se pf (hdF hd (totB (apB (gradeF ru se) bs (115, (i : Int), (i : Int), n, 0, 0, 0)))) (ca + sumL (cf pf) (takeL n (fl (gB bs i)))) (evs ++ [(115, (i : Int), (i : Int), n, 0, 0, 0)]) ln ∧ (∀ y, y ∈ σ.1 → tg' y = tg y) ∧ ad' 0 = ad 0 ∧ Keep σ σ' (fun y => tg y < 1000) ∧ ∀ y, y ∈ σ.1 → y ∈ σ'.1) noX := by
  refine cth_start (by decide +kernel) hfl rfl (fun κ e1 e2 e3 C E HH => ?_)
  subst e1 e2 e3
  have C : Cx κ cL_sell 4 RL "sell" 8 := C
  obtain ⟨-, -, -, -, hc, hs⟩ := id E
  show J κ σ [(0, .ref (ad 0)), (1, vi (i : Int)), (2, vi (n))] 0 [] 0 0
  have x1 := hX0.1.1
  refine j_aload_n 0 C dL_sell_0 rfl rfl rfl ?_
  refine j_iload_n 1 C dL_sell_1 rfl rfl rfl ?_
  refine j_iload_n 2 C dL_sell_2 rfl rfl rfl ?_
  refine j_callV (st' := []) (As := [vi (i : Int), vi (n)]) C dL_sell_3 rfl m_L_45 x1 rfl rfl rfl (c_sell (kL κ) hfl (kD κ) (kc κ) σ tg ad bs ru se pf hd ca evs ln hX0 i hi n hn9 hn hr hl) rfl (by omega) (by omega) (by omega) (fun _ _ hx => hx.elim) (fun v1 τ1 hp => ?_)
  obtain ⟨rfl, hp⟩ := hp
  exact j_iret C E dL_sell_6 (by omega) (by omega) ⟨rfl, hp⟩
set_option maxHeartbeats 1000000 in
set_option maxRecDepth 20000 in
theorem W_transfer (l : Launch) (hfl : l.stackTraces = false) (D : va_G) (cy : Nat → Nat) (σ : Wd) (tg ad : Nat → Nat) (bs : List Bn) (ru : Nat → Int × Int) (se : Int) (pf : Nat → Int) (hd : Hd) (ca : Int) (evs : List Evt) (ln : List Int) (hX0 : RX cy σ tg ad bs ru se pf hd ca evs ln) (i : Nat) (hi : i < bs.length) (j : Nat) (hj : j < bs.length) (hij : i ≠ j) (n : Int) (hn9 : (-2147483648 ≤ n ∧ n < 2147483648)) (hn : 1 ≤ n ∧ n ≤ 5000) (hs9 : n ≤ tot (gB bs i).2.2) (hr : n ≤ (gB bs j).1 - tot (gB bs j).2.2) (hl : evs.length < 80) : CtH l yL_transfer cL_transfer 5 (some .int) [(0, 7, 8, 25), (0, 7, 13, 15), (0, 7, 18, 18)] 8 2 257 D cy [.ref (ad 0), vi ((i : Int)), vi ((j : Int)), vi (n)] σ (fun v σ' => v = some (vi (((gB (apB (gradeF ru se) bs (116, (i : Int), (j : Int), n, 0, 0, 0)) j).2.2.length : Int) - ((gB bs j).2.2.length : Int))) ∧ ∃ tg' ad' : Nat → Nat, RX cy σ' tg' ad' (apB (gradeF ru se) bs (116, (i : Int), (j : Int), n, 0, 0, 0)) ru se pf (hdF hd (totB (apB (gradeF ru se) bs (116, (i : Int), (j : Int), n, 0, 0, 0)))) (ca) (evs ++ [(116, (i : Int), (j : Int), n, 0, 0, 0)]) ln ∧ (∀ y, y ∈ σ.1 → tg' y = tg y) ∧ ad' 0 = ad 0 ∧ Keep σ σ' (fun y => tg y < 1000) ∧ ∀ y, y ∈ σ.1 → y ∈ σ'.1) noX := by
  refine cth_start (by decide +kernel) hfl rfl (fun κ e1 e2 e3 C E HH => ?_)
  subst e1 e2 e3
  have C : Cx κ cL_transfer 5 RL "transfer" 8 := C
  obtain ⟨-, -, -, -, hc, hs⟩ := id E
  show J κ σ [(0, .ref (ad 0)), (1, vi (i : Int)), (2, vi (j : Int)), (3, vi (n))] 0 [] 0 0
  have x1 := hX0.1.1
  refine j_aload_n 0 C dL_transfer_0 rfl rfl rfl ?_
  refine j_iload_n 1 C dL_transfer_1 rfl rfl rfl ?_
  refine j_iload_n 2 C dL_transfer_2 rfl rfl rfl ?_
  refine j_iload_n 3 C dL_transfer_3 rfl rfl rfl ?_
  refine j_callV (st' := []) (As := [vi (i : Int), vi (j : Int), vi (n)]) C dL_transfer_4 rfl m_L_48 x1 rfl rfl rfl (c_transfer (kL κ) hfl (kD κ) (kc κ) σ tg ad bs ru se pf hd ca evs ln hX0 i hi j hj hij n hn9 hn hs9 hr hl) rfl (by omega) (by omega) (by omega) (fun _ _ hx => hx.elim) (fun v1 τ1 hp => ?_)
  obtain ⟨rfl, hp⟩ := hp
  exact j_iret C E dL_transfer_7 (by omega) (by omega) ⟨rfl, hp⟩
set_option maxHeartbeats 1000000 in
set_option maxRecDepth 20000 in
theorem W_dry (l : Launch) (hfl : l.stackTraces = false) (D : va_G) (cy : Nat → Nat) (σ : Wd) (tg ad : Nat → Nat) (bs : List Bn) (ru : Nat → Int × Int) (se : Int) (pf : Nat → Int) (hd : Hd) (ca : Int) (evs : List Evt) (ln : List Int) (hX0 : RX cy σ tg ad bs ru se pf hd ca evs ln) (i : Nat) (hi : i < bs.length) (x : Int) (hx8 : (-2147483648 ≤ x ∧ x < 2147483648)) (hx9 : 80 ≤ x ∧ x ≤ 300) (hwt : ¬ sumL (wetF x) (gB bs i).2.2 = 0) (hl : evs.length < 80) : CtH l yL_dry cL_dry 4 (some .int) [(0, 6, 7, 25), (0, 6, 11, 15), (0, 6, 15, 18)] 8 2 257 D cy [.ref (ad 0), vi ((i : Int)), vi (x)] σ (fun v σ' => v = some (vi (tot (gB bs i).2.2 - tot (gB (apB (gradeF ru se) bs (100, (i : Int), (i : Int), 0, 0, x, 0)) i).2.2)) ∧ ∃ tg' ad' : Nat → Nat, RX cy σ' tg' ad' (apB (gradeF ru se) bs (100, (i : Int), (i : Int), 0, 0, x, 0)) ru se pf (hdF hd (totB (apB (gradeF ru se) bs (100, (i : Int), (i : Int), 0, 0, x, 0)))) (ca + -sumL (dryC x) (gB bs i).2.2) (evs ++ [(100, (i : Int), (i : Int), 0, 0, x, 0)]) ln ∧ (∀ y, y ∈ σ.1 → tg' y = tg y) ∧ ad' 0 = ad 0 ∧ Keep σ σ' (fun y => tg y < 1000) ∧ ∀ y, y ∈ σ.1 → y ∈ σ'.1) noX := by
  refine cth_start (by decide +kernel) hfl rfl (fun κ e1 e2 e3 C E HH => ?_)
  subst e1 e2 e3
  have C : Cx κ cL_dry 4 RL "dry" 8 := C
  obtain ⟨-, -, -, -, hc, hs⟩ := id E
  show J κ σ [(0, .ref (ad 0)), (1, vi (i : Int)), (2, vi (x))] 0 [] 0 0
  have x1 := hX0.1.1
  refine j_aload_n 0 C dL_dry_0 rfl rfl rfl ?_
  refine j_iload_n 1 C dL_dry_1 rfl rfl rfl ?_
  refine j_iload_n 2 C dL_dry_2 rfl rfl rfl ?_
  refine j_callV (st' := []) (As := [vi (i : Int), vi (x)]) C dL_dry_3 rfl m_L_52 x1 rfl rfl rfl (c_dry (kL κ) hfl (kD κ) (kc κ) σ tg ad bs ru se pf hd ca evs ln hX0 i hi x hx8 hx9 hwt hl) rfl (by omega) (by omega) (by omega) (fun _ _ hx => hx.elim) (fun v1 τ1 hp => ?_)
  obtain ⟨rfl, hp⟩ := hp
  exact j_iret C E dL_dry_6 (by omega) (by omega) ⟨rfl, hp⟩
set_option maxHeartbeats 1000000 in
set_option maxRecDepth 20000 in
theorem W_loadB0 (l : Launch) (hfl : l.stackTraces = false) (D : va_G) (cy : Nat → Nat) (σ : Wd) (tg ad : Nat → Nat) (bs : List Bn) (ru : Nat → Int × Int) (se : Int) (pf : Nat → Int) (hd : Hd) (ca : Int) (evs : List Evt) (ln : List Int) (hX0 : RX cy σ tg ad bs ru se pf hd ca evs ln) (b : Int) (hb9 : (-2147483648 ≤ b ∧ b < 2147483648)) (hbad : b < 0 ∨ (bs.length : Int) ≤ b) (n x f : Int) (hn9 : (-2147483648 ≤ n ∧ n < 2147483648)) (hx8 : (-2147483648 ≤ x ∧ x < 2147483648)) (hf8 : (-2147483648 ≤ f ∧ f < 2147483648)) : CtH l yL_load cL_load 6 (some .int) [(0, 9, 10, 25), (0, 9, 15, 15), (0, 9, 20, 18)] 8 1 6 D cy [.ref (ad 0), vi (b), vi (n), vi (x), vi (f)] σ (fun v σ' => v = some (vi (-900001)) ∧ σ' = σ) noX := by
  refine cth_start (by decide +kernel) hfl rfl (fun κ e1 e2 e3 C E HH => ?_)
  subst e1 e2 e3
  have C : Cx κ cL_load 6 RL "load" 8 := C
  obtain ⟨-, -, -, -, hc, hs⟩ := id E
  show J κ σ [(0, .ref (ad 0)), (1, vi (b)), (2, vi (n)), (3, vi (x)), (4, vi (f))] 0 [] 0 0
  have x1 := hX0.1.1
  refine j_aload_n 0 C dL_load_0 rfl rfl rfl ?_
  refine j_iload_n 1 C dL_load_1 rfl rfl rfl ?_
  refine j_iload_n 2 C dL_load_2 rfl rfl rfl ?_
  refine j_iload_n 3 C dL_load_3 rfl rfl rfl ?_
  refine j_iload 4 C dL_load_4 rfl rfl ?_
  refine j_callV (st' := []) (As := [vi (b), vi (n), vi (x), vi (f)]) C dL_load_6 rfl m_L_41 x1 rfl rfl rfl (c_loadB0 (kL κ) hfl (kD κ) (kc κ) σ tg ad bs ru se pf hd ca evs ln hX0 b hb9 hbad n x f hn9 hx8 hf8) rfl (by omega) (by omega) (by omega) (fun E9 τ1 hx => ?_) (fun _ _ hx => hx.elim)
  obtain ⟨rfl, hp⟩ := hx
  refine j_catch [] (0, 9, 10, 25) [(0, 9, 15, 15), (0, 9, 20, 18)] C HH rfl (fun z hz => absurd hz List.not_mem_nil) ⟨by decide, by decide⟩ (by decide) hl_25 hc_25 (fun q9 => ?_)
  refine j_astore (lv' := [(0, .ref (ad 0)), (1, vi (b)), (2, vi (n)), (3, vi (x)), (4, vi (f)), (5, .ref q9)]) [1, 2, 3, 4, 5, 0] C dL_load_10 rfl rfl rfl ?_
  refine j_ldc (z := (-900001)) C dL_load_12 rfl kc_L_17 ?_
  exact j_iret C E dL_load_14 (by omega) (by omega) ⟨rfl, hp⟩
set_option maxHeartbeats 1000000 in
set_option maxRecDepth 20000 in
theorem W_loadB1 (l : Launch) (hfl : l.stackTraces = false) (D : va_G) (cy : Nat → Nat) (σ : Wd) (tg ad : Nat → Nat) (bs : List Bn) (ru : Nat → Int × Int) (se : Int) (pf : Nat → Int) (hd : Hd) (ca : Int) (evs : List Evt) (ln : List Int) (hX0 : RX cy σ tg ad bs ru se pf hd ca evs ln) (i : Nat) (hi : i < bs.length) (n x f : Int) (hn9 : (-2147483648 ≤ n ∧ n < 2147483648)) (hx8 : (-2147483648 ≤ x ∧ x < 2147483648)) (hf8 : (-2147483648 ≤ f ∧ f < 2147483648)) (h : ¬ ((1 ≤ n ∧ n ≤ 2000) ∧ (80 ≤ x ∧ x ≤ 300) ∧ (0 ≤ f ∧ f ≤ 100))) : CtH l yL_load cL_load 6 (some .int) [(0, 9, 10, 25), (0, 9, 15, 15), (0, 9, 20, 18)] 8 1 6 D cy [.ref (ad 0), vi ((i : Int)), vi (n), vi (x), vi (f)] σ (fun v σ' => v = some (vi (-900002)) ∧ σ' = σ) noX := by
  refine cth_start (by decide +kernel) hfl rfl (fun κ e1 e2 e3 C E HH => ?_)
  subst e1 e2 e3
  have C : Cx κ cL_load 6 RL "load" 8 := C
  obtain ⟨-, -, -, -, hc, hs⟩ := id E
  show J κ σ [(0, .ref (ad 0)), (1, vi (i : Int)), (2, vi (n)), (3, vi (x)), (4, vi (f))] 0 [] 0 0
  have x1 := hX0.1.1
  refine j_aload_n 0 C dL_load_0 rfl rfl rfl ?_
  refine j_iload_n 1 C dL_load_1 rfl rfl rfl ?_
  refine j_iload_n 2 C dL_load_2 rfl rfl rfl ?_
  refine j_iload_n 3 C dL_load_3 rfl rfl rfl ?_
  refine j_iload 4 C dL_load_4 rfl rfl ?_
  refine j_callV (st' := []) (As := [vi (i : Int), vi (n), vi (x), vi (f)]) C dL_load_6 rfl m_L_41 x1 rfl rfl rfl (c_loadB1 (kL κ) hfl (kD κ) (kc κ) σ tg ad bs ru se pf hd ca evs ln hX0 i hi n x f hn9 hx8 hf8 h) rfl (by omega) (by omega) (by omega) (fun E9 τ1 hx => ?_) (fun _ _ hx => hx.elim)
  obtain ⟨rfl, hp⟩ := hx
  refine j_catch [(0, 9, 10, 25)] (0, 9, 15, 15) [(0, 9, 20, 18)] C HH rfl (List.forall_mem_cons.mpr ⟨⟨by decide, "java/lang/IndexOutOfBoundsException", hl_25, by decide⟩, fun z hz => absurd hz List.not_mem_nil⟩) ⟨by decide, by decide⟩ (by decide) hl_15 hc_15 (fun q9 => ?_)
  refine j_astore (lv' := [(0, .ref (ad 0)), (1, vi (i : Int)), (2, vi (n)), (3, vi (x)), (4, vi (f)), (5, .ref q9)]) [1, 2, 3, 4, 5, 0] C dL_load_15 rfl rfl rfl ?_
  refine j_ldc (z := (-900002)) C dL_load_17 rfl kc_L_20 ?_
  exact j_iret C E dL_load_19 (by omega) (by omega) ⟨rfl, hp⟩
set_option maxHeartbeats 1000000 in
set_option maxRecDepth 20000 in
theorem W_loadB2 (l : Launch) (hfl : l.stackTraces = false) (D : va_G) (cy : Nat → Nat) (σ : Wd) (tg ad : Nat → Nat) (bs : List Bn) (ru : Nat → Int × Int) (se : Int) (pf : Nat → Int) (hd : Hd) (ca : Int) (evs : List Evt) (ln : List Int) (hX0 : RX cy σ tg ad bs ru se pf hd ca evs ln) (i : Nat) (hi : i < bs.length) (n x f : Int) (hn9 : (-2147483648 ≤ n ∧ n < 2147483648)) (hx8 : (-2147483648 ≤ x ∧ x < 2147483648)) (hf8 : (-2147483648 ≤ f ∧ f < 2147483648)) (h : ((1 ≤ n ∧ n ≤ 2000) ∧ (80 ≤ x ∧ x ≤ 300) ∧ (0 ≤ f ∧ f ≤ 100))) (hbad : ¬ (n ≤ (gB bs i).1 - tot (gB bs i).2.2 ∧ evs.length < 80)) : CtH l yL_load cL_load 6 (some .int) [(0, 9, 10, 25), (0, 9, 15, 15), (0, 9, 20, 18)] 8 1 6 D cy [.ref (ad 0), vi ((i : Int)), vi (n), vi (x), vi (f)] σ (fun v σ' => v = some (vi (-900003)) ∧ σ' = σ) noX := by
  refine cth_start (by decide +kernel) hfl rfl (fun κ e1 e2 e3 C E HH => ?_)
  subst e1 e2 e3
  have C : Cx κ cL_load 6 RL "load" 8 := C
  obtain ⟨-, -, -, -, hc, hs⟩ := id E
  show J κ σ [(0, .ref (ad 0)), (1, vi (i : Int)), (2, vi (n)), (3, vi (x)), (4, vi (f))] 0 [] 0 0
  have x1 := hX0.1.1
  refine j_aload_n 0 C dL_load_0 rfl rfl rfl ?_
  refine j_iload_n 1 C dL_load_1 rfl rfl rfl ?_
  refine j_iload_n 2 C dL_load_2 rfl rfl rfl ?_
  refine j_iload_n 3 C dL_load_3 rfl rfl rfl ?_
  refine j_iload 4 C dL_load_4 rfl rfl ?_
  refine j_callV (st' := []) (As := [vi (i : Int), vi (n), vi (x), vi (f)]) C dL_load_6 rfl m_L_41 x1 rfl rfl rfl (c_loadB2 (kL κ) hfl (kD κ) (kc κ) σ tg ad bs ru se pf hd ca evs ln hX0 i hi n x f hn9 hx8 hf8 h hbad) rfl (by omega) (by omega) (by omega) (fun E9 τ1 hx => ?_) (fun _ _ hx => hx.elim)
  obtain ⟨rfl, hp⟩ := hx
  refine j_catch [(0, 9, 10, 25), (0, 9, 15, 15)] (0, 9, 20, 18) [] C HH rfl (List.forall_mem_cons.mpr ⟨⟨by decide, "java/lang/IndexOutOfBoundsException", hl_25, by decide⟩, List.forall_mem_cons.mpr ⟨⟨by decide, "java/lang/IllegalArgumentException", hl_15, by decide⟩, fun z hz => absurd hz List.not_mem_nil⟩⟩) ⟨by decide, by decide⟩ (by decide) hl_18 hc_18 (fun q9 => ?_)
  refine j_astore (lv' := [(0, .ref (ad 0)), (1, vi (i : Int)), (2, vi (n)), (3, vi (x)), (4, vi (f)), (5, .ref q9)]) [1, 2, 3, 4, 5, 0] C dL_load_20 rfl rfl rfl ?_
  refine j_ldc (z := (-900003)) C dL_load_22 rfl kc_L_44 ?_
  exact j_iret C E dL_load_24 (by omega) (by omega) ⟨rfl, hp⟩
set_option maxHeartbeats 1000000 in
set_option maxRecDepth 20000 in
theorem W_sellB0 (l : Launch) (hfl : l.stackTraces = false) (D : va_G) (cy : Nat → Nat) (σ : Wd) (tg ad : Nat → Nat) (bs : List Bn) (ru : Nat → Int × Int) (se : Int) (pf : Nat → Int) (hd : Hd) (ca : Int) (evs : List Evt) (ln : List Int) (hX0 : RX cy σ tg ad bs ru se pf hd ca evs ln) (b : Int) (hb9 : (-2147483648 ≤ b ∧ b < 2147483648)) (hbad : b < 0 ∨ (bs.length : Int) ≤ b) (n : Int) (hn9 : (-2147483648 ≤ n ∧ n < 2147483648)) : CtH l yL_sell cL_sell 4 (some .int) [(0, 6, 7, 25), (0, 6, 11, 15), (0, 6, 15, 18)] 8 1 6 D cy [.ref (ad 0), vi (b), vi (n)] σ (fun v σ' => v = some (vi (-900001)) ∧ σ' = σ) noX := by
  refine cth_start (by decide +kernel) hfl rfl (fun κ e1 e2 e3 C E HH => ?_)
  subst e1 e2 e3
  have C : Cx κ cL_sell 4 RL "sell" 8 := C
  obtain ⟨-, -, -, -, hc, hs⟩ := id E
  show J κ σ [(0, .ref (ad 0)), (1, vi (b)), (2, vi (n))] 0 [] 0 0
  have x1 := hX0.1.1
  refine j_aload_n 0 C dL_sell_0 rfl rfl rfl ?_
  refine j_iload_n 1 C dL_sell_1 rfl rfl rfl ?_
  refine j_iload_n 2 C dL_sell_2 rfl rfl rfl ?_
  refine j_callV (st' := []) (As := [vi (b), vi (n)]) C dL_sell_3 rfl m_L_45 x1 rfl rfl rfl (c_sellB0 (kL κ) hfl (kD κ) (kc κ) σ tg ad bs ru se pf hd ca evs ln hX0 b hb9 hbad n hn9) rfl (by omega) (by omega) (by omega) (fun E9 τ1 hx => ?_) (fun _ _ hx => hx.elim)
  obtain ⟨rfl, hp⟩ := hx
  refine j_catch [] (0, 6, 7, 25) [(0, 6, 11, 15), (0, 6, 15, 18)] C HH rfl (fun z hz => absurd hz List.not_mem_nil) ⟨by decide, by decide⟩ (by decide) hl_25 hc_25 (fun q9 => ?_)
  refine j_astore_n (lv' := [(0, .ref (ad 0)), (1, vi (b)), (2, vi (n)), (3, .ref q9)]) [1, 2, 3, 0] C dL_sell_7 rfl rfl rfl rfl ?_
  refine j_ldc (z := (-900001)) C dL_sell_8 rfl kc_L_17 ?_
  exact j_iret C E dL_sell_10 (by omega) (by omega) ⟨rfl, hp⟩
set_option maxHeartbeats 1000000 in
set_option maxRecDepth 20000 in
theorem W_sellB1 (l : Launch) (hfl : l.stackTraces = false) (D : va_G) (cy : Nat → Nat) (σ : Wd) (tg ad : Nat → Nat) (bs : List Bn) (ru : Nat → Int × Int) (se : Int) (pf : Nat → Int) (hd : Hd) (ca : Int) (evs : List Evt) (ln : List Int) (hX0 : RX cy σ tg ad bs ru se pf hd ca evs ln) (i : Nat) (hi : i < bs.length) (n : Int) (hn9 : (-2147483648 ≤ n ∧ n < 2147483648)) (h : n < 1 ∨ 5000 < n) : CtH l yL_sell cL_sell 4 (some .int) [(0, 6, 7, 25), (0, 6, 11, 15), (0, 6, 15, 18)] 8 1 6 D cy [.ref (ad 0), vi ((i : Int)), vi (n)] σ (fun v σ' => v = some (vi (-900002)) ∧ σ' = σ) noX := by
  refine cth_start (by decide +kernel) hfl rfl (fun κ e1 e2 e3 C E HH => ?_)
  subst e1 e2 e3
  have C : Cx κ cL_sell 4 RL "sell" 8 := C
  obtain ⟨-, -, -, -, hc, hs⟩ := id E
  show J κ σ [(0, .ref (ad 0)), (1, vi (i : Int)), (2, vi (n))] 0 [] 0 0
  have x1 := hX0.1.1
  refine j_aload_n 0 C dL_sell_0 rfl rfl rfl ?_
  refine j_iload_n 1 C dL_sell_1 rfl rfl rfl ?_
  refine j_iload_n 2 C dL_sell_2 rfl rfl rfl ?_
  refine j_callV (st' := []) (As := [vi (i : Int), vi (n)]) C dL_sell_3 rfl m_L_45 x1 rfl rfl rfl (c_sellB1 (kL κ) hfl (kD κ) (kc κ) σ tg ad bs ru se pf hd ca evs ln hX0 i hi n hn9 h) rfl (by omega) (by omega) (by omega) (fun E9 τ1 hx => ?_) (fun _ _ hx => hx.elim)
  obtain ⟨rfl, hp⟩ := hx
  refine j_catch [(0, 6, 7, 25)] (0, 6, 11, 15) [(0, 6, 15, 18)] C HH rfl (List.forall_mem_cons.mpr ⟨⟨by decide, "java/lang/IndexOutOfBoundsException", hl_25, by decide⟩, fun z hz => absurd hz List.not_mem_nil⟩) ⟨by decide, by decide⟩ (by decide) hl_15 hc_15 (fun q9 => ?_)
  refine j_astore_n (lv' := [(0, .ref (ad 0)), (1, vi (i : Int)), (2, vi (n)), (3, .ref q9)]) [1, 2, 3, 0] C dL_sell_11 rfl rfl rfl rfl ?_
  refine j_ldc (z := (-900002)) C dL_sell_12 rfl kc_L_20 ?_
  exact j_iret C E dL_sell_14 (by omega) (by omega) ⟨rfl, hp⟩
set_option maxHeartbeats 1000000 in
set_option maxRecDepth 20000 in
theorem W_sellB2 (l : Launch) (hfl : l.stackTraces = false) (D : va_G) (cy : Nat → Nat) (σ : Wd) (tg ad : Nat → Nat) (bs : List Bn) (ru : Nat → Int × Int) (se : Int) (pf : Nat → Int) (hd : Hd) (ca : Int) (evs : List Evt) (ln : List Int) (hX0 : RX cy σ tg ad bs ru se pf hd ca evs ln) (i : Nat) (hi : i < bs.length) (n : Int) (hn9 : (-2147483648 ≤ n ∧ n < 2147483648)) (h : 1 ≤ n ∧ n ≤ 5000) (hbad : ¬ (n ≤ tot (gB bs i).2.2 ∧ evs.length < 80)) : CtH l yL_sell cL_sell 4 (some .int) [(0, 6, 7, 25), (0, 6, 11, 15), (0, 6, 15, 18)] 8 1 6 D cy [.ref (ad 0), vi ((i : Int)), vi (n)] σ (fun v σ' => v = some (vi (-900003)) ∧ σ' = σ) noX := by
  refine cth_start (by decide +kernel) hfl rfl (fun κ e1 e2 e3 C E HH => ?_)
  subst e1 e2 e3
  have C : Cx κ cL_sell 4 RL "sell" 8 := C
  obtain ⟨-, -, -, -, hc, hs⟩ := id E
  show J κ σ [(0, .ref (ad 0)), (1, vi (i : Int)), (2, vi (n))] 0 [] 0 0
  have x1 := hX0.1.1
  refine j_aload_n 0 C dL_sell_0 rfl rfl rfl ?_
  refine j_iload_n 1 C dL_sell_1 rfl rfl rfl ?_
  refine j_iload_n 2 C dL_sell_2 rfl rfl rfl ?_
  refine j_callV (st' := []) (As := [vi (i : Int), vi (n)]) C dL_sell_3 rfl m_L_45 x1 rfl rfl rfl (c_sellB2 (kL κ) hfl (kD κ) (kc κ) σ tg ad bs ru se pf hd ca evs ln hX0 i hi n hn9 h hbad) rfl (by omega) (by omega) (by omega) (fun E9 τ1 hx => ?_) (fun _ _ hx => hx.elim)
  obtain ⟨rfl, hp⟩ := hx
  refine j_catch [(0, 6, 7, 25), (0, 6, 11, 15)] (0, 6, 15, 18) [] C HH rfl (List.forall_mem_cons.mpr ⟨⟨by decide, "java/lang/IndexOutOfBoundsException", hl_25, by decide⟩, List.forall_mem_cons.mpr ⟨⟨by decide, "java/lang/IllegalArgumentException", hl_15, by decide⟩, fun z hz => absurd hz List.not_mem_nil⟩⟩) ⟨by decide, by decide⟩ (by decide) hl_18 hc_18 (fun q9 => ?_)
  refine j_astore_n (lv' := [(0, .ref (ad 0)), (1, vi (i : Int)), (2, vi (n)), (3, .ref q9)]) [1, 2, 3, 0] C dL_sell_15 rfl rfl rfl rfl ?_
  refine j_ldc (z := (-900003)) C dL_sell_16 rfl kc_L_44 ?_
  exact j_iret C E dL_sell_18 (by omega) (by omega) ⟨rfl, hp⟩
set_option maxHeartbeats 1000000 in
set_option maxRecDepth 20000 in
theorem W_transferB0 (l : Launch) (hfl : l.stackTraces = false) (D : va_G) (cy : Nat → Nat) (σ : Wd) (tg ad : Nat → Nat) (bs : List Bn) (ru : Nat → Int × Int) (se : Int) (pf : Nat → Int) (hd : Hd) (ca : Int) (evs : List Evt) (ln : List Int) (hX0 : RX cy σ tg ad bs ru se pf hd ca evs ln) (a b : Int) (ha9 : (-2147483648 ≤ a ∧ a < 2147483648)) (hb9 : (-2147483648 ≤ b ∧ b < 2147483648)) (n : Int) (hn9 : (-2147483648 ≤ n ∧ n < 2147483648)) (h : ¬ ((0 ≤ a ∧ a < (bs.length : Int)) ∧ (0 ≤ b ∧ b < (bs.length : Int)))) : CtH l yL_transfer cL_transfer 5 (some .int) [(0, 7, 8, 25), (0, 7, 13, 15), (0, 7, 18, 18)] 8 1 6 D cy [.ref (ad 0), vi (a), vi (b), vi (n)] σ (fun v σ' => v = some (vi (-900001)) ∧ σ' = σ) noX := by
  refine cth_start (by decide +kernel) hfl rfl (fun κ e1 e2 e3 C E HH => ?_)
  subst e1 e2 e3
  have C : Cx κ cL_transfer 5 RL "transfer" 8 := C
  obtain ⟨-, -, -, -, hc, hs⟩ := id E
  show J κ σ [(0, .ref (ad 0)), (1, vi (a)), (2, vi (b)), (3, vi (n))] 0 [] 0 0
  have x1 := hX0.1.1
  refine j_aload_n 0 C dL_transfer_0 rfl rfl rfl ?_
  refine j_iload_n 1 C dL_transfer_1 rfl rfl rfl ?_
  refine j_iload_n 2 C dL_transfer_2 rfl rfl rfl ?_
  refine j_iload_n 3 C dL_transfer_3 rfl rfl rfl ?_
  refine j_callV (st' := []) (As := [vi (a), vi (b), vi (n)]) C dL_transfer_4 rfl m_L_48 x1 rfl rfl rfl (c_transferB0 (kL κ) hfl (kD κ) (kc κ) σ tg ad bs ru se pf hd ca evs ln hX0 a b ha9 hb9 n hn9 h) rfl (by omega) (by omega) (by omega) (fun E9 τ1 hx => ?_) (fun _ _ hx => hx.elim)
  obtain ⟨rfl, hp⟩ := hx
  refine j_catch [] (0, 7, 8, 25) [(0, 7, 13, 15), (0, 7, 18, 18)] C HH rfl (fun z hz => absurd hz List.not_mem_nil) ⟨by decide, by decide⟩ (by decide) hl_25 hc_25 (fun q9 => ?_)
  refine j_astore (lv' := [(0, .ref (ad 0)), (1, vi (a)), (2, vi (b)), (3, vi (n)), (4, .ref q9)]) [1, 2, 3, 4, 0] C dL_transfer_8 rfl rfl rfl ?_
  refine j_ldc (z := (-900001)) C dL_transfer_10 rfl kc_L_17 ?_
  exact j_iret C E dL_transfer_12 (by omega) (by omega) ⟨rfl, hp⟩
set_option maxHeartbeats 1000000 in
set_option maxRecDepth 20000 in
theorem W_transferB1 (l : Launch) (hfl : l.stackTraces = false) (D : va_G) (cy : Nat → Nat) (σ : Wd) (tg ad : Nat → Nat) (bs : List Bn) (ru : Nat → Int × Int) (se : Int) (pf : Nat → Int) (hd : Hd) (ca : Int) (evs : List Evt) (ln : List Int) (hX0 : RX cy σ tg ad bs ru se pf hd ca evs ln) (i : Nat) (hi : i < bs.length) (j : Nat) (hj : j < bs.length) (n : Int) (hn9 : (-2147483648 ≤ n ∧ n < 2147483648)) (h : ¬ (i ≠ j ∧ (1 ≤ n ∧ n ≤ 5000))) : CtH l yL_transfer cL_transfer 5 (some .int) [(0, 7, 8, 25), (0, 7, 13, 15), (0, 7, 18, 18)] 8 1 6 D cy [.ref (ad 0), vi ((i : Int)), vi ((j : Int)), vi (n)] σ (fun v σ' => v = some (vi (-900002)) ∧ σ' = σ) noX := by
  refine cth_start (by decide +kernel) hfl rfl (fun κ e1 e2 e3 C E HH => ?_)
  subst e1 e2 e3
  have C : Cx κ cL_transfer 5 RL "transfer" 8 := C
  obtain ⟨-, -, -, -, hc, hs⟩ := id E
  show J κ σ [(0, .ref (ad 0)), (1, vi (i : Int)), (2, vi (j : Int)), (3, vi (n))] 0 [] 0 0
  have x1 := hX0.1.1
  refine j_aload_n 0 C dL_transfer_0 rfl rfl rfl ?_
  refine j_iload_n 1 C dL_transfer_1 rfl rfl rfl ?_
  refine j_iload_n 2 C dL_transfer_2 rfl rfl rfl ?_
  refine j_iload_n 3 C dL_transfer_3 rfl rfl rfl ?_
  refine j_callV (st' := []) (As := [vi (i : Int), vi (j : Int), vi (n)]) C dL_transfer_4 rfl m_L_48 x1 rfl rfl rfl (c_transferB1 (kL κ) hfl (kD κ) (kc κ) σ tg ad bs ru se pf hd ca evs ln hX0 i hi j hj n hn9 h) rfl (by omega) (by omega) (by omega) (fun E9 τ1 hx => ?_) (fun _ _ hx => hx.elim)
  obtain ⟨rfl, hp⟩ := hx
  refine j_catch [(0, 7, 8, 25)] (0, 7, 13, 15) [(0, 7, 18, 18)] C HH rfl (List.forall_mem_cons.mpr ⟨⟨by decide, "java/lang/IndexOutOfBoundsException", hl_25, by decide⟩, fun z hz => absurd hz List.not_mem_nil⟩) ⟨by decide, by decide⟩ (by decide) hl_15 hc_15 (fun q9 => ?_)
  refine j_astore (lv' := [(0, .ref (ad 0)), (1, vi (i : Int)), (2, vi (j : Int)), (3, vi (n)), (4, .ref q9)]) [1, 2, 3, 4, 0] C dL_transfer_13 rfl rfl rfl ?_
  refine j_ldc (z := (-900002)) C dL_transfer_15 rfl kc_L_20 ?_
  exact j_iret C E dL_transfer_17 (by omega) (by omega) ⟨rfl, hp⟩
set_option maxHeartbeats 1000000 in
set_option maxRecDepth 20000 in
theorem W_transferB2 (l : Launch) (hfl : l.stackTraces = false) (D : va_G) (cy : Nat → Nat) (σ : Wd) (tg ad : Nat → Nat) (bs : List Bn) (ru : Nat → Int × Int) (se : Int) (pf : Nat → Int) (hd : Hd) (ca : Int) (evs : List Evt) (ln : List Int) (hX0 : RX cy σ tg ad bs ru se pf hd ca evs ln) (i : Nat) (hi : i < bs.length) (j : Nat) (hj : j < bs.length) (n : Int) (hn9 : (-2147483648 ≤ n ∧ n < 2147483648)) (h : i ≠ j ∧ (1 ≤ n ∧ n ≤ 5000)) (hbad : ¬ (n ≤ tot (gB bs i).2.2 ∧ n ≤ (gB bs j).1 - tot (gB bs j).2.2 ∧ evs.length < 80)) : CtH l yL_transfer cL_transfer 5 (some .int) [(0, 7, 8, 25), (0, 7, 13, 15), (0, 7, 18, 18)] 8 1 6 D cy [.ref (ad 0), vi ((i : Int)), vi ((j : Int)), vi (n)] σ (fun v σ' => v = some (vi (-900003)) ∧ σ' = σ) noX := by
  refine cth_start (by decide +kernel) hfl rfl (fun κ e1 e2 e3 C E HH => ?_)
  subst e1 e2 e3
  have C : Cx κ cL_transfer 5 RL "transfer" 8 := C
  obtain ⟨-, -, -, -, hc, hs⟩ := id E
  show J κ σ [(0, .ref (ad 0)), (1, vi (i : Int)), (2, vi (j : Int)), (3, vi (n))] 0 [] 0 0
  have x1 := hX0.1.1
  refine j_aload_n 0 C dL_transfer_0 rfl rfl rfl ?_
  refine j_iload_n 1 C dL_transfer_1 rfl rfl rfl ?_
  refine j_iload_n 2 C dL_transfer_2 rfl rfl rfl ?_
  refine j_iload_n 3 C dL_transfer_3 rfl rfl rfl ?_
  refine j_callV (st' := []) (As := [vi (i : Int), vi (j : Int), vi (n)]) C dL_transfer_4 rfl m_L_48 x1 rfl rfl rfl (c_transferB2 (kL κ) hfl (kD κ) (kc κ) σ tg ad bs ru se pf hd ca evs ln hX0 i hi j hj n hn9 h hbad) rfl (by omega) (by omega) (by omega) (fun E9 τ1 hx => ?_) (fun _ _ hx => hx.elim)
  obtain ⟨rfl, hp⟩ := hx
  refine j_catch [(0, 7, 8, 25), (0, 7, 13, 15)] (0, 7, 18, 18) [] C HH rfl (List.forall_mem_cons.mpr ⟨⟨by decide, "java/lang/IndexOutOfBoundsException", hl_25, by decide⟩, List.forall_mem_cons.mpr ⟨⟨by decide, "java/lang/IllegalArgumentException", hl_15, by decide⟩, fun z hz => absurd hz List.not_mem_nil⟩⟩) ⟨by decide, by decide⟩ (by decide) hl_18 hc_18 (fun q9 => ?_)
  refine j_astore (lv' := [(0, .ref (ad 0)), (1, vi (i : Int)), (2, vi (j : Int)), (3, vi (n)), (4, .ref q9)]) [1, 2, 3, 4, 0] C dL_transfer_18 rfl rfl rfl ?_
  refine j_ldc (z := (-900003)) C dL_transfer_20 rfl kc_L_44 ?_
  exact j_iret C E dL_transfer_22 (by omega) (by omega) ⟨rfl, hp⟩
set_option maxHeartbeats 1000000 in
set_option maxRecDepth 20000 in
theorem W_dryB0 (l : Launch) (hfl : l.stackTraces = false) (D : va_G) (cy : Nat → Nat) (σ : Wd) (tg ad : Nat → Nat) (bs : List Bn) (ru : Nat → Int × Int) (se : Int) (pf : Nat → Int) (hd : Hd) (ca : Int) (evs : List Evt) (ln : List Int) (hX0 : RX cy σ tg ad bs ru se pf hd ca evs ln) (b : Int) (hb9 : (-2147483648 ≤ b ∧ b < 2147483648)) (hbad : b < 0 ∨ (bs.length : Int) ≤ b) (x : Int) (hx8 : (-2147483648 ≤ x ∧ x < 2147483648)) : CtH l yL_dry cL_dry 4 (some .int) [(0, 6, 7, 25), (0, 6, 11, 15), (0, 6, 15, 18)] 8 1 6 D cy [.ref (ad 0), vi (b), vi (x)] σ (fun v σ' => v = some (vi (-900001)) ∧ σ' = σ) noX := by
  refine cth_start (by decide +kernel) hfl rfl (fun κ e1 e2 e3 C E HH => ?_)
  subst e1 e2 e3
  have C : Cx κ cL_dry 4 RL "dry" 8 := C
  obtain ⟨-, -, -, -, hc, hs⟩ := id E
  show J κ σ [(0, .ref (ad 0)), (1, vi (b)), (2, vi (x))] 0 [] 0 0
  have x1 := hX0.1.1
  refine j_aload_n 0 C dL_dry_0 rfl rfl rfl ?_
  refine j_iload_n 1 C dL_dry_1 rfl rfl rfl ?_
  refine j_iload_n 2 C dL_dry_2 rfl rfl rfl ?_
  refine j_callV (st' := []) (As := [vi (b), vi (x)]) C dL_dry_3 rfl m_L_52 x1 rfl rfl rfl (c_dryB0 (kL κ) hfl (kD κ) (kc κ) σ tg ad bs ru se pf hd ca evs ln hX0 b hb9 hbad x hx8) rfl (by omega) (by omega) (by omega) (fun E9 τ1 hx => ?_) (fun _ _ hx => hx.elim)
  obtain ⟨rfl, hp⟩ := hx
  refine j_catch [] (0, 6, 7, 25) [(0, 6, 11, 15), (0, 6, 15, 18)] C HH rfl (fun z hz => absurd hz List.not_mem_nil) ⟨by decide, by decide⟩ (by decide) hl_25 hc_25 (fun q9 => ?_)
  refine j_astore_n (lv' := [(0, .ref (ad 0)), (1, vi (b)), (2, vi (x)), (3, .ref q9)]) [1, 2, 3, 0] C dL_dry_7 rfl rfl rfl rfl ?_
  refine j_ldc (z := (-900001)) C dL_dry_8 rfl kc_L_17 ?_
  exact j_iret C E dL_dry_10 (by omega) (by omega) ⟨rfl, hp⟩
set_option maxHeartbeats 1000000 in
set_option maxRecDepth 20000 in
theorem W_dryB1 (l : Launch) (hfl : l.stackTraces = false) (D : va_G) (cy : Nat → Nat) (σ : Wd) (tg ad : Nat → Nat) (bs : List Bn) (ru : Nat → Int × Int) (se : Int) (pf : Nat → Int) (hd : Hd) (ca : Int) (evs : List Evt) (ln : List Int) (hX0 : RX cy σ tg ad bs ru se pf hd ca evs ln) (i : Nat) (hi : i < bs.length) (x : Int) (hx8 : (-2147483648 ≤ x ∧ x < 2147483648)) (h : x < 80 ∨ 300 < x) : CtH l yL_dry cL_dry 4 (some .int) [(0, 6, 7, 25), (0, 6, 11, 15), (0, 6, 15, 18)] 8 1 6 D cy [.ref (ad 0), vi ((i : Int)), vi (x)] σ (fun v σ' => v = some (vi (-900002)) ∧ σ' = σ) noX := by
  refine cth_start (by decide +kernel) hfl rfl (fun κ e1 e2 e3 C E HH => ?_)
  subst e1 e2 e3
  have C : Cx κ cL_dry 4 RL "dry" 8 := C
  obtain ⟨-, -, -, -, hc, hs⟩ := id E
  show J κ σ [(0, .ref (ad 0)), (1, vi (i : Int)), (2, vi (x))] 0 [] 0 0
  have x1 := hX0.1.1
  refine j_aload_n 0 C dL_dry_0 rfl rfl rfl ?_
  refine j_iload_n 1 C dL_dry_1 rfl rfl rfl ?_
  refine j_iload_n 2 C dL_dry_2 rfl rfl rfl ?_
  refine j_callV (st' := []) (As := [vi (i : Int), vi (x)]) C dL_dry_3 rfl m_L_52 x1 rfl rfl rfl (c_dryB1 (kL κ) hfl (kD κ) (kc κ) σ tg ad bs ru se pf hd ca evs ln hX0 i hi x hx8 h) rfl (by omega) (by omega) (by omega) (fun E9 τ1 hx => ?_) (fun _ _ hx => hx.elim)
  obtain ⟨rfl, hp⟩ := hx
  refine j_catch [(0, 6, 7, 25)] (0, 6, 11, 15) [(0, 6, 15, 18)] C HH rfl (List.forall_mem_cons.mpr ⟨⟨by decide, "java/lang/IndexOutOfBoundsException", hl_25, by decide⟩, fun z hz => absurd hz List.not_mem_nil⟩) ⟨by decide, by decide⟩ (by decide) hl_15 hc_15 (fun q9 => ?_)
  refine j_astore_n (lv' := [(0, .ref (ad 0)), (1, vi (i : Int)), (2, vi (x)), (3, .ref q9)]) [1, 2, 3, 0] C dL_dry_11 rfl rfl rfl rfl ?_
  refine j_ldc (z := (-900002)) C dL_dry_12 rfl kc_L_20 ?_
  exact j_iret C E dL_dry_14 (by omega) (by omega) ⟨rfl, hp⟩
set_option maxHeartbeats 1000000 in
set_option maxRecDepth 20000 in
theorem W_dryB2 (l : Launch) (hfl : l.stackTraces = false) (D : va_G) (cy : Nat → Nat) (σ : Wd) (tg ad : Nat → Nat) (bs : List Bn) (ru : Nat → Int × Int) (se : Int) (pf : Nat → Int) (hd : Hd) (ca : Int) (evs : List Evt) (ln : List Int) (hX0 : RX cy σ tg ad bs ru se pf hd ca evs ln) (i : Nat) (hi : i < bs.length) (x : Int) (hx8 : (-2147483648 ≤ x ∧ x < 2147483648)) (h : 80 ≤ x ∧ x ≤ 300) (hbad : ¬ (¬ sumL (wetF x) (gB bs i).2.2 = 0 ∧ evs.length < 80)) : CtH l yL_dry cL_dry 4 (some .int) [(0, 6, 7, 25), (0, 6, 11, 15), (0, 6, 15, 18)] 8 1 6 D cy [.ref (ad 0), vi ((i : Int)), vi (x)] σ (fun v σ' => v = some (vi (-900003)) ∧ σ' = σ) noX := by
  refine cth_start (by decide +kernel) hfl rfl (fun κ e1 e2 e3 C E HH => ?_)
  subst e1 e2 e3
  have C : Cx κ cL_dry 4 RL "dry" 8 := C
  obtain ⟨-, -, -, -, hc, hs⟩ := id E
  show J κ σ [(0, .ref (ad 0)), (1, vi (i : Int)), (2, vi (x))] 0 [] 0 0
  have x1 := hX0.1.1
  refine j_aload_n 0 C dL_dry_0 rfl rfl rfl ?_
  refine j_iload_n 1 C dL_dry_1 rfl rfl rfl ?_
  refine j_iload_n 2 C dL_dry_2 rfl rfl rfl ?_
  refine j_callV (st' := []) (As := [vi (i : Int), vi (x)]) C dL_dry_3 rfl m_L_52 x1 rfl rfl rfl (c_dryB2 (kL κ) hfl (kD κ) (kc κ) σ tg ad bs ru se pf hd ca evs ln hX0 i hi x hx8 h hbad) rfl (by omega) (by omega) (by omega) (fun E9 τ1 hx => ?_) (fun _ _ hx => hx.elim)
  obtain ⟨rfl, hp⟩ := hx
  refine j_catch [(0, 6, 7, 25), (0, 6, 11, 15)] (0, 6, 15, 18) [] C HH rfl (List.forall_mem_cons.mpr ⟨⟨by decide, "java/lang/IndexOutOfBoundsException", hl_25, by decide⟩, List.forall_mem_cons.mpr ⟨⟨by decide, "java/lang/IllegalArgumentException", hl_15, by decide⟩, fun z hz => absurd hz List.not_mem_nil⟩⟩) ⟨by decide, by decide⟩ (by decide) hl_18 hc_18 (fun q9 => ?_)
  refine j_astore_n (lv' := [(0, .ref (ad 0)), (1, vi (i : Int)), (2, vi (x)), (3, .ref q9)]) [1, 2, 3, 0] C dL_dry_15 rfl rfl rfl rfl ?_
  refine j_ldc (z := (-900003)) C dL_dry_16 rfl kc_L_44 ?_
  exact j_iret C E dL_dry_18 (by omega) (by omega) ⟨rfl, hp⟩
set_option maxHeartbeats 1000000 in
set_option maxRecDepth 20000 in
theorem W_layerAnew (l : Launch) (hfl : l.stackTraces = false) (D : va_G) (cy : Nat → Nat) (σ : Wd) (tg ad : Nat → Nat) (bs : List Bn) (ru : Nat → Int × Int) (se : Int) (pf : Nat → Int) (hd : Hd) (ca : Int) (evs : List Evt) (ln : List Int) (hX0 : RX cy σ tg ad bs ru se pf hd ca evs ln) (i : Nat) (hi : i < bs.length) (q : Int) (hq : 0 ≤ q ∧ q < ((gB bs i).2.2.length : Int)) : CtH l yL_layerAnew cL_layerAnew 4 (some .int) [(0, 6, 7, 25)] 8 0 0 D cy [.ref (ad 0), vi ((i : Int)), vi (q)] σ (fun v σ' => v = some (vi (lyAt (fl (gB bs i)) q).1) ∧ RX cy σ' tg ad bs ru se pf hd ca evs ln ∧ Keep σ σ' (inL tg 200) ∧ σ'.1 = σ.1) noX := by
  refine cth_start (by decide +kernel) hfl rfl (fun κ e1 e2 e3 C E HH => ?_)
  subst e1 e2 e3
  have C : Cx κ cL_layerAnew 4 RL "layerAnew" 8 := C
  obtain ⟨-, -, -, -, hc, hs⟩ := id E
  show J κ σ [(0, .ref (ad 0)), (1, vi (i : Int)), (2, vi (q))] 0 [] 0 0
  have x1 := hX0.1.1
  refine j_aload_n 0 C dL_layerAnew_0 rfl rfl rfl ?_
  refine j_iload_n 1 C dL_layerAnew_1 rfl rfl rfl ?_
  refine j_iload_n 2 C dL_layerAnew_2 rfl rfl rfl ?_
  refine j_callV (st' := []) (As := [vi (i : Int), vi (q)]) C dL_layerAnew_3 rfl m_L_67 x1 rfl rfl rfl (c_layerAnew (kL κ) hfl (kD κ) (kc κ) σ tg ad bs ru se pf hd ca evs ln hX0 i hi q hq) rfl (by omega) (by omega) (by omega) (fun _ _ hx => hx.elim) (fun v1 τ1 hp => ?_)
  obtain ⟨rfl, hp⟩ := hp
  exact j_iret C E dL_layerAnew_6 (by omega) (by omega) ⟨rfl, hp⟩
set_option maxHeartbeats 1000000 in
set_option maxRecDepth 20000 in
theorem W_layerAnewB (l : Launch) (hfl : l.stackTraces = false) (D : va_G) (cy : Nat → Nat) (σ : Wd) (tg ad : Nat → Nat) (bs : List Bn) (ru : Nat → Int × Int) (se : Int) (pf : Nat → Int) (hd : Hd) (ca : Int) (evs : List Evt) (ln : List Int) (hX0 : RX cy σ tg ad bs ru se pf hd ca evs ln) (i : Nat) (hi : i < bs.length) (q : Int) (hq9 : (-2147483648 ≤ q ∧ q < 2147483648)) (hq : q < 0 ∨ ((gB bs i).2.2.length : Int) ≤ q) : CtH l yL_layerAnew cL_layerAnew 4 (some .int) [(0, 6, 7, 25)] 8 1 6 D cy [.ref (ad 0), vi ((i : Int)), vi (q)] σ (fun v σ' => v = some (vi (-900001)) ∧ RX cy σ' tg ad bs ru se pf hd ca evs ln ∧ Keep σ σ' (inL tg 200) ∧ σ'.1 = σ.1) noX := by
  refine cth_start (by decide +kernel) hfl rfl (fun κ e1 e2 e3 C E HH => ?_)
  subst e1 e2 e3
  have C : Cx κ cL_layerAnew 4 RL "layerAnew" 8 := C
  obtain ⟨-, -, -, -, hc, hs⟩ := id E
  show J κ σ [(0, .ref (ad 0)), (1, vi (i : Int)), (2, vi (q))] 0 [] 0 0
  have x1 := hX0.1.1
  refine j_aload_n 0 C dL_layerAnew_0 rfl rfl rfl ?_
  refine j_iload_n 1 C dL_layerAnew_1 rfl rfl rfl ?_
  refine j_iload_n 2 C dL_layerAnew_2 rfl rfl rfl ?_
  refine j_callV (st' := []) (As := [vi (i : Int), vi (q)]) C dL_layerAnew_3 rfl m_L_67 x1 rfl rfl rfl (c_layerAnewB (kL κ) hfl (kD κ) (kc κ) σ tg ad bs ru se pf hd ca evs ln hX0 i hi q hq9 hq) rfl (by omega) (by omega) (by omega) (fun E9 τ1 hx => ?_) (fun _ _ hx => hx.elim)
  obtain ⟨rfl, hp⟩ := hx
  refine j_catch [] (0, 6, 7, 25) [] C HH rfl (fun z hz => absurd hz List.not_mem_nil) ⟨by decide, by decide⟩ (by decide) hl_25 hc_25 (fun q9 => ?_)
  refine j_astore_n (lv' := [(0, .ref (ad 0)), (1, vi (i : Int)), (2, vi (q)), (3, .ref q9)]) [1, 2, 3, 0] C dL_layerAnew_7 rfl rfl rfl rfl ?_
  refine j_ldc (z := (-900001)) C dL_layerAnew_8 rfl kc_L_17 ?_
  exact j_iret C E dL_layerAnew_10 (by omega) (by omega) ⟨rfl, hp⟩
set_option maxHeartbeats 1000000 in
set_option maxRecDepth 20000 in
theorem W_layerAnewB0 (l : Launch) (hfl : l.stackTraces = false) (D : va_G) (cy : Nat → Nat) (σ : Wd) (tg ad : Nat → Nat) (bs : List Bn) (ru : Nat → Int × Int) (se : Int) (pf : Nat → Int) (hd : Hd) (ca : Int) (evs : List Evt) (ln : List Int) (hX0 : RX cy σ tg ad bs ru se pf hd ca evs ln) (b : Int) (hb9 : (-2147483648 ≤ b ∧ b < 2147483648)) (hbad : b < 0 ∨ (bs.length : Int) ≤ b) (q : Int) : CtH l yL_layerAnew cL_layerAnew 4 (some .int) [(0, 6, 7, 25)] 8 1 6 D cy [.ref (ad 0), vi (b), vi (q)] σ (fun v σ' => v = some (vi (-900001)) ∧ RX cy σ' tg ad bs ru se pf hd ca evs ln ∧ Keep σ σ' (inL tg 200) ∧ σ'.1 = σ.1) noX := by
  refine cth_start (by decide +kernel) hfl rfl (fun κ e1 e2 e3 C E HH => ?_)
  subst e1 e2 e3
  have C : Cx κ cL_layerAnew 4 RL "layerAnew" 8 := C
  obtain ⟨-, -, -, -, hc, hs⟩ := id E
  show J κ σ [(0, .ref (ad 0)), (1, vi (b)), (2, vi (q))] 0 [] 0 0
  have x1 := hX0.1.1
  refine j_aload_n 0 C dL_layerAnew_0 rfl rfl rfl ?_
  refine j_iload_n 1 C dL_layerAnew_1 rfl rfl rfl ?_
  refine j_iload_n 2 C dL_layerAnew_2 rfl rfl rfl ?_
  refine j_callV (st' := []) (As := [vi (b), vi (q)]) C dL_layerAnew_3 rfl m_L_67 x1 rfl rfl rfl (c_layerAnewB0 (kL κ) hfl (kD κ) (kc κ) σ tg ad bs ru se pf hd ca evs ln hX0 b hb9 hbad q) rfl (by omega) (by omega) (by omega) (fun E9 τ1 hx => ?_) (fun _ _ hx => hx.elim)
  obtain ⟨rfl, hp⟩ := hx
  refine j_catch [] (0, 6, 7, 25) [] C HH rfl (fun z hz => absurd hz List.not_mem_nil) ⟨by decide, by decide⟩ (by decide) hl_25 hc_25 (fun q9 => ?_)
  refine j_astore_n (lv' := [(0, .ref (ad 0)), (1, vi (b)), (2, vi (q)), (3, .ref q9)]) [1, 2, 3, 0] C dL_layerAnew_7 rfl rfl rfl rfl ?_
  refine j_ldc (z := (-900001)) C dL_layerAnew_8 rfl kc_L_17 ?_
  exact j_iret C E dL_layerAnew_10 (by omega) (by omega) ⟨rfl, hp⟩
set_option maxHeartbeats 1000000 in
set_option maxRecDepth 20000 in
theorem W_sellBlendB0 (l : Launch) (hfl : l.stackTraces = false) (D : va_G) (cy : Nat → Nat) (σ : Wd) (tg ad : Nat → Nat) (bs : List Bn) (ru : Nat → Int × Int) (se : Int) (pf : Nat → Int) (hd : Hd) (ca : Int) (evs : List Evt) (ln : List Int) (hX0 : RX cy σ tg ad bs ru se pf hd ca evs ln) (a b : Int) (ha9 : (-2147483648 ≤ a ∧ a < 2147483648)) (hb9 : (-2147483648 ≤ b ∧ b < 2147483648)) (n x : Int) (hn9 : (-2147483648 ≤ n ∧ n < 2147483648)) (hx8 : (-2147483648 ≤ x ∧ x < 2147483648)) (h : ¬ ((0 ≤ a ∧ a < (bs.length : Int)) ∧ (0 ≤ b ∧ b < (bs.length : Int)))) : CtH l yL_sellBlend cL_sellBlend 6 (some .int) [(0, 9, 10, 25), (0, 9, 15, 15), (0, 9, 20, 82), (0, 9, 25, 18)] 8 1 6 D cy [.ref (ad 0), vi (a), vi (b), vi (n), vi (x)] σ (fun v σ' => v = some (vi (-900001)) ∧ σ' = σ) noX := by
  refine cth_start (by decide +kernel) hfl rfl (fun κ e1 e2 e3 C E HH => ?_)
  subst e1 e2 e3
  have C : Cx κ cL_sellBlend 6 RL "sellBlend" 8 := C
  obtain ⟨-, -, -, -, hc, hs⟩ := id E
  show J κ σ [(0, .ref (ad 0)), (1, vi (a)), (2, vi (b)), (3, vi (n)), (4, vi (x))] 0 [] 0 0
  have x1 := hX0.1.1
  refine j_aload_n 0 C dL_sellBlend_0 rfl rfl rfl ?_
  refine j_iload_n 1 C dL_sellBlend_1 rfl rfl rfl ?_
  refine j_iload_n 2 C dL_sellBlend_2 rfl rfl rfl ?_
  refine j_iload_n 3 C dL_sellBlend_3 rfl rfl rfl ?_
  refine j_iload 4 C dL_sellBlend_4 rfl rfl ?_
  refine j_callV (st' := []) (As := [vi (a), vi (b), vi (n), vi (x)]) C dL_sellBlend_6 rfl m_L_79 x1 rfl rfl rfl (c_sellBlendB0 (kL κ) hfl (kD κ) (kc κ) σ tg ad bs ru se pf hd ca evs ln hX0 a b ha9 hb9 n x hn9 hx8 h) rfl (by omega) (by omega) (by omega) (fun E9 τ1 hx => ?_) (fun _ _ hx => hx.elim)
  obtain ⟨rfl, hp⟩ := hx
  refine j_catch [] (0, 9, 10, 25) [(0, 9, 15, 15), (0, 9, 20, 82), (0, 9, 25, 18)] C HH rfl (fun z hz => absurd hz List.not_mem_nil) ⟨by decide, by decide⟩ (by decide) hl_25 hc_25 (fun q9 => ?_)
  refine j_astore (lv' := [(0, .ref (ad 0)), (1, vi (a)), (2, vi (b)), (3, vi (n)), (4, vi (x)), (5, .ref q9)]) [1, 2, 3, 4, 5, 0] C dL_sellBlend_10 rfl rfl rfl ?_
  refine j_ldc (z := (-900001)) C dL_sellBlend_12 rfl kc_L_17 ?_
  exact j_iret C E dL_sellBlend_14 (by omega) (by omega) ⟨rfl, hp⟩
set_option maxHeartbeats 1000000 in
set_option maxRecDepth 20000 in
theorem W_sellBlendB1 (l : Launch) (hfl : l.stackTraces = false) (D : va_G) (cy : Nat → Nat) (σ : Wd) (tg ad : Nat → Nat) (bs : List Bn) (ru : Nat → Int × Int) (se : Int) (pf : Nat → Int) (hd : Hd) (ca : Int) (evs : List Evt) (ln : List Int) (hX0 : RX cy σ tg ad bs ru se pf hd ca evs ln) (i : Nat) (hi : i < bs.length) (j : Nat) (hj : j < bs.length) (n x : Int) (hn9 : (-2147483648 ≤ n ∧ n < 2147483648)) (hx8 : (-2147483648 ≤ x ∧ x < 2147483648)) (h : ¬ (i ≠ j ∧ (1 ≤ n ∧ n ≤ 500) ∧ (80 ≤ x ∧ x ≤ 300))) : CtH l yL_sellBlend cL_sellBlend 6 (some .int) [(0, 9, 10, 25), (0, 9, 15, 15), (0, 9, 20, 82), (0, 9, 25, 18)] 8 1 6 D cy [.ref (ad 0), vi ((i : Int)), vi ((j : Int)), vi (n), vi (x)] σ (fun v σ' => v = some (vi (-900002)) ∧ σ' = σ) noX := by
  refine cth_start (by decide +kernel) hfl rfl (fun κ e1 e2 e3 C E HH => ?_)
  subst e1 e2 e3
  have C : Cx κ cL_sellBlend 6 RL "sellBlend" 8 := C
  obtain ⟨-, -, -, -, hc, hs⟩ := id E
  show J κ σ [(0, .ref (ad 0)), (1, vi (i : Int)), (2, vi (j : Int)), (3, vi (n)), (4, vi (x))] 0 [] 0 0
  have x1 := hX0.1.1
  refine j_aload_n 0 C dL_sellBlend_0 rfl rfl rfl ?_
  refine j_iload_n 1 C dL_sellBlend_1 rfl rfl rfl ?_
  refine j_iload_n 2 C dL_sellBlend_2 rfl rfl rfl ?_
  refine j_iload_n 3 C dL_sellBlend_3 rfl rfl rfl ?_
  refine j_iload 4 C dL_sellBlend_4 rfl rfl ?_
  refine j_callV (st' := []) (As := [vi (i : Int), vi (j : Int), vi (n), vi (x)]) C dL_sellBlend_6 rfl m_L_79 x1 rfl rfl rfl (c_sellBlendB1 (kL κ) hfl (kD κ) (kc κ) σ tg ad bs ru se pf hd ca evs ln hX0 i hi j hj n x hn9 hx8 h) rfl (by omega) (by omega) (by omega) (fun E9 τ1 hx => ?_) (fun _ _ hx => hx.elim)
  obtain ⟨rfl, hp⟩ := hx
  refine j_catch [(0, 9, 10, 25)] (0, 9, 15, 15) [(0, 9, 20, 82), (0, 9, 25, 18)] C HH rfl (List.forall_mem_cons.mpr ⟨⟨by decide, "java/lang/IndexOutOfBoundsException", hl_25, by decide⟩, fun z hz => absurd hz List.not_mem_nil⟩) ⟨by decide, by decide⟩ (by decide) hl_15 hc_15 (fun q9 => ?_)
  refine j_astore (lv' := [(0, .ref (ad 0)), (1, vi (i : Int)), (2, vi (j : Int)), (3, vi (n)), (4, vi (x)), (5, .ref q9)]) [1, 2, 3, 4, 5, 0] C dL_sellBlend_15 rfl rfl rfl ?_
  refine j_ldc (z := (-900002)) C dL_sellBlend_17 rfl kc_L_20 ?_
  exact j_iret C E dL_sellBlend_19 (by omega) (by omega) ⟨rfl, hp⟩
set_option maxHeartbeats 1000000 in
set_option maxRecDepth 20000 in
theorem W_sellBlend (l : Launch) (hfl : l.stackTraces = false) (D : va_G) (cy : Nat → Nat) (σ : Wd) (tg ad : Nat → Nat) (bs : List Bn) (ru : Nat → Int × Int) (se : Int) (pf : Nat → Int) (hd : Hd) (ca : Int) (evs : List Evt) (ln : List Int) (hX0 : RX cy σ tg ad bs ru se pf hd ca evs ln) (i : Nat) (hi : i < bs.length) (j : Nat) (hj : j < bs.length) (hij : i ≠ j) (n x : Int) (hn9 : (-2147483648 ≤ n ∧ n < 2147483648)) (hx8 : (-2147483648 ≤ x ∧ x < 2147483648)) (hn : 1 ≤ n ∧ n ≤ 500) (hx9 : 80 ≤ x ∧ x ≤ 300) (hfound : (bestF pf (fl (gB bs i)) (fl (gB bs j)) n (n * x)).1 = true) (hl : evs.length < 80) : CtH l yL_sellBlend cL_sellBlend 6 (some .int) [(0, 9, 10, 25), (0, 9, 15, 15), (0, 9, 20, 82), (0, 9, 25, 18)] 8 7 288 D cy [.ref (ad 0), vi ((i : Int)), vi ((j : Int)), vi (n), vi (x)] σ (fun v σ' => v = some (vi (n * pf (gradeM ru se (fl (gB bs i)) (fl (gB bs j)) (bestF pf (fl (gB bs i)) (fl (gB bs j)) n (n * x)).2.1 (n - (bestF pf (fl (gB bs i)) (fl (gB bs j)) n (n * x)).2.1)).toNat)) ∧ ∃ tg' ad' : Nat → Nat, RX cy σ' tg' ad' (apB (gradeF ru se) bs (98, (i : Int), (j : Int), (bestF pf (fl (gB bs i)) (fl (gB bs j)) n (n * x)).2.1, n - (bestF pf (fl (gB bs i)) (fl (gB bs j)) n (n * x)).2.1, 0, 0)) ru se pf (hdF hd (totB (apB (gradeF ru se) bs (98, (i : Int), (j : Int), (bestF pf (fl (gB bs i)) (fl (gB bs j)) n (n * x)).2.1, n - (bestF pf (fl (gB bs i)) (fl (gB bs j)) n (n * x)).2.1, 0, 0)))) (ca + n * pf (gradeM ru se (fl (gB bs i)) (fl (gB bs j)) (bestF pf (fl (gB bs i)) (fl (gB bs j)) n (n * x)).2.1 (n - (bestF pf (fl (gB bs i)) (fl (gB bs j)) n (n * x)).2.1)).toNat) (evs ++ [(98, (i : Int), (j : Int), (bestF pf (fl (gB bs i)) (fl (gB bs j)) n (n * x)).2.1, n - (bestF pf (fl (gB bs i)) (fl (gB bs j)) n (n * x)).2.1, 0, 0)]) ln ∧ (∀ y, y ∈ σ.1 → tg' y = tg y) ∧ ad' 0 = ad 0 ∧ Keep σ σ' (fun y => tg y < 1000) ∧ ∀ y, y ∈ σ.1 → y ∈ σ'.1) noX := by
  refine cth_start (by decide +kernel) hfl rfl (fun κ e1 e2 e3 C E HH => ?_)
  subst e1 e2 e3
  have C : Cx κ cL_sellBlend 6 RL "sellBlend" 8 := C
  obtain ⟨-, -, -, -, hc, hs⟩ := id E
  show J κ σ [(0, .ref (ad 0)), (1, vi (i : Int)), (2, vi (j : Int)), (3, vi (n)), (4, vi (x))] 0 [] 0 0
  have x1 := hX0.1.1
  refine j_aload_n 0 C dL_sellBlend_0 rfl rfl rfl ?_
  refine j_iload_n 1 C dL_sellBlend_1 rfl rfl rfl ?_
  refine j_iload_n 2 C dL_sellBlend_2 rfl rfl rfl ?_
  refine j_iload_n 3 C dL_sellBlend_3 rfl rfl rfl ?_
  refine j_iload 4 C dL_sellBlend_4 rfl rfl ?_
  refine j_callV (st' := []) (As := [vi (i : Int), vi (j : Int), vi (n), vi (x)]) C dL_sellBlend_6 rfl m_L_79 x1 rfl rfl rfl (c_sellBlend (kL κ) hfl (kD κ) (kc κ) σ tg ad bs ru se pf hd ca evs ln hX0 i hi j hj hij n x hn9 hx8 hn hx9 hfound hl) rfl (by omega) (by omega) (by omega) (fun _ _ hx => hx.elim) (fun v1 τ1 hp => ?_)
  obtain ⟨rfl, hp⟩ := hp
  exact j_iret C E dL_sellBlend_9 (by omega) (by omega) ⟨rfl, hp⟩
set_option maxHeartbeats 1000000 in
set_option maxRecDepth 20000 in
theorem W_writeBin (l : Launch) (hfl : l.stackTraces = false) (D : va_G) (cy : Nat → Nat) (σ : Wd) (tg ad : Nat → Nat) (bs : List Bn) (ru : Nat → Int × Int) (se : Int) (pf : Nat → Int) (hd : Hd) (ca : Int) (evs : List Evt) (ln : List Int) (hX0 : RX cy σ tg ad bs ru se pf hd ca evs ln) (i : Nat) (hi : i < bs.length) : CtH l yL_writeBin cL_writeBin 3 (some .int) [(0, 5, 6, 25)] 8 250 7604 D cy [.ref (ad 0), vi ((i : Int))] σ (fun v σ' => v = some (vi ((lnF (fl (gB bs i))).length : Int)) ∧ ∃ tg' ad' : Nat → Nat, RX cy σ' tg' ad' bs ru se pf hd ca evs (lnF (fl (gB bs i))) ∧ (∀ y, y ∈ σ.1 → tg' y = tg y) ∧ ad' 0 = ad 0 ∧ Keep σ σ' (fun y => tg y < 1000) ∧ ∀ y, y ∈ σ.1 → y ∈ σ'.1) noX := by
  refine cth_start (by decide +kernel) hfl rfl (fun κ e1 e2 e3 C E HH => ?_)
  subst e1 e2 e3
  have C : Cx κ cL_writeBin 3 RL "writeBin" 8 := C
  obtain ⟨-, -, -, -, hc, hs⟩ := id E
  show J κ σ [(0, .ref (ad 0)), (1, vi (i : Int))] 0 [] 0 0
  have x1 := hX0.1.1
  refine j_aload_n 0 C dL_writeBin_0 rfl rfl rfl ?_
  refine j_iload_n 1 C dL_writeBin_1 rfl rfl rfl ?_
  refine j_callV (st' := []) (As := [vi (i : Int)]) C dL_writeBin_2 rfl m_L_88 x1 rfl rfl rfl (c_writeBin (kL κ) hfl (kD κ) (kc κ) σ tg ad bs ru se pf hd ca evs ln hX0 i hi) rfl (by omega) (by omega) (by omega) (fun _ _ hx => hx.elim) (fun v1 τ1 hp => ?_)
  obtain ⟨rfl, hp⟩ := hp
  exact j_iret C E dL_writeBin_5 (by omega) (by omega) ⟨rfl, hp⟩
set_option maxHeartbeats 1000000 in
set_option maxRecDepth 20000 in
theorem W_writeBinB (l : Launch) (hfl : l.stackTraces = false) (D : va_G) (cy : Nat → Nat) (σ : Wd) (tg ad : Nat → Nat) (bs : List Bn) (ru : Nat → Int × Int) (se : Int) (pf : Nat → Int) (hd : Hd) (ca : Int) (evs : List Evt) (ln : List Int) (hX0 : RX cy σ tg ad bs ru se pf hd ca evs ln) (b : Int) (hb9 : (-2147483648 ≤ b ∧ b < 2147483648)) (hbad : b < 0 ∨ (bs.length : Int) ≤ b) : CtH l yL_writeBin cL_writeBin 3 (some .int) [(0, 5, 6, 25)] 8 1 6 D cy [.ref (ad 0), vi (b)] σ (fun v σ' => v = some (vi (-900001)) ∧ σ' = σ) noX := by
  refine cth_start (by decide +kernel) hfl rfl (fun κ e1 e2 e3 C E HH => ?_)
  subst e1 e2 e3
  have C : Cx κ cL_writeBin 3 RL "writeBin" 8 := C
  obtain ⟨-, -, -, -, hc, hs⟩ := id E
  show J κ σ [(0, .ref (ad 0)), (1, vi (b))] 0 [] 0 0
  have x1 := hX0.1.1
  refine j_aload_n 0 C dL_writeBin_0 rfl rfl rfl ?_
  refine j_iload_n 1 C dL_writeBin_1 rfl rfl rfl ?_
  refine j_callV (st' := []) (As := [vi (b)]) C dL_writeBin_2 rfl m_L_88 x1 rfl rfl rfl (c_writeBinB (kL κ) hfl (kD κ) (kc κ) σ tg ad bs ru se pf hd ca evs ln hX0 b hb9 hbad) rfl (by omega) (by omega) (by omega) (fun E9 τ1 hx => ?_) (fun _ _ hx => hx.elim)
  obtain ⟨rfl, hp⟩ := hx
  refine j_catch [] (0, 5, 6, 25) [] C HH rfl (fun z hz => absurd hz List.not_mem_nil) ⟨by decide, by decide⟩ (by decide) hl_25 hc_25 (fun q9 => ?_)
  refine j_astore_n (lv' := [(0, .ref (ad 0)), (1, vi (b)), (2, .ref q9)]) [1, 2, 0] C dL_writeBin_6 rfl rfl rfl rfl ?_
  refine j_ldc (z := (-900001)) C dL_writeBin_7 rfl kc_L_17 ?_
  exact j_iret C E dL_writeBin_9 (by omega) (by omega) ⟨rfl, hp⟩
set_option maxHeartbeats 1000000 in
set_option maxRecDepth 20000 in
theorem W_addBin (l : Launch) (hfl : l.stackTraces = false) (D : va_G) (cy : Nat → Nat) (σ : Wd) (tg ad : Nat → Nat) (bs : List Bn) (ru : Nat → Int × Int) (se : Int) (pf : Nat → Int) (hd : Hd) (ca : Int) (evs : List Evt) (ln : List Int) (hX0 : RX cy σ tg ad bs ru se pf hd ca evs ln) (c : Int) (hc8 : (-2147483648 ≤ c ∧ c < 2147483648)) (m : Bool) (hc9 : 1 ≤ c ∧ c ≤ 5000) (hn6 : bs.length < 6) : CtH l yL_addBin cL_addBin 4 (some .int) [(0, 6, 7, 15), (0, 6, 11, 18)] 8 12 1158 D cy [.ref (ad 0), vi (c), vi (b01 m)] σ (fun v σ' => v = some (vi (bs.length : Int)) ∧ ∃ tg' ad' : Nat → Nat, RX cy σ' tg' ad' (bs ++ [(c, m, [])]) ru se pf hd ca evs ln ∧ (∀ y, y ∈ σ.1 → tg' y = tg y) ∧ ad' 0 = ad 0 ∧ Keep σ σ' (fun y => tg y < 1000) ∧ ∀ y, y ∈ σ.1 → y ∈ σ'.1) noX := by
  refine cth_start (by decide +kernel) hfl rfl (fun κ e1 e2 e3 C E HH => ?_)
  subst e1 e2 e3
  have C : Cx κ cL_addBin 4 RL "addBin" 8 := C
  obtain ⟨-, -, -, -, hc, hs⟩ := id E
  show J κ σ [(0, .ref (ad 0)), (1, vi (c)), (2, vi (b01 m))] 0 [] 0 0
  have x1 := hX0.1.1
  refine j_aload_n 0 C dL_addBin_0 rfl rfl rfl ?_
  refine j_iload_n 1 C dL_addBin_1 rfl rfl rfl ?_
  refine j_iload_n 2 C dL_addBin_2 rfl rfl rfl ?_
  refine j_callV (st' := []) (As := [vi (c), vi (b01 m)]) C dL_addBin_3 rfl m_L_9 x1 rfl rfl rfl (c_addBin (kL κ) hfl (kD κ) (kc κ) σ tg ad bs ru se pf hd ca evs ln hX0 c hc8 m hc9 hn6) rfl (by omega) (by omega) (by omega) (fun _ _ hx => hx.elim) (fun v1 τ1 hp => ?_)
  obtain ⟨rfl, hp⟩ := hp
  exact j_iret C E dL_addBin_6 (by omega) (by omega) ⟨rfl, hp⟩
set_option maxHeartbeats 1000000 in
set_option maxRecDepth 20000 in
theorem W_addBinB1 (l : Launch) (hfl : l.stackTraces = false) (D : va_G) (cy : Nat → Nat) (σ : Wd) (tg ad : Nat → Nat) (bs : List Bn) (ru : Nat → Int × Int) (se : Int) (pf : Nat → Int) (hd : Hd) (ca : Int) (evs : List Evt) (ln : List Int) (hX0 : RX cy σ tg ad bs ru se pf hd ca evs ln) (c : Int) (hc8 : (-2147483648 ≤ c ∧ c < 2147483648)) (m : Bool) (h : c < 1 ∨ 5000 < c) : CtH l yL_addBin cL_addBin 4 (some .int) [(0, 6, 7, 15), (0, 6, 11, 18)] 8 1 6 D cy [.ref (ad 0), vi (c), vi (b01 m)] σ (fun v σ' => v = some (vi (-900001)) ∧ σ' = σ) noX := by
  refine cth_start (by decide +kernel) hfl rfl (fun κ e1 e2 e3 C E HH => ?_)
  subst e1 e2 e3
  have C : Cx κ cL_addBin 4 RL "addBin" 8 := C
  obtain ⟨-, -, -, -, hc, hs⟩ := id E
  show J κ σ [(0, .ref (ad 0)), (1, vi (c)), (2, vi (b01 m))] 0 [] 0 0
  have x1 := hX0.1.1
  refine j_aload_n 0 C dL_addBin_0 rfl rfl rfl ?_
  refine j_iload_n 1 C dL_addBin_1 rfl rfl rfl ?_
  refine j_iload_n 2 C dL_addBin_2 rfl rfl rfl ?_
  refine j_callV (st' := []) (As := [vi (c), vi (b01 m)]) C dL_addBin_3 rfl m_L_9 x1 rfl rfl rfl (c_addBinB1 (kL κ) hfl (kD κ) (kc κ) σ tg ad bs ru se pf hd ca evs ln hX0 c hc8 m h) rfl (by omega) (by omega) (by omega) (fun E9 τ1 hx => ?_) (fun _ _ hx => hx.elim)
  obtain ⟨rfl, hp⟩ := hx
  refine j_catch [] (0, 6, 7, 15) [(0, 6, 11, 18)] C HH rfl (fun z hz => absurd hz List.not_mem_nil) ⟨by decide, by decide⟩ (by decide) hl_15 hc_15 (fun q9 => ?_)
  refine j_astore_n (lv' := [(0, .ref (ad 0)), (1, vi (c)), (2, vi (b01 m)), (3, .ref q9)]) [1, 2, 3, 0] C dL_addBin_7 rfl rfl rfl rfl ?_
  refine j_ldc (z := (-900001)) C dL_addBin_8 rfl kc_L_17 ?_
  exact j_iret C E dL_addBin_10 (by omega) (by omega) ⟨rfl, hp⟩
set_option maxHeartbeats 1000000 in
set_option maxRecDepth 20000 in
theorem W_addBinB2 (l : Launch) (hfl : l.stackTraces = false) (D : va_G) (cy : Nat → Nat) (σ : Wd) (tg ad : Nat → Nat) (bs : List Bn) (ru : Nat → Int × Int) (se : Int) (pf : Nat → Int) (hd : Hd) (ca : Int) (evs : List Evt) (ln : List Int) (hX0 : RX cy σ tg ad bs ru se pf hd ca evs ln) (c : Int) (hc8 : (-2147483648 ≤ c ∧ c < 2147483648)) (m : Bool) (hc9 : 1 ≤ c ∧ c ≤ 5000) (hn6 : (bs.length : Int) = 6) : CtH l yL_addBin cL_addBin 4 (some .int) [(0, 6, 7, 15), (0, 6, 11, 18)] 8 1 6 D cy [.ref (ad 0), vi (c), vi (b01 m)] σ (fun v σ' => v = some (vi (-900002)) ∧ σ' = σ) noX := by
  refine cth_start (by decide +kernel) hfl rfl (fun κ e1 e2 e3 C E HH => ?_)
  subst e1 e2 e3
  have C : Cx κ cL_addBin 4 RL "addBin" 8 := C
  obtain ⟨-, -, -, -, hc, hs⟩ := id E
  show J κ σ [(0, .ref (ad 0)), (1, vi (c)), (2, vi (b01 m))] 0 [] 0 0
  have x1 := hX0.1.1
  refine j_aload_n 0 C dL_addBin_0 rfl rfl rfl ?_
  refine j_iload_n 1 C dL_addBin_1 rfl rfl rfl ?_
  refine j_iload_n 2 C dL_addBin_2 rfl rfl rfl ?_
  refine j_callV (st' := []) (As := [vi (c), vi (b01 m)]) C dL_addBin_3 rfl m_L_9 x1 rfl rfl rfl (c_addBinB2 (kL κ) hfl (kD κ) (kc κ) σ tg ad bs ru se pf hd ca evs ln hX0 c hc8 m hc9 hn6) rfl (by omega) (by omega) (by omega) (fun E9 τ1 hx => ?_) (fun _ _ hx => hx.elim)
  obtain ⟨rfl, hp⟩ := hx
  refine j_catch [(0, 6, 7, 15)] (0, 6, 11, 18) [] C HH rfl (List.forall_mem_cons.mpr ⟨⟨by decide, "java/lang/IllegalArgumentException", hl_15, by decide⟩, fun z hz => absurd hz List.not_mem_nil⟩) ⟨by decide, by decide⟩ (by decide) hl_18 hc_18 (fun q9 => ?_)
  refine j_astore_n (lv' := [(0, .ref (ad 0)), (1, vi (c)), (2, vi (b01 m)), (3, .ref q9)]) [1, 2, 3, 0] C dL_addBin_11 rfl rfl rfl rfl ?_
  refine j_ldc (z := (-900002)) C dL_addBin_12 rfl kc_L_20 ?_
  exact j_iret C E dL_addBin_14 (by omega) (by omega) ⟨rfl, hp⟩
set_option maxHeartbeats 1000000 in
set_option maxRecDepth 20000 in
theorem W_sellBlendB2 (l : Launch) (hfl : l.stackTraces = false) (D : va_G) (cy : Nat → Nat) (σ : Wd) (tg ad : Nat → Nat) (bs : List Bn) (ru : Nat → Int × Int) (se : Int) (pf : Nat → Int) (hd : Hd) (ca : Int) (evs : List Evt) (ln : List Int) (hX0 : RX cy σ tg ad bs ru se pf hd ca evs ln) (i : Nat) (hi : i < bs.length) (j : Nat) (hj : j < bs.length) (hij : i ≠ j) (n x : Int) (hn9 : (-2147483648 ≤ n ∧ n < 2147483648)) (hx8 : (-2147483648 ≤ x ∧ x < 2147483648)) (hn : 1 ≤ n ∧ n ≤ 500) (hx9 : 80 ≤ x ∧ x ≤ 300) (hf : ¬ (bestF pf (fl (gB bs i)) (fl (gB bs j)) n (n * x)).1 = true) : CtH l yL_sellBlend cL_sellBlend 6 (some .int) [(0, 9, 10, 25), (0, 9, 15, 15), (0, 9, 20, 82), (0, 9, 25, 18)] 8 4 23 D cy [.ref (ad 0), vi ((i : Int)), vi ((j : Int)), vi (n), vi (x)] σ (fun v σ' => v = some (vi (-900003)) ∧ Keep σ σ' (fun _ => False)) noX := by
  refine cth_start (by decide +kernel) hfl rfl (fun κ e1 e2 e3 C E HH => ?_)
  subst e1 e2 e3
  have C : Cx κ cL_sellBlend 6 RL "sellBlend" 8 := C
  obtain ⟨-, -, -, -, hc, hs⟩ := id E
  show J κ σ [(0, .ref (ad 0)), (1, vi (i : Int)), (2, vi (j : Int)), (3, vi (n)), (4, vi (x))] 0 [] 0 0
  have x1 := hX0.1.1
  refine j_aload_n 0 C dL_sellBlend_0 rfl rfl rfl ?_
  refine j_iload_n 1 C dL_sellBlend_1 rfl rfl rfl ?_
  refine j_iload_n 2 C dL_sellBlend_2 rfl rfl rfl ?_
  refine j_iload_n 3 C dL_sellBlend_3 rfl rfl rfl ?_
  refine j_iload 4 C dL_sellBlend_4 rfl rfl ?_
  refine j_callV (st' := []) (As := [vi (i : Int), vi (j : Int), vi (n), vi (x)]) C dL_sellBlend_6 rfl m_L_79 x1 rfl rfl rfl (c_sellBlendB2 (kL κ) hfl (kD κ) (kc κ) σ tg ad bs ru se pf hd ca evs ln hX0 i hi j hj hij n x hn9 hx8 hn hx9 hf) rfl (by omega) (by omega) (by omega) (fun E9 τ1 hx => ?_) (fun _ _ hx => hx.elim)
  obtain ⟨rfl, hp⟩ := hx
  refine j_catch [(0, 9, 10, 25), (0, 9, 15, 15)] (0, 9, 20, 82) [(0, 9, 25, 18)] C HH rfl (List.forall_mem_cons.mpr ⟨⟨by decide, "java/lang/IndexOutOfBoundsException", hl_25, by decide⟩, List.forall_mem_cons.mpr ⟨⟨by decide, "java/lang/IllegalArgumentException", hl_15, by decide⟩, fun z hz => absurd hz List.not_mem_nil⟩⟩) ⟨by decide, by decide⟩ (by decide) hl_82 hc_82 (fun q9 => ?_)
  refine j_astore (lv' := [(0, .ref (ad 0)), (1, vi (i : Int)), (2, vi (j : Int)), (3, vi (n)), (4, vi (x)), (5, .ref q9)]) [1, 2, 3, 4, 5, 0] C dL_sellBlend_20 rfl rfl rfl ?_
  refine j_ldc (z := (-900003)) C dL_sellBlend_22 rfl kc_L_44 ?_
  exact j_iret C E dL_sellBlend_24 (by omega) (by omega) ⟨rfl, hp⟩
set_option maxHeartbeats 1000000 in
set_option maxRecDepth 20000 in
theorem W_sellBlendB3 (l : Launch) (hfl : l.stackTraces = false) (D : va_G) (cy : Nat → Nat) (σ : Wd) (tg ad : Nat → Nat) (bs : List Bn) (ru : Nat → Int × Int) (se : Int) (pf : Nat → Int) (hd : Hd) (ca : Int) (evs : List Evt) (ln : List Int) (hX0 : RX cy σ tg ad bs ru se pf hd ca evs ln) (i : Nat) (hi : i < bs.length) (j : Nat) (hj : j < bs.length) (hij : i ≠ j) (n x : Int) (hn9 : (-2147483648 ≤ n ∧ n < 2147483648)) (hx8 : (-2147483648 ≤ x ∧ x < 2147483648)) (hn : 1 ≤ n ∧ n ≤ 500) (hx9 : 80 ≤ x ∧ x ≤ 300) (hfound : (bestF pf (fl (gB bs i)) (fl (gB bs j)) n (n * x)).1 = true) (hl : 80 ≤ evs.length) : CtH l yL_sellBlend cL_sellBlend 6 (some .int) [(0, 9, 10, 25), (0, 9, 15, 15), (0, 9, 20, 82), (0, 9, 25, 18)] 8 4 23 D cy [.ref (ad 0), vi ((i : Int)), vi ((j : Int)), vi (n), vi (x)] σ (fun v σ' => v = some (vi (-900004)) ∧ Keep σ σ' (fun _ => False)) noX := by
  refine cth_start (by decide +kernel) hfl rfl (fun κ e1 e2 e3 C E HH => ?_)
  subst e1 e2 e3
  have C : Cx κ cL_sellBlend 6 RL "sellBlend" 8 := C
  obtain ⟨-, -, -, -, hc, hs⟩ := id E
  show J κ σ [(0, .ref (ad 0)), (1, vi (i : Int)), (2, vi (j : Int)), (3, vi (n)), (4, vi (x))] 0 [] 0 0
  have x1 := hX0.1.1
  refine j_aload_n 0 C dL_sellBlend_0 rfl rfl rfl ?_
  refine j_iload_n 1 C dL_sellBlend_1 rfl rfl rfl ?_
  refine j_iload_n 2 C dL_sellBlend_2 rfl rfl rfl ?_
  refine j_iload_n 3 C dL_sellBlend_3 rfl rfl rfl ?_
  refine j_iload 4 C dL_sellBlend_4 rfl rfl ?_
  refine j_callV (st' := []) (As := [vi (i : Int), vi (j : Int), vi (n), vi (x)]) C dL_sellBlend_6 rfl m_L_79 x1 rfl rfl rfl (c_sellBlendB3 (kL κ) hfl (kD κ) (kc κ) σ tg ad bs ru se pf hd ca evs ln hX0 i hi j hj hij n x hn9 hx8 hn hx9 hfound hl) rfl (by omega) (by omega) (by omega) (fun E9 τ1 hx => ?_) (fun _ _ hx => hx.elim)
  obtain ⟨rfl, hp⟩ := hx
  refine j_catch [(0, 9, 10, 25), (0, 9, 15, 15), (0, 9, 20, 82)] (0, 9, 25, 18) [] C HH rfl (List.forall_mem_cons.mpr ⟨⟨by decide, "java/lang/IndexOutOfBoundsException", hl_25, by decide⟩, List.forall_mem_cons.mpr ⟨⟨by decide, "java/lang/IllegalArgumentException", hl_15, by decide⟩, List.forall_mem_cons.mpr ⟨⟨by decide, "java/util/NoSuchElementException", hl_82, by decide⟩, fun z hz => absurd hz List.not_mem_nil⟩⟩⟩) ⟨by decide, by decide⟩ (by decide) hl_18 hc_18 (fun q9 => ?_)
  refine j_astore (lv' := [(0, .ref (ad 0)), (1, vi (i : Int)), (2, vi (j : Int)), (3, vi (n)), (4, vi (x)), (5, .ref q9)]) [1, 2, 3, 4, 5, 0] C dL_sellBlend_25 rfl rfl rfl ?_
  refine j_ldc (z := (-900004)) C dL_sellBlend_27 rfl kc_L_84 ?_
  exact j_iret C E dL_sellBlend_29 (by omega) (by omega) ⟨rfl, hp⟩
