/-! the law's own: isLine -/
set_option maxHeartbeats 8000000 in
set_option maxRecDepth 20000 in
theorem c_isLine (l : Launch) (hfl : l.stackTraces = false) (D : va_G) (cy : Nat → Nat) (σ : Wd) (tg ad : Nat → Nat) (bs : List Bn) (ru : Nat → Int × Int) (se : Int) (pf : Nat → Int) (hd : Hd) (ca : Int) (evs : List Evt) (ln : List Int) (hX0 : RX cy σ tg ad bs ru se pf hd ca evs ln) (i : Nat) (hi : i < bs.length) (t d cap : Nat) (hT : SbR cy σ t d cap (lnF (fl (gB bs (i : Int))))) (htt : 1000 ≤ tg t) (htd : 1000 ≤ tg d) (hcl : (lnF (fl (gB bs (i : Int)))).length ≤ 900) : Ct l yL_isLine cL_isLine 5 (some .boolean) 9 251 7610 D cy [.ref (ad 0), vi ((i : Int)), .ref t] σ (fun v σ' => v = some (vi 1) ∧ ∃ tg' ad' : Nat → Nat, RX cy σ' tg' ad' bs ru se pf hd ca evs (lnF (fl (gB bs (i : Int)))) ∧ (∀ y, y ∈ σ.1 → tg' y = tg y) ∧ ad' 0 = ad 0 ∧ Keep σ σ' (fun y => tg y < 1000) ∧ ∀ y, y ∈ σ.1 → y ∈ σ'.1) noX := by
  refine ct_start (by decide +kernel) hfl rfl (fun κ e1 e2 e3 C E NH => ?_)
  subst e1 e2 e3
  have C : Cx κ cL_isLine 5 RL "isLine" 9 := C
  obtain ⟨-, -, -, -, hc, hs⟩ := id E
  show J κ σ [(0, .ref (ad 0)), (1, vi ((i : Int))), (2, .ref t)] 0 [] 0 0
  obtain ⟨CS, hCS⟩ : ∃ l, lnF (fl (gB bs (i : Int))) = l := ⟨_, rfl⟩
  rw [hCS] at hT hcl
  refine j_aload_n 0 C dL_isLine_0 rfl rfl rfl ?_
  refine j_iload_n 1 C dL_isLine_1 rfl rfl rfl ?_
  refine j_callSH (st' := []) (As := [.ref (ad 0), vi ((i : Int))]) C dL_isLine_2 rfl m_L_236 rfl rfl (W_writeBin (kL κ) hfl (kD κ) (kc κ) σ tg ad bs ru se pf hd ca evs ln hX0 i hi) rfl (by omega) (by omega) (by omega) (fun _ _ hx => hx.elim) (fun v2 τ1 hp3 => ?_)
  obtain ⟨rfl, tg', ad', hR9, hT9, hA9, hK9, hM9⟩ := hp3
  rw [hCS] at hR9 ⊢
  show J κ τ1 [(0, .ref (ad 0)), (1, vi ((i : Int))), (2, .ref t)] 5 [vi ((CS.length : Int))] _ _
  have hT1 := hT.keep hK9 ⟨fun z => by have z1 : tg t < 1000 := z; omega, fun z => by have z1 : tg d < 1000 := z; omega⟩
  have hx9 := hR9.1.1
  obtain ⟨ml4, gg4, hS4, -⟩ := id hT1
  obtain ⟨hh4, -⟩ := hS4
  refine j_locals (lv' := [(0, .ref (ad' 0)), (1, vi ((i : Int))), (2, .ref t)]) [0, 1, 2] (by rw [hA9]; rfl) ?_
  refine j_aload_n 2 C dL_isLine_5 rfl rfl rfl ?_
  refine j_callV (st' := [vi ((CS.length : Int))]) (As := []) C dL_isLine_6 rfl m_L_238 hh4 rfl rfl rfl (c_sbLength (kL κ) hfl (kD κ) (kc κ) τ1 t d cap CS hT1) rfl (by omega) (by omega) (by omega) (fun _ _ hx => hx.elim) (fun v6 τ5 hp7 => ?_)
  obtain ⟨rfl, hs9⟩ := hp7
  replace hs9 := hs9.symm
  subst hs9
  show J κ τ1 [(0, .ref (ad' 0)), (1, vi ((i : Int))), (2, .ref t)] 9 [vi ((CS.length : Int)), vi ((CS.length : Int))] _ _
  refine j_icmp_ne (tgt := 29) C dL_isLine_9 rfl rfl ⟨by omega, by omega⟩ ⟨by omega, by omega⟩ (fun cc8 => ?_) (fun cc8 => ?_)
  · exact absurd cc8 (fun q => q rfl)
  · refine j_aload_n 0 C dL_isLine_12 rfl rfl rfl ?_
    refine j_aload_n 2 C dL_isLine_13 rfl rfl rfl ?_
    refine j_callV (st' := [.ref (ad' 0)]) (As := []) C dL_isLine_14 rfl m_L_238 hh4 rfl rfl rfl (c_sbLength (kL κ) hfl (kD κ) (kc κ) τ1 t d cap CS hT1) rfl (by omega) (by omega) (by omega) (fun _ _ hx => hx.elim) (fun v10 τ9 hp11 => ?_)
    obtain ⟨rfl, hs9⟩ := hp11
    replace hs9 := hs9.symm
    subst hs9
    show J κ τ1 [(0, .ref (ad' 0)), (1, vi ((i : Int))), (2, .ref t)] 17 [vi ((CS.length : Int)), .ref (ad' 0)] _ _
    refine j_callSH (st' := []) (As := [.ref (ad' 0), vi ((CS.length : Int))]) C dL_isLine_17 rfl m_L_241 rfl rfl (W_lineAtB (kL κ) hfl (kD κ) (kc κ) τ1 tg' ad' bs ru se pf hd ca evs CS hR9 (CS.length : Int) ⟨by omega, by omega⟩ (Or.inr (Int.le_refl _))) rfl (by omega) (by omega) (by omega) (fun _ _ hx => hx.elim) (fun v13 τ12 hp14 => ?_)
    obtain ⟨rfl, hs9⟩ := hp14
    replace hs9 := hs9.symm
    subst hs9
    show J κ τ1 [(0, .ref (ad' 0)), (1, vi ((i : Int))), (2, .ref t)] 20 [vi ((-900001))] _ _
    refine j_ldc (z := (-900001)) C dL_isLine_20 rfl kc_L_17 ?_
    refine j_icmp_ne (tgt := 29) C dL_isLine_22 rfl rfl ⟨by omega, by omega⟩ ⟨by omega, by omega⟩ (fun cc15 => absurd cc15 (by decide)) (fun _ => ?_)
    refine j_iconst C dL_isLine_25 rfl ?_
    refine j_goto (tgt := 30) C dL_isLine_26 rfl ?_
    refine j_istore_n (lv' := [(0, .ref (ad' 0)), (1, vi ((i : Int))), (2, .ref t), (3, vi (1))]) [1, 2, 3, 0] C dL_isLine_30 rfl rfl rfl rfl ?_
    refine j_iconst C dL_isLine_31 rfl ?_
    refine j_istore (lv' := [(0, .ref (ad' 0)), (1, vi ((i : Int))), (2, .ref t), (3, vi (1)), (4, vi (0))]) [1, 2, 3, 4, 0] C dL_isLine_32 rfl rfl rfl ?_
    have lp : ∀ (N : Nat) (k : Nat), k ≤ CS.length → (CS.length + 1 - k) < N → J κ τ1 [(0, .ref (ad' 0)), (1, vi ((i : Int))), (2, .ref t), (3, vi (1)), (4, vi ((k : Int)))] 34 [] 251 7610 := by
      intro N
      induction N with
      | zero => intro k hk hN; exact absurd hN (Nat.not_lt_zero _)
      | succ N ih =>
        intro k hk hN
        refine j_iload 4 C dL_isLine_34 rfl rfl ?_
        refine j_aload_n 2 C dL_isLine_36 rfl rfl rfl ?_
        refine j_callV (st' := [vi ((k : Int))]) (As := []) C dL_isLine_37 rfl m_L_238 hh4 rfl rfl rfl (c_sbLength (kL κ) hfl (kD κ) (kc κ) τ1 t d cap CS hT1) rfl (by omega) (by omega) (by omega) (fun _ _ hx => hx.elim) (fun v17 τ16 hp18 => ?_)
        obtain ⟨rfl, hs9⟩ := hp18
        replace hs9 := hs9.symm
        subst hs9
        show J κ τ1 [(0, .ref (ad' 0)), (1, vi ((i : Int))), (2, .ref t), (3, vi (1)), (4, vi ((k : Int)))] 40 [vi ((CS.length : Int)), vi ((k : Int))] _ _
        refine j_icmp_ge (tgt := 72) C dL_isLine_40 rfl rfl ⟨by omega, by omega⟩ ⟨by omega, by omega⟩ (fun cc19 => ?_) (fun cc19 => ?_)
        · refine j_iload_n 3 C dL_isLine_72 rfl rfl rfl ?_
          exact j_zret C E dL_isLine_73 rfl (by omega) (by omega) ⟨rfl, tg', ad', by rw [hCS]; exact hR9, hT9, hA9, hK9, hM9⟩
        · refine j_iload_n 3 C dL_isLine_43 rfl rfl rfl ?_
          refine j_aload_n 0 C dL_isLine_44 rfl rfl rfl ?_
          refine j_iload 4 C dL_isLine_45 rfl rfl ?_
          refine j_callSH (st' := [vi (1)]) (As := [.ref (ad' 0), vi ((k : Int))]) C dL_isLine_47 rfl m_L_241 rfl rfl (W_lineAt (kL κ) hfl (kD κ) (kc κ) τ1 tg' ad' bs ru se pf hd ca evs CS hR9 (k : Int) ⟨by omega, by omega⟩ ⟨by omega, by omega⟩) rfl (by omega) (by omega) (by omega) (fun _ _ hx => hx.elim) (fun v21 τ20 hp22 => ?_)
          obtain ⟨rfl, hs9⟩ := hp22
          replace hs9 := hs9.symm
          subst hs9
          show J κ τ1 [(0, .ref (ad' 0)), (1, vi ((i : Int))), (2, .ref t), (3, vi (1)), (4, vi ((k : Int)))] 50 [vi ((CS.getD (k : Int).toNat 0)), vi (1)] _ _
          have hch := hT1.ch (i := (k : Int).toNat) (by omega)
          refine j_aload_n 2 C dL_isLine_50 rfl rfl rfl ?_
          refine j_iload 4 C dL_isLine_51 rfl rfl ?_
          refine j_callV (st' := [vi ((CS.getD (k : Int).toNat 0)), vi (1)]) (As := [vi ((k : Int))]) C dL_isLine_53 rfl m_L_243 hh4 rfl rfl rfl (c_charAt (kL κ) hfl (kD κ) (kc κ) τ1 t d cap CS hT1 (k : Int) ⟨by omega, by omega⟩) rfl (by omega) (by omega) (by omega) (fun _ _ hx => hx.elim) (fun v24 τ23 hp25 => ?_)
          obtain ⟨rfl, hs9⟩ := hp25
          replace hs9 := hs9.symm
          subst hs9
          show J κ τ1 [(0, .ref (ad' 0)), (1, vi ((i : Int))), (2, .ref t), (3, vi (1)), (4, vi ((k : Int)))] 56 [vi ((CS.getD (k : Int).toNat 0)), vi ((CS.getD (k : Int).toNat 0)), vi (1)] _ _
          refine j_icmp_ne (tgt := 63) C dL_isLine_56 rfl rfl ⟨by omega, by omega⟩ ⟨by omega, by omega⟩ (fun cc26 => ?_) (fun cc26 => ?_)
          · exact absurd cc26 (fun q => q rfl)
          · refine j_iconst C dL_isLine_59 rfl ?_
            refine j_goto (tgt := 64) C dL_isLine_60 rfl ?_
            refine j_iand (z := 1) C dL_isLine_64 rfl (by decide) ?_
            refine j_istore_n (lv' := [(0, .ref (ad' 0)), (1, vi ((i : Int))), (2, .ref t), (3, vi (1)), (4, vi ((k : Int)))]) [1, 2, 3, 0, 4] C dL_isLine_65 rfl rfl rfl rfl ?_
            refine j_iinc (y := (k : Int) + 1) (lv' := [(0, .ref (ad' 0)), (1, vi ((i : Int))), (2, .ref t), (3, vi (1)), (4, vi ((k : Int) + 1))]) 4 [1, 2, 3, 4, 0] C dL_isLine_66 rfl rfl rfl rfl rfl ?_
            refine j_goto (tgt := 34) C dL_isLine_69 rfl ?_
            exact ih (k + 1) (by omega) (by omega)
    exact lp _ 0 (Nat.zero_le _) (Nat.lt_succ_self _)
