/-! GrainElevator: load, sell, transfer, dry -/
theorem RX.retag {cy : Nat → Nat} {σ : Wd} {tg ad tg' ad' : Nat → Nat} {bs : List Bn} {ru : Nat → Int × Int} {se : Int} {pf : Nat → Int} {hd : Hd} {ca : Int} {evs : List Evt} {ln : List Int} (h : RX cy σ tg ad bs ru se pf hd ca evs ln) (hT : ∀ a, a ∈ σ.1 → tg' a = tg a) (hA : ∀ k, k ≠ 300 + evs.length → ad' k = ad k) : RX cy σ tg' ad' bs ru se pf hd ca evs ln := by
  obtain ⟨⟨x1, x2⟩, hB, ⟨bsA, hBA, hAe⟩, hE, hX, hO⟩ := h
  have h6 := hB.2.1
  have h6' := hBA.2.1
  refine ⟨⟨?_, ?_⟩, hB.retag hT (fun k hk => hA k (by omega)), ⟨bsA, hBA.retag hT (fun k hk => hA k (by omega)), hAe⟩, hE.retag hT (fun k hk => hA k (by omega)), hX.retag hT (fun k a b => hA k (by omega)), hO⟩
  · have e : xV ad' ca = xV ad ca := by unfold xV; rw [hA 1 (by omega), hA 3 (by omega), hA 5 (by omega), hA 7 (by omega), hA 10 (by omega), hA 11 (by omega), hA 13 (by omega)]
    rw [e, hA 0 (by omega)]
    exact x1
  · rw [hA 0 (by omega), hT _ x1.1]
    exact x2
theorem Ok.ev {bs : List Bn} {ru : Nat → Int × Int} {se : Int} {pf : Nat → Int} {hd : Hd} {evs : List Evt} {ln : List Int} (h : Ok bs ru se pf hd evs ln) (hl : evs.length < 80) {ev : Evt} (hev : evOk bs ev) (gr : Int → Int → Int) (hb : ∀ b ∈ apB gr bs ev, BnOk b) (hn : lenB (apB gr bs ev) ≤ evs.length + 1) : Ok (apB gr bs ev) ru se pf (hdF hd (totB (apB gr bs ev))) (evs ++ [ev]) ln := by
  obtain ⟨h1, h2, h3, ⟨⟨c1, c2⟩, c3, c4⟩, h5, h6, h7⟩ := h
  have hl1 : (evs ++ [ev]).length = evs.length + 1 := by simp
  refine ⟨by rw [apB_len]; exact h1, hb, ⟨by omega, by omega⟩, ?_, h5, h6, h7.snoc hev gr⟩
  unfold hdF
  by_cases hz : totB (apB gr bs ev) - hd.2.2.1 = 0
  · rw [if_pos hz]
    exact ⟨⟨c1, by omega⟩, by omega, c4⟩
  · rw [if_neg hz]
    exact ⟨⟨by show 0 ≤ hd.2.1 + 1; omega, by show hd.2.1 + 1 ≤ _; omega⟩, rfl, c4⟩
theorem outB_ok {bs : List Bn} (h : ∀ b ∈ bs, BnOk b) {i n : Int} (h0 : 0 ≤ i) (h1 : i < (bs.length : Int)) (hn0 : 0 ≤ n) (hn : n ≤ tot (gB bs i).2.2) : ∀ b ∈ outB bs i n, BnOk b := by
  have hb := h _ (gB_mem h0 h1)
  have hok : lysOk (fl (gB bs i)) := fl_ok hb.2.1
  have ht : tot (fl (gB bs i)) = tot (gB bs i).2.2 := sum_fl _ _
  unfold outB
  refine setL_ok h h0 h1 (ofl_ok (drop_ok _ _ hok)) ?_
  have e : tot (ofl (gB bs i).2.1 (dropL n (fl (gB bs i)))) = tot (dropL n (fl (gB bs i))) := sum_ofl _ _ _
  rw [e, drop_tot _ _ hok hn0 (by omega)]
  have := hb.2.2
  omega
theorem ofl_len (m : Bool) (l : List Ly) : (ofl m l).length = l.length := by unfold ofl; split <;> simp
theorem outB_lenB {bs : List Bn} {i : Int} (h0 : 0 ≤ i) (h1 : i < (bs.length : Int)) (n : Int) : lenB (outB bs i n) + (gB bs i).2.2.length = lenB bs + (dropL n (fl (gB bs i))).length := by
  have := lenB_setL h0 h1 (ofl (gB bs i).2.1 (dropL n (fl (gB bs i))))
  rw [ofl_len] at this
  exact this
theorem outB_lenB_le {bs : List Bn} {i : Int} (h0 : 0 ≤ i) (h1 : i < (bs.length : Int)) (n : Int) : lenB (outB bs i n) ≤ lenB bs := by
  have h2 := outB_lenB h0 h1 n
  have h3 := drop_len (fl (gB bs i)) n
  rw [fl_len] at h3
  omega
theorem outB_0 {bs : List Bn} {i : Int} (h0 : 0 ≤ i) (h1 : i < (bs.length : Int)) : outB bs i 0 = bs := by
  unfold outB
  rw [dropL_0 (Int.le_refl 0), ofl_fl]
  unfold setL
  apply List.ext_getElem?
  intro j
  rw [List.getElem?_set]
  by_cases h : i.toNat = j
  · subst h
    rw [if_pos rfl, if_pos (by omega)]
    have e := gB_at h0 h1
    rw [e]
  · rw [if_neg h]
theorem dryL_tot (gr : Int → Int → Int) {w : Int} (hw : 80 ≤ w ∧ w ≤ 300) : ∀ {l : List Ly}, lysOk l → tot (dryL gr w l) ≤ tot l
  | [], _ => Int.le_refl _
  | x :: l, h => by
    have hx := h x List.mem_cons_self
    have ih := dryL_tot gr hw (l := l) (fun y hy => h y (List.mem_cons_of_mem _ hy))
    unfold dryL at ih ⊢
    rw [List.flatMap_cons]
    unfold tot at ih ⊢
    rw [sumL_app]
    have h1 : sumL (fun x => x.1) (dry1 gr w x) ≤ x.1 := by
      unfold dry1
      by_cases c : w < x.2.1
      · rw [if_pos c]
        have hd := dryN_in hx hw c
        by_cases c2 : dryN w x < 1
        · rw [if_pos c2]
          have := hx.1.1
          simp only [sumL]
          omega
        · rw [if_neg c2]
          simp only [sumL]
          omega
      · rw [if_neg c]
        simp only [sumL]
        omega
    simp only [sumL]
    omega
theorem cost_in {pf : Nat → Int} (hp : ∀ i, i < 5 → 0 ≤ pf i ∧ pf i ≤ 2000) : ∀ {l : List Ly}, lysOk l → 0 ≤ sumL (cf pf) l ∧ sumL (cf pf) l ≤ 2000 * tot l
  | [], _ => by simp [sumL, tot]
  | x :: l, h => by
    obtain ⟨⟨a1, a2⟩, b1, c1, d1, d2⟩ := h x List.mem_cons_self
    have ih := cost_in hp (l := l) (fun y hy => h y (List.mem_cons_of_mem _ hy))
    have hq := hp x.2.2.2.toNat (by omega)
    have m1 : 0 ≤ x.1 * pf x.2.2.2.toNat := Int.mul_nonneg (by omega) hq.1
    have m2 : x.1 * pf x.2.2.2.toNat ≤ x.1 * 2000 := Int.mul_le_mul_of_nonneg_left hq.2 (by omega)
    unfold tot at ih ⊢
    simp only [sumL, cf] at ih ⊢
    omega
theorem evOk.mk {bs : List Bn} {k b o n n2 x f : Int} (h1 : 0 ≤ b ∧ b < (bs.length : Int)) (h2 : 0 ≤ o ∧ o < (bs.length : Int)) (h3 : 0 ≤ n ∧ n ≤ 1000000) (h4 : 0 ≤ n2 ∧ n2 ≤ 1000000) (h5 : k = 108 → lyOk (n, x, f, 1) ∧ (gB bs b).2.2.length < 80) (h6 : k = 116 → b ≠ o ∧ ((gB bs o).2.2 ++ takeL n (fl (gB bs b))).length ≤ 80) (h7 : k = 100 → 80 ≤ x ∧ x ≤ 300) (h8 : k = 108 ∨ k = 116 ∨ k = 100 ∨ k = 115 ∨ k = 98) : evOk bs (k, b, o, n, n2, x, f) := ⟨h1, h2, h3, h4, h5, h6, h7, h8⟩
theorem lyOk.mk {n x f g : Int} (h1 : 1 ≤ n ∧ n ≤ 2000) (h2 : 80 ≤ x ∧ x ≤ 300) (h3 : 0 ≤ f ∧ f ≤ 100) (h4 : 1 ≤ g ∧ g ≤ 4) : lyOk (n, x, f, g) := ⟨h1, h2, h3, h4⟩
theorem load_ev {bs : List Bn} {ru : Nat → Int × Int} {se : Int} {pf : Nat → Int} {hd : Hd} {evs : List Evt} {ln : List Int} (h : Ok bs ru se pf hd evs ln) (hl : evs.length < 80) {i : Nat} (hi : i < bs.length) {n x f : Int} (hn : 1 ≤ n ∧ n ≤ 2000) (hx : 80 ≤ x ∧ x ≤ 300) (hf : 0 ≤ f ∧ f ≤ 100) (hr : n ≤ (gB bs i).1 - tot (gB bs i).2.2) : evOk bs (108, (i : Int), (i : Int), n, 0, x, f) ∧ apB (gradeF ru se) bs (108, (i : Int), (i : Int), n, 0, x, f) = setL bs i ((gB bs i).2.2 ++ [(n, x, f, gradeF ru se x f)]) ∧ Ok (apB (gradeF ru se) bs (108, (i : Int), (i : Int), n, 0, x, f)) ru se pf (hdF hd (totB (apB (gradeF ru se) bs (108, (i : Int), (i : Int), n, 0, x, f)))) (evs ++ [(108, (i : Int), (i : Int), n, 0, x, f)]) ln := by
  have hm := gB_mem (bs := bs) (i := (i : Int)) (by omega) (by omega)
  have hb := h.2.1 _ hm
  have hlb := len_lenB hm
  have h3 := h.2.2.1
  have hev : evOk bs (108, (i : Int), (i : Int), n, 0, x, f) := evOk.mk ⟨by omega, by omega⟩ ⟨by omega, by omega⟩ ⟨by omega, by omega⟩ ⟨by omega, by omega⟩ (fun _ => ⟨lyOk.mk hn hx hf ⟨by omega, by omega⟩, by omega⟩) (fun c => absurd c (by decide)) (fun c => absurd c (by decide)) (Or.inl rfl)
  have ea : apB (gradeF ru se) bs (108, (i : Int), (i : Int), n, 0, x, f) = setL bs i ((gB bs i).2.2 ++ [(n, x, f, gradeF ru se x f)]) := by unfold apB; rw [if_pos rfl]
  have hg := gradeF_in ru se x f
  refine ⟨hev, ea, h.ev hl hev _ ?_ ?_⟩
  · rw [ea]
    refine setL_ok h.2.1 (by omega) (by omega) ?_ ?_
    · intro y hy
      rcases List.mem_append.mp hy with hy | hy
      · exact hb.2.1 y hy
      · cases List.mem_singleton.mp hy
        exact ⟨hn, hx, hf, hg⟩
    · unfold tot at hr ⊢
      rw [sumL_app]
      simp only [sumL]
      omega
  · rw [ea]
    have := lenB_setL (bs := bs) (i := (i : Int)) (by omega) (by omega) ((gB bs i).2.2 ++ [(n, x, f, gradeF ru se x f)])
    rw [List.length_append] at this
    have e1 : [(n, x, f, gradeF ru se x f)].length = 1 := rfl
    omega
set_option maxHeartbeats 8000000 in
set_option maxRecDepth 20000 in
theorem c_load (l : Launch) (hfl : l.stackTraces = false) (D : va_G) (cy : Nat → Nat) (σ : Wd) (tg ad : Nat → Nat) (bs : List Bn) (ru : Nat → Int × Int) (se : Int) (pf : Nat → Int) (hd : Hd) (ca : Int) (evs : List Evt) (ln : List Int) (hX0 : RX cy σ tg ad bs ru se pf hd ca evs ln) (i : Nat) (hi : i < bs.length) (n x f : Int) (hn9 : (-2147483648 ≤ n ∧ n < 2147483648)) (hx8 : (-2147483648 ≤ x ∧ x < 2147483648)) (hf8 : (-2147483648 ≤ f ∧ f < 2147483648)) (hn : 1 ≤ n ∧ n ≤ 2000) (hx9 : 80 ≤ x ∧ x ≤ 300) (hf9 : 0 ≤ f ∧ f ≤ 100) (hr : n ≤ (gB bs i).1 - tot (gB bs i).2.2) (hl : evs.length < 80) : Ct l yX6_load cX6_load 7 (some .int) 7 2 257 D cy [.ref (ad 0), vi ((i : Int)), vi (n), vi (x), vi (f)] σ (fun v σ' => v = some (vi (gradeF ru se x f)) ∧ ∃ tg' ad' : Nat → Nat, RX cy σ' tg' ad' (apB (gradeF ru se) bs (108, (i : Int), (i : Int), n, 0, x, f)) ru se pf (hdF hd (totB (apB (gradeF ru se) bs (108, (i : Int), (i : Int), n, 0, x, f)))) (ca + -n * pf (gradeF ru se x f).toNat) (evs ++ [(108, (i : Int), (i : Int), n, 0, x, f)]) ln ∧ (∀ y, y ∈ σ.1 → tg' y = tg y) ∧ ad' 0 = ad 0 ∧ Keep σ σ' (fun y => tg y < 1000) ∧ ∀ y, y ∈ σ.1 → y ∈ σ'.1) noX := by
  refine ct_start (by decide +kernel) hfl rfl (fun κ e1 e2 e3 C E NH => ?_)
  subst e1 e2 e3
  have C : Cx κ cX6_load 7 RX6 "load" 7 := C
  obtain ⟨-, -, -, -, hc, hs⟩ := id E
  show J κ σ [(0, .ref (ad 0)), (1, vi ((i : Int))), (2, vi (n)), (3, vi (x)), (4, vi (f))] 0 [] 0 0
  have hXX := hX0
  obtain ⟨⟨x1, x2⟩, hB, ⟨bsA, hA, hAe⟩, hEv, hX, hO⟩ := hXX
  obtain ⟨⟨hR, t7, t8, t9⟩, ⟨hPr, t10⟩, ⟨hH, t11, t12⟩, cap0, hSb, t13, t14⟩ := id hX
  have hL1 := hB.1.1
  have hL5 := hEv.1.1
  have hbl := bins_len ad 100 bs.length
  have hel9 := evl_len ad evs.length
  have h6 := hB.2.1
  obtain ⟨⟨hc1, hc2⟩, hc3, hc4⟩ := hO.2.2.2.1
  have hev80 := hO.2.2.1.2
  have hpr := hO.2.2.2.2.1
  have hRo := hR.1
  have hHo := hH.1
  obtain ⟨ml0, g0, hSc, -⟩ := id hSb
  have hSo := hSc.1
  have hTb := totB_in hO.2.1
  obtain ⟨m91, hl91, -⟩ := id hL1
  obtain ⟨m92, hl92, -⟩ := id hL5
  obtain ⟨⟨cap, mf, ly⟩, hg7⟩ : ∃ z, gB bs (i : Int) = z := ⟨_, rfl⟩
  have hb7 := hB.at hi hg7
  have hbk7 := hO.2.1 _ (gB_mem (bs := bs) (i := (i : Int)) (by omega) (by omega))
  rw [hg7] at hbk7
  obtain ⟨hcp7, hly7, htc7⟩ := hbk7
  dsimp only at hcp7 hly7 htc7
  have ht07 := tot_0 hly7
  obtain ⟨old7, ga7, gb7, gc7, gd7, ⟨hh7, -, -⟩, -, hcn7, -, hok7⟩ := id hb7
  dsimp only at hh7 hcn7 hok7
  have hev5 := load_ev hO hl hi hn hx9 hf9 hr
  rw [hg7] at hr
  dsimp only at hr
  refine j_aload_n 0 C dX6_load_0 rfl rfl rfl ?_
  refine j_get C dX6_load_1 rfl fg_X6_12 x1 rfl ?_
  refine j_iload_n 1 C dX6_load_4 rfl rfl rfl ?_
  refine j_callS (st' := []) (As := [.ref (ad 1), vi ((i : Int))]) C dX6_load_5 rfl m_X6_75 rfl rfl (c_biG (kL κ) hfl (kD κ) (kc κ) σ (ad 1) (ad 2) _ hL1 i _ (bins_at hi) _ hh7) rfl (by omega) (by omega) (by omega) (fun _ _ hx => hx.elim) (fun v2 τ1 hp3 => ?_)
  obtain ⟨rfl, hs9⟩ := hp3
  replace hs9 := hs9.symm
  subst hs9
  show J κ σ [(0, .ref (ad 0)), (1, vi ((i : Int))), (2, vi (n)), (3, vi (x)), (4, vi (f))] 8 [.ref (bq ad 100 i 0)] _ _
  refine j_astore (lv' := [(0, .ref (ad 0)), (1, vi ((i : Int))), (2, vi (n)), (3, vi (x)), (4, vi (f)), (5, .ref (bq ad 100 i 0))]) [1, 2, 3, 4, 5, 0] C dX6_load_8 rfl rfl rfl ?_
  refine j_iload_n 2 C dX6_load_10 rfl rfl rfl ?_
  refine j_iconst C dX6_load_11 rfl ?_
  refine j_sipush C dX6_load_12 rfl (by decide) ?_
  refine j_callS (st' := []) (As := [vi (n), vi (1), vi (2000)]) C dX6_load_15 rfl m_X6_51 rfl rfl (c_crG (kL κ) hfl (kD κ) (kc κ) σ n 1 2000 hn9 ⟨by omega, by omega⟩ hn) rfl (by omega) (by omega) (by omega) (fun _ _ hx => hx.elim) (fun v5 τ4 hp6 => ?_)
  obtain ⟨rfl, hs9⟩ := hp6
  replace hs9 := hs9.symm
  subst hs9
  show J κ σ [(0, .ref (ad 0)), (1, vi ((i : Int))), (2, vi (n)), (3, vi (x)), (4, vi (f)), (5, .ref (bq ad 100 i 0))] 18 [] _ _
  refine j_iload_n 3 C dX6_load_18 rfl rfl rfl ?_
  refine j_iload 4 C dX6_load_19 rfl rfl ?_
  refine j_callS (st' := []) (As := [vi (x), vi (f)]) C dX6_load_21 rfl m_X6_83 rfl rfl (c_cgG (kL κ) hfl (kD κ) (kc κ) σ x f ⟨by omega, by omega⟩ ⟨by omega, by omega⟩ ⟨hx9, hf9⟩) rfl (by omega) (by omega) (by omega) (fun _ _ hx => hx.elim) (fun v8 τ7 hp9 => ?_)
  obtain ⟨rfl, hs9⟩ := hp9
  replace hs9 := hs9.symm
  subst hs9
  show J κ σ [(0, .ref (ad 0)), (1, vi ((i : Int))), (2, vi (n)), (3, vi (x)), (4, vi (f)), (5, .ref (bq ad 100 i 0))] 24 [] _ _
  refine j_aload 5 C dX6_load_24 rfl rfl ?_
  refine j_iload_n 2 C dX6_load_26 rfl rfl rfl ?_
  refine j_callS (st' := []) (As := [.ref (bq ad 100 i 0), vi (n)]) C dX6_load_27 rfl m_X6_98 rfl rfl (c_croG (kL κ) hfl (kD κ) (kc κ) σ (bq ad 100 i 0) (bq ad 100 i 1) (bq ad 100 i 2) (bq ad 100 i 3) (bq ad 100 i 4) cap old7 ly.length (tot ly) (b01 mf) hh7 n ⟨⟨by omega, by omega⟩, ⟨by omega, by omega⟩, ⟨by omega, by omega⟩⟩ ⟨by omega, by omega⟩ hr) rfl (by omega) (by omega) (by omega) (fun _ _ hx => hx.elim) (fun v11 τ10 hp12 => ?_)
  obtain ⟨rfl, hs9⟩ := hp12
  replace hs9 := hs9.symm
  subst hs9
  show J κ σ [(0, .ref (ad 0)), (1, vi ((i : Int))), (2, vi (n)), (3, vi (x)), (4, vi (f)), (5, .ref (bq ad 100 i 0))] 30 [] _ _
  refine j_aload_n 0 C dX6_load_30 rfl rfl rfl ?_
  refine j_callV (st' := []) (As := []) C dX6_load_31 rfl m_X6_102 x1 rfl rfl rfl (c_ceG (kL κ) hfl (kD κ) (kc κ) σ (ad 0) (ad 1) (ad 3) (ad 5) (ad 7) (ad 10) (ad 11) (ad 13) ca x1 (ad 6) _ hL5 (by rw [hel9]; exact hl)) rfl (by omega) (by omega) (by omega) (fun _ _ hx => hx.elim) (fun v14 τ13 hp15 => ?_)
  obtain ⟨rfl, hs9⟩ := hp15
  replace hs9 := hs9.symm
  subst hs9
  show J κ σ [(0, .ref (ad 0)), (1, vi ((i : Int))), (2, vi (n)), (3, vi (x)), (4, vi (f)), (5, .ref (bq ad 100 i 0))] 34 [] _ _
  refine j_aload_n 0 C dX6_load_34 rfl rfl rfl ?_
  refine j_get C dX6_load_35 rfl fg_X6_25 x1 rfl ?_
  refine j_iload_n 3 C dX6_load_38 rfl rfl rfl ?_
  refine j_iload 4 C dX6_load_39 rfl rfl ?_
  refine j_callV (st' := []) (As := [vi (x), vi (f)]) C dX6_load_41 rfl m_X6_94 hRo rfl rfl rfl (c_gradeNow (kL κ) hfl (kD κ) (kc κ) σ (ad 7) (ad 8) (ad 9) ru se x f hR ⟨by omega, by omega⟩ ⟨by omega, by omega⟩) rfl (by omega) (by omega) (by omega) (fun _ _ hx => hx.elim) (fun v17 τ16 hp18 => ?_)
  obtain ⟨rfl, hs9⟩ := hp18
  replace hs9 := hs9.symm
  subst hs9
  show J κ σ [(0, .ref (ad 0)), (1, vi ((i : Int))), (2, vi (n)), (3, vi (x)), (4, vi (f)), (5, .ref (bq ad 100 i 0))] 44 [vi (gradeF ru se x f)] _ _
  have hgi := gradeF_in ru se x f
  obtain ⟨gg, hgg⟩ : ∃ z, gradeF ru se x f = z := ⟨_, rfl⟩
  have hev6 := hev5
  rw [hgg]
  rw [hgg] at hgi
  refine j_istore (lv' := [(0, .ref (ad 0)), (1, vi ((i : Int))), (2, vi (n)), (3, vi (x)), (4, vi (f)), (5, .ref (bq ad 100 i 0)), (6, vi (gg))]) [1, 2, 3, 4, 5, 6, 0] C dX6_load_44 rfl rfl rfl ?_
  refine j_aload_n 0 C dX6_load_46 rfl rfl rfl ?_
  refine j_iload_n 1 C dX6_load_47 rfl rfl rfl ?_
  refine j_iload_n 2 C dX6_load_48 rfl rfl rfl ?_
  refine j_iload_n 3 C dX6_load_49 rfl rfl rfl ?_
  refine j_iload 4 C dX6_load_50 rfl rfl ?_
  refine j_callS (st' := [.ref (ad 0)]) (As := [vi ((i : Int)), vi (n), vi (x), vi (f)]) C dX6_load_52 rfl m_X6_105 rfl rfl (c_ofLoad (kL κ) hfl (kD κ) (kc κ) σ (i : Int) n x f) rfl (by omega) (by omega) (by omega) (fun _ _ hx => hx.elim) (fun v20 τ19 hp21 => ?_)
  obtain ⟨e, rfl, hE1, hE2, hE3, hE4⟩ := hp21
  show J κ τ19 [(0, .ref (ad 0)), (1, vi ((i : Int))), (2, vi (n)), (3, vi (x)), (4, vi (f)), (5, .ref (bq ad 100 i 0)), (6, vi (gg))] 55 [.ref e, .ref (ad 0)] 1 7
  obtain ⟨ad1, ha1⟩ : ∃ f, updN ad (300 + evs.length) e = f := ⟨_, rfl⟩
  obtain ⟨tg1, htg1⟩ : ∃ f, updN tg e (300 + evs.length) = f := ⟨_, rfl⟩
  have hadn1 : ∀ k, k ≠ 300 + evs.length → ad1 k = ad k := fun k hk => by rw [← ha1]; exact updN_n hk
  have hade : ad1 (300 + evs.length) = e := by rw [← ha1]; exact updN_s
  have htge : tg1 e = 300 + evs.length := by rw [← htg1]; exact updN_s
  have hT1 : ∀ y, y ∈ σ.1 → tg1 y = tg y := fun y hy => by rw [← htg1]; exact updN_n (fun z => hE2 (by rw [← z]; exact hy))
  have hX1 := (hX0.retag hT1 hadn1).keep hE3 (fun _ _ z => z.elim)
  have hx19 := hE3 _ _ x1 (fun z => z)
  have hP19 := hE3 _ _ hPr (fun z => z)
  refine j_iload_n 2 C dX6_load_55 rfl rfl rfl ?_
  refine j_ineg C dX6_load_56 rfl ?_
  refine j_aload_n 0 C dX6_load_57 rfl rfl rfl ?_
  refine j_get C dX6_load_58 rfl fg_X6_29 hx19 rfl ?_
  refine j_iload 6 C dX6_load_61 rfl rfl ?_
  obtain ⟨y22, hy22⟩ : ∃ y : Int, pf gg.toNat = y := ⟨_, rfl⟩
  refine j_iald C dX6_load_63 rfl hP19 ⟨by omega, by omega⟩ (by omega) hy22 ?_
  refine j_imul C dX6_load_64 rfl ?_
  have hpy := hpr gg.toNat (by omega)
  rw [hy22] at hpy
  have m1 : 0 ≤ n * y22 := Int.mul_nonneg (by omega) hpy.1
  have m2 : n * y22 ≤ 2000 * y22 := Int.mul_le_mul_of_nonneg_right (by omega) hpy.1
  have m3 : -n * y22 = -(n * y22) := Int.neg_mul _ _
  refine j_eq_st (st' := [vi (-n * y22), .ref (ad1 (300 + evs.length)), .ref (ad1 0)]) (by rw [hade, hadn1 0 (by omega)]) ?_
  have hx1o := hX1.1.1
  refine j_callV (st' := []) (As := [.ref (ad1 (300 + evs.length)), vi (-n * y22)]) C dX6_load_65 rfl m_X6_111 hx1o rfl rfl rfl (c_happen (kL κ) hfl (kD κ) (kc κ) τ19 tg1 ad1 bs ru se pf hd ca evs ln hX1 (108, (i : Int), (i : Int), n, 0, x, f) (by rw [hade]; exact hE1) (by rw [hade]; exact htge) hl hev5.1 (-n * y22) ⟨by omega, by omega⟩ hev5.2.2) rfl (by omega) (by omega) (by omega) (fun _ _ hx => hx.elim) (fun v24 τ23 hp25 => ?_)
  obtain ⟨rfl, tg', ad', hR9, hT9, hA9, hK9, hM9⟩ := hp25
  show J κ τ23 [(0, .ref (ad 0)), (1, vi ((i : Int))), (2, vi (n)), (3, vi (x)), (4, vi (f)), (5, .ref (bq ad 100 i 0)), (6, vi (gg))] 68 [] 2 257
  have hm0 : ∀ y, y ∈ σ.1 → y ∈ τ19.1 := fun y hy => by rw [hE4]; exact List.mem_append_left _ hy
  have hT8 : ∀ y, y ∈ σ.1 → tg' y = tg y := fun y hy => (hT9 y (hm0 y hy)).trans (hT1 y hy)
  have hK8 : Keep σ τ23 (fun y => tg y < 1000) := (hE3.mono (fun _ z => z.elim)).tr2 hK9 (fun y z => (Classical.em (y ∈ σ.1)).elim (fun hy => Or.inl (by show tg y < 1000; rw [← hT1 y hy]; exact z)) Or.inr)
  refine j_iload 6 C dX6_load_68 rfl rfl ?_
  exact j_iret C E dX6_load_70 (by omega) (by omega) ⟨by rw [hgg], tg', ad', (by rw [hgg, hy22]; exact hR9), hT8, (hA9 0 (by decide)).trans (hadn1 0 (by omega)), hK8, fun y hy => hM9 y (hm0 y hy)⟩
