/-! the law's own: areLayers -/
/-- while the text of a bin is being built: the elevator, the net, the money, the text cs at t, cells and slots -/
def TB (cy : Nat → Nat) (σ : Wd) (ad : Nat → Nat) (bs : List Bn) (ru : Nat → Int × Int) (se : Int) (pf : Nat → Int) (hd : Hd) (ca : Int) (evs : List Evt) (ln : List Int) (a m t : Nat) (g gm : Nat → Int) (cs : List Int) (kb nb k n : Nat) : Prop := ∃ (tg : Nat → Nat) (d cap : Nat), RX cy σ tg ad bs ru se pf hd ca evs ln ∧ (has σ a (iA cy 2700 g) ∧ has σ m (lA cy 2 gm)) ∧ SbR cy σ t d cap cs ∧ ((1000 ≤ tg a ∧ 1000 ≤ tg m) ∧ 1000 ≤ tg t ∧ 1000 ≤ tg d) ∧ a ≠ d ∧ (16 * k + 16 ≤ cap + 16 * kb ∧ n + 32 ≤ 2 * cap + nb ∧ cap ≤ 1802 ∧ 16 ≤ cap ∧ kb ≤ k ∧ nb ≤ n)
theorem SbR.mem {cy : Nat → Nat} {σ : Wd} {a d cap : Nat} {cs : List Int} (h : SbR cy σ a d cap cs) : a ∈ σ.1 ∧ d ∈ σ.1 := by
  obtain ⟨_, _, ⟨h1, h2, _⟩, _⟩ := h
  exact ⟨h1.1, h2.1⟩
theorem SbR.nt {cy : Nat → Nat} {σ : Wd} {a d cap : Nat} {cs : List Int} (h : SbR cy σ a d cap cs) {y n : Nat} {g : Nat → Int} (hy : has σ y (iA cy n g)) : y ≠ a := by
  obtain ⟨_, _, ⟨h1, h2, _⟩, _⟩ := h
  exact hy.nk h1 rfl
theorem SbR.nl {cy : Nat → Nat} {σ : Wd} {a d cap : Nat} {cs : List Int} (h : SbR cy σ a d cap cs) {y n : Nat} {g : Nat → Int} (hy : has σ y (lA cy n g)) : y ≠ a ∧ y ≠ d := by
  obtain ⟨_, _, ⟨h1, h2, _⟩, _⟩ := h
  exact ⟨hy.nk h1 rfl, hy.nk h2 rfl⟩
theorem TB.app {σ' : Wd} {cy : Nat → Nat} {σ : Wd} {ad : Nat → Nat} {bs : List Bn} {ru : Nat → Int × Int} {se : Int} {pf : Nat → Int} {hd : Hd} {ca : Int} {evs : List Evt} {ln : List Int} {a m t : Nat} {g gm : Nat → Int} {cs : List Int} {kb nb k n : Nat} {tg : Nat → Nat} {d cap : Nat} (hX : RX cy σ tg ad bs ru se pf hd ca evs ln) (hA : has σ a (iA cy 2700 g)) (hM : has σ m (lA cy 2 gm)) (hS : SbR cy σ t d cap cs) (hta : 1000 ≤ tg a) (htm : 1000 ≤ tg m) (htt : 1000 ≤ tg t) (htd : 1000 ≤ tg d) (had : a ≠ d) (hr : 16 * k + 16 ≤ cap + 16 * kb ∧ n + 32 ≤ 2 * cap + nb ∧ cap ≤ 1802 ∧ 16 ≤ cap ∧ kb ≤ k ∧ nb ≤ n) {le : Int} (hle : le ≤ 900) {d' : Nat} {cs' : List Int} (hS' : SbR cy σ' t d' (capF cap le) cs') (hdd : (d' = d ∧ σ'.1 = σ.1) ∨ (d' ∉ σ.1 ∧ σ'.1 = σ.1 ++ [d'])) (hK : Keep σ σ' (fun x => x = t ∨ x = d)) : TB cy σ' ad bs ru se pf hd ca evs ln a m t g gm cs' kb nb (k + gC cap le) (n + gS cap le) := by
  have hat := hS.nt hA
  have hml := hS.nl hM
  have hA' := hK _ _ hA (fun z => z.elim hat had)
  have hM' := hK _ _ hM (fun z => z.elim hml.1 hml.2)
  have hmem := hS.mem
  have hroom : 16 * (k + gC cap le) + 16 ≤ capF cap le + 16 * kb ∧ n + gS cap le + 32 ≤ 2 * capF cap le + nb ∧ capF cap le ≤ 1802 ∧ 16 ≤ capF cap le ∧ kb ≤ k + gC cap le ∧ nb ≤ n + gS cap le := by
    rcases gfacts cap le with ⟨a1, a2, a3, a4⟩ | ⟨a1, a2, a3, a4⟩
    · rw [a2, a3, a4]; omega
    · rw [a2, a3, a4]; omega
  rcases hdd with ⟨e, hd1⟩ | ⟨hn, hd1⟩
  · subst e
    exact ⟨tg, d', capF cap le, hX.keep hK (fun y _ z => z.elim (fun z => by rw [z]; exact htt) (fun z => by rw [z]; exact htd)), ⟨hA', hM'⟩, hS', ⟨⟨hta, htm⟩, htt, htd⟩, had, hroom⟩
  · have hT : ∀ y, y ∈ σ.1 → updN tg d' 3003 y = tg y := fun y hy => updN_n (fun e => hn (by rw [← e]; exact hy))
    refine ⟨updN tg d' 3003, d', capF cap le, (hX.retag hT (fun _ _ => rfl)).keep hK (fun y hy z => by rw [hT y hy]; exact z.elim (fun z => by rw [z]; exact htt) (fun z => by rw [z]; exact htd)), ⟨hA', hM'⟩, hS', ⟨⟨by rw [hT _ hA.1]; exact hta, by rw [hT _ hM.1]; exact htm⟩, by rw [hT _ hmem.1]; exact htt, by rw [updN_s]; omega⟩, fun e => hn (by rw [← e]; exact hA.1), hroom⟩
theorem gCS {cap k n kb nb : Nat} (hr : 16 * k + 16 ≤ cap + 16 * kb ∧ n + 32 ≤ 2 * cap + nb ∧ cap ≤ 1802 ∧ 16 ≤ cap ∧ kb ≤ k ∧ nb ≤ n) {le : Int} (hle : le ≤ 900) : k + gC cap le ≤ kb + 112 ∧ n + gS cap le ≤ nb + 3572 := by
  rcases gfacts cap le with ⟨a1, a2, a3, a4⟩ | ⟨a1, a2, a3, a4⟩
  · rw [a3, a4]; omega
  · rw [a3, a4]; omega
set_option maxHeartbeats 4000000 in
set_option maxRecDepth 20000 in
theorem al_row {κ : Kx} {σ : Wd} (C : Cx κ cL_areLayers 7 RL "areLayers" 10) (hfl : (kL κ).stackTraces = false) {ad : Nat → Nat} {bs : List Bn} {ru : Nat → Int × Int} {se : Int} {pf : Nat → Int} {hd : Hd} {ca : Int} {evs : List Evt} {ln : List Int} {a m t o : Nat} {g gm : Nat → Int} {bb mm cc q v1 v2 v3 : Int} {cs : List Int} {kb nb k n : Nat} (hcl : kb + 112 ≤ (kR κ).cells) (hsl : nb + 3572 ≤ (kR κ).slots) (hq : 0 ≤ q ∧ q < 2690) (h1 : g q.toNat = v1) (h2 : g (q + 1).toNat = v2) (h3 : g (q + 3).toNat = v3) (r1 : 0 ≤ v1 ∧ v1 ≤ 9999) (r2 : 0 ≤ v2 ∧ v2 ≤ 999) (r3 : 0 ≤ v3 ∧ v3 ≤ 9) (hcs : cs.length ≤ 869) {ti : Nat} (hti : ti < 2) (hTB : TB (kc κ) σ ad bs ru se pf hd ca evs ln a m t g gm cs kb nb k n) (kk : ∀ (σ' : Wd) (k' n' : Nat), TB (kc κ) σ' ad bs ru se pf hd ca evs ln a m t g gm ((((((cs ++ ltT ti) ++ dg v1) ++ [64]) ++ dg v2) ++ [103]) ++ dg v3) kb nb k' n' → J κ σ' [(0, .ref o), (1, .ref a), (2, vi (bb)), (3, vi (mm)), (4, .ref t), (5, vi (cc)), (6, vi (q))] 172 [.ref t] k' n') : J κ σ [(0, .ref o), (1, .ref a), (2, vi (bb)), (3, vi (mm)), (4, .ref t), (5, vi (cc)), (6, vi (q))] 134 [.ref (kc κ (10 + ti)), .ref t] k n := by
  have z1 := sz_in v1
  have z2 := sz_le v2
  have z3 := sz_le v3
  have z4 := sz_in v2
  have htl := ltT_len hti
  have hs2 : sz v2 ≤ 3 := z2.2 (by omega)
  have hs3 : sz v3 = 1 := z3.1 (by omega)
  have hdl1 := dg_len v1
  have hdl2 := dg_len v2
  have hdl3 := dg_len v3
  obtain ⟨tg2, d, cap, hX3, ⟨hA3, hM3⟩, hS3, ⟨⟨hta2, htm2⟩, htt2, htd2⟩, had2, hr2⟩ := hTB
  obtain ⟨ml1, gg1, hS1, -⟩ := id hS3
  obtain ⟨hh1, -⟩ := hS1
  have hgc0 := gCS hr2 (le := (cs.length : Int) + (tlT ti : Int)) (by omega)
  refine j_callV (st' := []) (As := [.ref (kc κ (10 + ti))]) C dL_areLayers_134 rfl m_L_212 hh1 rfl rfl rfl (c_appendS (kL κ) hfl (kD κ) (kc κ) σ ti hti t d cap cs hS3 (by omega)) rfl (by omega) (by omega) (by omega) (fun _ _ hx => hx.elim) (fun v3 τ2 hp4 => ?_)
  obtain ⟨rfl, d0, hSa0, hdd0, hKa0⟩ := hp4
  have hTB0 := TB.app hX3 hA3 hM3 hS3 hta2 htm2 htt2 htd2 had2 hr2 (le := (cs.length : Int) + (tlT ti : Int)) (by omega) hSa0 hdd0 hKa0
  show J κ τ2 [(0, .ref o), (1, .ref a), (2, vi (bb)), (3, vi (mm)), (4, .ref t), (5, vi (cc)), (6, vi (q))] 137 [.ref t] (k + gC cap ((cs.length : Int) + (tlT ti : Int))) (n + gS cap ((cs.length : Int) + (tlT ti : Int)))
  obtain ⟨ka0, hka0⟩ : ∃ z : Nat, k + gC cap ((cs.length : Int) + (tlT ti : Int)) = z := ⟨_, rfl⟩
  obtain ⟨na0, hna0⟩ : ∃ z : Nat, n + gS cap ((cs.length : Int) + (tlT ti : Int)) = z := ⟨_, rfl⟩
  rw [hka0, hna0] at hTB0 hgc0 ⊢
  have hlc0 : (cs ++ ltT ti).length = cs.length + tlT ti := by rw [List.length_append, htl.1]
  clear hka0 hna0
  obtain ⟨tga0, da0, ca0, hXa0, ⟨hAa0, hMa0⟩, hSb0, ⟨⟨htaa0, htma0⟩, htta0, htda0⟩, hada0, hra0⟩ := id hTB0
  clear hTB0 hSa0 hdd0 hKa0 hr2 htd2 htt2 htm2 hta2
  obtain ⟨cs0, hcs0⟩ : ∃ l : List Int, (cs ++ ltT ti) = l := ⟨_, rfl⟩
  rw [hcs0] at hSb0 hlc0
  refine j_aload_n 1 C dL_areLayers_137 rfl rfl rfl ?_
  refine j_iload 6 C dL_areLayers_138 rfl rfl ?_
  refine j_iald C dL_areLayers_140 rfl hAa0 ⟨by omega, by omega⟩ (by omega) h1 ?_
  obtain ⟨ml5, gg5, hS5, -⟩ := id hSb0
  obtain ⟨hh5, -⟩ := hS5
  have hgc1 := gCS hra0 (le := (cs0.length : Int) + sz v1) (by omega)
  refine j_callV (st' := []) (As := [vi (v1)]) C dL_areLayers_141 rfl m_L_216 hh5 rfl rfl rfl (c_appendI (kL κ) hfl (kD κ) (kc κ) τ2 t da0 ca0 cs0 hSb0 v1 ⟨by omega, by omega⟩ (by omega)) rfl (by omega) (by omega) (by omega) (fun _ _ hx => hx.elim) (fun v7 τ6 hp8 => ?_)
  obtain ⟨rfl, d1, hSa1, hdd1, hKa1⟩ := hp8
  have hTB1 := TB.app hXa0 hAa0 hMa0 hSb0 htaa0 htma0 htta0 htda0 hada0 hra0 (le := (cs0.length : Int) + sz v1) (by omega) hSa1 hdd1 hKa1
  show J κ τ6 [(0, .ref o), (1, .ref a), (2, vi (bb)), (3, vi (mm)), (4, .ref t), (5, vi (cc)), (6, vi (q))] 144 [.ref t] (ka0 + gC ca0 ((cs0.length : Int) + sz v1)) (na0 + gS ca0 ((cs0.length : Int) + sz v1))
  obtain ⟨ka1, hka1⟩ : ∃ z : Nat, ka0 + gC ca0 ((cs0.length : Int) + sz v1) = z := ⟨_, rfl⟩
  obtain ⟨na1, hna1⟩ : ∃ z : Nat, na0 + gS ca0 ((cs0.length : Int) + sz v1) = z := ⟨_, rfl⟩
  rw [hka1, hna1] at hTB1 hgc1 ⊢
  have hlc1 : (cs0 ++ dg v1).length = cs0.length + (dg v1).length := List.length_append
  clear hka1 hna1
  obtain ⟨tga1, da1, ca1, hXa1, ⟨hAa1, hMa1⟩, hSb1, ⟨⟨htaa1, htma1⟩, htta1, htda1⟩, hada1, hra1⟩ := id hTB1
  clear hTB1 hSa1 hdd1 hKa1 hra0 htda0 htta0 htma0 htaa0
  obtain ⟨cs1, hcs1⟩ : ∃ l : List Int, (cs0 ++ dg v1) = l := ⟨_, rfl⟩
  rw [hcs1] at hSb1 hlc1
  refine j_bipush C dL_areLayers_144 rfl (by decide) ?_
  obtain ⟨ml9, gg9, hS9, -⟩ := id hSb1
  obtain ⟨hh9, -⟩ := hS9
  have hgc2 := gCS hra1 (le := (cs1.length : Int) + 1) (by omega)
  refine j_callV (st' := []) (As := [vi (64)]) C dL_areLayers_146 rfl m_L_219 hh9 rfl rfl rfl (c_appendC (kL κ) hfl (kD κ) (kc κ) τ6 t da1 ca1 cs1 hSb1 64 ⟨by omega, by omega⟩ (by omega)) rfl (by omega) (by omega) (by omega) (fun _ _ hx => hx.elim) (fun v11 τ10 hp12 => ?_)
  obtain ⟨rfl, d2, hSa2, hdd2, hKa2⟩ := hp12
  have hTB2 := TB.app hXa1 hAa1 hMa1 hSb1 htaa1 htma1 htta1 htda1 hada1 hra1 (le := (cs1.length : Int) + 1) (by omega) hSa2 hdd2 hKa2
  show J κ τ10 [(0, .ref o), (1, .ref a), (2, vi (bb)), (3, vi (mm)), (4, .ref t), (5, vi (cc)), (6, vi (q))] 149 [.ref t] (ka1 + gC ca1 ((cs1.length : Int) + 1)) (na1 + gS ca1 ((cs1.length : Int) + 1))
  obtain ⟨ka2, hka2⟩ : ∃ z : Nat, ka1 + gC ca1 ((cs1.length : Int) + 1) = z := ⟨_, rfl⟩
  obtain ⟨na2, hna2⟩ : ∃ z : Nat, na1 + gS ca1 ((cs1.length : Int) + 1) = z := ⟨_, rfl⟩
  rw [hka2, hna2] at hTB2 hgc2 ⊢
  have hlc2 : (cs1 ++ [64]).length = cs1.length + 1 := List.length_append
  clear hka2 hna2
  obtain ⟨tga2, da2, ca2, hXa2, ⟨hAa2, hMa2⟩, hSb2, ⟨⟨htaa2, htma2⟩, htta2, htda2⟩, hada2, hra2⟩ := id hTB2
  clear hTB2 hSa2 hdd2 hKa2 hra1 htda1 htta1 htma1 htaa1
  obtain ⟨cs2, hcs2⟩ : ∃ l : List Int, (cs1 ++ [64]) = l := ⟨_, rfl⟩
  rw [hcs2] at hSb2 hlc2
  refine j_aload_n 1 C dL_areLayers_149 rfl rfl rfl ?_
  refine j_iload 6 C dL_areLayers_150 rfl rfl ?_
  refine j_iconst C dL_areLayers_152 rfl ?_
  refine j_iadd C dL_areLayers_153 rfl ?_
  refine j_iald C dL_areLayers_154 rfl hAa2 ⟨by omega, by omega⟩ (by omega) h2 ?_
  obtain ⟨ml13, gg13, hS13, -⟩ := id hSb2
  obtain ⟨hh13, -⟩ := hS13
  have hgc3 := gCS hra2 (le := (cs2.length : Int) + sz v2) (by omega)
  refine j_callV (st' := []) (As := [vi (v2)]) C dL_areLayers_155 rfl m_L_216 hh13 rfl rfl rfl (c_appendI (kL κ) hfl (kD κ) (kc κ) τ10 t da2 ca2 cs2 hSb2 v2 ⟨by omega, by omega⟩ (by omega)) rfl (by omega) (by omega) (by omega) (fun _ _ hx => hx.elim) (fun v15 τ14 hp16 => ?_)
  obtain ⟨rfl, d3, hSa3, hdd3, hKa3⟩ := hp16
  have hTB3 := TB.app hXa2 hAa2 hMa2 hSb2 htaa2 htma2 htta2 htda2 hada2 hra2 (le := (cs2.length : Int) + sz v2) (by omega) hSa3 hdd3 hKa3
  show J κ τ14 [(0, .ref o), (1, .ref a), (2, vi (bb)), (3, vi (mm)), (4, .ref t), (5, vi (cc)), (6, vi (q))] 158 [.ref t] (ka2 + gC ca2 ((cs2.length : Int) + sz v2)) (na2 + gS ca2 ((cs2.length : Int) + sz v2))
  obtain ⟨ka3, hka3⟩ : ∃ z : Nat, ka2 + gC ca2 ((cs2.length : Int) + sz v2) = z := ⟨_, rfl⟩
  obtain ⟨na3, hna3⟩ : ∃ z : Nat, na2 + gS ca2 ((cs2.length : Int) + sz v2) = z := ⟨_, rfl⟩
  rw [hka3, hna3] at hTB3 hgc3 ⊢
  have hlc3 : (cs2 ++ dg v2).length = cs2.length + (dg v2).length := List.length_append
  clear hka3 hna3
  obtain ⟨tga3, da3, ca3, hXa3, ⟨hAa3, hMa3⟩, hSb3, ⟨⟨htaa3, htma3⟩, htta3, htda3⟩, hada3, hra3⟩ := id hTB3
  clear hTB3 hSa3 hdd3 hKa3 hra2 htda2 htta2 htma2 htaa2
  obtain ⟨cs3, hcs3⟩ : ∃ l : List Int, (cs2 ++ dg v2) = l := ⟨_, rfl⟩
  rw [hcs3] at hSb3 hlc3
  refine j_bipush C dL_areLayers_158 rfl (by decide) ?_
  obtain ⟨ml17, gg17, hS17, -⟩ := id hSb3
  obtain ⟨hh17, -⟩ := hS17
  have hgc4 := gCS hra3 (le := (cs3.length : Int) + 1) (by omega)
  refine j_callV (st' := []) (As := [vi (103)]) C dL_areLayers_160 rfl m_L_219 hh17 rfl rfl rfl (c_appendC (kL κ) hfl (kD κ) (kc κ) τ14 t da3 ca3 cs3 hSb3 103 ⟨by omega, by omega⟩ (by omega)) rfl (by omega) (by omega) (by omega) (fun _ _ hx => hx.elim) (fun v19 τ18 hp20 => ?_)
  obtain ⟨rfl, d4, hSa4, hdd4, hKa4⟩ := hp20
  have hTB4 := TB.app hXa3 hAa3 hMa3 hSb3 htaa3 htma3 htta3 htda3 hada3 hra3 (le := (cs3.length : Int) + 1) (by omega) hSa4 hdd4 hKa4
  show J κ τ18 [(0, .ref o), (1, .ref a), (2, vi (bb)), (3, vi (mm)), (4, .ref t), (5, vi (cc)), (6, vi (q))] 163 [.ref t] (ka3 + gC ca3 ((cs3.length : Int) + 1)) (na3 + gS ca3 ((cs3.length : Int) + 1))
  obtain ⟨ka4, hka4⟩ : ∃ z : Nat, ka3 + gC ca3 ((cs3.length : Int) + 1) = z := ⟨_, rfl⟩
  obtain ⟨na4, hna4⟩ : ∃ z : Nat, na3 + gS ca3 ((cs3.length : Int) + 1) = z := ⟨_, rfl⟩
  rw [hka4, hna4] at hTB4 hgc4 ⊢
  have hlc4 : (cs3 ++ [103]).length = cs3.length + 1 := List.length_append
  clear hka4 hna4
  obtain ⟨tga4, da4, ca4, hXa4, ⟨hAa4, hMa4⟩, hSb4, ⟨⟨htaa4, htma4⟩, htta4, htda4⟩, hada4, hra4⟩ := id hTB4
  clear hTB4 hSa4 hdd4 hKa4 hra3 htda3 htta3 htma3 htaa3
  obtain ⟨cs4, hcs4⟩ : ∃ l : List Int, (cs3 ++ [103]) = l := ⟨_, rfl⟩
  rw [hcs4] at hSb4 hlc4
  refine j_aload_n 1 C dL_areLayers_163 rfl rfl rfl ?_
  refine j_iload 6 C dL_areLayers_164 rfl rfl ?_
  refine j_iconst C dL_areLayers_166 rfl ?_
  refine j_iadd C dL_areLayers_167 rfl ?_
  refine j_iald C dL_areLayers_168 rfl hAa4 ⟨by omega, by omega⟩ (by omega) h3 ?_
  obtain ⟨ml21, gg21, hS21, -⟩ := id hSb4
  obtain ⟨hh21, -⟩ := hS21
  have hgc5 := gCS hra4 (le := (cs4.length : Int) + sz v3) (by omega)
  refine j_callV (st' := []) (As := [vi (v3)]) C dL_areLayers_169 rfl m_L_216 hh21 rfl rfl rfl (c_appendI (kL κ) hfl (kD κ) (kc κ) τ18 t da4 ca4 cs4 hSb4 v3 ⟨by omega, by omega⟩ (by omega)) rfl (by omega) (by omega) (by omega) (fun _ _ hx => hx.elim) (fun v23 τ22 hp24 => ?_)
  obtain ⟨rfl, d5, hSa5, hdd5, hKa5⟩ := hp24
  have hTB5 := TB.app hXa4 hAa4 hMa4 hSb4 htaa4 htma4 htta4 htda4 hada4 hra4 (le := (cs4.length : Int) + sz v3) (by omega) hSa5 hdd5 hKa5
  show J κ τ22 [(0, .ref o), (1, .ref a), (2, vi (bb)), (3, vi (mm)), (4, .ref t), (5, vi (cc)), (6, vi (q))] 172 [.ref t] (ka4 + gC ca4 ((cs4.length : Int) + sz v3)) (na4 + gS ca4 ((cs4.length : Int) + sz v3))
  obtain ⟨ka5, hka5⟩ : ∃ z : Nat, ka4 + gC ca4 ((cs4.length : Int) + sz v3) = z := ⟨_, rfl⟩
  obtain ⟨na5, hna5⟩ : ∃ z : Nat, na4 + gS ca4 ((cs4.length : Int) + sz v3) = z := ⟨_, rfl⟩
  rw [hka5, hna5] at hTB5 hgc5 ⊢
  have hlc5 : (cs4 ++ dg v3).length = cs4.length + (dg v3).length := List.length_append
  rw [← hcs4, ← hcs3, ← hcs2, ← hcs1, ← hcs0] at hTB5
  exact kk τ22 ka5 na5 hTB5
set_option maxHeartbeats 32000000 in
set_option maxRecDepth 20000 in
theorem c_areLayers (l : Launch) (hfl : l.stackTraces = false) (D : va_G) (cy : Nat → Nat) (σ : Wd) (o a m lo : Nat) (hI : LI cy σ o a m lo) : Ct l yL_areLayers cL_areLayers 7 (some .boolean) 10 2200 67300 D cy [.ref o, .ref a] σ (fun v σ' => v = some (vi 1) ∧ LI cy σ' o a m lo) noX := by
  refine ct_start (by decide +kernel) hfl rfl (fun κ e1 e2 e3 C E NH => ?_)
  subst e1 e2 e3
  have C : Cx κ cL_areLayers 7 RL "areLayers" 10 := C
  obtain ⟨-, -, -, -, hc, hs⟩ := id E
  show J κ σ [(0, .ref o), (1, .ref a)] 0 [] 0 0
  obtain ⟨tg0, ad0, bs, ru, se, pf, hd, ca, evs, ln0, g, gm, ho, hX9, ⟨hA0, hNt, hH⟩, hM0, ⟨hta0, htm0⟩, hlo⟩ := hI
  subst ho
  show J κ σ [(0, .ref (ad0 0)), (1, .ref a)] 0 [] 0 0
  have hO := hX9.ok
  have h6 := hO.1
  have hBk := hO.2.1
  have hlb := hO.2.2.1
  refine j_iconst C dL_areLayers_0 rfl ?_
  refine j_istore_n (lv' := [(0, .ref (ad0 0)), (1, .ref a), (2, vi (0))]) [1, 2, 0] C dL_areLayers_1 rfl rfl rfl rfl ?_
  have lp : ∀ (N : Nat) (b : Nat) (σ1 : Wd) (tg : Nat → Nat) (ad : Nat → Nat) (ln : List Int) (k : Nat) (n : Nat), RX (kc κ) σ1 tg ad bs ru se pf hd ca evs ln → ad 0 = ad0 0 → has σ1 a (iA (kc κ) 2700 g) → has σ1 m (lA (kc κ) 2 gm) → 1000 ≤ tg a → 1000 ≤ tg m → b ≤ bs.length → k ≤ 366 * b → n ≤ 11208 * b → (bs.length + 1 - b) < N → J κ σ1 [(0, .ref (ad0 0)), (1, .ref a), (2, vi ((b : Int)))] 2 [] k n := by
    intro N
    induction N with
    | zero => intro b σ1 tg ad ln k n hX had0 hA hM hta htm hb hk hn hN; exact absurd hN (Nat.not_lt_zero _)
    | succ N ih =>
      intro b σ1 tg ad ln k n hX had0 hA hM hta htm hb hk hn hN
      refine j_locals (lv' := [(0, .ref (ad 0)), (1, .ref a), (2, vi ((b : Int)))]) [0, 1, 2] (by rw [had0]; rfl) ?_
      refine j_iload_n 2 C dL_areLayers_2 rfl rfl rfl ?_
      refine j_aload_n 1 C dL_areLayers_3 rfl rfl rfl ?_
      refine j_iconst C dL_areLayers_4 rfl ?_
      refine j_iald C dL_areLayers_5 rfl hA ⟨by omega, by omega⟩ (by omega) hNt.1 ?_
      refine j_icmp_ge (tgt := 244) C dL_areLayers_6 rfl rfl ⟨by omega, by omega⟩ ⟨by omega, by omega⟩ (fun cc1 => ?_) (fun cc1 => ?_)
      · refine j_aload_n 0 C dL_areLayers_244 rfl rfl rfl ?_
        have hx1 := hX.1.1
        refine j_callV (st' := []) (As := []) C dL_areLayers_245 rfl m_L_232 hx1 rfl rfl rfl (c_binCount (kL κ) hfl (kD κ) (kc κ) σ1 tg ad bs ru se pf hd ca evs ln hX) rfl (by omega) (by omega) (by omega) (fun _ _ hx => hx.elim) (fun v3 τ2 hp4 => ?_)
        obtain ⟨rfl, hs9⟩ := hp4
        replace hs9 := hs9.symm
        subst hs9
        show J κ σ1 [(0, .ref (ad 0)), (1, .ref a), (2, vi ((b : Int)))] 248 [vi ((bs.length : Int))] _ _
        refine j_aload_n 1 C dL_areLayers_248 rfl rfl rfl ?_
        refine j_iconst C dL_areLayers_249 rfl ?_
        refine j_iald C dL_areLayers_250 rfl hA ⟨by omega, by omega⟩ (by omega) hNt.1 ?_
        refine j_icmp_ne (tgt := 258) C dL_areLayers_251 rfl rfl ⟨by omega, by omega⟩ ⟨by omega, by omega⟩ (fun cc5 => ?_) (fun cc5 => ?_)
        · exact absurd cc5 (fun q => q rfl)
        · refine j_iconst C dL_areLayers_254 rfl ?_
          refine j_goto (tgt := 259) C dL_areLayers_255 rfl ?_
          exact j_zret C E dL_areLayers_259 rfl (by omega) (by omega) ⟨rfl, tg, ad, bs, ru, se, pf, hd, ca, evs, ln, g, gm, had0, hX, ⟨hA, hNt, hH⟩, hM, ⟨hta, htm⟩, hlo⟩
      · have hbl : b < bs.length := by omega
        have hmem := gB_mem (bs := bs) (i := (b : Int)) (by omega) (by omega)
        obtain ⟨hcap, hok, htc⟩ := hBk _ hmem
        have hll := len_lenB hmem
        have ht0 := tot_0 hok
        have hcn := (hNt.2.2.1 b hbl).1.1
        have hR := (hNt.2.2.1 b hbl).2.1.1
        have hle := fl_len (gB bs (b : Int))
        obtain ⟨L, hL⟩ : ∃ l, fl (gB bs (b : Int)) = l := ⟨_, rfl⟩
        rw [hL] at hR hle
        have hokL : lysOk L := by rw [← hL]; exact fl_ok hok
        have hl80 : L.length ≤ 80 := by omega
        have kpn : Keep σ1 σ1 (fun _ => False) := Keep.rf
        refine j_aload_n 1 C dL_areLayers_9 rfl rfl rfl ?_
        refine j_bipush C dL_areLayers_10 rfl (by decide) ?_
        refine j_iload_n 2 C dL_areLayers_12 rfl rfl rfl ?_
        refine j_iadd C dL_areLayers_13 rfl ?_
        refine j_iald C dL_areLayers_14 rfl hA ⟨by omega, by omega⟩ (by omega) ((congrArg g (show (30 + (b : Int)).toNat = 30 + b by omega)).trans hR.1) ?_
        refine j_istore_n (lv' := [(0, .ref (ad 0)), (1, .ref a), (2, vi ((b : Int))), (3, vi ((L.length : Int)))]) [1, 2, 3, 0] C dL_areLayers_15 rfl rfl rfl rfl ?_
        refine j_new C dL_areLayers_16 rfl na_L_195 (by omega) (by omega) (k' := k + 1) (n' := n + 4) (by first | rfl | omega) (by first | rfl | omega) (fun t τ6 nq8 ee7 => ?_)
        have u9 := hA.old' ee7 nq8
        have u10 := hM.old' ee7 nq8
        have u11 : has τ6 t (.inr (8, [.null, vi (0), vi (0), vi (0)])) := has.fresh' ee7
        have kp12 := kpn.new ee7 nq8
        have htn : t ∉ σ1.1 := nq8
        refine j_dup C dL_areLayers_19 rfl rfl ?_
        have hdom9 : τ6.1 = σ1.1 ++ [t] := dom_new ee7
        refine j_callI (st' := [.ref t]) (As := []) C dL_areLayers_20 rfl m_L_197 rfl rfl (c_sbInit (kL κ) hfl (kD κ) (kc κ) τ6 t u11) rfl (by omega) (by omega) (by omega) (fun _ _ hx => hx.elim) (fun v14 τ13 hp15 => ?_)
        obtain ⟨rfl, d0, hS0, hdn, hkS, hdS⟩ := hp15
        show J κ τ13 [(0, .ref (ad 0)), (1, .ref a), (2, vi ((b : Int))), (3, vi ((L.length : Int)))] 23 [.ref t] _ _
        have hkT : Keep σ1 τ13 (fun _ => False) := kp12.tr2 hkS (fun y z => Or.inr (by rw [show y = t from z]; exact htn))
        have hd0n : d0 ∉ σ1.1 := fun z => hdn (by rw [hdom9]; exact List.mem_append_left _ z)
        have htd0 : t ≠ d0 := fun e => hdn (by rw [← e, hdom9]; exact List.mem_append_right _ (List.mem_singleton.mpr rfl))
        have hTt : ∀ y, y ∈ σ1.1 → updN (updN tg t 3002) d0 3003 y = tg y := fun y hy => by rw [updN_n (fun e => hd0n (by rw [← e]; exact hy)), updN_n (fun e => htn (by rw [← e]; exact hy))]
        have hTB0 : TB (kc κ) τ13 ad bs ru se pf hd ca evs ln a m t g gm [] (k + 1 + 1) (n + 4 + 16) (k + 1 + 1) (n + 4 + 16) := ⟨updN (updN tg t 3002) d0 3003, d0, 16, (hX.retag hTt (fun _ _ => rfl)).keep hkT (fun _ _ z => z.elim), ⟨hkT _ _ hA (fun z => z), hkT _ _ hM (fun z => z)⟩, hS0, ⟨⟨by rw [hTt _ hA.1]; exact hta, by rw [hTt _ hM.1]; exact htm⟩, by rw [updN_n htd0, updN_s]; omega, by rw [updN_s]; omega⟩, fun e => hd0n (by rw [← e]; exact hA.1), by omega⟩
        obtain ⟨kb, hkb⟩ : ∃ z : Nat, k + 1 + 1 = z := ⟨_, rfl⟩
        obtain ⟨nb, hnb⟩ : ∃ z : Nat, n + 4 + 16 = z := ⟨_, rfl⟩
        rw [hkb, hnb] at hTB0 ⊢
        refine j_astore (lv' := [(0, .ref (ad 0)), (1, .ref a), (2, vi ((b : Int))), (3, vi ((L.length : Int))), (4, .ref t)]) [1, 2, 3, 4, 0] C dL_areLayers_23 rfl rfl rfl ?_
        refine j_iconst C dL_areLayers_25 rfl ?_
        refine j_istore (lv' := [(0, .ref (ad 0)), (1, .ref a), (2, vi ((b : Int))), (3, vi ((L.length : Int))), (4, .ref t), (5, vi (0))]) [1, 2, 3, 4, 5, 0] C dL_areLayers_26 rfl rfl rfl ?_
        have lp2 : ∀ (N : Nat) (c : Nat) (σ2 : Wd) (k2 n2 : Nat), TB (kc κ) σ2 ad bs ru se pf hd ca evs ln a m t g gm (lnK L c) kb nb k2 n2 → c ≤ L.length → (L.length + 1 - c) < N → J κ σ2 [(0, .ref (ad 0)), (1, .ref a), (2, vi ((b : Int))), (3, vi ((L.length : Int))), (4, .ref t), (5, vi ((c : Int)))] 28 [] k2 n2 := by
          intro N2
          induction N2 with
          | zero => intro c σ2 k2 n2 hTB hc9 hN2; exact absurd hN2 (Nat.not_lt_zero _)
          | succ N2 ih2 =>
            intro c σ2 k2 n2 hTB hc9 hN2
            obtain ⟨tg2, d, cap, hX2, ⟨hA2, hM2⟩, hS2, ⟨⟨hta2, htm2⟩, htt2, htd2⟩, had2, hr2⟩ := hTB
            refine j_iload 5 C dL_areLayers_28 rfl rfl ?_
            refine j_iload_n 3 C dL_areLayers_30 rfl rfl rfl ?_
            refine j_icmp_ge (tgt := 179) C dL_areLayers_31 rfl rfl ⟨by omega, by omega⟩ ⟨by omega, by omega⟩ (fun cc16 => ?_) (fun cc16 => ?_)
            · have hcL : c = L.length := by omega
              subst hcL
              have htx : lnK L L.length = lnF (fl (gB bs (b : Int))) := by rw [hL]; rfl
              rw [htx] at hS2
              have hll9 := lnK_len hokL L.length (Nat.le_refl _)
              rw [htx] at hll9
              refine j_locals (lv' := [(0, .ref (ad 0)), (1, .ref a), (2, vi ((b : Int))), (3, vi ((L.length : Int))), (4, .ref t)]) [0, 1, 2, 3, 4] rfl ?_
              have hlI : (L.length : Int) = ((gB bs (b : Int)).2.2.length : Int) := by omega
              refine j_aload_n 0 C dL_areLayers_179 rfl rfl rfl ?_
              refine j_iload_n 2 C dL_areLayers_180 rfl rfl rfl ?_
              refine j_callSH (st' := []) (As := [.ref (ad 0), vi ((b : Int))]) C dL_areLayers_181 rfl m_L_222 rfl rfl (W_layersIn (kL κ) hfl (kD κ) (kc κ) σ2 tg2 ad bs ru se pf hd ca evs ln hX2 b hbl) rfl (by omega) (by omega) (by omega) (fun _ _ hx => hx.elim) (fun v42 τ41 hp43 => ?_)
              obtain ⟨rfl, hs9⟩ := hp43
              replace hs9 := hs9.symm
              subst hs9
              show J κ σ2 [(0, .ref (ad 0)), (1, .ref a), (2, vi ((b : Int))), (3, vi ((L.length : Int))), (4, .ref t)] 184 [vi (((gB bs (b : Int)).2.2.length : Int))] _ _
              refine j_iload_n 3 C dL_areLayers_184 rfl rfl rfl ?_
              refine j_icmp_ne (tgt := 236) C dL_areLayers_185 rfl rfl ⟨by omega, by omega⟩ ⟨by omega, by omega⟩ (fun cc44 => ?_) (fun cc44 => ?_)
              · exact absurd cc44 (by omega)
              · refine j_aload_n 0 C dL_areLayers_188 rfl rfl rfl ?_
                refine j_iload_n 2 C dL_areLayers_189 rfl rfl rfl ?_
                refine j_callSH (st' := []) (As := [.ref (ad 0), vi ((b : Int))]) C dL_areLayers_190 rfl m_L_224 rfl rfl (W_bushelsIn (kL κ) hfl (kD κ) (kc κ) σ2 tg2 ad bs ru se pf hd ca evs ln hX2 b hbl) rfl (by omega) (by omega) (by omega) (fun _ _ hx => hx.elim) (fun v46 τ45 hp47 => ?_)
                obtain ⟨rfl, hs9⟩ := hp47
                replace hs9 := hs9.symm
                subst hs9
                show J κ σ2 [(0, .ref (ad 0)), (1, .ref a), (2, vi ((b : Int))), (3, vi ((L.length : Int))), (4, .ref t)] 193 [vi ((tot (gB bs (b : Int)).2.2))] _ _
                refine j_aload_n 1 C dL_areLayers_193 rfl rfl rfl ?_
                refine j_iload_n 2 C dL_areLayers_194 rfl rfl rfl ?_
                refine j_callS (st' := [vi ((tot (gB bs (b : Int)).2.2))]) (As := [.ref a, vi ((b : Int))]) C dL_areLayers_195 rfl m_L_113 rfl rfl (c_within (kL κ) hfl (kD κ) (kc κ) σ2 a g hA2 bs hNt b hbl) rfl (by omega) (by omega) (by omega) (fun _ _ hx => hx.elim) (fun v49 τ48 hp50 => ?_)
                obtain ⟨rfl, hs9⟩ := hp50
                replace hs9 := hs9.symm
                subst hs9
                show J κ σ2 [(0, .ref (ad 0)), (1, .ref a), (2, vi ((b : Int))), (3, vi ((L.length : Int))), (4, .ref t)] 198 [vi ((tot (gB bs (b : Int)).2.2)), vi ((tot (gB bs (b : Int)).2.2))] _ _
                refine j_icmp_ne (tgt := 236) C dL_areLayers_198 rfl rfl ⟨by omega, by omega⟩ ⟨by omega, by omega⟩ (fun cc51 => ?_) (fun cc51 => ?_)
                · exact absurd cc51 (fun q => q rfl)
                · refine j_aload_n 0 C dL_areLayers_201 rfl rfl rfl ?_
                  refine j_iload_n 2 C dL_areLayers_202 rfl rfl rfl ?_
                  refine j_callSH (st' := []) (As := [.ref (ad 0), vi ((b : Int))]) C dL_areLayers_203 rfl m_L_226 rfl rfl (W_capacityOf (kL κ) hfl (kD κ) (kc κ) σ2 tg2 ad bs ru se pf hd ca evs ln hX2 b hbl) rfl (by omega) (by omega) (by omega) (fun _ _ hx => hx.elim) (fun v53 τ52 hp54 => ?_)
                  obtain ⟨rfl, hs9⟩ := hp54
                  replace hs9 := hs9.symm
                  subst hs9
                  show J κ σ2 [(0, .ref (ad 0)), (1, .ref a), (2, vi ((b : Int))), (3, vi ((L.length : Int))), (4, .ref t)] 206 [vi ((gB bs (b : Int)).1)] _ _
                  refine j_aload_n 1 C dL_areLayers_206 rfl rfl rfl ?_
                  refine j_bipush C dL_areLayers_207 rfl (by decide) ?_
                  refine j_iload_n 2 C dL_areLayers_209 rfl rfl rfl ?_
                  refine j_iadd C dL_areLayers_210 rfl ?_
                  refine j_iald C dL_areLayers_211 rfl hA2 ⟨by omega, by omega⟩ (by omega) ((congrArg g (show (10 + (b : Int)).toNat = 10 + b by omega)).trans hcn) ?_
                  refine j_icmp_ne (tgt := 236) C dL_areLayers_212 rfl rfl ⟨by omega, by omega⟩ ⟨by omega, by omega⟩ (fun cc55 => ?_) (fun cc55 => ?_)
                  · exact absurd cc55 (fun q => q rfl)
                  · refine j_aload_n 0 C dL_areLayers_215 rfl rfl rfl ?_
                    refine j_iload_n 2 C dL_areLayers_216 rfl rfl rfl ?_
                    refine j_iload_n 3 C dL_areLayers_217 rfl rfl rfl ?_
                    refine j_callSH (st' := []) (As := [.ref (ad 0), vi ((b : Int)), vi ((L.length : Int))]) C dL_areLayers_218 rfl m_L_198 rfl rfl (W_layerBushelsB (kL κ) hfl (kD κ) (kc κ) σ2 tg2 ad bs ru se pf hd ca evs ln hX2 b hbl (L.length : Int) ⟨by omega, by omega⟩ (Or.inr (by omega))) rfl (by omega) (by omega) (by omega) (fun _ _ hx => hx.elim) (fun v57 τ56 hp58 => ?_)
                    obtain ⟨rfl, hs9⟩ := hp58
                    replace hs9 := hs9.symm
                    subst hs9
                    show J κ σ2 [(0, .ref (ad 0)), (1, .ref a), (2, vi ((b : Int))), (3, vi ((L.length : Int))), (4, .ref t)] 221 [vi ((-900001))] _ _
                    refine j_ldc (z := (-900001)) C dL_areLayers_221 rfl kc_L_17 ?_
                    refine j_icmp_ne (tgt := 236) C dL_areLayers_223 rfl rfl ⟨by omega, by omega⟩ ⟨by omega, by omega⟩ (fun cc59 => absurd cc59 (by decide)) (fun _ => ?_)
                    refine j_aload_n 0 C dL_areLayers_226 rfl rfl rfl ?_
                    refine j_iload_n 2 C dL_areLayers_227 rfl rfl rfl ?_
                    refine j_aload 4 C dL_areLayers_228 rfl rfl ?_
                    refine j_callS (st' := []) (As := [.ref (ad 0), vi ((b : Int)), .ref t]) C dL_areLayers_230 rfl m_L_228 rfl rfl (c_isLine (kL κ) hfl (kD κ) (kc κ) σ2 tg2 ad bs ru se pf hd ca evs ln hX2 b hbl t d cap hS2 htt2 htd2 (by omega)) rfl (by omega) (by omega) (by omega) (fun _ _ hx => hx.elim) (fun v61 τ60 hp62 => ?_)
                    obtain ⟨rfl, tg', ad', hR9, hT9, hA9, hK9, hM9⟩ := hp62
                    show J κ τ60 [(0, .ref (ad 0)), (1, .ref a), (2, vi ((b : Int))), (3, vi ((L.length : Int))), (4, .ref t)] 233 [vi (1)] _ _
                    refine j_if_ne (tgt := 238) C dL_areLayers_233 rfl rfl ⟨by omega, by omega⟩ (fun _ => ?_) (fun cc63 => absurd cc63 (by decide))
                    refine j_iinc (y := (b : Int) + 1) (lv' := [(0, .ref (ad 0)), (1, .ref a), (2, vi ((b : Int) + 1)), (3, vi ((L.length : Int))), (4, .ref t)]) 2 [1, 2, 0, 3, 4] C dL_areLayers_238 rfl rfl rfl rfl rfl ?_
                    refine j_goto (tgt := 2) C dL_areLayers_241 rfl ?_
                    refine j_locals (lv' := [(0, .ref (ad 0)), (1, .ref a), (2, vi ((b : Int) + 1))]) [0, 1, 2] rfl ?_
                    refine j_locals (lv' := [(0, .ref (ad0 0)), (1, .ref a), (2, vi (((b + 1 : Nat) : Int)))]) [0, 1, 2] (by rw [had0]; rfl) ?_
                    exact ih (b + 1) τ60 tg' ad' _ _ _ hR9 (hA9.trans had0) (hK9 _ _ hA2 (fun z => by have z1 : tg2 a < 1000 := z; omega)) (hK9 _ _ hM2 (fun z => by have z1 : tg2 m < 1000 := z; omega)) (by rw [hT9 _ hA2.1]; exact hta2) (by rw [hT9 _ hM2.1]; exact htm2) (by omega) (by omega) (by omega) (by omega)
            · have hxo := lyAt_ok hokL (i := (c : Int)) (by omega) (by omega)
              obtain ⟨⟨hx1, hx2⟩, ⟨hx3, hx4⟩, ⟨hx5, hx6⟩, hx7, hx8⟩ := id hxo
              have hlk := lnK_len hokL c (by omega)
              have hlk1 := lnK_len hokL (c + 1) (by omega)
              refine j_iload_n 2 C dL_areLayers_34 rfl rfl rfl ?_
              refine j_iload 5 C dL_areLayers_35 rfl rfl ?_
              refine j_callS (st' := []) (As := [vi ((b : Int)), vi ((c : Int))]) C dL_areLayers_37 rfl m_L_102 rfl rfl (c_at (kL κ) hfl (kD κ) (kc κ) σ2 (b : Int) (c : Int)) rfl (by omega) (by omega) (by omega) (fun _ _ hx => hx.elim) (fun v18 τ17 hp19 => ?_)
              obtain ⟨rfl, hs9⟩ := hp19
              replace hs9 := hs9.symm
              subst hs9
              show J κ σ2 [(0, .ref (ad 0)), (1, .ref a), (2, vi ((b : Int))), (3, vi ((L.length : Int))), (4, .ref t), (5, vi ((c : Int)))] 40 [vi ((260 + 400 * (b : Int) + 4 * (c : Int)))] _ _
              refine j_istore (lv' := [(0, .ref (ad 0)), (1, .ref a), (2, vi ((b : Int))), (3, vi ((L.length : Int))), (4, .ref t), (5, vi ((c : Int))), (6, vi ((260 + 400 * (b : Int) + 4 * (c : Int))))]) [1, 2, 3, 4, 5, 6, 0] C dL_areLayers_40 rfl rfl rfl ?_
              refine j_aload_n 0 C dL_areLayers_42 rfl rfl rfl ?_
              refine j_iload_n 2 C dL_areLayers_43 rfl rfl rfl ?_
              refine j_iload 5 C dL_areLayers_44 rfl rfl ?_
              refine j_callSH (st' := []) (As := [.ref (ad 0), vi ((b : Int)), vi ((c : Int))]) C dL_areLayers_46 rfl m_L_198 rfl rfl (W_layerBushels (kL κ) hfl (kD κ) (kc κ) σ2 tg2 ad bs ru se pf hd ca evs ln hX2 b hbl (c : Int) ⟨by omega, by omega⟩) rfl (by omega) (by omega) (by omega) (fun _ _ hx => hx.elim) (fun v21 τ20 hp22 => ?_)
              obtain ⟨rfl, hs9⟩ := hp22
              replace hs9 := hs9.symm
              subst hs9
              show J κ σ2 [(0, .ref (ad 0)), (1, .ref a), (2, vi ((b : Int))), (3, vi ((L.length : Int))), (4, .ref t), (5, vi ((c : Int))), (6, vi ((260 + 400 * (b : Int) + 4 * (c : Int))))] 49 [vi ((lyAt (fl (gB bs (b : Int))) (c : Int)).1)] _ _
              rw [hL]
              refine j_aload_n 1 C dL_areLayers_49 rfl rfl rfl ?_
              refine j_iload 6 C dL_areLayers_50 rfl rfl ?_
              refine j_iald C dL_areLayers_52 rfl hA2 ⟨by omega, by omega⟩ (by omega) (hR.k0 (k := c) (by omega) (z := (260 + 400 * (b : Int) + 4 * (c : Int))) rfl) ?_
              refine j_icmp_ne (tgt := 118) C dL_areLayers_53 rfl rfl ⟨by omega, by omega⟩ ⟨by omega, by omega⟩ (fun cc23 => ?_) (fun cc23 => ?_)
              · exact absurd cc23 (fun q => q rfl)
              · refine j_aload_n 0 C dL_areLayers_56 rfl rfl rfl ?_
                refine j_iload_n 2 C dL_areLayers_57 rfl rfl rfl ?_
                refine j_iload 5 C dL_areLayers_58 rfl rfl ?_
                refine j_callSH (st' := []) (As := [.ref (ad 0), vi ((b : Int)), vi ((c : Int))]) C dL_areLayers_60 rfl m_L_200 rfl rfl (W_layerAnew (kL κ) hfl (kD κ) (kc κ) σ2 tg2 ad bs ru se pf hd ca evs ln hX2 b hbl (c : Int) ⟨by omega, by omega⟩) rfl (by omega) (by omega) (by omega) (fun _ _ hx => hx.elim) (fun v25 τ24 hp26 => ?_)
                obtain ⟨rfl, hX3, hK3, hd3⟩ := hp26
                show J κ τ24 [(0, .ref (ad 0)), (1, .ref a), (2, vi ((b : Int))), (3, vi ((L.length : Int))), (4, .ref t), (5, vi ((c : Int))), (6, vi ((260 + 400 * (b : Int) + 4 * (c : Int))))] 63 [vi ((lyAt (fl (gB bs (b : Int))) (c : Int)).1)] _ _
                rw [hL]
                have hA3 := hK3 _ _ hA2 (fun z => by have z1 := z.2; omega)
                have hM3 := hK3 _ _ hM2 (fun z => by have z1 := z.2; omega)
                have hS3 := hS2.keep hK3 ⟨fun z => by have z1 := z.2; omega, fun z => by have z1 := z.2; omega⟩
                refine j_aload_n 1 C dL_areLayers_63 rfl rfl rfl ?_
                refine j_iload 6 C dL_areLayers_64 rfl rfl ?_
                refine j_iald C dL_areLayers_66 rfl hA3 ⟨by omega, by omega⟩ (by omega) (hR.k0 (k := c) (by omega) (z := (260 + 400 * (b : Int) + 4 * (c : Int))) rfl) ?_
                refine j_icmp_ne (tgt := 118) C dL_areLayers_67 rfl rfl ⟨by omega, by omega⟩ ⟨by omega, by omega⟩ (fun cc27 => ?_) (fun cc27 => ?_)
                · exact absurd cc27 (fun q => q rfl)
                · refine j_aload_n 0 C dL_areLayers_70 rfl rfl rfl ?_
                  refine j_iload_n 2 C dL_areLayers_71 rfl rfl rfl ?_
                  refine j_iload 5 C dL_areLayers_72 rfl rfl ?_
                  refine j_callSH (st' := []) (As := [.ref (ad 0), vi ((b : Int)), vi ((c : Int))]) C dL_areLayers_74 rfl m_L_202 rfl rfl (W_layerMoisture (kL κ) hfl (kD κ) (kc κ) τ24 tg2 ad bs ru se pf hd ca evs ln hX3 b hbl (c : Int) ⟨by omega, by omega⟩) rfl (by omega) (by omega) (by omega) (fun _ _ hx => hx.elim) (fun v29 τ28 hp30 => ?_)
                  obtain ⟨rfl, hs9⟩ := hp30
                  replace hs9 := hs9.symm
                  subst hs9
                  show J κ τ24 [(0, .ref (ad 0)), (1, .ref a), (2, vi ((b : Int))), (3, vi ((L.length : Int))), (4, .ref t), (5, vi ((c : Int))), (6, vi ((260 + 400 * (b : Int) + 4 * (c : Int))))] 77 [vi ((lyAt (fl (gB bs (b : Int))) (c : Int)).2.1)] _ _
                  rw [hL]
                  refine j_aload_n 1 C dL_areLayers_77 rfl rfl rfl ?_
                  refine j_iload 6 C dL_areLayers_78 rfl rfl ?_
                  refine j_iconst C dL_areLayers_80 rfl ?_
                  refine j_iadd C dL_areLayers_81 rfl ?_
                  refine j_iald C dL_areLayers_82 rfl hA3 ⟨by omega, by omega⟩ (by omega) (hR.k1 (k := c) (by omega) (z := (260 + 400 * (b : Int) + 4 * (c : Int)) + 1) rfl) ?_
                  refine j_icmp_ne (tgt := 118) C dL_areLayers_83 rfl rfl ⟨by omega, by omega⟩ ⟨by omega, by omega⟩ (fun cc31 => ?_) (fun cc31 => ?_)
                  · exact absurd cc31 (fun q => q rfl)
                  · refine j_aload_n 0 C dL_areLayers_86 rfl rfl rfl ?_
                    refine j_iload_n 2 C dL_areLayers_87 rfl rfl rfl ?_
                    refine j_iload 5 C dL_areLayers_88 rfl rfl ?_
                    refine j_callSH (st' := []) (As := [.ref (ad 0), vi ((b : Int)), vi ((c : Int))]) C dL_areLayers_90 rfl m_L_204 rfl rfl (W_layerForeign (kL κ) hfl (kD κ) (kc κ) τ24 tg2 ad bs ru se pf hd ca evs ln hX3 b hbl (c : Int) ⟨by omega, by omega⟩) rfl (by omega) (by omega) (by omega) (fun _ _ hx => hx.elim) (fun v33 τ32 hp34 => ?_)
                    obtain ⟨rfl, hs9⟩ := hp34
                    replace hs9 := hs9.symm
                    subst hs9
                    show J κ τ24 [(0, .ref (ad 0)), (1, .ref a), (2, vi ((b : Int))), (3, vi ((L.length : Int))), (4, .ref t), (5, vi ((c : Int))), (6, vi ((260 + 400 * (b : Int) + 4 * (c : Int))))] 93 [vi ((lyAt (fl (gB bs (b : Int))) (c : Int)).2.2.1)] _ _
                    rw [hL]
                    refine j_aload_n 1 C dL_areLayers_93 rfl rfl rfl ?_
                    refine j_iload 6 C dL_areLayers_94 rfl rfl ?_
                    refine j_iconst C dL_areLayers_96 rfl ?_
                    refine j_iadd C dL_areLayers_97 rfl ?_
                    refine j_iald C dL_areLayers_98 rfl hA3 ⟨by omega, by omega⟩ (by omega) (hR.k2 (k := c) (by omega) (z := (260 + 400 * (b : Int) + 4 * (c : Int)) + 2) rfl) ?_
                    refine j_icmp_ne (tgt := 118) C dL_areLayers_99 rfl rfl ⟨by omega, by omega⟩ ⟨by omega, by omega⟩ (fun cc35 => ?_) (fun cc35 => ?_)
                    · exact absurd cc35 (fun q => q rfl)
                    · refine j_aload_n 0 C dL_areLayers_102 rfl rfl rfl ?_
                      refine j_iload_n 2 C dL_areLayers_103 rfl rfl rfl ?_
                      refine j_iload 5 C dL_areLayers_104 rfl rfl ?_
                      refine j_callSH (st' := []) (As := [.ref (ad 0), vi ((b : Int)), vi ((c : Int))]) C dL_areLayers_106 rfl m_L_206 rfl rfl (W_layerGrade (kL κ) hfl (kD κ) (kc κ) τ24 tg2 ad bs ru se pf hd ca evs ln hX3 b hbl (c : Int) ⟨by omega, by omega⟩) rfl (by omega) (by omega) (by omega) (fun _ _ hx => hx.elim) (fun v37 τ36 hp38 => ?_)
                      obtain ⟨rfl, hs9⟩ := hp38
                      replace hs9 := hs9.symm
                      subst hs9
                      show J κ τ24 [(0, .ref (ad 0)), (1, .ref a), (2, vi ((b : Int))), (3, vi ((L.length : Int))), (4, .ref t), (5, vi ((c : Int))), (6, vi ((260 + 400 * (b : Int) + 4 * (c : Int))))] 109 [vi ((lyAt (fl (gB bs (b : Int))) (c : Int)).2.2.2)] _ _
                      rw [hL]
                      refine j_aload_n 1 C dL_areLayers_109 rfl rfl rfl ?_
                      refine j_iload 6 C dL_areLayers_110 rfl rfl ?_
                      refine j_iconst C dL_areLayers_112 rfl ?_
                      refine j_iadd C dL_areLayers_113 rfl ?_
                      refine j_iald C dL_areLayers_114 rfl hA3 ⟨by omega, by omega⟩ (by omega) (hR.k3 (k := c) (by omega) (z := (260 + 400 * (b : Int) + 4 * (c : Int)) + 3) rfl) ?_
                      refine j_icmp_eq (tgt := 120) C dL_areLayers_115 rfl rfl ⟨by omega, by omega⟩ ⟨by omega, by omega⟩ (fun cc39 => ?_) (fun cc39 => ?_)
                      · refine j_aload 4 C dL_areLayers_120 rfl rfl ?_
                        refine j_iload 5 C dL_areLayers_122 rfl rfl ?_
                        refine j_if_ne (tgt := 132) C dL_areLayers_124 rfl rfl ⟨by omega, by omega⟩ (fun cc40 => ?_) (fun cc40 => ?_)
                        · refine j_ldcT (q := kc κ (10 + 1)) C dL_areLayers_132 rfl C.lits.2.2 ?_
                          have hTB3 : TB (kc κ) τ24 ad bs ru se pf hd ca evs ln a m t g gm (lnK L c) kb nb k2 n2 := ⟨tg2, d, cap, hX3, ⟨hA3, hM3⟩, hS3, ⟨⟨hta2, htm2⟩, htt2, htd2⟩, had2, hr2⟩
                          have hkl : kb + 112 ≤ (kR κ).cells := by omega
                          have hnl : nb + 3572 ≤ (kR κ).slots := by omega
                          refine al_row C hfl hkl hnl (ti := 1) (q := (260 + 400 * (b : Int) + 4 * (c : Int))) ⟨by omega, by omega⟩ (hR.k0 (k := c) (by omega) (z := (260 + 400 * (b : Int) + 4 * (c : Int))) rfl) (hR.k1 (k := c) (by omega) (z := (260 + 400 * (b : Int) + 4 * (c : Int)) + 1) rfl) (hR.k3 (k := c) (by omega) (z := (260 + 400 * (b : Int) + 4 * (c : Int)) + 3) rfl) ⟨by omega, by omega⟩ ⟨by omega, by omega⟩ ⟨by omega, by omega⟩ (by omega) (by decide) hTB3 (fun σ' k' n' hTB5 => ?_)
                          have hcsF : (((((lnK L c ++ ltT 1) ++ dg (lyAt L (c : Int)).1) ++ [64]) ++ dg (lyAt L (c : Int)).2.1) ++ [103]) ++ dg (lyAt L (c : Int)).2.2.2 = lnK L (c + 1) := by
                            show _ = ((((((lnK L c ++ (if c = 0 then [] else [32])) ++ dg (lyAt L (c : Int)).1) ++ [64]) ++ dg (lyAt L (c : Int)).2.1) ++ [103]) ++ dg (lyAt L (c : Int)).2.2.2)
                            rw [if_neg (by omega)]
                            rfl
                          rw [hcsF] at hTB5
                          refine j_pop C dL_areLayers_172 rfl rfl ?_
                          refine j_iinc (y := (c : Int) + 1) (lv' := [(0, .ref (ad 0)), (1, .ref a), (2, vi ((b : Int))), (3, vi ((L.length : Int))), (4, .ref t), (5, vi ((c : Int) + 1)), (6, vi ((260 + 400 * (b : Int) + 4 * (c : Int))))]) 5 [1, 2, 3, 4, 5, 0, 6] C dL_areLayers_173 rfl rfl rfl rfl rfl ?_
                          refine j_goto (tgt := 28) C dL_areLayers_176 rfl ?_
                          refine j_locals (lv' := [(0, .ref (ad 0)), (1, .ref a), (2, vi ((b : Int))), (3, vi ((L.length : Int))), (4, .ref t), (5, vi ((c : Int) + 1))]) [0, 1, 2, 3, 4, 5] rfl ?_
                          exact ih2 (c + 1) σ' k' n' hTB5 (by omega) (by omega)
                        · refine j_ldcT (q := kc κ (10 + 0)) C dL_areLayers_127 rfl C.lits.2.1 ?_
                          refine j_goto (tgt := 134) C dL_areLayers_129 rfl ?_
                          have hTB3 : TB (kc κ) τ24 ad bs ru se pf hd ca evs ln a m t g gm (lnK L c) kb nb k2 n2 := ⟨tg2, d, cap, hX3, ⟨hA3, hM3⟩, hS3, ⟨⟨hta2, htm2⟩, htt2, htd2⟩, had2, hr2⟩
                          have hkl : kb + 112 ≤ (kR κ).cells := by omega
                          have hnl : nb + 3572 ≤ (kR κ).slots := by omega
                          refine al_row C hfl hkl hnl (ti := 0) (q := (260 + 400 * (b : Int) + 4 * (c : Int))) ⟨by omega, by omega⟩ (hR.k0 (k := c) (by omega) (z := (260 + 400 * (b : Int) + 4 * (c : Int))) rfl) (hR.k1 (k := c) (by omega) (z := (260 + 400 * (b : Int) + 4 * (c : Int)) + 1) rfl) (hR.k3 (k := c) (by omega) (z := (260 + 400 * (b : Int) + 4 * (c : Int)) + 3) rfl) ⟨by omega, by omega⟩ ⟨by omega, by omega⟩ ⟨by omega, by omega⟩ (by omega) (by decide) hTB3 (fun σ' k' n' hTB5 => ?_)
                          have hcsF : (((((lnK L c ++ ltT 0) ++ dg (lyAt L (c : Int)).1) ++ [64]) ++ dg (lyAt L (c : Int)).2.1) ++ [103]) ++ dg (lyAt L (c : Int)).2.2.2 = lnK L (c + 1) := by
                            show _ = ((((((lnK L c ++ (if c = 0 then [] else [32])) ++ dg (lyAt L (c : Int)).1) ++ [64]) ++ dg (lyAt L (c : Int)).2.1) ++ [103]) ++ dg (lyAt L (c : Int)).2.2.2)
                            rw [if_pos (by omega)]
                            rfl
                          rw [hcsF] at hTB5
                          refine j_pop C dL_areLayers_172 rfl rfl ?_
                          refine j_iinc (y := (c : Int) + 1) (lv' := [(0, .ref (ad 0)), (1, .ref a), (2, vi ((b : Int))), (3, vi ((L.length : Int))), (4, .ref t), (5, vi ((c : Int) + 1)), (6, vi ((260 + 400 * (b : Int) + 4 * (c : Int))))]) 5 [1, 2, 3, 4, 5, 0, 6] C dL_areLayers_173 rfl rfl rfl rfl rfl ?_
                          refine j_goto (tgt := 28) C dL_areLayers_176 rfl ?_
                          refine j_locals (lv' := [(0, .ref (ad 0)), (1, .ref a), (2, vi ((b : Int))), (3, vi ((L.length : Int))), (4, .ref t), (5, vi ((c : Int) + 1))]) [0, 1, 2, 3, 4, 5] rfl ?_
                          exact ih2 (c + 1) σ' k' n' hTB5 (by omega) (by omega)
                      · exact absurd cc39 (fun q => q rfl)
        exact lp2 _ 0 τ13 kb nb hTB0 (Nat.zero_le _) (Nat.lt_succ_self _)
  exact lp _ 0 σ tg0 ad0 ln0 0 0 hX9 rfl hA0 hM0 hta0 htm0 (Nat.zero_le _) (Nat.zero_le _) (Nat.zero_le _) (Nat.lt_succ_self _)
