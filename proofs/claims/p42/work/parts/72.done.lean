/-! the law's own: isDone, deed by deed -/
theorem RuN.put {g G : Nat → Int} {ru : Nat → Int × Int} {se : Int} {k : Nat} {x y : Int} (h : RuN g ru se) (hk : k < 12) (hx : 80 ≤ x ∧ x ≤ 300) (hy : 0 ≤ y ∧ y ≤ 100) (h1 : G (40 + 2 * k) = x) (h2 : G (41 + 2 * k) = y) (ho : ∀ q : Nat, q ≠ 40 + 2 * k → q ≠ 41 + 2 * k → G q = g q) : RuN G (ruU ru k x y) se := by
  refine ⟨(ho 1 (by omega) (by omega)).trans h.1, h.2.1, fun i hi => ?_⟩
  obtain ⟨⟨a1, a2⟩, a3⟩ := h.2.2 i hi
  unfold ruU
  by_cases e : i = k
  · rw [if_pos e, e]
    exact ⟨⟨h1, h2⟩, hx, hy⟩
  · rw [if_neg e]
    exact ⟨⟨(ho _ (by omega) (by omega)).trans a1, (ho _ (by omega) (by omega)).trans a2⟩, a3⟩
theorem LI.mk {cy : Nat → Nat} {σ : Wd} {tg ad : Nat → Nat} {bs : List Bn} {ru : Nat → Int × Int} {se : Int} {pf : Nat → Int} {hd : Hd} {ca : Int} {evs : List Evt} {ln : List Int} {g gm : Nat → Int} {o a m lo : Nat} (ho : ad 0 = o) (hX : RX cy σ tg ad bs ru se pf hd ca evs ln) (hA : has σ a (iA cy 2700 g)) (hNt : NetL g bs) (hH : NetH g ru se pf evs.length hd.2.2.2.1 (totB bs)) (hM : has σ m (lA cy 2 gm)) (hta : 1000 ≤ tg a) (htm : 1000 ≤ tg m) (hlo : lo ≤ bs.length) : LI cy σ o a m lo := ⟨tg, ad, bs, ru, se, pf, hd, ca, evs, ln, g, gm, ho, hX, ⟨hA, hNt, hH⟩, hM, ⟨hta, htm⟩, hlo⟩
theorem upd_pf {g G : Nat → Int} {pf : Nat → Int} {k : Nat} {y : Int} (h : ∀ q : Nat, 1 ≤ q → q ≤ 4 → g (70 + q) = pf q) (h1 : G (70 + k) = y) (ho : ∀ q : Nat, q ≠ 70 + k → G q = g q) : ∀ q : Nat, 1 ≤ q → q ≤ 4 → G (70 + q) = ups pf k y q := by
  intro q a b
  by_cases e : q = k
  · rw [e, ups_s]; exact h1
  · rw [ups_n e, ho _ (by omega)]; exact h q a b
set_option maxHeartbeats 8000000 in
set_option maxRecDepth 20000 in
theorem dn_0 {κ : Kx} {σ : Wd} (C : Cx κ cL_isDone 9 RL "isDone" 10) (hfl : (kL κ).stackTraces = false) {tg ad : Nat → Nat} {bs : List Bn} {ru : Nat → Int × Int} {se : Int} {pf : Nat → Int} {hd : Hd} {ca : Int} {evs : List Evt} {ln : List Int} {g gm : Nat → Int} {a m : Nat} (E : En κ (some .boolean) 102 84180 (fun v σ' => v = some (vi 1) ∧ LI (kc κ) σ' (ad 0) a m 1) noX) (hX0 : RX (kc κ) σ tg ad bs ru se pf hd ca evs ln) (hA : has σ a (iA (kc κ) 2700 g)) (hNt : NetL g bs) (hH : NetH g ru se pf evs.length hd.2.2.2.1 (totB bs)) (hM : has σ m (lA (kc κ) 2 gm)) (hta : 1000 ≤ tg a) (htm : 1000 ≤ tg m) {i n : Int} {b : Nat} (hi : 0 ≤ i ∧ i ≤ 800) (hb : b < bs.length) (hn : 1 ≤ n ∧ n ≤ 70) : J κ σ [(0, .ref (ad 0)), (1, .ref a), (2, .ref m), (3, .ref (kc κ 9)), (4, vi (i)), (5, vi ((b : Int))), (6, vi (n))] 100 [] 0 0 := by
  obtain ⟨-, -, -, -, hc, hs⟩ := id E
  have hO := hX0.ok
  have h6 := hO.1
  have hBk := hO.2.1
  have hlb := hO.2.2.1
  have hpf := hO.2.2.2.2.1
  have hTb := totB_in hBk
  obtain ⟨hRu, h2, h3, h4, h5, hPr⟩ := id hH
  have hma : m ≠ a := hM.nk hA rfl
  have kp0 : Keep σ σ (fun y => y = a ∨ y = m) := Keep.rf
  have dm0 : σ.1 = σ.1 := rfl
  have hmemb := gB_mem (bs := bs) (i := (b : Int)) (by omega) (by omega)
  obtain ⟨hcapb, hokb, htcb⟩ := hBk _ hmemb
  have hllb := len_lenB hmemb
  have ht0b := tot_0 hokb
  have hcnb := (hNt.2.2.1 b hb).1.1
  refine j_aload_n 0 C dL_isDone_100 rfl rfl rfl ?_
  refine j_aload_n 1 C dL_isDone_101 rfl rfl rfl ?_
  refine j_iconst C dL_isDone_102 rfl ?_
  refine j_aload_n 3 C dL_isDone_103 rfl rfl rfl ?_
  refine j_iload 4 C dL_isDone_104 rfl rfl ?_
  refine j_iconst C dL_isDone_106 rfl ?_
  refine j_iadd C dL_isDone_107 rfl ?_
  refine j_sipush C dL_isDone_108 rfl (by decide) ?_
  refine j_callS (st' := [vi (1), .ref a, .ref (ad 0)]) (As := [.ref (kc κ 9), vi (i + 1), vi (400)]) C dL_isDone_111 rfl m_L_132 rfl rfl (c_in (kL κ) hfl (kD κ) (kc κ) σ (i + 1) 400 ⟨by omega, by omega⟩ ⟨by omega, by omega⟩) rfl (by omega) (by omega) (by omega) (fun _ _ hx => hx.elim) (fun v3 τ2 hp4 => ?_)
  obtain ⟨z1, rfl, hz1, hs9⟩ := hp4
  replace hs9 := hs9.symm
  subst hs9
  show J κ σ [(0, .ref (ad 0)), (1, .ref a), (2, .ref m), (3, .ref (kc κ 9)), (4, vi (i)), (5, vi ((b : Int))), (6, vi (n))] 114 [vi (z1), vi (1), .ref a, .ref (ad 0)] _ _
  refine j_iadd C dL_isDone_114 rfl ?_
  refine j_aload_n 3 C dL_isDone_115 rfl rfl rfl ?_
  refine j_iload 4 C dL_isDone_116 rfl rfl ?_
  refine j_iconst C dL_isDone_118 rfl ?_
  refine j_iadd C dL_isDone_119 rfl ?_
  refine j_iconst C dL_isDone_120 rfl ?_
  refine j_callS (st' := [vi (1 + z1), .ref a, .ref (ad 0)]) (As := [.ref (kc κ 9), vi (i + 2), vi (2)]) C dL_isDone_121 rfl m_L_132 rfl rfl (c_in (kL κ) hfl (kD κ) (kc κ) σ (i + 2) 2 ⟨by omega, by omega⟩ ⟨by omega, by omega⟩) rfl (by omega) (by omega) (by omega) (fun _ _ hx => hx.elim) (fun v7 τ6 hp8 => ?_)
  obtain ⟨z5, rfl, hz5, hs9⟩ := hp8
  replace hs9 := hs9.symm
  subst hs9
  show J κ σ [(0, .ref (ad 0)), (1, .ref a), (2, .ref m), (3, .ref (kc κ 9)), (4, vi (i)), (5, vi ((b : Int))), (6, vi (n))] 124 [vi (z5), vi (1 + z1), .ref a, .ref (ad 0)] _ _
  refine j_if_ne (tgt := 131) C dL_isDone_124 rfl rfl ⟨by omega, by omega⟩ (fun cc9 => ?_) (fun cc9 => ?_)
  · refine j_iconst C dL_isDone_131 rfl ?_
    refine j_eq_st (st' := [vi (b01 false), vi (1 + z1), .ref a, .ref (ad 0)]) rfl ?_
    refine j_callS (st' := []) (As := [.ref (ad 0), .ref a, vi (1 + z1), vi (b01 false)]) C dL_isDone_132 rfl m_L_150 rfl rfl (c_isBin (kL κ) hfl (kD κ) (kc κ) σ (ad 0) a m 1 (LI.mk rfl hX0 hA hNt hH hM hta htm (by omega)) (1 + z1) ⟨by omega, by omega⟩ false) rfl (by omega) (by omega) (by omega) (fun _ _ hx => hx.elim) (fun v11 τ10 hp12 => ?_)
    obtain ⟨rfl, hI9⟩ := hp12
    show J κ τ10 [(0, .ref (ad 0)), (1, .ref a), (2, .ref m), (3, .ref (kc κ 9)), (4, vi (i)), (5, vi ((b : Int))), (6, vi (n))] 135 [vi (1)] _ _
    exact j_zret C E dL_isDone_135 rfl (by omega) (by omega) ⟨rfl, hI9⟩
  · refine j_iconst C dL_isDone_127 rfl ?_
    refine j_goto (tgt := 132) C dL_isDone_128 rfl ?_
    refine j_eq_st (st' := [vi (b01 true), vi (1 + z1), .ref a, .ref (ad 0)]) rfl ?_
    refine j_callS (st' := []) (As := [.ref (ad 0), .ref a, vi (1 + z1), vi (b01 true)]) C dL_isDone_132 rfl m_L_150 rfl rfl (c_isBin (kL κ) hfl (kD κ) (kc κ) σ (ad 0) a m 1 (LI.mk rfl hX0 hA hNt hH hM hta htm (by omega)) (1 + z1) ⟨by omega, by omega⟩ true) rfl (by omega) (by omega) (by omega) (fun _ _ hx => hx.elim) (fun v14 τ13 hp15 => ?_)
    obtain ⟨rfl, hI9⟩ := hp15
    show J κ τ13 [(0, .ref (ad 0)), (1, .ref a), (2, .ref m), (3, .ref (kc κ 9)), (4, vi (i)), (5, vi ((b : Int))), (6, vi (n))] 135 [vi (1)] _ _
    exact j_zret C E dL_isDone_135 rfl (by omega) (by omega) ⟨rfl, hI9⟩
set_option maxHeartbeats 8000000 in
set_option maxRecDepth 20000 in
theorem dn_1 {κ : Kx} {σ : Wd} (C : Cx κ cL_isDone 9 RL "isDone" 10) (hfl : (kL κ).stackTraces = false) {tg ad : Nat → Nat} {bs : List Bn} {ru : Nat → Int × Int} {se : Int} {pf : Nat → Int} {hd : Hd} {ca : Int} {evs : List Evt} {ln : List Int} {g gm : Nat → Int} {a m : Nat} (E : En κ (some .boolean) 102 84180 (fun v σ' => v = some (vi 1) ∧ LI (kc κ) σ' (ad 0) a m 1) noX) (hX0 : RX (kc κ) σ tg ad bs ru se pf hd ca evs ln) (hA : has σ a (iA (kc κ) 2700 g)) (hNt : NetL g bs) (hH : NetH g ru se pf evs.length hd.2.2.2.1 (totB bs)) (hM : has σ m (lA (kc κ) 2 gm)) (hta : 1000 ≤ tg a) (htm : 1000 ≤ tg m) {i n : Int} {b : Nat} (hi : 0 ≤ i ∧ i ≤ 800) (hb : b < bs.length) (hn : 1 ≤ n ∧ n ≤ 70) : J κ σ [(0, .ref (ad 0)), (1, .ref a), (2, .ref m), (3, .ref (kc κ 9)), (4, vi (i)), (5, vi ((b : Int))), (6, vi (n))] 136 [] 0 0 := by
  obtain ⟨-, -, -, -, hc, hs⟩ := id E
  have hO := hX0.ok
  have h6 := hO.1
  have hBk := hO.2.1
  have hlb := hO.2.2.1
  have hpf := hO.2.2.2.2.1
  have hTb := totB_in hBk
  obtain ⟨hRu, h2, h3, h4, h5, hPr⟩ := id hH
  have hma : m ≠ a := hM.nk hA rfl
  have kp0 : Keep σ σ (fun y => y = a ∨ y = m) := Keep.rf
  have dm0 : σ.1 = σ.1 := rfl
  have hmemb := gB_mem (bs := bs) (i := (b : Int)) (by omega) (by omega)
  obtain ⟨hcapb, hokb, htcb⟩ := hBk _ hmemb
  have hllb := len_lenB hmemb
  have ht0b := tot_0 hokb
  have hcnb := (hNt.2.2.1 b hb).1.1
  refine j_bipush C dL_isDone_136 rfl (by decide) ?_
  refine j_bipush C dL_isDone_138 rfl (by decide) ?_
  refine j_aload_n 3 C dL_isDone_140 rfl rfl rfl ?_
  refine j_iload 4 C dL_isDone_141 rfl rfl ?_
  refine j_iconst C dL_isDone_143 rfl ?_
  refine j_iadd C dL_isDone_144 rfl ?_
  refine j_iconst C dL_isDone_145 rfl ?_
  refine j_callS (st' := [vi (6), vi (40)]) (As := [.ref (kc κ 9), vi (i + 1), vi (4)]) C dL_isDone_146 rfl m_L_132 rfl rfl (c_in (kL κ) hfl (kD κ) (kc κ) σ (i + 1) 4 ⟨by omega, by omega⟩ ⟨by omega, by omega⟩) rfl (by omega) (by omega) (by omega) (fun _ _ hx => hx.elim) (fun v3 τ2 hp4 => ?_)
  obtain ⟨z1, rfl, hz1, hs9⟩ := hp4
  replace hs9 := hs9.symm
  subst hs9
  show J κ σ [(0, .ref (ad 0)), (1, .ref a), (2, .ref m), (3, .ref (kc κ 9)), (4, vi (i)), (5, vi ((b : Int))), (6, vi (n))] 149 [vi (z1), vi (6), vi (40)] _ _
  refine j_imul C dL_isDone_149 rfl ?_
  refine j_iadd C dL_isDone_150 rfl ?_
  refine j_iconst C dL_isDone_151 rfl ?_
  refine j_aload_n 3 C dL_isDone_152 rfl rfl rfl ?_
  refine j_iload 4 C dL_isDone_153 rfl rfl ?_
  refine j_iconst C dL_isDone_155 rfl ?_
  refine j_iadd C dL_isDone_156 rfl ?_
  refine j_iconst C dL_isDone_157 rfl ?_
  refine j_callS (st' := [vi (2), vi (40 + (6 * z1))]) (As := [.ref (kc κ 9), vi (i + 2), vi (3)]) C dL_isDone_158 rfl m_L_132 rfl rfl (c_in (kL κ) hfl (kD κ) (kc κ) σ (i + 2) 3 ⟨by omega, by omega⟩ ⟨by omega, by omega⟩) rfl (by omega) (by omega) (by omega) (fun _ _ hx => hx.elim) (fun v7 τ6 hp8 => ?_)
  obtain ⟨z5, rfl, hz5, hs9⟩ := hp8
  replace hs9 := hs9.symm
  subst hs9
  show J κ σ [(0, .ref (ad 0)), (1, .ref a), (2, .ref m), (3, .ref (kc κ 9)), (4, vi (i)), (5, vi ((b : Int))), (6, vi (n))] 161 [vi (z5), vi (2), vi (40 + (6 * z1))] _ _
  refine j_imul C dL_isDone_161 rfl ?_
  refine j_iadd C dL_isDone_162 rfl ?_
  obtain ⟨kk, hkk, hkI⟩ : ∃ kk : Nat, kk < 12 ∧ (kk : Int) = z1 * 3 + z5 := ⟨(z1 * 3 + z5).toNat, by omega, by omega⟩
  refine j_eq_st (st' := [vi (40 + 2 * (kk : Int))]) (by rw [show (40 + (6 * z1)) + (2 * z5) = 40 + 2 * (kk : Int) by omega]) ?_
  show J κ σ [(0, .ref (ad 0)), (1, .ref a), (2, .ref m), (3, .ref (kc κ 9)), (4, vi (i)), (5, vi ((b : Int))), (6, vi (n))] 163 [vi ((40 + 2 * (kk : Int)))] _ _
  obtain ⟨⟨hru1, hru2⟩, hrb1, hrb2⟩ := hRu.2.2 kk hkk
  refine j_istore (lv' := [(0, .ref (ad 0)), (1, .ref a), (2, .ref m), (3, .ref (kc κ 9)), (4, vi (i)), (5, vi ((b : Int))), (6, vi (n)), (7, vi ((40 + 2 * (kk : Int))))]) [1, 2, 3, 4, 5, 6, 7, 0] C dL_isDone_163 rfl rfl rfl ?_
  refine j_aload_n 1 C dL_isDone_165 rfl rfl rfl ?_
  refine j_iload 7 C dL_isDone_166 rfl rfl ?_
  refine j_iald C dL_isDone_168 rfl hA ⟨by omega, by omega⟩ (by omega) ((congrArg g (show ((40 + 2 * (kk : Int))).toNat = 40 + 2 * kk by omega)).trans hru1) ?_
  refine j_istore (lv' := [(0, .ref (ad 0)), (1, .ref a), (2, .ref m), (3, .ref (kc κ 9)), (4, vi (i)), (5, vi ((b : Int))), (6, vi (n)), (7, vi ((40 + 2 * (kk : Int)))), (8, vi ((ru kk).1))]) [1, 2, 3, 4, 5, 6, 7, 8, 0] C dL_isDone_169 rfl rfl rfl ?_
  refine j_aload_n 1 C dL_isDone_171 rfl rfl rfl ?_
  refine j_iload 7 C dL_isDone_172 rfl rfl ?_
  refine j_bipush C dL_isDone_174 rfl (by decide) ?_
  refine j_aload_n 3 C dL_isDone_176 rfl rfl rfl ?_
  refine j_iload 4 C dL_isDone_177 rfl rfl ?_
  refine j_iconst C dL_isDone_179 rfl ?_
  refine j_iadd C dL_isDone_180 rfl ?_
  refine j_bipush C dL_isDone_181 rfl (by decide) ?_
  refine j_callS (st' := [vi (100), vi ((40 + 2 * (kk : Int))), .ref a]) (As := [.ref (kc κ 9), vi (i + 3), vi (100)]) C dL_isDone_183 rfl m_L_132 rfl rfl (c_in (kL κ) hfl (kD κ) (kc κ) σ (i + 3) 100 ⟨by omega, by omega⟩ ⟨by omega, by omega⟩) rfl (by omega) (by omega) (by omega) (fun _ _ hx => hx.elim) (fun v11 τ10 hp12 => ?_)
  obtain ⟨z9, rfl, hz9, hs9⟩ := hp12
  replace hs9 := hs9.symm
  subst hs9
  show J κ σ [(0, .ref (ad 0)), (1, .ref a), (2, .ref m), (3, .ref (kc κ 9)), (4, vi (i)), (5, vi ((b : Int))), (6, vi (n)), (7, vi ((40 + 2 * (kk : Int)))), (8, vi ((ru kk).1))] 186 [vi (z9), vi (100), vi ((40 + 2 * (kk : Int))), .ref a] _ _
  refine j_iadd C dL_isDone_186 rfl ?_
  refine j_iast C dL_isDone_187 rfl hA ⟨by omega, by omega⟩ (by omega) (fun τ13 ee14 => ?_)
  have u15 : has τ13 a (iA (kc κ) 2700 (ups g (40 + 2 * (kk : Int)).toNat (100 + z9))) := hA.self' ee14
  have u16 := hM.ne' ee14 hma
  have kp17 := kp0.put ee14 (Or.inl rfl)
  have dm18 := (dom_put ee14).trans dm0
  refine j_aload_n 1 C dL_isDone_188 rfl rfl rfl ?_
  refine j_iload 7 C dL_isDone_189 rfl rfl ?_
  refine j_iconst C dL_isDone_191 rfl ?_
  refine j_iadd C dL_isDone_192 rfl ?_
  refine j_aload_n 3 C dL_isDone_193 rfl rfl rfl ?_
  refine j_iload 4 C dL_isDone_194 rfl rfl ?_
  refine j_iconst C dL_isDone_196 rfl ?_
  refine j_iadd C dL_isDone_197 rfl ?_
  refine j_bipush C dL_isDone_198 rfl (by decide) ?_
  refine j_callS (st' := [vi ((40 + 2 * (kk : Int)) + 1), .ref a]) (As := [.ref (kc κ 9), vi (i + 4), vi (60)]) C dL_isDone_200 rfl m_L_132 rfl rfl (c_in (kL κ) hfl (kD κ) (kc κ) τ13 (i + 4) 60 ⟨by omega, by omega⟩ ⟨by omega, by omega⟩) rfl (by omega) (by omega) (by omega) (fun _ _ hx => hx.elim) (fun v21 τ20 hp22 => ?_)
  obtain ⟨z19, rfl, hz19, hs9⟩ := hp22
  replace hs9 := hs9.symm
  subst hs9
  show J κ τ13 [(0, .ref (ad 0)), (1, .ref a), (2, .ref m), (3, .ref (kc κ 9)), (4, vi (i)), (5, vi ((b : Int))), (6, vi (n)), (7, vi ((40 + 2 * (kk : Int)))), (8, vi ((ru kk).1))] 203 [vi (z19), vi ((40 + 2 * (kk : Int)) + 1), .ref a] _ _
  refine j_iast C dL_isDone_203 rfl u15 ⟨by omega, by omega⟩ (by omega) (fun τ23 ee24 => ?_)
  have u25 : has τ23 a (iA (kc κ) 2700 (ups (ups g (40 + 2 * (kk : Int)).toNat (100 + z9)) ((40 + 2 * (kk : Int)) + 1).toNat z19)) := u15.self' ee24
  have u26 := u16.ne' ee24 hma
  have kp27 := kp17.put ee24 (Or.inl rfl)
  have dm28 := (dom_put ee24).trans dm18
  obtain ⟨G1, hG1⟩ : ∃ f : Nat → Int, (ups (ups g (40 + 2 * (kk : Int)).toNat (100 + z9)) ((40 + 2 * (kk : Int)) + 1).toNat z19) = f := ⟨_, rfl⟩
  have hAA := u25
  rw [hG1] at hAA
  have g1 : G1 (40 + 2 * kk) = (100 + z9) := by rw [← hG1, ups_n (by omega)]; exact ups_u (by omega)
  have g2 : G1 (41 + 2 * kk) = z19 := by rw [← hG1]; exact ups_u (by omega)
  have go : ∀ q : Nat, q ≠ 40 + 2 * kk → q ≠ 41 + 2 * kk → G1 q = g q := fun q u v => by rw [← hG1, ups_n (by omega), ups_n (by omega)]
  refine j_aload_n 0 C dL_isDone_204 rfl rfl rfl ?_
  refine j_iload 7 C dL_isDone_205 rfl rfl ?_
  refine j_bipush C dL_isDone_207 rfl (by decide) ?_
  refine j_isub C dL_isDone_209 rfl ?_
  refine j_bipush C dL_isDone_210 rfl (by decide) ?_
  refine j_idiv C dL_isDone_212 rfl ⟨by omega, by omega⟩ ⟨by omega, by omega⟩ ?_
  refine j_iconst C dL_isDone_213 rfl ?_
  refine j_iload 7 C dL_isDone_214 rfl rfl ?_
  refine j_bipush C dL_isDone_216 rfl (by decide) ?_
  refine j_isub C dL_isDone_218 rfl ?_
  refine j_bipush C dL_isDone_219 rfl (by decide) ?_
  refine j_irem C dL_isDone_221 rfl ⟨by omega, by omega⟩ ⟨by omega, by omega⟩ ?_
  refine j_iconst C dL_isDone_222 rfl ?_
  refine j_idiv C dL_isDone_223 rfl ⟨by omega, by omega⟩ ⟨by omega, by omega⟩ ?_
  refine j_iadd C dL_isDone_224 rfl ?_
  refine j_aload_n 1 C dL_isDone_225 rfl rfl rfl ?_
  refine j_iload 7 C dL_isDone_226 rfl rfl ?_
  refine j_iald C dL_isDone_228 rfl hAA ⟨by omega, by omega⟩ (by omega) ((congrArg G1 (show ((40 + 2 * (kk : Int))).toNat = 40 + 2 * kk by omega)).trans g1) ?_
  refine j_aload_n 1 C dL_isDone_229 rfl rfl rfl ?_
  refine j_iload 7 C dL_isDone_230 rfl rfl ?_
  refine j_iconst C dL_isDone_232 rfl ?_
  refine j_iadd C dL_isDone_233 rfl ?_
  refine j_iald C dL_isDone_234 rfl hAA ⟨by omega, by omega⟩ (by omega) ((congrArg G1 (show ((40 + 2 * (kk : Int)) + 1).toNat = 41 + 2 * kk by omega)).trans g2) ?_
  refine j_eq_st (st' := [vi (z19), vi ((100 + z9)), vi ((1 + z5)), vi (z1), .ref (ad 0)]) (by rw [show ((40 + 2 * (kk : Int)) - 40) / 6 = z1 by omega, show 1 + ((((40 + 2 * (kk : Int)) - 40) % 6) / 2) = 1 + z5 by omega]) ?_
  have hX29 := hX0.keep kp27 (fun y _ z => z.elim (fun z => by rw [z]; exact hta) (fun z => by rw [z]; exact htm))
  refine j_callSH (st' := []) (As := [.ref (ad 0), vi (z1), vi ((1 + z5)), vi ((100 + z9)), vi (z19)]) C dL_isDone_235 rfl m_L_172 rfl rfl (W_setRule (kL κ) hfl (kD κ) (kc κ) τ23 tg ad bs ru se pf hd ca evs ln hX29 z1 (1 + z5) (100 + z9) z19 ⟨by omega, by omega⟩ ⟨by omega, by omega⟩ ⟨by omega, by omega⟩ ⟨by omega, by omega⟩ ⟨by omega, by omega⟩ ⟨by omega, by omega⟩ ⟨⟨by omega, by omega⟩, ⟨by omega, by omega⟩⟩) rfl (by omega) (by omega) (by omega) (fun _ _ hx => hx.elim) (fun v31 τ30 hp32 => ?_)
  obtain ⟨rfl, hX8, hK8, hd8⟩ := hp32
  show J κ τ30 [(0, .ref (ad 0)), (1, .ref a), (2, .ref m), (3, .ref (kc κ 9)), (4, vi (i)), (5, vi ((b : Int))), (6, vi (n)), (7, vi ((40 + 2 * (kk : Int)))), (8, vi ((ru kk).1))] 238 [vi ((rAt ru z1 (1 + z5)).1)] _ _
  have ha8 := hK8 _ _ hAA (fun z => by have z1 : tg a < 1000 := z; omega)
  have hm8 := hK8 _ _ u26 (fun z => by have z1 : tg m < 1000 := z; omega)
  have hk9 : (z1 * 3 + (1 + z5) - 1).toNat = kk := by omega
  have hra : rAt ru z1 (1 + z5) = ru kk := by unfold rAt; rw [hk9]
  rw [hk9] at hX8
  rw [hra]
  have hN8 : NetL G1 bs := hNt.cong (fun q hq => go q (by omega) (by omega))
  have hH8 : NetH G1 (ruU ru kk (100 + z9) z19) se pf evs.length hd.2.2.2.1 (totB bs) := ⟨hRu.put hkk ⟨by omega, by omega⟩ ⟨by omega, by omega⟩ g1 g2 go, (go 2 (by omega) (by omega)).trans h2, by rw [go 3 (by omega) (by omega)]; exact h3, (go 4 (by omega) (by omega)).trans h4, (go 5 (by omega) (by omega)).trans h5, fun q u v => (go _ (by omega) (by omega)).trans (hPr q u v)⟩
  refine j_iload 8 C dL_isDone_238 rfl rfl ?_
  refine j_icmp_ne (tgt := 247) C dL_isDone_240 rfl rfl ⟨by omega, by omega⟩ ⟨by omega, by omega⟩ (fun cc33 => ?_) (fun cc33 => ?_)
  · exact absurd cc33 (fun q => q rfl)
  · refine j_iconst C dL_isDone_243 rfl ?_
    refine j_goto (tgt := 248) C dL_isDone_244 rfl ?_
    exact j_zret C E dL_isDone_248 rfl (by omega) (by omega) ⟨rfl, LI.mk rfl hX8 ha8 hN8 hH8 hm8 hta htm (by omega)⟩
set_option maxHeartbeats 8000000 in
set_option maxRecDepth 20000 in
theorem dn_2 {κ : Kx} {σ : Wd} (C : Cx κ cL_isDone 9 RL "isDone" 10) (hfl : (kL κ).stackTraces = false) {tg ad : Nat → Nat} {bs : List Bn} {ru : Nat → Int × Int} {se : Int} {pf : Nat → Int} {hd : Hd} {ca : Int} {evs : List Evt} {ln : List Int} {g gm : Nat → Int} {a m : Nat} (E : En κ (some .boolean) 102 84180 (fun v σ' => v = some (vi 1) ∧ LI (kc κ) σ' (ad 0) a m 1) noX) (hX0 : RX (kc κ) σ tg ad bs ru se pf hd ca evs ln) (hA : has σ a (iA (kc κ) 2700 g)) (hNt : NetL g bs) (hH : NetH g ru se pf evs.length hd.2.2.2.1 (totB bs)) (hM : has σ m (lA (kc κ) 2 gm)) (hta : 1000 ≤ tg a) (htm : 1000 ≤ tg m) {i n : Int} {b : Nat} (hi : 0 ≤ i ∧ i ≤ 800) (hb : b < bs.length) (hn : 1 ≤ n ∧ n ≤ 70) : J κ σ [(0, .ref (ad 0)), (1, .ref a), (2, .ref m), (3, .ref (kc κ 9)), (4, vi (i)), (5, vi ((b : Int))), (6, vi (n))] 249 [] 0 0 := by
  obtain ⟨-, -, -, -, hc, hs⟩ := id E
  have hO := hX0.ok
  have h6 := hO.1
  have hBk := hO.2.1
  have hlb := hO.2.2.1
  have hpf := hO.2.2.2.2.1
  have hTb := totB_in hBk
  obtain ⟨hRu, h2, h3, h4, h5, hPr⟩ := id hH
  have hma : m ≠ a := hM.nk hA rfl
  have kp0 : Keep σ σ (fun y => y = a ∨ y = m) := Keep.rf
  have dm0 : σ.1 = σ.1 := rfl
  have hmemb := gB_mem (bs := bs) (i := (b : Int)) (by omega) (by omega)
  obtain ⟨hcapb, hokb, htcb⟩ := hBk _ hmemb
  have hllb := len_lenB hmemb
  have ht0b := tot_0 hokb
  have hcnb := (hNt.2.2.1 b hb).1.1
  refine j_aload_n 1 C dL_isDone_249 rfl rfl rfl ?_
  refine j_iconst C dL_isDone_250 rfl ?_
  refine j_iald C dL_isDone_251 rfl hA ⟨by omega, by omega⟩ (by omega) hRu.1 ?_
  refine j_istore (lv' := [(0, .ref (ad 0)), (1, .ref a), (2, .ref m), (3, .ref (kc κ 9)), (4, vi (i)), (5, vi ((b : Int))), (6, vi (n)), (7, vi (se))]) [1, 2, 3, 4, 5, 6, 7, 0] C dL_isDone_252 rfl rfl rfl ?_
  refine j_aload_n 1 C dL_isDone_254 rfl rfl rfl ?_
  refine j_iconst C dL_isDone_255 rfl ?_
  refine j_aload_n 3 C dL_isDone_256 rfl rfl rfl ?_
  refine j_iload 4 C dL_isDone_257 rfl rfl ?_
  refine j_iconst C dL_isDone_259 rfl ?_
  refine j_iadd C dL_isDone_260 rfl ?_
  refine j_iconst C dL_isDone_261 rfl ?_
  refine j_callS (st' := [vi (1), .ref a]) (As := [.ref (kc κ 9), vi (i + 1), vi (4)]) C dL_isDone_262 rfl m_L_132 rfl rfl (c_in (kL κ) hfl (kD κ) (kc κ) σ (i + 1) 4 ⟨by omega, by omega⟩ ⟨by omega, by omega⟩) rfl (by omega) (by omega) (by omega) (fun _ _ hx => hx.elim) (fun v3 τ2 hp4 => ?_)
  obtain ⟨z1, rfl, hz1, hs9⟩ := hp4
  replace hs9 := hs9.symm
  subst hs9
  show J κ σ [(0, .ref (ad 0)), (1, .ref a), (2, .ref m), (3, .ref (kc κ 9)), (4, vi (i)), (5, vi ((b : Int))), (6, vi (n)), (7, vi (se))] 265 [vi (z1), vi (1), .ref a] _ _
  refine j_iast C dL_isDone_265 rfl hA ⟨by omega, by omega⟩ (by omega) (fun τ5 ee6 => ?_)
  have u7 : has τ5 a (iA (kc κ) 2700 (ups g 1 z1)) := hA.self' ee6
  have u8 := hM.ne' ee6 hma
  have kp9 := kp0.put ee6 (Or.inl rfl)
  have dm10 := (dom_put ee6).trans dm0
  obtain ⟨G1, hG1⟩ : ∃ f : Nat → Int, (ups g 1 z1) = f := ⟨_, rfl⟩
  have hAA := u7
  rw [hG1] at hAA
  have g1 : G1 1 = z1 := by rw [← hG1]; exact ups_u rfl
  have go : ∀ q : Nat, q ≠ 1 → G1 q = g q := fun q u => by rw [← hG1, ups_n (by omega)]
  refine j_aload_n 0 C dL_isDone_266 rfl rfl rfl ?_
  refine j_aload_n 1 C dL_isDone_267 rfl rfl rfl ?_
  refine j_iconst C dL_isDone_268 rfl ?_
  refine j_iald C dL_isDone_269 rfl hAA ⟨by omega, by omega⟩ (by omega) g1 ?_
  have hX11 := hX0.keep kp9 (fun y _ z => z.elim (fun z => by rw [z]; exact hta) (fun z => by rw [z]; exact htm))
  have hse := hRu.2.1
  refine j_callSH (st' := []) (As := [.ref (ad 0), vi (z1)]) C dL_isDone_270 rfl m_L_174 rfl rfl (W_setSeason (kL κ) hfl (kD κ) (kc κ) τ5 tg ad bs ru se pf hd ca evs ln hX11 z1 ⟨by omega, by omega⟩ ⟨by omega, by omega⟩) rfl (by omega) (by omega) (by omega) (fun _ _ hx => hx.elim) (fun v13 τ12 hp14 => ?_)
  obtain ⟨rfl, hX8, hK8, hd8⟩ := hp14
  show J κ τ12 [(0, .ref (ad 0)), (1, .ref a), (2, .ref m), (3, .ref (kc κ 9)), (4, vi (i)), (5, vi ((b : Int))), (6, vi (n)), (7, vi (se))] 273 [vi (se)] _ _
  have ha8 := hK8 _ _ hAA (fun z => by have z1 : tg a < 1000 := z; omega)
  have hm8 := hK8 _ _ u8 (fun z => by have z1 : tg m < 1000 := z; omega)
  have hN8 : NetL G1 bs := hNt.cong2 (fun q hq hq2 => go q (by omega))
  have hH8 : NetH G1 ru z1 pf evs.length hd.2.2.2.1 (totB bs) := ⟨⟨g1, ⟨by omega, by omega⟩, fun q hq => ⟨⟨(go _ (by omega)).trans (hRu.2.2 q hq).1.1, (go _ (by omega)).trans (hRu.2.2 q hq).1.2⟩, (hRu.2.2 q hq).2⟩⟩, (go 2 (by omega)).trans h2, by rw [go 3 (by omega)]; exact h3, (go 4 (by omega)).trans h4, (go 5 (by omega)).trans h5, fun q u v => (go _ (by omega)).trans (hPr q u v)⟩
  refine j_iload 7 C dL_isDone_273 rfl rfl ?_
  refine j_icmp_ne (tgt := 282) C dL_isDone_275 rfl rfl ⟨by omega, by omega⟩ ⟨by omega, by omega⟩ (fun cc15 => ?_) (fun cc15 => ?_)
  · exact absurd cc15 (fun q => q rfl)
  · refine j_iconst C dL_isDone_278 rfl ?_
    refine j_goto (tgt := 283) C dL_isDone_279 rfl ?_
    exact j_zret C E dL_isDone_283 rfl (by omega) (by omega) ⟨rfl, LI.mk rfl hX8 ha8 hN8 hH8 hm8 hta htm (by omega)⟩
set_option maxHeartbeats 8000000 in
set_option maxRecDepth 20000 in
theorem dn_3 {κ : Kx} {σ : Wd} (C : Cx κ cL_isDone 9 RL "isDone" 10) (hfl : (kL κ).stackTraces = false) {tg ad : Nat → Nat} {bs : List Bn} {ru : Nat → Int × Int} {se : Int} {pf : Nat → Int} {hd : Hd} {ca : Int} {evs : List Evt} {ln : List Int} {g gm : Nat → Int} {a m : Nat} (E : En κ (some .boolean) 102 84180 (fun v σ' => v = some (vi 1) ∧ LI (kc κ) σ' (ad 0) a m 1) noX) (hX0 : RX (kc κ) σ tg ad bs ru se pf hd ca evs ln) (hA : has σ a (iA (kc κ) 2700 g)) (hNt : NetL g bs) (hH : NetH g ru se pf evs.length hd.2.2.2.1 (totB bs)) (hM : has σ m (lA (kc κ) 2 gm)) (hta : 1000 ≤ tg a) (htm : 1000 ≤ tg m) {i n : Int} {b : Nat} (hi : 0 ≤ i ∧ i ≤ 800) (hb : b < bs.length) (hn : 1 ≤ n ∧ n ≤ 70) : J κ σ [(0, .ref (ad 0)), (1, .ref a), (2, .ref m), (3, .ref (kc κ 9)), (4, vi (i)), (5, vi ((b : Int))), (6, vi (n))] 284 [] 0 0 := by
  obtain ⟨-, -, -, -, hc, hs⟩ := id E
  have hO := hX0.ok
  have h6 := hO.1
  have hBk := hO.2.1
  have hlb := hO.2.2.1
  have hpf := hO.2.2.2.2.1
  have hTb := totB_in hBk
  obtain ⟨hRu, h2, h3, h4, h5, hPr⟩ := id hH
  have hma : m ≠ a := hM.nk hA rfl
  have kp0 : Keep σ σ (fun y => y = a ∨ y = m) := Keep.rf
  have dm0 : σ.1 = σ.1 := rfl
  have hmemb := gB_mem (bs := bs) (i := (b : Int)) (by omega) (by omega)
  obtain ⟨hcapb, hokb, htcb⟩ := hBk _ hmemb
  have hllb := len_lenB hmemb
  have ht0b := tot_0 hokb
  have hcnb := (hNt.2.2.1 b hb).1.1
  refine j_iconst C dL_isDone_284 rfl ?_
  refine j_aload_n 3 C dL_isDone_285 rfl rfl rfl ?_
  refine j_iload 4 C dL_isDone_286 rfl rfl ?_
  refine j_iconst C dL_isDone_288 rfl ?_
  refine j_iadd C dL_isDone_289 rfl ?_
  refine j_iconst C dL_isDone_290 rfl ?_
  refine j_callS (st' := [vi (1)]) (As := [.ref (kc κ 9), vi (i + 1), vi (4)]) C dL_isDone_291 rfl m_L_132 rfl rfl (c_in (kL κ) hfl (kD κ) (kc κ) σ (i + 1) 4 ⟨by omega, by omega⟩ ⟨by omega, by omega⟩) rfl (by omega) (by omega) (by omega) (fun _ _ hx => hx.elim) (fun v3 τ2 hp4 => ?_)
  obtain ⟨z1, rfl, hz1, hs9⟩ := hp4
  replace hs9 := hs9.symm
  subst hs9
  show J κ σ [(0, .ref (ad 0)), (1, .ref a), (2, .ref m), (3, .ref (kc κ 9)), (4, vi (i)), (5, vi ((b : Int))), (6, vi (n))] 294 [vi (z1), vi (1)] _ _
  refine j_iadd C dL_isDone_294 rfl ?_
  obtain ⟨gr, hgr, hgI⟩ : ∃ q : Nat, (1 ≤ q ∧ q ≤ 4) ∧ (q : Int) = 1 + z1 := ⟨(1 + z1).toNat, by omega, by omega⟩
  refine j_eq_st (st' := [vi (gr : Int)]) (by rw [hgI]) ?_
  have hpg := hpf gr (by omega)
  refine j_istore (lv' := [(0, .ref (ad 0)), (1, .ref a), (2, .ref m), (3, .ref (kc κ 9)), (4, vi (i)), (5, vi ((b : Int))), (6, vi (n)), (7, vi ((gr : Int)))]) [1, 2, 3, 4, 5, 6, 7, 0] C dL_isDone_295 rfl rfl rfl ?_
  refine j_aload_n 1 C dL_isDone_297 rfl rfl rfl ?_
  refine j_bipush C dL_isDone_298 rfl (by decide) ?_
  refine j_iload 7 C dL_isDone_300 rfl rfl ?_
  refine j_iadd C dL_isDone_302 rfl ?_
  refine j_iald C dL_isDone_303 rfl hA ⟨by omega, by omega⟩ (by omega) ((congrArg g (show (70 + (gr : Int)).toNat = 70 + gr by omega)).trans (hPr gr (by omega) (by omega))) ?_
  refine j_istore (lv' := [(0, .ref (ad 0)), (1, .ref a), (2, .ref m), (3, .ref (kc κ 9)), (4, vi (i)), (5, vi ((b : Int))), (6, vi (n)), (7, vi ((gr : Int))), (8, vi (pf gr))]) [1, 2, 3, 4, 5, 6, 7, 8, 0] C dL_isDone_304 rfl rfl rfl ?_
  refine j_aload_n 1 C dL_isDone_306 rfl rfl rfl ?_
  refine j_bipush C dL_isDone_307 rfl (by decide) ?_
  refine j_iload 7 C dL_isDone_309 rfl rfl ?_
  refine j_iadd C dL_isDone_311 rfl ?_
  refine j_aload_n 3 C dL_isDone_312 rfl rfl rfl ?_
  refine j_iload 4 C dL_isDone_313 rfl rfl ?_
  refine j_iconst C dL_isDone_315 rfl ?_
  refine j_iadd C dL_isDone_316 rfl ?_
  refine j_sipush C dL_isDone_317 rfl (by decide) ?_
  refine j_callS (st' := [vi (70 + (gr : Int)), .ref a]) (As := [.ref (kc κ 9), vi (i + 2), vi (900)]) C dL_isDone_320 rfl m_L_132 rfl rfl (c_in (kL κ) hfl (kD κ) (kc κ) σ (i + 2) 900 ⟨by omega, by omega⟩ ⟨by omega, by omega⟩) rfl (by omega) (by omega) (by omega) (fun _ _ hx => hx.elim) (fun v7 τ6 hp8 => ?_)
  obtain ⟨z5, rfl, hz5, hs9⟩ := hp8
  replace hs9 := hs9.symm
  subst hs9
  show J κ σ [(0, .ref (ad 0)), (1, .ref a), (2, .ref m), (3, .ref (kc κ 9)), (4, vi (i)), (5, vi ((b : Int))), (6, vi (n)), (7, vi ((gr : Int))), (8, vi (pf gr))] 323 [vi (z5), vi (70 + (gr : Int)), .ref a] _ _
  refine j_iast C dL_isDone_323 rfl hA ⟨by omega, by omega⟩ (by omega) (fun τ9 ee10 => ?_)
  have u11 : has τ9 a (iA (kc κ) 2700 (ups g (70 + (gr : Int)).toNat z5)) := hA.self' ee10
  have u12 := hM.ne' ee10 hma
  have kp13 := kp0.put ee10 (Or.inl rfl)
  have dm14 := (dom_put ee10).trans dm0
  obtain ⟨G1, hG1⟩ : ∃ f : Nat → Int, (ups g (70 + (gr : Int)).toNat z5) = f := ⟨_, rfl⟩
  have hAA := u11
  rw [hG1] at hAA
  have g1 : G1 (70 + gr) = z5 := by rw [← hG1]; exact ups_u (by omega)
  have go : ∀ q : Nat, q ≠ 70 + gr → G1 q = g q := fun q u => by rw [← hG1, ups_n (by omega)]
  refine j_aload_n 0 C dL_isDone_324 rfl rfl rfl ?_
  refine j_iload 7 C dL_isDone_325 rfl rfl ?_
  refine j_aload_n 1 C dL_isDone_327 rfl rfl rfl ?_
  refine j_bipush C dL_isDone_328 rfl (by decide) ?_
  refine j_iload 7 C dL_isDone_330 rfl rfl ?_
  refine j_iadd C dL_isDone_332 rfl ?_
  refine j_iald C dL_isDone_333 rfl hAA ⟨by omega, by omega⟩ (by omega) ((congrArg G1 (show (70 + (gr : Int)).toNat = 70 + gr by omega)).trans g1) ?_
  have hX15 := hX0.keep kp13 (fun y _ z => z.elim (fun z => by rw [z]; exact hta) (fun z => by rw [z]; exact htm))
  refine j_callSH (st' := []) (As := [.ref (ad 0), vi ((gr : Int)), vi (z5)]) C dL_isDone_334 rfl m_L_177 rfl rfl (W_setPrice (kL κ) hfl (kD κ) (kc κ) τ9 tg ad bs ru se pf hd ca evs ln hX15 (gr : Int) z5 ⟨by omega, by omega⟩ ⟨by omega, by omega⟩ ⟨by omega, by omega⟩ ⟨by omega, by omega⟩) rfl (by omega) (by omega) (by omega) (fun _ _ hx => hx.elim) (fun v17 τ16 hp18 => ?_)
  obtain ⟨rfl, hX8, hK8, hd8⟩ := hp18
  show J κ τ16 [(0, .ref (ad 0)), (1, .ref a), (2, .ref m), (3, .ref (kc κ 9)), (4, vi (i)), (5, vi ((b : Int))), (6, vi (n)), (7, vi ((gr : Int))), (8, vi (pf gr))] 337 [vi (pf (gr : Int).toNat)] _ _
  have ha8 := hK8 _ _ hAA (fun z => by have z1 : tg a < 1000 := z; omega)
  have hm8 := hK8 _ _ u12 (fun z => by have z1 : tg m < 1000 := z; omega)
  rw [show (gr : Int).toNat = gr from rfl] at hX8
  refine j_eq_st (st' := [vi (pf gr)]) rfl ?_
  have hN8 : NetL G1 bs := hNt.cong (fun q hq => go q (by omega))
  have hH8 : NetH G1 ru se (ups pf gr z5) evs.length hd.2.2.2.1 (totB bs) := ⟨hRu.cong (fun q hq => go q (by omega)), (go 2 (by omega)).trans h2, by rw [go 3 (by omega)]; exact h3, (go 4 (by omega)).trans h4, (go 5 (by omega)).trans h5, upd_pf hPr g1 go⟩
  refine j_iload 8 C dL_isDone_337 rfl rfl ?_
  refine j_icmp_ne (tgt := 346) C dL_isDone_339 rfl rfl ⟨by omega, by omega⟩ ⟨by omega, by omega⟩ (fun cc19 => ?_) (fun cc19 => ?_)
  · exact absurd cc19 (fun q => q rfl)
  · refine j_iconst C dL_isDone_342 rfl ?_
    refine j_goto (tgt := 347) C dL_isDone_343 rfl ?_
    exact j_zret C E dL_isDone_347 rfl (by omega) (by omega) ⟨rfl, LI.mk rfl hX8 ha8 hN8 hH8 hm8 hta htm (by omega)⟩
set_option maxHeartbeats 8000000 in
set_option maxRecDepth 20000 in
theorem dn_4 {κ : Kx} {σ : Wd} (C : Cx κ cL_isDone 9 RL "isDone" 10) (hfl : (kL κ).stackTraces = false) {tg ad : Nat → Nat} {bs : List Bn} {ru : Nat → Int × Int} {se : Int} {pf : Nat → Int} {hd : Hd} {ca : Int} {evs : List Evt} {ln : List Int} {g gm : Nat → Int} {a m : Nat} (E : En κ (some .boolean) 102 84180 (fun v σ' => v = some (vi 1) ∧ LI (kc κ) σ' (ad 0) a m 1) noX) (hX0 : RX (kc κ) σ tg ad bs ru se pf hd ca evs ln) (hA : has σ a (iA (kc κ) 2700 g)) (hNt : NetL g bs) (hH : NetH g ru se pf evs.length hd.2.2.2.1 (totB bs)) (hM : has σ m (lA (kc κ) 2 gm)) (hta : 1000 ≤ tg a) (htm : 1000 ≤ tg m) {i n : Int} {b : Nat} (hi : 0 ≤ i ∧ i ≤ 800) (hb : b < bs.length) (hn : 1 ≤ n ∧ n ≤ 70) : J κ σ [(0, .ref (ad 0)), (1, .ref a), (2, .ref m), (3, .ref (kc κ 9)), (4, vi (i)), (5, vi ((b : Int))), (6, vi (n))] 348 [] 0 0 := by
  obtain ⟨-, -, -, -, hc, hs⟩ := id E
  have hO := hX0.ok
  have h6 := hO.1
  have hBk := hO.2.1
  have hlb := hO.2.2.1
  have hpf := hO.2.2.2.2.1
  have hTb := totB_in hBk
  obtain ⟨hRu, h2, h3, h4, h5, hPr⟩ := id hH
  have hma : m ≠ a := hM.nk hA rfl
  have kp0 : Keep σ σ (fun y => y = a ∨ y = m) := Keep.rf
  have dm0 : σ.1 = σ.1 := rfl
  have hmemb := gB_mem (bs := bs) (i := (b : Int)) (by omega) (by omega)
  obtain ⟨hcapb, hokb, htcb⟩ := hBk _ hmemb
  have hllb := len_lenB hmemb
  have ht0b := tot_0 hokb
  have hcnb := (hNt.2.2.1 b hb).1.1
  refine j_aload_n 1 C dL_isDone_348 rfl rfl rfl ?_
  refine j_iconst C dL_isDone_349 rfl ?_
  refine j_iald C dL_isDone_350 rfl hA ⟨by omega, by omega⟩ (by omega) h4 ?_
  refine j_istore (lv' := [(0, .ref (ad 0)), (1, .ref a), (2, .ref m), (3, .ref (kc κ 9)), (4, vi (i)), (5, vi ((b : Int))), (6, vi (n)), (7, vi (hd.2.2.2.1))]) [1, 2, 3, 4, 5, 6, 7, 0] C dL_isDone_351 rfl rfl rfl ?_
  refine j_aload_n 1 C dL_isDone_353 rfl rfl rfl ?_
  refine j_iconst C dL_isDone_354 rfl ?_
  refine j_aload_n 3 C dL_isDone_355 rfl rfl rfl ?_
  refine j_iload 4 C dL_isDone_356 rfl rfl ?_
  refine j_iconst C dL_isDone_358 rfl ?_
  refine j_iadd C dL_isDone_359 rfl ?_
  refine j_sipush C dL_isDone_360 rfl (by decide) ?_
  refine j_callS (st' := [vi (4), .ref a]) (As := [.ref (kc κ 9), vi (i + 2), vi (1000)]) C dL_isDone_363 rfl m_L_132 rfl rfl (c_in (kL κ) hfl (kD κ) (kc κ) σ (i + 2) 1000 ⟨by omega, by omega⟩ ⟨by omega, by omega⟩) rfl (by omega) (by omega) (by omega) (fun _ _ hx => hx.elim) (fun v3 τ2 hp4 => ?_)
  obtain ⟨z1, rfl, hz1, hs9⟩ := hp4
  replace hs9 := hs9.symm
  subst hs9
  show J κ σ [(0, .ref (ad 0)), (1, .ref a), (2, .ref m), (3, .ref (kc κ 9)), (4, vi (i)), (5, vi ((b : Int))), (6, vi (n)), (7, vi (hd.2.2.2.1))] 366 [vi (z1), vi (4), .ref a] _ _
  refine j_iast C dL_isDone_366 rfl hA ⟨by omega, by omega⟩ (by omega) (fun τ5 ee6 => ?_)
  have u7 : has τ5 a (iA (kc κ) 2700 (ups g 4 z1)) := hA.self' ee6
  have u8 := hM.ne' ee6 hma
  have kp9 := kp0.put ee6 (Or.inl rfl)
  have dm10 := (dom_put ee6).trans dm0
  obtain ⟨G1, hG1⟩ : ∃ f : Nat → Int, (ups g 4 z1) = f := ⟨_, rfl⟩
  have hAA := u7
  rw [hG1] at hAA
  have g1 : G1 4 = z1 := by rw [← hG1]; exact ups_u rfl
  have go : ∀ q : Nat, q ≠ 4 → G1 q = g q := fun q u => by rw [← hG1, ups_n (by omega)]
  refine j_aload_n 2 C dL_isDone_367 rfl rfl rfl ?_
  refine j_iconst C dL_isDone_368 rfl ?_
  refine j_dup2 C dL_isDone_369 rfl rfl rfl ?_
  refine j_laldE C dL_isDone_370 rfl u8 ⟨by omega, by omega⟩ (by omega) (fun y11 => ?_)
  refine j_aload_n 1 C dL_isDone_371 rfl rfl rfl ?_
  refine j_iconst C dL_isDone_372 rfl ?_
  obtain ⟨y12, hy12⟩ : ∃ y : Int, G1 5 = y := ⟨_, rfl⟩
  refine j_iald C dL_isDone_373 rfl hAA ⟨by omega, by omega⟩ (by omega) hy12 ?_
  refine j_i2lE C dL_isDone_374 rfl (fun y13 => ?_)
  refine j_iload 7 C dL_isDone_375 rfl rfl ?_
  refine j_aload_n 1 C dL_isDone_377 rfl rfl rfl ?_
  refine j_iconst C dL_isDone_378 rfl ?_
  refine j_iald C dL_isDone_379 rfl hAA ⟨by omega, by omega⟩ (by omega) g1 ?_
  refine j_isub C dL_isDone_380 rfl ?_
  refine j_i2lE C dL_isDone_381 rfl (fun y14 => ?_)
  refine j_lmul C dL_isDone_382 rfl ?_
  refine j_ladd C dL_isDone_383 rfl ?_
  refine j_last C dL_isDone_384 rfl u8 ⟨by omega, by omega⟩ (by omega) (fun τ15 ee16 => ?_)
  have u17 := hAA.ne' ee16 (Ne.symm hma)
  have u18 : has τ15 m (lA (kc κ) 2 (ups gm 0 (y11 + (y13 * y14)))) := u8.self' ee16
  have kp19 := kp9.put ee16 (Or.inr rfl)
  have dm20 := (dom_put ee16).trans dm10
  refine j_aload_n 0 C dL_isDone_385 rfl rfl rfl ?_
  refine j_aload_n 1 C dL_isDone_386 rfl rfl rfl ?_
  refine j_iconst C dL_isDone_387 rfl ?_
  refine j_iald C dL_isDone_388 rfl u17 ⟨by omega, by omega⟩ (by omega) g1 ?_
  have hX21 := hX0.keep kp19 (fun y _ z => z.elim (fun z => by rw [z]; exact hta) (fun z => by rw [z]; exact htm))
  have hfu := hO.2.2.2.1.2.2
  refine j_callSH (st' := []) (As := [.ref (ad 0), vi (z1)]) C dL_isDone_389 rfl m_L_179 rfl rfl (W_setFutures (kL κ) hfl (kD κ) (kc κ) τ15 tg ad bs ru se pf hd ca evs ln hX21 z1 ⟨by omega, by omega⟩ ⟨by omega, by omega⟩) rfl (by omega) (by omega) (by omega) (fun _ _ hx => hx.elim) (fun v23 τ22 hp24 => ?_)
  obtain ⟨rfl, hX8, hK8, hd8⟩ := hp24
  show J κ τ22 [(0, .ref (ad 0)), (1, .ref a), (2, .ref m), (3, .ref (kc κ 9)), (4, vi (i)), (5, vi ((b : Int))), (6, vi (n)), (7, vi (hd.2.2.2.1))] 392 [vi (hd.2.2.2.1)] _ _
  have ha8 := hK8 _ _ u17 (fun z => by have z1 : tg a < 1000 := z; omega)
  have hm8 := hK8 _ _ u18 (fun z => by have z1 : tg m < 1000 := z; omega)
  have hN8 : NetL G1 bs := hNt.cong2 (fun q hq hq2 => go q (by omega))
  have hH8 : NetH G1 ru se pf evs.length (hdP hd z1).2.2.2.1 (totB bs) := ⟨hRu.cong (fun q hq => go q (by omega)), (go 2 (by omega)).trans h2, by rw [go 3 (by omega)]; exact h3, g1, (go 5 (by omega)).trans h5, fun q u v => (go _ (by omega)).trans (hPr q u v)⟩
  refine j_iload 7 C dL_isDone_392 rfl rfl ?_
  refine j_icmp_ne (tgt := 401) C dL_isDone_394 rfl rfl ⟨by omega, by omega⟩ ⟨by omega, by omega⟩ (fun cc25 => ?_) (fun cc25 => ?_)
  · exact absurd cc25 (fun q => q rfl)
  · refine j_iconst C dL_isDone_397 rfl ?_
    refine j_goto (tgt := 402) C dL_isDone_398 rfl ?_
    exact j_zret C E dL_isDone_402 rfl (by omega) (by omega) ⟨rfl, LI.mk rfl hX8 ha8 hN8 hH8 hm8 hta htm (by omega)⟩
set_option maxHeartbeats 8000000 in
set_option maxRecDepth 20000 in
theorem dn_5 {κ : Kx} {σ : Wd} (C : Cx κ cL_isDone 9 RL "isDone" 10) (hfl : (kL κ).stackTraces = false) {tg ad : Nat → Nat} {bs : List Bn} {ru : Nat → Int × Int} {se : Int} {pf : Nat → Int} {hd : Hd} {ca : Int} {evs : List Evt} {ln : List Int} {g gm : Nat → Int} {a m : Nat} (E : En κ (some .boolean) 102 84180 (fun v σ' => v = some (vi 1) ∧ LI (kc κ) σ' (ad 0) a m 1) noX) (hX0 : RX (kc κ) σ tg ad bs ru se pf hd ca evs ln) (hA : has σ a (iA (kc κ) 2700 g)) (hNt : NetL g bs) (hH : NetH g ru se pf evs.length hd.2.2.2.1 (totB bs)) (hM : has σ m (lA (kc κ) 2 gm)) (hta : 1000 ≤ tg a) (htm : 1000 ≤ tg m) {i n : Int} {b : Nat} (hi : 0 ≤ i ∧ i ≤ 800) (hb : b < bs.length) (hn : 1 ≤ n ∧ n ≤ 70) : J κ σ [(0, .ref (ad 0)), (1, .ref a), (2, .ref m), (3, .ref (kc κ 9)), (4, vi (i)), (5, vi ((b : Int))), (6, vi (n))] 403 [] 0 0 := by
  obtain ⟨-, -, -, -, hc, hs⟩ := id E
  have hO := hX0.ok
  have h6 := hO.1
  have hBk := hO.2.1
  have hlb := hO.2.2.1
  have hpf := hO.2.2.2.2.1
  have hTb := totB_in hBk
  obtain ⟨hRu, h2, h3, h4, h5, hPr⟩ := id hH
  have hma : m ≠ a := hM.nk hA rfl
  have kp0 : Keep σ σ (fun y => y = a ∨ y = m) := Keep.rf
  have dm0 : σ.1 = σ.1 := rfl
  have hmemb := gB_mem (bs := bs) (i := (b : Int)) (by omega) (by omega)
  obtain ⟨hcapb, hokb, htcb⟩ := hBk _ hmemb
  have hllb := len_lenB hmemb
  have ht0b := tot_0 hokb
  have hcnb := (hNt.2.2.1 b hb).1.1
  refine j_aload_n 1 C dL_isDone_403 rfl rfl rfl ?_
  refine j_iload 5 C dL_isDone_404 rfl rfl ?_
  refine j_callS (st' := []) (As := [.ref a, vi ((b : Int))]) C dL_isDone_406 rfl m_L_113 rfl rfl (c_within (kL κ) hfl (kD κ) (kc κ) σ a g hA bs hNt b (by omega)) rfl (by omega) (by omega) (by omega) (fun _ _ hx => hx.elim) (fun v2 τ1 hp3 => ?_)
  obtain ⟨rfl, hs9⟩ := hp3
  replace hs9 := hs9.symm
  subst hs9
  show J κ σ [(0, .ref (ad 0)), (1, .ref a), (2, .ref m), (3, .ref (kc κ 9)), (4, vi (i)), (5, vi ((b : Int))), (6, vi (n))] 409 [vi ((tot (gB bs (b : Int)).2.2))] _ _
  refine j_iload 6 C dL_isDone_409 rfl rfl ?_
  refine j_icmp_lt (tgt := 422) C dL_isDone_411 rfl rfl ⟨by omega, by omega⟩ ⟨by omega, by omega⟩ (fun cc4 => ?_) (fun cc4 => ?_)
  · refine j_aload_n 0 C dL_isDone_422 rfl rfl rfl ?_
    refine j_iload 5 C dL_isDone_423 rfl rfl ?_
    refine j_iload 6 C dL_isDone_425 rfl rfl ?_
    refine j_callSH (st' := []) (As := [.ref (ad 0), vi ((b : Int)), vi (n)]) C dL_isDone_427 rfl m_L_181 rfl rfl (W_sellB2 (kL κ) hfl (kD κ) (kc κ) σ tg ad bs ru se pf hd ca evs ln hX0 b hb n ⟨by omega, by omega⟩ ⟨by omega, by omega⟩ (by omega)) rfl (by omega) (by omega) (by omega) (fun _ _ hx => hx.elim) (fun v6 τ5 hp7 => ?_)
    obtain ⟨rfl, hs9⟩ := hp7
    replace hs9 := hs9.symm
    subst hs9
    show J κ σ [(0, .ref (ad 0)), (1, .ref a), (2, .ref m), (3, .ref (kc κ 9)), (4, vi (i)), (5, vi ((b : Int))), (6, vi (n))] 430 [vi ((-900003))] _ _
    refine j_ldc (z := (-900003)) C dL_isDone_430 rfl kc_L_44 ?_
    refine j_icmp_ne (tgt := 439) C dL_isDone_432 rfl rfl ⟨by omega, by omega⟩ ⟨by omega, by omega⟩ (fun cc8 => absurd cc8 (by decide)) (fun _ => ?_)
    refine j_iconst C dL_isDone_435 rfl ?_
    refine j_goto (tgt := 440) C dL_isDone_436 rfl ?_
    exact j_zret C E dL_isDone_440 rfl (by omega) (by omega) ⟨rfl, LI.mk rfl hX0 hA hNt hH hM hta htm (by omega)⟩
  · refine j_aload_n 1 C dL_isDone_414 rfl rfl rfl ?_
    refine j_iconst C dL_isDone_415 rfl ?_
    refine j_iald C dL_isDone_416 rfl hA ⟨by omega, by omega⟩ (by omega) h2 ?_
    refine j_bipush C dL_isDone_417 rfl (by decide) ?_
    refine j_icmp_ne (tgt := 441) C dL_isDone_419 rfl rfl ⟨by omega, by omega⟩ ⟨by omega, by omega⟩ (fun cc9 => ?_) (fun cc9 => ?_)
    · refine j_aload_n 1 C dL_isDone_441 rfl rfl rfl ?_
      refine j_iload 5 C dL_isDone_442 rfl rfl ?_
      refine j_iload 6 C dL_isDone_444 rfl rfl ?_
      refine j_iconst C dL_isDone_446 rfl ?_
      obtain ⟨hev1, hev2, hev3⟩ := sell_ev (ru := ru) (se := se) (pf := pf) (hd := hd) (ln := ln) hO (by omega) hb (n := n) ⟨by omega, by omega⟩
      have hsi := (sums_in hpf (fl_ok hokb) (by have := sum_fl (fun x => x.1) (gB bs (b : Int)); unfold tot at *; omega) n).1
      refine j_callS (st' := []) (As := [.ref a, vi ((b : Int)), vi (n), vi (-1)]) C dL_isDone_447 rfl m_L_124 rfl rfl (c_out0 (kL κ) hfl (kD κ) (kc κ) σ a g hA bs hNt pf hPr b hb n ⟨by omega, by omega, by omega⟩) rfl (by omega) (by omega) (by omega) (fun _ _ hx => hx.elim) (fun v12 τ11 hp13 => ?_)
      obtain ⟨r10, s10, G10, rfl, hr10, ⟨e010, e110, e210⟩, hG10, hN10, hS10, hrn10, hk10, hd10⟩ := hp13
      show J κ τ11 [(0, .ref (ad 0)), (1, .ref a), (2, .ref m), (3, .ref (kc κ 9)), (4, vi (i)), (5, vi ((b : Int))), (6, vi (n))] 450 [.ref r10] _ _
      have hnw10 : r10 ∉ σ.1 := fun z => hrn10 ((fun _ hy => hy) _ z)
      have hra10 : r10 ≠ a := fun e => hnw10 (by rw [e]; exact hA.1)
      have hrm10 : m ≠ r10 := fun e => hnw10 (by rw [← e]; exact hM.1)
      have hkk10 := kp0.tr (hk10.mono (fun _ z => Or.inl z))
      have hmm10 : ∀ y, y ∈ σ.1 → y ∈ τ11.1 := fun y hy => by rw [hd10]; exact List.mem_append_left _ ((fun _ hy => hy) y hy)
      have hqm10 := hk10 _ _ hM hma
      have hNX : NetL G10 (apB (gradeF ru se) bs (115, (b : Int), (b : Int), n, 0, 0, 0)) := by
        rw [hev2]
        exact hN10
      refine j_astore (lv' := [(0, .ref (ad 0)), (1, .ref a), (2, .ref m), (3, .ref (kc κ 9)), (4, vi (i)), (5, vi ((b : Int))), (6, vi (n)), (7, .ref r10)]) [1, 2, 3, 4, 5, 6, 7, 0] C dL_isDone_450 rfl rfl rfl ?_
      refine j_aload_n 2 C dL_isDone_452 rfl rfl rfl ?_
      refine j_iconst C dL_isDone_453 rfl ?_
      refine j_dup2 C dL_isDone_454 rfl rfl rfl ?_
      refine j_laldE C dL_isDone_455 rfl hqm10 ⟨by omega, by omega⟩ (by omega) (fun y14 => ?_)
      refine j_aload 7 C dL_isDone_456 rfl rfl ?_
      refine j_iconst C dL_isDone_458 rfl ?_
      refine j_iald C dL_isDone_459 rfl hr10 ⟨by omega, by omega⟩ (by omega) e010 ?_
      refine j_i2lE C dL_isDone_460 rfl (fun y15 => ?_)
      refine j_ladd C dL_isDone_461 rfl ?_
      refine j_last C dL_isDone_462 rfl hqm10 ⟨by omega, by omega⟩ (by omega) (fun τ16 ee17 => ?_)
      have u18 := hG10.ne' ee17 (Ne.symm hma)
      have u19 := hr10.ne' ee17 (Ne.symm hrm10)
      have u20 : has τ16 m (lA (kc κ) 2 (ups gm 1 (y14 + y15))) := hqm10.self' ee17
      have kp21 := hkk10.put ee17 (Or.inr rfl)
      refine j_aload_n 1 C dL_isDone_463 rfl rfl rfl ?_
      refine j_bipush C dL_isDone_464 rfl (by decide) ?_
      have dmX : τ16.1 = τ16.1 := rfl
      have hHn22 := hH.same hS10
      refine j_callS (st' := []) (As := [.ref a, vi (115)]) C dL_isDone_466 rfl m_L_142 rfl rfl (c_note (kL κ) hfl (kD κ) (kc κ) τ16 a G10 u18 (apB (gradeF ru se) bs (115, (b : Int), (b : Int), n, 0, 0, 0)) hNX hev3.2.1 evs.length hHn22.2.1 (by omega) hHn22.2.2.1 ⟨by rw [hHn22.2.2.2.2.1]; omega, by rw [hHn22.2.2.2.2.1]; omega⟩ 115) rfl (by omega) (by omega) (by omega) (fun _ _ hx => hx.elim) (fun v24 τ23 hp25 => ?_)
      obtain ⟨rfl, G22, hG22, ho22, hv22, hk22, hd22⟩ := hp25
      show J κ τ23 [(0, .ref (ad 0)), (1, .ref a), (2, .ref m), (3, .ref (kc κ 9)), (4, vi (i)), (5, vi ((b : Int))), (6, vi (n)), (7, .ref r10)] 469 [] _ _
      have hkk22 := kp21.tr (hk22.mono (fun _ z => Or.inl z))
      have hdd22 := hd22.trans (dmX)
      have hqr1022 := hk22 _ _ u19 hra10
      have hqm22 := hk22 _ _ u20 hma
      have hN22 : NetL G22 (apB (gradeF ru se) bs (115, (b : Int), (b : Int), n, 0, 0, 0)) := hNX.cong2 (fun q h1 h2 => ho22 q h2 (by omega) (by omega) (by omega))
      have hH22 := hHn22.note ho22 hv22
      refine j_aload_n 0 C dL_isDone_469 rfl rfl rfl ?_
      refine j_iload 5 C dL_isDone_470 rfl rfl ?_
      refine j_iload 6 C dL_isDone_472 rfl rfl ?_
      obtain ⟨tg2, htg2⟩ : ∃ f : Nat → Nat, (updN tg r10 4000) = f := ⟨_, rfl⟩
      have hT2 : ∀ y, y ∈ σ.1 → tg2 y = tg y := fun y hy => by rw [← htg2, updN_n (fun e => hnw10 (by rw [← e]; exact hy))]
      have htr0 : 1000 ≤ tg2 r10 := by rw [← htg2]; unfold updN; repeat (first | omega | split)
      have hta2 : 1000 ≤ tg2 a := by rw [hT2 a hA.1]; exact hta
      have htm2 : 1000 ≤ tg2 m := by rw [hT2 m hM.1]; exact htm
      have hX26 := (hX0.retag hT2 (fun _ _ => rfl)).keep hkk22 (fun y _ z => z.elim (fun z => by rw [z]; exact hta2) (fun z => by rw [z]; exact htm2))
      refine j_callSH (st' := []) (As := [.ref (ad 0), vi ((b : Int)), vi (n)]) C dL_isDone_474 rfl m_L_181 rfl rfl (W_sell (kL κ) hfl (kD κ) (kc κ) τ23 tg2 ad bs ru se pf hd ca evs ln hX26 b hb n ⟨by omega, by omega⟩ ⟨by omega, by omega⟩ (by omega) (by omega)) rfl (by omega) (by omega) (by omega) (fun _ _ hx => hx.elim) (fun v28 τ27 hp29 => ?_)
      obtain ⟨rfl, tg', ad', hR9, hT9, hA9, hK9, hM9⟩ := hp29
      show J κ τ27 [(0, .ref (ad 0)), (1, .ref a), (2, .ref m), (3, .ref (kc κ 9)), (4, vi (i)), (5, vi ((b : Int))), (6, vi (n)), (7, .ref r10)] 477 [vi ((sumL (cf pf) (takeL n (fl (gB bs (b : Int))))))] _ _
      have h9a := hK9 _ _ hG22 (fun z => by have z1 : tg2 a < 1000 := z; omega)
      have h9r10 := hK9 _ _ hqr1022 (fun z => by have z1 : tg2 r10 < 1000 := z; omega)
      have h9m := hK9 _ _ hqm22 (fun z => by have z1 : tg2 m < 1000 := z; omega)
      have hta9 : 1000 ≤ tg' a := by rw [hT9 a hG22.1]; exact hta2
      have htm9 : 1000 ≤ tg' m := by rw [hT9 m hqm22.1]; exact htm2
      refine j_aload 7 C dL_isDone_477 rfl rfl ?_
      refine j_iconst C dL_isDone_479 rfl ?_
      refine j_iald C dL_isDone_480 rfl h9r10 ⟨by omega, by omega⟩ (by omega) e010 ?_
      refine j_icmp_ne (tgt := 488) C dL_isDone_481 rfl rfl ⟨by omega, by omega⟩ ⟨by omega, by omega⟩ (fun cc30 => ?_) (fun cc30 => ?_)
      · exact absurd cc30 (fun q => q rfl)
      · refine j_iconst C dL_isDone_484 rfl ?_
        refine j_goto (tgt := 489) C dL_isDone_485 rfl ?_
        exact j_zret C E dL_isDone_489 rfl (by omega) (by omega) ⟨rfl, tg', ad', _, _, _, _, _, _, _, _, _, _, hA9, hR9, ⟨h9a, hN22, by rw [List.length_append, hdF_fu]; exact hH22⟩, h9m, ⟨hta9, htm9⟩, by rw [apB_len]; omega⟩
    · refine j_aload_n 0 C dL_isDone_422 rfl rfl rfl ?_
      refine j_iload 5 C dL_isDone_423 rfl rfl ?_
      refine j_iload 6 C dL_isDone_425 rfl rfl ?_
      refine j_callSH (st' := []) (As := [.ref (ad 0), vi ((b : Int)), vi (n)]) C dL_isDone_427 rfl m_L_181 rfl rfl (W_sellB2 (kL κ) hfl (kD κ) (kc κ) σ tg ad bs ru se pf hd ca evs ln hX0 b hb n ⟨by omega, by omega⟩ ⟨by omega, by omega⟩ (by omega)) rfl (by omega) (by omega) (by omega) (fun _ _ hx => hx.elim) (fun v32 τ31 hp33 => ?_)
      obtain ⟨rfl, hs9⟩ := hp33
      replace hs9 := hs9.symm
      subst hs9
      show J κ σ [(0, .ref (ad 0)), (1, .ref a), (2, .ref m), (3, .ref (kc κ 9)), (4, vi (i)), (5, vi ((b : Int))), (6, vi (n))] 430 [vi ((-900003))] _ _
      refine j_ldc (z := (-900003)) C dL_isDone_430 rfl kc_L_44 ?_
      refine j_icmp_ne (tgt := 439) C dL_isDone_432 rfl rfl ⟨by omega, by omega⟩ ⟨by omega, by omega⟩ (fun cc34 => absurd cc34 (by decide)) (fun _ => ?_)
      refine j_iconst C dL_isDone_435 rfl ?_
      refine j_goto (tgt := 440) C dL_isDone_436 rfl ?_
      exact j_zret C E dL_isDone_440 rfl (by omega) (by omega) ⟨rfl, LI.mk rfl hX0 hA hNt hH hM hta htm (by omega)⟩
set_option maxHeartbeats 8000000 in
set_option maxRecDepth 20000 in
theorem dn_7 {κ : Kx} {σ : Wd} (C : Cx κ cL_isDone 9 RL "isDone" 10) (hfl : (kL κ).stackTraces = false) {tg ad : Nat → Nat} {bs : List Bn} {ru : Nat → Int × Int} {se : Int} {pf : Nat → Int} {hd : Hd} {ca : Int} {evs : List Evt} {ln : List Int} {g gm : Nat → Int} {a m : Nat} (E : En κ (some .boolean) 102 84180 (fun v σ' => v = some (vi 1) ∧ LI (kc κ) σ' (ad 0) a m 1) noX) (hX0 : RX (kc κ) σ tg ad bs ru se pf hd ca evs ln) (hA : has σ a (iA (kc κ) 2700 g)) (hNt : NetL g bs) (hH : NetH g ru se pf evs.length hd.2.2.2.1 (totB bs)) (hM : has σ m (lA (kc κ) 2 gm)) (hta : 1000 ≤ tg a) (htm : 1000 ≤ tg m) {i n : Int} {b : Nat} (hi : 0 ≤ i ∧ i ≤ 800) (hb : b < bs.length) (hn : 1 ≤ n ∧ n ≤ 70) : J κ σ [(0, .ref (ad 0)), (1, .ref a), (2, .ref m), (3, .ref (kc κ 9)), (4, vi (i)), (5, vi ((b : Int))), (6, vi (n))] 490 [] 0 0 := by
  obtain ⟨-, -, -, -, hc, hs⟩ := id E
  have hO := hX0.ok
  have h6 := hO.1
  have hBk := hO.2.1
  have hlb := hO.2.2.1
  have hpf := hO.2.2.2.2.1
  have hTb := totB_in hBk
  obtain ⟨hRu, h2, h3, h4, h5, hPr⟩ := id hH
  have hma : m ≠ a := hM.nk hA rfl
  have kp0 : Keep σ σ (fun y => y = a ∨ y = m) := Keep.rf
  have dm0 : σ.1 = σ.1 := rfl
  have hmemb := gB_mem (bs := bs) (i := (b : Int)) (by omega) (by omega)
  obtain ⟨hcapb, hokb, htcb⟩ := hBk _ hmemb
  have hllb := len_lenB hmemb
  have ht0b := tot_0 hokb
  have hcnb := (hNt.2.2.1 b hb).1.1
  refine j_aload_n 0 C dL_isDone_490 rfl rfl rfl ?_
  refine j_aload_n 1 C dL_isDone_491 rfl rfl rfl ?_
  refine j_iload 5 C dL_isDone_492 rfl rfl ?_
  refine j_aload_n 3 C dL_isDone_494 rfl rfl rfl ?_
  refine j_iload 4 C dL_isDone_495 rfl rfl ?_
  refine j_iconst C dL_isDone_497 rfl ?_
  refine j_iadd C dL_isDone_498 rfl ?_
  refine j_aload_n 1 C dL_isDone_499 rfl rfl rfl ?_
  refine j_iconst C dL_isDone_500 rfl ?_
  refine j_iald C dL_isDone_501 rfl hA ⟨by omega, by omega⟩ (by omega) hNt.1 ?_
  refine j_callS (st' := [vi ((b : Int)), .ref a, .ref (ad 0)]) (As := [.ref (kc κ 9), vi (i + 3), vi ((bs.length : Int))]) C dL_isDone_502 rfl m_L_132 rfl rfl (c_in (kL κ) hfl (kD κ) (kc κ) σ (i + 3) (bs.length : Int) ⟨by omega, by omega⟩ ⟨by omega, by omega⟩) rfl (by omega) (by omega) (by omega) (fun _ _ hx => hx.elim) (fun v3 τ2 hp4 => ?_)
  obtain ⟨z1, rfl, hz1, hs9⟩ := hp4
  replace hs9 := hs9.symm
  subst hs9
  show J κ σ [(0, .ref (ad 0)), (1, .ref a), (2, .ref m), (3, .ref (kc κ 9)), (4, vi (i)), (5, vi ((b : Int))), (6, vi (n))] 505 [vi (z1), vi ((b : Int)), .ref a, .ref (ad 0)] _ _
  refine j_iload 6 C dL_isDone_505 rfl rfl ?_
  obtain ⟨j, hj, rfl⟩ : ∃ j : Nat, j < bs.length ∧ z1 = (j : Int) := ⟨z1.toNat, by omega, by omega⟩
  refine j_callS (st' := []) (As := [.ref (ad 0), .ref a, vi ((b : Int)), vi ((j : Int)), vi (n)]) C dL_isDone_507 rfl m_L_183 rfl rfl (c_isMoved (kL κ) hfl (kD κ) (kc κ) σ tg ad bs ru se pf hd ca evs ln g gm a m hX0 hA hNt hH hM hta htm b hb j hj n ⟨by omega, by omega⟩) rfl (by omega) (by omega) (by omega) (fun _ _ hx => hx.elim) (fun v6 τ5 hp7 => ?_)
  obtain ⟨rfl, hI9⟩ := hp7
  show J κ τ5 [(0, .ref (ad 0)), (1, .ref a), (2, .ref m), (3, .ref (kc κ 9)), (4, vi (i)), (5, vi ((b : Int))), (6, vi (n))] 510 [vi (1)] _ _
  exact j_zret C E dL_isDone_510 rfl (by omega) (by omega) ⟨rfl, hI9⟩
set_option maxHeartbeats 8000000 in
set_option maxRecDepth 20000 in
theorem dn_10 {κ : Kx} {σ : Wd} (C : Cx κ cL_isDone 9 RL "isDone" 10) (hfl : (kL κ).stackTraces = false) {tg ad : Nat → Nat} {bs : List Bn} {ru : Nat → Int × Int} {se : Int} {pf : Nat → Int} {hd : Hd} {ca : Int} {evs : List Evt} {ln : List Int} {g gm : Nat → Int} {a m : Nat} (E : En κ (some .boolean) 102 84180 (fun v σ' => v = some (vi 1) ∧ LI (kc κ) σ' (ad 0) a m 1) noX) (hX0 : RX (kc κ) σ tg ad bs ru se pf hd ca evs ln) (hA : has σ a (iA (kc κ) 2700 g)) (hNt : NetL g bs) (hH : NetH g ru se pf evs.length hd.2.2.2.1 (totB bs)) (hM : has σ m (lA (kc κ) 2 gm)) (hta : 1000 ≤ tg a) (htm : 1000 ≤ tg m) {i n : Int} {b : Nat} (hi : 0 ≤ i ∧ i ≤ 800) (hb : b < bs.length) (hn : 1 ≤ n ∧ n ≤ 70) : J κ σ [(0, .ref (ad 0)), (1, .ref a), (2, .ref m), (3, .ref (kc κ 9)), (4, vi (i)), (5, vi ((b : Int))), (6, vi (n))] 511 [] 0 0 := by
  obtain ⟨-, -, -, -, hc, hs⟩ := id E
  have hO := hX0.ok
  have h6 := hO.1
  have hBk := hO.2.1
  have hlb := hO.2.2.1
  have hpf := hO.2.2.2.2.1
  have hTb := totB_in hBk
  obtain ⟨hRu, h2, h3, h4, h5, hPr⟩ := id hH
  have hma : m ≠ a := hM.nk hA rfl
  have kp0 : Keep σ σ (fun y => y = a ∨ y = m) := Keep.rf
  have dm0 : σ.1 = σ.1 := rfl
  have hmemb := gB_mem (bs := bs) (i := (b : Int)) (by omega) (by omega)
  obtain ⟨hcapb, hokb, htcb⟩ := hBk _ hmemb
  have hllb := len_lenB hmemb
  have ht0b := tot_0 hokb
  have hcnb := (hNt.2.2.1 b hb).1.1
  refine j_aload_n 0 C dL_isDone_511 rfl rfl rfl ?_
  refine j_aload_n 1 C dL_isDone_512 rfl rfl rfl ?_
  refine j_aload_n 2 C dL_isDone_513 rfl rfl rfl ?_
  refine j_iload 5 C dL_isDone_514 rfl rfl ?_
  refine j_bipush C dL_isDone_516 rfl (by decide) ?_
  refine j_aload_n 3 C dL_isDone_518 rfl rfl rfl ?_
  refine j_iload 4 C dL_isDone_519 rfl rfl ?_
  refine j_iconst C dL_isDone_521 rfl ?_
  refine j_iadd C dL_isDone_522 rfl ?_
  refine j_bipush C dL_isDone_523 rfl (by decide) ?_
  refine j_callS (st' := [vi (100), vi ((b : Int)), .ref m, .ref a, .ref (ad 0)]) (As := [.ref (kc κ 9), vi (i + 3), vi (100)]) C dL_isDone_525 rfl m_L_132 rfl rfl (c_in (kL κ) hfl (kD κ) (kc κ) σ (i + 3) 100 ⟨by omega, by omega⟩ ⟨by omega, by omega⟩) rfl (by omega) (by omega) (by omega) (fun _ _ hx => hx.elim) (fun v3 τ2 hp4 => ?_)
  obtain ⟨z1, rfl, hz1, hs9⟩ := hp4
  replace hs9 := hs9.symm
  subst hs9
  show J κ σ [(0, .ref (ad 0)), (1, .ref a), (2, .ref m), (3, .ref (kc κ 9)), (4, vi (i)), (5, vi ((b : Int))), (6, vi (n))] 528 [vi (z1), vi (100), vi ((b : Int)), .ref m, .ref a, .ref (ad 0)] _ _
  refine j_iadd C dL_isDone_528 rfl ?_
  refine j_callS (st' := []) (As := [.ref (ad 0), .ref a, .ref m, vi ((b : Int)), vi (100 + z1)]) C dL_isDone_529 rfl m_L_187 rfl rfl (c_isDried (kL κ) hfl (kD κ) (kc κ) σ tg ad bs ru se pf hd ca evs ln g gm a m hX0 hA hNt hH hM hta htm b hb (100 + z1) ⟨by omega, by omega⟩) rfl (by omega) (by omega) (by omega) (fun _ _ hx => hx.elim) (fun v6 τ5 hp7 => ?_)
  obtain ⟨rfl, hI9⟩ := hp7
  show J κ τ5 [(0, .ref (ad 0)), (1, .ref a), (2, .ref m), (3, .ref (kc κ 9)), (4, vi (i)), (5, vi ((b : Int))), (6, vi (n))] 532 [vi (1)] _ _
  exact j_zret C E dL_isDone_532 rfl (by omega) (by omega) ⟨rfl, hI9⟩
set_option maxHeartbeats 8000000 in
set_option maxRecDepth 20000 in
theorem dn_12 {κ : Kx} {σ : Wd} (C : Cx κ cL_isDone 9 RL "isDone" 10) (hfl : (kL κ).stackTraces = false) {tg ad : Nat → Nat} {bs : List Bn} {ru : Nat → Int × Int} {se : Int} {pf : Nat → Int} {hd : Hd} {ca : Int} {evs : List Evt} {ln : List Int} {g gm : Nat → Int} {a m : Nat} (E : En κ (some .boolean) 102 84180 (fun v σ' => v = some (vi 1) ∧ LI (kc κ) σ' (ad 0) a m 1) noX) (hX0 : RX (kc κ) σ tg ad bs ru se pf hd ca evs ln) (hA : has σ a (iA (kc κ) 2700 g)) (hNt : NetL g bs) (hH : NetH g ru se pf evs.length hd.2.2.2.1 (totB bs)) (hM : has σ m (lA (kc κ) 2 gm)) (hta : 1000 ≤ tg a) (htm : 1000 ≤ tg m) {i n : Int} {b : Nat} (hi : 0 ≤ i ∧ i ≤ 800) (hb : b < bs.length) (hn : 1 ≤ n ∧ n ≤ 70) : J κ σ [(0, .ref (ad 0)), (1, .ref a), (2, .ref m), (3, .ref (kc κ 9)), (4, vi (i)), (5, vi ((b : Int))), (6, vi (n))] 533 [] 0 0 := by
  obtain ⟨-, -, -, -, hc, hs⟩ := id E
  have hO := hX0.ok
  have h6 := hO.1
  have hBk := hO.2.1
  have hlb := hO.2.2.1
  have hpf := hO.2.2.2.2.1
  have hTb := totB_in hBk
  obtain ⟨hRu, h2, h3, h4, h5, hPr⟩ := id hH
  have hma : m ≠ a := hM.nk hA rfl
  have kp0 : Keep σ σ (fun y => y = a ∨ y = m) := Keep.rf
  have dm0 : σ.1 = σ.1 := rfl
  have hmemb := gB_mem (bs := bs) (i := (b : Int)) (by omega) (by omega)
  obtain ⟨hcapb, hokb, htcb⟩ := hBk _ hmemb
  have hllb := len_lenB hmemb
  have ht0b := tot_0 hokb
  have hcnb := (hNt.2.2.1 b hb).1.1
  refine j_aload_n 0 C dL_isDone_533 rfl rfl rfl ?_
  refine j_aload_n 1 C dL_isDone_534 rfl rfl rfl ?_
  refine j_aload_n 2 C dL_isDone_535 rfl rfl rfl ?_
  refine j_iload 5 C dL_isDone_536 rfl rfl ?_
  refine j_aload_n 3 C dL_isDone_538 rfl rfl rfl ?_
  refine j_iload 4 C dL_isDone_539 rfl rfl ?_
  refine j_iconst C dL_isDone_541 rfl ?_
  refine j_iadd C dL_isDone_542 rfl ?_
  refine j_aload_n 1 C dL_isDone_543 rfl rfl rfl ?_
  refine j_iconst C dL_isDone_544 rfl ?_
  refine j_iald C dL_isDone_545 rfl hA ⟨by omega, by omega⟩ (by omega) hNt.1 ?_
  refine j_callS (st' := [vi ((b : Int)), .ref m, .ref a, .ref (ad 0)]) (As := [.ref (kc κ 9), vi (i + 3), vi ((bs.length : Int))]) C dL_isDone_546 rfl m_L_132 rfl rfl (c_in (kL κ) hfl (kD κ) (kc κ) σ (i + 3) (bs.length : Int) ⟨by omega, by omega⟩ ⟨by omega, by omega⟩) rfl (by omega) (by omega) (by omega) (fun _ _ hx => hx.elim) (fun v3 τ2 hp4 => ?_)
  obtain ⟨z1, rfl, hz1, hs9⟩ := hp4
  replace hs9 := hs9.symm
  subst hs9
  show J κ σ [(0, .ref (ad 0)), (1, .ref a), (2, .ref m), (3, .ref (kc κ 9)), (4, vi (i)), (5, vi ((b : Int))), (6, vi (n))] 549 [vi (z1), vi ((b : Int)), .ref m, .ref a, .ref (ad 0)] _ _
  refine j_iconst C dL_isDone_549 rfl ?_
  refine j_aload_n 3 C dL_isDone_550 rfl rfl rfl ?_
  refine j_iload 4 C dL_isDone_551 rfl rfl ?_
  refine j_iconst C dL_isDone_553 rfl ?_
  refine j_iadd C dL_isDone_554 rfl ?_
  refine j_bipush C dL_isDone_555 rfl (by decide) ?_
  refine j_callS (st' := [vi (1), vi (z1), vi ((b : Int)), .ref m, .ref a, .ref (ad 0)]) (As := [.ref (kc κ 9), vi (i + 2), vi (30)]) C dL_isDone_557 rfl m_L_132 rfl rfl (c_in (kL κ) hfl (kD κ) (kc κ) σ (i + 2) 30 ⟨by omega, by omega⟩ ⟨by omega, by omega⟩) rfl (by omega) (by omega) (by omega) (fun _ _ hx => hx.elim) (fun v7 τ6 hp8 => ?_)
  obtain ⟨z5, rfl, hz5, hs9⟩ := hp8
  replace hs9 := hs9.symm
  subst hs9
  show J κ σ [(0, .ref (ad 0)), (1, .ref a), (2, .ref m), (3, .ref (kc κ 9)), (4, vi (i)), (5, vi ((b : Int))), (6, vi (n))] 560 [vi (z5), vi (1), vi (z1), vi ((b : Int)), .ref m, .ref a, .ref (ad 0)] _ _
  refine j_iadd C dL_isDone_560 rfl ?_
  refine j_bipush C dL_isDone_561 rfl (by decide) ?_
  refine j_aload_n 3 C dL_isDone_563 rfl rfl rfl ?_
  refine j_iload 4 C dL_isDone_564 rfl rfl ?_
  refine j_iconst C dL_isDone_566 rfl ?_
  refine j_iadd C dL_isDone_567 rfl ?_
  refine j_bipush C dL_isDone_568 rfl (by decide) ?_
  refine j_callS (st' := [vi (100), vi (1 + z5), vi (z1), vi ((b : Int)), .ref m, .ref a, .ref (ad 0)]) (As := [.ref (kc κ 9), vi (i + 4), vi (100)]) C dL_isDone_570 rfl m_L_132 rfl rfl (c_in (kL κ) hfl (kD κ) (kc κ) σ (i + 4) 100 ⟨by omega, by omega⟩ ⟨by omega, by omega⟩) rfl (by omega) (by omega) (by omega) (fun _ _ hx => hx.elim) (fun v11 τ10 hp12 => ?_)
  obtain ⟨z9, rfl, hz9, hs9⟩ := hp12
  replace hs9 := hs9.symm
  subst hs9
  show J κ σ [(0, .ref (ad 0)), (1, .ref a), (2, .ref m), (3, .ref (kc κ 9)), (4, vi (i)), (5, vi ((b : Int))), (6, vi (n))] 573 [vi (z9), vi (100), vi (1 + z5), vi (z1), vi ((b : Int)), .ref m, .ref a, .ref (ad 0)] _ _
  refine j_iadd C dL_isDone_573 rfl ?_
  obtain ⟨j, hj, rfl⟩ : ∃ j : Nat, j < bs.length ∧ z1 = (j : Int) := ⟨z1.toNat, by omega, by omega⟩
  refine j_callS (st' := []) (As := [.ref (ad 0), .ref a, .ref m, vi ((b : Int)), vi ((j : Int)), vi (1 + z5), vi (100 + z9)]) C dL_isDone_574 rfl m_L_191 rfl rfl (c_isBlended (kL κ) hfl (kD κ) (kc κ) σ tg ad bs ru se pf hd ca evs ln g gm a m hX0 hA hNt hH hM hta htm b hb j hj (1 + z5) (100 + z9) ⟨by omega, by omega⟩ ⟨by omega, by omega⟩) rfl (by omega) (by omega) (by omega) (fun _ _ hx => hx.elim) (fun v14 τ13 hp15 => ?_)
  obtain ⟨rfl, hI9⟩ := hp15
  show J κ τ13 [(0, .ref (ad 0)), (1, .ref a), (2, .ref m), (3, .ref (kc κ 9)), (4, vi (i)), (5, vi ((b : Int))), (6, vi (n))] 577 [vi (1)] _ _
  exact j_zret C E dL_isDone_577 rfl (by omega) (by omega) ⟨rfl, hI9⟩
set_option maxHeartbeats 8000000 in
set_option maxRecDepth 20000 in
theorem dn_13 {κ : Kx} {σ : Wd} (C : Cx κ cL_isDone 9 RL "isDone" 10) (hfl : (kL κ).stackTraces = false) {tg ad : Nat → Nat} {bs : List Bn} {ru : Nat → Int × Int} {se : Int} {pf : Nat → Int} {hd : Hd} {ca : Int} {evs : List Evt} {ln : List Int} {g gm : Nat → Int} {a m : Nat} (E : En κ (some .boolean) 102 84180 (fun v σ' => v = some (vi 1) ∧ LI (kc κ) σ' (ad 0) a m 1) noX) (hX0 : RX (kc κ) σ tg ad bs ru se pf hd ca evs ln) (hA : has σ a (iA (kc κ) 2700 g)) (hNt : NetL g bs) (hH : NetH g ru se pf evs.length hd.2.2.2.1 (totB bs)) (hM : has σ m (lA (kc κ) 2 gm)) (hta : 1000 ≤ tg a) (htm : 1000 ≤ tg m) {i n : Int} {b : Nat} (hi : 0 ≤ i ∧ i ≤ 800) (hb : b < bs.length) (hn : 1 ≤ n ∧ n ≤ 70) : J κ σ [(0, .ref (ad 0)), (1, .ref a), (2, .ref m), (3, .ref (kc κ 9)), (4, vi (i)), (5, vi ((b : Int))), (6, vi (n))] 578 [] 0 0 := by
  obtain ⟨-, -, -, -, hc, hs⟩ := id E
  have hO := hX0.ok
  have h6 := hO.1
  have hBk := hO.2.1
  have hlb := hO.2.2.1
  have hpf := hO.2.2.2.2.1
  have hTb := totB_in hBk
  obtain ⟨hRu, h2, h3, h4, h5, hPr⟩ := id hH
  have hma : m ≠ a := hM.nk hA rfl
  have kp0 : Keep σ σ (fun y => y = a ∨ y = m) := Keep.rf
  have dm0 : σ.1 = σ.1 := rfl
  have hmemb := gB_mem (bs := bs) (i := (b : Int)) (by omega) (by omega)
  obtain ⟨hcapb, hokb, htcb⟩ := hBk _ hmemb
  have hllb := len_lenB hmemb
  have ht0b := tot_0 hokb
  have hcnb := (hNt.2.2.1 b hb).1.1
  refine j_aload_n 0 C dL_isDone_578 rfl rfl rfl ?_
  refine j_aload_n 1 C dL_isDone_579 rfl rfl rfl ?_
  refine j_aload_n 2 C dL_isDone_580 rfl rfl rfl ?_
  refine j_aload_n 3 C dL_isDone_581 rfl rfl rfl ?_
  refine j_iload 4 C dL_isDone_582 rfl rfl ?_
  refine j_iconst C dL_isDone_584 rfl ?_
  refine j_iadd C dL_isDone_585 rfl ?_
  refine j_callS (st' := []) (As := [.ref (ad 0), .ref a, .ref m, .ref (kc κ 9), vi (i + 1)]) C dL_isDone_586 rfl m_L_154 rfl rfl (c_isLoaded (kL κ) hfl (kD κ) (kc κ) σ (ad 0) a m 1 (LI.mk rfl hX0 hA hNt hH hM hta htm (by omega)) (Nat.le_refl _) (i + 1) ⟨by omega, by omega⟩) rfl (by omega) (by omega) (by omega) (fun _ _ hx => hx.elim) (fun v2 τ1 hp3 => ?_)
  obtain ⟨rfl, hI9⟩ := hp3
  show J κ τ1 [(0, .ref (ad 0)), (1, .ref a), (2, .ref m), (3, .ref (kc κ 9)), (4, vi (i)), (5, vi ((b : Int))), (6, vi (n))] 589 [vi (1)] _ _
  exact j_zret C E dL_isDone_589 rfl (by omega) (by omega) ⟨rfl, hI9⟩
set_option maxHeartbeats 8000000 in
set_option maxRecDepth 20000 in
theorem c_isDone (l : Launch) (hfl : l.stackTraces = false) (D : va_G) (cy : Nat → Nat) (σ : Wd) (o a m lo : Nat) (hI : LI cy σ o a m lo) (hlo1 : 1 ≤ lo) (i : Int) (hi : 0 ≤ i ∧ i ≤ 800) : Ct l yL_isDone cL_isDone 9 (some .boolean) 10 102 84180 D cy [.ref o, .ref a, .ref m, .ref (cy 9), vi (i)] σ (fun v σ' => v = some (vi 1) ∧ LI cy σ' o a m 1) noX := by
  refine ct_start (by decide +kernel) hfl rfl (fun κ e1 e2 e3 C E NH => ?_)
  subst e1 e2 e3
  have C : Cx κ cL_isDone 9 RL "isDone" 10 := C
  obtain ⟨-, -, -, -, hc, hs⟩ := id E
  show J κ σ [(0, .ref o), (1, .ref a), (2, .ref m), (3, .ref (kc κ 9)), (4, vi (i))] 0 [] 0 0
  obtain ⟨tg, ad, bs, ru, se, pf, hd, ca, evs, ln, g, gm, ho, hX0, ⟨hA, hNt, hH⟩, hM, ⟨hta, htm⟩, hlo⟩ := hI
  subst ho
  have hO := hX0.ok
  have h6 := hO.1
  have hBk := hO.2.1
  have hlb := hO.2.2.1
  have hpf := hO.2.2.2.2.1
  have hTb := totB_in hBk
  obtain ⟨hRu, h2, h3, h4, h5, hPr⟩ := id hH
  have hma : m ≠ a := hM.nk hA rfl
  show J κ σ [(0, .ref (ad 0)), (1, .ref a), (2, .ref m), (3, .ref (kc κ 9)), (4, vi (i))] 0 [] 0 0
  have kp0 : Keep σ σ (fun y => y = a ∨ y = m) := Keep.rf
  have dm0 : σ.1 = σ.1 := rfl
  have hi9 : 0 ≤ i ∧ i ≤ 800 := by omega
  refine j_aload_n 3 C dL_isDone_0 rfl rfl rfl ?_
  refine j_iload 4 C dL_isDone_1 rfl rfl ?_
  refine j_iconst C dL_isDone_3 rfl ?_
  refine j_iadd C dL_isDone_4 rfl ?_
  refine j_aload_n 1 C dL_isDone_5 rfl rfl rfl ?_
  refine j_iconst C dL_isDone_6 rfl ?_
  refine j_iald C dL_isDone_7 rfl hA ⟨by omega, by omega⟩ (by omega) hNt.1 ?_
  refine j_callS (st' := []) (As := [.ref (kc κ 9), vi (i + 1), vi ((bs.length : Int))]) C dL_isDone_8 rfl m_L_132 rfl rfl (c_in (kL κ) hfl (kD κ) (kc κ) σ (i + 1) (bs.length : Int) ⟨by omega, by omega⟩ ⟨by omega, by omega⟩) rfl (by omega) (by omega) (by omega) (fun _ _ hx => hx.elim) (fun v3 τ2 hp4 => ?_)
  obtain ⟨z1, rfl, hz1, hs9⟩ := hp4
  replace hs9 := hs9.symm
  subst hs9
  show J κ σ [(0, .ref (ad 0)), (1, .ref a), (2, .ref m), (3, .ref (kc κ 9)), (4, vi (i))] 11 [vi (z1)] _ _
  refine j_istore (lv' := [(0, .ref (ad 0)), (1, .ref a), (2, .ref m), (3, .ref (kc κ 9)), (4, vi (i)), (5, vi (z1))]) [1, 2, 3, 4, 5, 0] C dL_isDone_11 rfl rfl rfl ?_
  refine j_iconst C dL_isDone_13 rfl ?_
  refine j_aload_n 3 C dL_isDone_14 rfl rfl rfl ?_
  refine j_iload 4 C dL_isDone_15 rfl rfl ?_
  refine j_iconst C dL_isDone_17 rfl ?_
  refine j_iadd C dL_isDone_18 rfl ?_
  refine j_bipush C dL_isDone_19 rfl (by decide) ?_
  refine j_callS (st' := [vi (1)]) (As := [.ref (kc κ 9), vi (i + 2), vi (70)]) C dL_isDone_21 rfl m_L_132 rfl rfl (c_in (kL κ) hfl (kD κ) (kc κ) σ (i + 2) 70 ⟨by omega, by omega⟩ ⟨by omega, by omega⟩) rfl (by omega) (by omega) (by omega) (fun _ _ hx => hx.elim) (fun v7 τ6 hp8 => ?_)
  obtain ⟨z5, rfl, hz5, hs9⟩ := hp8
  replace hs9 := hs9.symm
  subst hs9
  show J κ σ [(0, .ref (ad 0)), (1, .ref a), (2, .ref m), (3, .ref (kc κ 9)), (4, vi (i)), (5, vi (z1))] 24 [vi (z5), vi (1)] _ _
  refine j_iadd C dL_isDone_24 rfl ?_
  refine j_istore (lv' := [(0, .ref (ad 0)), (1, .ref a), (2, .ref m), (3, .ref (kc κ 9)), (4, vi (i)), (5, vi (z1)), (6, vi (1 + z5))]) [1, 2, 3, 4, 5, 6, 0] C dL_isDone_25 rfl rfl rfl ?_
  refine j_aload_n 3 C dL_isDone_27 rfl rfl rfl ?_
  refine j_iload 4 C dL_isDone_28 rfl rfl ?_
  refine j_bipush C dL_isDone_30 rfl (by decide) ?_
  refine j_callS (st' := []) (As := [.ref (kc κ 9), vi (i), vi (16)]) C dL_isDone_32 rfl m_L_132 rfl rfl (c_in (kL κ) hfl (kD κ) (kc κ) σ i 16 ⟨by omega, by omega⟩ ⟨by omega, by omega⟩) rfl (by omega) (by omega) (by omega) (fun _ _ hx => hx.elim) (fun v11 τ10 hp12 => ?_)
  obtain ⟨z9, rfl, hz9, hs9⟩ := hp12
  replace hs9 := hs9.symm
  subst hs9
  show J κ σ [(0, .ref (ad 0)), (1, .ref a), (2, .ref m), (3, .ref (kc κ 9)), (4, vi (i)), (5, vi (z1)), (6, vi (1 + z5))] 35 [vi (z9)] _ _
  obtain ⟨b, hb, rfl⟩ : ∃ b : Nat, b < bs.length ∧ z1 = (b : Int) := ⟨z1.toNat, by omega, by omega⟩
  rcases (show z9 = 0 ∨ z9 = 1 ∨ z9 = 2 ∨ z9 = 3 ∨ z9 = 4 ∨ z9 = 5 ∨ z9 = 6 ∨ z9 = 7 ∨ z9 = 8 ∨ z9 = 9 ∨ z9 = 10 ∨ z9 = 11 ∨ z9 = 12 ∨ 12 < z9 by omega) with rfl | rfl | rfl | rfl | rfl | rfl | rfl | rfl | rfl | rfl | rfl | rfl | rfl | hz9
  · exact j_table_in (off := 65) (tgt := 100) C dL_isDone_35 ⟨by omega, by omega⟩ (by decide) (by decide) rfl rfl (dn_0 C hfl E hX0 hA hNt hH hM hta htm hi9 hb ⟨by omega, by omega⟩)
  · exact j_table_in (off := 101) (tgt := 136) C dL_isDone_35 ⟨by omega, by omega⟩ (by decide) (by decide) rfl rfl (dn_1 C hfl E hX0 hA hNt hH hM hta htm hi9 hb ⟨by omega, by omega⟩)
  · exact j_table_in (off := 214) (tgt := 249) C dL_isDone_35 ⟨by omega, by omega⟩ (by decide) (by decide) rfl rfl (dn_2 C hfl E hX0 hA hNt hH hM hta htm hi9 hb ⟨by omega, by omega⟩)
  · exact j_table_in (off := 249) (tgt := 284) C dL_isDone_35 ⟨by omega, by omega⟩ (by decide) (by decide) rfl rfl (dn_3 C hfl E hX0 hA hNt hH hM hta htm hi9 hb ⟨by omega, by omega⟩)
  · exact j_table_in (off := 313) (tgt := 348) C dL_isDone_35 ⟨by omega, by omega⟩ (by decide) (by decide) rfl rfl (dn_4 C hfl E hX0 hA hNt hH hM hta htm hi9 hb ⟨by omega, by omega⟩)
  · exact j_table_in (off := 368) (tgt := 403) C dL_isDone_35 ⟨by omega, by omega⟩ (by decide) (by decide) rfl rfl (dn_5 C hfl E hX0 hA hNt hH hM hta htm hi9 hb ⟨by omega, by omega⟩)
  · exact j_table_in (off := 368) (tgt := 403) C dL_isDone_35 ⟨by omega, by omega⟩ (by decide) (by decide) rfl rfl (dn_5 C hfl E hX0 hA hNt hH hM hta htm hi9 hb ⟨by omega, by omega⟩)
  · exact j_table_in (off := 455) (tgt := 490) C dL_isDone_35 ⟨by omega, by omega⟩ (by decide) (by decide) rfl rfl (dn_7 C hfl E hX0 hA hNt hH hM hta htm hi9 hb ⟨by omega, by omega⟩)
  · exact j_table_in (off := 455) (tgt := 490) C dL_isDone_35 ⟨by omega, by omega⟩ (by decide) (by decide) rfl rfl (dn_7 C hfl E hX0 hA hNt hH hM hta htm hi9 hb ⟨by omega, by omega⟩)
  · exact j_table_in (off := 455) (tgt := 490) C dL_isDone_35 ⟨by omega, by omega⟩ (by decide) (by decide) rfl rfl (dn_7 C hfl E hX0 hA hNt hH hM hta htm hi9 hb ⟨by omega, by omega⟩)
  · exact j_table_in (off := 476) (tgt := 511) C dL_isDone_35 ⟨by omega, by omega⟩ (by decide) (by decide) rfl rfl (dn_10 C hfl E hX0 hA hNt hH hM hta htm hi9 hb ⟨by omega, by omega⟩)
  · exact j_table_in (off := 476) (tgt := 511) C dL_isDone_35 ⟨by omega, by omega⟩ (by decide) (by decide) rfl rfl (dn_10 C hfl E hX0 hA hNt hH hM hta htm hi9 hb ⟨by omega, by omega⟩)
  · exact j_table_in (off := 498) (tgt := 533) C dL_isDone_35 ⟨by omega, by omega⟩ (by decide) (by decide) rfl rfl (dn_12 C hfl E hX0 hA hNt hH hM hta htm hi9 hb ⟨by omega, by omega⟩)
  · exact j_table_out (tgt := 578) C dL_isDone_35 ⟨by omega, by omega⟩ (Or.inr hz9) rfl (dn_13 C hfl E hX0 hA hNt hH hM hta htm hi9 hb ⟨by omega, by omega⟩)
