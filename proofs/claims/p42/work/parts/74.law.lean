/-! the law: its start, its loop, its last questions -/
theorem LI.o {cy : Nat → Nat} {σ : Wd} {o a m lo : Nat} (h : LI cy σ o a m lo) : ∃ ad : Nat → Nat, ad 0 = o := by
  obtain ⟨_, ad, _, _, _, _, _, _, _, _, _, _, h1, _⟩ := h
  exact ⟨ad, h1⟩
set_option maxHeartbeats 8000000 in
set_option maxRecDepth 20000 in
theorem law_tail {κ : Kx} {nmx : String} (C : Cx κ cL_law 8 RL nmx 12) (hfl : (kL κ).stackTraces = false) (hc : 143716 ≤ (kR κ).cells) (hs : 8662782 ≤ (kR κ).slots) (hR : ∀ (σ : Wd) (lv : List (Nat × Value)) (k n : Nat), k ≤ 143716 → n ≤ 8662782 → J κ σ lv 466 [vi 1] k n) {σ : Wd} {o a m : Nat} {x4 : Int} {k n : Nat} (hk : k ≤ 143000) (hn : n ≤ 8662000) (hI : LI (kc κ) σ o a m 1) : J κ σ [(0, .ref (kc κ 9)), (1, .ref a), (2, .ref m), (3, .ref o), (4, vi (x4))] 123 [] k n := by
  obtain ⟨tg, ad, bs, ru, se, pf, hd, ca, evs, ln, g, gm, ho, hX0, ⟨hA, hNt, hH⟩, hM, ⟨hta, htm⟩, hlo⟩ := hI
  subst ho
  have h6 := hNt.2.1
  have h0 : 0 < bs.length := by omega
  refine j_aload_n 3 C dL_law_123 rfl rfl rfl ?_
  refine j_iconst C dL_law_124 rfl ?_
  refine j_iconst C dL_law_125 rfl ?_
  refine j_eq_st (st' := [vi (b01 true), vi (0), .ref (ad 0)]) rfl ?_
  refine j_callSH (st' := []) (As := [.ref (ad 0), vi (0), vi (b01 true)]) C dL_law_126 rfl m_L_146 rfl rfl (W_addBinB1 (kL κ) hfl (kD κ) (kc κ) σ tg ad bs ru se pf hd ca evs ln hX0 0 ⟨by omega, by omega⟩ true (Or.inl (by decide))) rfl (by omega) (by omega) (by omega) (fun _ _ hx => hx.elim) (fun v2 τ1 hp3 => ?_)
  obtain ⟨rfl, hs9⟩ := hp3
  replace hs9 := hs9.symm
  subst hs9
  show J κ σ [(0, .ref (kc κ 9)), (1, .ref a), (2, .ref m), (3, .ref (ad 0)), (4, vi (x4))] 129 [vi ((-900001))] _ _
  refine j_ldc (z := (-900001)) C dL_law_129 rfl kc_L_17 ?_
  refine j_icmp_ne (tgt := 298) C dL_law_131 rfl rfl ⟨by omega, by omega⟩ ⟨by omega, by omega⟩ (fun cc4 => absurd cc4 (by decide)) (fun _ => ?_)
  refine j_aload_n 3 C dL_law_134 rfl rfl rfl ?_
  refine j_sipush C dL_law_135 rfl (by decide) ?_
  refine j_iconst C dL_law_138 rfl ?_
  refine j_eq_st (st' := [vi (b01 true), vi (5001), .ref (ad 0)]) rfl ?_
  refine j_callSH (st' := []) (As := [.ref (ad 0), vi (5001), vi (b01 true)]) C dL_law_139 rfl m_L_146 rfl rfl (W_addBinB1 (kL κ) hfl (kD κ) (kc κ) σ tg ad bs ru se pf hd ca evs ln hX0 5001 ⟨by omega, by omega⟩ true (Or.inr (by decide))) rfl (by omega) (by omega) (by omega) (fun _ _ hx => hx.elim) (fun v6 τ5 hp7 => ?_)
  obtain ⟨rfl, hs9⟩ := hp7
  replace hs9 := hs9.symm
  subst hs9
  show J κ σ [(0, .ref (kc κ 9)), (1, .ref a), (2, .ref m), (3, .ref (ad 0)), (4, vi (x4))] 142 [vi ((-900001))] _ _
  refine j_ldc (z := (-900001)) C dL_law_142 rfl kc_L_17 ?_
  refine j_icmp_ne (tgt := 298) C dL_law_144 rfl rfl ⟨by omega, by omega⟩ ⟨by omega, by omega⟩ (fun cc8 => absurd cc8 (by decide)) (fun _ => ?_)
  refine j_aload_n 3 C dL_law_147 rfl rfl rfl ?_
  refine j_aload_n 1 C dL_law_148 rfl rfl rfl ?_
  refine j_iconst C dL_law_149 rfl ?_
  refine j_iald C dL_law_150 rfl hA ⟨by omega, by omega⟩ (by omega) hNt.1 ?_
  refine j_callSH (st' := []) (As := [.ref (ad 0), vi ((bs.length : Int))]) C dL_law_151 rfl m_L_226 rfl rfl (W_capacityOfB (kL κ) hfl (kD κ) (kc κ) σ tg ad bs ru se pf hd ca evs ln hX0 (bs.length : Int) ⟨by omega, by omega⟩ (Or.inr (Int.le_refl _))) rfl (by omega) (by omega) (by omega) (fun _ _ hx => hx.elim) (fun v10 τ9 hp11 => ?_)
  obtain ⟨rfl, hs9⟩ := hp11
  replace hs9 := hs9.symm
  subst hs9
  show J κ σ [(0, .ref (kc κ 9)), (1, .ref a), (2, .ref m), (3, .ref (ad 0)), (4, vi (x4))] 154 [vi ((-900001))] _ _
  refine j_ldc (z := (-900001)) C dL_law_154 rfl kc_L_17 ?_
  refine j_icmp_ne (tgt := 298) C dL_law_156 rfl rfl ⟨by omega, by omega⟩ ⟨by omega, by omega⟩ (fun cc12 => absurd cc12 (by decide)) (fun _ => ?_)
  refine j_aload_n 3 C dL_law_159 rfl rfl rfl ?_
  refine j_iconst C dL_law_160 rfl ?_
  refine j_iconst C dL_law_161 rfl ?_
  refine j_bipush C dL_law_162 rfl (by decide) ?_
  refine j_iconst C dL_law_164 rfl ?_
  refine j_callSH (st' := []) (As := [.ref (ad 0), vi (4), vi (1), vi (80), vi (0)]) C dL_law_165 rfl m_L_172 rfl rfl (W_setRuleB (kL κ) hfl (kD κ) (kc κ) σ tg ad bs ru se pf hd ca evs ln hX0 4 1 80 0 ⟨by omega, by omega⟩ ⟨by omega, by omega⟩ ⟨by omega, by omega⟩ ⟨by omega, by omega⟩ (by omega)) rfl (by omega) (by omega) (by omega) (fun _ _ hx => hx.elim) (fun v14 τ13 hp15 => ?_)
  obtain ⟨rfl, hs9⟩ := hp15
  replace hs9 := hs9.symm
  subst hs9
  show J κ σ [(0, .ref (kc κ 9)), (1, .ref a), (2, .ref m), (3, .ref (ad 0)), (4, vi (x4))] 168 [vi ((-900001))] _ _
  refine j_ldc (z := (-900001)) C dL_law_168 rfl kc_L_17 ?_
  refine j_icmp_ne (tgt := 298) C dL_law_170 rfl rfl ⟨by omega, by omega⟩ ⟨by omega, by omega⟩ (fun cc16 => absurd cc16 (by decide)) (fun _ => ?_)
  refine j_aload_n 3 C dL_law_173 rfl rfl rfl ?_
  refine j_iconst C dL_law_174 rfl ?_
  refine j_iconst C dL_law_175 rfl ?_
  refine j_bipush C dL_law_176 rfl (by decide) ?_
  refine j_iconst C dL_law_178 rfl ?_
  refine j_callSH (st' := []) (As := [.ref (ad 0), vi (0), vi (4), vi (80), vi (0)]) C dL_law_179 rfl m_L_172 rfl rfl (W_setRuleB (kL κ) hfl (kD κ) (kc κ) σ tg ad bs ru se pf hd ca evs ln hX0 0 4 80 0 ⟨by omega, by omega⟩ ⟨by omega, by omega⟩ ⟨by omega, by omega⟩ ⟨by omega, by omega⟩ (by omega)) rfl (by omega) (by omega) (by omega) (fun _ _ hx => hx.elim) (fun v18 τ17 hp19 => ?_)
  obtain ⟨rfl, hs9⟩ := hp19
  replace hs9 := hs9.symm
  subst hs9
  show J κ σ [(0, .ref (kc κ 9)), (1, .ref a), (2, .ref m), (3, .ref (ad 0)), (4, vi (x4))] 182 [vi ((-900001))] _ _
  refine j_ldc (z := (-900001)) C dL_law_182 rfl kc_L_17 ?_
  refine j_icmp_ne (tgt := 298) C dL_law_184 rfl rfl ⟨by omega, by omega⟩ ⟨by omega, by omega⟩ (fun cc20 => absurd cc20 (by decide)) (fun _ => ?_)
  refine j_aload_n 3 C dL_law_187 rfl rfl rfl ?_
  refine j_iconst C dL_law_188 rfl ?_
  refine j_iconst C dL_law_189 rfl ?_
  refine j_bipush C dL_law_190 rfl (by decide) ?_
  refine j_iconst C dL_law_192 rfl ?_
  refine j_callSH (st' := []) (As := [.ref (ad 0), vi (0), vi (1), vi (79), vi (0)]) C dL_law_193 rfl m_L_172 rfl rfl (W_setRuleB (kL κ) hfl (kD κ) (kc κ) σ tg ad bs ru se pf hd ca evs ln hX0 0 1 79 0 ⟨by omega, by omega⟩ ⟨by omega, by omega⟩ ⟨by omega, by omega⟩ ⟨by omega, by omega⟩ (by omega)) rfl (by omega) (by omega) (by omega) (fun _ _ hx => hx.elim) (fun v22 τ21 hp23 => ?_)
  obtain ⟨rfl, hs9⟩ := hp23
  replace hs9 := hs9.symm
  subst hs9
  show J κ σ [(0, .ref (kc κ 9)), (1, .ref a), (2, .ref m), (3, .ref (ad 0)), (4, vi (x4))] 196 [vi ((-900001))] _ _
  refine j_ldc (z := (-900001)) C dL_law_196 rfl kc_L_17 ?_
  refine j_icmp_ne (tgt := 298) C dL_law_198 rfl rfl ⟨by omega, by omega⟩ ⟨by omega, by omega⟩ (fun cc24 => absurd cc24 (by decide)) (fun _ => ?_)
  refine j_aload_n 3 C dL_law_201 rfl rfl rfl ?_
  refine j_iconst C dL_law_202 rfl ?_
  refine j_callSH (st' := []) (As := [.ref (ad 0), vi (-1)]) C dL_law_203 rfl m_L_174 rfl rfl (W_setSeasonB (kL κ) hfl (kD κ) (kc κ) σ tg ad bs ru se pf hd ca evs ln hX0 (-1) ⟨by omega, by omega⟩ (Or.inl (by decide))) rfl (by omega) (by omega) (by omega) (fun _ _ hx => hx.elim) (fun v26 τ25 hp27 => ?_)
  obtain ⟨rfl, hs9⟩ := hp27
  replace hs9 := hs9.symm
  subst hs9
  show J κ σ [(0, .ref (kc κ 9)), (1, .ref a), (2, .ref m), (3, .ref (ad 0)), (4, vi (x4))] 206 [vi ((-900001))] _ _
  refine j_ldc (z := (-900001)) C dL_law_206 rfl kc_L_17 ?_
  refine j_icmp_ne (tgt := 298) C dL_law_208 rfl rfl ⟨by omega, by omega⟩ ⟨by omega, by omega⟩ (fun cc28 => absurd cc28 (by decide)) (fun _ => ?_)
  refine j_aload_n 3 C dL_law_211 rfl rfl rfl ?_
  refine j_sipush C dL_law_212 rfl (by decide) ?_
  refine j_iconst C dL_law_215 rfl ?_
  refine j_callSH (st' := []) (As := [.ref (ad 0), vi (301), vi (0)]) C dL_law_216 rfl m_L_260 rfl rfl (W_gradeForB (kL κ) hfl (kD κ) (kc κ) σ tg ad bs ru se pf hd ca evs ln hX0 301 0 ⟨by omega, by omega⟩ ⟨by omega, by omega⟩ (by omega)) rfl (by omega) (by omega) (by omega) (fun _ _ hx => hx.elim) (fun v30 τ29 hp31 => ?_)
  obtain ⟨rfl, hs9⟩ := hp31
  replace hs9 := hs9.symm
  subst hs9
  show J κ σ [(0, .ref (kc κ 9)), (1, .ref a), (2, .ref m), (3, .ref (ad 0)), (4, vi (x4))] 219 [vi ((-900001))] _ _
  refine j_ldc (z := (-900001)) C dL_law_219 rfl kc_L_17 ?_
  refine j_icmp_ne (tgt := 298) C dL_law_221 rfl rfl ⟨by omega, by omega⟩ ⟨by omega, by omega⟩ (fun cc32 => absurd cc32 (by decide)) (fun _ => ?_)
  refine j_aload_n 3 C dL_law_224 rfl rfl rfl ?_
  refine j_aload_n 1 C dL_law_225 rfl rfl rfl ?_
  refine j_iconst C dL_law_226 rfl ?_
  refine j_iald C dL_law_227 rfl hA ⟨by omega, by omega⟩ (by omega) hNt.1 ?_
  refine j_iconst C dL_law_228 rfl ?_
  refine j_iconst C dL_law_229 rfl ?_
  refine j_iconst C dL_law_230 rfl ?_
  refine j_callSH (st' := []) (As := [.ref (ad 0), vi ((bs.length : Int)), vi (0), vi (0), vi (0)]) C dL_law_231 rfl m_L_136 rfl rfl (W_loadB0 (kL κ) hfl (kD κ) (kc κ) σ tg ad bs ru se pf hd ca evs ln hX0 (bs.length : Int) ⟨by omega, by omega⟩ (Or.inr (Int.le_refl _)) 0 0 0 ⟨by omega, by omega⟩ ⟨by omega, by omega⟩ ⟨by omega, by omega⟩) rfl (by omega) (by omega) (by omega) (fun _ _ hx => hx.elim) (fun v34 τ33 hp35 => ?_)
  obtain ⟨rfl, hs9⟩ := hp35
  replace hs9 := hs9.symm
  subst hs9
  show J κ σ [(0, .ref (kc κ 9)), (1, .ref a), (2, .ref m), (3, .ref (ad 0)), (4, vi (x4))] 234 [vi ((-900001))] _ _
  refine j_ldc (z := (-900001)) C dL_law_234 rfl kc_L_17 ?_
  refine j_icmp_ne (tgt := 298) C dL_law_236 rfl rfl ⟨by omega, by omega⟩ ⟨by omega, by omega⟩ (fun cc36 => absurd cc36 (by decide)) (fun _ => ?_)
  refine j_aload_n 3 C dL_law_239 rfl rfl rfl ?_
  refine j_iconst C dL_law_240 rfl ?_
  refine j_sipush C dL_law_241 rfl (by decide) ?_
  refine j_bipush C dL_law_244 rfl (by decide) ?_
  refine j_iconst C dL_law_246 rfl ?_
  refine j_eq_st (st' := [vi (0), vi (80), vi (2001), vi (((0 : Nat) : Int)), .ref (ad 0)]) rfl ?_
  refine j_callSH (st' := []) (As := [.ref (ad 0), vi (((0 : Nat) : Int)), vi (2001), vi (80), vi (0)]) C dL_law_247 rfl m_L_136 rfl rfl (W_loadB1 (kL κ) hfl (kD κ) (kc κ) σ tg ad bs ru se pf hd ca evs ln hX0 0 h0 2001 80 0 ⟨by omega, by omega⟩ ⟨by omega, by omega⟩ ⟨by omega, by omega⟩ (by omega)) rfl (by omega) (by omega) (by omega) (fun _ _ hx => hx.elim) (fun v38 τ37 hp39 => ?_)
  obtain ⟨rfl, hs9⟩ := hp39
  replace hs9 := hs9.symm
  subst hs9
  show J κ σ [(0, .ref (kc κ 9)), (1, .ref a), (2, .ref m), (3, .ref (ad 0)), (4, vi (x4))] 250 [vi ((-900002))] _ _
  refine j_ldc (z := (-900002)) C dL_law_250 rfl kc_L_20 ?_
  refine j_icmp_ne (tgt := 298) C dL_law_252 rfl rfl ⟨by omega, by omega⟩ ⟨by omega, by omega⟩ (fun cc40 => absurd cc40 (by decide)) (fun _ => ?_)
  refine j_aload_n 3 C dL_law_255 rfl rfl rfl ?_
  refine j_iconst C dL_law_256 rfl ?_
  refine j_iconst C dL_law_257 rfl ?_
  refine j_bipush C dL_law_258 rfl (by decide) ?_
  refine j_bipush C dL_law_260 rfl (by decide) ?_
  refine j_eq_st (st' := [vi (101), vi (80), vi (1), vi (((0 : Nat) : Int)), .ref (ad 0)]) rfl ?_
  refine j_callSH (st' := []) (As := [.ref (ad 0), vi (((0 : Nat) : Int)), vi (1), vi (80), vi (101)]) C dL_law_262 rfl m_L_136 rfl rfl (W_loadB1 (kL κ) hfl (kD κ) (kc κ) σ tg ad bs ru se pf hd ca evs ln hX0 0 h0 1 80 101 ⟨by omega, by omega⟩ ⟨by omega, by omega⟩ ⟨by omega, by omega⟩ (by omega)) rfl (by omega) (by omega) (by omega) (fun _ _ hx => hx.elim) (fun v42 τ41 hp43 => ?_)
  obtain ⟨rfl, hs9⟩ := hp43
  replace hs9 := hs9.symm
  subst hs9
  show J κ σ [(0, .ref (kc κ 9)), (1, .ref a), (2, .ref m), (3, .ref (ad 0)), (4, vi (x4))] 265 [vi ((-900002))] _ _
  refine j_ldc (z := (-900002)) C dL_law_265 rfl kc_L_20 ?_
  refine j_icmp_ne (tgt := 298) C dL_law_267 rfl rfl ⟨by omega, by omega⟩ ⟨by omega, by omega⟩ (fun cc44 => absurd cc44 (by decide)) (fun _ => ?_)
  refine j_aload_n 3 C dL_law_270 rfl rfl rfl ?_
  refine j_iconst C dL_law_271 rfl ?_
  refine j_iconst C dL_law_272 rfl ?_
  refine j_callSH (st' := []) (As := [.ref (ad 0), vi (-1), vi (1)]) C dL_law_273 rfl m_L_181 rfl rfl (W_sellB0 (kL κ) hfl (kD κ) (kc κ) σ tg ad bs ru se pf hd ca evs ln hX0 (-1) ⟨by omega, by omega⟩ (Or.inl (by decide)) 1 ⟨by omega, by omega⟩) rfl (by omega) (by omega) (by omega) (fun _ _ hx => hx.elim) (fun v46 τ45 hp47 => ?_)
  obtain ⟨rfl, hs9⟩ := hp47
  replace hs9 := hs9.symm
  subst hs9
  show J κ σ [(0, .ref (kc κ 9)), (1, .ref a), (2, .ref m), (3, .ref (ad 0)), (4, vi (x4))] 276 [vi ((-900001))] _ _
  refine j_ldc (z := (-900001)) C dL_law_276 rfl kc_L_17 ?_
  refine j_icmp_ne (tgt := 298) C dL_law_278 rfl rfl ⟨by omega, by omega⟩ ⟨by omega, by omega⟩ (fun cc48 => absurd cc48 (by decide)) (fun _ => ?_)
  refine j_aload_n 3 C dL_law_281 rfl rfl rfl ?_
  refine j_iconst C dL_law_282 rfl ?_
  refine j_sipush C dL_law_283 rfl (by decide) ?_
  refine j_eq_st (st' := [vi (5001), vi (((0 : Nat) : Int)), .ref (ad 0)]) rfl ?_
  refine j_callSH (st' := []) (As := [.ref (ad 0), vi (((0 : Nat) : Int)), vi (5001)]) C dL_law_286 rfl m_L_181 rfl rfl (W_sellB1 (kL κ) hfl (kD κ) (kc κ) σ tg ad bs ru se pf hd ca evs ln hX0 0 h0 5001 ⟨by omega, by omega⟩ (Or.inr (by decide))) rfl (by omega) (by omega) (by omega) (fun _ _ hx => hx.elim) (fun v50 τ49 hp51 => ?_)
  obtain ⟨rfl, hs9⟩ := hp51
  replace hs9 := hs9.symm
  subst hs9
  show J κ σ [(0, .ref (kc κ 9)), (1, .ref a), (2, .ref m), (3, .ref (ad 0)), (4, vi (x4))] 289 [vi ((-900002))] _ _
  refine j_ldc (z := (-900002)) C dL_law_289 rfl kc_L_20 ?_
  refine j_icmp_ne (tgt := 298) C dL_law_291 rfl rfl ⟨by omega, by omega⟩ ⟨by omega, by omega⟩ (fun cc52 => absurd cc52 (by decide)) (fun _ => ?_)
  refine j_iconst C dL_law_294 rfl ?_
  refine j_goto (tgt := 299) C dL_law_295 rfl ?_
  refine j_istore (lv' := [(0, .ref (kc κ 9)), (1, .ref a), (2, .ref m), (3, .ref (ad 0)), (4, vi (1))]) [1, 2, 3, 4, 0] C dL_law_299 rfl rfl rfl ?_
  refine j_iload 4 C dL_law_301 rfl rfl ?_
  refine j_if_eq (tgt := 465) C dL_law_303 rfl rfl ⟨by omega, by omega⟩ (fun cc53 => absurd cc53 (by decide)) (fun _ => ?_)
  refine j_aload_n 3 C dL_law_306 rfl rfl rfl ?_
  refine j_iconst C dL_law_307 rfl ?_
  refine j_aload_n 1 C dL_law_308 rfl rfl rfl ?_
  refine j_iconst C dL_law_309 rfl ?_
  refine j_iald C dL_law_310 rfl hA ⟨by omega, by omega⟩ (by omega) hNt.1 ?_
  refine j_iconst C dL_law_311 rfl ?_
  refine j_callSH (st' := []) (As := [.ref (ad 0), vi (0), vi ((bs.length : Int)), vi (1)]) C dL_law_312 rfl m_L_169 rfl rfl (W_transferB0 (kL κ) hfl (kD κ) (kc κ) σ tg ad bs ru se pf hd ca evs ln hX0 0 (bs.length : Int) ⟨by omega, by omega⟩ ⟨by omega, by omega⟩ 1 ⟨by omega, by omega⟩ (by omega)) rfl (by omega) (by omega) (by omega) (fun _ _ hx => hx.elim) (fun v55 τ54 hp56 => ?_)
  obtain ⟨rfl, hs9⟩ := hp56
  replace hs9 := hs9.symm
  subst hs9
  show J κ σ [(0, .ref (kc κ 9)), (1, .ref a), (2, .ref m), (3, .ref (ad 0)), (4, vi (1))] 315 [vi ((-900001))] _ _
  refine j_ldc (z := (-900001)) C dL_law_315 rfl kc_L_17 ?_
  refine j_icmp_ne (tgt := 465) C dL_law_317 rfl rfl ⟨by omega, by omega⟩ ⟨by omega, by omega⟩ (fun cc57 => absurd cc57 (by decide)) (fun _ => ?_)
  refine j_aload_n 3 C dL_law_320 rfl rfl rfl ?_
  refine j_aload_n 1 C dL_law_321 rfl rfl rfl ?_
  refine j_iconst C dL_law_322 rfl ?_
  refine j_iald C dL_law_323 rfl hA ⟨by omega, by omega⟩ (by omega) hNt.1 ?_
  refine j_bipush C dL_law_324 rfl (by decide) ?_
  refine j_callSH (st' := []) (As := [.ref (ad 0), vi ((bs.length : Int)), vi (100)]) C dL_law_326 rfl m_L_161 rfl rfl (W_dryB0 (kL κ) hfl (kD κ) (kc κ) σ tg ad bs ru se pf hd ca evs ln hX0 (bs.length : Int) ⟨by omega, by omega⟩ (Or.inr (Int.le_refl _)) 100 ⟨by omega, by omega⟩) rfl (by omega) (by omega) (by omega) (fun _ _ hx => hx.elim) (fun v59 τ58 hp60 => ?_)
  obtain ⟨rfl, hs9⟩ := hp60
  replace hs9 := hs9.symm
  subst hs9
  show J κ σ [(0, .ref (kc κ 9)), (1, .ref a), (2, .ref m), (3, .ref (ad 0)), (4, vi (1))] 329 [vi ((-900001))] _ _
  refine j_ldc (z := (-900001)) C dL_law_329 rfl kc_L_17 ?_
  refine j_icmp_ne (tgt := 465) C dL_law_331 rfl rfl ⟨by omega, by omega⟩ ⟨by omega, by omega⟩ (fun cc61 => absurd cc61 (by decide)) (fun _ => ?_)
  refine j_aload_n 3 C dL_law_334 rfl rfl rfl ?_
  refine j_iconst C dL_law_335 rfl ?_
  refine j_bipush C dL_law_336 rfl (by decide) ?_
  refine j_eq_st (st' := [vi (79), vi (((0 : Nat) : Int)), .ref (ad 0)]) rfl ?_
  refine j_callSH (st' := []) (As := [.ref (ad 0), vi (((0 : Nat) : Int)), vi (79)]) C dL_law_338 rfl m_L_161 rfl rfl (W_dryB1 (kL κ) hfl (kD κ) (kc κ) σ tg ad bs ru se pf hd ca evs ln hX0 0 h0 79 ⟨by omega, by omega⟩ (Or.inl (by decide))) rfl (by omega) (by omega) (by omega) (fun _ _ hx => hx.elim) (fun v63 τ62 hp64 => ?_)
  obtain ⟨rfl, hs9⟩ := hp64
  replace hs9 := hs9.symm
  subst hs9
  show J κ σ [(0, .ref (kc κ 9)), (1, .ref a), (2, .ref m), (3, .ref (ad 0)), (4, vi (1))] 341 [vi ((-900002))] _ _
  refine j_ldc (z := (-900002)) C dL_law_341 rfl kc_L_20 ?_
  refine j_icmp_ne (tgt := 465) C dL_law_343 rfl rfl ⟨by omega, by omega⟩ ⟨by omega, by omega⟩ (fun cc65 => absurd cc65 (by decide)) (fun _ => ?_)
  refine j_aload_n 3 C dL_law_346 rfl rfl rfl ?_
  refine j_iconst C dL_law_347 rfl ?_
  refine j_bipush C dL_law_348 rfl (by decide) ?_
  refine j_callSH (st' := []) (As := [.ref (ad 0), vi (-1), vi (100)]) C dL_law_350 rfl m_L_158 rfl rfl (W_dryingCostB0 (kL κ) hfl (kD κ) (kc κ) σ tg ad bs ru se pf hd ca evs ln hX0 (-1) ⟨by omega, by omega⟩ (Or.inl (by decide)) 100 ⟨by omega, by omega⟩) rfl (by omega) (by omega) (by omega) (fun _ _ hx => hx.elim) (fun v67 τ66 hp68 => ?_)
  obtain ⟨rfl, hs9⟩ := hp68
  replace hs9 := hs9.symm
  subst hs9
  show J κ σ [(0, .ref (kc κ 9)), (1, .ref a), (2, .ref m), (3, .ref (ad 0)), (4, vi (1))] 353 [vi ((-900001))] _ _
  refine j_ldc (z := (-900001)) C dL_law_353 rfl kc_L_17 ?_
  refine j_icmp_ne (tgt := 465) C dL_law_355 rfl rfl ⟨by omega, by omega⟩ ⟨by omega, by omega⟩ (fun cc69 => absurd cc69 (by decide)) (fun _ => ?_)
  refine j_aload_n 3 C dL_law_358 rfl rfl rfl ?_
  refine j_iconst C dL_law_359 rfl ?_
  refine j_sipush C dL_law_360 rfl (by decide) ?_
  refine j_eq_st (st' := [vi (301), vi (((0 : Nat) : Int)), .ref (ad 0)]) rfl ?_
  refine j_callSH (st' := []) (As := [.ref (ad 0), vi (((0 : Nat) : Int)), vi (301)]) C dL_law_363 rfl m_L_158 rfl rfl (W_dryingCostB (kL κ) hfl (kD κ) (kc κ) σ tg ad bs ru se pf hd ca evs ln hX0 0 h0 301 ⟨by omega, by omega⟩ (Or.inr (by decide))) rfl (by omega) (by omega) (by omega) (fun _ _ hx => hx.elim) (fun v71 τ70 hp72 => ?_)
  obtain ⟨rfl, hs9⟩ := hp72
  replace hs9 := hs9.symm
  subst hs9
  show J κ σ [(0, .ref (kc κ 9)), (1, .ref a), (2, .ref m), (3, .ref (ad 0)), (4, vi (1))] 366 [vi ((-900002))] _ _
  refine j_ldc (z := (-900002)) C dL_law_366 rfl kc_L_20 ?_
  refine j_icmp_ne (tgt := 465) C dL_law_368 rfl rfl ⟨by omega, by omega⟩ ⟨by omega, by omega⟩ (fun cc73 => absurd cc73 (by decide)) (fun _ => ?_)
  refine j_aload_n 3 C dL_law_371 rfl rfl rfl ?_
  refine j_aload_n 1 C dL_law_372 rfl rfl rfl ?_
  refine j_iconst C dL_law_373 rfl ?_
  refine j_iald C dL_law_374 rfl hA ⟨by omega, by omega⟩ (by omega) hNt.1 ?_
  refine j_callSH (st' := []) (As := [.ref (ad 0), vi ((bs.length : Int))]) C dL_law_375 rfl m_L_224 rfl rfl (W_bushelsInB (kL κ) hfl (kD κ) (kc κ) σ tg ad bs ru se pf hd ca evs ln hX0 (bs.length : Int) ⟨by omega, by omega⟩ (Or.inr (Int.le_refl _))) rfl (by omega) (by omega) (by omega) (fun _ _ hx => hx.elim) (fun v75 τ74 hp76 => ?_)
  obtain ⟨rfl, hs9⟩ := hp76
  replace hs9 := hs9.symm
  subst hs9
  show J κ σ [(0, .ref (kc κ 9)), (1, .ref a), (2, .ref m), (3, .ref (ad 0)), (4, vi (1))] 378 [vi ((-900001))] _ _
  refine j_ldc (z := (-900001)) C dL_law_378 rfl kc_L_17 ?_
  refine j_icmp_ne (tgt := 465) C dL_law_380 rfl rfl ⟨by omega, by omega⟩ ⟨by omega, by omega⟩ (fun cc77 => absurd cc77 (by decide)) (fun _ => ?_)
  refine j_aload_n 3 C dL_law_383 rfl rfl rfl ?_
  refine j_iconst C dL_law_384 rfl ?_
  refine j_callSH (st' := []) (As := [.ref (ad 0), vi (-1)]) C dL_law_385 rfl m_L_222 rfl rfl (W_layersInB (kL κ) hfl (kD κ) (kc κ) σ tg ad bs ru se pf hd ca evs ln hX0 (-1) ⟨by omega, by omega⟩ (Or.inl (by decide))) rfl (by omega) (by omega) (by omega) (fun _ _ hx => hx.elim) (fun v79 τ78 hp80 => ?_)
  obtain ⟨rfl, hs9⟩ := hp80
  replace hs9 := hs9.symm
  subst hs9
  show J κ σ [(0, .ref (kc κ 9)), (1, .ref a), (2, .ref m), (3, .ref (ad 0)), (4, vi (1))] 388 [vi ((-900001))] _ _
  refine j_ldc (z := (-900001)) C dL_law_388 rfl kc_L_17 ?_
  refine j_icmp_ne (tgt := 465) C dL_law_390 rfl rfl ⟨by omega, by omega⟩ ⟨by omega, by omega⟩ (fun cc81 => absurd cc81 (by decide)) (fun _ => ?_)
  refine j_aload_n 3 C dL_law_393 rfl rfl rfl ?_
  refine j_iconst C dL_law_394 rfl ?_
  refine j_iconst C dL_law_395 rfl ?_
  refine j_eq_st (st' := [vi (-1), vi (((0 : Nat) : Int)), .ref (ad 0)]) rfl ?_
  refine j_callSH (st' := []) (As := [.ref (ad 0), vi (((0 : Nat) : Int)), vi (-1)]) C dL_law_396 rfl m_L_200 rfl rfl (W_layerAnewB (kL κ) hfl (kD κ) (kc κ) σ tg ad bs ru se pf hd ca evs ln hX0 0 h0 (-1) ⟨by omega, by omega⟩ (Or.inl (by decide))) rfl (by omega) (by omega) (by omega) (fun _ _ hx => hx.elim) (fun v83 τ82 hp84 => ?_)
  obtain ⟨rfl, hX3, hK3, hd3⟩ := hp84
  have hA3 := hK3 _ _ hA (fun z => by have z1 := z.2; omega)
  show J κ τ82 [(0, .ref (kc κ 9)), (1, .ref a), (2, .ref m), (3, .ref (ad 0)), (4, vi (1))] 399 [vi ((-900001))] _ _
  refine j_ldc (z := (-900001)) C dL_law_399 rfl kc_L_17 ?_
  refine j_icmp_ne (tgt := 465) C dL_law_401 rfl rfl ⟨by omega, by omega⟩ ⟨by omega, by omega⟩ (fun cc85 => absurd cc85 (by decide)) (fun _ => ?_)
  refine j_aload_n 3 C dL_law_404 rfl rfl rfl ?_
  refine j_aload_n 1 C dL_law_405 rfl rfl rfl ?_
  refine j_iconst C dL_law_406 rfl ?_
  refine j_iald C dL_law_407 rfl hA3 ⟨by omega, by omega⟩ (by omega) hNt.1 ?_
  refine j_iconst C dL_law_408 rfl ?_
  refine j_callSH (st' := []) (As := [.ref (ad 0), vi ((bs.length : Int)), vi (0)]) C dL_law_409 rfl m_L_202 rfl rfl (W_layerMoistureB0 (kL κ) hfl (kD κ) (kc κ) τ82 tg ad bs ru se pf hd ca evs ln hX3 (bs.length : Int) ⟨by omega, by omega⟩ (Or.inr (Int.le_refl _)) 0) rfl (by omega) (by omega) (by omega) (fun _ _ hx => hx.elim) (fun v87 τ86 hp88 => ?_)
  obtain ⟨rfl, hs9⟩ := hp88
  replace hs9 := hs9.symm
  subst hs9
  show J κ τ82 [(0, .ref (kc κ 9)), (1, .ref a), (2, .ref m), (3, .ref (ad 0)), (4, vi (1))] 412 [vi ((-900001))] _ _
  refine j_ldc (z := (-900001)) C dL_law_412 rfl kc_L_17 ?_
  refine j_icmp_ne (tgt := 465) C dL_law_414 rfl rfl ⟨by omega, by omega⟩ ⟨by omega, by omega⟩ (fun cc89 => absurd cc89 (by decide)) (fun _ => ?_)
  refine j_aload_n 3 C dL_law_417 rfl rfl rfl ?_
  refine j_iconst C dL_law_418 rfl ?_
  refine j_iconst C dL_law_419 rfl ?_
  refine j_eq_st (st' := [vi (-1), vi (((0 : Nat) : Int)), .ref (ad 0)]) rfl ?_
  refine j_callSH (st' := []) (As := [.ref (ad 0), vi (((0 : Nat) : Int)), vi (-1)]) C dL_law_420 rfl m_L_204 rfl rfl (W_layerForeignB (kL κ) hfl (kD κ) (kc κ) τ82 tg ad bs ru se pf hd ca evs ln hX3 0 h0 (-1) ⟨by omega, by omega⟩ (Or.inl (by decide))) rfl (by omega) (by omega) (by omega) (fun _ _ hx => hx.elim) (fun v91 τ90 hp92 => ?_)
  obtain ⟨rfl, hs9⟩ := hp92
  replace hs9 := hs9.symm
  subst hs9
  show J κ τ82 [(0, .ref (kc κ 9)), (1, .ref a), (2, .ref m), (3, .ref (ad 0)), (4, vi (1))] 423 [vi ((-900001))] _ _
  refine j_ldc (z := (-900001)) C dL_law_423 rfl kc_L_17 ?_
  refine j_icmp_ne (tgt := 465) C dL_law_425 rfl rfl ⟨by omega, by omega⟩ ⟨by omega, by omega⟩ (fun cc93 => absurd cc93 (by decide)) (fun _ => ?_)
  refine j_aload_n 3 C dL_law_428 rfl rfl rfl ?_
  refine j_iconst C dL_law_429 rfl ?_
  refine j_iconst C dL_law_430 rfl ?_
  refine j_eq_st (st' := [vi (-1), vi (((0 : Nat) : Int)), .ref (ad 0)]) rfl ?_
  refine j_callSH (st' := []) (As := [.ref (ad 0), vi (((0 : Nat) : Int)), vi (-1)]) C dL_law_431 rfl m_L_206 rfl rfl (W_layerGradeB (kL κ) hfl (kD κ) (kc κ) τ82 tg ad bs ru se pf hd ca evs ln hX3 0 h0 (-1) ⟨by omega, by omega⟩ (Or.inl (by decide))) rfl (by omega) (by omega) (by omega) (fun _ _ hx => hx.elim) (fun v95 τ94 hp96 => ?_)
  obtain ⟨rfl, hs9⟩ := hp96
  replace hs9 := hs9.symm
  subst hs9
  show J κ τ82 [(0, .ref (kc κ 9)), (1, .ref a), (2, .ref m), (3, .ref (ad 0)), (4, vi (1))] 434 [vi ((-900001))] _ _
  refine j_ldc (z := (-900001)) C dL_law_434 rfl kc_L_17 ?_
  refine j_icmp_ne (tgt := 465) C dL_law_436 rfl rfl ⟨by omega, by omega⟩ ⟨by omega, by omega⟩ (fun cc97 => absurd cc97 (by decide)) (fun _ => ?_)
  refine j_aload_n 3 C dL_law_439 rfl rfl rfl ?_
  refine j_aload_n 1 C dL_law_440 rfl rfl rfl ?_
  refine j_iconst C dL_law_441 rfl ?_
  refine j_iald C dL_law_442 rfl hA3 ⟨by omega, by omega⟩ (by omega) hNt.1 ?_
  refine j_callSH (st' := []) (As := [.ref (ad 0), vi ((bs.length : Int))]) C dL_law_443 rfl m_L_236 rfl rfl (W_writeBinB (kL κ) hfl (kD κ) (kc κ) τ82 tg ad bs ru se pf hd ca evs ln hX3 (bs.length : Int) ⟨by omega, by omega⟩ (Or.inr (Int.le_refl _))) rfl (by omega) (by omega) (by omega) (fun _ _ hx => hx.elim) (fun v99 τ98 hp100 => ?_)
  obtain ⟨rfl, hs9⟩ := hp100
  replace hs9 := hs9.symm
  subst hs9
  show J κ τ82 [(0, .ref (kc κ 9)), (1, .ref a), (2, .ref m), (3, .ref (ad 0)), (4, vi (1))] 446 [vi ((-900001))] _ _
  refine j_ldc (z := (-900001)) C dL_law_446 rfl kc_L_17 ?_
  refine j_icmp_ne (tgt := 465) C dL_law_448 rfl rfl ⟨by omega, by omega⟩ ⟨by omega, by omega⟩ (fun cc101 => absurd cc101 (by decide)) (fun _ => ?_)
  refine j_aload_n 3 C dL_law_451 rfl rfl rfl ?_
  refine j_iconst C dL_law_452 rfl ?_
  refine j_callSH (st' := []) (As := [.ref (ad 0), vi (-1)]) C dL_law_453 rfl m_L_241 rfl rfl (W_lineAtB (kL κ) hfl (kD κ) (kc κ) τ82 tg ad bs ru se pf hd ca evs ln hX3 (-1) ⟨by omega, by omega⟩ (Or.inl (by decide))) rfl (by omega) (by omega) (by omega) (fun _ _ hx => hx.elim) (fun v103 τ102 hp104 => ?_)
  obtain ⟨rfl, hs9⟩ := hp104
  replace hs9 := hs9.symm
  subst hs9
  show J κ τ82 [(0, .ref (kc κ 9)), (1, .ref a), (2, .ref m), (3, .ref (ad 0)), (4, vi (1))] 456 [vi ((-900001))] _ _
  refine j_ldc (z := (-900001)) C dL_law_456 rfl kc_L_17 ?_
  refine j_icmp_ne (tgt := 465) C dL_law_458 rfl rfl ⟨by omega, by omega⟩ ⟨by omega, by omega⟩ (fun cc105 => absurd cc105 (by decide)) (fun _ => ?_)
  refine j_iconst C dL_law_461 rfl ?_
  refine j_goto (tgt := 466) C dL_law_462 rfl ?_
  exact hR _ _ _ _ (by omega) (by omega)
set_option maxHeartbeats 8000000 in
set_option maxRecDepth 20000 in
theorem law_loop {κ : Kx} {nmx : String} (C : Cx κ cL_law 8 RL nmx 12) (hfl : (kL κ).stackTraces = false) (hc : 143716 ≤ (kR κ).cells) (hs : 8662782 ≤ (kR κ).slots) (hR : ∀ (σ : Wd) (lv : List (Nat × Value)) (k n : Nat), k ≤ 143716 → n ≤ 8662782 → J κ σ lv 466 [vi 1] k n) {o a m : Nat} : ∀ (N j : Nat) (σ : Wd) (k n : Nat), LI (kc κ) σ o a m 1 → j ≤ 40 → k ≤ 3000 + 2302 * j → n ≤ 80000 + 151480 * j → 41 - j < N → J κ σ [(0, .ref (kc κ 9)), (1, .ref a), (2, .ref m), (3, .ref o), (4, vi ((j : Int)))] 32 [] k n := by
  intro N
  induction N with
  | zero => intro j σ k n hI hj hk hn hN; exact absurd hN (Nat.not_lt_zero _)
  | succ N ih =>
    intro j σ k n hI hj hk hn hN
    refine j_iload 4 C dL_law_32 rfl rfl ?_
    refine j_bipush C dL_law_34 rfl (by decide) ?_
    refine j_icmp_ge (tgt := 123) C dL_law_36 rfl rfl ⟨by omega, by omega⟩ ⟨by omega, by omega⟩ (fun cc1 => ?_) (fun cc1 => ?_)
    · exact law_tail C hfl hc hs hR (by omega) (by omega) hI
    · refine j_bipush C dL_law_39 rfl (by decide) ?_
      refine j_iconst C dL_law_41 rfl ?_
      refine j_iload 4 C dL_law_42 rfl rfl ?_
      refine j_imul C dL_law_44 rfl ?_
      refine j_iadd C dL_law_45 rfl ?_
      refine j_istore (lv' := [(0, .ref (kc κ 9)), (1, .ref a), (2, .ref m), (3, .ref o), (4, vi ((j : Int))), (5, vi (40 + (5 * (j : Int))))]) [1, 2, 3, 4, 5, 0] C dL_law_46 rfl rfl rfl ?_
      refine j_bipush C dL_law_48 rfl (by decide) ?_
      refine j_aload_n 0 C dL_law_50 rfl rfl rfl ?_
      refine j_iload 5 C dL_law_51 rfl rfl ?_
      refine j_iconst C dL_law_53 rfl ?_
      refine j_iadd C dL_law_54 rfl ?_
      refine j_sipush C dL_law_55 rfl (by decide) ?_
      refine j_callS (st' := [vi (80)]) (As := [.ref (kc κ 9), vi ((40 + (5 * (j : Int))) + 3), vi (221)]) C dL_law_58 rfl m_L_132 rfl rfl (c_in (kL κ) hfl (kD κ) (kc κ) σ ((40 + (5 * (j : Int))) + 3) 221 ⟨by omega, by omega⟩ ⟨by omega, by omega⟩) rfl (by omega) (by omega) (by omega) (fun _ _ hx => hx.elim) (fun v4 τ3 hp5 => ?_)
      obtain ⟨z2, rfl, hz2, hs9⟩ := hp5
      replace hs9 := hs9.symm
      subst hs9
      show J κ σ [(0, .ref (kc κ 9)), (1, .ref a), (2, .ref m), (3, .ref o), (4, vi ((j : Int))), (5, vi (40 + (5 * (j : Int))))] 61 [vi (z2), vi (80)] _ _
      refine j_iadd C dL_law_61 rfl ?_
      refine j_istore (lv' := [(0, .ref (kc κ 9)), (1, .ref a), (2, .ref m), (3, .ref o), (4, vi ((j : Int))), (5, vi (40 + (5 * (j : Int)))), (6, vi (80 + z2))]) [1, 2, 3, 4, 5, 6, 0] C dL_law_62 rfl rfl rfl ?_
      refine j_aload_n 0 C dL_law_64 rfl rfl rfl ?_
      refine j_iload 5 C dL_law_65 rfl rfl ?_
      refine j_iconst C dL_law_67 rfl ?_
      refine j_iadd C dL_law_68 rfl ?_
      refine j_bipush C dL_law_69 rfl (by decide) ?_
      refine j_callS (st' := []) (As := [.ref (kc κ 9), vi ((40 + (5 * (j : Int))) + 4), vi (101)]) C dL_law_71 rfl m_L_132 rfl rfl (c_in (kL κ) hfl (kD κ) (kc κ) σ ((40 + (5 * (j : Int))) + 4) 101 ⟨by omega, by omega⟩ ⟨by omega, by omega⟩) rfl (by omega) (by omega) (by omega) (fun _ _ hx => hx.elim) (fun v8 τ7 hp9 => ?_)
      obtain ⟨z6, rfl, hz6, hs9⟩ := hp9
      replace hs9 := hs9.symm
      subst hs9
      show J κ σ [(0, .ref (kc κ 9)), (1, .ref a), (2, .ref m), (3, .ref o), (4, vi ((j : Int))), (5, vi (40 + (5 * (j : Int)))), (6, vi (80 + z2))] 74 [vi (z6)] _ _
      refine j_istore (lv' := [(0, .ref (kc κ 9)), (1, .ref a), (2, .ref m), (3, .ref o), (4, vi ((j : Int))), (5, vi (40 + (5 * (j : Int)))), (6, vi (80 + z2)), (7, vi (z6))]) [1, 2, 3, 4, 5, 6, 7, 0] C dL_law_74 rfl rfl rfl ?_
      refine j_aload_n 3 C dL_law_76 rfl rfl rfl ?_
      refine j_aload_n 1 C dL_law_77 rfl rfl rfl ?_
      refine j_aload_n 2 C dL_law_78 rfl rfl rfl ?_
      refine j_aload_n 0 C dL_law_79 rfl rfl rfl ?_
      refine j_iload 5 C dL_law_80 rfl rfl ?_
      refine j_callS (st' := []) (As := [.ref o, .ref a, .ref m, .ref (kc κ 9), vi (40 + (5 * (j : Int)))]) C dL_law_82 rfl m_L_257 rfl rfl (c_isDone (kL κ) hfl (kD κ) (kc κ) σ o a m 1 hI (Nat.le_refl _) (40 + (5 * (j : Int))) ⟨by omega, by omega⟩) rfl (by omega) (by omega) (by omega) (fun _ _ hx => hx.elim) (fun v11 τ10 hp12 => ?_)
      obtain ⟨rfl, hI1⟩ := hp12
      show J κ τ10 [(0, .ref (kc κ 9)), (1, .ref a), (2, .ref m), (3, .ref o), (4, vi ((j : Int))), (5, vi (40 + (5 * (j : Int)))), (6, vi (80 + z2)), (7, vi (z6))] 85 [vi (1)] (k + 102) (n + 84180)
      refine j_if_eq (tgt := 115) C dL_law_85 rfl rfl ⟨by omega, by omega⟩ (fun cc13 => absurd cc13 (by decide)) (fun _ => ?_)
      refine j_aload_n 3 C dL_law_88 rfl rfl rfl ?_
      refine j_aload_n 1 C dL_law_89 rfl rfl rfl ?_
      refine j_callS (st' := []) (As := [.ref o, .ref a]) C dL_law_90 rfl m_L_253 rfl rfl (c_areLayers (kL κ) hfl (kD κ) (kc κ) τ10 o a m 1 hI1) rfl (by omega) (by omega) (by omega) (fun _ _ hx => hx.elim) (fun v15 τ14 hp16 => ?_)
      obtain ⟨rfl, hI2⟩ := hp16
      show J κ τ14 [(0, .ref (kc κ 9)), (1, .ref a), (2, .ref m), (3, .ref o), (4, vi ((j : Int))), (5, vi (40 + (5 * (j : Int)))), (6, vi (80 + z2)), (7, vi (z6))] 93 [vi (1)] (k + 102 + 2200) (n + 84180 + 67300)
      refine j_if_eq (tgt := 115) C dL_law_93 rfl rfl ⟨by omega, by omega⟩ (fun cc17 => absurd cc17 (by decide)) (fun _ => ?_)
      refine j_aload_n 3 C dL_law_96 rfl rfl rfl ?_
      refine j_iload 6 C dL_law_97 rfl rfl ?_
      refine j_iload 7 C dL_law_99 rfl rfl ?_
      have hI3 := hI2
      obtain ⟨tg, ad, bs, ru, se, pf, hd, ca, evs, ln, g, gm, ho, hX0, ⟨hA, hNt, hH⟩, hM, -, -⟩ := hI2
      refine j_eq_st (st' := [vi (z6), vi (80 + z2), .ref (ad 0)]) (by rw [ho]) ?_
      refine j_callSH (st' := []) (As := [.ref (ad 0), vi (80 + z2), vi (z6)]) C dL_law_101 rfl m_L_260 rfl rfl (W_gradeFor (kL κ) hfl (kD κ) (kc κ) τ14 tg ad bs ru se pf hd ca evs ln hX0 (80 + z2) z6 ⟨by omega, by omega⟩ ⟨by omega, by omega⟩ ⟨⟨by omega, by omega⟩, by omega, by omega⟩) rfl (by omega) (by omega) (by omega) (fun _ _ hx => hx.elim) (fun v19 τ18 hp20 => ?_)
      obtain ⟨rfl, hs9⟩ := hp20
      replace hs9 := hs9.symm
      subst hs9
      show J κ τ14 [(0, .ref (kc κ 9)), (1, .ref a), (2, .ref m), (3, .ref o), (4, vi ((j : Int))), (5, vi (40 + (5 * (j : Int)))), (6, vi (80 + z2)), (7, vi (z6))] 104 [vi ((gradeF ru se (80 + z2) z6))] _ _
      have hgg := gradeF_in ru se (80 + z2) z6
      refine j_aload_n 1 C dL_law_104 rfl rfl rfl ?_
      refine j_iload 6 C dL_law_105 rfl rfl ?_
      refine j_iload 7 C dL_law_107 rfl rfl ?_
      refine j_callS (st' := [vi ((gradeF ru se (80 + z2) z6))]) (As := [.ref a, vi (80 + z2), vi (z6)]) C dL_law_109 rfl m_L_139 rfl rfl (c_graded (kL κ) hfl (kD κ) (kc κ) τ14 a g hA ru se hH.1 (80 + z2) z6 ⟨by omega, by omega⟩ ⟨by omega, by omega⟩) rfl (by omega) (by omega) (by omega) (fun _ _ hx => hx.elim) (fun v22 τ21 hp23 => ?_)
      obtain ⟨rfl, hs9⟩ := hp23
      replace hs9 := hs9.symm
      subst hs9
      show J κ τ14 [(0, .ref (kc κ 9)), (1, .ref a), (2, .ref m), (3, .ref o), (4, vi ((j : Int))), (5, vi (40 + (5 * (j : Int)))), (6, vi (80 + z2)), (7, vi (z6))] 112 [vi ((gradeF ru se (80 + z2) z6)), vi ((gradeF ru se (80 + z2) z6))] _ _
      refine j_icmp_eq (tgt := 117) C dL_law_112 rfl rfl ⟨by omega, by omega⟩ ⟨by omega, by omega⟩ (fun cc24 => ?_) (fun cc24 => ?_)
      · refine j_iinc (y := (j : Int) + 1) (lv' := [(0, .ref (kc κ 9)), (1, .ref a), (2, .ref m), (3, .ref o), (4, vi ((j : Int) + 1)), (5, vi (40 + (5 * (j : Int)))), (6, vi (80 + z2)), (7, vi (z6))]) 4 [1, 2, 3, 4, 0, 5, 6, 7] C dL_law_117 rfl rfl rfl rfl rfl ?_
        refine j_goto (tgt := 32) C dL_law_120 rfl ?_
        refine j_locals (lv' := [(0, .ref (kc κ 9)), (1, .ref a), (2, .ref m), (3, .ref o), (4, vi ((j : Int) + 1))]) [0, 1, 2, 3, 4] rfl ?_
        refine j_locals (lv' := [(0, .ref (kc κ 9)), (1, .ref a), (2, .ref m), (3, .ref o), (4, vi (((j + 1 : Nat) : Int)))]) [0, 1, 2, 3, 4] rfl ?_
        exact ih (j + 1) τ14 _ _ hI3 (by omega) (by omega) (by omega) (by omega)
      · exact absurd cc24 (fun q => q rfl)
set_option maxHeartbeats 8000000 in
set_option maxRecDepth 20000 in
theorem law_start {κ : Kx} {nmx : String} (C : Cx κ cL_law 8 RL nmx 12) (hfl : (kL κ).stackTraces = false) (hc : 143716 ≤ (kR κ).cells) (hs : 8662782 ≤ (kR κ).slots) (hR : ∀ (σ : Wd) (lv : List (Nat × Value)) (k n : Nat), k ≤ 143716 → n ≤ 8662782 → J κ σ lv 466 [vi 1] k n) {σ : Wd} : J κ σ [(0, .ref (kc κ 9))] 0 [] 0 0 := by
  refine j_callS (st' := []) (As := []) C dL_law_0 rfl m_L_246 rfl rfl (c_begun (kL κ) hfl (kD κ) (kc κ) σ) rfl (by omega) (by omega) (by omega) (fun _ _ hx => hx.elim) (fun v2 τ1 hp3 => ?_)
  obtain ⟨a, g, rfl, hA, hNt, hH, han, hk1, hm1⟩ := hp3
  show J κ τ1 [(0, .ref (kc κ 9))] 3 [.ref a] (0 + 2) (0 + 2706)
  have kpn : Keep τ1 τ1 (fun _ => False) := Keep.rf
  refine j_astore_n (lv' := [(0, .ref (kc κ 9)), (1, .ref a)]) [1, 0] C dL_law_3 rfl rfl rfl rfl ?_
  refine j_iconst C dL_law_4 rfl ?_
  refine j_newL C dL_law_5 rfl aw_long ⟨by omega, by omega⟩ (by omega) (by omega) (k' := 3) (n' := 2708) (by first | rfl | omega) (by first | rfl | omega) (fun m τ4 nq6 ee5 => ?_)
  have u7 := hA.old' ee5 nq6
  have u8 : has τ4 m (lA (kc κ) 2 (fun _ => 0)) := has.fresh' ee5
  have kp9 := kpn.new ee5 nq6
  refine j_astore_n (lv' := [(0, .ref (kc κ 9)), (1, .ref a), (2, .ref m)]) [1, 2, 0] C dL_law_7 rfl rfl rfl rfl ?_
  refine j_aload_n 0 C dL_law_8 rfl rfl rfl ?_
  refine j_aload_n 1 C dL_law_9 rfl rfl rfl ?_
  refine j_aload_n 2 C dL_law_10 rfl rfl rfl ?_
  refine j_callS (st' := []) (As := [.ref (kc κ 9), .ref a, .ref m]) C dL_law_11 rfl m_L_250 rfl rfl (c_begunE (kL κ) hfl (kD κ) (kc κ) τ4 a m g (fun _ => 0) u7 u8 hNt hH) rfl (by omega) (by omega) (by omega) (fun _ _ hx => hx.elim) (fun v11 τ10 hp12 => ?_)
  obtain ⟨o, rfl, hI⟩ := hp12
  show J κ τ10 [(0, .ref (kc κ 9)), (1, .ref a), (2, .ref m)] 14 [.ref o] _ _
  refine j_astore_n (lv' := [(0, .ref (kc κ 9)), (1, .ref a), (2, .ref m), (3, .ref o)]) [1, 2, 3, 0] C dL_law_14 rfl rfl rfl rfl ?_
  refine j_aload_n 3 C dL_law_15 rfl rfl rfl ?_
  refine j_ifnull C dL_law_16 rfl ?_
  refine j_aload_n 3 C dL_law_19 rfl rfl rfl ?_
  refine j_aload_n 1 C dL_law_20 rfl rfl rfl ?_
  refine j_callS (st' := []) (As := [.ref o, .ref a]) C dL_law_21 rfl m_L_253 rfl rfl (c_areLayers (kL κ) hfl (kD κ) (kc κ) τ10 o a m 1 hI) rfl (by omega) (by omega) (by omega) (fun _ _ hx => hx.elim) (fun v14 τ13 hp15 => ?_)
  obtain ⟨rfl, hI2⟩ := hp15
  show J κ τ13 [(0, .ref (kc κ 9)), (1, .ref a), (2, .ref m), (3, .ref o)] 24 [vi (1)] _ _
  refine j_if_ne (tgt := 29) C dL_law_24 rfl rfl ⟨by omega, by omega⟩ (fun _ => ?_) (fun cc16 => absurd cc16 (by decide))
  refine j_iconst C dL_law_29 rfl ?_
  refine j_istore (lv' := [(0, .ref (kc κ 9)), (1, .ref a), (2, .ref m), (3, .ref o), (4, vi (0))]) [1, 2, 3, 4, 0] C dL_law_30 rfl rfl rfl ?_
  refine j_locals (lv' := [(0, .ref (kc κ 9)), (1, .ref a), (2, .ref m), (3, .ref o), (4, vi (((0 : Nat) : Int)))]) [0, 1, 2, 3, 4] rfl ?_
  exact law_loop C hfl hc hs hR _ 0 τ13 _ _ hI2 (Nat.zero_le _) (by omega) (by omega) (Nat.lt_succ_self _)
