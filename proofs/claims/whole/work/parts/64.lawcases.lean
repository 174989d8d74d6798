/-! law: the calls, one by one -/
theorem cr_addBin (bs : List Bn) (ru : Nat → Int × Int) (se : Int) (pf : Nat → Int) (hd : Hd) (ca : Int) (evs : List Evt) (ln : List Int) (c : Int) (m : Bool) : 0 ≤ (o_addBin bs ru se pf hd ca evs ln c m).1 ∧ (o_addBin bs ru se pf hd ca evs ln c m).1 < 10 := by
  unfold o_addBin
  (repeat' split) <;> (constructor <;> first | (dsimp only; omega) | simp)
theorem cr_capacityOf (bs : List Bn) (ru : Nat → Int × Int) (se : Int) (pf : Nat → Int) (hd : Hd) (ca : Int) (evs : List Evt) (ln : List Int) (b : Int) : 0 ≤ (o_capacityOf bs ru se pf hd ca evs ln b).1 ∧ (o_capacityOf bs ru se pf hd ca evs ln b).1 < 10 := by
  unfold o_capacityOf
  (repeat' split) <;> (constructor <;> first | (dsimp only; omega) | simp)
theorem cr_setRule (bs : List Bn) (ru : Nat → Int × Int) (se : Int) (pf : Nat → Int) (hd : Hd) (ca : Int) (evs : List Evt) (ln : List Int) (s g y z : Int) : 0 ≤ (o_setRule bs ru se pf hd ca evs ln s g y z).1 ∧ (o_setRule bs ru se pf hd ca evs ln s g y z).1 < 10 := by
  unfold o_setRule
  (repeat' split) <;> (constructor <;> first | (dsimp only; omega) | simp)
theorem cr_setSeason (bs : List Bn) (ru : Nat → Int × Int) (se : Int) (pf : Nat → Int) (hd : Hd) (ca : Int) (evs : List Evt) (ln : List Int) (z : Int) : 0 ≤ (o_setSeason bs ru se pf hd ca evs ln z).1 ∧ (o_setSeason bs ru se pf hd ca evs ln z).1 < 10 := by
  unfold o_setSeason
  (repeat' split) <;> (constructor <;> first | (dsimp only; omega) | simp)
theorem cr_gradeFor (bs : List Bn) (ru : Nat → Int × Int) (se : Int) (pf : Nat → Int) (hd : Hd) (ca : Int) (evs : List Evt) (ln : List Int) (y z : Int) : 0 ≤ (o_gradeFor bs ru se pf hd ca evs ln y z).1 ∧ (o_gradeFor bs ru se pf hd ca evs ln y z).1 < 10 := by
  unfold o_gradeFor
  (repeat' split) <;> (constructor <;> first | (dsimp only; omega) | simp)
theorem cr_setPrice (bs : List Bn) (ru : Nat → Int × Int) (se : Int) (pf : Nat → Int) (hd : Hd) (ca : Int) (evs : List Evt) (ln : List Int) (z y : Int) : 0 ≤ (o_setPrice bs ru se pf hd ca evs ln z y).1 ∧ (o_setPrice bs ru se pf hd ca evs ln z y).1 < 10 := by
  unfold o_setPrice
  (repeat' split) <;> (constructor <;> first | (dsimp only; omega) | simp)
theorem cr_priceOf (bs : List Bn) (ru : Nat → Int × Int) (se : Int) (pf : Nat → Int) (hd : Hd) (ca : Int) (evs : List Evt) (ln : List Int) (z : Int) : 0 ≤ (o_priceOf bs ru se pf hd ca evs ln z).1 ∧ (o_priceOf bs ru se pf hd ca evs ln z).1 < 10 := by
  unfold o_priceOf
  (repeat' split) <;> (constructor <;> first | (dsimp only; omega) | simp)
theorem cr_load (bs : List Bn) (ru : Nat → Int × Int) (se : Int) (pf : Nat → Int) (hd : Hd) (ca : Int) (evs : List Evt) (ln : List Int) (b n x f : Int) : 0 ≤ (o_load bs ru se pf hd ca evs ln b n x f).1 ∧ (o_load bs ru se pf hd ca evs ln b n x f).1 < 10 := by
  unfold o_load
  (repeat' split) <;> (constructor <;> first | (dsimp only; omega) | simp)
theorem cr_sell (bs : List Bn) (ru : Nat → Int × Int) (se : Int) (pf : Nat → Int) (hd : Hd) (ca : Int) (evs : List Evt) (ln : List Int) (b n : Int) : 0 ≤ (o_sell bs ru se pf hd ca evs ln b n).1 ∧ (o_sell bs ru se pf hd ca evs ln b n).1 < 10 := by
  unfold o_sell
  (repeat' split) <;> (constructor <;> first | (dsimp only; omega) | simp)
theorem cr_transfer (bs : List Bn) (ru : Nat → Int × Int) (se : Int) (pf : Nat → Int) (hd : Hd) (ca : Int) (evs : List Evt) (ln : List Int) (a b n : Int) : 0 ≤ (o_transfer bs ru se pf hd ca evs ln a b n).1 ∧ (o_transfer bs ru se pf hd ca evs ln a b n).1 < 10 := by
  unfold o_transfer
  (repeat' split) <;> (constructor <;> first | (dsimp only; omega) | simp)
theorem cr_dry (bs : List Bn) (ru : Nat → Int × Int) (se : Int) (pf : Nat → Int) (hd : Hd) (ca : Int) (evs : List Evt) (ln : List Int) (b x : Int) : 0 ≤ (o_dry bs ru se pf hd ca evs ln b x).1 ∧ (o_dry bs ru se pf hd ca evs ln b x).1 < 10 := by
  unfold o_dry
  (repeat' split) <;> (constructor <;> first | (dsimp only; omega) | simp)
theorem cr_dryingCost (bs : List Bn) (ru : Nat → Int × Int) (se : Int) (pf : Nat → Int) (hd : Hd) (ca : Int) (evs : List Evt) (ln : List Int) (b x : Int) : 0 ≤ (o_dryingCost bs ru se pf hd ca evs ln b x).1 ∧ (o_dryingCost bs ru se pf hd ca evs ln b x).1 < 10 := by
  unfold o_dryingCost
  (repeat' split) <;> (constructor <;> first | (dsimp only; omega) | simp)
theorem cr_bushelsIn (bs : List Bn) (ru : Nat → Int × Int) (se : Int) (pf : Nat → Int) (hd : Hd) (ca : Int) (evs : List Evt) (ln : List Int) (b : Int) : 0 ≤ (o_bushelsIn bs ru se pf hd ca evs ln b).1 ∧ (o_bushelsIn bs ru se pf hd ca evs ln b).1 < 10 := by
  unfold o_bushelsIn
  (repeat' split) <;> (constructor <;> first | (dsimp only; omega) | simp)
theorem cr_layersIn (bs : List Bn) (ru : Nat → Int × Int) (se : Int) (pf : Nat → Int) (hd : Hd) (ca : Int) (evs : List Evt) (ln : List Int) (b : Int) : 0 ≤ (o_layersIn bs ru se pf hd ca evs ln b).1 ∧ (o_layersIn bs ru se pf hd ca evs ln b).1 < 10 := by
  unfold o_layersIn
  (repeat' split) <;> (constructor <;> first | (dsimp only; omega) | simp)
theorem cr_layerBushels (bs : List Bn) (ru : Nat → Int × Int) (se : Int) (pf : Nat → Int) (hd : Hd) (ca : Int) (evs : List Evt) (ln : List Int) (b q : Int) : 0 ≤ (o_layerBushels bs ru se pf hd ca evs ln b q).1 ∧ (o_layerBushels bs ru se pf hd ca evs ln b q).1 < 10 := by
  unfold o_layerBushels
  (repeat' split) <;> (constructor <;> first | (dsimp only; omega) | simp)
theorem cr_layerMoisture (bs : List Bn) (ru : Nat → Int × Int) (se : Int) (pf : Nat → Int) (hd : Hd) (ca : Int) (evs : List Evt) (ln : List Int) (b q : Int) : 0 ≤ (o_layerMoisture bs ru se pf hd ca evs ln b q).1 ∧ (o_layerMoisture bs ru se pf hd ca evs ln b q).1 < 10 := by
  unfold o_layerMoisture
  (repeat' split) <;> (constructor <;> first | (dsimp only; omega) | simp)
theorem cr_layerForeign (bs : List Bn) (ru : Nat → Int × Int) (se : Int) (pf : Nat → Int) (hd : Hd) (ca : Int) (evs : List Evt) (ln : List Int) (b q : Int) : 0 ≤ (o_layerForeign bs ru se pf hd ca evs ln b q).1 ∧ (o_layerForeign bs ru se pf hd ca evs ln b q).1 < 10 := by
  unfold o_layerForeign
  (repeat' split) <;> (constructor <;> first | (dsimp only; omega) | simp)
theorem cr_layerGrade (bs : List Bn) (ru : Nat → Int × Int) (se : Int) (pf : Nat → Int) (hd : Hd) (ca : Int) (evs : List Evt) (ln : List Int) (b q : Int) : 0 ≤ (o_layerGrade bs ru se pf hd ca evs ln b q).1 ∧ (o_layerGrade bs ru se pf hd ca evs ln b q).1 < 10 := by
  unfold o_layerGrade
  (repeat' split) <;> (constructor <;> first | (dsimp only; omega) | simp)
theorem cr_blendCost (bs : List Bn) (ru : Nat → Int × Int) (se : Int) (pf : Nat → Int) (hd : Hd) (ca : Int) (evs : List Evt) (ln : List Int) (a b n x : Int) : 0 ≤ (o_blendCost bs ru se pf hd ca evs ln a b n x).1 ∧ (o_blendCost bs ru se pf hd ca evs ln a b n x).1 < 10 := by
  unfold o_blendCost
  (repeat' split) <;> (constructor <;> first | (dsimp only; omega) | simp)
theorem cr_blendShare (bs : List Bn) (ru : Nat → Int × Int) (se : Int) (pf : Nat → Int) (hd : Hd) (ca : Int) (evs : List Evt) (ln : List Int) (a b n x : Int) : 0 ≤ (o_blendShare bs ru se pf hd ca evs ln a b n x).1 ∧ (o_blendShare bs ru se pf hd ca evs ln a b n x).1 < 10 := by
  unfold o_blendShare
  (repeat' split) <;> (constructor <;> first | (dsimp only; omega) | simp)
theorem cr_sellBlend (bs : List Bn) (ru : Nat → Int × Int) (se : Int) (pf : Nat → Int) (hd : Hd) (ca : Int) (evs : List Evt) (ln : List Int) (a b n x : Int) : 0 ≤ (o_sellBlend bs ru se pf hd ca evs ln a b n x).1 ∧ (o_sellBlend bs ru se pf hd ca evs ln a b n x).1 < 10 := by
  unfold o_sellBlend
  (repeat' split) <;> (constructor <;> first | (dsimp only; omega) | simp)
theorem cr_setFutures (bs : List Bn) (ru : Nat → Int × Int) (se : Int) (pf : Nat → Int) (hd : Hd) (ca : Int) (evs : List Evt) (ln : List Int) (z : Int) : 0 ≤ (o_setFutures bs ru se pf hd ca evs ln z).1 ∧ (o_setFutures bs ru se pf hd ca evs ln z).1 < 10 := by
  unfold o_setFutures
  (repeat' split) <;> (constructor <;> first | (dsimp only; omega) | simp)
theorem cr_tradeAt (bs : List Bn) (ru : Nat → Int × Int) (se : Int) (pf : Nat → Int) (hd : Hd) (ca : Int) (evs : List Evt) (ln : List Int) (z : Int) : 0 ≤ (o_tradeAt bs ru se pf hd ca evs ln z).1 ∧ (o_tradeAt bs ru se pf hd ca evs ln z).1 < 10 := by
  unfold o_tradeAt
  (repeat' split) <;> (constructor <;> first | (dsimp only; omega) | simp)
theorem cr_eventKind (bs : List Bn) (ru : Nat → Int × Int) (se : Int) (pf : Nat → Int) (hd : Hd) (ca : Int) (evs : List Evt) (ln : List Int) (z : Int) : 0 ≤ (o_eventKind bs ru se pf hd ca evs ln z).1 ∧ (o_eventKind bs ru se pf hd ca evs ln z).1 < 10 := by
  unfold o_eventKind
  (repeat' split) <;> (constructor <;> first | (dsimp only; omega) | simp)
theorem cr_lineAt (bs : List Bn) (ru : Nat → Int × Int) (se : Int) (pf : Nat → Int) (hd : Hd) (ca : Int) (evs : List Evt) (ln : List Int) (z : Int) : 0 ≤ (o_lineAt bs ru se pf hd ca evs ln z).1 ∧ (o_lineAt bs ru se pf hd ca evs ln z).1 < 10 := by
  unfold o_lineAt
  (repeat' split) <;> (constructor <;> first | (dsimp only; omega) | simp)
theorem cr_writeBin (bs : List Bn) (ru : Nat → Int × Int) (se : Int) (pf : Nat → Int) (hd : Hd) (ca : Int) (evs : List Evt) (ln : List Int) (b : Int) : 0 ≤ (o_writeBin bs ru se pf hd ca evs ln b).1 ∧ (o_writeBin bs ru se pf hd ca evs ln b).1 < 10 := by
  unfold o_writeBin
  (repeat' split) <;> (constructor <;> first | (dsimp only; omega) | simp)
theorem cr_mean (bs : List Bn) (b : Int) : 0 ≤ cdMean bs b ∧ cdMean bs b < 10 := by
  unfold cdMean
  (repeat' split) <;> (constructor <;> omega)
theorem cr_wet (bs : List Bn) (b : Int) : 0 ≤ cdWet bs b ∧ cdWet bs b < 10 := by
  unfold cdWet
  (repeat' split) <;> (constructor <;> omega)
theorem vMean_n {bs : List Bn} {b : Int} (h : cdMean bs b = 0) {ru : Nat → Int × Int} {se : Int} {pf : Nat → Int} {hd : Hd} {evs : List Evt} {ln : List Int} (hO : Ok bs ru se pf hd evs ln) : vf_n64 (vMean bs b) := by
  unfold cdMean at h
  split at h
  · exact absurd h (by decide)
  · rename_i h1
    split at h
    · exact absurd h (by decide)
    · rename_i h2
      obtain ⟨⟨cap, mf, ly⟩, hg7⟩ : ∃ z, gB bs b = z := ⟨_, rfl⟩
      have hbk7 := hO.2.1 _ (gB_mem (bs := bs) (i := b) (by omega) (by omega))
      unfold vMean
      rw [hg7] at hbk7 h2 ⊢
      obtain ⟨hcp7, hly7, htc7⟩ := hbk7
      dsimp only at hcp7 hly7 htc7 h2 ⊢
      have ht07 := tot_0 hly7
      exact fp_d _ ⟨by omega, by omega⟩
theorem vWet_n {bs : List Bn} {b : Int} (h : cdWet bs b = 0) {ru : Nat → Int × Int} {se : Int} {pf : Nat → Int} {hd : Hd} {evs : List Evt} {ln : List Int} (hO : Ok bs ru se pf hd evs ln) : vf_n32 (vWet bs b) := by
  have hTb := totB_in hO.2.1
  have h6 := hO.1
  unfold cdWet at h
  split at h
  · exact absurd h (by decide)
  · split at h
    · exact absurd h (by decide)
    · unfold vWet
      exact fp_f _ ⟨by omega, by omega⟩
set_option maxHeartbeats 8000000 in
set_option maxRecDepth 20000 in
theorem lc_0 {κ : Kx} {nmx : String} {b L j k n : Nat} {xs : Nat → Int} {σ : Wd} {tg ad am : Nat → Nat} {S : St} {o d : Nat} (C : Cx κ cL_law 9 RL nmx 9) (HN : Ncs (kS κ)) (hfl : (kL κ).stackTraces = false) (hxs : ∀ i : Nat, -2147483648 ≤ xs i ∧ xs i < 2147483648) (hX : va_X b L (fun j => Int32.ofInt (xs j)) (kS κ) (kS κ).heap) (hbl : b < (kS κ).heap.size) (hbA : ¬ kA κ b) (hL : L < 2147483648) (hI : LI (kc κ) σ tg ad am S o d) (hj : 5 * j + 5 ≤ L) (hk : k + 300 ≤ (kR κ).cells) (hn : n + 8000 ≤ (kR κ).slots) (hB : LB κ b o d (ad 0) am j k n) : J κ σ [(0, .ref b), (1, .ref (ad 0)), (2, .ref (am 0)), (3, .ref o), (4, .ref d), (5, vi (5 * (j : Int)))] 216 [] k n := by
  obtain ⟨a1, ha1⟩ : ∃ a, xs (5 * j + 1) = a := ⟨_, rfl⟩
  have r1 : -2147483648 ≤ a1 ∧ a1 < 2147483648 := by rw [← ha1]; exact hxs _
  obtain ⟨a2, ha2⟩ : ∃ a, xs (5 * j + 2) = a := ⟨_, rfl⟩
  have r2 : -2147483648 ≤ a2 ∧ a2 < 2147483648 := by rw [← ha2]; exact hxs _
  obtain ⟨a3, ha3⟩ : ∃ a, xs (5 * j + 3) = a := ⟨_, rfl⟩
  have r3 : -2147483648 ≤ a3 ∧ a3 < 2147483648 := by rw [← ha3]; exact hxs _
  obtain ⟨a4, ha4⟩ : ∃ a, xs (5 * j + 4) = a := ⟨_, rfl⟩
  have r4 : -2147483648 ≤ a4 ∧ a4 < 2147483648 := by rw [← ha4]; exact hxs _
  obtain ⟨bs, ru, se, pf, hd, ca, evs, ln⟩ := S
  have hX0 : RX (kc κ) σ tg ad bs ru se pf hd ca evs ln := hI.1
  have hO := hX0.ok
  obtain ⟨-, -, ⟨g0, hout⟩, ⟨f0, hdub⟩, ⟨to9, td9⟩, -⟩ := id hI
  refine j_aload_n 1 C dL_law_216 rfl rfl rfl ?_
  refine j_aload_n 0 C dL_law_217 rfl rfl rfl ?_
  refine j_iload 5 C dL_law_218 rfl rfl ?_
  refine j_iconst C dL_law_220 rfl ?_
  refine j_iadd C dL_law_221 rfl ?_
  refine j_sld C hX hbl hbA dL_law_222 rfl ⟨by omega, by omega⟩ (by omega) (y := a1) (by rw [show (5 * (j : Int) + 1).toNat = 5 * j + 1 by omega]; exact ha1) ?_
  refine j_aload_n 0 C dL_law_223 rfl rfl rfl ?_
  refine j_iload 5 C dL_law_224 rfl rfl ?_
  refine j_iconst C dL_law_226 rfl ?_
  refine j_iadd C dL_law_227 rfl ?_
  refine j_sld C hX hbl hbA dL_law_228 rfl ⟨by omega, by omega⟩ (by omega) (y := a2) (by rw [show (5 * (j : Int) + 2).toNat = 5 * j + 2 by omega]; exact ha2) ?_
  refine j_if_eq (tgt := 236) C dL_law_229 rfl rfl r2 (fun cc1 => ?_) (fun cc1 => ?_)
  · refine j_iconst C dL_law_236 rfl ?_
    refine j_aload_n 3 C dL_law_237 rfl rfl rfl ?_
    refine j_callSN (st' := []) (As := [.ref (ad 0), vi (a1), vi (b01 false), .ref o]) C HN dL_law_238 rfl m_L_121 rfl rfl (W_addBin (kL κ) hfl (kD κ) (kc κ) σ tg ad bs ru se pf hd ca evs ln hX0 o g0 hout (by omega) a1 r1 false) rfl (by omega) (by omega) (by omega) (fun _ _ hx => hx.elim) (fun v1 σ1 hp => ?_)
    obtain ⟨rfl, ⟨tg1, ad1, hR1, hT1, ha01⟩, ⟨g1, ho1, hg1⟩, hK1, hm1⟩ := hp
    have hcr := cr_addBin bs ru se pf hd ca evs ln a1 false
    obtain ⟨O, hO9⟩ : ∃ O : Rs, o_addBin bs ru se pf hd ca evs ln a1 false = O := ⟨_, rfl⟩
    show J κ σ1 [(0, .ref b), (1, .ref (ad 0)), (2, .ref (am 0)), (3, .ref o), (4, .ref d), (5, vi ((5 * (j : Int))))] 241 [vi (o_addBin bs ru se pf hd ca evs ln a1 false).1] _ _
    rw [hO9] at hR1 hg1 hcr ⊢
    obtain ⟨bl1, th1, hM1⟩ := hI.mod (Or.inl rfl) hK1
    have hf1 := hI.dbl hdub hK1
    show J κ σ1 [(0, .ref b), (1, .ref (ad 0)), (2, .ref (am 0)), (3, .ref o), (4, .ref d), (5, vi ((5 * (j : Int))))] 241 [vi (O.1)] _ _
    refine j_istore (lv' := [(0, .ref b), (1, .ref (ad 0)), (2, .ref (am 0)), (3, .ref o), (4, .ref d), (5, vi ((5 * (j : Int)))), (6, vi (O.1))]) [1, 2, 3, 4, 5, 6, 0] C dL_law_241 rfl rfl rfl ?_
    refine j_aload_n 2 C dL_law_243 rfl rfl rfl ?_
    refine j_aload_n 0 C dL_law_244 rfl rfl rfl ?_
    refine j_iload 5 C dL_law_245 rfl rfl ?_
    refine j_iconst C dL_law_247 rfl ?_
    refine j_iadd C dL_law_248 rfl ?_
    refine j_sld C hX hbl hbA dL_law_249 rfl ⟨by omega, by omega⟩ (by omega) (y := a1) (by rw [show (5 * (j : Int) + 1).toNat = 5 * j + 1 by omega]; exact ha1) ?_
    refine j_aload_n 0 C dL_law_250 rfl rfl rfl ?_
    refine j_iload 5 C dL_law_251 rfl rfl ?_
    refine j_iconst C dL_law_253 rfl ?_
    refine j_iadd C dL_law_254 rfl ?_
    refine j_sld C hX hbl hbA dL_law_255 rfl ⟨by omega, by omega⟩ (by omega) (y := a2) (by rw [show (5 * (j : Int) + 2).toNat = 5 * j + 2 by omega]; exact ha2) ?_
    refine j_if_eq (tgt := 263) C dL_law_256 rfl rfl r2 (fun _ => ?_) (fun cc => absurd cc1 cc)
    refine j_iconst C dL_law_263 rfl ?_
    obtain ⟨-, _, _, _, _, _, _, _, _, _, _, _, _, _, _, _, hrc, -⟩ := id hM1
    refine j_callV (st' := []) (As := [vi (a1), vi (b01 false)]) C dL_law_264 rfl m_L_126 hrc rfl rfl rfl (m_addBin (kL κ) hfl (kD κ) (kc κ) σ1 am bs ru se pf hd ca evs ln bl1 th1 hM1 a1 r1 false) rfl (by omega) (by omega) (by omega) (fun _ _ hx => hx.elim) (fun v2 σ2 hp2 => ?_)
    obtain ⟨rz, rfl, hrz, ⟨bl2, hM2⟩, hK2, hd2⟩ := hp2
    rw [hO9] at hrz hM2
    obtain ⟨hI2, ho2, hf2⟩ := hI.mk2 hR1 hT1 ho1 hf1 hm1 hM2 hK2 hd2
    show J κ σ2 [(0, .ref b), (1, .ref (ad 0)), (2, .ref (am 0)), (3, .ref o), (4, .ref d), (5, vi ((5 * (j : Int)))), (6, vi (O.1))] 267 [vi (rz)] _ _
    refine j_istore (lv' := [(0, .ref b), (1, .ref (ad 0)), (2, .ref (am 0)), (3, .ref o), (4, .ref d), (5, vi ((5 * (j : Int)))), (6, vi (O.1)), (7, vi (rz))]) [1, 2, 3, 4, 5, 6, 7, 0] C dL_law_267 rfl rfl rfl ?_
    refine j_aload_n 2 C dL_law_269 rfl rfl rfl ?_
    obtain ⟨-, _, _, _, _, _, _, _, _, _, _, _, _, _, _, _, hrc, -⟩ := id hM2
    refine j_callV (st' := []) (As := []) C dL_law_270 rfl m_L_127 hrc rfl rfl rfl (m_thrown (kL κ) hfl (kD κ) (kc κ) σ2 am _ _ _ _ _ _ _ _ bl2 O.1 hM2) rfl (by omega) (by omega) (by omega) (fun _ _ hx => hx.elim) (fun v3 σ3 hp3 => ?_)
    obtain ⟨rfl, hs9⟩ := hp3
    replace hs9 := hs9.symm
    subst hs9
    show J κ σ2 [(0, .ref b), (1, .ref (ad 0)), (2, .ref (am 0)), (3, .ref o), (4, .ref d), (5, vi ((5 * (j : Int)))), (6, vi (O.1)), (7, vi (rz))] 273 [vi (O.1)] _ _
    refine j_iload 6 C dL_law_273 rfl rfl ?_
    refine j_icmp_same (tgt := 280) C dL_law_275 rfl ?_
    refine j_iload 6 C dL_law_280 rfl rfl ?_
    refine j_if_ne (tgt := 297) C dL_law_282 rfl rfl ⟨by omega, by omega⟩ (fun cc2 => ?_) (fun cc2 => ?_)
    · refine j_goto (tgt := 2447) C dL_law_297 rfl ?_
      refine j_locals (lv' := [(0, .ref b), (1, .ref (ad 0)), (2, .ref (am 0)), (3, .ref o), (4, .ref d), (5, vi ((5 * (j : Int))))]) [0, 1, 2, 3, 4, 5] rfl ?_
      exact hB _ _ _ _ _ _ hI2 ha01 (by omega) (by omega)
    · have e8 : vi rz = vi (w32 O.2.1) := by rw [hrz cc2]; exact vi_w _
      rw [e8]
      refine j_aload_n 3 C dL_law_285 rfl rfl rfl ?_
      refine j_iconst C dL_law_286 rfl ?_
      refine j_lald C dL_law_287 rfl ho2 ⟨by decide, by decide⟩ (by decide) (y := w32 O.2.1) (hg1 cc2) ?_
      refine j_iload 7 C dL_law_288 rfl rfl ?_
      refine j_i2l C dL_law_290 rfl (w32_in _) ?_
      refine j_lcmp_same C dL_law_291 rfl ?_
      refine j_if_eq (tgt := 297) C dL_law_292 rfl rfl ⟨by decide, by decide⟩ (fun _ => ?_) (fun cc => absurd cc (by decide))
      refine j_goto (tgt := 2447) C dL_law_297 rfl ?_
      refine j_locals (lv' := [(0, .ref b), (1, .ref (ad 0)), (2, .ref (am 0)), (3, .ref o), (4, .ref d), (5, vi ((5 * (j : Int))))]) [0, 1, 2, 3, 4, 5] rfl ?_
      exact hB _ _ _ _ _ _ hI2 ha01 (by omega) (by omega)
  · refine j_iconst C dL_law_232 rfl ?_
    refine j_goto (tgt := 237) C dL_law_233 rfl ?_
    refine j_aload_n 3 C dL_law_237 rfl rfl rfl ?_
    refine j_callSN (st' := []) (As := [.ref (ad 0), vi (a1), vi (b01 true), .ref o]) C HN dL_law_238 rfl m_L_121 rfl rfl (W_addBin (kL κ) hfl (kD κ) (kc κ) σ tg ad bs ru se pf hd ca evs ln hX0 o g0 hout (by omega) a1 r1 true) rfl (by omega) (by omega) (by omega) (fun _ _ hx => hx.elim) (fun v1 σ1 hp => ?_)
    obtain ⟨rfl, ⟨tg1, ad1, hR1, hT1, ha01⟩, ⟨g1, ho1, hg1⟩, hK1, hm1⟩ := hp
    have hcr := cr_addBin bs ru se pf hd ca evs ln a1 true
    obtain ⟨O, hO9⟩ : ∃ O : Rs, o_addBin bs ru se pf hd ca evs ln a1 true = O := ⟨_, rfl⟩
    show J κ σ1 [(0, .ref b), (1, .ref (ad 0)), (2, .ref (am 0)), (3, .ref o), (4, .ref d), (5, vi ((5 * (j : Int))))] 241 [vi (o_addBin bs ru se pf hd ca evs ln a1 true).1] _ _
    rw [hO9] at hR1 hg1 hcr ⊢
    obtain ⟨bl1, th1, hM1⟩ := hI.mod (Or.inl rfl) hK1
    have hf1 := hI.dbl hdub hK1
    show J κ σ1 [(0, .ref b), (1, .ref (ad 0)), (2, .ref (am 0)), (3, .ref o), (4, .ref d), (5, vi ((5 * (j : Int))))] 241 [vi (O.1)] _ _
    refine j_istore (lv' := [(0, .ref b), (1, .ref (ad 0)), (2, .ref (am 0)), (3, .ref o), (4, .ref d), (5, vi ((5 * (j : Int)))), (6, vi (O.1))]) [1, 2, 3, 4, 5, 6, 0] C dL_law_241 rfl rfl rfl ?_
    refine j_aload_n 2 C dL_law_243 rfl rfl rfl ?_
    refine j_aload_n 0 C dL_law_244 rfl rfl rfl ?_
    refine j_iload 5 C dL_law_245 rfl rfl ?_
    refine j_iconst C dL_law_247 rfl ?_
    refine j_iadd C dL_law_248 rfl ?_
    refine j_sld C hX hbl hbA dL_law_249 rfl ⟨by omega, by omega⟩ (by omega) (y := a1) (by rw [show (5 * (j : Int) + 1).toNat = 5 * j + 1 by omega]; exact ha1) ?_
    refine j_aload_n 0 C dL_law_250 rfl rfl rfl ?_
    refine j_iload 5 C dL_law_251 rfl rfl ?_
    refine j_iconst C dL_law_253 rfl ?_
    refine j_iadd C dL_law_254 rfl ?_
    refine j_sld C hX hbl hbA dL_law_255 rfl ⟨by omega, by omega⟩ (by omega) (y := a2) (by rw [show (5 * (j : Int) + 2).toNat = 5 * j + 2 by omega]; exact ha2) ?_
    refine j_if_eq (tgt := 263) C dL_law_256 rfl rfl r2 (fun cc => absurd cc cc1) (fun _ => ?_)
    refine j_iconst C dL_law_259 rfl ?_
    refine j_goto (tgt := 264) C dL_law_260 rfl ?_
    obtain ⟨-, _, _, _, _, _, _, _, _, _, _, _, _, _, _, _, hrc, -⟩ := id hM1
    refine j_callV (st' := []) (As := [vi (a1), vi (b01 true)]) C dL_law_264 rfl m_L_126 hrc rfl rfl rfl (m_addBin (kL κ) hfl (kD κ) (kc κ) σ1 am bs ru se pf hd ca evs ln bl1 th1 hM1 a1 r1 true) rfl (by omega) (by omega) (by omega) (fun _ _ hx => hx.elim) (fun v2 σ2 hp2 => ?_)
    obtain ⟨rz, rfl, hrz, ⟨bl2, hM2⟩, hK2, hd2⟩ := hp2
    rw [hO9] at hrz hM2
    obtain ⟨hI2, ho2, hf2⟩ := hI.mk2 hR1 hT1 ho1 hf1 hm1 hM2 hK2 hd2
    show J κ σ2 [(0, .ref b), (1, .ref (ad 0)), (2, .ref (am 0)), (3, .ref o), (4, .ref d), (5, vi ((5 * (j : Int)))), (6, vi (O.1))] 267 [vi (rz)] _ _
    refine j_istore (lv' := [(0, .ref b), (1, .ref (ad 0)), (2, .ref (am 0)), (3, .ref o), (4, .ref d), (5, vi ((5 * (j : Int)))), (6, vi (O.1)), (7, vi (rz))]) [1, 2, 3, 4, 5, 6, 7, 0] C dL_law_267 rfl rfl rfl ?_
    refine j_aload_n 2 C dL_law_269 rfl rfl rfl ?_
    obtain ⟨-, _, _, _, _, _, _, _, _, _, _, _, _, _, _, _, hrc, -⟩ := id hM2
    refine j_callV (st' := []) (As := []) C dL_law_270 rfl m_L_127 hrc rfl rfl rfl (m_thrown (kL κ) hfl (kD κ) (kc κ) σ2 am _ _ _ _ _ _ _ _ bl2 O.1 hM2) rfl (by omega) (by omega) (by omega) (fun _ _ hx => hx.elim) (fun v3 σ3 hp3 => ?_)
    obtain ⟨rfl, hs9⟩ := hp3
    replace hs9 := hs9.symm
    subst hs9
    show J κ σ2 [(0, .ref b), (1, .ref (ad 0)), (2, .ref (am 0)), (3, .ref o), (4, .ref d), (5, vi ((5 * (j : Int)))), (6, vi (O.1)), (7, vi (rz))] 273 [vi (O.1)] _ _
    refine j_iload 6 C dL_law_273 rfl rfl ?_
    refine j_icmp_same (tgt := 280) C dL_law_275 rfl ?_
    refine j_iload 6 C dL_law_280 rfl rfl ?_
    refine j_if_ne (tgt := 297) C dL_law_282 rfl rfl ⟨by omega, by omega⟩ (fun cc3 => ?_) (fun cc3 => ?_)
    · refine j_goto (tgt := 2447) C dL_law_297 rfl ?_
      refine j_locals (lv' := [(0, .ref b), (1, .ref (ad 0)), (2, .ref (am 0)), (3, .ref o), (4, .ref d), (5, vi ((5 * (j : Int))))]) [0, 1, 2, 3, 4, 5] rfl ?_
      exact hB _ _ _ _ _ _ hI2 ha01 (by omega) (by omega)
    · have e8 : vi rz = vi (w32 O.2.1) := by rw [hrz cc3]; exact vi_w _
      rw [e8]
      refine j_aload_n 3 C dL_law_285 rfl rfl rfl ?_
      refine j_iconst C dL_law_286 rfl ?_
      refine j_lald C dL_law_287 rfl ho2 ⟨by decide, by decide⟩ (by decide) (y := w32 O.2.1) (hg1 cc3) ?_
      refine j_iload 7 C dL_law_288 rfl rfl ?_
      refine j_i2l C dL_law_290 rfl (w32_in _) ?_
      refine j_lcmp_same C dL_law_291 rfl ?_
      refine j_if_eq (tgt := 297) C dL_law_292 rfl rfl ⟨by decide, by decide⟩ (fun _ => ?_) (fun cc => absurd cc (by decide))
      refine j_goto (tgt := 2447) C dL_law_297 rfl ?_
      refine j_locals (lv' := [(0, .ref b), (1, .ref (ad 0)), (2, .ref (am 0)), (3, .ref o), (4, .ref d), (5, vi ((5 * (j : Int))))]) [0, 1, 2, 3, 4, 5] rfl ?_
      exact hB _ _ _ _ _ _ hI2 ha01 (by omega) (by omega)
set_option maxHeartbeats 8000000 in
set_option maxRecDepth 20000 in
theorem lc_1 {κ : Kx} {nmx : String} {b L j k n : Nat} {xs : Nat → Int} {σ : Wd} {tg ad am : Nat → Nat} {S : St} {o d : Nat} (C : Cx κ cL_law 9 RL nmx 9) (HN : Ncs (kS κ)) (hfl : (kL κ).stackTraces = false) (hxs : ∀ i : Nat, -2147483648 ≤ xs i ∧ xs i < 2147483648) (hX : va_X b L (fun j => Int32.ofInt (xs j)) (kS κ) (kS κ).heap) (hbl : b < (kS κ).heap.size) (hbA : ¬ kA κ b) (hL : L < 2147483648) (hI : LI (kc κ) σ tg ad am S o d) (hj : 5 * j + 5 ≤ L) (hk : k + 300 ≤ (kR κ).cells) (hn : n + 8000 ≤ (kR κ).slots) (hB : LB κ b o d (ad 0) am j k n) : J κ σ [(0, .ref b), (1, .ref (ad 0)), (2, .ref (am 0)), (3, .ref o), (4, .ref d), (5, vi (5 * (j : Int)))] 300 [] k n := by
  obtain ⟨a1, ha1⟩ : ∃ a, xs (5 * j + 1) = a := ⟨_, rfl⟩
  have r1 : -2147483648 ≤ a1 ∧ a1 < 2147483648 := by rw [← ha1]; exact hxs _
  obtain ⟨a2, ha2⟩ : ∃ a, xs (5 * j + 2) = a := ⟨_, rfl⟩
  have r2 : -2147483648 ≤ a2 ∧ a2 < 2147483648 := by rw [← ha2]; exact hxs _
  obtain ⟨a3, ha3⟩ : ∃ a, xs (5 * j + 3) = a := ⟨_, rfl⟩
  have r3 : -2147483648 ≤ a3 ∧ a3 < 2147483648 := by rw [← ha3]; exact hxs _
  obtain ⟨a4, ha4⟩ : ∃ a, xs (5 * j + 4) = a := ⟨_, rfl⟩
  have r4 : -2147483648 ≤ a4 ∧ a4 < 2147483648 := by rw [← ha4]; exact hxs _
  obtain ⟨bs, ru, se, pf, hd, ca, evs, ln⟩ := S
  have hX0 : RX (kc κ) σ tg ad bs ru se pf hd ca evs ln := hI.1
  have hO := hX0.ok
  obtain ⟨-, -, ⟨g0, hout⟩, ⟨f0, hdub⟩, ⟨to9, td9⟩, -⟩ := id hI
  refine j_aload_n 1 C dL_law_300 rfl rfl rfl ?_
  obtain ⟨⟨x1, x2⟩, hBB, -, -, -, -⟩ := id hX0
  refine j_callV (st' := []) (As := []) C dL_law_301 rfl m_L_131 x1 rfl rfl rfl (c_binCount (kL κ) hfl (kD κ) (kc κ) σ tg ad bs ru se pf hd ca evs ln hX0) rfl (by omega) (by omega) (by omega) (fun _ _ hx => hx.elim) (fun v1 σ1 hp => ?_)
  obtain ⟨rfl, hs9⟩ := hp
  rw [hs9]
  have hR1 := hX0
  have hKK : Keep σ σ (fun y => tg y < 1000 ∨ y = o) := Keep.rf
  have hm1 : ∀ y, y ∈ σ.1 → y ∈ σ.1 := fun _ hy => hy
  obtain ⟨bl1, th1, hM1⟩ := hI.mod (Or.inl rfl) hKK
  have hf1 := hI.dbl hdub hKK
  have ho1 : has σ o (lA (kc κ) 1 g0) := hout
  show J κ σ [(0, .ref b), (1, .ref (ad 0)), (2, .ref (am 0)), (3, .ref o), (4, .ref d), (5, vi ((5 * (j : Int))))] 304 [vi ((bs.length : Int))] _ _
  refine j_aload_n 2 C dL_law_304 rfl rfl rfl ?_
  obtain ⟨-, _, _, _, _, _, _, _, _, _, _, _, _, _, _, _, hrc, -⟩ := id hM1
  refine j_callV (st' := [vi ((bs.length : Int))]) (As := []) C dL_law_305 rfl m_L_134 hrc rfl rfl rfl (m_binCount (kL κ) hfl (kD κ) (kc κ) σ am bs ru se pf hd ca evs ln bl1 th1 hM1) rfl (by omega) (by omega) (by omega) (fun _ _ hx => hx.elim) (fun v2 σ2 hp2 => ?_)
  obtain ⟨rfl, hM2, hK2, hd2⟩ := hp2
  have hM3 : RMs (kc κ) σ2 am (bs, ru, se, pf, hd, ca, evs, ln) bl1 0 := hM2
  obtain ⟨hI2, -, -⟩ := hI.mk2 (S1 := (bs, ru, se, pf, hd, ca, evs, ln)) (tg1 := tg) (ad1 := ad) hR1 (fun _ _ => rfl) ho1 hf1 hm1 hM3 hK2 hd2
  show J κ σ2 [(0, .ref b), (1, .ref (ad 0)), (2, .ref (am 0)), (3, .ref o), (4, .ref d), (5, vi ((5 * (j : Int))))] 308 [vi ((bs.length : Int)), vi ((bs.length : Int))] _ _
  refine j_icmp_same (tgt := 2447) C dL_law_308 rfl ?_
  refine j_locals (lv' := [(0, .ref b), (1, .ref (ad 0)), (2, .ref (am 0)), (3, .ref o), (4, .ref d), (5, vi ((5 * (j : Int))))]) [0, 1, 2, 3, 4, 5] rfl ?_
  exact hB _ _ _ _ _ _ hI2 rfl (by omega) (by omega)
set_option maxHeartbeats 8000000 in
set_option maxRecDepth 20000 in
theorem lc_2 {κ : Kx} {nmx : String} {b L j k n : Nat} {xs : Nat → Int} {σ : Wd} {tg ad am : Nat → Nat} {S : St} {o d : Nat} (C : Cx κ cL_law 9 RL nmx 9) (HN : Ncs (kS κ)) (hfl : (kL κ).stackTraces = false) (hxs : ∀ i : Nat, -2147483648 ≤ xs i ∧ xs i < 2147483648) (hX : va_X b L (fun j => Int32.ofInt (xs j)) (kS κ) (kS κ).heap) (hbl : b < (kS κ).heap.size) (hbA : ¬ kA κ b) (hL : L < 2147483648) (hI : LI (kc κ) σ tg ad am S o d) (hj : 5 * j + 5 ≤ L) (hk : k + 300 ≤ (kR κ).cells) (hn : n + 8000 ≤ (kR κ).slots) (hB : LB κ b o d (ad 0) am j k n) : J κ σ [(0, .ref b), (1, .ref (ad 0)), (2, .ref (am 0)), (3, .ref o), (4, .ref d), (5, vi (5 * (j : Int)))] 313 [] k n := by
  obtain ⟨a1, ha1⟩ : ∃ a, xs (5 * j + 1) = a := ⟨_, rfl⟩
  have r1 : -2147483648 ≤ a1 ∧ a1 < 2147483648 := by rw [← ha1]; exact hxs _
  obtain ⟨a2, ha2⟩ : ∃ a, xs (5 * j + 2) = a := ⟨_, rfl⟩
  have r2 : -2147483648 ≤ a2 ∧ a2 < 2147483648 := by rw [← ha2]; exact hxs _
  obtain ⟨a3, ha3⟩ : ∃ a, xs (5 * j + 3) = a := ⟨_, rfl⟩
  have r3 : -2147483648 ≤ a3 ∧ a3 < 2147483648 := by rw [← ha3]; exact hxs _
  obtain ⟨a4, ha4⟩ : ∃ a, xs (5 * j + 4) = a := ⟨_, rfl⟩
  have r4 : -2147483648 ≤ a4 ∧ a4 < 2147483648 := by rw [← ha4]; exact hxs _
  obtain ⟨bs, ru, se, pf, hd, ca, evs, ln⟩ := S
  have hX0 : RX (kc κ) σ tg ad bs ru se pf hd ca evs ln := hI.1
  have hO := hX0.ok
  obtain ⟨-, -, ⟨g0, hout⟩, ⟨f0, hdub⟩, ⟨to9, td9⟩, -⟩ := id hI
  refine j_aload_n 1 C dL_law_313 rfl rfl rfl ?_
  refine j_aload_n 0 C dL_law_314 rfl rfl rfl ?_
  refine j_iload 5 C dL_law_315 rfl rfl ?_
  refine j_iconst C dL_law_317 rfl ?_
  refine j_iadd C dL_law_318 rfl ?_
  refine j_sld C hX hbl hbA dL_law_319 rfl ⟨by omega, by omega⟩ (by omega) (y := a1) (by rw [show (5 * (j : Int) + 1).toNat = 5 * j + 1 by omega]; exact ha1) ?_
  refine j_aload_n 3 C dL_law_320 rfl rfl rfl ?_
  refine j_callSN (st' := []) (As := [.ref (ad 0), vi (a1), .ref o]) C HN dL_law_321 rfl m_L_135 rfl rfl (W_capacityOf (kL κ) hfl (kD κ) (kc κ) σ tg ad bs ru se pf hd ca evs ln hX0 o g0 hout (by omega) a1 r1) rfl (by omega) (by omega) (by omega) (fun _ _ hx => hx.elim) (fun v1 σ1 hp => ?_)
  obtain ⟨rfl, ⟨tg1, ad1, hR1, hT1, ha01⟩, ⟨g1, ho1, hg1⟩, hK1, hm1⟩ := hp
  have hcr := cr_capacityOf bs ru se pf hd ca evs ln a1
  obtain ⟨O, hO9⟩ : ∃ O : Rs, o_capacityOf bs ru se pf hd ca evs ln a1 = O := ⟨_, rfl⟩
  show J κ σ1 [(0, .ref b), (1, .ref (ad 0)), (2, .ref (am 0)), (3, .ref o), (4, .ref d), (5, vi ((5 * (j : Int))))] 324 [vi (o_capacityOf bs ru se pf hd ca evs ln a1).1] _ _
  rw [hO9] at hR1 hg1 hcr ⊢
  obtain ⟨bl1, th1, hM1⟩ := hI.mod (Or.inl rfl) hK1
  have hf1 := hI.dbl hdub hK1
  show J κ σ1 [(0, .ref b), (1, .ref (ad 0)), (2, .ref (am 0)), (3, .ref o), (4, .ref d), (5, vi ((5 * (j : Int))))] 324 [vi (O.1)] _ _
  refine j_istore (lv' := [(0, .ref b), (1, .ref (ad 0)), (2, .ref (am 0)), (3, .ref o), (4, .ref d), (5, vi ((5 * (j : Int)))), (6, vi (O.1))]) [1, 2, 3, 4, 5, 6, 0] C dL_law_324 rfl rfl rfl ?_
  refine j_aload_n 2 C dL_law_326 rfl rfl rfl ?_
  refine j_aload_n 0 C dL_law_327 rfl rfl rfl ?_
  refine j_iload 5 C dL_law_328 rfl rfl ?_
  refine j_iconst C dL_law_330 rfl ?_
  refine j_iadd C dL_law_331 rfl ?_
  refine j_sld C hX hbl hbA dL_law_332 rfl ⟨by omega, by omega⟩ (by omega) (y := a1) (by rw [show (5 * (j : Int) + 1).toNat = 5 * j + 1 by omega]; exact ha1) ?_
  obtain ⟨-, _, _, _, _, _, _, _, _, _, _, _, _, _, _, _, hrc, -⟩ := id hM1
  refine j_callV (st' := []) (As := [vi (a1)]) C dL_law_333 rfl m_L_138 hrc rfl rfl rfl (m_capacityOf (kL κ) hfl (kD κ) (kc κ) σ1 am bs ru se pf hd ca evs ln bl1 th1 hM1 a1 r1) rfl (by omega) (by omega) (by omega) (fun _ _ hx => hx.elim) (fun v2 σ2 hp2 => ?_)
  obtain ⟨rz, rfl, hrz, ⟨bl2, hM2⟩, hK2, hd2⟩ := hp2
  rw [hO9] at hrz hM2
  obtain ⟨hI2, ho2, hf2⟩ := hI.mk2 hR1 hT1 ho1 hf1 hm1 hM2 hK2 hd2
  show J κ σ2 [(0, .ref b), (1, .ref (ad 0)), (2, .ref (am 0)), (3, .ref o), (4, .ref d), (5, vi ((5 * (j : Int)))), (6, vi (O.1))] 336 [vi (rz)] _ _
  refine j_istore (lv' := [(0, .ref b), (1, .ref (ad 0)), (2, .ref (am 0)), (3, .ref o), (4, .ref d), (5, vi ((5 * (j : Int)))), (6, vi (O.1)), (7, vi (rz))]) [1, 2, 3, 4, 5, 6, 7, 0] C dL_law_336 rfl rfl rfl ?_
  refine j_aload_n 2 C dL_law_338 rfl rfl rfl ?_
  obtain ⟨-, _, _, _, _, _, _, _, _, _, _, _, _, _, _, _, hrc, -⟩ := id hM2
  refine j_callV (st' := []) (As := []) C dL_law_339 rfl m_L_127 hrc rfl rfl rfl (m_thrown (kL κ) hfl (kD κ) (kc κ) σ2 am _ _ _ _ _ _ _ _ bl2 O.1 hM2) rfl (by omega) (by omega) (by omega) (fun _ _ hx => hx.elim) (fun v3 σ3 hp3 => ?_)
  obtain ⟨rfl, hs9⟩ := hp3
  replace hs9 := hs9.symm
  subst hs9
  show J κ σ2 [(0, .ref b), (1, .ref (ad 0)), (2, .ref (am 0)), (3, .ref o), (4, .ref d), (5, vi ((5 * (j : Int)))), (6, vi (O.1)), (7, vi (rz))] 342 [vi (O.1)] _ _
  refine j_iload 6 C dL_law_342 rfl rfl ?_
  refine j_icmp_same (tgt := 349) C dL_law_344 rfl ?_
  refine j_iload 6 C dL_law_349 rfl rfl ?_
  refine j_if_ne (tgt := 366) C dL_law_351 rfl rfl ⟨by omega, by omega⟩ (fun cc1 => ?_) (fun cc1 => ?_)
  · refine j_goto (tgt := 2447) C dL_law_366 rfl ?_
    refine j_locals (lv' := [(0, .ref b), (1, .ref (ad 0)), (2, .ref (am 0)), (3, .ref o), (4, .ref d), (5, vi ((5 * (j : Int))))]) [0, 1, 2, 3, 4, 5] rfl ?_
    exact hB _ _ _ _ _ _ hI2 ha01 (by omega) (by omega)
  · have e8 : vi rz = vi (w32 O.2.1) := by rw [hrz cc1]; exact vi_w _
    rw [e8]
    refine j_aload_n 3 C dL_law_354 rfl rfl rfl ?_
    refine j_iconst C dL_law_355 rfl ?_
    refine j_lald C dL_law_356 rfl ho2 ⟨by decide, by decide⟩ (by decide) (y := w32 O.2.1) (hg1 cc1) ?_
    refine j_iload 7 C dL_law_357 rfl rfl ?_
    refine j_i2l C dL_law_359 rfl (w32_in _) ?_
    refine j_lcmp_same C dL_law_360 rfl ?_
    refine j_if_eq (tgt := 366) C dL_law_361 rfl rfl ⟨by decide, by decide⟩ (fun _ => ?_) (fun cc => absurd cc (by decide))
    refine j_goto (tgt := 2447) C dL_law_366 rfl ?_
    refine j_locals (lv' := [(0, .ref b), (1, .ref (ad 0)), (2, .ref (am 0)), (3, .ref o), (4, .ref d), (5, vi ((5 * (j : Int))))]) [0, 1, 2, 3, 4, 5] rfl ?_
    exact hB _ _ _ _ _ _ hI2 ha01 (by omega) (by omega)
set_option maxHeartbeats 8000000 in
set_option maxRecDepth 20000 in
theorem lc_3 {κ : Kx} {nmx : String} {b L j k n : Nat} {xs : Nat → Int} {σ : Wd} {tg ad am : Nat → Nat} {S : St} {o d : Nat} (C : Cx κ cL_law 9 RL nmx 9) (HN : Ncs (kS κ)) (hfl : (kL κ).stackTraces = false) (hxs : ∀ i : Nat, -2147483648 ≤ xs i ∧ xs i < 2147483648) (hX : va_X b L (fun j => Int32.ofInt (xs j)) (kS κ) (kS κ).heap) (hbl : b < (kS κ).heap.size) (hbA : ¬ kA κ b) (hL : L < 2147483648) (hI : LI (kc κ) σ tg ad am S o d) (hj : 5 * j + 5 ≤ L) (hk : k + 300 ≤ (kR κ).cells) (hn : n + 8000 ≤ (kR κ).slots) (hB : LB κ b o d (ad 0) am j k n) : J κ σ [(0, .ref b), (1, .ref (ad 0)), (2, .ref (am 0)), (3, .ref o), (4, .ref d), (5, vi (5 * (j : Int)))] 369 [] k n := by
  obtain ⟨a1, ha1⟩ : ∃ a, xs (5 * j + 1) = a := ⟨_, rfl⟩
  have r1 : -2147483648 ≤ a1 ∧ a1 < 2147483648 := by rw [← ha1]; exact hxs _
  obtain ⟨a2, ha2⟩ : ∃ a, xs (5 * j + 2) = a := ⟨_, rfl⟩
  have r2 : -2147483648 ≤ a2 ∧ a2 < 2147483648 := by rw [← ha2]; exact hxs _
  obtain ⟨a3, ha3⟩ : ∃ a, xs (5 * j + 3) = a := ⟨_, rfl⟩
  have r3 : -2147483648 ≤ a3 ∧ a3 < 2147483648 := by rw [← ha3]; exact hxs _
  obtain ⟨a4, ha4⟩ : ∃ a, xs (5 * j + 4) = a := ⟨_, rfl⟩
  have r4 : -2147483648 ≤ a4 ∧ a4 < 2147483648 := by rw [← ha4]; exact hxs _
  obtain ⟨bs, ru, se, pf, hd, ca, evs, ln⟩ := S
  have hX0 : RX (kc κ) σ tg ad bs ru se pf hd ca evs ln := hI.1
  have hO := hX0.ok
  obtain ⟨-, -, ⟨g0, hout⟩, ⟨f0, hdub⟩, ⟨to9, td9⟩, -⟩ := id hI
  refine j_aload_n 1 C dL_law_369 rfl rfl rfl ?_
  refine j_aload_n 0 C dL_law_370 rfl rfl rfl ?_
  refine j_iload 5 C dL_law_371 rfl rfl ?_
  refine j_iconst C dL_law_373 rfl ?_
  refine j_iadd C dL_law_374 rfl ?_
  refine j_sld C hX hbl hbA dL_law_375 rfl ⟨by omega, by omega⟩ (by omega) (y := a1) (by rw [show (5 * (j : Int) + 1).toNat = 5 * j + 1 by omega]; exact ha1) ?_
  refine j_aload_n 0 C dL_law_376 rfl rfl rfl ?_
  refine j_iload 5 C dL_law_377 rfl rfl ?_
  refine j_iconst C dL_law_379 rfl ?_
  refine j_iadd C dL_law_380 rfl ?_
  refine j_sld C hX hbl hbA dL_law_381 rfl ⟨by omega, by omega⟩ (by omega) (y := a2) (by rw [show (5 * (j : Int) + 2).toNat = 5 * j + 2 by omega]; exact ha2) ?_
  refine j_aload_n 0 C dL_law_382 rfl rfl rfl ?_
  refine j_iload 5 C dL_law_383 rfl rfl ?_
  refine j_iconst C dL_law_385 rfl ?_
  refine j_iadd C dL_law_386 rfl ?_
  refine j_sld C hX hbl hbA dL_law_387 rfl ⟨by omega, by omega⟩ (by omega) (y := a3) (by rw [show (5 * (j : Int) + 3).toNat = 5 * j + 3 by omega]; exact ha3) ?_
  refine j_aload_n 0 C dL_law_388 rfl rfl rfl ?_
  refine j_iload 5 C dL_law_389 rfl rfl ?_
  refine j_iconst C dL_law_391 rfl ?_
  refine j_iadd C dL_law_392 rfl ?_
  refine j_sld C hX hbl hbA dL_law_393 rfl ⟨by omega, by omega⟩ (by omega) (y := a4) (by rw [show (5 * (j : Int) + 4).toNat = 5 * j + 4 by omega]; exact ha4) ?_
  refine j_aload_n 3 C dL_law_394 rfl rfl rfl ?_
  refine j_callSN (st' := []) (As := [.ref (ad 0), vi (a1), vi (a2), vi (a3), vi (a4), .ref o]) C HN dL_law_395 rfl m_L_139 rfl rfl (W_setRule (kL κ) hfl (kD κ) (kc κ) σ tg ad bs ru se pf hd ca evs ln hX0 o g0 hout (by omega) a1 r1 a2 r2 a3 r3 a4 r4) rfl (by omega) (by omega) (by omega) (fun _ _ hx => hx.elim) (fun v1 σ1 hp => ?_)
  obtain ⟨rfl, ⟨tg1, ad1, hR1, hT1, ha01⟩, ⟨g1, ho1, hg1⟩, hK1, hm1⟩ := hp
  have hcr := cr_setRule bs ru se pf hd ca evs ln a1 a2 a3 a4
  obtain ⟨O, hO9⟩ : ∃ O : Rs, o_setRule bs ru se pf hd ca evs ln a1 a2 a3 a4 = O := ⟨_, rfl⟩
  show J κ σ1 [(0, .ref b), (1, .ref (ad 0)), (2, .ref (am 0)), (3, .ref o), (4, .ref d), (5, vi ((5 * (j : Int))))] 398 [vi (o_setRule bs ru se pf hd ca evs ln a1 a2 a3 a4).1] _ _
  rw [hO9] at hR1 hg1 hcr ⊢
  obtain ⟨bl1, th1, hM1⟩ := hI.mod (Or.inl rfl) hK1
  have hf1 := hI.dbl hdub hK1
  show J κ σ1 [(0, .ref b), (1, .ref (ad 0)), (2, .ref (am 0)), (3, .ref o), (4, .ref d), (5, vi ((5 * (j : Int))))] 398 [vi (O.1)] _ _
  refine j_istore (lv' := [(0, .ref b), (1, .ref (ad 0)), (2, .ref (am 0)), (3, .ref o), (4, .ref d), (5, vi ((5 * (j : Int)))), (6, vi (O.1))]) [1, 2, 3, 4, 5, 6, 0] C dL_law_398 rfl rfl rfl ?_
  refine j_aload_n 2 C dL_law_400 rfl rfl rfl ?_
  refine j_aload_n 0 C dL_law_401 rfl rfl rfl ?_
  refine j_iload 5 C dL_law_402 rfl rfl ?_
  refine j_iconst C dL_law_404 rfl ?_
  refine j_iadd C dL_law_405 rfl ?_
  refine j_sld C hX hbl hbA dL_law_406 rfl ⟨by omega, by omega⟩ (by omega) (y := a1) (by rw [show (5 * (j : Int) + 1).toNat = 5 * j + 1 by omega]; exact ha1) ?_
  refine j_aload_n 0 C dL_law_407 rfl rfl rfl ?_
  refine j_iload 5 C dL_law_408 rfl rfl ?_
  refine j_iconst C dL_law_410 rfl ?_
  refine j_iadd C dL_law_411 rfl ?_
  refine j_sld C hX hbl hbA dL_law_412 rfl ⟨by omega, by omega⟩ (by omega) (y := a2) (by rw [show (5 * (j : Int) + 2).toNat = 5 * j + 2 by omega]; exact ha2) ?_
  refine j_aload_n 0 C dL_law_413 rfl rfl rfl ?_
  refine j_iload 5 C dL_law_414 rfl rfl ?_
  refine j_iconst C dL_law_416 rfl ?_
  refine j_iadd C dL_law_417 rfl ?_
  refine j_sld C hX hbl hbA dL_law_418 rfl ⟨by omega, by omega⟩ (by omega) (y := a3) (by rw [show (5 * (j : Int) + 3).toNat = 5 * j + 3 by omega]; exact ha3) ?_
  refine j_aload_n 0 C dL_law_419 rfl rfl rfl ?_
  refine j_iload 5 C dL_law_420 rfl rfl ?_
  refine j_iconst C dL_law_422 rfl ?_
  refine j_iadd C dL_law_423 rfl ?_
  refine j_sld C hX hbl hbA dL_law_424 rfl ⟨by omega, by omega⟩ (by omega) (y := a4) (by rw [show (5 * (j : Int) + 4).toNat = 5 * j + 4 by omega]; exact ha4) ?_
  obtain ⟨-, _, _, _, _, _, _, _, _, _, _, _, _, _, _, _, hrc, -⟩ := id hM1
  refine j_callV (st' := []) (As := [vi (a1), vi (a2), vi (a3), vi (a4)]) C dL_law_425 rfl m_L_142 hrc rfl rfl rfl (m_setRule (kL κ) hfl (kD κ) (kc κ) σ1 am bs ru se pf hd ca evs ln bl1 th1 hM1 a1 r1 a2 r2 a3 r3 a4 r4) rfl (by omega) (by omega) (by omega) (fun _ _ hx => hx.elim) (fun v2 σ2 hp2 => ?_)
  obtain ⟨rz, rfl, hrz, ⟨bl2, hM2⟩, hK2, hd2⟩ := hp2
  rw [hO9] at hrz hM2
  obtain ⟨hI2, ho2, hf2⟩ := hI.mk2 hR1 hT1 ho1 hf1 hm1 hM2 hK2 hd2
  show J κ σ2 [(0, .ref b), (1, .ref (ad 0)), (2, .ref (am 0)), (3, .ref o), (4, .ref d), (5, vi ((5 * (j : Int)))), (6, vi (O.1))] 428 [vi (rz)] _ _
  refine j_istore (lv' := [(0, .ref b), (1, .ref (ad 0)), (2, .ref (am 0)), (3, .ref o), (4, .ref d), (5, vi ((5 * (j : Int)))), (6, vi (O.1)), (7, vi (rz))]) [1, 2, 3, 4, 5, 6, 7, 0] C dL_law_428 rfl rfl rfl ?_
  refine j_aload_n 2 C dL_law_430 rfl rfl rfl ?_
  obtain ⟨-, _, _, _, _, _, _, _, _, _, _, _, _, _, _, _, hrc, -⟩ := id hM2
  refine j_callV (st' := []) (As := []) C dL_law_431 rfl m_L_127 hrc rfl rfl rfl (m_thrown (kL κ) hfl (kD κ) (kc κ) σ2 am _ _ _ _ _ _ _ _ bl2 O.1 hM2) rfl (by omega) (by omega) (by omega) (fun _ _ hx => hx.elim) (fun v3 σ3 hp3 => ?_)
  obtain ⟨rfl, hs9⟩ := hp3
  replace hs9 := hs9.symm
  subst hs9
  show J κ σ2 [(0, .ref b), (1, .ref (ad 0)), (2, .ref (am 0)), (3, .ref o), (4, .ref d), (5, vi ((5 * (j : Int)))), (6, vi (O.1)), (7, vi (rz))] 434 [vi (O.1)] _ _
  refine j_iload 6 C dL_law_434 rfl rfl ?_
  refine j_icmp_same (tgt := 441) C dL_law_436 rfl ?_
  refine j_iload 6 C dL_law_441 rfl rfl ?_
  refine j_if_ne (tgt := 458) C dL_law_443 rfl rfl ⟨by omega, by omega⟩ (fun cc1 => ?_) (fun cc1 => ?_)
  · refine j_goto (tgt := 2447) C dL_law_458 rfl ?_
    refine j_locals (lv' := [(0, .ref b), (1, .ref (ad 0)), (2, .ref (am 0)), (3, .ref o), (4, .ref d), (5, vi ((5 * (j : Int))))]) [0, 1, 2, 3, 4, 5] rfl ?_
    exact hB _ _ _ _ _ _ hI2 ha01 (by omega) (by omega)
  · have e8 : vi rz = vi (w32 O.2.1) := by rw [hrz cc1]; exact vi_w _
    rw [e8]
    refine j_aload_n 3 C dL_law_446 rfl rfl rfl ?_
    refine j_iconst C dL_law_447 rfl ?_
    refine j_lald C dL_law_448 rfl ho2 ⟨by decide, by decide⟩ (by decide) (y := w32 O.2.1) (hg1 cc1) ?_
    refine j_iload 7 C dL_law_449 rfl rfl ?_
    refine j_i2l C dL_law_451 rfl (w32_in _) ?_
    refine j_lcmp_same C dL_law_452 rfl ?_
    refine j_if_eq (tgt := 458) C dL_law_453 rfl rfl ⟨by decide, by decide⟩ (fun _ => ?_) (fun cc => absurd cc (by decide))
    refine j_goto (tgt := 2447) C dL_law_458 rfl ?_
    refine j_locals (lv' := [(0, .ref b), (1, .ref (ad 0)), (2, .ref (am 0)), (3, .ref o), (4, .ref d), (5, vi ((5 * (j : Int))))]) [0, 1, 2, 3, 4, 5] rfl ?_
    exact hB _ _ _ _ _ _ hI2 ha01 (by omega) (by omega)
set_option maxHeartbeats 8000000 in
set_option maxRecDepth 20000 in
theorem lc_4 {κ : Kx} {nmx : String} {b L j k n : Nat} {xs : Nat → Int} {σ : Wd} {tg ad am : Nat → Nat} {S : St} {o d : Nat} (C : Cx κ cL_law 9 RL nmx 9) (HN : Ncs (kS κ)) (hfl : (kL κ).stackTraces = false) (hxs : ∀ i : Nat, -2147483648 ≤ xs i ∧ xs i < 2147483648) (hX : va_X b L (fun j => Int32.ofInt (xs j)) (kS κ) (kS κ).heap) (hbl : b < (kS κ).heap.size) (hbA : ¬ kA κ b) (hL : L < 2147483648) (hI : LI (kc κ) σ tg ad am S o d) (hj : 5 * j + 5 ≤ L) (hk : k + 300 ≤ (kR κ).cells) (hn : n + 8000 ≤ (kR κ).slots) (hB : LB κ b o d (ad 0) am j k n) : J κ σ [(0, .ref b), (1, .ref (ad 0)), (2, .ref (am 0)), (3, .ref o), (4, .ref d), (5, vi (5 * (j : Int)))] 461 [] k n := by
  obtain ⟨a1, ha1⟩ : ∃ a, xs (5 * j + 1) = a := ⟨_, rfl⟩
  have r1 : -2147483648 ≤ a1 ∧ a1 < 2147483648 := by rw [← ha1]; exact hxs _
  obtain ⟨a2, ha2⟩ : ∃ a, xs (5 * j + 2) = a := ⟨_, rfl⟩
  have r2 : -2147483648 ≤ a2 ∧ a2 < 2147483648 := by rw [← ha2]; exact hxs _
  obtain ⟨a3, ha3⟩ : ∃ a, xs (5 * j + 3) = a := ⟨_, rfl⟩
  have r3 : -2147483648 ≤ a3 ∧ a3 < 2147483648 := by rw [← ha3]; exact hxs _
  obtain ⟨a4, ha4⟩ : ∃ a, xs (5 * j + 4) = a := ⟨_, rfl⟩
  have r4 : -2147483648 ≤ a4 ∧ a4 < 2147483648 := by rw [← ha4]; exact hxs _
  obtain ⟨bs, ru, se, pf, hd, ca, evs, ln⟩ := S
  have hX0 : RX (kc κ) σ tg ad bs ru se pf hd ca evs ln := hI.1
  have hO := hX0.ok
  obtain ⟨-, -, ⟨g0, hout⟩, ⟨f0, hdub⟩, ⟨to9, td9⟩, -⟩ := id hI
  refine j_aload_n 1 C dL_law_461 rfl rfl rfl ?_
  refine j_aload_n 0 C dL_law_462 rfl rfl rfl ?_
  refine j_iload 5 C dL_law_463 rfl rfl ?_
  refine j_iconst C dL_law_465 rfl ?_
  refine j_iadd C dL_law_466 rfl ?_
  refine j_sld C hX hbl hbA dL_law_467 rfl ⟨by omega, by omega⟩ (by omega) (y := a1) (by rw [show (5 * (j : Int) + 1).toNat = 5 * j + 1 by omega]; exact ha1) ?_
  refine j_aload_n 3 C dL_law_468 rfl rfl rfl ?_
  refine j_callSN (st' := []) (As := [.ref (ad 0), vi (a1), .ref o]) C HN dL_law_469 rfl m_L_143 rfl rfl (W_setSeason (kL κ) hfl (kD κ) (kc κ) σ tg ad bs ru se pf hd ca evs ln hX0 o g0 hout (by omega) a1 r1) rfl (by omega) (by omega) (by omega) (fun _ _ hx => hx.elim) (fun v1 σ1 hp => ?_)
  obtain ⟨rfl, ⟨tg1, ad1, hR1, hT1, ha01⟩, ⟨g1, ho1, hg1⟩, hK1, hm1⟩ := hp
  have hcr := cr_setSeason bs ru se pf hd ca evs ln a1
  obtain ⟨O, hO9⟩ : ∃ O : Rs, o_setSeason bs ru se pf hd ca evs ln a1 = O := ⟨_, rfl⟩
  show J κ σ1 [(0, .ref b), (1, .ref (ad 0)), (2, .ref (am 0)), (3, .ref o), (4, .ref d), (5, vi ((5 * (j : Int))))] 472 [vi (o_setSeason bs ru se pf hd ca evs ln a1).1] _ _
  rw [hO9] at hR1 hg1 hcr ⊢
  obtain ⟨bl1, th1, hM1⟩ := hI.mod (Or.inl rfl) hK1
  have hf1 := hI.dbl hdub hK1
  show J κ σ1 [(0, .ref b), (1, .ref (ad 0)), (2, .ref (am 0)), (3, .ref o), (4, .ref d), (5, vi ((5 * (j : Int))))] 472 [vi (O.1)] _ _
  refine j_istore (lv' := [(0, .ref b), (1, .ref (ad 0)), (2, .ref (am 0)), (3, .ref o), (4, .ref d), (5, vi ((5 * (j : Int)))), (6, vi (O.1))]) [1, 2, 3, 4, 5, 6, 0] C dL_law_472 rfl rfl rfl ?_
  refine j_aload_n 2 C dL_law_474 rfl rfl rfl ?_
  refine j_aload_n 0 C dL_law_475 rfl rfl rfl ?_
  refine j_iload 5 C dL_law_476 rfl rfl ?_
  refine j_iconst C dL_law_478 rfl ?_
  refine j_iadd C dL_law_479 rfl ?_
  refine j_sld C hX hbl hbA dL_law_480 rfl ⟨by omega, by omega⟩ (by omega) (y := a1) (by rw [show (5 * (j : Int) + 1).toNat = 5 * j + 1 by omega]; exact ha1) ?_
  obtain ⟨-, _, _, _, _, _, _, _, _, _, _, _, _, _, _, _, hrc, -⟩ := id hM1
  refine j_callV (st' := []) (As := [vi (a1)]) C dL_law_481 rfl m_L_145 hrc rfl rfl rfl (m_setSeason (kL κ) hfl (kD κ) (kc κ) σ1 am bs ru se pf hd ca evs ln bl1 th1 hM1 a1 r1) rfl (by omega) (by omega) (by omega) (fun _ _ hx => hx.elim) (fun v2 σ2 hp2 => ?_)
  obtain ⟨rz, rfl, hrz, ⟨bl2, hM2⟩, hK2, hd2⟩ := hp2
  rw [hO9] at hrz hM2
  obtain ⟨hI2, ho2, hf2⟩ := hI.mk2 hR1 hT1 ho1 hf1 hm1 hM2 hK2 hd2
  show J κ σ2 [(0, .ref b), (1, .ref (ad 0)), (2, .ref (am 0)), (3, .ref o), (4, .ref d), (5, vi ((5 * (j : Int)))), (6, vi (O.1))] 484 [vi (rz)] _ _
  refine j_istore (lv' := [(0, .ref b), (1, .ref (ad 0)), (2, .ref (am 0)), (3, .ref o), (4, .ref d), (5, vi ((5 * (j : Int)))), (6, vi (O.1)), (7, vi (rz))]) [1, 2, 3, 4, 5, 6, 7, 0] C dL_law_484 rfl rfl rfl ?_
  refine j_aload_n 2 C dL_law_486 rfl rfl rfl ?_
  obtain ⟨-, _, _, _, _, _, _, _, _, _, _, _, _, _, _, _, hrc, -⟩ := id hM2
  refine j_callV (st' := []) (As := []) C dL_law_487 rfl m_L_127 hrc rfl rfl rfl (m_thrown (kL κ) hfl (kD κ) (kc κ) σ2 am _ _ _ _ _ _ _ _ bl2 O.1 hM2) rfl (by omega) (by omega) (by omega) (fun _ _ hx => hx.elim) (fun v3 σ3 hp3 => ?_)
  obtain ⟨rfl, hs9⟩ := hp3
  replace hs9 := hs9.symm
  subst hs9
  show J κ σ2 [(0, .ref b), (1, .ref (ad 0)), (2, .ref (am 0)), (3, .ref o), (4, .ref d), (5, vi ((5 * (j : Int)))), (6, vi (O.1)), (7, vi (rz))] 490 [vi (O.1)] _ _
  refine j_iload 6 C dL_law_490 rfl rfl ?_
  refine j_icmp_same (tgt := 497) C dL_law_492 rfl ?_
  refine j_iload 6 C dL_law_497 rfl rfl ?_
  refine j_if_ne (tgt := 514) C dL_law_499 rfl rfl ⟨by omega, by omega⟩ (fun cc1 => ?_) (fun cc1 => ?_)
  · refine j_goto (tgt := 2447) C dL_law_514 rfl ?_
    refine j_locals (lv' := [(0, .ref b), (1, .ref (ad 0)), (2, .ref (am 0)), (3, .ref o), (4, .ref d), (5, vi ((5 * (j : Int))))]) [0, 1, 2, 3, 4, 5] rfl ?_
    exact hB _ _ _ _ _ _ hI2 ha01 (by omega) (by omega)
  · have e8 : vi rz = vi (w32 O.2.1) := by rw [hrz cc1]; exact vi_w _
    rw [e8]
    refine j_aload_n 3 C dL_law_502 rfl rfl rfl ?_
    refine j_iconst C dL_law_503 rfl ?_
    refine j_lald C dL_law_504 rfl ho2 ⟨by decide, by decide⟩ (by decide) (y := w32 O.2.1) (hg1 cc1) ?_
    refine j_iload 7 C dL_law_505 rfl rfl ?_
    refine j_i2l C dL_law_507 rfl (w32_in _) ?_
    refine j_lcmp_same C dL_law_508 rfl ?_
    refine j_if_eq (tgt := 514) C dL_law_509 rfl rfl ⟨by decide, by decide⟩ (fun _ => ?_) (fun cc => absurd cc (by decide))
    refine j_goto (tgt := 2447) C dL_law_514 rfl ?_
    refine j_locals (lv' := [(0, .ref b), (1, .ref (ad 0)), (2, .ref (am 0)), (3, .ref o), (4, .ref d), (5, vi ((5 * (j : Int))))]) [0, 1, 2, 3, 4, 5] rfl ?_
    exact hB _ _ _ _ _ _ hI2 ha01 (by omega) (by omega)
set_option maxHeartbeats 8000000 in
set_option maxRecDepth 20000 in
theorem lc_5 {κ : Kx} {nmx : String} {b L j k n : Nat} {xs : Nat → Int} {σ : Wd} {tg ad am : Nat → Nat} {S : St} {o d : Nat} (C : Cx κ cL_law 9 RL nmx 9) (HN : Ncs (kS κ)) (hfl : (kL κ).stackTraces = false) (hxs : ∀ i : Nat, -2147483648 ≤ xs i ∧ xs i < 2147483648) (hX : va_X b L (fun j => Int32.ofInt (xs j)) (kS κ) (kS κ).heap) (hbl : b < (kS κ).heap.size) (hbA : ¬ kA κ b) (hL : L < 2147483648) (hI : LI (kc κ) σ tg ad am S o d) (hj : 5 * j + 5 ≤ L) (hk : k + 300 ≤ (kR κ).cells) (hn : n + 8000 ≤ (kR κ).slots) (hB : LB κ b o d (ad 0) am j k n) : J κ σ [(0, .ref b), (1, .ref (ad 0)), (2, .ref (am 0)), (3, .ref o), (4, .ref d), (5, vi (5 * (j : Int)))] 517 [] k n := by
  obtain ⟨a1, ha1⟩ : ∃ a, xs (5 * j + 1) = a := ⟨_, rfl⟩
  have r1 : -2147483648 ≤ a1 ∧ a1 < 2147483648 := by rw [← ha1]; exact hxs _
  obtain ⟨a2, ha2⟩ : ∃ a, xs (5 * j + 2) = a := ⟨_, rfl⟩
  have r2 : -2147483648 ≤ a2 ∧ a2 < 2147483648 := by rw [← ha2]; exact hxs _
  obtain ⟨a3, ha3⟩ : ∃ a, xs (5 * j + 3) = a := ⟨_, rfl⟩
  have r3 : -2147483648 ≤ a3 ∧ a3 < 2147483648 := by rw [← ha3]; exact hxs _
  obtain ⟨a4, ha4⟩ : ∃ a, xs (5 * j + 4) = a := ⟨_, rfl⟩
  have r4 : -2147483648 ≤ a4 ∧ a4 < 2147483648 := by rw [← ha4]; exact hxs _
  obtain ⟨bs, ru, se, pf, hd, ca, evs, ln⟩ := S
  have hX0 : RX (kc κ) σ tg ad bs ru se pf hd ca evs ln := hI.1
  have hO := hX0.ok
  obtain ⟨-, -, ⟨g0, hout⟩, ⟨f0, hdub⟩, ⟨to9, td9⟩, -⟩ := id hI
  refine j_aload_n 1 C dL_law_517 rfl rfl rfl ?_
  refine j_aload_n 0 C dL_law_518 rfl rfl rfl ?_
  refine j_iload 5 C dL_law_519 rfl rfl ?_
  refine j_iconst C dL_law_521 rfl ?_
  refine j_iadd C dL_law_522 rfl ?_
  refine j_sld C hX hbl hbA dL_law_523 rfl ⟨by omega, by omega⟩ (by omega) (y := a1) (by rw [show (5 * (j : Int) + 1).toNat = 5 * j + 1 by omega]; exact ha1) ?_
  refine j_aload_n 0 C dL_law_524 rfl rfl rfl ?_
  refine j_iload 5 C dL_law_525 rfl rfl ?_
  refine j_iconst C dL_law_527 rfl ?_
  refine j_iadd C dL_law_528 rfl ?_
  refine j_sld C hX hbl hbA dL_law_529 rfl ⟨by omega, by omega⟩ (by omega) (y := a2) (by rw [show (5 * (j : Int) + 2).toNat = 5 * j + 2 by omega]; exact ha2) ?_
  refine j_aload_n 3 C dL_law_530 rfl rfl rfl ?_
  refine j_callSN (st' := []) (As := [.ref (ad 0), vi (a1), vi (a2), .ref o]) C HN dL_law_531 rfl m_L_146 rfl rfl (W_gradeFor (kL κ) hfl (kD κ) (kc κ) σ tg ad bs ru se pf hd ca evs ln hX0 o g0 hout (by omega) a1 r1 a2 r2) rfl (by omega) (by omega) (by omega) (fun _ _ hx => hx.elim) (fun v1 σ1 hp => ?_)
  obtain ⟨rfl, ⟨tg1, ad1, hR1, hT1, ha01⟩, ⟨g1, ho1, hg1⟩, hK1, hm1⟩ := hp
  have hcr := cr_gradeFor bs ru se pf hd ca evs ln a1 a2
  obtain ⟨O, hO9⟩ : ∃ O : Rs, o_gradeFor bs ru se pf hd ca evs ln a1 a2 = O := ⟨_, rfl⟩
  show J κ σ1 [(0, .ref b), (1, .ref (ad 0)), (2, .ref (am 0)), (3, .ref o), (4, .ref d), (5, vi ((5 * (j : Int))))] 534 [vi (o_gradeFor bs ru se pf hd ca evs ln a1 a2).1] _ _
  rw [hO9] at hR1 hg1 hcr ⊢
  obtain ⟨bl1, th1, hM1⟩ := hI.mod (Or.inl rfl) hK1
  have hf1 := hI.dbl hdub hK1
  show J κ σ1 [(0, .ref b), (1, .ref (ad 0)), (2, .ref (am 0)), (3, .ref o), (4, .ref d), (5, vi ((5 * (j : Int))))] 534 [vi (O.1)] _ _
  refine j_istore (lv' := [(0, .ref b), (1, .ref (ad 0)), (2, .ref (am 0)), (3, .ref o), (4, .ref d), (5, vi ((5 * (j : Int)))), (6, vi (O.1))]) [1, 2, 3, 4, 5, 6, 0] C dL_law_534 rfl rfl rfl ?_
  refine j_aload_n 2 C dL_law_536 rfl rfl rfl ?_
  refine j_aload_n 0 C dL_law_537 rfl rfl rfl ?_
  refine j_iload 5 C dL_law_538 rfl rfl ?_
  refine j_iconst C dL_law_540 rfl ?_
  refine j_iadd C dL_law_541 rfl ?_
  refine j_sld C hX hbl hbA dL_law_542 rfl ⟨by omega, by omega⟩ (by omega) (y := a1) (by rw [show (5 * (j : Int) + 1).toNat = 5 * j + 1 by omega]; exact ha1) ?_
  refine j_aload_n 0 C dL_law_543 rfl rfl rfl ?_
  refine j_iload 5 C dL_law_544 rfl rfl ?_
  refine j_iconst C dL_law_546 rfl ?_
  refine j_iadd C dL_law_547 rfl ?_
  refine j_sld C hX hbl hbA dL_law_548 rfl ⟨by omega, by omega⟩ (by omega) (y := a2) (by rw [show (5 * (j : Int) + 2).toNat = 5 * j + 2 by omega]; exact ha2) ?_
  obtain ⟨-, _, _, _, _, _, _, _, _, _, _, _, _, _, _, _, hrc, -⟩ := id hM1
  refine j_callV (st' := []) (As := [vi (a1), vi (a2)]) C dL_law_549 rfl m_L_149 hrc rfl rfl rfl (m_gradeFor (kL κ) hfl (kD κ) (kc κ) σ1 am bs ru se pf hd ca evs ln bl1 th1 hM1 a1 r1 a2 r2) rfl (by omega) (by omega) (by omega) (fun _ _ hx => hx.elim) (fun v2 σ2 hp2 => ?_)
  obtain ⟨rz, rfl, hrz, ⟨bl2, hM2⟩, hK2, hd2⟩ := hp2
  rw [hO9] at hrz hM2
  obtain ⟨hI2, ho2, hf2⟩ := hI.mk2 hR1 hT1 ho1 hf1 hm1 hM2 hK2 hd2
  show J κ σ2 [(0, .ref b), (1, .ref (ad 0)), (2, .ref (am 0)), (3, .ref o), (4, .ref d), (5, vi ((5 * (j : Int)))), (6, vi (O.1))] 552 [vi (rz)] _ _
  refine j_istore (lv' := [(0, .ref b), (1, .ref (ad 0)), (2, .ref (am 0)), (3, .ref o), (4, .ref d), (5, vi ((5 * (j : Int)))), (6, vi (O.1)), (7, vi (rz))]) [1, 2, 3, 4, 5, 6, 7, 0] C dL_law_552 rfl rfl rfl ?_
  refine j_aload_n 2 C dL_law_554 rfl rfl rfl ?_
  obtain ⟨-, _, _, _, _, _, _, _, _, _, _, _, _, _, _, _, hrc, -⟩ := id hM2
  refine j_callV (st' := []) (As := []) C dL_law_555 rfl m_L_127 hrc rfl rfl rfl (m_thrown (kL κ) hfl (kD κ) (kc κ) σ2 am _ _ _ _ _ _ _ _ bl2 O.1 hM2) rfl (by omega) (by omega) (by omega) (fun _ _ hx => hx.elim) (fun v3 σ3 hp3 => ?_)
  obtain ⟨rfl, hs9⟩ := hp3
  replace hs9 := hs9.symm
  subst hs9
  show J κ σ2 [(0, .ref b), (1, .ref (ad 0)), (2, .ref (am 0)), (3, .ref o), (4, .ref d), (5, vi ((5 * (j : Int)))), (6, vi (O.1)), (7, vi (rz))] 558 [vi (O.1)] _ _
  refine j_iload 6 C dL_law_558 rfl rfl ?_
  refine j_icmp_same (tgt := 565) C dL_law_560 rfl ?_
  refine j_iload 6 C dL_law_565 rfl rfl ?_
  refine j_if_ne (tgt := 582) C dL_law_567 rfl rfl ⟨by omega, by omega⟩ (fun cc1 => ?_) (fun cc1 => ?_)
  · refine j_goto (tgt := 2447) C dL_law_582 rfl ?_
    refine j_locals (lv' := [(0, .ref b), (1, .ref (ad 0)), (2, .ref (am 0)), (3, .ref o), (4, .ref d), (5, vi ((5 * (j : Int))))]) [0, 1, 2, 3, 4, 5] rfl ?_
    exact hB _ _ _ _ _ _ hI2 ha01 (by omega) (by omega)
  · have e8 : vi rz = vi (w32 O.2.1) := by rw [hrz cc1]; exact vi_w _
    rw [e8]
    refine j_aload_n 3 C dL_law_570 rfl rfl rfl ?_
    refine j_iconst C dL_law_571 rfl ?_
    refine j_lald C dL_law_572 rfl ho2 ⟨by decide, by decide⟩ (by decide) (y := w32 O.2.1) (hg1 cc1) ?_
    refine j_iload 7 C dL_law_573 rfl rfl ?_
    refine j_i2l C dL_law_575 rfl (w32_in _) ?_
    refine j_lcmp_same C dL_law_576 rfl ?_
    refine j_if_eq (tgt := 582) C dL_law_577 rfl rfl ⟨by decide, by decide⟩ (fun _ => ?_) (fun cc => absurd cc (by decide))
    refine j_goto (tgt := 2447) C dL_law_582 rfl ?_
    refine j_locals (lv' := [(0, .ref b), (1, .ref (ad 0)), (2, .ref (am 0)), (3, .ref o), (4, .ref d), (5, vi ((5 * (j : Int))))]) [0, 1, 2, 3, 4, 5] rfl ?_
    exact hB _ _ _ _ _ _ hI2 ha01 (by omega) (by omega)
set_option maxHeartbeats 8000000 in
set_option maxRecDepth 20000 in
theorem lc_6 {κ : Kx} {nmx : String} {b L j k n : Nat} {xs : Nat → Int} {σ : Wd} {tg ad am : Nat → Nat} {S : St} {o d : Nat} (C : Cx κ cL_law 9 RL nmx 9) (HN : Ncs (kS κ)) (hfl : (kL κ).stackTraces = false) (hxs : ∀ i : Nat, -2147483648 ≤ xs i ∧ xs i < 2147483648) (hX : va_X b L (fun j => Int32.ofInt (xs j)) (kS κ) (kS κ).heap) (hbl : b < (kS κ).heap.size) (hbA : ¬ kA κ b) (hL : L < 2147483648) (hI : LI (kc κ) σ tg ad am S o d) (hj : 5 * j + 5 ≤ L) (hk : k + 300 ≤ (kR κ).cells) (hn : n + 8000 ≤ (kR κ).slots) (hB : LB κ b o d (ad 0) am j k n) : J κ σ [(0, .ref b), (1, .ref (ad 0)), (2, .ref (am 0)), (3, .ref o), (4, .ref d), (5, vi (5 * (j : Int)))] 585 [] k n := by
  obtain ⟨a1, ha1⟩ : ∃ a, xs (5 * j + 1) = a := ⟨_, rfl⟩
  have r1 : -2147483648 ≤ a1 ∧ a1 < 2147483648 := by rw [← ha1]; exact hxs _
  obtain ⟨a2, ha2⟩ : ∃ a, xs (5 * j + 2) = a := ⟨_, rfl⟩
  have r2 : -2147483648 ≤ a2 ∧ a2 < 2147483648 := by rw [← ha2]; exact hxs _
  obtain ⟨a3, ha3⟩ : ∃ a, xs (5 * j + 3) = a := ⟨_, rfl⟩
  have r3 : -2147483648 ≤ a3 ∧ a3 < 2147483648 := by rw [← ha3]; exact hxs _
  obtain ⟨a4, ha4⟩ : ∃ a, xs (5 * j + 4) = a := ⟨_, rfl⟩
  have r4 : -2147483648 ≤ a4 ∧ a4 < 2147483648 := by rw [← ha4]; exact hxs _
  obtain ⟨bs, ru, se, pf, hd, ca, evs, ln⟩ := S
  have hX0 : RX (kc κ) σ tg ad bs ru se pf hd ca evs ln := hI.1
  have hO := hX0.ok
  obtain ⟨-, -, ⟨g0, hout⟩, ⟨f0, hdub⟩, ⟨to9, td9⟩, -⟩ := id hI
  refine j_aload_n 1 C dL_law_585 rfl rfl rfl ?_
  refine j_aload_n 0 C dL_law_586 rfl rfl rfl ?_
  refine j_iload 5 C dL_law_587 rfl rfl ?_
  refine j_iconst C dL_law_589 rfl ?_
  refine j_iadd C dL_law_590 rfl ?_
  refine j_sld C hX hbl hbA dL_law_591 rfl ⟨by omega, by omega⟩ (by omega) (y := a1) (by rw [show (5 * (j : Int) + 1).toNat = 5 * j + 1 by omega]; exact ha1) ?_
  refine j_aload_n 0 C dL_law_592 rfl rfl rfl ?_
  refine j_iload 5 C dL_law_593 rfl rfl ?_
  refine j_iconst C dL_law_595 rfl ?_
  refine j_iadd C dL_law_596 rfl ?_
  refine j_sld C hX hbl hbA dL_law_597 rfl ⟨by omega, by omega⟩ (by omega) (y := a2) (by rw [show (5 * (j : Int) + 2).toNat = 5 * j + 2 by omega]; exact ha2) ?_
  refine j_aload_n 3 C dL_law_598 rfl rfl rfl ?_
  refine j_callSN (st' := []) (As := [.ref (ad 0), vi (a1), vi (a2), .ref o]) C HN dL_law_599 rfl m_L_150 rfl rfl (W_setPrice (kL κ) hfl (kD κ) (kc κ) σ tg ad bs ru se pf hd ca evs ln hX0 o g0 hout (by omega) a1 r1 a2 r2) rfl (by omega) (by omega) (by omega) (fun _ _ hx => hx.elim) (fun v1 σ1 hp => ?_)
  obtain ⟨rfl, ⟨tg1, ad1, hR1, hT1, ha01⟩, ⟨g1, ho1, hg1⟩, hK1, hm1⟩ := hp
  have hcr := cr_setPrice bs ru se pf hd ca evs ln a1 a2
  obtain ⟨O, hO9⟩ : ∃ O : Rs, o_setPrice bs ru se pf hd ca evs ln a1 a2 = O := ⟨_, rfl⟩
  show J κ σ1 [(0, .ref b), (1, .ref (ad 0)), (2, .ref (am 0)), (3, .ref o), (4, .ref d), (5, vi ((5 * (j : Int))))] 602 [vi (o_setPrice bs ru se pf hd ca evs ln a1 a2).1] _ _
  rw [hO9] at hR1 hg1 hcr ⊢
  obtain ⟨bl1, th1, hM1⟩ := hI.mod (Or.inl rfl) hK1
  have hf1 := hI.dbl hdub hK1
  show J κ σ1 [(0, .ref b), (1, .ref (ad 0)), (2, .ref (am 0)), (3, .ref o), (4, .ref d), (5, vi ((5 * (j : Int))))] 602 [vi (O.1)] _ _
  refine j_istore (lv' := [(0, .ref b), (1, .ref (ad 0)), (2, .ref (am 0)), (3, .ref o), (4, .ref d), (5, vi ((5 * (j : Int)))), (6, vi (O.1))]) [1, 2, 3, 4, 5, 6, 0] C dL_law_602 rfl rfl rfl ?_
  refine j_aload_n 2 C dL_law_604 rfl rfl rfl ?_
  refine j_aload_n 0 C dL_law_605 rfl rfl rfl ?_
  refine j_iload 5 C dL_law_606 rfl rfl ?_
  refine j_iconst C dL_law_608 rfl ?_
  refine j_iadd C dL_law_609 rfl ?_
  refine j_sld C hX hbl hbA dL_law_610 rfl ⟨by omega, by omega⟩ (by omega) (y := a1) (by rw [show (5 * (j : Int) + 1).toNat = 5 * j + 1 by omega]; exact ha1) ?_
  refine j_aload_n 0 C dL_law_611 rfl rfl rfl ?_
  refine j_iload 5 C dL_law_612 rfl rfl ?_
  refine j_iconst C dL_law_614 rfl ?_
  refine j_iadd C dL_law_615 rfl ?_
  refine j_sld C hX hbl hbA dL_law_616 rfl ⟨by omega, by omega⟩ (by omega) (y := a2) (by rw [show (5 * (j : Int) + 2).toNat = 5 * j + 2 by omega]; exact ha2) ?_
  obtain ⟨-, _, _, _, _, _, _, _, _, _, _, _, _, _, _, _, hrc, -⟩ := id hM1
  refine j_callV (st' := []) (As := [vi (a1), vi (a2)]) C dL_law_617 rfl m_L_152 hrc rfl rfl rfl (m_setPrice (kL κ) hfl (kD κ) (kc κ) σ1 am bs ru se pf hd ca evs ln bl1 th1 hM1 a1 r1 a2 r2) rfl (by omega) (by omega) (by omega) (fun _ _ hx => hx.elim) (fun v2 σ2 hp2 => ?_)
  obtain ⟨rz, rfl, hrz, ⟨bl2, hM2⟩, hK2, hd2⟩ := hp2
  rw [hO9] at hrz hM2
  obtain ⟨hI2, ho2, hf2⟩ := hI.mk2 hR1 hT1 ho1 hf1 hm1 hM2 hK2 hd2
  show J κ σ2 [(0, .ref b), (1, .ref (ad 0)), (2, .ref (am 0)), (3, .ref o), (4, .ref d), (5, vi ((5 * (j : Int)))), (6, vi (O.1))] 620 [vi (rz)] _ _
  refine j_istore (lv' := [(0, .ref b), (1, .ref (ad 0)), (2, .ref (am 0)), (3, .ref o), (4, .ref d), (5, vi ((5 * (j : Int)))), (6, vi (O.1)), (7, vi (rz))]) [1, 2, 3, 4, 5, 6, 7, 0] C dL_law_620 rfl rfl rfl ?_
  refine j_aload_n 2 C dL_law_622 rfl rfl rfl ?_
  obtain ⟨-, _, _, _, _, _, _, _, _, _, _, _, _, _, _, _, hrc, -⟩ := id hM2
  refine j_callV (st' := []) (As := []) C dL_law_623 rfl m_L_127 hrc rfl rfl rfl (m_thrown (kL κ) hfl (kD κ) (kc κ) σ2 am _ _ _ _ _ _ _ _ bl2 O.1 hM2) rfl (by omega) (by omega) (by omega) (fun _ _ hx => hx.elim) (fun v3 σ3 hp3 => ?_)
  obtain ⟨rfl, hs9⟩ := hp3
  replace hs9 := hs9.symm
  subst hs9
  show J κ σ2 [(0, .ref b), (1, .ref (ad 0)), (2, .ref (am 0)), (3, .ref o), (4, .ref d), (5, vi ((5 * (j : Int)))), (6, vi (O.1)), (7, vi (rz))] 626 [vi (O.1)] _ _
  refine j_iload 6 C dL_law_626 rfl rfl ?_
  refine j_icmp_same (tgt := 633) C dL_law_628 rfl ?_
  refine j_iload 6 C dL_law_633 rfl rfl ?_
  refine j_if_ne (tgt := 650) C dL_law_635 rfl rfl ⟨by omega, by omega⟩ (fun cc1 => ?_) (fun cc1 => ?_)
  · refine j_goto (tgt := 2447) C dL_law_650 rfl ?_
    refine j_locals (lv' := [(0, .ref b), (1, .ref (ad 0)), (2, .ref (am 0)), (3, .ref o), (4, .ref d), (5, vi ((5 * (j : Int))))]) [0, 1, 2, 3, 4, 5] rfl ?_
    exact hB _ _ _ _ _ _ hI2 ha01 (by omega) (by omega)
  · have e8 : vi rz = vi (w32 O.2.1) := by rw [hrz cc1]; exact vi_w _
    rw [e8]
    refine j_aload_n 3 C dL_law_638 rfl rfl rfl ?_
    refine j_iconst C dL_law_639 rfl ?_
    refine j_lald C dL_law_640 rfl ho2 ⟨by decide, by decide⟩ (by decide) (y := w32 O.2.1) (hg1 cc1) ?_
    refine j_iload 7 C dL_law_641 rfl rfl ?_
    refine j_i2l C dL_law_643 rfl (w32_in _) ?_
    refine j_lcmp_same C dL_law_644 rfl ?_
    refine j_if_eq (tgt := 650) C dL_law_645 rfl rfl ⟨by decide, by decide⟩ (fun _ => ?_) (fun cc => absurd cc (by decide))
    refine j_goto (tgt := 2447) C dL_law_650 rfl ?_
    refine j_locals (lv' := [(0, .ref b), (1, .ref (ad 0)), (2, .ref (am 0)), (3, .ref o), (4, .ref d), (5, vi ((5 * (j : Int))))]) [0, 1, 2, 3, 4, 5] rfl ?_
    exact hB _ _ _ _ _ _ hI2 ha01 (by omega) (by omega)
set_option maxHeartbeats 8000000 in
set_option maxRecDepth 20000 in
theorem lc_7 {κ : Kx} {nmx : String} {b L j k n : Nat} {xs : Nat → Int} {σ : Wd} {tg ad am : Nat → Nat} {S : St} {o d : Nat} (C : Cx κ cL_law 9 RL nmx 9) (HN : Ncs (kS κ)) (hfl : (kL κ).stackTraces = false) (hxs : ∀ i : Nat, -2147483648 ≤ xs i ∧ xs i < 2147483648) (hX : va_X b L (fun j => Int32.ofInt (xs j)) (kS κ) (kS κ).heap) (hbl : b < (kS κ).heap.size) (hbA : ¬ kA κ b) (hL : L < 2147483648) (hI : LI (kc κ) σ tg ad am S o d) (hj : 5 * j + 5 ≤ L) (hk : k + 300 ≤ (kR κ).cells) (hn : n + 8000 ≤ (kR κ).slots) (hB : LB κ b o d (ad 0) am j k n) : J κ σ [(0, .ref b), (1, .ref (ad 0)), (2, .ref (am 0)), (3, .ref o), (4, .ref d), (5, vi (5 * (j : Int)))] 653 [] k n := by
  obtain ⟨a1, ha1⟩ : ∃ a, xs (5 * j + 1) = a := ⟨_, rfl⟩
  have r1 : -2147483648 ≤ a1 ∧ a1 < 2147483648 := by rw [← ha1]; exact hxs _
  obtain ⟨a2, ha2⟩ : ∃ a, xs (5 * j + 2) = a := ⟨_, rfl⟩
  have r2 : -2147483648 ≤ a2 ∧ a2 < 2147483648 := by rw [← ha2]; exact hxs _
  obtain ⟨a3, ha3⟩ : ∃ a, xs (5 * j + 3) = a := ⟨_, rfl⟩
  have r3 : -2147483648 ≤ a3 ∧ a3 < 2147483648 := by rw [← ha3]; exact hxs _
  obtain ⟨a4, ha4⟩ : ∃ a, xs (5 * j + 4) = a := ⟨_, rfl⟩
  have r4 : -2147483648 ≤ a4 ∧ a4 < 2147483648 := by rw [← ha4]; exact hxs _
  obtain ⟨bs, ru, se, pf, hd, ca, evs, ln⟩ := S
  have hX0 : RX (kc κ) σ tg ad bs ru se pf hd ca evs ln := hI.1
  have hO := hX0.ok
  obtain ⟨-, -, ⟨g0, hout⟩, ⟨f0, hdub⟩, ⟨to9, td9⟩, -⟩ := id hI
  refine j_aload_n 1 C dL_law_653 rfl rfl rfl ?_
  refine j_aload_n 0 C dL_law_654 rfl rfl rfl ?_
  refine j_iload 5 C dL_law_655 rfl rfl ?_
  refine j_iconst C dL_law_657 rfl ?_
  refine j_iadd C dL_law_658 rfl ?_
  refine j_sld C hX hbl hbA dL_law_659 rfl ⟨by omega, by omega⟩ (by omega) (y := a1) (by rw [show (5 * (j : Int) + 1).toNat = 5 * j + 1 by omega]; exact ha1) ?_
  refine j_aload_n 3 C dL_law_660 rfl rfl rfl ?_
  refine j_callSN (st' := []) (As := [.ref (ad 0), vi (a1), .ref o]) C HN dL_law_661 rfl m_L_153 rfl rfl (W_priceOf (kL κ) hfl (kD κ) (kc κ) σ tg ad bs ru se pf hd ca evs ln hX0 o g0 hout (by omega) a1 r1) rfl (by omega) (by omega) (by omega) (fun _ _ hx => hx.elim) (fun v1 σ1 hp => ?_)
  obtain ⟨rfl, ⟨tg1, ad1, hR1, hT1, ha01⟩, ⟨g1, ho1, hg1⟩, hK1, hm1⟩ := hp
  have hcr := cr_priceOf bs ru se pf hd ca evs ln a1
  obtain ⟨O, hO9⟩ : ∃ O : Rs, o_priceOf bs ru se pf hd ca evs ln a1 = O := ⟨_, rfl⟩
  show J κ σ1 [(0, .ref b), (1, .ref (ad 0)), (2, .ref (am 0)), (3, .ref o), (4, .ref d), (5, vi ((5 * (j : Int))))] 664 [vi (o_priceOf bs ru se pf hd ca evs ln a1).1] _ _
  rw [hO9] at hR1 hg1 hcr ⊢
  obtain ⟨bl1, th1, hM1⟩ := hI.mod (Or.inl rfl) hK1
  have hf1 := hI.dbl hdub hK1
  show J κ σ1 [(0, .ref b), (1, .ref (ad 0)), (2, .ref (am 0)), (3, .ref o), (4, .ref d), (5, vi ((5 * (j : Int))))] 664 [vi (O.1)] _ _
  refine j_istore (lv' := [(0, .ref b), (1, .ref (ad 0)), (2, .ref (am 0)), (3, .ref o), (4, .ref d), (5, vi ((5 * (j : Int)))), (6, vi (O.1))]) [1, 2, 3, 4, 5, 6, 0] C dL_law_664 rfl rfl rfl ?_
  refine j_aload_n 2 C dL_law_666 rfl rfl rfl ?_
  refine j_aload_n 0 C dL_law_667 rfl rfl rfl ?_
  refine j_iload 5 C dL_law_668 rfl rfl ?_
  refine j_iconst C dL_law_670 rfl ?_
  refine j_iadd C dL_law_671 rfl ?_
  refine j_sld C hX hbl hbA dL_law_672 rfl ⟨by omega, by omega⟩ (by omega) (y := a1) (by rw [show (5 * (j : Int) + 1).toNat = 5 * j + 1 by omega]; exact ha1) ?_
  obtain ⟨-, _, _, _, _, _, _, _, _, _, _, _, _, _, _, _, hrc, -⟩ := id hM1
  refine j_callV (st' := []) (As := [vi (a1)]) C dL_law_673 rfl m_L_155 hrc rfl rfl rfl (m_priceOf (kL κ) hfl (kD κ) (kc κ) σ1 am bs ru se pf hd ca evs ln bl1 th1 hM1 a1 r1) rfl (by omega) (by omega) (by omega) (fun _ _ hx => hx.elim) (fun v2 σ2 hp2 => ?_)
  obtain ⟨rz, rfl, hrz, ⟨bl2, hM2⟩, hK2, hd2⟩ := hp2
  rw [hO9] at hrz hM2
  obtain ⟨hI2, ho2, hf2⟩ := hI.mk2 hR1 hT1 ho1 hf1 hm1 hM2 hK2 hd2
  show J κ σ2 [(0, .ref b), (1, .ref (ad 0)), (2, .ref (am 0)), (3, .ref o), (4, .ref d), (5, vi ((5 * (j : Int)))), (6, vi (O.1))] 676 [vi (rz)] _ _
  refine j_istore (lv' := [(0, .ref b), (1, .ref (ad 0)), (2, .ref (am 0)), (3, .ref o), (4, .ref d), (5, vi ((5 * (j : Int)))), (6, vi (O.1)), (7, vi (rz))]) [1, 2, 3, 4, 5, 6, 7, 0] C dL_law_676 rfl rfl rfl ?_
  refine j_aload_n 2 C dL_law_678 rfl rfl rfl ?_
  obtain ⟨-, _, _, _, _, _, _, _, _, _, _, _, _, _, _, _, hrc, -⟩ := id hM2
  refine j_callV (st' := []) (As := []) C dL_law_679 rfl m_L_127 hrc rfl rfl rfl (m_thrown (kL κ) hfl (kD κ) (kc κ) σ2 am _ _ _ _ _ _ _ _ bl2 O.1 hM2) rfl (by omega) (by omega) (by omega) (fun _ _ hx => hx.elim) (fun v3 σ3 hp3 => ?_)
  obtain ⟨rfl, hs9⟩ := hp3
  replace hs9 := hs9.symm
  subst hs9
  show J κ σ2 [(0, .ref b), (1, .ref (ad 0)), (2, .ref (am 0)), (3, .ref o), (4, .ref d), (5, vi ((5 * (j : Int)))), (6, vi (O.1)), (7, vi (rz))] 682 [vi (O.1)] _ _
  refine j_iload 6 C dL_law_682 rfl rfl ?_
  refine j_icmp_same (tgt := 689) C dL_law_684 rfl ?_
  refine j_iload 6 C dL_law_689 rfl rfl ?_
  refine j_if_ne (tgt := 706) C dL_law_691 rfl rfl ⟨by omega, by omega⟩ (fun cc1 => ?_) (fun cc1 => ?_)
  · refine j_goto (tgt := 2447) C dL_law_706 rfl ?_
    refine j_locals (lv' := [(0, .ref b), (1, .ref (ad 0)), (2, .ref (am 0)), (3, .ref o), (4, .ref d), (5, vi ((5 * (j : Int))))]) [0, 1, 2, 3, 4, 5] rfl ?_
    exact hB _ _ _ _ _ _ hI2 ha01 (by omega) (by omega)
  · have e8 : vi rz = vi (w32 O.2.1) := by rw [hrz cc1]; exact vi_w _
    rw [e8]
    refine j_aload_n 3 C dL_law_694 rfl rfl rfl ?_
    refine j_iconst C dL_law_695 rfl ?_
    refine j_lald C dL_law_696 rfl ho2 ⟨by decide, by decide⟩ (by decide) (y := w32 O.2.1) (hg1 cc1) ?_
    refine j_iload 7 C dL_law_697 rfl rfl ?_
    refine j_i2l C dL_law_699 rfl (w32_in _) ?_
    refine j_lcmp_same C dL_law_700 rfl ?_
    refine j_if_eq (tgt := 706) C dL_law_701 rfl rfl ⟨by decide, by decide⟩ (fun _ => ?_) (fun cc => absurd cc (by decide))
    refine j_goto (tgt := 2447) C dL_law_706 rfl ?_
    refine j_locals (lv' := [(0, .ref b), (1, .ref (ad 0)), (2, .ref (am 0)), (3, .ref o), (4, .ref d), (5, vi ((5 * (j : Int))))]) [0, 1, 2, 3, 4, 5] rfl ?_
    exact hB _ _ _ _ _ _ hI2 ha01 (by omega) (by omega)
set_option maxHeartbeats 8000000 in
set_option maxRecDepth 20000 in
theorem lc_8 {κ : Kx} {nmx : String} {b L j k n : Nat} {xs : Nat → Int} {σ : Wd} {tg ad am : Nat → Nat} {S : St} {o d : Nat} (C : Cx κ cL_law 9 RL nmx 9) (HN : Ncs (kS κ)) (hfl : (kL κ).stackTraces = false) (hxs : ∀ i : Nat, -2147483648 ≤ xs i ∧ xs i < 2147483648) (hX : va_X b L (fun j => Int32.ofInt (xs j)) (kS κ) (kS κ).heap) (hbl : b < (kS κ).heap.size) (hbA : ¬ kA κ b) (hL : L < 2147483648) (hI : LI (kc κ) σ tg ad am S o d) (hj : 5 * j + 5 ≤ L) (hk : k + 300 ≤ (kR κ).cells) (hn : n + 8000 ≤ (kR κ).slots) (hB : LB κ b o d (ad 0) am j k n) : J κ σ [(0, .ref b), (1, .ref (ad 0)), (2, .ref (am 0)), (3, .ref o), (4, .ref d), (5, vi (5 * (j : Int)))] 709 [] k n := by
  obtain ⟨a1, ha1⟩ : ∃ a, xs (5 * j + 1) = a := ⟨_, rfl⟩
  have r1 : -2147483648 ≤ a1 ∧ a1 < 2147483648 := by rw [← ha1]; exact hxs _
  obtain ⟨a2, ha2⟩ : ∃ a, xs (5 * j + 2) = a := ⟨_, rfl⟩
  have r2 : -2147483648 ≤ a2 ∧ a2 < 2147483648 := by rw [← ha2]; exact hxs _
  obtain ⟨a3, ha3⟩ : ∃ a, xs (5 * j + 3) = a := ⟨_, rfl⟩
  have r3 : -2147483648 ≤ a3 ∧ a3 < 2147483648 := by rw [← ha3]; exact hxs _
  obtain ⟨a4, ha4⟩ : ∃ a, xs (5 * j + 4) = a := ⟨_, rfl⟩
  have r4 : -2147483648 ≤ a4 ∧ a4 < 2147483648 := by rw [← ha4]; exact hxs _
  obtain ⟨bs, ru, se, pf, hd, ca, evs, ln⟩ := S
  have hX0 : RX (kc κ) σ tg ad bs ru se pf hd ca evs ln := hI.1
  have hO := hX0.ok
  obtain ⟨-, -, ⟨g0, hout⟩, ⟨f0, hdub⟩, ⟨to9, td9⟩, -⟩ := id hI
  refine j_aload_n 1 C dL_law_709 rfl rfl rfl ?_
  refine j_aload_n 0 C dL_law_710 rfl rfl rfl ?_
  refine j_iload 5 C dL_law_711 rfl rfl ?_
  refine j_iconst C dL_law_713 rfl ?_
  refine j_iadd C dL_law_714 rfl ?_
  refine j_sld C hX hbl hbA dL_law_715 rfl ⟨by omega, by omega⟩ (by omega) (y := a1) (by rw [show (5 * (j : Int) + 1).toNat = 5 * j + 1 by omega]; exact ha1) ?_
  refine j_aload_n 0 C dL_law_716 rfl rfl rfl ?_
  refine j_iload 5 C dL_law_717 rfl rfl ?_
  refine j_iconst C dL_law_719 rfl ?_
  refine j_iadd C dL_law_720 rfl ?_
  refine j_sld C hX hbl hbA dL_law_721 rfl ⟨by omega, by omega⟩ (by omega) (y := a2) (by rw [show (5 * (j : Int) + 2).toNat = 5 * j + 2 by omega]; exact ha2) ?_
  refine j_aload_n 0 C dL_law_722 rfl rfl rfl ?_
  refine j_iload 5 C dL_law_723 rfl rfl ?_
  refine j_iconst C dL_law_725 rfl ?_
  refine j_iadd C dL_law_726 rfl ?_
  refine j_sld C hX hbl hbA dL_law_727 rfl ⟨by omega, by omega⟩ (by omega) (y := a3) (by rw [show (5 * (j : Int) + 3).toNat = 5 * j + 3 by omega]; exact ha3) ?_
  refine j_aload_n 0 C dL_law_728 rfl rfl rfl ?_
  refine j_iload 5 C dL_law_729 rfl rfl ?_
  refine j_iconst C dL_law_731 rfl ?_
  refine j_iadd C dL_law_732 rfl ?_
  refine j_sld C hX hbl hbA dL_law_733 rfl ⟨by omega, by omega⟩ (by omega) (y := a4) (by rw [show (5 * (j : Int) + 4).toNat = 5 * j + 4 by omega]; exact ha4) ?_
  refine j_aload_n 3 C dL_law_734 rfl rfl rfl ?_
  refine j_callSN (st' := []) (As := [.ref (ad 0), vi (a1), vi (a2), vi (a3), vi (a4), .ref o]) C HN dL_law_735 rfl m_L_156 rfl rfl (W_load (kL κ) hfl (kD κ) (kc κ) σ tg ad bs ru se pf hd ca evs ln hX0 o g0 hout (by omega) a1 r1 a2 r2 a3 r3 a4 r4) rfl (by omega) (by omega) (by omega) (fun _ _ hx => hx.elim) (fun v1 σ1 hp => ?_)
  obtain ⟨rfl, ⟨tg1, ad1, hR1, hT1, ha01⟩, ⟨g1, ho1, hg1⟩, hK1, hm1⟩ := hp
  have hcr := cr_load bs ru se pf hd ca evs ln a1 a2 a3 a4
  obtain ⟨O, hO9⟩ : ∃ O : Rs, o_load bs ru se pf hd ca evs ln a1 a2 a3 a4 = O := ⟨_, rfl⟩
  show J κ σ1 [(0, .ref b), (1, .ref (ad 0)), (2, .ref (am 0)), (3, .ref o), (4, .ref d), (5, vi ((5 * (j : Int))))] 738 [vi (o_load bs ru se pf hd ca evs ln a1 a2 a3 a4).1] _ _
  rw [hO9] at hR1 hg1 hcr ⊢
  obtain ⟨bl1, th1, hM1⟩ := hI.mod (Or.inl rfl) hK1
  have hf1 := hI.dbl hdub hK1
  show J κ σ1 [(0, .ref b), (1, .ref (ad 0)), (2, .ref (am 0)), (3, .ref o), (4, .ref d), (5, vi ((5 * (j : Int))))] 738 [vi (O.1)] _ _
  refine j_istore (lv' := [(0, .ref b), (1, .ref (ad 0)), (2, .ref (am 0)), (3, .ref o), (4, .ref d), (5, vi ((5 * (j : Int)))), (6, vi (O.1))]) [1, 2, 3, 4, 5, 6, 0] C dL_law_738 rfl rfl rfl ?_
  refine j_aload_n 2 C dL_law_740 rfl rfl rfl ?_
  refine j_aload_n 0 C dL_law_741 rfl rfl rfl ?_
  refine j_iload 5 C dL_law_742 rfl rfl ?_
  refine j_iconst C dL_law_744 rfl ?_
  refine j_iadd C dL_law_745 rfl ?_
  refine j_sld C hX hbl hbA dL_law_746 rfl ⟨by omega, by omega⟩ (by omega) (y := a1) (by rw [show (5 * (j : Int) + 1).toNat = 5 * j + 1 by omega]; exact ha1) ?_
  refine j_aload_n 0 C dL_law_747 rfl rfl rfl ?_
  refine j_iload 5 C dL_law_748 rfl rfl ?_
  refine j_iconst C dL_law_750 rfl ?_
  refine j_iadd C dL_law_751 rfl ?_
  refine j_sld C hX hbl hbA dL_law_752 rfl ⟨by omega, by omega⟩ (by omega) (y := a2) (by rw [show (5 * (j : Int) + 2).toNat = 5 * j + 2 by omega]; exact ha2) ?_
  refine j_aload_n 0 C dL_law_753 rfl rfl rfl ?_
  refine j_iload 5 C dL_law_754 rfl rfl ?_
  refine j_iconst C dL_law_756 rfl ?_
  refine j_iadd C dL_law_757 rfl ?_
  refine j_sld C hX hbl hbA dL_law_758 rfl ⟨by omega, by omega⟩ (by omega) (y := a3) (by rw [show (5 * (j : Int) + 3).toNat = 5 * j + 3 by omega]; exact ha3) ?_
  refine j_aload_n 0 C dL_law_759 rfl rfl rfl ?_
  refine j_iload 5 C dL_law_760 rfl rfl ?_
  refine j_iconst C dL_law_762 rfl ?_
  refine j_iadd C dL_law_763 rfl ?_
  refine j_sld C hX hbl hbA dL_law_764 rfl ⟨by omega, by omega⟩ (by omega) (y := a4) (by rw [show (5 * (j : Int) + 4).toNat = 5 * j + 4 by omega]; exact ha4) ?_
  obtain ⟨-, _, _, _, _, _, _, _, _, _, _, _, _, _, _, _, hrc, -⟩ := id hM1
  refine j_callV (st' := []) (As := [vi (a1), vi (a2), vi (a3), vi (a4)]) C dL_law_765 rfl m_L_158 hrc rfl rfl rfl (m_load (kL κ) hfl (kD κ) (kc κ) σ1 am bs ru se pf hd ca evs ln bl1 th1 hM1 a1 r1 a2 r2 a3 r3 a4 r4 hO) rfl (by omega) (by omega) (by omega) (fun _ _ hx => hx.elim) (fun v2 σ2 hp2 => ?_)
  obtain ⟨rz, rfl, hrz, ⟨bl2, hM2⟩, hK2, hd2⟩ := hp2
  rw [hO9] at hrz hM2
  obtain ⟨hI2, ho2, hf2⟩ := hI.mk2 hR1 hT1 ho1 hf1 hm1 hM2 hK2 hd2
  show J κ σ2 [(0, .ref b), (1, .ref (ad 0)), (2, .ref (am 0)), (3, .ref o), (4, .ref d), (5, vi ((5 * (j : Int)))), (6, vi (O.1))] 768 [vi (rz)] _ _
  refine j_istore (lv' := [(0, .ref b), (1, .ref (ad 0)), (2, .ref (am 0)), (3, .ref o), (4, .ref d), (5, vi ((5 * (j : Int)))), (6, vi (O.1)), (7, vi (rz))]) [1, 2, 3, 4, 5, 6, 7, 0] C dL_law_768 rfl rfl rfl ?_
  refine j_aload_n 2 C dL_law_770 rfl rfl rfl ?_
  obtain ⟨-, _, _, _, _, _, _, _, _, _, _, _, _, _, _, _, hrc, -⟩ := id hM2
  refine j_callV (st' := []) (As := []) C dL_law_771 rfl m_L_127 hrc rfl rfl rfl (m_thrown (kL κ) hfl (kD κ) (kc κ) σ2 am _ _ _ _ _ _ _ _ bl2 O.1 hM2) rfl (by omega) (by omega) (by omega) (fun _ _ hx => hx.elim) (fun v3 σ3 hp3 => ?_)
  obtain ⟨rfl, hs9⟩ := hp3
  replace hs9 := hs9.symm
  subst hs9
  show J κ σ2 [(0, .ref b), (1, .ref (ad 0)), (2, .ref (am 0)), (3, .ref o), (4, .ref d), (5, vi ((5 * (j : Int)))), (6, vi (O.1)), (7, vi (rz))] 774 [vi (O.1)] _ _
  refine j_iload 6 C dL_law_774 rfl rfl ?_
  refine j_icmp_same (tgt := 781) C dL_law_776 rfl ?_
  refine j_iload 6 C dL_law_781 rfl rfl ?_
  refine j_if_ne (tgt := 798) C dL_law_783 rfl rfl ⟨by omega, by omega⟩ (fun cc1 => ?_) (fun cc1 => ?_)
  · refine j_goto (tgt := 2447) C dL_law_798 rfl ?_
    refine j_locals (lv' := [(0, .ref b), (1, .ref (ad 0)), (2, .ref (am 0)), (3, .ref o), (4, .ref d), (5, vi ((5 * (j : Int))))]) [0, 1, 2, 3, 4, 5] rfl ?_
    exact hB _ _ _ _ _ _ hI2 ha01 (by omega) (by omega)
  · have e8 : vi rz = vi (w32 O.2.1) := by rw [hrz cc1]; exact vi_w _
    rw [e8]
    refine j_aload_n 3 C dL_law_786 rfl rfl rfl ?_
    refine j_iconst C dL_law_787 rfl ?_
    refine j_lald C dL_law_788 rfl ho2 ⟨by decide, by decide⟩ (by decide) (y := w32 O.2.1) (hg1 cc1) ?_
    refine j_iload 7 C dL_law_789 rfl rfl ?_
    refine j_i2l C dL_law_791 rfl (w32_in _) ?_
    refine j_lcmp_same C dL_law_792 rfl ?_
    refine j_if_eq (tgt := 798) C dL_law_793 rfl rfl ⟨by decide, by decide⟩ (fun _ => ?_) (fun cc => absurd cc (by decide))
    refine j_goto (tgt := 2447) C dL_law_798 rfl ?_
    refine j_locals (lv' := [(0, .ref b), (1, .ref (ad 0)), (2, .ref (am 0)), (3, .ref o), (4, .ref d), (5, vi ((5 * (j : Int))))]) [0, 1, 2, 3, 4, 5] rfl ?_
    exact hB _ _ _ _ _ _ hI2 ha01 (by omega) (by omega)
set_option maxHeartbeats 8000000 in
set_option maxRecDepth 20000 in
theorem lc_9 {κ : Kx} {nmx : String} {b L j k n : Nat} {xs : Nat → Int} {σ : Wd} {tg ad am : Nat → Nat} {S : St} {o d : Nat} (C : Cx κ cL_law 9 RL nmx 9) (HN : Ncs (kS κ)) (hfl : (kL κ).stackTraces = false) (hxs : ∀ i : Nat, -2147483648 ≤ xs i ∧ xs i < 2147483648) (hX : va_X b L (fun j => Int32.ofInt (xs j)) (kS κ) (kS κ).heap) (hbl : b < (kS κ).heap.size) (hbA : ¬ kA κ b) (hL : L < 2147483648) (hI : LI (kc κ) σ tg ad am S o d) (hj : 5 * j + 5 ≤ L) (hk : k + 300 ≤ (kR κ).cells) (hn : n + 8000 ≤ (kR κ).slots) (hB : LB κ b o d (ad 0) am j k n) : J κ σ [(0, .ref b), (1, .ref (ad 0)), (2, .ref (am 0)), (3, .ref o), (4, .ref d), (5, vi (5 * (j : Int)))] 801 [] k n := by
  obtain ⟨a1, ha1⟩ : ∃ a, xs (5 * j + 1) = a := ⟨_, rfl⟩
  have r1 : -2147483648 ≤ a1 ∧ a1 < 2147483648 := by rw [← ha1]; exact hxs _
  obtain ⟨a2, ha2⟩ : ∃ a, xs (5 * j + 2) = a := ⟨_, rfl⟩
  have r2 : -2147483648 ≤ a2 ∧ a2 < 2147483648 := by rw [← ha2]; exact hxs _
  obtain ⟨a3, ha3⟩ : ∃ a, xs (5 * j + 3) = a := ⟨_, rfl⟩
  have r3 : -2147483648 ≤ a3 ∧ a3 < 2147483648 := by rw [← ha3]; exact hxs _
  obtain ⟨a4, ha4⟩ : ∃ a, xs (5 * j + 4) = a := ⟨_, rfl⟩
  have r4 : -2147483648 ≤ a4 ∧ a4 < 2147483648 := by rw [← ha4]; exact hxs _
  obtain ⟨bs, ru, se, pf, hd, ca, evs, ln⟩ := S
  have hX0 : RX (kc κ) σ tg ad bs ru se pf hd ca evs ln := hI.1
  have hO := hX0.ok
  obtain ⟨-, -, ⟨g0, hout⟩, ⟨f0, hdub⟩, ⟨to9, td9⟩, -⟩ := id hI
  refine j_aload_n 1 C dL_law_801 rfl rfl rfl ?_
  refine j_aload_n 0 C dL_law_802 rfl rfl rfl ?_
  refine j_iload 5 C dL_law_803 rfl rfl ?_
  refine j_iconst C dL_law_805 rfl ?_
  refine j_iadd C dL_law_806 rfl ?_
  refine j_sld C hX hbl hbA dL_law_807 rfl ⟨by omega, by omega⟩ (by omega) (y := a1) (by rw [show (5 * (j : Int) + 1).toNat = 5 * j + 1 by omega]; exact ha1) ?_
  refine j_aload_n 0 C dL_law_808 rfl rfl rfl ?_
  refine j_iload 5 C dL_law_809 rfl rfl ?_
  refine j_iconst C dL_law_811 rfl ?_
  refine j_iadd C dL_law_812 rfl ?_
  refine j_sld C hX hbl hbA dL_law_813 rfl ⟨by omega, by omega⟩ (by omega) (y := a2) (by rw [show (5 * (j : Int) + 2).toNat = 5 * j + 2 by omega]; exact ha2) ?_
  refine j_aload_n 3 C dL_law_814 rfl rfl rfl ?_
  refine j_callSN (st' := []) (As := [.ref (ad 0), vi (a1), vi (a2), .ref o]) C HN dL_law_815 rfl m_L_159 rfl rfl (W_sell (kL κ) hfl (kD κ) (kc κ) σ tg ad bs ru se pf hd ca evs ln hX0 o g0 hout (by omega) a1 r1 a2 r2) rfl (by omega) (by omega) (by omega) (fun _ _ hx => hx.elim) (fun v1 σ1 hp => ?_)
  obtain ⟨rfl, ⟨tg1, ad1, hR1, hT1, ha01⟩, ⟨g1, ho1, hg1⟩, hK1, hm1⟩ := hp
  have hcr := cr_sell bs ru se pf hd ca evs ln a1 a2
  obtain ⟨O, hO9⟩ : ∃ O : Rs, o_sell bs ru se pf hd ca evs ln a1 a2 = O := ⟨_, rfl⟩
  show J κ σ1 [(0, .ref b), (1, .ref (ad 0)), (2, .ref (am 0)), (3, .ref o), (4, .ref d), (5, vi ((5 * (j : Int))))] 818 [vi (o_sell bs ru se pf hd ca evs ln a1 a2).1] _ _
  rw [hO9] at hR1 hg1 hcr ⊢
  obtain ⟨bl1, th1, hM1⟩ := hI.mod (Or.inl rfl) hK1
  have hf1 := hI.dbl hdub hK1
  show J κ σ1 [(0, .ref b), (1, .ref (ad 0)), (2, .ref (am 0)), (3, .ref o), (4, .ref d), (5, vi ((5 * (j : Int))))] 818 [vi (O.1)] _ _
  refine j_istore (lv' := [(0, .ref b), (1, .ref (ad 0)), (2, .ref (am 0)), (3, .ref o), (4, .ref d), (5, vi ((5 * (j : Int)))), (6, vi (O.1))]) [1, 2, 3, 4, 5, 6, 0] C dL_law_818 rfl rfl rfl ?_
  refine j_aload_n 2 C dL_law_820 rfl rfl rfl ?_
  refine j_aload_n 0 C dL_law_821 rfl rfl rfl ?_
  refine j_iload 5 C dL_law_822 rfl rfl ?_
  refine j_iconst C dL_law_824 rfl ?_
  refine j_iadd C dL_law_825 rfl ?_
  refine j_sld C hX hbl hbA dL_law_826 rfl ⟨by omega, by omega⟩ (by omega) (y := a1) (by rw [show (5 * (j : Int) + 1).toNat = 5 * j + 1 by omega]; exact ha1) ?_
  refine j_aload_n 0 C dL_law_827 rfl rfl rfl ?_
  refine j_iload 5 C dL_law_828 rfl rfl ?_
  refine j_iconst C dL_law_830 rfl ?_
  refine j_iadd C dL_law_831 rfl ?_
  refine j_sld C hX hbl hbA dL_law_832 rfl ⟨by omega, by omega⟩ (by omega) (y := a2) (by rw [show (5 * (j : Int) + 2).toNat = 5 * j + 2 by omega]; exact ha2) ?_
  obtain ⟨-, _, _, _, _, _, _, _, _, _, _, _, _, _, _, _, hrc, -⟩ := id hM1
  refine j_callV (st' := []) (As := [vi (a1), vi (a2)]) C dL_law_833 rfl m_L_161 hrc rfl rfl rfl (m_sell (kL κ) hfl (kD κ) (kc κ) σ1 am bs ru se pf hd ca evs ln bl1 th1 hM1 a1 r1 a2 r2 hO) rfl (by omega) (by omega) (by omega) (fun _ _ hx => hx.elim) (fun v2 σ2 hp2 => ?_)
  obtain ⟨rz, rfl, hrz, ⟨bl2, hM2⟩, hK2, hd2⟩ := hp2
  rw [hO9] at hrz hM2
  obtain ⟨hI2, ho2, hf2⟩ := hI.mk2 hR1 hT1 ho1 hf1 hm1 hM2 hK2 hd2
  show J κ σ2 [(0, .ref b), (1, .ref (ad 0)), (2, .ref (am 0)), (3, .ref o), (4, .ref d), (5, vi ((5 * (j : Int)))), (6, vi (O.1))] 836 [vi (rz)] _ _
  refine j_istore (lv' := [(0, .ref b), (1, .ref (ad 0)), (2, .ref (am 0)), (3, .ref o), (4, .ref d), (5, vi ((5 * (j : Int)))), (6, vi (O.1)), (7, vi (rz))]) [1, 2, 3, 4, 5, 6, 7, 0] C dL_law_836 rfl rfl rfl ?_
  refine j_aload_n 2 C dL_law_838 rfl rfl rfl ?_
  obtain ⟨-, _, _, _, _, _, _, _, _, _, _, _, _, _, _, _, hrc, -⟩ := id hM2
  refine j_callV (st' := []) (As := []) C dL_law_839 rfl m_L_127 hrc rfl rfl rfl (m_thrown (kL κ) hfl (kD κ) (kc κ) σ2 am _ _ _ _ _ _ _ _ bl2 O.1 hM2) rfl (by omega) (by omega) (by omega) (fun _ _ hx => hx.elim) (fun v3 σ3 hp3 => ?_)
  obtain ⟨rfl, hs9⟩ := hp3
  replace hs9 := hs9.symm
  subst hs9
  show J κ σ2 [(0, .ref b), (1, .ref (ad 0)), (2, .ref (am 0)), (3, .ref o), (4, .ref d), (5, vi ((5 * (j : Int)))), (6, vi (O.1)), (7, vi (rz))] 842 [vi (O.1)] _ _
  refine j_iload 6 C dL_law_842 rfl rfl ?_
  refine j_icmp_same (tgt := 849) C dL_law_844 rfl ?_
  refine j_iload 6 C dL_law_849 rfl rfl ?_
  refine j_if_ne (tgt := 866) C dL_law_851 rfl rfl ⟨by omega, by omega⟩ (fun cc1 => ?_) (fun cc1 => ?_)
  · refine j_goto (tgt := 2447) C dL_law_866 rfl ?_
    refine j_locals (lv' := [(0, .ref b), (1, .ref (ad 0)), (2, .ref (am 0)), (3, .ref o), (4, .ref d), (5, vi ((5 * (j : Int))))]) [0, 1, 2, 3, 4, 5] rfl ?_
    exact hB _ _ _ _ _ _ hI2 ha01 (by omega) (by omega)
  · have e8 : vi rz = vi (w32 O.2.1) := by rw [hrz cc1]; exact vi_w _
    rw [e8]
    refine j_aload_n 3 C dL_law_854 rfl rfl rfl ?_
    refine j_iconst C dL_law_855 rfl ?_
    refine j_lald C dL_law_856 rfl ho2 ⟨by decide, by decide⟩ (by decide) (y := w32 O.2.1) (hg1 cc1) ?_
    refine j_iload 7 C dL_law_857 rfl rfl ?_
    refine j_i2l C dL_law_859 rfl (w32_in _) ?_
    refine j_lcmp_same C dL_law_860 rfl ?_
    refine j_if_eq (tgt := 866) C dL_law_861 rfl rfl ⟨by decide, by decide⟩ (fun _ => ?_) (fun cc => absurd cc (by decide))
    refine j_goto (tgt := 2447) C dL_law_866 rfl ?_
    refine j_locals (lv' := [(0, .ref b), (1, .ref (ad 0)), (2, .ref (am 0)), (3, .ref o), (4, .ref d), (5, vi ((5 * (j : Int))))]) [0, 1, 2, 3, 4, 5] rfl ?_
    exact hB _ _ _ _ _ _ hI2 ha01 (by omega) (by omega)
set_option maxHeartbeats 8000000 in
set_option maxRecDepth 20000 in
theorem lc_10 {κ : Kx} {nmx : String} {b L j k n : Nat} {xs : Nat → Int} {σ : Wd} {tg ad am : Nat → Nat} {S : St} {o d : Nat} (C : Cx κ cL_law 9 RL nmx 9) (HN : Ncs (kS κ)) (hfl : (kL κ).stackTraces = false) (hxs : ∀ i : Nat, -2147483648 ≤ xs i ∧ xs i < 2147483648) (hX : va_X b L (fun j => Int32.ofInt (xs j)) (kS κ) (kS κ).heap) (hbl : b < (kS κ).heap.size) (hbA : ¬ kA κ b) (hL : L < 2147483648) (hI : LI (kc κ) σ tg ad am S o d) (hj : 5 * j + 5 ≤ L) (hk : k + 300 ≤ (kR κ).cells) (hn : n + 8000 ≤ (kR κ).slots) (hB : LB κ b o d (ad 0) am j k n) : J κ σ [(0, .ref b), (1, .ref (ad 0)), (2, .ref (am 0)), (3, .ref o), (4, .ref d), (5, vi (5 * (j : Int)))] 869 [] k n := by
  obtain ⟨a1, ha1⟩ : ∃ a, xs (5 * j + 1) = a := ⟨_, rfl⟩
  have r1 : -2147483648 ≤ a1 ∧ a1 < 2147483648 := by rw [← ha1]; exact hxs _
  obtain ⟨a2, ha2⟩ : ∃ a, xs (5 * j + 2) = a := ⟨_, rfl⟩
  have r2 : -2147483648 ≤ a2 ∧ a2 < 2147483648 := by rw [← ha2]; exact hxs _
  obtain ⟨a3, ha3⟩ : ∃ a, xs (5 * j + 3) = a := ⟨_, rfl⟩
  have r3 : -2147483648 ≤ a3 ∧ a3 < 2147483648 := by rw [← ha3]; exact hxs _
  obtain ⟨a4, ha4⟩ : ∃ a, xs (5 * j + 4) = a := ⟨_, rfl⟩
  have r4 : -2147483648 ≤ a4 ∧ a4 < 2147483648 := by rw [← ha4]; exact hxs _
  obtain ⟨bs, ru, se, pf, hd, ca, evs, ln⟩ := S
  have hX0 : RX (kc κ) σ tg ad bs ru se pf hd ca evs ln := hI.1
  have hO := hX0.ok
  obtain ⟨-, -, ⟨g0, hout⟩, ⟨f0, hdub⟩, ⟨to9, td9⟩, -⟩ := id hI
  refine j_aload_n 1 C dL_law_869 rfl rfl rfl ?_
  refine j_aload_n 0 C dL_law_870 rfl rfl rfl ?_
  refine j_iload 5 C dL_law_871 rfl rfl ?_
  refine j_iconst C dL_law_873 rfl ?_
  refine j_iadd C dL_law_874 rfl ?_
  refine j_sld C hX hbl hbA dL_law_875 rfl ⟨by omega, by omega⟩ (by omega) (y := a1) (by rw [show (5 * (j : Int) + 1).toNat = 5 * j + 1 by omega]; exact ha1) ?_
  refine j_aload_n 0 C dL_law_876 rfl rfl rfl ?_
  refine j_iload 5 C dL_law_877 rfl rfl ?_
  refine j_iconst C dL_law_879 rfl ?_
  refine j_iadd C dL_law_880 rfl ?_
  refine j_sld C hX hbl hbA dL_law_881 rfl ⟨by omega, by omega⟩ (by omega) (y := a2) (by rw [show (5 * (j : Int) + 2).toNat = 5 * j + 2 by omega]; exact ha2) ?_
  refine j_aload_n 0 C dL_law_882 rfl rfl rfl ?_
  refine j_iload 5 C dL_law_883 rfl rfl ?_
  refine j_iconst C dL_law_885 rfl ?_
  refine j_iadd C dL_law_886 rfl ?_
  refine j_sld C hX hbl hbA dL_law_887 rfl ⟨by omega, by omega⟩ (by omega) (y := a3) (by rw [show (5 * (j : Int) + 3).toNat = 5 * j + 3 by omega]; exact ha3) ?_
  refine j_aload_n 3 C dL_law_888 rfl rfl rfl ?_
  refine j_callSN (st' := []) (As := [.ref (ad 0), vi (a1), vi (a2), vi (a3), .ref o]) C HN dL_law_889 rfl m_L_162 rfl rfl (W_transfer (kL κ) hfl (kD κ) (kc κ) σ tg ad bs ru se pf hd ca evs ln hX0 o g0 hout (by omega) a1 r1 a2 r2 a3 r3) rfl (by omega) (by omega) (by omega) (fun _ _ hx => hx.elim) (fun v1 σ1 hp => ?_)
  obtain ⟨rfl, ⟨tg1, ad1, hR1, hT1, ha01⟩, ⟨g1, ho1, hg1⟩, hK1, hm1⟩ := hp
  have hcr := cr_transfer bs ru se pf hd ca evs ln a1 a2 a3
  obtain ⟨O, hO9⟩ : ∃ O : Rs, o_transfer bs ru se pf hd ca evs ln a1 a2 a3 = O := ⟨_, rfl⟩
  show J κ σ1 [(0, .ref b), (1, .ref (ad 0)), (2, .ref (am 0)), (3, .ref o), (4, .ref d), (5, vi ((5 * (j : Int))))] 892 [vi (o_transfer bs ru se pf hd ca evs ln a1 a2 a3).1] _ _
  rw [hO9] at hR1 hg1 hcr ⊢
  obtain ⟨bl1, th1, hM1⟩ := hI.mod (Or.inl rfl) hK1
  have hf1 := hI.dbl hdub hK1
  show J κ σ1 [(0, .ref b), (1, .ref (ad 0)), (2, .ref (am 0)), (3, .ref o), (4, .ref d), (5, vi ((5 * (j : Int))))] 892 [vi (O.1)] _ _
  refine j_istore (lv' := [(0, .ref b), (1, .ref (ad 0)), (2, .ref (am 0)), (3, .ref o), (4, .ref d), (5, vi ((5 * (j : Int)))), (6, vi (O.1))]) [1, 2, 3, 4, 5, 6, 0] C dL_law_892 rfl rfl rfl ?_
  refine j_aload_n 2 C dL_law_894 rfl rfl rfl ?_
  refine j_aload_n 0 C dL_law_895 rfl rfl rfl ?_
  refine j_iload 5 C dL_law_896 rfl rfl ?_
  refine j_iconst C dL_law_898 rfl ?_
  refine j_iadd C dL_law_899 rfl ?_
  refine j_sld C hX hbl hbA dL_law_900 rfl ⟨by omega, by omega⟩ (by omega) (y := a1) (by rw [show (5 * (j : Int) + 1).toNat = 5 * j + 1 by omega]; exact ha1) ?_
  refine j_aload_n 0 C dL_law_901 rfl rfl rfl ?_
  refine j_iload 5 C dL_law_902 rfl rfl ?_
  refine j_iconst C dL_law_904 rfl ?_
  refine j_iadd C dL_law_905 rfl ?_
  refine j_sld C hX hbl hbA dL_law_906 rfl ⟨by omega, by omega⟩ (by omega) (y := a2) (by rw [show (5 * (j : Int) + 2).toNat = 5 * j + 2 by omega]; exact ha2) ?_
  refine j_aload_n 0 C dL_law_907 rfl rfl rfl ?_
  refine j_iload 5 C dL_law_908 rfl rfl ?_
  refine j_iconst C dL_law_910 rfl ?_
  refine j_iadd C dL_law_911 rfl ?_
  refine j_sld C hX hbl hbA dL_law_912 rfl ⟨by omega, by omega⟩ (by omega) (y := a3) (by rw [show (5 * (j : Int) + 3).toNat = 5 * j + 3 by omega]; exact ha3) ?_
  obtain ⟨-, _, _, _, _, _, _, _, _, _, _, _, _, _, _, _, hrc, -⟩ := id hM1
  refine j_callV (st' := []) (As := [vi (a1), vi (a2), vi (a3)]) C dL_law_913 rfl m_L_165 hrc rfl rfl rfl (m_transfer (kL κ) hfl (kD κ) (kc κ) σ1 am bs ru se pf hd ca evs ln bl1 th1 hM1 a1 r1 a2 r2 a3 r3 hO) rfl (by omega) (by omega) (by omega) (fun _ _ hx => hx.elim) (fun v2 σ2 hp2 => ?_)
  obtain ⟨rz, rfl, hrz, ⟨bl2, hM2⟩, hK2, hd2⟩ := hp2
  rw [hO9] at hrz hM2
  obtain ⟨hI2, ho2, hf2⟩ := hI.mk2 hR1 hT1 ho1 hf1 hm1 hM2 hK2 hd2
  show J κ σ2 [(0, .ref b), (1, .ref (ad 0)), (2, .ref (am 0)), (3, .ref o), (4, .ref d), (5, vi ((5 * (j : Int)))), (6, vi (O.1))] 916 [vi (rz)] _ _
  refine j_istore (lv' := [(0, .ref b), (1, .ref (ad 0)), (2, .ref (am 0)), (3, .ref o), (4, .ref d), (5, vi ((5 * (j : Int)))), (6, vi (O.1)), (7, vi (rz))]) [1, 2, 3, 4, 5, 6, 7, 0] C dL_law_916 rfl rfl rfl ?_
  refine j_aload_n 2 C dL_law_918 rfl rfl rfl ?_
  obtain ⟨-, _, _, _, _, _, _, _, _, _, _, _, _, _, _, _, hrc, -⟩ := id hM2
  refine j_callV (st' := []) (As := []) C dL_law_919 rfl m_L_127 hrc rfl rfl rfl (m_thrown (kL κ) hfl (kD κ) (kc κ) σ2 am _ _ _ _ _ _ _ _ bl2 O.1 hM2) rfl (by omega) (by omega) (by omega) (fun _ _ hx => hx.elim) (fun v3 σ3 hp3 => ?_)
  obtain ⟨rfl, hs9⟩ := hp3
  replace hs9 := hs9.symm
  subst hs9
  show J κ σ2 [(0, .ref b), (1, .ref (ad 0)), (2, .ref (am 0)), (3, .ref o), (4, .ref d), (5, vi ((5 * (j : Int)))), (6, vi (O.1)), (7, vi (rz))] 922 [vi (O.1)] _ _
  refine j_iload 6 C dL_law_922 rfl rfl ?_
  refine j_icmp_same (tgt := 929) C dL_law_924 rfl ?_
  refine j_iload 6 C dL_law_929 rfl rfl ?_
  refine j_if_ne (tgt := 946) C dL_law_931 rfl rfl ⟨by omega, by omega⟩ (fun cc1 => ?_) (fun cc1 => ?_)
  · refine j_goto (tgt := 2447) C dL_law_946 rfl ?_
    refine j_locals (lv' := [(0, .ref b), (1, .ref (ad 0)), (2, .ref (am 0)), (3, .ref o), (4, .ref d), (5, vi ((5 * (j : Int))))]) [0, 1, 2, 3, 4, 5] rfl ?_
    exact hB _ _ _ _ _ _ hI2 ha01 (by omega) (by omega)
  · have e8 : vi rz = vi (w32 O.2.1) := by rw [hrz cc1]; exact vi_w _
    rw [e8]
    refine j_aload_n 3 C dL_law_934 rfl rfl rfl ?_
    refine j_iconst C dL_law_935 rfl ?_
    refine j_lald C dL_law_936 rfl ho2 ⟨by decide, by decide⟩ (by decide) (y := w32 O.2.1) (hg1 cc1) ?_
    refine j_iload 7 C dL_law_937 rfl rfl ?_
    refine j_i2l C dL_law_939 rfl (w32_in _) ?_
    refine j_lcmp_same C dL_law_940 rfl ?_
    refine j_if_eq (tgt := 946) C dL_law_941 rfl rfl ⟨by decide, by decide⟩ (fun _ => ?_) (fun cc => absurd cc (by decide))
    refine j_goto (tgt := 2447) C dL_law_946 rfl ?_
    refine j_locals (lv' := [(0, .ref b), (1, .ref (ad 0)), (2, .ref (am 0)), (3, .ref o), (4, .ref d), (5, vi ((5 * (j : Int))))]) [0, 1, 2, 3, 4, 5] rfl ?_
    exact hB _ _ _ _ _ _ hI2 ha01 (by omega) (by omega)
set_option maxHeartbeats 8000000 in
set_option maxRecDepth 20000 in
theorem lc_11 {κ : Kx} {nmx : String} {b L j k n : Nat} {xs : Nat → Int} {σ : Wd} {tg ad am : Nat → Nat} {S : St} {o d : Nat} (C : Cx κ cL_law 9 RL nmx 9) (HN : Ncs (kS κ)) (hfl : (kL κ).stackTraces = false) (hxs : ∀ i : Nat, -2147483648 ≤ xs i ∧ xs i < 2147483648) (hX : va_X b L (fun j => Int32.ofInt (xs j)) (kS κ) (kS κ).heap) (hbl : b < (kS κ).heap.size) (hbA : ¬ kA κ b) (hL : L < 2147483648) (hI : LI (kc κ) σ tg ad am S o d) (hj : 5 * j + 5 ≤ L) (hk : k + 300 ≤ (kR κ).cells) (hn : n + 8000 ≤ (kR κ).slots) (hB : LB κ b o d (ad 0) am j k n) : J κ σ [(0, .ref b), (1, .ref (ad 0)), (2, .ref (am 0)), (3, .ref o), (4, .ref d), (5, vi (5 * (j : Int)))] 949 [] k n := by
  obtain ⟨a1, ha1⟩ : ∃ a, xs (5 * j + 1) = a := ⟨_, rfl⟩
  have r1 : -2147483648 ≤ a1 ∧ a1 < 2147483648 := by rw [← ha1]; exact hxs _
  obtain ⟨a2, ha2⟩ : ∃ a, xs (5 * j + 2) = a := ⟨_, rfl⟩
  have r2 : -2147483648 ≤ a2 ∧ a2 < 2147483648 := by rw [← ha2]; exact hxs _
  obtain ⟨a3, ha3⟩ : ∃ a, xs (5 * j + 3) = a := ⟨_, rfl⟩
  have r3 : -2147483648 ≤ a3 ∧ a3 < 2147483648 := by rw [← ha3]; exact hxs _
  obtain ⟨a4, ha4⟩ : ∃ a, xs (5 * j + 4) = a := ⟨_, rfl⟩
  have r4 : -2147483648 ≤ a4 ∧ a4 < 2147483648 := by rw [← ha4]; exact hxs _
  obtain ⟨bs, ru, se, pf, hd, ca, evs, ln⟩ := S
  have hX0 : RX (kc κ) σ tg ad bs ru se pf hd ca evs ln := hI.1
  have hO := hX0.ok
  obtain ⟨-, -, ⟨g0, hout⟩, ⟨f0, hdub⟩, ⟨to9, td9⟩, -⟩ := id hI
  refine j_aload_n 1 C dL_law_949 rfl rfl rfl ?_
  refine j_aload_n 0 C dL_law_950 rfl rfl rfl ?_
  refine j_iload 5 C dL_law_951 rfl rfl ?_
  refine j_iconst C dL_law_953 rfl ?_
  refine j_iadd C dL_law_954 rfl ?_
  refine j_sld C hX hbl hbA dL_law_955 rfl ⟨by omega, by omega⟩ (by omega) (y := a1) (by rw [show (5 * (j : Int) + 1).toNat = 5 * j + 1 by omega]; exact ha1) ?_
  refine j_aload_n 0 C dL_law_956 rfl rfl rfl ?_
  refine j_iload 5 C dL_law_957 rfl rfl ?_
  refine j_iconst C dL_law_959 rfl ?_
  refine j_iadd C dL_law_960 rfl ?_
  refine j_sld C hX hbl hbA dL_law_961 rfl ⟨by omega, by omega⟩ (by omega) (y := a2) (by rw [show (5 * (j : Int) + 2).toNat = 5 * j + 2 by omega]; exact ha2) ?_
  refine j_aload_n 3 C dL_law_962 rfl rfl rfl ?_
  refine j_callSN (st' := []) (As := [.ref (ad 0), vi (a1), vi (a2), .ref o]) C HN dL_law_963 rfl m_L_166 rfl rfl (W_dry (kL κ) hfl (kD κ) (kc κ) σ tg ad bs ru se pf hd ca evs ln hX0 o g0 hout (by omega) a1 r1 a2 r2) rfl (by omega) (by omega) (by omega) (fun _ _ hx => hx.elim) (fun v1 σ1 hp => ?_)
  obtain ⟨rfl, ⟨tg1, ad1, hR1, hT1, ha01⟩, ⟨g1, ho1, hg1⟩, hK1, hm1⟩ := hp
  have hcr := cr_dry bs ru se pf hd ca evs ln a1 a2
  obtain ⟨O, hO9⟩ : ∃ O : Rs, o_dry bs ru se pf hd ca evs ln a1 a2 = O := ⟨_, rfl⟩
  show J κ σ1 [(0, .ref b), (1, .ref (ad 0)), (2, .ref (am 0)), (3, .ref o), (4, .ref d), (5, vi ((5 * (j : Int))))] 966 [vi (o_dry bs ru se pf hd ca evs ln a1 a2).1] _ _
  rw [hO9] at hR1 hg1 hcr ⊢
  obtain ⟨bl1, th1, hM1⟩ := hI.mod (Or.inl rfl) hK1
  have hf1 := hI.dbl hdub hK1
  show J κ σ1 [(0, .ref b), (1, .ref (ad 0)), (2, .ref (am 0)), (3, .ref o), (4, .ref d), (5, vi ((5 * (j : Int))))] 966 [vi (O.1)] _ _
  refine j_istore (lv' := [(0, .ref b), (1, .ref (ad 0)), (2, .ref (am 0)), (3, .ref o), (4, .ref d), (5, vi ((5 * (j : Int)))), (6, vi (O.1))]) [1, 2, 3, 4, 5, 6, 0] C dL_law_966 rfl rfl rfl ?_
  refine j_aload_n 2 C dL_law_968 rfl rfl rfl ?_
  refine j_aload_n 0 C dL_law_969 rfl rfl rfl ?_
  refine j_iload 5 C dL_law_970 rfl rfl ?_
  refine j_iconst C dL_law_972 rfl ?_
  refine j_iadd C dL_law_973 rfl ?_
  refine j_sld C hX hbl hbA dL_law_974 rfl ⟨by omega, by omega⟩ (by omega) (y := a1) (by rw [show (5 * (j : Int) + 1).toNat = 5 * j + 1 by omega]; exact ha1) ?_
  refine j_aload_n 0 C dL_law_975 rfl rfl rfl ?_
  refine j_iload 5 C dL_law_976 rfl rfl ?_
  refine j_iconst C dL_law_978 rfl ?_
  refine j_iadd C dL_law_979 rfl ?_
  refine j_sld C hX hbl hbA dL_law_980 rfl ⟨by omega, by omega⟩ (by omega) (y := a2) (by rw [show (5 * (j : Int) + 2).toNat = 5 * j + 2 by omega]; exact ha2) ?_
  obtain ⟨-, _, _, _, _, _, _, _, _, _, _, _, _, _, _, _, hrc, -⟩ := id hM1
  refine j_callV (st' := []) (As := [vi (a1), vi (a2)]) C dL_law_981 rfl m_L_168 hrc rfl rfl rfl (m_dry (kL κ) hfl (kD κ) (kc κ) σ1 am bs ru se pf hd ca evs ln bl1 th1 hM1 a1 r1 a2 r2 hO) rfl (by omega) (by omega) (by omega) (fun _ _ hx => hx.elim) (fun v2 σ2 hp2 => ?_)
  obtain ⟨rz, rfl, hrz, ⟨bl2, hM2⟩, hK2, hd2⟩ := hp2
  rw [hO9] at hrz hM2
  obtain ⟨hI2, ho2, hf2⟩ := hI.mk2 hR1 hT1 ho1 hf1 hm1 hM2 hK2 hd2
  show J κ σ2 [(0, .ref b), (1, .ref (ad 0)), (2, .ref (am 0)), (3, .ref o), (4, .ref d), (5, vi ((5 * (j : Int)))), (6, vi (O.1))] 984 [vi (rz)] _ _
  refine j_istore (lv' := [(0, .ref b), (1, .ref (ad 0)), (2, .ref (am 0)), (3, .ref o), (4, .ref d), (5, vi ((5 * (j : Int)))), (6, vi (O.1)), (7, vi (rz))]) [1, 2, 3, 4, 5, 6, 7, 0] C dL_law_984 rfl rfl rfl ?_
  refine j_aload_n 2 C dL_law_986 rfl rfl rfl ?_
  obtain ⟨-, _, _, _, _, _, _, _, _, _, _, _, _, _, _, _, hrc, -⟩ := id hM2
  refine j_callV (st' := []) (As := []) C dL_law_987 rfl m_L_127 hrc rfl rfl rfl (m_thrown (kL κ) hfl (kD κ) (kc κ) σ2 am _ _ _ _ _ _ _ _ bl2 O.1 hM2) rfl (by omega) (by omega) (by omega) (fun _ _ hx => hx.elim) (fun v3 σ3 hp3 => ?_)
  obtain ⟨rfl, hs9⟩ := hp3
  replace hs9 := hs9.symm
  subst hs9
  show J κ σ2 [(0, .ref b), (1, .ref (ad 0)), (2, .ref (am 0)), (3, .ref o), (4, .ref d), (5, vi ((5 * (j : Int)))), (6, vi (O.1)), (7, vi (rz))] 990 [vi (O.1)] _ _
  refine j_iload 6 C dL_law_990 rfl rfl ?_
  refine j_icmp_same (tgt := 997) C dL_law_992 rfl ?_
  refine j_iload 6 C dL_law_997 rfl rfl ?_
  refine j_if_ne (tgt := 1014) C dL_law_999 rfl rfl ⟨by omega, by omega⟩ (fun cc1 => ?_) (fun cc1 => ?_)
  · refine j_goto (tgt := 2447) C dL_law_1014 rfl ?_
    refine j_locals (lv' := [(0, .ref b), (1, .ref (ad 0)), (2, .ref (am 0)), (3, .ref o), (4, .ref d), (5, vi ((5 * (j : Int))))]) [0, 1, 2, 3, 4, 5] rfl ?_
    exact hB _ _ _ _ _ _ hI2 ha01 (by omega) (by omega)
  · have e8 : vi rz = vi (w32 O.2.1) := by rw [hrz cc1]; exact vi_w _
    rw [e8]
    refine j_aload_n 3 C dL_law_1002 rfl rfl rfl ?_
    refine j_iconst C dL_law_1003 rfl ?_
    refine j_lald C dL_law_1004 rfl ho2 ⟨by decide, by decide⟩ (by decide) (y := w32 O.2.1) (hg1 cc1) ?_
    refine j_iload 7 C dL_law_1005 rfl rfl ?_
    refine j_i2l C dL_law_1007 rfl (w32_in _) ?_
    refine j_lcmp_same C dL_law_1008 rfl ?_
    refine j_if_eq (tgt := 1014) C dL_law_1009 rfl rfl ⟨by decide, by decide⟩ (fun _ => ?_) (fun cc => absurd cc (by decide))
    refine j_goto (tgt := 2447) C dL_law_1014 rfl ?_
    refine j_locals (lv' := [(0, .ref b), (1, .ref (ad 0)), (2, .ref (am 0)), (3, .ref o), (4, .ref d), (5, vi ((5 * (j : Int))))]) [0, 1, 2, 3, 4, 5] rfl ?_
    exact hB _ _ _ _ _ _ hI2 ha01 (by omega) (by omega)
set_option maxHeartbeats 8000000 in
set_option maxRecDepth 20000 in
theorem lc_12 {κ : Kx} {nmx : String} {b L j k n : Nat} {xs : Nat → Int} {σ : Wd} {tg ad am : Nat → Nat} {S : St} {o d : Nat} (C : Cx κ cL_law 9 RL nmx 9) (HN : Ncs (kS κ)) (hfl : (kL κ).stackTraces = false) (hxs : ∀ i : Nat, -2147483648 ≤ xs i ∧ xs i < 2147483648) (hX : va_X b L (fun j => Int32.ofInt (xs j)) (kS κ) (kS κ).heap) (hbl : b < (kS κ).heap.size) (hbA : ¬ kA κ b) (hL : L < 2147483648) (hI : LI (kc κ) σ tg ad am S o d) (hj : 5 * j + 5 ≤ L) (hk : k + 300 ≤ (kR κ).cells) (hn : n + 8000 ≤ (kR κ).slots) (hB : LB κ b o d (ad 0) am j k n) : J κ σ [(0, .ref b), (1, .ref (ad 0)), (2, .ref (am 0)), (3, .ref o), (4, .ref d), (5, vi (5 * (j : Int)))] 1017 [] k n := by
  obtain ⟨a1, ha1⟩ : ∃ a, xs (5 * j + 1) = a := ⟨_, rfl⟩
  have r1 : -2147483648 ≤ a1 ∧ a1 < 2147483648 := by rw [← ha1]; exact hxs _
  obtain ⟨a2, ha2⟩ : ∃ a, xs (5 * j + 2) = a := ⟨_, rfl⟩
  have r2 : -2147483648 ≤ a2 ∧ a2 < 2147483648 := by rw [← ha2]; exact hxs _
  obtain ⟨a3, ha3⟩ : ∃ a, xs (5 * j + 3) = a := ⟨_, rfl⟩
  have r3 : -2147483648 ≤ a3 ∧ a3 < 2147483648 := by rw [← ha3]; exact hxs _
  obtain ⟨a4, ha4⟩ : ∃ a, xs (5 * j + 4) = a := ⟨_, rfl⟩
  have r4 : -2147483648 ≤ a4 ∧ a4 < 2147483648 := by rw [← ha4]; exact hxs _
  obtain ⟨bs, ru, se, pf, hd, ca, evs, ln⟩ := S
  have hX0 : RX (kc κ) σ tg ad bs ru se pf hd ca evs ln := hI.1
  have hO := hX0.ok
  obtain ⟨-, -, ⟨g0, hout⟩, ⟨f0, hdub⟩, ⟨to9, td9⟩, -⟩ := id hI
  refine j_aload_n 1 C dL_law_1017 rfl rfl rfl ?_
  refine j_aload_n 0 C dL_law_1018 rfl rfl rfl ?_
  refine j_iload 5 C dL_law_1019 rfl rfl ?_
  refine j_iconst C dL_law_1021 rfl ?_
  refine j_iadd C dL_law_1022 rfl ?_
  refine j_sld C hX hbl hbA dL_law_1023 rfl ⟨by omega, by omega⟩ (by omega) (y := a1) (by rw [show (5 * (j : Int) + 1).toNat = 5 * j + 1 by omega]; exact ha1) ?_
  refine j_aload_n 0 C dL_law_1024 rfl rfl rfl ?_
  refine j_iload 5 C dL_law_1025 rfl rfl ?_
  refine j_iconst C dL_law_1027 rfl ?_
  refine j_iadd C dL_law_1028 rfl ?_
  refine j_sld C hX hbl hbA dL_law_1029 rfl ⟨by omega, by omega⟩ (by omega) (y := a2) (by rw [show (5 * (j : Int) + 2).toNat = 5 * j + 2 by omega]; exact ha2) ?_
  refine j_aload_n 3 C dL_law_1030 rfl rfl rfl ?_
  refine j_callSN (st' := []) (As := [.ref (ad 0), vi (a1), vi (a2), .ref o]) C HN dL_law_1031 rfl m_L_169 rfl rfl (W_dryingCost (kL κ) hfl (kD κ) (kc κ) σ tg ad bs ru se pf hd ca evs ln hX0 o g0 hout (by omega) a1 r1 a2 r2) rfl (by omega) (by omega) (by omega) (fun _ _ hx => hx.elim) (fun v1 σ1 hp => ?_)
  obtain ⟨rfl, ⟨tg1, ad1, hR1, hT1, ha01⟩, ⟨g1, ho1, hg1⟩, hK1, hm1⟩ := hp
  have hcr := cr_dryingCost bs ru se pf hd ca evs ln a1 a2
  obtain ⟨O, hO9⟩ : ∃ O : Rs, o_dryingCost bs ru se pf hd ca evs ln a1 a2 = O := ⟨_, rfl⟩
  show J κ σ1 [(0, .ref b), (1, .ref (ad 0)), (2, .ref (am 0)), (3, .ref o), (4, .ref d), (5, vi ((5 * (j : Int))))] 1034 [vi (o_dryingCost bs ru se pf hd ca evs ln a1 a2).1] _ _
  rw [hO9] at hR1 hg1 hcr ⊢
  obtain ⟨bl1, th1, hM1⟩ := hI.mod (Or.inl rfl) hK1
  have hf1 := hI.dbl hdub hK1
  show J κ σ1 [(0, .ref b), (1, .ref (ad 0)), (2, .ref (am 0)), (3, .ref o), (4, .ref d), (5, vi ((5 * (j : Int))))] 1034 [vi (O.1)] _ _
  refine j_istore (lv' := [(0, .ref b), (1, .ref (ad 0)), (2, .ref (am 0)), (3, .ref o), (4, .ref d), (5, vi ((5 * (j : Int)))), (6, vi (O.1))]) [1, 2, 3, 4, 5, 6, 0] C dL_law_1034 rfl rfl rfl ?_
  refine j_aload_n 2 C dL_law_1036 rfl rfl rfl ?_
  refine j_aload_n 0 C dL_law_1037 rfl rfl rfl ?_
  refine j_iload 5 C dL_law_1038 rfl rfl ?_
  refine j_iconst C dL_law_1040 rfl ?_
  refine j_iadd C dL_law_1041 rfl ?_
  refine j_sld C hX hbl hbA dL_law_1042 rfl ⟨by omega, by omega⟩ (by omega) (y := a1) (by rw [show (5 * (j : Int) + 1).toNat = 5 * j + 1 by omega]; exact ha1) ?_
  refine j_aload_n 0 C dL_law_1043 rfl rfl rfl ?_
  refine j_iload 5 C dL_law_1044 rfl rfl ?_
  refine j_iconst C dL_law_1046 rfl ?_
  refine j_iadd C dL_law_1047 rfl ?_
  refine j_sld C hX hbl hbA dL_law_1048 rfl ⟨by omega, by omega⟩ (by omega) (y := a2) (by rw [show (5 * (j : Int) + 2).toNat = 5 * j + 2 by omega]; exact ha2) ?_
  obtain ⟨-, _, _, _, _, _, _, _, _, _, _, _, _, _, _, _, hrc, -⟩ := id hM1
  refine j_callV (st' := []) (As := [vi (a1), vi (a2)]) C dL_law_1049 rfl m_L_171 hrc rfl rfl rfl (m_dryingCost (kL κ) hfl (kD κ) (kc κ) σ1 am bs ru se pf hd ca evs ln bl1 th1 hM1 a1 r1 a2 r2 hO) rfl (by omega) (by omega) (by omega) (fun _ _ hx => hx.elim) (fun v2 σ2 hp2 => ?_)
  obtain ⟨rz, rfl, hrz, ⟨bl2, hM2⟩, hK2, hd2⟩ := hp2
  rw [hO9] at hrz hM2
  obtain ⟨hI2, ho2, hf2⟩ := hI.mk2 hR1 hT1 ho1 hf1 hm1 hM2 hK2 hd2
  show J κ σ2 [(0, .ref b), (1, .ref (ad 0)), (2, .ref (am 0)), (3, .ref o), (4, .ref d), (5, vi ((5 * (j : Int)))), (6, vi (O.1))] 1052 [vi (rz)] _ _
  refine j_istore (lv' := [(0, .ref b), (1, .ref (ad 0)), (2, .ref (am 0)), (3, .ref o), (4, .ref d), (5, vi ((5 * (j : Int)))), (6, vi (O.1)), (7, vi (rz))]) [1, 2, 3, 4, 5, 6, 7, 0] C dL_law_1052 rfl rfl rfl ?_
  refine j_aload_n 2 C dL_law_1054 rfl rfl rfl ?_
  obtain ⟨-, _, _, _, _, _, _, _, _, _, _, _, _, _, _, _, hrc, -⟩ := id hM2
  refine j_callV (st' := []) (As := []) C dL_law_1055 rfl m_L_127 hrc rfl rfl rfl (m_thrown (kL κ) hfl (kD κ) (kc κ) σ2 am _ _ _ _ _ _ _ _ bl2 O.1 hM2) rfl (by omega) (by omega) (by omega) (fun _ _ hx => hx.elim) (fun v3 σ3 hp3 => ?_)
  obtain ⟨rfl, hs9⟩ := hp3
  replace hs9 := hs9.symm
  subst hs9
  show J κ σ2 [(0, .ref b), (1, .ref (ad 0)), (2, .ref (am 0)), (3, .ref o), (4, .ref d), (5, vi ((5 * (j : Int)))), (6, vi (O.1)), (7, vi (rz))] 1058 [vi (O.1)] _ _
  refine j_iload 6 C dL_law_1058 rfl rfl ?_
  refine j_icmp_same (tgt := 1065) C dL_law_1060 rfl ?_
  refine j_iload 6 C dL_law_1065 rfl rfl ?_
  refine j_if_ne (tgt := 1082) C dL_law_1067 rfl rfl ⟨by omega, by omega⟩ (fun cc1 => ?_) (fun cc1 => ?_)
  · refine j_goto (tgt := 2447) C dL_law_1082 rfl ?_
    refine j_locals (lv' := [(0, .ref b), (1, .ref (ad 0)), (2, .ref (am 0)), (3, .ref o), (4, .ref d), (5, vi ((5 * (j : Int))))]) [0, 1, 2, 3, 4, 5] rfl ?_
    exact hB _ _ _ _ _ _ hI2 ha01 (by omega) (by omega)
  · have e8 : vi rz = vi (w32 O.2.1) := by rw [hrz cc1]; exact vi_w _
    rw [e8]
    refine j_aload_n 3 C dL_law_1070 rfl rfl rfl ?_
    refine j_iconst C dL_law_1071 rfl ?_
    refine j_lald C dL_law_1072 rfl ho2 ⟨by decide, by decide⟩ (by decide) (y := w32 O.2.1) (hg1 cc1) ?_
    refine j_iload 7 C dL_law_1073 rfl rfl ?_
    refine j_i2l C dL_law_1075 rfl (w32_in _) ?_
    refine j_lcmp_same C dL_law_1076 rfl ?_
    refine j_if_eq (tgt := 1082) C dL_law_1077 rfl rfl ⟨by decide, by decide⟩ (fun _ => ?_) (fun cc => absurd cc (by decide))
    refine j_goto (tgt := 2447) C dL_law_1082 rfl ?_
    refine j_locals (lv' := [(0, .ref b), (1, .ref (ad 0)), (2, .ref (am 0)), (3, .ref o), (4, .ref d), (5, vi ((5 * (j : Int))))]) [0, 1, 2, 3, 4, 5] rfl ?_
    exact hB _ _ _ _ _ _ hI2 ha01 (by omega) (by omega)
set_option maxHeartbeats 8000000 in
set_option maxRecDepth 20000 in
theorem lc_13 {κ : Kx} {nmx : String} {b L j k n : Nat} {xs : Nat → Int} {σ : Wd} {tg ad am : Nat → Nat} {S : St} {o d : Nat} (C : Cx κ cL_law 9 RL nmx 9) (HN : Ncs (kS κ)) (hfl : (kL κ).stackTraces = false) (hxs : ∀ i : Nat, -2147483648 ≤ xs i ∧ xs i < 2147483648) (hX : va_X b L (fun j => Int32.ofInt (xs j)) (kS κ) (kS κ).heap) (hbl : b < (kS κ).heap.size) (hbA : ¬ kA κ b) (hL : L < 2147483648) (hI : LI (kc κ) σ tg ad am S o d) (hj : 5 * j + 5 ≤ L) (hk : k + 300 ≤ (kR κ).cells) (hn : n + 8000 ≤ (kR κ).slots) (hB : LB κ b o d (ad 0) am j k n) : J κ σ [(0, .ref b), (1, .ref (ad 0)), (2, .ref (am 0)), (3, .ref o), (4, .ref d), (5, vi (5 * (j : Int)))] 1085 [] k n := by
  obtain ⟨a1, ha1⟩ : ∃ a, xs (5 * j + 1) = a := ⟨_, rfl⟩
  have r1 : -2147483648 ≤ a1 ∧ a1 < 2147483648 := by rw [← ha1]; exact hxs _
  obtain ⟨a2, ha2⟩ : ∃ a, xs (5 * j + 2) = a := ⟨_, rfl⟩
  have r2 : -2147483648 ≤ a2 ∧ a2 < 2147483648 := by rw [← ha2]; exact hxs _
  obtain ⟨a3, ha3⟩ : ∃ a, xs (5 * j + 3) = a := ⟨_, rfl⟩
  have r3 : -2147483648 ≤ a3 ∧ a3 < 2147483648 := by rw [← ha3]; exact hxs _
  obtain ⟨a4, ha4⟩ : ∃ a, xs (5 * j + 4) = a := ⟨_, rfl⟩
  have r4 : -2147483648 ≤ a4 ∧ a4 < 2147483648 := by rw [← ha4]; exact hxs _
  obtain ⟨bs, ru, se, pf, hd, ca, evs, ln⟩ := S
  have hX0 : RX (kc κ) σ tg ad bs ru se pf hd ca evs ln := hI.1
  have hO := hX0.ok
  obtain ⟨-, -, ⟨g0, hout⟩, ⟨f0, hdub⟩, ⟨to9, td9⟩, -⟩ := id hI
  refine j_aload_n 1 C dL_law_1085 rfl rfl rfl ?_
  refine j_aload_n 0 C dL_law_1086 rfl rfl rfl ?_
  refine j_iload 5 C dL_law_1087 rfl rfl ?_
  refine j_iconst C dL_law_1089 rfl ?_
  refine j_iadd C dL_law_1090 rfl ?_
  refine j_sld C hX hbl hbA dL_law_1091 rfl ⟨by omega, by omega⟩ (by omega) (y := a1) (by rw [show (5 * (j : Int) + 1).toNat = 5 * j + 1 by omega]; exact ha1) ?_
  refine j_aload_n 3 C dL_law_1092 rfl rfl rfl ?_
  refine j_callSN (st' := []) (As := [.ref (ad 0), vi (a1), .ref o]) C HN dL_law_1093 rfl m_L_172 rfl rfl (W_bushelsIn (kL κ) hfl (kD κ) (kc κ) σ tg ad bs ru se pf hd ca evs ln hX0 o g0 hout (by omega) a1 r1) rfl (by omega) (by omega) (by omega) (fun _ _ hx => hx.elim) (fun v1 σ1 hp => ?_)
  obtain ⟨rfl, ⟨tg1, ad1, hR1, hT1, ha01⟩, ⟨g1, ho1, hg1⟩, hK1, hm1⟩ := hp
  have hcr := cr_bushelsIn bs ru se pf hd ca evs ln a1
  obtain ⟨O, hO9⟩ : ∃ O : Rs, o_bushelsIn bs ru se pf hd ca evs ln a1 = O := ⟨_, rfl⟩
  show J κ σ1 [(0, .ref b), (1, .ref (ad 0)), (2, .ref (am 0)), (3, .ref o), (4, .ref d), (5, vi ((5 * (j : Int))))] 1096 [vi (o_bushelsIn bs ru se pf hd ca evs ln a1).1] _ _
  rw [hO9] at hR1 hg1 hcr ⊢
  obtain ⟨bl1, th1, hM1⟩ := hI.mod (Or.inl rfl) hK1
  have hf1 := hI.dbl hdub hK1
  show J κ σ1 [(0, .ref b), (1, .ref (ad 0)), (2, .ref (am 0)), (3, .ref o), (4, .ref d), (5, vi ((5 * (j : Int))))] 1096 [vi (O.1)] _ _
  refine j_istore (lv' := [(0, .ref b), (1, .ref (ad 0)), (2, .ref (am 0)), (3, .ref o), (4, .ref d), (5, vi ((5 * (j : Int)))), (6, vi (O.1))]) [1, 2, 3, 4, 5, 6, 0] C dL_law_1096 rfl rfl rfl ?_
  refine j_aload_n 2 C dL_law_1098 rfl rfl rfl ?_
  refine j_aload_n 0 C dL_law_1099 rfl rfl rfl ?_
  refine j_iload 5 C dL_law_1100 rfl rfl ?_
  refine j_iconst C dL_law_1102 rfl ?_
  refine j_iadd C dL_law_1103 rfl ?_
  refine j_sld C hX hbl hbA dL_law_1104 rfl ⟨by omega, by omega⟩ (by omega) (y := a1) (by rw [show (5 * (j : Int) + 1).toNat = 5 * j + 1 by omega]; exact ha1) ?_
  obtain ⟨-, _, _, _, _, _, _, _, _, _, _, _, _, _, _, _, hrc, -⟩ := id hM1
  refine j_callV (st' := []) (As := [vi (a1)]) C dL_law_1105 rfl m_L_174 hrc rfl rfl rfl (m_bushelsIn (kL κ) hfl (kD κ) (kc κ) σ1 am bs ru se pf hd ca evs ln bl1 th1 hM1 a1 r1) rfl (by omega) (by omega) (by omega) (fun _ _ hx => hx.elim) (fun v2 σ2 hp2 => ?_)
  obtain ⟨rz, rfl, hrz, ⟨bl2, hM2⟩, hK2, hd2⟩ := hp2
  rw [hO9] at hrz hM2
  obtain ⟨hI2, ho2, hf2⟩ := hI.mk2 hR1 hT1 ho1 hf1 hm1 hM2 hK2 hd2
  show J κ σ2 [(0, .ref b), (1, .ref (ad 0)), (2, .ref (am 0)), (3, .ref o), (4, .ref d), (5, vi ((5 * (j : Int)))), (6, vi (O.1))] 1108 [vi (rz)] _ _
  refine j_istore (lv' := [(0, .ref b), (1, .ref (ad 0)), (2, .ref (am 0)), (3, .ref o), (4, .ref d), (5, vi ((5 * (j : Int)))), (6, vi (O.1)), (7, vi (rz))]) [1, 2, 3, 4, 5, 6, 7, 0] C dL_law_1108 rfl rfl rfl ?_
  refine j_aload_n 2 C dL_law_1110 rfl rfl rfl ?_
  obtain ⟨-, _, _, _, _, _, _, _, _, _, _, _, _, _, _, _, hrc, -⟩ := id hM2
  refine j_callV (st' := []) (As := []) C dL_law_1111 rfl m_L_127 hrc rfl rfl rfl (m_thrown (kL κ) hfl (kD κ) (kc κ) σ2 am _ _ _ _ _ _ _ _ bl2 O.1 hM2) rfl (by omega) (by omega) (by omega) (fun _ _ hx => hx.elim) (fun v3 σ3 hp3 => ?_)
  obtain ⟨rfl, hs9⟩ := hp3
  replace hs9 := hs9.symm
  subst hs9
  show J κ σ2 [(0, .ref b), (1, .ref (ad 0)), (2, .ref (am 0)), (3, .ref o), (4, .ref d), (5, vi ((5 * (j : Int)))), (6, vi (O.1)), (7, vi (rz))] 1114 [vi (O.1)] _ _
  refine j_iload 6 C dL_law_1114 rfl rfl ?_
  refine j_icmp_same (tgt := 1121) C dL_law_1116 rfl ?_
  refine j_iload 6 C dL_law_1121 rfl rfl ?_
  refine j_if_ne (tgt := 1138) C dL_law_1123 rfl rfl ⟨by omega, by omega⟩ (fun cc1 => ?_) (fun cc1 => ?_)
  · refine j_goto (tgt := 2447) C dL_law_1138 rfl ?_
    refine j_locals (lv' := [(0, .ref b), (1, .ref (ad 0)), (2, .ref (am 0)), (3, .ref o), (4, .ref d), (5, vi ((5 * (j : Int))))]) [0, 1, 2, 3, 4, 5] rfl ?_
    exact hB _ _ _ _ _ _ hI2 ha01 (by omega) (by omega)
  · have e8 : vi rz = vi (w32 O.2.1) := by rw [hrz cc1]; exact vi_w _
    rw [e8]
    refine j_aload_n 3 C dL_law_1126 rfl rfl rfl ?_
    refine j_iconst C dL_law_1127 rfl ?_
    refine j_lald C dL_law_1128 rfl ho2 ⟨by decide, by decide⟩ (by decide) (y := w32 O.2.1) (hg1 cc1) ?_
    refine j_iload 7 C dL_law_1129 rfl rfl ?_
    refine j_i2l C dL_law_1131 rfl (w32_in _) ?_
    refine j_lcmp_same C dL_law_1132 rfl ?_
    refine j_if_eq (tgt := 1138) C dL_law_1133 rfl rfl ⟨by decide, by decide⟩ (fun _ => ?_) (fun cc => absurd cc (by decide))
    refine j_goto (tgt := 2447) C dL_law_1138 rfl ?_
    refine j_locals (lv' := [(0, .ref b), (1, .ref (ad 0)), (2, .ref (am 0)), (3, .ref o), (4, .ref d), (5, vi ((5 * (j : Int))))]) [0, 1, 2, 3, 4, 5] rfl ?_
    exact hB _ _ _ _ _ _ hI2 ha01 (by omega) (by omega)
set_option maxHeartbeats 8000000 in
set_option maxRecDepth 20000 in
theorem lc_14 {κ : Kx} {nmx : String} {b L j k n : Nat} {xs : Nat → Int} {σ : Wd} {tg ad am : Nat → Nat} {S : St} {o d : Nat} (C : Cx κ cL_law 9 RL nmx 9) (HN : Ncs (kS κ)) (hfl : (kL κ).stackTraces = false) (hxs : ∀ i : Nat, -2147483648 ≤ xs i ∧ xs i < 2147483648) (hX : va_X b L (fun j => Int32.ofInt (xs j)) (kS κ) (kS κ).heap) (hbl : b < (kS κ).heap.size) (hbA : ¬ kA κ b) (hL : L < 2147483648) (hI : LI (kc κ) σ tg ad am S o d) (hj : 5 * j + 5 ≤ L) (hk : k + 300 ≤ (kR κ).cells) (hn : n + 8000 ≤ (kR κ).slots) (hB : LB κ b o d (ad 0) am j k n) : J κ σ [(0, .ref b), (1, .ref (ad 0)), (2, .ref (am 0)), (3, .ref o), (4, .ref d), (5, vi (5 * (j : Int)))] 1141 [] k n := by
  obtain ⟨a1, ha1⟩ : ∃ a, xs (5 * j + 1) = a := ⟨_, rfl⟩
  have r1 : -2147483648 ≤ a1 ∧ a1 < 2147483648 := by rw [← ha1]; exact hxs _
  obtain ⟨a2, ha2⟩ : ∃ a, xs (5 * j + 2) = a := ⟨_, rfl⟩
  have r2 : -2147483648 ≤ a2 ∧ a2 < 2147483648 := by rw [← ha2]; exact hxs _
  obtain ⟨a3, ha3⟩ : ∃ a, xs (5 * j + 3) = a := ⟨_, rfl⟩
  have r3 : -2147483648 ≤ a3 ∧ a3 < 2147483648 := by rw [← ha3]; exact hxs _
  obtain ⟨a4, ha4⟩ : ∃ a, xs (5 * j + 4) = a := ⟨_, rfl⟩
  have r4 : -2147483648 ≤ a4 ∧ a4 < 2147483648 := by rw [← ha4]; exact hxs _
  obtain ⟨bs, ru, se, pf, hd, ca, evs, ln⟩ := S
  have hX0 : RX (kc κ) σ tg ad bs ru se pf hd ca evs ln := hI.1
  have hO := hX0.ok
  obtain ⟨-, -, ⟨g0, hout⟩, ⟨f0, hdub⟩, ⟨to9, td9⟩, -⟩ := id hI
  refine j_aload_n 1 C dL_law_1141 rfl rfl rfl ?_
  refine j_aload_n 0 C dL_law_1142 rfl rfl rfl ?_
  refine j_iload 5 C dL_law_1143 rfl rfl ?_
  refine j_iconst C dL_law_1145 rfl ?_
  refine j_iadd C dL_law_1146 rfl ?_
  refine j_sld C hX hbl hbA dL_law_1147 rfl ⟨by omega, by omega⟩ (by omega) (y := a1) (by rw [show (5 * (j : Int) + 1).toNat = 5 * j + 1 by omega]; exact ha1) ?_
  refine j_aload_n 3 C dL_law_1148 rfl rfl rfl ?_
  refine j_callSN (st' := []) (As := [.ref (ad 0), vi (a1), .ref o]) C HN dL_law_1149 rfl m_L_175 rfl rfl (W_layersIn (kL κ) hfl (kD κ) (kc κ) σ tg ad bs ru se pf hd ca evs ln hX0 o g0 hout (by omega) a1 r1) rfl (by omega) (by omega) (by omega) (fun _ _ hx => hx.elim) (fun v1 σ1 hp => ?_)
  obtain ⟨rfl, ⟨tg1, ad1, hR1, hT1, ha01⟩, ⟨g1, ho1, hg1⟩, hK1, hm1⟩ := hp
  have hcr := cr_layersIn bs ru se pf hd ca evs ln a1
  obtain ⟨O, hO9⟩ : ∃ O : Rs, o_layersIn bs ru se pf hd ca evs ln a1 = O := ⟨_, rfl⟩
  show J κ σ1 [(0, .ref b), (1, .ref (ad 0)), (2, .ref (am 0)), (3, .ref o), (4, .ref d), (5, vi ((5 * (j : Int))))] 1152 [vi (o_layersIn bs ru se pf hd ca evs ln a1).1] _ _
  rw [hO9] at hR1 hg1 hcr ⊢
  obtain ⟨bl1, th1, hM1⟩ := hI.mod (Or.inl rfl) hK1
  have hf1 := hI.dbl hdub hK1
  show J κ σ1 [(0, .ref b), (1, .ref (ad 0)), (2, .ref (am 0)), (3, .ref o), (4, .ref d), (5, vi ((5 * (j : Int))))] 1152 [vi (O.1)] _ _
  refine j_istore (lv' := [(0, .ref b), (1, .ref (ad 0)), (2, .ref (am 0)), (3, .ref o), (4, .ref d), (5, vi ((5 * (j : Int)))), (6, vi (O.1))]) [1, 2, 3, 4, 5, 6, 0] C dL_law_1152 rfl rfl rfl ?_
  refine j_aload_n 2 C dL_law_1154 rfl rfl rfl ?_
  refine j_aload_n 0 C dL_law_1155 rfl rfl rfl ?_
  refine j_iload 5 C dL_law_1156 rfl rfl ?_
  refine j_iconst C dL_law_1158 rfl ?_
  refine j_iadd C dL_law_1159 rfl ?_
  refine j_sld C hX hbl hbA dL_law_1160 rfl ⟨by omega, by omega⟩ (by omega) (y := a1) (by rw [show (5 * (j : Int) + 1).toNat = 5 * j + 1 by omega]; exact ha1) ?_
  obtain ⟨-, _, _, _, _, _, _, _, _, _, _, _, _, _, _, _, hrc, -⟩ := id hM1
  refine j_callV (st' := []) (As := [vi (a1)]) C dL_law_1161 rfl m_L_177 hrc rfl rfl rfl (m_layersIn (kL κ) hfl (kD κ) (kc κ) σ1 am bs ru se pf hd ca evs ln bl1 th1 hM1 a1 r1) rfl (by omega) (by omega) (by omega) (fun _ _ hx => hx.elim) (fun v2 σ2 hp2 => ?_)
  obtain ⟨rz, rfl, hrz, ⟨bl2, hM2⟩, hK2, hd2⟩ := hp2
  rw [hO9] at hrz hM2
  obtain ⟨hI2, ho2, hf2⟩ := hI.mk2 hR1 hT1 ho1 hf1 hm1 hM2 hK2 hd2
  show J κ σ2 [(0, .ref b), (1, .ref (ad 0)), (2, .ref (am 0)), (3, .ref o), (4, .ref d), (5, vi ((5 * (j : Int)))), (6, vi (O.1))] 1164 [vi (rz)] _ _
  refine j_istore (lv' := [(0, .ref b), (1, .ref (ad 0)), (2, .ref (am 0)), (3, .ref o), (4, .ref d), (5, vi ((5 * (j : Int)))), (6, vi (O.1)), (7, vi (rz))]) [1, 2, 3, 4, 5, 6, 7, 0] C dL_law_1164 rfl rfl rfl ?_
  refine j_aload_n 2 C dL_law_1166 rfl rfl rfl ?_
  obtain ⟨-, _, _, _, _, _, _, _, _, _, _, _, _, _, _, _, hrc, -⟩ := id hM2
  refine j_callV (st' := []) (As := []) C dL_law_1167 rfl m_L_127 hrc rfl rfl rfl (m_thrown (kL κ) hfl (kD κ) (kc κ) σ2 am _ _ _ _ _ _ _ _ bl2 O.1 hM2) rfl (by omega) (by omega) (by omega) (fun _ _ hx => hx.elim) (fun v3 σ3 hp3 => ?_)
  obtain ⟨rfl, hs9⟩ := hp3
  replace hs9 := hs9.symm
  subst hs9
  show J κ σ2 [(0, .ref b), (1, .ref (ad 0)), (2, .ref (am 0)), (3, .ref o), (4, .ref d), (5, vi ((5 * (j : Int)))), (6, vi (O.1)), (7, vi (rz))] 1170 [vi (O.1)] _ _
  refine j_iload 6 C dL_law_1170 rfl rfl ?_
  refine j_icmp_same (tgt := 1177) C dL_law_1172 rfl ?_
  refine j_iload 6 C dL_law_1177 rfl rfl ?_
  refine j_if_ne (tgt := 1194) C dL_law_1179 rfl rfl ⟨by omega, by omega⟩ (fun cc1 => ?_) (fun cc1 => ?_)
  · refine j_goto (tgt := 2447) C dL_law_1194 rfl ?_
    refine j_locals (lv' := [(0, .ref b), (1, .ref (ad 0)), (2, .ref (am 0)), (3, .ref o), (4, .ref d), (5, vi ((5 * (j : Int))))]) [0, 1, 2, 3, 4, 5] rfl ?_
    exact hB _ _ _ _ _ _ hI2 ha01 (by omega) (by omega)
  · have e8 : vi rz = vi (w32 O.2.1) := by rw [hrz cc1]; exact vi_w _
    rw [e8]
    refine j_aload_n 3 C dL_law_1182 rfl rfl rfl ?_
    refine j_iconst C dL_law_1183 rfl ?_
    refine j_lald C dL_law_1184 rfl ho2 ⟨by decide, by decide⟩ (by decide) (y := w32 O.2.1) (hg1 cc1) ?_
    refine j_iload 7 C dL_law_1185 rfl rfl ?_
    refine j_i2l C dL_law_1187 rfl (w32_in _) ?_
    refine j_lcmp_same C dL_law_1188 rfl ?_
    refine j_if_eq (tgt := 1194) C dL_law_1189 rfl rfl ⟨by decide, by decide⟩ (fun _ => ?_) (fun cc => absurd cc (by decide))
    refine j_goto (tgt := 2447) C dL_law_1194 rfl ?_
    refine j_locals (lv' := [(0, .ref b), (1, .ref (ad 0)), (2, .ref (am 0)), (3, .ref o), (4, .ref d), (5, vi ((5 * (j : Int))))]) [0, 1, 2, 3, 4, 5] rfl ?_
    exact hB _ _ _ _ _ _ hI2 ha01 (by omega) (by omega)
set_option maxHeartbeats 8000000 in
set_option maxRecDepth 20000 in
theorem lc_15 {κ : Kx} {nmx : String} {b L j k n : Nat} {xs : Nat → Int} {σ : Wd} {tg ad am : Nat → Nat} {S : St} {o d : Nat} (C : Cx κ cL_law 9 RL nmx 9) (HN : Ncs (kS κ)) (hfl : (kL κ).stackTraces = false) (hxs : ∀ i : Nat, -2147483648 ≤ xs i ∧ xs i < 2147483648) (hX : va_X b L (fun j => Int32.ofInt (xs j)) (kS κ) (kS κ).heap) (hbl : b < (kS κ).heap.size) (hbA : ¬ kA κ b) (hL : L < 2147483648) (hI : LI (kc κ) σ tg ad am S o d) (hj : 5 * j + 5 ≤ L) (hk : k + 300 ≤ (kR κ).cells) (hn : n + 8000 ≤ (kR κ).slots) (hB : LB κ b o d (ad 0) am j k n) : J κ σ [(0, .ref b), (1, .ref (ad 0)), (2, .ref (am 0)), (3, .ref o), (4, .ref d), (5, vi (5 * (j : Int)))] 1197 [] k n := by
  obtain ⟨a1, ha1⟩ : ∃ a, xs (5 * j + 1) = a := ⟨_, rfl⟩
  have r1 : -2147483648 ≤ a1 ∧ a1 < 2147483648 := by rw [← ha1]; exact hxs _
  obtain ⟨a2, ha2⟩ : ∃ a, xs (5 * j + 2) = a := ⟨_, rfl⟩
  have r2 : -2147483648 ≤ a2 ∧ a2 < 2147483648 := by rw [← ha2]; exact hxs _
  obtain ⟨a3, ha3⟩ : ∃ a, xs (5 * j + 3) = a := ⟨_, rfl⟩
  have r3 : -2147483648 ≤ a3 ∧ a3 < 2147483648 := by rw [← ha3]; exact hxs _
  obtain ⟨a4, ha4⟩ : ∃ a, xs (5 * j + 4) = a := ⟨_, rfl⟩
  have r4 : -2147483648 ≤ a4 ∧ a4 < 2147483648 := by rw [← ha4]; exact hxs _
  obtain ⟨bs, ru, se, pf, hd, ca, evs, ln⟩ := S
  have hX0 : RX (kc κ) σ tg ad bs ru se pf hd ca evs ln := hI.1
  have hO := hX0.ok
  obtain ⟨-, -, ⟨g0, hout⟩, ⟨f0, hdub⟩, ⟨to9, td9⟩, -⟩ := id hI
  refine j_aload_n 1 C dL_law_1197 rfl rfl rfl ?_
  refine j_aload_n 0 C dL_law_1198 rfl rfl rfl ?_
  refine j_iload 5 C dL_law_1199 rfl rfl ?_
  refine j_iconst C dL_law_1201 rfl ?_
  refine j_iadd C dL_law_1202 rfl ?_
  refine j_sld C hX hbl hbA dL_law_1203 rfl ⟨by omega, by omega⟩ (by omega) (y := a1) (by rw [show (5 * (j : Int) + 1).toNat = 5 * j + 1 by omega]; exact ha1) ?_
  refine j_aload_n 0 C dL_law_1204 rfl rfl rfl ?_
  refine j_iload 5 C dL_law_1205 rfl rfl ?_
  refine j_iconst C dL_law_1207 rfl ?_
  refine j_iadd C dL_law_1208 rfl ?_
  refine j_sld C hX hbl hbA dL_law_1209 rfl ⟨by omega, by omega⟩ (by omega) (y := a2) (by rw [show (5 * (j : Int) + 2).toNat = 5 * j + 2 by omega]; exact ha2) ?_
  refine j_aload_n 3 C dL_law_1210 rfl rfl rfl ?_
  refine j_callSN (st' := []) (As := [.ref (ad 0), vi (a1), vi (a2), .ref o]) C HN dL_law_1211 rfl m_L_178 rfl rfl (W_layerBushels (kL κ) hfl (kD κ) (kc κ) σ tg ad bs ru se pf hd ca evs ln hX0 o g0 hout (by omega) a1 r1 a2 r2) rfl (by omega) (by omega) (by omega) (fun _ _ hx => hx.elim) (fun v1 σ1 hp => ?_)
  obtain ⟨rfl, ⟨tg1, ad1, hR1, hT1, ha01⟩, ⟨g1, ho1, hg1⟩, hK1, hm1⟩ := hp
  have hcr := cr_layerBushels bs ru se pf hd ca evs ln a1 a2
  obtain ⟨O, hO9⟩ : ∃ O : Rs, o_layerBushels bs ru se pf hd ca evs ln a1 a2 = O := ⟨_, rfl⟩
  show J κ σ1 [(0, .ref b), (1, .ref (ad 0)), (2, .ref (am 0)), (3, .ref o), (4, .ref d), (5, vi ((5 * (j : Int))))] 1214 [vi (o_layerBushels bs ru se pf hd ca evs ln a1 a2).1] _ _
  rw [hO9] at hR1 hg1 hcr ⊢
  obtain ⟨bl1, th1, hM1⟩ := hI.mod (Or.inl rfl) hK1
  have hf1 := hI.dbl hdub hK1
  show J κ σ1 [(0, .ref b), (1, .ref (ad 0)), (2, .ref (am 0)), (3, .ref o), (4, .ref d), (5, vi ((5 * (j : Int))))] 1214 [vi (O.1)] _ _
  refine j_istore (lv' := [(0, .ref b), (1, .ref (ad 0)), (2, .ref (am 0)), (3, .ref o), (4, .ref d), (5, vi ((5 * (j : Int)))), (6, vi (O.1))]) [1, 2, 3, 4, 5, 6, 0] C dL_law_1214 rfl rfl rfl ?_
  refine j_aload_n 2 C dL_law_1216 rfl rfl rfl ?_
  refine j_aload_n 0 C dL_law_1217 rfl rfl rfl ?_
  refine j_iload 5 C dL_law_1218 rfl rfl ?_
  refine j_iconst C dL_law_1220 rfl ?_
  refine j_iadd C dL_law_1221 rfl ?_
  refine j_sld C hX hbl hbA dL_law_1222 rfl ⟨by omega, by omega⟩ (by omega) (y := a1) (by rw [show (5 * (j : Int) + 1).toNat = 5 * j + 1 by omega]; exact ha1) ?_
  refine j_aload_n 0 C dL_law_1223 rfl rfl rfl ?_
  refine j_iload 5 C dL_law_1224 rfl rfl ?_
  refine j_iconst C dL_law_1226 rfl ?_
  refine j_iadd C dL_law_1227 rfl ?_
  refine j_sld C hX hbl hbA dL_law_1228 rfl ⟨by omega, by omega⟩ (by omega) (y := a2) (by rw [show (5 * (j : Int) + 2).toNat = 5 * j + 2 by omega]; exact ha2) ?_
  obtain ⟨-, _, _, _, _, _, _, _, _, _, _, _, _, _, _, _, hrc, -⟩ := id hM1
  refine j_callV (st' := []) (As := [vi (a1), vi (a2)]) C dL_law_1229 rfl m_L_180 hrc rfl rfl rfl (m_layerBushels (kL κ) hfl (kD κ) (kc κ) σ1 am bs ru se pf hd ca evs ln bl1 th1 hM1 a1 r1 a2 r2) rfl (by omega) (by omega) (by omega) (fun _ _ hx => hx.elim) (fun v2 σ2 hp2 => ?_)
  obtain ⟨rz, rfl, hrz, ⟨bl2, hM2⟩, hK2, hd2⟩ := hp2
  rw [hO9] at hrz hM2
  obtain ⟨hI2, ho2, hf2⟩ := hI.mk2 hR1 hT1 ho1 hf1 hm1 hM2 hK2 hd2
  show J κ σ2 [(0, .ref b), (1, .ref (ad 0)), (2, .ref (am 0)), (3, .ref o), (4, .ref d), (5, vi ((5 * (j : Int)))), (6, vi (O.1))] 1232 [vi (rz)] _ _
  refine j_istore (lv' := [(0, .ref b), (1, .ref (ad 0)), (2, .ref (am 0)), (3, .ref o), (4, .ref d), (5, vi ((5 * (j : Int)))), (6, vi (O.1)), (7, vi (rz))]) [1, 2, 3, 4, 5, 6, 7, 0] C dL_law_1232 rfl rfl rfl ?_
  refine j_aload_n 2 C dL_law_1234 rfl rfl rfl ?_
  obtain ⟨-, _, _, _, _, _, _, _, _, _, _, _, _, _, _, _, hrc, -⟩ := id hM2
  refine j_callV (st' := []) (As := []) C dL_law_1235 rfl m_L_127 hrc rfl rfl rfl (m_thrown (kL κ) hfl (kD κ) (kc κ) σ2 am _ _ _ _ _ _ _ _ bl2 O.1 hM2) rfl (by omega) (by omega) (by omega) (fun _ _ hx => hx.elim) (fun v3 σ3 hp3 => ?_)
  obtain ⟨rfl, hs9⟩ := hp3
  replace hs9 := hs9.symm
  subst hs9
  show J κ σ2 [(0, .ref b), (1, .ref (ad 0)), (2, .ref (am 0)), (3, .ref o), (4, .ref d), (5, vi ((5 * (j : Int)))), (6, vi (O.1)), (7, vi (rz))] 1238 [vi (O.1)] _ _
  refine j_iload 6 C dL_law_1238 rfl rfl ?_
  refine j_icmp_same (tgt := 1245) C dL_law_1240 rfl ?_
  refine j_iload 6 C dL_law_1245 rfl rfl ?_
  refine j_if_ne (tgt := 1262) C dL_law_1247 rfl rfl ⟨by omega, by omega⟩ (fun cc1 => ?_) (fun cc1 => ?_)
  · refine j_goto (tgt := 2447) C dL_law_1262 rfl ?_
    refine j_locals (lv' := [(0, .ref b), (1, .ref (ad 0)), (2, .ref (am 0)), (3, .ref o), (4, .ref d), (5, vi ((5 * (j : Int))))]) [0, 1, 2, 3, 4, 5] rfl ?_
    exact hB _ _ _ _ _ _ hI2 ha01 (by omega) (by omega)
  · have e8 : vi rz = vi (w32 O.2.1) := by rw [hrz cc1]; exact vi_w _
    rw [e8]
    refine j_aload_n 3 C dL_law_1250 rfl rfl rfl ?_
    refine j_iconst C dL_law_1251 rfl ?_
    refine j_lald C dL_law_1252 rfl ho2 ⟨by decide, by decide⟩ (by decide) (y := w32 O.2.1) (hg1 cc1) ?_
    refine j_iload 7 C dL_law_1253 rfl rfl ?_
    refine j_i2l C dL_law_1255 rfl (w32_in _) ?_
    refine j_lcmp_same C dL_law_1256 rfl ?_
    refine j_if_eq (tgt := 1262) C dL_law_1257 rfl rfl ⟨by decide, by decide⟩ (fun _ => ?_) (fun cc => absurd cc (by decide))
    refine j_goto (tgt := 2447) C dL_law_1262 rfl ?_
    refine j_locals (lv' := [(0, .ref b), (1, .ref (ad 0)), (2, .ref (am 0)), (3, .ref o), (4, .ref d), (5, vi ((5 * (j : Int))))]) [0, 1, 2, 3, 4, 5] rfl ?_
    exact hB _ _ _ _ _ _ hI2 ha01 (by omega) (by omega)
set_option maxHeartbeats 8000000 in
set_option maxRecDepth 20000 in
theorem lc_16 {κ : Kx} {nmx : String} {b L j k n : Nat} {xs : Nat → Int} {σ : Wd} {tg ad am : Nat → Nat} {S : St} {o d : Nat} (C : Cx κ cL_law 9 RL nmx 9) (HN : Ncs (kS κ)) (hfl : (kL κ).stackTraces = false) (hxs : ∀ i : Nat, -2147483648 ≤ xs i ∧ xs i < 2147483648) (hX : va_X b L (fun j => Int32.ofInt (xs j)) (kS κ) (kS κ).heap) (hbl : b < (kS κ).heap.size) (hbA : ¬ kA κ b) (hL : L < 2147483648) (hI : LI (kc κ) σ tg ad am S o d) (hj : 5 * j + 5 ≤ L) (hk : k + 300 ≤ (kR κ).cells) (hn : n + 8000 ≤ (kR κ).slots) (hB : LB κ b o d (ad 0) am j k n) : J κ σ [(0, .ref b), (1, .ref (ad 0)), (2, .ref (am 0)), (3, .ref o), (4, .ref d), (5, vi (5 * (j : Int)))] 1265 [] k n := by
  obtain ⟨a1, ha1⟩ : ∃ a, xs (5 * j + 1) = a := ⟨_, rfl⟩
  have r1 : -2147483648 ≤ a1 ∧ a1 < 2147483648 := by rw [← ha1]; exact hxs _
  obtain ⟨a2, ha2⟩ : ∃ a, xs (5 * j + 2) = a := ⟨_, rfl⟩
  have r2 : -2147483648 ≤ a2 ∧ a2 < 2147483648 := by rw [← ha2]; exact hxs _
  obtain ⟨a3, ha3⟩ : ∃ a, xs (5 * j + 3) = a := ⟨_, rfl⟩
  have r3 : -2147483648 ≤ a3 ∧ a3 < 2147483648 := by rw [← ha3]; exact hxs _
  obtain ⟨a4, ha4⟩ : ∃ a, xs (5 * j + 4) = a := ⟨_, rfl⟩
  have r4 : -2147483648 ≤ a4 ∧ a4 < 2147483648 := by rw [← ha4]; exact hxs _
  obtain ⟨bs, ru, se, pf, hd, ca, evs, ln⟩ := S
  have hX0 : RX (kc κ) σ tg ad bs ru se pf hd ca evs ln := hI.1
  have hO := hX0.ok
  obtain ⟨-, -, ⟨g0, hout⟩, ⟨f0, hdub⟩, ⟨to9, td9⟩, -⟩ := id hI
  refine j_aload_n 1 C dL_law_1265 rfl rfl rfl ?_
  refine j_aload_n 0 C dL_law_1266 rfl rfl rfl ?_
  refine j_iload 5 C dL_law_1267 rfl rfl ?_
  refine j_iconst C dL_law_1269 rfl ?_
  refine j_iadd C dL_law_1270 rfl ?_
  refine j_sld C hX hbl hbA dL_law_1271 rfl ⟨by omega, by omega⟩ (by omega) (y := a1) (by rw [show (5 * (j : Int) + 1).toNat = 5 * j + 1 by omega]; exact ha1) ?_
  refine j_aload_n 0 C dL_law_1272 rfl rfl rfl ?_
  refine j_iload 5 C dL_law_1273 rfl rfl ?_
  refine j_iconst C dL_law_1275 rfl ?_
  refine j_iadd C dL_law_1276 rfl ?_
  refine j_sld C hX hbl hbA dL_law_1277 rfl ⟨by omega, by omega⟩ (by omega) (y := a2) (by rw [show (5 * (j : Int) + 2).toNat = 5 * j + 2 by omega]; exact ha2) ?_
  refine j_aload_n 3 C dL_law_1278 rfl rfl rfl ?_
  refine j_callSN (st' := []) (As := [.ref (ad 0), vi (a1), vi (a2), .ref o]) C HN dL_law_1279 rfl m_L_181 rfl rfl (W_layerAnew (kL κ) hfl (kD κ) (kc κ) σ tg ad bs ru se pf hd ca evs ln hX0 o g0 hout (by omega) a1 r1 a2 r2) rfl (by omega) (by omega) (by omega) (fun _ _ hx => hx.elim) (fun v1 σ1 hp => ?_)
  obtain ⟨rfl, ⟨tg1, ad1, hR1, hT1, ha01⟩, ⟨g1, ho1, hg1⟩, hK1, hm1⟩ := hp
  have hcr := cr_layerBushels bs ru se pf hd ca evs ln a1 a2
  obtain ⟨O, hO9⟩ : ∃ O : Rs, o_layerBushels bs ru se pf hd ca evs ln a1 a2 = O := ⟨_, rfl⟩
  show J κ σ1 [(0, .ref b), (1, .ref (ad 0)), (2, .ref (am 0)), (3, .ref o), (4, .ref d), (5, vi ((5 * (j : Int))))] 1282 [vi (o_layerBushels bs ru se pf hd ca evs ln a1 a2).1] _ _
  rw [hO9] at hR1 hg1 hcr ⊢
  obtain ⟨bl1, th1, hM1⟩ := hI.mod (Or.inl rfl) hK1
  have hf1 := hI.dbl hdub hK1
  show J κ σ1 [(0, .ref b), (1, .ref (ad 0)), (2, .ref (am 0)), (3, .ref o), (4, .ref d), (5, vi ((5 * (j : Int))))] 1282 [vi (O.1)] _ _
  refine j_istore (lv' := [(0, .ref b), (1, .ref (ad 0)), (2, .ref (am 0)), (3, .ref o), (4, .ref d), (5, vi ((5 * (j : Int)))), (6, vi (O.1))]) [1, 2, 3, 4, 5, 6, 0] C dL_law_1282 rfl rfl rfl ?_
  refine j_aload_n 2 C dL_law_1284 rfl rfl rfl ?_
  refine j_aload_n 0 C dL_law_1285 rfl rfl rfl ?_
  refine j_iload 5 C dL_law_1286 rfl rfl ?_
  refine j_iconst C dL_law_1288 rfl ?_
  refine j_iadd C dL_law_1289 rfl ?_
  refine j_sld C hX hbl hbA dL_law_1290 rfl ⟨by omega, by omega⟩ (by omega) (y := a1) (by rw [show (5 * (j : Int) + 1).toNat = 5 * j + 1 by omega]; exact ha1) ?_
  refine j_aload_n 0 C dL_law_1291 rfl rfl rfl ?_
  refine j_iload 5 C dL_law_1292 rfl rfl ?_
  refine j_iconst C dL_law_1294 rfl ?_
  refine j_iadd C dL_law_1295 rfl ?_
  refine j_sld C hX hbl hbA dL_law_1296 rfl ⟨by omega, by omega⟩ (by omega) (y := a2) (by rw [show (5 * (j : Int) + 2).toNat = 5 * j + 2 by omega]; exact ha2) ?_
  obtain ⟨-, _, _, _, _, _, _, _, _, _, _, _, _, _, _, _, hrc, -⟩ := id hM1
  refine j_callV (st' := []) (As := [vi (a1), vi (a2)]) C dL_law_1297 rfl m_L_183 hrc rfl rfl rfl (m_layerAnew (kL κ) hfl (kD κ) (kc κ) σ1 am bs ru se pf hd ca evs ln bl1 th1 hM1 a1 r1 a2 r2) rfl (by omega) (by omega) (by omega) (fun _ _ hx => hx.elim) (fun v2 σ2 hp2 => ?_)
  obtain ⟨rz, rfl, hrz, ⟨bl2, hM2⟩, hK2, hd2⟩ := hp2
  rw [hO9] at hrz hM2
  obtain ⟨hI2, ho2, hf2⟩ := hI.mk2 hR1 hT1 ho1 hf1 hm1 hM2 hK2 hd2
  show J κ σ2 [(0, .ref b), (1, .ref (ad 0)), (2, .ref (am 0)), (3, .ref o), (4, .ref d), (5, vi ((5 * (j : Int)))), (6, vi (O.1))] 1300 [vi (rz)] _ _
  refine j_istore (lv' := [(0, .ref b), (1, .ref (ad 0)), (2, .ref (am 0)), (3, .ref o), (4, .ref d), (5, vi ((5 * (j : Int)))), (6, vi (O.1)), (7, vi (rz))]) [1, 2, 3, 4, 5, 6, 7, 0] C dL_law_1300 rfl rfl rfl ?_
  refine j_aload_n 2 C dL_law_1302 rfl rfl rfl ?_
  obtain ⟨-, _, _, _, _, _, _, _, _, _, _, _, _, _, _, _, hrc, -⟩ := id hM2
  refine j_callV (st' := []) (As := []) C dL_law_1303 rfl m_L_127 hrc rfl rfl rfl (m_thrown (kL κ) hfl (kD κ) (kc κ) σ2 am _ _ _ _ _ _ _ _ bl2 O.1 hM2) rfl (by omega) (by omega) (by omega) (fun _ _ hx => hx.elim) (fun v3 σ3 hp3 => ?_)
  obtain ⟨rfl, hs9⟩ := hp3
  replace hs9 := hs9.symm
  subst hs9
  show J κ σ2 [(0, .ref b), (1, .ref (ad 0)), (2, .ref (am 0)), (3, .ref o), (4, .ref d), (5, vi ((5 * (j : Int)))), (6, vi (O.1)), (7, vi (rz))] 1306 [vi (O.1)] _ _
  refine j_iload 6 C dL_law_1306 rfl rfl ?_
  refine j_icmp_same (tgt := 1313) C dL_law_1308 rfl ?_
  refine j_iload 6 C dL_law_1313 rfl rfl ?_
  refine j_if_ne (tgt := 1330) C dL_law_1315 rfl rfl ⟨by omega, by omega⟩ (fun cc1 => ?_) (fun cc1 => ?_)
  · refine j_goto (tgt := 2447) C dL_law_1330 rfl ?_
    refine j_locals (lv' := [(0, .ref b), (1, .ref (ad 0)), (2, .ref (am 0)), (3, .ref o), (4, .ref d), (5, vi ((5 * (j : Int))))]) [0, 1, 2, 3, 4, 5] rfl ?_
    exact hB _ _ _ _ _ _ hI2 ha01 (by omega) (by omega)
  · have e8 : vi rz = vi (w32 O.2.1) := by rw [hrz cc1]; exact vi_w _
    rw [e8]
    refine j_aload_n 3 C dL_law_1318 rfl rfl rfl ?_
    refine j_iconst C dL_law_1319 rfl ?_
    refine j_lald C dL_law_1320 rfl ho2 ⟨by decide, by decide⟩ (by decide) (y := w32 O.2.1) (hg1 cc1) ?_
    refine j_iload 7 C dL_law_1321 rfl rfl ?_
    refine j_i2l C dL_law_1323 rfl (w32_in _) ?_
    refine j_lcmp_same C dL_law_1324 rfl ?_
    refine j_if_eq (tgt := 1330) C dL_law_1325 rfl rfl ⟨by decide, by decide⟩ (fun _ => ?_) (fun cc => absurd cc (by decide))
    refine j_goto (tgt := 2447) C dL_law_1330 rfl ?_
    refine j_locals (lv' := [(0, .ref b), (1, .ref (ad 0)), (2, .ref (am 0)), (3, .ref o), (4, .ref d), (5, vi ((5 * (j : Int))))]) [0, 1, 2, 3, 4, 5] rfl ?_
    exact hB _ _ _ _ _ _ hI2 ha01 (by omega) (by omega)
set_option maxHeartbeats 8000000 in
set_option maxRecDepth 20000 in
theorem lc_17 {κ : Kx} {nmx : String} {b L j k n : Nat} {xs : Nat → Int} {σ : Wd} {tg ad am : Nat → Nat} {S : St} {o d : Nat} (C : Cx κ cL_law 9 RL nmx 9) (HN : Ncs (kS κ)) (hfl : (kL κ).stackTraces = false) (hxs : ∀ i : Nat, -2147483648 ≤ xs i ∧ xs i < 2147483648) (hX : va_X b L (fun j => Int32.ofInt (xs j)) (kS κ) (kS κ).heap) (hbl : b < (kS κ).heap.size) (hbA : ¬ kA κ b) (hL : L < 2147483648) (hI : LI (kc κ) σ tg ad am S o d) (hj : 5 * j + 5 ≤ L) (hk : k + 300 ≤ (kR κ).cells) (hn : n + 8000 ≤ (kR κ).slots) (hB : LB κ b o d (ad 0) am j k n) : J κ σ [(0, .ref b), (1, .ref (ad 0)), (2, .ref (am 0)), (3, .ref o), (4, .ref d), (5, vi (5 * (j : Int)))] 1333 [] k n := by
  obtain ⟨a1, ha1⟩ : ∃ a, xs (5 * j + 1) = a := ⟨_, rfl⟩
  have r1 : -2147483648 ≤ a1 ∧ a1 < 2147483648 := by rw [← ha1]; exact hxs _
  obtain ⟨a2, ha2⟩ : ∃ a, xs (5 * j + 2) = a := ⟨_, rfl⟩
  have r2 : -2147483648 ≤ a2 ∧ a2 < 2147483648 := by rw [← ha2]; exact hxs _
  obtain ⟨a3, ha3⟩ : ∃ a, xs (5 * j + 3) = a := ⟨_, rfl⟩
  have r3 : -2147483648 ≤ a3 ∧ a3 < 2147483648 := by rw [← ha3]; exact hxs _
  obtain ⟨a4, ha4⟩ : ∃ a, xs (5 * j + 4) = a := ⟨_, rfl⟩
  have r4 : -2147483648 ≤ a4 ∧ a4 < 2147483648 := by rw [← ha4]; exact hxs _
  obtain ⟨bs, ru, se, pf, hd, ca, evs, ln⟩ := S
  have hX0 : RX (kc κ) σ tg ad bs ru se pf hd ca evs ln := hI.1
  have hO := hX0.ok
  obtain ⟨-, -, ⟨g0, hout⟩, ⟨f0, hdub⟩, ⟨to9, td9⟩, -⟩ := id hI
  refine j_aload_n 1 C dL_law_1333 rfl rfl rfl ?_
  refine j_aload_n 0 C dL_law_1334 rfl rfl rfl ?_
  refine j_iload 5 C dL_law_1335 rfl rfl ?_
  refine j_iconst C dL_law_1337 rfl ?_
  refine j_iadd C dL_law_1338 rfl ?_
  refine j_sld C hX hbl hbA dL_law_1339 rfl ⟨by omega, by omega⟩ (by omega) (y := a1) (by rw [show (5 * (j : Int) + 1).toNat = 5 * j + 1 by omega]; exact ha1) ?_
  refine j_aload_n 0 C dL_law_1340 rfl rfl rfl ?_
  refine j_iload 5 C dL_law_1341 rfl rfl ?_
  refine j_iconst C dL_law_1343 rfl ?_
  refine j_iadd C dL_law_1344 rfl ?_
  refine j_sld C hX hbl hbA dL_law_1345 rfl ⟨by omega, by omega⟩ (by omega) (y := a2) (by rw [show (5 * (j : Int) + 2).toNat = 5 * j + 2 by omega]; exact ha2) ?_
  refine j_aload_n 3 C dL_law_1346 rfl rfl rfl ?_
  refine j_callSN (st' := []) (As := [.ref (ad 0), vi (a1), vi (a2), .ref o]) C HN dL_law_1347 rfl m_L_184 rfl rfl (W_layerMoisture (kL κ) hfl (kD κ) (kc κ) σ tg ad bs ru se pf hd ca evs ln hX0 o g0 hout (by omega) a1 r1 a2 r2) rfl (by omega) (by omega) (by omega) (fun _ _ hx => hx.elim) (fun v1 σ1 hp => ?_)
  obtain ⟨rfl, ⟨tg1, ad1, hR1, hT1, ha01⟩, ⟨g1, ho1, hg1⟩, hK1, hm1⟩ := hp
  have hcr := cr_layerMoisture bs ru se pf hd ca evs ln a1 a2
  obtain ⟨O, hO9⟩ : ∃ O : Rs, o_layerMoisture bs ru se pf hd ca evs ln a1 a2 = O := ⟨_, rfl⟩
  show J κ σ1 [(0, .ref b), (1, .ref (ad 0)), (2, .ref (am 0)), (3, .ref o), (4, .ref d), (5, vi ((5 * (j : Int))))] 1350 [vi (o_layerMoisture bs ru se pf hd ca evs ln a1 a2).1] _ _
  rw [hO9] at hR1 hg1 hcr ⊢
  obtain ⟨bl1, th1, hM1⟩ := hI.mod (Or.inl rfl) hK1
  have hf1 := hI.dbl hdub hK1
  show J κ σ1 [(0, .ref b), (1, .ref (ad 0)), (2, .ref (am 0)), (3, .ref o), (4, .ref d), (5, vi ((5 * (j : Int))))] 1350 [vi (O.1)] _ _
  refine j_istore (lv' := [(0, .ref b), (1, .ref (ad 0)), (2, .ref (am 0)), (3, .ref o), (4, .ref d), (5, vi ((5 * (j : Int)))), (6, vi (O.1))]) [1, 2, 3, 4, 5, 6, 0] C dL_law_1350 rfl rfl rfl ?_
  refine j_aload_n 2 C dL_law_1352 rfl rfl rfl ?_
  refine j_aload_n 0 C dL_law_1353 rfl rfl rfl ?_
  refine j_iload 5 C dL_law_1354 rfl rfl ?_
  refine j_iconst C dL_law_1356 rfl ?_
  refine j_iadd C dL_law_1357 rfl ?_
  refine j_sld C hX hbl hbA dL_law_1358 rfl ⟨by omega, by omega⟩ (by omega) (y := a1) (by rw [show (5 * (j : Int) + 1).toNat = 5 * j + 1 by omega]; exact ha1) ?_
  refine j_aload_n 0 C dL_law_1359 rfl rfl rfl ?_
  refine j_iload 5 C dL_law_1360 rfl rfl ?_
  refine j_iconst C dL_law_1362 rfl ?_
  refine j_iadd C dL_law_1363 rfl ?_
  refine j_sld C hX hbl hbA dL_law_1364 rfl ⟨by omega, by omega⟩ (by omega) (y := a2) (by rw [show (5 * (j : Int) + 2).toNat = 5 * j + 2 by omega]; exact ha2) ?_
  obtain ⟨-, _, _, _, _, _, _, _, _, _, _, _, _, _, _, _, hrc, -⟩ := id hM1
  refine j_callV (st' := []) (As := [vi (a1), vi (a2)]) C dL_law_1365 rfl m_L_186 hrc rfl rfl rfl (m_layerMoisture (kL κ) hfl (kD κ) (kc κ) σ1 am bs ru se pf hd ca evs ln bl1 th1 hM1 a1 r1 a2 r2) rfl (by omega) (by omega) (by omega) (fun _ _ hx => hx.elim) (fun v2 σ2 hp2 => ?_)
  obtain ⟨rz, rfl, hrz, ⟨bl2, hM2⟩, hK2, hd2⟩ := hp2
  rw [hO9] at hrz hM2
  obtain ⟨hI2, ho2, hf2⟩ := hI.mk2 hR1 hT1 ho1 hf1 hm1 hM2 hK2 hd2
  show J κ σ2 [(0, .ref b), (1, .ref (ad 0)), (2, .ref (am 0)), (3, .ref o), (4, .ref d), (5, vi ((5 * (j : Int)))), (6, vi (O.1))] 1368 [vi (rz)] _ _
  refine j_istore (lv' := [(0, .ref b), (1, .ref (ad 0)), (2, .ref (am 0)), (3, .ref o), (4, .ref d), (5, vi ((5 * (j : Int)))), (6, vi (O.1)), (7, vi (rz))]) [1, 2, 3, 4, 5, 6, 7, 0] C dL_law_1368 rfl rfl rfl ?_
  refine j_aload_n 2 C dL_law_1370 rfl rfl rfl ?_
  obtain ⟨-, _, _, _, _, _, _, _, _, _, _, _, _, _, _, _, hrc, -⟩ := id hM2
  refine j_callV (st' := []) (As := []) C dL_law_1371 rfl m_L_127 hrc rfl rfl rfl (m_thrown (kL κ) hfl (kD κ) (kc κ) σ2 am _ _ _ _ _ _ _ _ bl2 O.1 hM2) rfl (by omega) (by omega) (by omega) (fun _ _ hx => hx.elim) (fun v3 σ3 hp3 => ?_)
  obtain ⟨rfl, hs9⟩ := hp3
  replace hs9 := hs9.symm
  subst hs9
  show J κ σ2 [(0, .ref b), (1, .ref (ad 0)), (2, .ref (am 0)), (3, .ref o), (4, .ref d), (5, vi ((5 * (j : Int)))), (6, vi (O.1)), (7, vi (rz))] 1374 [vi (O.1)] _ _
  refine j_iload 6 C dL_law_1374 rfl rfl ?_
  refine j_icmp_same (tgt := 1381) C dL_law_1376 rfl ?_
  refine j_iload 6 C dL_law_1381 rfl rfl ?_
  refine j_if_ne (tgt := 1398) C dL_law_1383 rfl rfl ⟨by omega, by omega⟩ (fun cc1 => ?_) (fun cc1 => ?_)
  · refine j_goto (tgt := 2447) C dL_law_1398 rfl ?_
    refine j_locals (lv' := [(0, .ref b), (1, .ref (ad 0)), (2, .ref (am 0)), (3, .ref o), (4, .ref d), (5, vi ((5 * (j : Int))))]) [0, 1, 2, 3, 4, 5] rfl ?_
    exact hB _ _ _ _ _ _ hI2 ha01 (by omega) (by omega)
  · have e8 : vi rz = vi (w32 O.2.1) := by rw [hrz cc1]; exact vi_w _
    rw [e8]
    refine j_aload_n 3 C dL_law_1386 rfl rfl rfl ?_
    refine j_iconst C dL_law_1387 rfl ?_
    refine j_lald C dL_law_1388 rfl ho2 ⟨by decide, by decide⟩ (by decide) (y := w32 O.2.1) (hg1 cc1) ?_
    refine j_iload 7 C dL_law_1389 rfl rfl ?_
    refine j_i2l C dL_law_1391 rfl (w32_in _) ?_
    refine j_lcmp_same C dL_law_1392 rfl ?_
    refine j_if_eq (tgt := 1398) C dL_law_1393 rfl rfl ⟨by decide, by decide⟩ (fun _ => ?_) (fun cc => absurd cc (by decide))
    refine j_goto (tgt := 2447) C dL_law_1398 rfl ?_
    refine j_locals (lv' := [(0, .ref b), (1, .ref (ad 0)), (2, .ref (am 0)), (3, .ref o), (4, .ref d), (5, vi ((5 * (j : Int))))]) [0, 1, 2, 3, 4, 5] rfl ?_
    exact hB _ _ _ _ _ _ hI2 ha01 (by omega) (by omega)
set_option maxHeartbeats 8000000 in
set_option maxRecDepth 20000 in
theorem lc_18 {κ : Kx} {nmx : String} {b L j k n : Nat} {xs : Nat → Int} {σ : Wd} {tg ad am : Nat → Nat} {S : St} {o d : Nat} (C : Cx κ cL_law 9 RL nmx 9) (HN : Ncs (kS κ)) (hfl : (kL κ).stackTraces = false) (hxs : ∀ i : Nat, -2147483648 ≤ xs i ∧ xs i < 2147483648) (hX : va_X b L (fun j => Int32.ofInt (xs j)) (kS κ) (kS κ).heap) (hbl : b < (kS κ).heap.size) (hbA : ¬ kA κ b) (hL : L < 2147483648) (hI : LI (kc κ) σ tg ad am S o d) (hj : 5 * j + 5 ≤ L) (hk : k + 300 ≤ (kR κ).cells) (hn : n + 8000 ≤ (kR κ).slots) (hB : LB κ b o d (ad 0) am j k n) : J κ σ [(0, .ref b), (1, .ref (ad 0)), (2, .ref (am 0)), (3, .ref o), (4, .ref d), (5, vi (5 * (j : Int)))] 1401 [] k n := by
  obtain ⟨a1, ha1⟩ : ∃ a, xs (5 * j + 1) = a := ⟨_, rfl⟩
  have r1 : -2147483648 ≤ a1 ∧ a1 < 2147483648 := by rw [← ha1]; exact hxs _
  obtain ⟨a2, ha2⟩ : ∃ a, xs (5 * j + 2) = a := ⟨_, rfl⟩
  have r2 : -2147483648 ≤ a2 ∧ a2 < 2147483648 := by rw [← ha2]; exact hxs _
  obtain ⟨a3, ha3⟩ : ∃ a, xs (5 * j + 3) = a := ⟨_, rfl⟩
  have r3 : -2147483648 ≤ a3 ∧ a3 < 2147483648 := by rw [← ha3]; exact hxs _
  obtain ⟨a4, ha4⟩ : ∃ a, xs (5 * j + 4) = a := ⟨_, rfl⟩
  have r4 : -2147483648 ≤ a4 ∧ a4 < 2147483648 := by rw [← ha4]; exact hxs _
  obtain ⟨bs, ru, se, pf, hd, ca, evs, ln⟩ := S
  have hX0 : RX (kc κ) σ tg ad bs ru se pf hd ca evs ln := hI.1
  have hO := hX0.ok
  obtain ⟨-, -, ⟨g0, hout⟩, ⟨f0, hdub⟩, ⟨to9, td9⟩, -⟩ := id hI
  refine j_aload_n 1 C dL_law_1401 rfl rfl rfl ?_
  refine j_aload_n 0 C dL_law_1402 rfl rfl rfl ?_
  refine j_iload 5 C dL_law_1403 rfl rfl ?_
  refine j_iconst C dL_law_1405 rfl ?_
  refine j_iadd C dL_law_1406 rfl ?_
  refine j_sld C hX hbl hbA dL_law_1407 rfl ⟨by omega, by omega⟩ (by omega) (y := a1) (by rw [show (5 * (j : Int) + 1).toNat = 5 * j + 1 by omega]; exact ha1) ?_
  refine j_aload_n 0 C dL_law_1408 rfl rfl rfl ?_
  refine j_iload 5 C dL_law_1409 rfl rfl ?_
  refine j_iconst C dL_law_1411 rfl ?_
  refine j_iadd C dL_law_1412 rfl ?_
  refine j_sld C hX hbl hbA dL_law_1413 rfl ⟨by omega, by omega⟩ (by omega) (y := a2) (by rw [show (5 * (j : Int) + 2).toNat = 5 * j + 2 by omega]; exact ha2) ?_
  refine j_aload_n 3 C dL_law_1414 rfl rfl rfl ?_
  refine j_callSN (st' := []) (As := [.ref (ad 0), vi (a1), vi (a2), .ref o]) C HN dL_law_1415 rfl m_L_187 rfl rfl (W_layerForeign (kL κ) hfl (kD κ) (kc κ) σ tg ad bs ru se pf hd ca evs ln hX0 o g0 hout (by omega) a1 r1 a2 r2) rfl (by omega) (by omega) (by omega) (fun _ _ hx => hx.elim) (fun v1 σ1 hp => ?_)
  obtain ⟨rfl, ⟨tg1, ad1, hR1, hT1, ha01⟩, ⟨g1, ho1, hg1⟩, hK1, hm1⟩ := hp
  have hcr := cr_layerForeign bs ru se pf hd ca evs ln a1 a2
  obtain ⟨O, hO9⟩ : ∃ O : Rs, o_layerForeign bs ru se pf hd ca evs ln a1 a2 = O := ⟨_, rfl⟩
  show J κ σ1 [(0, .ref b), (1, .ref (ad 0)), (2, .ref (am 0)), (3, .ref o), (4, .ref d), (5, vi ((5 * (j : Int))))] 1418 [vi (o_layerForeign bs ru se pf hd ca evs ln a1 a2).1] _ _
  rw [hO9] at hR1 hg1 hcr ⊢
  obtain ⟨bl1, th1, hM1⟩ := hI.mod (Or.inl rfl) hK1
  have hf1 := hI.dbl hdub hK1
  show J κ σ1 [(0, .ref b), (1, .ref (ad 0)), (2, .ref (am 0)), (3, .ref o), (4, .ref d), (5, vi ((5 * (j : Int))))] 1418 [vi (O.1)] _ _
  refine j_istore (lv' := [(0, .ref b), (1, .ref (ad 0)), (2, .ref (am 0)), (3, .ref o), (4, .ref d), (5, vi ((5 * (j : Int)))), (6, vi (O.1))]) [1, 2, 3, 4, 5, 6, 0] C dL_law_1418 rfl rfl rfl ?_
  refine j_aload_n 2 C dL_law_1420 rfl rfl rfl ?_
  refine j_aload_n 0 C dL_law_1421 rfl rfl rfl ?_
  refine j_iload 5 C dL_law_1422 rfl rfl ?_
  refine j_iconst C dL_law_1424 rfl ?_
  refine j_iadd C dL_law_1425 rfl ?_
  refine j_sld C hX hbl hbA dL_law_1426 rfl ⟨by omega, by omega⟩ (by omega) (y := a1) (by rw [show (5 * (j : Int) + 1).toNat = 5 * j + 1 by omega]; exact ha1) ?_
  refine j_aload_n 0 C dL_law_1427 rfl rfl rfl ?_
  refine j_iload 5 C dL_law_1428 rfl rfl ?_
  refine j_iconst C dL_law_1430 rfl ?_
  refine j_iadd C dL_law_1431 rfl ?_
  refine j_sld C hX hbl hbA dL_law_1432 rfl ⟨by omega, by omega⟩ (by omega) (y := a2) (by rw [show (5 * (j : Int) + 2).toNat = 5 * j + 2 by omega]; exact ha2) ?_
  obtain ⟨-, _, _, _, _, _, _, _, _, _, _, _, _, _, _, _, hrc, -⟩ := id hM1
  refine j_callV (st' := []) (As := [vi (a1), vi (a2)]) C dL_law_1433 rfl m_L_189 hrc rfl rfl rfl (m_layerForeign (kL κ) hfl (kD κ) (kc κ) σ1 am bs ru se pf hd ca evs ln bl1 th1 hM1 a1 r1 a2 r2) rfl (by omega) (by omega) (by omega) (fun _ _ hx => hx.elim) (fun v2 σ2 hp2 => ?_)
  obtain ⟨rz, rfl, hrz, ⟨bl2, hM2⟩, hK2, hd2⟩ := hp2
  rw [hO9] at hrz hM2
  obtain ⟨hI2, ho2, hf2⟩ := hI.mk2 hR1 hT1 ho1 hf1 hm1 hM2 hK2 hd2
  show J κ σ2 [(0, .ref b), (1, .ref (ad 0)), (2, .ref (am 0)), (3, .ref o), (4, .ref d), (5, vi ((5 * (j : Int)))), (6, vi (O.1))] 1436 [vi (rz)] _ _
  refine j_istore (lv' := [(0, .ref b), (1, .ref (ad 0)), (2, .ref (am 0)), (3, .ref o), (4, .ref d), (5, vi ((5 * (j : Int)))), (6, vi (O.1)), (7, vi (rz))]) [1, 2, 3, 4, 5, 6, 7, 0] C dL_law_1436 rfl rfl rfl ?_
  refine j_aload_n 2 C dL_law_1438 rfl rfl rfl ?_
  obtain ⟨-, _, _, _, _, _, _, _, _, _, _, _, _, _, _, _, hrc, -⟩ := id hM2
  refine j_callV (st' := []) (As := []) C dL_law_1439 rfl m_L_127 hrc rfl rfl rfl (m_thrown (kL κ) hfl (kD κ) (kc κ) σ2 am _ _ _ _ _ _ _ _ bl2 O.1 hM2) rfl (by omega) (by omega) (by omega) (fun _ _ hx => hx.elim) (fun v3 σ3 hp3 => ?_)
  obtain ⟨rfl, hs9⟩ := hp3
  replace hs9 := hs9.symm
  subst hs9
  show J κ σ2 [(0, .ref b), (1, .ref (ad 0)), (2, .ref (am 0)), (3, .ref o), (4, .ref d), (5, vi ((5 * (j : Int)))), (6, vi (O.1)), (7, vi (rz))] 1442 [vi (O.1)] _ _
  refine j_iload 6 C dL_law_1442 rfl rfl ?_
  refine j_icmp_same (tgt := 1449) C dL_law_1444 rfl ?_
  refine j_iload 6 C dL_law_1449 rfl rfl ?_
  refine j_if_ne (tgt := 1466) C dL_law_1451 rfl rfl ⟨by omega, by omega⟩ (fun cc1 => ?_) (fun cc1 => ?_)
  · refine j_goto (tgt := 2447) C dL_law_1466 rfl ?_
    refine j_locals (lv' := [(0, .ref b), (1, .ref (ad 0)), (2, .ref (am 0)), (3, .ref o), (4, .ref d), (5, vi ((5 * (j : Int))))]) [0, 1, 2, 3, 4, 5] rfl ?_
    exact hB _ _ _ _ _ _ hI2 ha01 (by omega) (by omega)
  · have e8 : vi rz = vi (w32 O.2.1) := by rw [hrz cc1]; exact vi_w _
    rw [e8]
    refine j_aload_n 3 C dL_law_1454 rfl rfl rfl ?_
    refine j_iconst C dL_law_1455 rfl ?_
    refine j_lald C dL_law_1456 rfl ho2 ⟨by decide, by decide⟩ (by decide) (y := w32 O.2.1) (hg1 cc1) ?_
    refine j_iload 7 C dL_law_1457 rfl rfl ?_
    refine j_i2l C dL_law_1459 rfl (w32_in _) ?_
    refine j_lcmp_same C dL_law_1460 rfl ?_
    refine j_if_eq (tgt := 1466) C dL_law_1461 rfl rfl ⟨by decide, by decide⟩ (fun _ => ?_) (fun cc => absurd cc (by decide))
    refine j_goto (tgt := 2447) C dL_law_1466 rfl ?_
    refine j_locals (lv' := [(0, .ref b), (1, .ref (ad 0)), (2, .ref (am 0)), (3, .ref o), (4, .ref d), (5, vi ((5 * (j : Int))))]) [0, 1, 2, 3, 4, 5] rfl ?_
    exact hB _ _ _ _ _ _ hI2 ha01 (by omega) (by omega)
set_option maxHeartbeats 8000000 in
set_option maxRecDepth 20000 in
theorem lc_19 {κ : Kx} {nmx : String} {b L j k n : Nat} {xs : Nat → Int} {σ : Wd} {tg ad am : Nat → Nat} {S : St} {o d : Nat} (C : Cx κ cL_law 9 RL nmx 9) (HN : Ncs (kS κ)) (hfl : (kL κ).stackTraces = false) (hxs : ∀ i : Nat, -2147483648 ≤ xs i ∧ xs i < 2147483648) (hX : va_X b L (fun j => Int32.ofInt (xs j)) (kS κ) (kS κ).heap) (hbl : b < (kS κ).heap.size) (hbA : ¬ kA κ b) (hL : L < 2147483648) (hI : LI (kc κ) σ tg ad am S o d) (hj : 5 * j + 5 ≤ L) (hk : k + 300 ≤ (kR κ).cells) (hn : n + 8000 ≤ (kR κ).slots) (hB : LB κ b o d (ad 0) am j k n) : J κ σ [(0, .ref b), (1, .ref (ad 0)), (2, .ref (am 0)), (3, .ref o), (4, .ref d), (5, vi (5 * (j : Int)))] 1469 [] k n := by
  obtain ⟨a1, ha1⟩ : ∃ a, xs (5 * j + 1) = a := ⟨_, rfl⟩
  have r1 : -2147483648 ≤ a1 ∧ a1 < 2147483648 := by rw [← ha1]; exact hxs _
  obtain ⟨a2, ha2⟩ : ∃ a, xs (5 * j + 2) = a := ⟨_, rfl⟩
  have r2 : -2147483648 ≤ a2 ∧ a2 < 2147483648 := by rw [← ha2]; exact hxs _
  obtain ⟨a3, ha3⟩ : ∃ a, xs (5 * j + 3) = a := ⟨_, rfl⟩
  have r3 : -2147483648 ≤ a3 ∧ a3 < 2147483648 := by rw [← ha3]; exact hxs _
  obtain ⟨a4, ha4⟩ : ∃ a, xs (5 * j + 4) = a := ⟨_, rfl⟩
  have r4 : -2147483648 ≤ a4 ∧ a4 < 2147483648 := by rw [← ha4]; exact hxs _
  obtain ⟨bs, ru, se, pf, hd, ca, evs, ln⟩ := S
  have hX0 : RX (kc κ) σ tg ad bs ru se pf hd ca evs ln := hI.1
  have hO := hX0.ok
  obtain ⟨-, -, ⟨g0, hout⟩, ⟨f0, hdub⟩, ⟨to9, td9⟩, -⟩ := id hI
  refine j_aload_n 1 C dL_law_1469 rfl rfl rfl ?_
  refine j_aload_n 0 C dL_law_1470 rfl rfl rfl ?_
  refine j_iload 5 C dL_law_1471 rfl rfl ?_
  refine j_iconst C dL_law_1473 rfl ?_
  refine j_iadd C dL_law_1474 rfl ?_
  refine j_sld C hX hbl hbA dL_law_1475 rfl ⟨by omega, by omega⟩ (by omega) (y := a1) (by rw [show (5 * (j : Int) + 1).toNat = 5 * j + 1 by omega]; exact ha1) ?_
  refine j_aload_n 0 C dL_law_1476 rfl rfl rfl ?_
  refine j_iload 5 C dL_law_1477 rfl rfl ?_
  refine j_iconst C dL_law_1479 rfl ?_
  refine j_iadd C dL_law_1480 rfl ?_
  refine j_sld C hX hbl hbA dL_law_1481 rfl ⟨by omega, by omega⟩ (by omega) (y := a2) (by rw [show (5 * (j : Int) + 2).toNat = 5 * j + 2 by omega]; exact ha2) ?_
  refine j_aload_n 3 C dL_law_1482 rfl rfl rfl ?_
  refine j_callSN (st' := []) (As := [.ref (ad 0), vi (a1), vi (a2), .ref o]) C HN dL_law_1483 rfl m_L_190 rfl rfl (W_layerGrade (kL κ) hfl (kD κ) (kc κ) σ tg ad bs ru se pf hd ca evs ln hX0 o g0 hout (by omega) a1 r1 a2 r2) rfl (by omega) (by omega) (by omega) (fun _ _ hx => hx.elim) (fun v1 σ1 hp => ?_)
  obtain ⟨rfl, ⟨tg1, ad1, hR1, hT1, ha01⟩, ⟨g1, ho1, hg1⟩, hK1, hm1⟩ := hp
  have hcr := cr_layerGrade bs ru se pf hd ca evs ln a1 a2
  obtain ⟨O, hO9⟩ : ∃ O : Rs, o_layerGrade bs ru se pf hd ca evs ln a1 a2 = O := ⟨_, rfl⟩
  show J κ σ1 [(0, .ref b), (1, .ref (ad 0)), (2, .ref (am 0)), (3, .ref o), (4, .ref d), (5, vi ((5 * (j : Int))))] 1486 [vi (o_layerGrade bs ru se pf hd ca evs ln a1 a2).1] _ _
  rw [hO9] at hR1 hg1 hcr ⊢
  obtain ⟨bl1, th1, hM1⟩ := hI.mod (Or.inl rfl) hK1
  have hf1 := hI.dbl hdub hK1
  show J κ σ1 [(0, .ref b), (1, .ref (ad 0)), (2, .ref (am 0)), (3, .ref o), (4, .ref d), (5, vi ((5 * (j : Int))))] 1486 [vi (O.1)] _ _
  refine j_istore (lv' := [(0, .ref b), (1, .ref (ad 0)), (2, .ref (am 0)), (3, .ref o), (4, .ref d), (5, vi ((5 * (j : Int)))), (6, vi (O.1))]) [1, 2, 3, 4, 5, 6, 0] C dL_law_1486 rfl rfl rfl ?_
  refine j_aload_n 2 C dL_law_1488 rfl rfl rfl ?_
  refine j_aload_n 0 C dL_law_1489 rfl rfl rfl ?_
  refine j_iload 5 C dL_law_1490 rfl rfl ?_
  refine j_iconst C dL_law_1492 rfl ?_
  refine j_iadd C dL_law_1493 rfl ?_
  refine j_sld C hX hbl hbA dL_law_1494 rfl ⟨by omega, by omega⟩ (by omega) (y := a1) (by rw [show (5 * (j : Int) + 1).toNat = 5 * j + 1 by omega]; exact ha1) ?_
  refine j_aload_n 0 C dL_law_1495 rfl rfl rfl ?_
  refine j_iload 5 C dL_law_1496 rfl rfl ?_
  refine j_iconst C dL_law_1498 rfl ?_
  refine j_iadd C dL_law_1499 rfl ?_
  refine j_sld C hX hbl hbA dL_law_1500 rfl ⟨by omega, by omega⟩ (by omega) (y := a2) (by rw [show (5 * (j : Int) + 2).toNat = 5 * j + 2 by omega]; exact ha2) ?_
  obtain ⟨-, _, _, _, _, _, _, _, _, _, _, _, _, _, _, _, hrc, -⟩ := id hM1
  refine j_callV (st' := []) (As := [vi (a1), vi (a2)]) C dL_law_1501 rfl m_L_192 hrc rfl rfl rfl (m_layerGrade (kL κ) hfl (kD κ) (kc κ) σ1 am bs ru se pf hd ca evs ln bl1 th1 hM1 a1 r1 a2 r2) rfl (by omega) (by omega) (by omega) (fun _ _ hx => hx.elim) (fun v2 σ2 hp2 => ?_)
  obtain ⟨rz, rfl, hrz, ⟨bl2, hM2⟩, hK2, hd2⟩ := hp2
  rw [hO9] at hrz hM2
  obtain ⟨hI2, ho2, hf2⟩ := hI.mk2 hR1 hT1 ho1 hf1 hm1 hM2 hK2 hd2
  show J κ σ2 [(0, .ref b), (1, .ref (ad 0)), (2, .ref (am 0)), (3, .ref o), (4, .ref d), (5, vi ((5 * (j : Int)))), (6, vi (O.1))] 1504 [vi (rz)] _ _
  refine j_istore (lv' := [(0, .ref b), (1, .ref (ad 0)), (2, .ref (am 0)), (3, .ref o), (4, .ref d), (5, vi ((5 * (j : Int)))), (6, vi (O.1)), (7, vi (rz))]) [1, 2, 3, 4, 5, 6, 7, 0] C dL_law_1504 rfl rfl rfl ?_
  refine j_aload_n 2 C dL_law_1506 rfl rfl rfl ?_
  obtain ⟨-, _, _, _, _, _, _, _, _, _, _, _, _, _, _, _, hrc, -⟩ := id hM2
  refine j_callV (st' := []) (As := []) C dL_law_1507 rfl m_L_127 hrc rfl rfl rfl (m_thrown (kL κ) hfl (kD κ) (kc κ) σ2 am _ _ _ _ _ _ _ _ bl2 O.1 hM2) rfl (by omega) (by omega) (by omega) (fun _ _ hx => hx.elim) (fun v3 σ3 hp3 => ?_)
  obtain ⟨rfl, hs9⟩ := hp3
  replace hs9 := hs9.symm
  subst hs9
  show J κ σ2 [(0, .ref b), (1, .ref (ad 0)), (2, .ref (am 0)), (3, .ref o), (4, .ref d), (5, vi ((5 * (j : Int)))), (6, vi (O.1)), (7, vi (rz))] 1510 [vi (O.1)] _ _
  refine j_iload 6 C dL_law_1510 rfl rfl ?_
  refine j_icmp_same (tgt := 1517) C dL_law_1512 rfl ?_
  refine j_iload 6 C dL_law_1517 rfl rfl ?_
  refine j_if_ne (tgt := 1534) C dL_law_1519 rfl rfl ⟨by omega, by omega⟩ (fun cc1 => ?_) (fun cc1 => ?_)
  · refine j_goto (tgt := 2447) C dL_law_1534 rfl ?_
    refine j_locals (lv' := [(0, .ref b), (1, .ref (ad 0)), (2, .ref (am 0)), (3, .ref o), (4, .ref d), (5, vi ((5 * (j : Int))))]) [0, 1, 2, 3, 4, 5] rfl ?_
    exact hB _ _ _ _ _ _ hI2 ha01 (by omega) (by omega)
  · have e8 : vi rz = vi (w32 O.2.1) := by rw [hrz cc1]; exact vi_w _
    rw [e8]
    refine j_aload_n 3 C dL_law_1522 rfl rfl rfl ?_
    refine j_iconst C dL_law_1523 rfl ?_
    refine j_lald C dL_law_1524 rfl ho2 ⟨by decide, by decide⟩ (by decide) (y := w32 O.2.1) (hg1 cc1) ?_
    refine j_iload 7 C dL_law_1525 rfl rfl ?_
    refine j_i2l C dL_law_1527 rfl (w32_in _) ?_
    refine j_lcmp_same C dL_law_1528 rfl ?_
    refine j_if_eq (tgt := 1534) C dL_law_1529 rfl rfl ⟨by decide, by decide⟩ (fun _ => ?_) (fun cc => absurd cc (by decide))
    refine j_goto (tgt := 2447) C dL_law_1534 rfl ?_
    refine j_locals (lv' := [(0, .ref b), (1, .ref (ad 0)), (2, .ref (am 0)), (3, .ref o), (4, .ref d), (5, vi ((5 * (j : Int))))]) [0, 1, 2, 3, 4, 5] rfl ?_
    exact hB _ _ _ _ _ _ hI2 ha01 (by omega) (by omega)
set_option maxHeartbeats 8000000 in
set_option maxRecDepth 20000 in
theorem lc_20 {κ : Kx} {nmx : String} {b L j k n : Nat} {xs : Nat → Int} {σ : Wd} {tg ad am : Nat → Nat} {S : St} {o d : Nat} (C : Cx κ cL_law 9 RL nmx 9) (HN : Ncs (kS κ)) (hfl : (kL κ).stackTraces = false) (hxs : ∀ i : Nat, -2147483648 ≤ xs i ∧ xs i < 2147483648) (hX : va_X b L (fun j => Int32.ofInt (xs j)) (kS κ) (kS κ).heap) (hbl : b < (kS κ).heap.size) (hbA : ¬ kA κ b) (hL : L < 2147483648) (hI : LI (kc κ) σ tg ad am S o d) (hj : 5 * j + 5 ≤ L) (hk : k + 300 ≤ (kR κ).cells) (hn : n + 8000 ≤ (kR κ).slots) (hB : LB κ b o d (ad 0) am j k n) : J κ σ [(0, .ref b), (1, .ref (ad 0)), (2, .ref (am 0)), (3, .ref o), (4, .ref d), (5, vi (5 * (j : Int)))] 1537 [] k n := by
  obtain ⟨a1, ha1⟩ : ∃ a, xs (5 * j + 1) = a := ⟨_, rfl⟩
  have r1 : -2147483648 ≤ a1 ∧ a1 < 2147483648 := by rw [← ha1]; exact hxs _
  obtain ⟨a2, ha2⟩ : ∃ a, xs (5 * j + 2) = a := ⟨_, rfl⟩
  have r2 : -2147483648 ≤ a2 ∧ a2 < 2147483648 := by rw [← ha2]; exact hxs _
  obtain ⟨a3, ha3⟩ : ∃ a, xs (5 * j + 3) = a := ⟨_, rfl⟩
  have r3 : -2147483648 ≤ a3 ∧ a3 < 2147483648 := by rw [← ha3]; exact hxs _
  obtain ⟨a4, ha4⟩ : ∃ a, xs (5 * j + 4) = a := ⟨_, rfl⟩
  have r4 : -2147483648 ≤ a4 ∧ a4 < 2147483648 := by rw [← ha4]; exact hxs _
  obtain ⟨bs, ru, se, pf, hd, ca, evs, ln⟩ := S
  have hX0 : RX (kc κ) σ tg ad bs ru se pf hd ca evs ln := hI.1
  have hO := hX0.ok
  obtain ⟨-, -, ⟨g0, hout⟩, ⟨f0, hdub⟩, ⟨to9, td9⟩, -⟩ := id hI
  refine j_aload_n 1 C dL_law_1537 rfl rfl rfl ?_
  refine j_aload_n 0 C dL_law_1538 rfl rfl rfl ?_
  refine j_iload 5 C dL_law_1539 rfl rfl ?_
  refine j_iconst C dL_law_1541 rfl ?_
  refine j_iadd C dL_law_1542 rfl ?_
  refine j_sld C hX hbl hbA dL_law_1543 rfl ⟨by omega, by omega⟩ (by omega) (y := a1) (by rw [show (5 * (j : Int) + 1).toNat = 5 * j + 1 by omega]; exact ha1) ?_
  refine j_aload 4 C dL_law_1544 rfl rfl ?_
  refine j_callSN (st' := []) (As := [.ref (ad 0), vi (a1), .ref d]) C HN dL_law_1546 rfl m_L_193 rfl rfl (W_meanMoisture (kL κ) hfl (kD κ) (kc κ) σ tg ad bs ru se pf hd ca evs ln hX0 d f0 hdub (by omega) a1 r1) rfl (by omega) (by omega) (by omega) (fun _ _ hx => hx.elim) (fun v1 σ1 hp => ?_)
  obtain ⟨rfl, hR1, ⟨f1, hf1, hg1⟩, hK1, hm1⟩ := hp
  have hcr := cr_mean bs a1
  obtain ⟨c9, hc9⟩ : ∃ c, cdMean bs a1 = c := ⟨_, rfl⟩
  rw [hc9] at hg1 hcr
  obtain ⟨bl1, th1, hM1⟩ := hI.mod (Or.inr rfl) hK1
  have ho1 := hI.lng hout hK1
  show J κ σ1 [(0, .ref b), (1, .ref (ad 0)), (2, .ref (am 0)), (3, .ref o), (4, .ref d), (5, vi ((5 * (j : Int))))] 1549 [vi (cdMean bs a1)] _ _
  rw [hc9]
  show J κ σ1 [(0, .ref b), (1, .ref (ad 0)), (2, .ref (am 0)), (3, .ref o), (4, .ref d), (5, vi ((5 * (j : Int))))] 1549 [vi (c9)] _ _
  refine j_istore (lv' := [(0, .ref b), (1, .ref (ad 0)), (2, .ref (am 0)), (3, .ref o), (4, .ref d), (5, vi ((5 * (j : Int)))), (6, vi (c9))]) [1, 2, 3, 4, 5, 6, 0] C dL_law_1549 rfl rfl rfl ?_
  refine j_aload_n 2 C dL_law_1551 rfl rfl rfl ?_
  refine j_aload_n 0 C dL_law_1552 rfl rfl rfl ?_
  refine j_iload 5 C dL_law_1553 rfl rfl ?_
  refine j_iconst C dL_law_1555 rfl ?_
  refine j_iadd C dL_law_1556 rfl ?_
  refine j_sld C hX hbl hbA dL_law_1557 rfl ⟨by omega, by omega⟩ (by omega) (y := a1) (by rw [show (5 * (j : Int) + 1).toNat = 5 * j + 1 by omega]; exact ha1) ?_
  obtain ⟨-, _, _, _, _, _, _, _, _, _, _, _, _, _, _, _, hrc, -⟩ := id hM1
  refine j_callV (st' := []) (As := [vi (a1)]) C dL_law_1558 rfl m_L_196 hrc rfl rfl rfl (m_meanMoisture (kL κ) hfl (kD κ) (kc κ) σ1 am bs ru se pf hd ca evs ln bl1 th1 hM1 a1 r1 hO) rfl (by omega) (by omega) (by omega) (fun _ _ hx => hx.elim) (fun v2 σ2 hp2 => ?_)
  obtain ⟨rz, rfl, hrz, ⟨bl2, hM2⟩, hK2, hd2⟩ := hp2
  rw [hc9] at hrz hM2
  have hM3 : RMs (kc κ) σ2 am (bs, ru, se, pf, hd, ca, evs, ln) bl2 c9 := hM2
  obtain ⟨hI2, ho2, hf2⟩ := hI.mk2 (S1 := (bs, ru, se, pf, hd, ca, evs, ln)) (tg1 := tg) (ad1 := ad) hR1 (fun _ _ => rfl) ho1 hf1 hm1 hM3 hK2 hd2
  show J κ σ2 [(0, .ref b), (1, .ref (ad 0)), (2, .ref (am 0)), (3, .ref o), (4, .ref d), (5, vi ((5 * (j : Int)))), (6, vi (c9))] 1561 [.double rz] _ _
  refine j_dstore (lv' := [(0, .ref b), (1, .ref (ad 0)), (2, .ref (am 0)), (3, .ref o), (4, .ref d), (5, vi ((5 * (j : Int)))), (6, vi (c9)), (7, .double rz)]) [1, 2, 3, 4, 5, 6, 7, 0] C dL_law_1561 rfl rfl rfl ?_
  refine j_aload_n 2 C dL_law_1563 rfl rfl rfl ?_
  obtain ⟨-, _, _, _, _, _, _, _, _, _, _, _, _, _, _, _, hrc, -⟩ := id hM2
  refine j_callV (st' := []) (As := []) C dL_law_1564 rfl m_L_127 hrc rfl rfl rfl (m_thrown (kL κ) hfl (kD κ) (kc κ) σ2 am _ _ _ _ _ _ _ _ bl2 c9 hM2) rfl (by omega) (by omega) (by omega) (fun _ _ hx => hx.elim) (fun v3 σ3 hp3 => ?_)
  obtain ⟨rfl, hs9⟩ := hp3
  replace hs9 := hs9.symm
  subst hs9
  show J κ σ2 [(0, .ref b), (1, .ref (ad 0)), (2, .ref (am 0)), (3, .ref o), (4, .ref d), (5, vi ((5 * (j : Int)))), (6, vi (c9)), (7, .double rz)] 1567 [vi (c9)] _ _
  refine j_iload 6 C dL_law_1567 rfl rfl ?_
  refine j_icmp_same (tgt := 1574) C dL_law_1569 rfl ?_
  refine j_iload 6 C dL_law_1574 rfl rfl ?_
  refine j_if_ne (tgt := 1611) C dL_law_1576 rfl rfl ⟨by omega, by omega⟩ (fun cc1 => ?_) (fun cc1 => ?_)
  · refine j_goto (tgt := 2447) C dL_law_1611 rfl ?_
    refine j_locals (lv' := [(0, .ref b), (1, .ref (ad 0)), (2, .ref (am 0)), (3, .ref o), (4, .ref d), (5, vi ((5 * (j : Int))))]) [0, 1, 2, 3, 4, 5] rfl ?_
    exact hB _ _ _ _ _ _ hI2 rfl (by omega) (by omega)
  · have e8 : rz = vMean bs a1 := hrz cc1
    subst e8
    have hnn := vMean_n (hc9.trans cc1) hO
    show J κ σ2 [(0, .ref b), (1, .ref (ad 0)), (2, .ref (am 0)), (3, .ref o), (4, .ref d), (5, vi ((5 * (j : Int)))), (6, vi (c9)), (7, .double (vMean bs a1))] 1579 [] _ _
    refine j_aload 4 C dL_law_1579 rfl rfl ?_
    refine j_iconst C dL_law_1581 rfl ?_
    refine j_dald C dL_law_1582 rfl hf2 ⟨by decide, by decide⟩ (by decide) (y := (vMean bs a1)) (hg1 cc1) ?_
    refine j_dload 7 C dL_law_1583 rfl rfl ?_
    refine j_dcmp_same C dL_law_1585 rfl hnn ?_
    refine j_if_eq (tgt := 1611) C dL_law_1586 rfl rfl ⟨by decide, by decide⟩ (fun _ => ?_) (fun cc => absurd cc (by decide))
    refine j_goto (tgt := 2447) C dL_law_1611 rfl ?_
    refine j_locals (lv' := [(0, .ref b), (1, .ref (ad 0)), (2, .ref (am 0)), (3, .ref o), (4, .ref d), (5, vi ((5 * (j : Int))))]) [0, 1, 2, 3, 4, 5] rfl ?_
    exact hB _ _ _ _ _ _ hI2 rfl (by omega) (by omega)
set_option maxHeartbeats 8000000 in
set_option maxRecDepth 20000 in
theorem lc_21 {κ : Kx} {nmx : String} {b L j k n : Nat} {xs : Nat → Int} {σ : Wd} {tg ad am : Nat → Nat} {S : St} {o d : Nat} (C : Cx κ cL_law 9 RL nmx 9) (HN : Ncs (kS κ)) (hfl : (kL κ).stackTraces = false) (hxs : ∀ i : Nat, -2147483648 ≤ xs i ∧ xs i < 2147483648) (hX : va_X b L (fun j => Int32.ofInt (xs j)) (kS κ) (kS κ).heap) (hbl : b < (kS κ).heap.size) (hbA : ¬ kA κ b) (hL : L < 2147483648) (hI : LI (kc κ) σ tg ad am S o d) (hj : 5 * j + 5 ≤ L) (hk : k + 300 ≤ (kR κ).cells) (hn : n + 8000 ≤ (kR κ).slots) (hB : LB κ b o d (ad 0) am j k n) : J κ σ [(0, .ref b), (1, .ref (ad 0)), (2, .ref (am 0)), (3, .ref o), (4, .ref d), (5, vi (5 * (j : Int)))] 1614 [] k n := by
  obtain ⟨a1, ha1⟩ : ∃ a, xs (5 * j + 1) = a := ⟨_, rfl⟩
  have r1 : -2147483648 ≤ a1 ∧ a1 < 2147483648 := by rw [← ha1]; exact hxs _
  obtain ⟨a2, ha2⟩ : ∃ a, xs (5 * j + 2) = a := ⟨_, rfl⟩
  have r2 : -2147483648 ≤ a2 ∧ a2 < 2147483648 := by rw [← ha2]; exact hxs _
  obtain ⟨a3, ha3⟩ : ∃ a, xs (5 * j + 3) = a := ⟨_, rfl⟩
  have r3 : -2147483648 ≤ a3 ∧ a3 < 2147483648 := by rw [← ha3]; exact hxs _
  obtain ⟨a4, ha4⟩ : ∃ a, xs (5 * j + 4) = a := ⟨_, rfl⟩
  have r4 : -2147483648 ≤ a4 ∧ a4 < 2147483648 := by rw [← ha4]; exact hxs _
  obtain ⟨bs, ru, se, pf, hd, ca, evs, ln⟩ := S
  have hX0 : RX (kc κ) σ tg ad bs ru se pf hd ca evs ln := hI.1
  have hO := hX0.ok
  obtain ⟨-, -, ⟨g0, hout⟩, ⟨f0, hdub⟩, ⟨to9, td9⟩, -⟩ := id hI
  refine j_aload_n 1 C dL_law_1614 rfl rfl rfl ?_
  refine j_aload_n 0 C dL_law_1615 rfl rfl rfl ?_
  refine j_iload 5 C dL_law_1616 rfl rfl ?_
  refine j_iconst C dL_law_1618 rfl ?_
  refine j_iadd C dL_law_1619 rfl ?_
  refine j_sld C hX hbl hbA dL_law_1620 rfl ⟨by omega, by omega⟩ (by omega) (y := a1) (by rw [show (5 * (j : Int) + 1).toNat = 5 * j + 1 by omega]; exact ha1) ?_
  refine j_aload 4 C dL_law_1621 rfl rfl ?_
  refine j_callSN (st' := []) (As := [.ref (ad 0), vi (a1), .ref d]) C HN dL_law_1623 rfl m_L_197 rfl rfl (W_wetShare (kL κ) hfl (kD κ) (kc κ) σ tg ad bs ru se pf hd ca evs ln hX0 d f0 hdub (by omega) a1 r1) rfl (by omega) (by omega) (by omega) (fun _ _ hx => hx.elim) (fun v1 σ1 hp => ?_)
  obtain ⟨rfl, hR1, ⟨f1, hf1, hg1⟩, hK1, hm1⟩ := hp
  have hcr := cr_wet bs a1
  obtain ⟨c9, hc9⟩ : ∃ c, cdWet bs a1 = c := ⟨_, rfl⟩
  rw [hc9] at hg1 hcr
  obtain ⟨bl1, th1, hM1⟩ := hI.mod (Or.inr rfl) hK1
  have ho1 := hI.lng hout hK1
  show J κ σ1 [(0, .ref b), (1, .ref (ad 0)), (2, .ref (am 0)), (3, .ref o), (4, .ref d), (5, vi ((5 * (j : Int))))] 1626 [vi (cdWet bs a1)] _ _
  rw [hc9]
  show J κ σ1 [(0, .ref b), (1, .ref (ad 0)), (2, .ref (am 0)), (3, .ref o), (4, .ref d), (5, vi ((5 * (j : Int))))] 1626 [vi (c9)] _ _
  refine j_istore (lv' := [(0, .ref b), (1, .ref (ad 0)), (2, .ref (am 0)), (3, .ref o), (4, .ref d), (5, vi ((5 * (j : Int)))), (6, vi (c9))]) [1, 2, 3, 4, 5, 6, 0] C dL_law_1626 rfl rfl rfl ?_
  refine j_aload_n 2 C dL_law_1628 rfl rfl rfl ?_
  refine j_aload_n 0 C dL_law_1629 rfl rfl rfl ?_
  refine j_iload 5 C dL_law_1630 rfl rfl ?_
  refine j_iconst C dL_law_1632 rfl ?_
  refine j_iadd C dL_law_1633 rfl ?_
  refine j_sld C hX hbl hbA dL_law_1634 rfl ⟨by omega, by omega⟩ (by omega) (y := a1) (by rw [show (5 * (j : Int) + 1).toNat = 5 * j + 1 by omega]; exact ha1) ?_
  obtain ⟨-, _, _, _, _, _, _, _, _, _, _, _, _, _, _, _, hrc, -⟩ := id hM1
  refine j_callV (st' := []) (As := [vi (a1)]) C dL_law_1635 rfl m_L_199 hrc rfl rfl rfl (m_wetShare (kL κ) hfl (kD κ) (kc κ) σ1 am bs ru se pf hd ca evs ln bl1 th1 hM1 a1 r1 hO) rfl (by omega) (by omega) (by omega) (fun _ _ hx => hx.elim) (fun v2 σ2 hp2 => ?_)
  obtain ⟨rz, rfl, hrz, ⟨bl2, hM2⟩, hK2, hd2⟩ := hp2
  rw [hc9] at hrz hM2
  have hM3 : RMs (kc κ) σ2 am (bs, ru, se, pf, hd, ca, evs, ln) bl2 c9 := hM2
  obtain ⟨hI2, ho2, hf2⟩ := hI.mk2 (S1 := (bs, ru, se, pf, hd, ca, evs, ln)) (tg1 := tg) (ad1 := ad) hR1 (fun _ _ => rfl) ho1 hf1 hm1 hM3 hK2 hd2
  show J κ σ2 [(0, .ref b), (1, .ref (ad 0)), (2, .ref (am 0)), (3, .ref o), (4, .ref d), (5, vi ((5 * (j : Int)))), (6, vi (c9))] 1638 [.float rz] _ _
  refine j_fstore (lv' := [(0, .ref b), (1, .ref (ad 0)), (2, .ref (am 0)), (3, .ref o), (4, .ref d), (5, vi ((5 * (j : Int)))), (6, vi (c9)), (7, .float rz)]) [1, 2, 3, 4, 5, 6, 7, 0] C dL_law_1638 rfl rfl rfl ?_
  refine j_aload_n 2 C dL_law_1640 rfl rfl rfl ?_
  obtain ⟨-, _, _, _, _, _, _, _, _, _, _, _, _, _, _, _, hrc, -⟩ := id hM2
  refine j_callV (st' := []) (As := []) C dL_law_1641 rfl m_L_127 hrc rfl rfl rfl (m_thrown (kL κ) hfl (kD κ) (kc κ) σ2 am _ _ _ _ _ _ _ _ bl2 c9 hM2) rfl (by omega) (by omega) (by omega) (fun _ _ hx => hx.elim) (fun v3 σ3 hp3 => ?_)
  obtain ⟨rfl, hs9⟩ := hp3
  replace hs9 := hs9.symm
  subst hs9
  show J κ σ2 [(0, .ref b), (1, .ref (ad 0)), (2, .ref (am 0)), (3, .ref o), (4, .ref d), (5, vi ((5 * (j : Int)))), (6, vi (c9)), (7, .float rz)] 1644 [vi (c9)] _ _
  refine j_iload 6 C dL_law_1644 rfl rfl ?_
  refine j_icmp_same (tgt := 1651) C dL_law_1646 rfl ?_
  refine j_iload 6 C dL_law_1651 rfl rfl ?_
  refine j_if_ne (tgt := 1689) C dL_law_1653 rfl rfl ⟨by omega, by omega⟩ (fun cc1 => ?_) (fun cc1 => ?_)
  · refine j_goto (tgt := 2447) C dL_law_1689 rfl ?_
    refine j_locals (lv' := [(0, .ref b), (1, .ref (ad 0)), (2, .ref (am 0)), (3, .ref o), (4, .ref d), (5, vi ((5 * (j : Int))))]) [0, 1, 2, 3, 4, 5] rfl ?_
    exact hB _ _ _ _ _ _ hI2 rfl (by omega) (by omega)
  · have e8 : rz = vWet bs a1 := hrz cc1
    subst e8
    have hnf := vWet_n (hc9.trans cc1) hO
    have hnn := fp_fd hnf
    show J κ σ2 [(0, .ref b), (1, .ref (ad 0)), (2, .ref (am 0)), (3, .ref o), (4, .ref d), (5, vi ((5 * (j : Int)))), (6, vi (c9)), (7, .float (vWet bs a1))] 1656 [] _ _
    refine j_aload 4 C dL_law_1656 rfl rfl ?_
    refine j_iconst C dL_law_1658 rfl ?_
    refine j_dald C dL_law_1659 rfl hf2 ⟨by decide, by decide⟩ (by decide) (y := (FP.f2d (vWet bs a1))) (hg1 cc1) ?_
    refine j_fload 7 C dL_law_1660 rfl rfl ?_
    refine j_f2d C dL_law_1662 rfl hnn ?_
    refine j_dcmp_same C dL_law_1663 rfl hnn ?_
    refine j_if_eq (tgt := 1689) C dL_law_1664 rfl rfl ⟨by decide, by decide⟩ (fun _ => ?_) (fun cc => absurd cc (by decide))
    refine j_goto (tgt := 2447) C dL_law_1689 rfl ?_
    refine j_locals (lv' := [(0, .ref b), (1, .ref (ad 0)), (2, .ref (am 0)), (3, .ref o), (4, .ref d), (5, vi ((5 * (j : Int))))]) [0, 1, 2, 3, 4, 5] rfl ?_
    exact hB _ _ _ _ _ _ hI2 rfl (by omega) (by omega)
set_option maxHeartbeats 8000000 in
set_option maxRecDepth 20000 in
theorem lc_22 {κ : Kx} {nmx : String} {b L j k n : Nat} {xs : Nat → Int} {σ : Wd} {tg ad am : Nat → Nat} {S : St} {o d : Nat} (C : Cx κ cL_law 9 RL nmx 9) (HN : Ncs (kS κ)) (hfl : (kL κ).stackTraces = false) (hxs : ∀ i : Nat, -2147483648 ≤ xs i ∧ xs i < 2147483648) (hX : va_X b L (fun j => Int32.ofInt (xs j)) (kS κ) (kS κ).heap) (hbl : b < (kS κ).heap.size) (hbA : ¬ kA κ b) (hL : L < 2147483648) (hI : LI (kc κ) σ tg ad am S o d) (hj : 5 * j + 5 ≤ L) (hk : k + 300 ≤ (kR κ).cells) (hn : n + 8000 ≤ (kR κ).slots) (hB : LB κ b o d (ad 0) am j k n) : J κ σ [(0, .ref b), (1, .ref (ad 0)), (2, .ref (am 0)), (3, .ref o), (4, .ref d), (5, vi (5 * (j : Int)))] 1692 [] k n := by
  obtain ⟨a1, ha1⟩ : ∃ a, xs (5 * j + 1) = a := ⟨_, rfl⟩
  have r1 : -2147483648 ≤ a1 ∧ a1 < 2147483648 := by rw [← ha1]; exact hxs _
  obtain ⟨a2, ha2⟩ : ∃ a, xs (5 * j + 2) = a := ⟨_, rfl⟩
  have r2 : -2147483648 ≤ a2 ∧ a2 < 2147483648 := by rw [← ha2]; exact hxs _
  obtain ⟨a3, ha3⟩ : ∃ a, xs (5 * j + 3) = a := ⟨_, rfl⟩
  have r3 : -2147483648 ≤ a3 ∧ a3 < 2147483648 := by rw [← ha3]; exact hxs _
  obtain ⟨a4, ha4⟩ : ∃ a, xs (5 * j + 4) = a := ⟨_, rfl⟩
  have r4 : -2147483648 ≤ a4 ∧ a4 < 2147483648 := by rw [← ha4]; exact hxs _
  obtain ⟨bs, ru, se, pf, hd, ca, evs, ln⟩ := S
  have hX0 : RX (kc κ) σ tg ad bs ru se pf hd ca evs ln := hI.1
  have hO := hX0.ok
  obtain ⟨-, -, ⟨g0, hout⟩, ⟨f0, hdub⟩, ⟨to9, td9⟩, -⟩ := id hI
  refine j_aload_n 1 C dL_law_1692 rfl rfl rfl ?_
  refine j_aload_n 0 C dL_law_1693 rfl rfl rfl ?_
  refine j_iload 5 C dL_law_1694 rfl rfl ?_
  refine j_iconst C dL_law_1696 rfl ?_
  refine j_iadd C dL_law_1697 rfl ?_
  refine j_sld C hX hbl hbA dL_law_1698 rfl ⟨by omega, by omega⟩ (by omega) (y := a1) (by rw [show (5 * (j : Int) + 1).toNat = 5 * j + 1 by omega]; exact ha1) ?_
  refine j_aload_n 0 C dL_law_1699 rfl rfl rfl ?_
  refine j_iload 5 C dL_law_1700 rfl rfl ?_
  refine j_iconst C dL_law_1702 rfl ?_
  refine j_iadd C dL_law_1703 rfl ?_
  refine j_sld C hX hbl hbA dL_law_1704 rfl ⟨by omega, by omega⟩ (by omega) (y := a2) (by rw [show (5 * (j : Int) + 2).toNat = 5 * j + 2 by omega]; exact ha2) ?_
  refine j_aload_n 0 C dL_law_1705 rfl rfl rfl ?_
  refine j_iload 5 C dL_law_1706 rfl rfl ?_
  refine j_iconst C dL_law_1708 rfl ?_
  refine j_iadd C dL_law_1709 rfl ?_
  refine j_sld C hX hbl hbA dL_law_1710 rfl ⟨by omega, by omega⟩ (by omega) (y := a3) (by rw [show (5 * (j : Int) + 3).toNat = 5 * j + 3 by omega]; exact ha3) ?_
  refine j_aload_n 0 C dL_law_1711 rfl rfl rfl ?_
  refine j_iload 5 C dL_law_1712 rfl rfl ?_
  refine j_iconst C dL_law_1714 rfl ?_
  refine j_iadd C dL_law_1715 rfl ?_
  refine j_sld C hX hbl hbA dL_law_1716 rfl ⟨by omega, by omega⟩ (by omega) (y := a4) (by rw [show (5 * (j : Int) + 4).toNat = 5 * j + 4 by omega]; exact ha4) ?_
  refine j_aload_n 3 C dL_law_1717 rfl rfl rfl ?_
  refine j_callSN (st' := []) (As := [.ref (ad 0), vi (a1), vi (a2), vi (a3), vi (a4), .ref o]) C HN dL_law_1718 rfl m_L_200 rfl rfl (W_blendCost (kL κ) hfl (kD κ) (kc κ) σ tg ad bs ru se pf hd ca evs ln hX0 o g0 hout (by omega) a1 r1 a2 r2 a3 r3 a4 r4) rfl (by omega) (by omega) (by omega) (fun _ _ hx => hx.elim) (fun v1 σ1 hp => ?_)
  obtain ⟨rfl, ⟨tg1, ad1, hR1, hT1, ha01⟩, ⟨g1, ho1, hg1⟩, hK1, hm1⟩ := hp
  have hcr := cr_blendCost bs ru se pf hd ca evs ln a1 a2 a3 a4
  obtain ⟨O, hO9⟩ : ∃ O : Rs, o_blendCost bs ru se pf hd ca evs ln a1 a2 a3 a4 = O := ⟨_, rfl⟩
  show J κ σ1 [(0, .ref b), (1, .ref (ad 0)), (2, .ref (am 0)), (3, .ref o), (4, .ref d), (5, vi ((5 * (j : Int))))] 1721 [vi (o_blendCost bs ru se pf hd ca evs ln a1 a2 a3 a4).1] _ _
  rw [hO9] at hR1 hg1 hcr ⊢
  obtain ⟨bl1, th1, hM1⟩ := hI.mod (Or.inl rfl) hK1
  have hf1 := hI.dbl hdub hK1
  show J κ σ1 [(0, .ref b), (1, .ref (ad 0)), (2, .ref (am 0)), (3, .ref o), (4, .ref d), (5, vi ((5 * (j : Int))))] 1721 [vi (O.1)] _ _
  refine j_istore (lv' := [(0, .ref b), (1, .ref (ad 0)), (2, .ref (am 0)), (3, .ref o), (4, .ref d), (5, vi ((5 * (j : Int)))), (6, vi (O.1))]) [1, 2, 3, 4, 5, 6, 0] C dL_law_1721 rfl rfl rfl ?_
  refine j_aload_n 2 C dL_law_1723 rfl rfl rfl ?_
  refine j_aload_n 0 C dL_law_1724 rfl rfl rfl ?_
  refine j_iload 5 C dL_law_1725 rfl rfl ?_
  refine j_iconst C dL_law_1727 rfl ?_
  refine j_iadd C dL_law_1728 rfl ?_
  refine j_sld C hX hbl hbA dL_law_1729 rfl ⟨by omega, by omega⟩ (by omega) (y := a1) (by rw [show (5 * (j : Int) + 1).toNat = 5 * j + 1 by omega]; exact ha1) ?_
  refine j_aload_n 0 C dL_law_1730 rfl rfl rfl ?_
  refine j_iload 5 C dL_law_1731 rfl rfl ?_
  refine j_iconst C dL_law_1733 rfl ?_
  refine j_iadd C dL_law_1734 rfl ?_
  refine j_sld C hX hbl hbA dL_law_1735 rfl ⟨by omega, by omega⟩ (by omega) (y := a2) (by rw [show (5 * (j : Int) + 2).toNat = 5 * j + 2 by omega]; exact ha2) ?_
  refine j_aload_n 0 C dL_law_1736 rfl rfl rfl ?_
  refine j_iload 5 C dL_law_1737 rfl rfl ?_
  refine j_iconst C dL_law_1739 rfl ?_
  refine j_iadd C dL_law_1740 rfl ?_
  refine j_sld C hX hbl hbA dL_law_1741 rfl ⟨by omega, by omega⟩ (by omega) (y := a3) (by rw [show (5 * (j : Int) + 3).toNat = 5 * j + 3 by omega]; exact ha3) ?_
  refine j_aload_n 0 C dL_law_1742 rfl rfl rfl ?_
  refine j_iload 5 C dL_law_1743 rfl rfl ?_
  refine j_iconst C dL_law_1745 rfl ?_
  refine j_iadd C dL_law_1746 rfl ?_
  refine j_sld C hX hbl hbA dL_law_1747 rfl ⟨by omega, by omega⟩ (by omega) (y := a4) (by rw [show (5 * (j : Int) + 4).toNat = 5 * j + 4 by omega]; exact ha4) ?_
  obtain ⟨-, _, _, _, _, _, _, _, _, _, _, _, _, _, _, _, hrc, -⟩ := id hM1
  refine j_callV (st' := []) (As := [vi (a1), vi (a2), vi (a3), vi (a4)]) C dL_law_1748 rfl m_L_202 hrc rfl rfl rfl (m_blendCost (kL κ) hfl (kD κ) (kc κ) σ1 am bs ru se pf hd ca evs ln bl1 th1 hM1 a1 r1 a2 r2 a3 r3 a4 r4 hO) rfl (by omega) (by omega) (by omega) (fun _ _ hx => hx.elim) (fun v2 σ2 hp2 => ?_)
  obtain ⟨rz, rfl, hrz, ⟨bl2, hM2⟩, hK2, hd2⟩ := hp2
  rw [hO9] at hrz hM2
  obtain ⟨hI2, ho2, hf2⟩ := hI.mk2 hR1 hT1 ho1 hf1 hm1 hM2 hK2 hd2
  show J κ σ2 [(0, .ref b), (1, .ref (ad 0)), (2, .ref (am 0)), (3, .ref o), (4, .ref d), (5, vi ((5 * (j : Int)))), (6, vi (O.1))] 1751 [vi (rz)] _ _
  refine j_istore (lv' := [(0, .ref b), (1, .ref (ad 0)), (2, .ref (am 0)), (3, .ref o), (4, .ref d), (5, vi ((5 * (j : Int)))), (6, vi (O.1)), (7, vi (rz))]) [1, 2, 3, 4, 5, 6, 7, 0] C dL_law_1751 rfl rfl rfl ?_
  refine j_aload_n 2 C dL_law_1753 rfl rfl rfl ?_
  obtain ⟨-, _, _, _, _, _, _, _, _, _, _, _, _, _, _, _, hrc, -⟩ := id hM2
  refine j_callV (st' := []) (As := []) C dL_law_1754 rfl m_L_127 hrc rfl rfl rfl (m_thrown (kL κ) hfl (kD κ) (kc κ) σ2 am _ _ _ _ _ _ _ _ bl2 O.1 hM2) rfl (by omega) (by omega) (by omega) (fun _ _ hx => hx.elim) (fun v3 σ3 hp3 => ?_)
  obtain ⟨rfl, hs9⟩ := hp3
  replace hs9 := hs9.symm
  subst hs9
  show J κ σ2 [(0, .ref b), (1, .ref (ad 0)), (2, .ref (am 0)), (3, .ref o), (4, .ref d), (5, vi ((5 * (j : Int)))), (6, vi (O.1)), (7, vi (rz))] 1757 [vi (O.1)] _ _
  refine j_iload 6 C dL_law_1757 rfl rfl ?_
  refine j_icmp_same (tgt := 1764) C dL_law_1759 rfl ?_
  refine j_iload 6 C dL_law_1764 rfl rfl ?_
  refine j_if_ne (tgt := 1781) C dL_law_1766 rfl rfl ⟨by omega, by omega⟩ (fun cc1 => ?_) (fun cc1 => ?_)
  · refine j_goto (tgt := 2447) C dL_law_1781 rfl ?_
    refine j_locals (lv' := [(0, .ref b), (1, .ref (ad 0)), (2, .ref (am 0)), (3, .ref o), (4, .ref d), (5, vi ((5 * (j : Int))))]) [0, 1, 2, 3, 4, 5] rfl ?_
    exact hB _ _ _ _ _ _ hI2 ha01 (by omega) (by omega)
  · have e8 : vi rz = vi (w32 O.2.1) := by rw [hrz cc1]; exact vi_w _
    rw [e8]
    refine j_aload_n 3 C dL_law_1769 rfl rfl rfl ?_
    refine j_iconst C dL_law_1770 rfl ?_
    refine j_lald C dL_law_1771 rfl ho2 ⟨by decide, by decide⟩ (by decide) (y := w32 O.2.1) (hg1 cc1) ?_
    refine j_iload 7 C dL_law_1772 rfl rfl ?_
    refine j_i2l C dL_law_1774 rfl (w32_in _) ?_
    refine j_lcmp_same C dL_law_1775 rfl ?_
    refine j_if_eq (tgt := 1781) C dL_law_1776 rfl rfl ⟨by decide, by decide⟩ (fun _ => ?_) (fun cc => absurd cc (by decide))
    refine j_goto (tgt := 2447) C dL_law_1781 rfl ?_
    refine j_locals (lv' := [(0, .ref b), (1, .ref (ad 0)), (2, .ref (am 0)), (3, .ref o), (4, .ref d), (5, vi ((5 * (j : Int))))]) [0, 1, 2, 3, 4, 5] rfl ?_
    exact hB _ _ _ _ _ _ hI2 ha01 (by omega) (by omega)
set_option maxHeartbeats 8000000 in
set_option maxRecDepth 20000 in
theorem lc_23 {κ : Kx} {nmx : String} {b L j k n : Nat} {xs : Nat → Int} {σ : Wd} {tg ad am : Nat → Nat} {S : St} {o d : Nat} (C : Cx κ cL_law 9 RL nmx 9) (HN : Ncs (kS κ)) (hfl : (kL κ).stackTraces = false) (hxs : ∀ i : Nat, -2147483648 ≤ xs i ∧ xs i < 2147483648) (hX : va_X b L (fun j => Int32.ofInt (xs j)) (kS κ) (kS κ).heap) (hbl : b < (kS κ).heap.size) (hbA : ¬ kA κ b) (hL : L < 2147483648) (hI : LI (kc κ) σ tg ad am S o d) (hj : 5 * j + 5 ≤ L) (hk : k + 300 ≤ (kR κ).cells) (hn : n + 8000 ≤ (kR κ).slots) (hB : LB κ b o d (ad 0) am j k n) : J κ σ [(0, .ref b), (1, .ref (ad 0)), (2, .ref (am 0)), (3, .ref o), (4, .ref d), (5, vi (5 * (j : Int)))] 1784 [] k n := by
  obtain ⟨a1, ha1⟩ : ∃ a, xs (5 * j + 1) = a := ⟨_, rfl⟩
  have r1 : -2147483648 ≤ a1 ∧ a1 < 2147483648 := by rw [← ha1]; exact hxs _
  obtain ⟨a2, ha2⟩ : ∃ a, xs (5 * j + 2) = a := ⟨_, rfl⟩
  have r2 : -2147483648 ≤ a2 ∧ a2 < 2147483648 := by rw [← ha2]; exact hxs _
  obtain ⟨a3, ha3⟩ : ∃ a, xs (5 * j + 3) = a := ⟨_, rfl⟩
  have r3 : -2147483648 ≤ a3 ∧ a3 < 2147483648 := by rw [← ha3]; exact hxs _
  obtain ⟨a4, ha4⟩ : ∃ a, xs (5 * j + 4) = a := ⟨_, rfl⟩
  have r4 : -2147483648 ≤ a4 ∧ a4 < 2147483648 := by rw [← ha4]; exact hxs _
  obtain ⟨bs, ru, se, pf, hd, ca, evs, ln⟩ := S
  have hX0 : RX (kc κ) σ tg ad bs ru se pf hd ca evs ln := hI.1
  have hO := hX0.ok
  obtain ⟨-, -, ⟨g0, hout⟩, ⟨f0, hdub⟩, ⟨to9, td9⟩, -⟩ := id hI
  refine j_aload_n 1 C dL_law_1784 rfl rfl rfl ?_
  refine j_aload_n 0 C dL_law_1785 rfl rfl rfl ?_
  refine j_iload 5 C dL_law_1786 rfl rfl ?_
  refine j_iconst C dL_law_1788 rfl ?_
  refine j_iadd C dL_law_1789 rfl ?_
  refine j_sld C hX hbl hbA dL_law_1790 rfl ⟨by omega, by omega⟩ (by omega) (y := a1) (by rw [show (5 * (j : Int) + 1).toNat = 5 * j + 1 by omega]; exact ha1) ?_
  refine j_aload_n 0 C dL_law_1791 rfl rfl rfl ?_
  refine j_iload 5 C dL_law_1792 rfl rfl ?_
  refine j_iconst C dL_law_1794 rfl ?_
  refine j_iadd C dL_law_1795 rfl ?_
  refine j_sld C hX hbl hbA dL_law_1796 rfl ⟨by omega, by omega⟩ (by omega) (y := a2) (by rw [show (5 * (j : Int) + 2).toNat = 5 * j + 2 by omega]; exact ha2) ?_
  refine j_aload_n 0 C dL_law_1797 rfl rfl rfl ?_
  refine j_iload 5 C dL_law_1798 rfl rfl ?_
  refine j_iconst C dL_law_1800 rfl ?_
  refine j_iadd C dL_law_1801 rfl ?_
  refine j_sld C hX hbl hbA dL_law_1802 rfl ⟨by omega, by omega⟩ (by omega) (y := a3) (by rw [show (5 * (j : Int) + 3).toNat = 5 * j + 3 by omega]; exact ha3) ?_
  refine j_aload_n 0 C dL_law_1803 rfl rfl rfl ?_
  refine j_iload 5 C dL_law_1804 rfl rfl ?_
  refine j_iconst C dL_law_1806 rfl ?_
  refine j_iadd C dL_law_1807 rfl ?_
  refine j_sld C hX hbl hbA dL_law_1808 rfl ⟨by omega, by omega⟩ (by omega) (y := a4) (by rw [show (5 * (j : Int) + 4).toNat = 5 * j + 4 by omega]; exact ha4) ?_
  refine j_aload_n 3 C dL_law_1809 rfl rfl rfl ?_
  refine j_callSN (st' := []) (As := [.ref (ad 0), vi (a1), vi (a2), vi (a3), vi (a4), .ref o]) C HN dL_law_1810 rfl m_L_203 rfl rfl (W_blendCostByTrying (kL κ) hfl (kD κ) (kc κ) σ tg ad bs ru se pf hd ca evs ln hX0 o g0 hout (by omega) a1 r1 a2 r2 a3 r3 a4 r4) rfl (by omega) (by omega) (by omega) (fun _ _ hx => hx.elim) (fun v1 σ1 hp => ?_)
  obtain ⟨rfl, ⟨tg1, ad1, hR1, hT1, ha01⟩, ⟨g1, ho1, hg1⟩, hK1, hm1⟩ := hp
  have hcr := cr_blendCost bs ru se pf hd ca evs ln a1 a2 a3 a4
  obtain ⟨O, hO9⟩ : ∃ O : Rs, o_blendCost bs ru se pf hd ca evs ln a1 a2 a3 a4 = O := ⟨_, rfl⟩
  show J κ σ1 [(0, .ref b), (1, .ref (ad 0)), (2, .ref (am 0)), (3, .ref o), (4, .ref d), (5, vi ((5 * (j : Int))))] 1813 [vi (o_blendCost bs ru se pf hd ca evs ln a1 a2 a3 a4).1] _ _
  rw [hO9] at hR1 hg1 hcr ⊢
  obtain ⟨bl1, th1, hM1⟩ := hI.mod (Or.inl rfl) hK1
  have hf1 := hI.dbl hdub hK1
  show J κ σ1 [(0, .ref b), (1, .ref (ad 0)), (2, .ref (am 0)), (3, .ref o), (4, .ref d), (5, vi ((5 * (j : Int))))] 1813 [vi (O.1)] _ _
  refine j_istore (lv' := [(0, .ref b), (1, .ref (ad 0)), (2, .ref (am 0)), (3, .ref o), (4, .ref d), (5, vi ((5 * (j : Int)))), (6, vi (O.1))]) [1, 2, 3, 4, 5, 6, 0] C dL_law_1813 rfl rfl rfl ?_
  refine j_aload_n 2 C dL_law_1815 rfl rfl rfl ?_
  refine j_aload_n 0 C dL_law_1816 rfl rfl rfl ?_
  refine j_iload 5 C dL_law_1817 rfl rfl ?_
  refine j_iconst C dL_law_1819 rfl ?_
  refine j_iadd C dL_law_1820 rfl ?_
  refine j_sld C hX hbl hbA dL_law_1821 rfl ⟨by omega, by omega⟩ (by omega) (y := a1) (by rw [show (5 * (j : Int) + 1).toNat = 5 * j + 1 by omega]; exact ha1) ?_
  refine j_aload_n 0 C dL_law_1822 rfl rfl rfl ?_
  refine j_iload 5 C dL_law_1823 rfl rfl ?_
  refine j_iconst C dL_law_1825 rfl ?_
  refine j_iadd C dL_law_1826 rfl ?_
  refine j_sld C hX hbl hbA dL_law_1827 rfl ⟨by omega, by omega⟩ (by omega) (y := a2) (by rw [show (5 * (j : Int) + 2).toNat = 5 * j + 2 by omega]; exact ha2) ?_
  refine j_aload_n 0 C dL_law_1828 rfl rfl rfl ?_
  refine j_iload 5 C dL_law_1829 rfl rfl ?_
  refine j_iconst C dL_law_1831 rfl ?_
  refine j_iadd C dL_law_1832 rfl ?_
  refine j_sld C hX hbl hbA dL_law_1833 rfl ⟨by omega, by omega⟩ (by omega) (y := a3) (by rw [show (5 * (j : Int) + 3).toNat = 5 * j + 3 by omega]; exact ha3) ?_
  refine j_aload_n 0 C dL_law_1834 rfl rfl rfl ?_
  refine j_iload 5 C dL_law_1835 rfl rfl ?_
  refine j_iconst C dL_law_1837 rfl ?_
  refine j_iadd C dL_law_1838 rfl ?_
  refine j_sld C hX hbl hbA dL_law_1839 rfl ⟨by omega, by omega⟩ (by omega) (y := a4) (by rw [show (5 * (j : Int) + 4).toNat = 5 * j + 4 by omega]; exact ha4) ?_
  obtain ⟨-, _, _, _, _, _, _, _, _, _, _, _, _, _, _, _, hrc, -⟩ := id hM1
  refine j_callV (st' := []) (As := [vi (a1), vi (a2), vi (a3), vi (a4)]) C dL_law_1840 rfl m_L_205 hrc rfl rfl rfl (m_blendCostByTrying (kL κ) hfl (kD κ) (kc κ) σ1 am bs ru se pf hd ca evs ln bl1 th1 hM1 a1 r1 a2 r2 a3 r3 a4 r4 hO) rfl (by omega) (by omega) (by omega) (fun _ _ hx => hx.elim) (fun v2 σ2 hp2 => ?_)
  obtain ⟨rz, rfl, hrz, ⟨bl2, hM2⟩, hK2, hd2⟩ := hp2
  rw [hO9] at hrz hM2
  obtain ⟨hI2, ho2, hf2⟩ := hI.mk2 hR1 hT1 ho1 hf1 hm1 hM2 hK2 hd2
  show J κ σ2 [(0, .ref b), (1, .ref (ad 0)), (2, .ref (am 0)), (3, .ref o), (4, .ref d), (5, vi ((5 * (j : Int)))), (6, vi (O.1))] 1843 [vi (rz)] _ _
  refine j_istore (lv' := [(0, .ref b), (1, .ref (ad 0)), (2, .ref (am 0)), (3, .ref o), (4, .ref d), (5, vi ((5 * (j : Int)))), (6, vi (O.1)), (7, vi (rz))]) [1, 2, 3, 4, 5, 6, 7, 0] C dL_law_1843 rfl rfl rfl ?_
  refine j_aload_n 2 C dL_law_1845 rfl rfl rfl ?_
  obtain ⟨-, _, _, _, _, _, _, _, _, _, _, _, _, _, _, _, hrc, -⟩ := id hM2
  refine j_callV (st' := []) (As := []) C dL_law_1846 rfl m_L_127 hrc rfl rfl rfl (m_thrown (kL κ) hfl (kD κ) (kc κ) σ2 am _ _ _ _ _ _ _ _ bl2 O.1 hM2) rfl (by omega) (by omega) (by omega) (fun _ _ hx => hx.elim) (fun v3 σ3 hp3 => ?_)
  obtain ⟨rfl, hs9⟩ := hp3
  replace hs9 := hs9.symm
  subst hs9
  show J κ σ2 [(0, .ref b), (1, .ref (ad 0)), (2, .ref (am 0)), (3, .ref o), (4, .ref d), (5, vi ((5 * (j : Int)))), (6, vi (O.1)), (7, vi (rz))] 1849 [vi (O.1)] _ _
  refine j_iload 6 C dL_law_1849 rfl rfl ?_
  refine j_icmp_same (tgt := 1856) C dL_law_1851 rfl ?_
  refine j_iload 6 C dL_law_1856 rfl rfl ?_
  refine j_if_ne (tgt := 1873) C dL_law_1858 rfl rfl ⟨by omega, by omega⟩ (fun cc1 => ?_) (fun cc1 => ?_)
  · refine j_goto (tgt := 2447) C dL_law_1873 rfl ?_
    refine j_locals (lv' := [(0, .ref b), (1, .ref (ad 0)), (2, .ref (am 0)), (3, .ref o), (4, .ref d), (5, vi ((5 * (j : Int))))]) [0, 1, 2, 3, 4, 5] rfl ?_
    exact hB _ _ _ _ _ _ hI2 ha01 (by omega) (by omega)
  · have e8 : vi rz = vi (w32 O.2.1) := by rw [hrz cc1]; exact vi_w _
    rw [e8]
    refine j_aload_n 3 C dL_law_1861 rfl rfl rfl ?_
    refine j_iconst C dL_law_1862 rfl ?_
    refine j_lald C dL_law_1863 rfl ho2 ⟨by decide, by decide⟩ (by decide) (y := w32 O.2.1) (hg1 cc1) ?_
    refine j_iload 7 C dL_law_1864 rfl rfl ?_
    refine j_i2l C dL_law_1866 rfl (w32_in _) ?_
    refine j_lcmp_same C dL_law_1867 rfl ?_
    refine j_if_eq (tgt := 1873) C dL_law_1868 rfl rfl ⟨by decide, by decide⟩ (fun _ => ?_) (fun cc => absurd cc (by decide))
    refine j_goto (tgt := 2447) C dL_law_1873 rfl ?_
    refine j_locals (lv' := [(0, .ref b), (1, .ref (ad 0)), (2, .ref (am 0)), (3, .ref o), (4, .ref d), (5, vi ((5 * (j : Int))))]) [0, 1, 2, 3, 4, 5] rfl ?_
    exact hB _ _ _ _ _ _ hI2 ha01 (by omega) (by omega)
set_option maxHeartbeats 8000000 in
set_option maxRecDepth 20000 in
theorem lc_24 {κ : Kx} {nmx : String} {b L j k n : Nat} {xs : Nat → Int} {σ : Wd} {tg ad am : Nat → Nat} {S : St} {o d : Nat} (C : Cx κ cL_law 9 RL nmx 9) (HN : Ncs (kS κ)) (hfl : (kL κ).stackTraces = false) (hxs : ∀ i : Nat, -2147483648 ≤ xs i ∧ xs i < 2147483648) (hX : va_X b L (fun j => Int32.ofInt (xs j)) (kS κ) (kS κ).heap) (hbl : b < (kS κ).heap.size) (hbA : ¬ kA κ b) (hL : L < 2147483648) (hI : LI (kc κ) σ tg ad am S o d) (hj : 5 * j + 5 ≤ L) (hk : k + 300 ≤ (kR κ).cells) (hn : n + 8000 ≤ (kR κ).slots) (hB : LB κ b o d (ad 0) am j k n) : J κ σ [(0, .ref b), (1, .ref (ad 0)), (2, .ref (am 0)), (3, .ref o), (4, .ref d), (5, vi (5 * (j : Int)))] 1876 [] k n := by
  obtain ⟨a1, ha1⟩ : ∃ a, xs (5 * j + 1) = a := ⟨_, rfl⟩
  have r1 : -2147483648 ≤ a1 ∧ a1 < 2147483648 := by rw [← ha1]; exact hxs _
  obtain ⟨a2, ha2⟩ : ∃ a, xs (5 * j + 2) = a := ⟨_, rfl⟩
  have r2 : -2147483648 ≤ a2 ∧ a2 < 2147483648 := by rw [← ha2]; exact hxs _
  obtain ⟨a3, ha3⟩ : ∃ a, xs (5 * j + 3) = a := ⟨_, rfl⟩
  have r3 : -2147483648 ≤ a3 ∧ a3 < 2147483648 := by rw [← ha3]; exact hxs _
  obtain ⟨a4, ha4⟩ : ∃ a, xs (5 * j + 4) = a := ⟨_, rfl⟩
  have r4 : -2147483648 ≤ a4 ∧ a4 < 2147483648 := by rw [← ha4]; exact hxs _
  obtain ⟨bs, ru, se, pf, hd, ca, evs, ln⟩ := S
  have hX0 : RX (kc κ) σ tg ad bs ru se pf hd ca evs ln := hI.1
  have hO := hX0.ok
  obtain ⟨-, -, ⟨g0, hout⟩, ⟨f0, hdub⟩, ⟨to9, td9⟩, -⟩ := id hI
  refine j_aload_n 1 C dL_law_1876 rfl rfl rfl ?_
  refine j_aload_n 0 C dL_law_1877 rfl rfl rfl ?_
  refine j_iload 5 C dL_law_1878 rfl rfl ?_
  refine j_iconst C dL_law_1880 rfl ?_
  refine j_iadd C dL_law_1881 rfl ?_
  refine j_sld C hX hbl hbA dL_law_1882 rfl ⟨by omega, by omega⟩ (by omega) (y := a1) (by rw [show (5 * (j : Int) + 1).toNat = 5 * j + 1 by omega]; exact ha1) ?_
  refine j_aload_n 0 C dL_law_1883 rfl rfl rfl ?_
  refine j_iload 5 C dL_law_1884 rfl rfl ?_
  refine j_iconst C dL_law_1886 rfl ?_
  refine j_iadd C dL_law_1887 rfl ?_
  refine j_sld C hX hbl hbA dL_law_1888 rfl ⟨by omega, by omega⟩ (by omega) (y := a2) (by rw [show (5 * (j : Int) + 2).toNat = 5 * j + 2 by omega]; exact ha2) ?_
  refine j_aload_n 0 C dL_law_1889 rfl rfl rfl ?_
  refine j_iload 5 C dL_law_1890 rfl rfl ?_
  refine j_iconst C dL_law_1892 rfl ?_
  refine j_iadd C dL_law_1893 rfl ?_
  refine j_sld C hX hbl hbA dL_law_1894 rfl ⟨by omega, by omega⟩ (by omega) (y := a3) (by rw [show (5 * (j : Int) + 3).toNat = 5 * j + 3 by omega]; exact ha3) ?_
  refine j_aload_n 0 C dL_law_1895 rfl rfl rfl ?_
  refine j_iload 5 C dL_law_1896 rfl rfl ?_
  refine j_iconst C dL_law_1898 rfl ?_
  refine j_iadd C dL_law_1899 rfl ?_
  refine j_sld C hX hbl hbA dL_law_1900 rfl ⟨by omega, by omega⟩ (by omega) (y := a4) (by rw [show (5 * (j : Int) + 4).toNat = 5 * j + 4 by omega]; exact ha4) ?_
  refine j_aload_n 3 C dL_law_1901 rfl rfl rfl ?_
  refine j_callSN (st' := []) (As := [.ref (ad 0), vi (a1), vi (a2), vi (a3), vi (a4), .ref o]) C HN dL_law_1902 rfl m_L_206 rfl rfl (W_blendShare (kL κ) hfl (kD κ) (kc κ) σ tg ad bs ru se pf hd ca evs ln hX0 o g0 hout (by omega) a1 r1 a2 r2 a3 r3 a4 r4) rfl (by omega) (by omega) (by omega) (fun _ _ hx => hx.elim) (fun v1 σ1 hp => ?_)
  obtain ⟨rfl, ⟨tg1, ad1, hR1, hT1, ha01⟩, ⟨g1, ho1, hg1⟩, hK1, hm1⟩ := hp
  have hcr := cr_blendShare bs ru se pf hd ca evs ln a1 a2 a3 a4
  obtain ⟨O, hO9⟩ : ∃ O : Rs, o_blendShare bs ru se pf hd ca evs ln a1 a2 a3 a4 = O := ⟨_, rfl⟩
  show J κ σ1 [(0, .ref b), (1, .ref (ad 0)), (2, .ref (am 0)), (3, .ref o), (4, .ref d), (5, vi ((5 * (j : Int))))] 1905 [vi (o_blendShare bs ru se pf hd ca evs ln a1 a2 a3 a4).1] _ _
  rw [hO9] at hR1 hg1 hcr ⊢
  obtain ⟨bl1, th1, hM1⟩ := hI.mod (Or.inl rfl) hK1
  have hf1 := hI.dbl hdub hK1
  show J κ σ1 [(0, .ref b), (1, .ref (ad 0)), (2, .ref (am 0)), (3, .ref o), (4, .ref d), (5, vi ((5 * (j : Int))))] 1905 [vi (O.1)] _ _
  refine j_istore (lv' := [(0, .ref b), (1, .ref (ad 0)), (2, .ref (am 0)), (3, .ref o), (4, .ref d), (5, vi ((5 * (j : Int)))), (6, vi (O.1))]) [1, 2, 3, 4, 5, 6, 0] C dL_law_1905 rfl rfl rfl ?_
  refine j_aload_n 2 C dL_law_1907 rfl rfl rfl ?_
  refine j_aload_n 0 C dL_law_1908 rfl rfl rfl ?_
  refine j_iload 5 C dL_law_1909 rfl rfl ?_
  refine j_iconst C dL_law_1911 rfl ?_
  refine j_iadd C dL_law_1912 rfl ?_
  refine j_sld C hX hbl hbA dL_law_1913 rfl ⟨by omega, by omega⟩ (by omega) (y := a1) (by rw [show (5 * (j : Int) + 1).toNat = 5 * j + 1 by omega]; exact ha1) ?_
  refine j_aload_n 0 C dL_law_1914 rfl rfl rfl ?_
  refine j_iload 5 C dL_law_1915 rfl rfl ?_
  refine j_iconst C dL_law_1917 rfl ?_
  refine j_iadd C dL_law_1918 rfl ?_
  refine j_sld C hX hbl hbA dL_law_1919 rfl ⟨by omega, by omega⟩ (by omega) (y := a2) (by rw [show (5 * (j : Int) + 2).toNat = 5 * j + 2 by omega]; exact ha2) ?_
  refine j_aload_n 0 C dL_law_1920 rfl rfl rfl ?_
  refine j_iload 5 C dL_law_1921 rfl rfl ?_
  refine j_iconst C dL_law_1923 rfl ?_
  refine j_iadd C dL_law_1924 rfl ?_
  refine j_sld C hX hbl hbA dL_law_1925 rfl ⟨by omega, by omega⟩ (by omega) (y := a3) (by rw [show (5 * (j : Int) + 3).toNat = 5 * j + 3 by omega]; exact ha3) ?_
  refine j_aload_n 0 C dL_law_1926 rfl rfl rfl ?_
  refine j_iload 5 C dL_law_1927 rfl rfl ?_
  refine j_iconst C dL_law_1929 rfl ?_
  refine j_iadd C dL_law_1930 rfl ?_
  refine j_sld C hX hbl hbA dL_law_1931 rfl ⟨by omega, by omega⟩ (by omega) (y := a4) (by rw [show (5 * (j : Int) + 4).toNat = 5 * j + 4 by omega]; exact ha4) ?_
  obtain ⟨-, _, _, _, _, _, _, _, _, _, _, _, _, _, _, _, hrc, -⟩ := id hM1
  refine j_callV (st' := []) (As := [vi (a1), vi (a2), vi (a3), vi (a4)]) C dL_law_1932 rfl m_L_208 hrc rfl rfl rfl (m_blendShare (kL κ) hfl (kD κ) (kc κ) σ1 am bs ru se pf hd ca evs ln bl1 th1 hM1 a1 r1 a2 r2 a3 r3 a4 r4 hO) rfl (by omega) (by omega) (by omega) (fun _ _ hx => hx.elim) (fun v2 σ2 hp2 => ?_)
  obtain ⟨rz, rfl, hrz, ⟨bl2, hM2⟩, hK2, hd2⟩ := hp2
  rw [hO9] at hrz hM2
  obtain ⟨hI2, ho2, hf2⟩ := hI.mk2 hR1 hT1 ho1 hf1 hm1 hM2 hK2 hd2
  show J κ σ2 [(0, .ref b), (1, .ref (ad 0)), (2, .ref (am 0)), (3, .ref o), (4, .ref d), (5, vi ((5 * (j : Int)))), (6, vi (O.1))] 1935 [vi (rz)] _ _
  refine j_istore (lv' := [(0, .ref b), (1, .ref (ad 0)), (2, .ref (am 0)), (3, .ref o), (4, .ref d), (5, vi ((5 * (j : Int)))), (6, vi (O.1)), (7, vi (rz))]) [1, 2, 3, 4, 5, 6, 7, 0] C dL_law_1935 rfl rfl rfl ?_
  refine j_aload_n 2 C dL_law_1937 rfl rfl rfl ?_
  obtain ⟨-, _, _, _, _, _, _, _, _, _, _, _, _, _, _, _, hrc, -⟩ := id hM2
  refine j_callV (st' := []) (As := []) C dL_law_1938 rfl m_L_127 hrc rfl rfl rfl (m_thrown (kL κ) hfl (kD κ) (kc κ) σ2 am _ _ _ _ _ _ _ _ bl2 O.1 hM2) rfl (by omega) (by omega) (by omega) (fun _ _ hx => hx.elim) (fun v3 σ3 hp3 => ?_)
  obtain ⟨rfl, hs9⟩ := hp3
  replace hs9 := hs9.symm
  subst hs9
  show J κ σ2 [(0, .ref b), (1, .ref (ad 0)), (2, .ref (am 0)), (3, .ref o), (4, .ref d), (5, vi ((5 * (j : Int)))), (6, vi (O.1)), (7, vi (rz))] 1941 [vi (O.1)] _ _
  refine j_iload 6 C dL_law_1941 rfl rfl ?_
  refine j_icmp_same (tgt := 1948) C dL_law_1943 rfl ?_
  refine j_iload 6 C dL_law_1948 rfl rfl ?_
  refine j_if_ne (tgt := 1965) C dL_law_1950 rfl rfl ⟨by omega, by omega⟩ (fun cc1 => ?_) (fun cc1 => ?_)
  · refine j_goto (tgt := 2447) C dL_law_1965 rfl ?_
    refine j_locals (lv' := [(0, .ref b), (1, .ref (ad 0)), (2, .ref (am 0)), (3, .ref o), (4, .ref d), (5, vi ((5 * (j : Int))))]) [0, 1, 2, 3, 4, 5] rfl ?_
    exact hB _ _ _ _ _ _ hI2 ha01 (by omega) (by omega)
  · have e8 : vi rz = vi (w32 O.2.1) := by rw [hrz cc1]; exact vi_w _
    rw [e8]
    refine j_aload_n 3 C dL_law_1953 rfl rfl rfl ?_
    refine j_iconst C dL_law_1954 rfl ?_
    refine j_lald C dL_law_1955 rfl ho2 ⟨by decide, by decide⟩ (by decide) (y := w32 O.2.1) (hg1 cc1) ?_
    refine j_iload 7 C dL_law_1956 rfl rfl ?_
    refine j_i2l C dL_law_1958 rfl (w32_in _) ?_
    refine j_lcmp_same C dL_law_1959 rfl ?_
    refine j_if_eq (tgt := 1965) C dL_law_1960 rfl rfl ⟨by decide, by decide⟩ (fun _ => ?_) (fun cc => absurd cc (by decide))
    refine j_goto (tgt := 2447) C dL_law_1965 rfl ?_
    refine j_locals (lv' := [(0, .ref b), (1, .ref (ad 0)), (2, .ref (am 0)), (3, .ref o), (4, .ref d), (5, vi ((5 * (j : Int))))]) [0, 1, 2, 3, 4, 5] rfl ?_
    exact hB _ _ _ _ _ _ hI2 ha01 (by omega) (by omega)
set_option maxHeartbeats 8000000 in
set_option maxRecDepth 20000 in
theorem lc_25 {κ : Kx} {nmx : String} {b L j k n : Nat} {xs : Nat → Int} {σ : Wd} {tg ad am : Nat → Nat} {S : St} {o d : Nat} (C : Cx κ cL_law 9 RL nmx 9) (HN : Ncs (kS κ)) (hfl : (kL κ).stackTraces = false) (hxs : ∀ i : Nat, -2147483648 ≤ xs i ∧ xs i < 2147483648) (hX : va_X b L (fun j => Int32.ofInt (xs j)) (kS κ) (kS κ).heap) (hbl : b < (kS κ).heap.size) (hbA : ¬ kA κ b) (hL : L < 2147483648) (hI : LI (kc κ) σ tg ad am S o d) (hj : 5 * j + 5 ≤ L) (hk : k + 300 ≤ (kR κ).cells) (hn : n + 8000 ≤ (kR κ).slots) (hB : LB κ b o d (ad 0) am j k n) : J κ σ [(0, .ref b), (1, .ref (ad 0)), (2, .ref (am 0)), (3, .ref o), (4, .ref d), (5, vi (5 * (j : Int)))] 1968 [] k n := by
  obtain ⟨a1, ha1⟩ : ∃ a, xs (5 * j + 1) = a := ⟨_, rfl⟩
  have r1 : -2147483648 ≤ a1 ∧ a1 < 2147483648 := by rw [← ha1]; exact hxs _
  obtain ⟨a2, ha2⟩ : ∃ a, xs (5 * j + 2) = a := ⟨_, rfl⟩
  have r2 : -2147483648 ≤ a2 ∧ a2 < 2147483648 := by rw [← ha2]; exact hxs _
  obtain ⟨a3, ha3⟩ : ∃ a, xs (5 * j + 3) = a := ⟨_, rfl⟩
  have r3 : -2147483648 ≤ a3 ∧ a3 < 2147483648 := by rw [← ha3]; exact hxs _
  obtain ⟨a4, ha4⟩ : ∃ a, xs (5 * j + 4) = a := ⟨_, rfl⟩
  have r4 : -2147483648 ≤ a4 ∧ a4 < 2147483648 := by rw [← ha4]; exact hxs _
  obtain ⟨bs, ru, se, pf, hd, ca, evs, ln⟩ := S
  have hX0 : RX (kc κ) σ tg ad bs ru se pf hd ca evs ln := hI.1
  have hO := hX0.ok
  obtain ⟨-, -, ⟨g0, hout⟩, ⟨f0, hdub⟩, ⟨to9, td9⟩, -⟩ := id hI
  refine j_aload_n 1 C dL_law_1968 rfl rfl rfl ?_
  refine j_aload_n 0 C dL_law_1969 rfl rfl rfl ?_
  refine j_iload 5 C dL_law_1970 rfl rfl ?_
  refine j_iconst C dL_law_1972 rfl ?_
  refine j_iadd C dL_law_1973 rfl ?_
  refine j_sld C hX hbl hbA dL_law_1974 rfl ⟨by omega, by omega⟩ (by omega) (y := a1) (by rw [show (5 * (j : Int) + 1).toNat = 5 * j + 1 by omega]; exact ha1) ?_
  refine j_aload_n 0 C dL_law_1975 rfl rfl rfl ?_
  refine j_iload 5 C dL_law_1976 rfl rfl ?_
  refine j_iconst C dL_law_1978 rfl ?_
  refine j_iadd C dL_law_1979 rfl ?_
  refine j_sld C hX hbl hbA dL_law_1980 rfl ⟨by omega, by omega⟩ (by omega) (y := a2) (by rw [show (5 * (j : Int) + 2).toNat = 5 * j + 2 by omega]; exact ha2) ?_
  refine j_aload_n 0 C dL_law_1981 rfl rfl rfl ?_
  refine j_iload 5 C dL_law_1982 rfl rfl ?_
  refine j_iconst C dL_law_1984 rfl ?_
  refine j_iadd C dL_law_1985 rfl ?_
  refine j_sld C hX hbl hbA dL_law_1986 rfl ⟨by omega, by omega⟩ (by omega) (y := a3) (by rw [show (5 * (j : Int) + 3).toNat = 5 * j + 3 by omega]; exact ha3) ?_
  refine j_aload_n 0 C dL_law_1987 rfl rfl rfl ?_
  refine j_iload 5 C dL_law_1988 rfl rfl ?_
  refine j_iconst C dL_law_1990 rfl ?_
  refine j_iadd C dL_law_1991 rfl ?_
  refine j_sld C hX hbl hbA dL_law_1992 rfl ⟨by omega, by omega⟩ (by omega) (y := a4) (by rw [show (5 * (j : Int) + 4).toNat = 5 * j + 4 by omega]; exact ha4) ?_
  refine j_aload_n 3 C dL_law_1993 rfl rfl rfl ?_
  refine j_callSN (st' := []) (As := [.ref (ad 0), vi (a1), vi (a2), vi (a3), vi (a4), .ref o]) C HN dL_law_1994 rfl m_L_209 rfl rfl (W_sellBlend (kL κ) hfl (kD κ) (kc κ) σ tg ad bs ru se pf hd ca evs ln hX0 o g0 hout (by omega) a1 r1 a2 r2 a3 r3 a4 r4) rfl (by omega) (by omega) (by omega) (fun _ _ hx => hx.elim) (fun v1 σ1 hp => ?_)
  obtain ⟨rfl, ⟨tg1, ad1, hR1, hT1, ha01⟩, ⟨g1, ho1, hg1⟩, hK1, hm1⟩ := hp
  have hcr := cr_sellBlend bs ru se pf hd ca evs ln a1 a2 a3 a4
  obtain ⟨O, hO9⟩ : ∃ O : Rs, o_sellBlend bs ru se pf hd ca evs ln a1 a2 a3 a4 = O := ⟨_, rfl⟩
  show J κ σ1 [(0, .ref b), (1, .ref (ad 0)), (2, .ref (am 0)), (3, .ref o), (4, .ref d), (5, vi ((5 * (j : Int))))] 1997 [vi (o_sellBlend bs ru se pf hd ca evs ln a1 a2 a3 a4).1] _ _
  rw [hO9] at hR1 hg1 hcr ⊢
  obtain ⟨bl1, th1, hM1⟩ := hI.mod (Or.inl rfl) hK1
  have hf1 := hI.dbl hdub hK1
  show J κ σ1 [(0, .ref b), (1, .ref (ad 0)), (2, .ref (am 0)), (3, .ref o), (4, .ref d), (5, vi ((5 * (j : Int))))] 1997 [vi (O.1)] _ _
  refine j_istore (lv' := [(0, .ref b), (1, .ref (ad 0)), (2, .ref (am 0)), (3, .ref o), (4, .ref d), (5, vi ((5 * (j : Int)))), (6, vi (O.1))]) [1, 2, 3, 4, 5, 6, 0] C dL_law_1997 rfl rfl rfl ?_
  refine j_aload_n 2 C dL_law_1999 rfl rfl rfl ?_
  refine j_aload_n 0 C dL_law_2000 rfl rfl rfl ?_
  refine j_iload 5 C dL_law_2001 rfl rfl ?_
  refine j_iconst C dL_law_2003 rfl ?_
  refine j_iadd C dL_law_2004 rfl ?_
  refine j_sld C hX hbl hbA dL_law_2005 rfl ⟨by omega, by omega⟩ (by omega) (y := a1) (by rw [show (5 * (j : Int) + 1).toNat = 5 * j + 1 by omega]; exact ha1) ?_
  refine j_aload_n 0 C dL_law_2006 rfl rfl rfl ?_
  refine j_iload 5 C dL_law_2007 rfl rfl ?_
  refine j_iconst C dL_law_2009 rfl ?_
  refine j_iadd C dL_law_2010 rfl ?_
  refine j_sld C hX hbl hbA dL_law_2011 rfl ⟨by omega, by omega⟩ (by omega) (y := a2) (by rw [show (5 * (j : Int) + 2).toNat = 5 * j + 2 by omega]; exact ha2) ?_
  refine j_aload_n 0 C dL_law_2012 rfl rfl rfl ?_
  refine j_iload 5 C dL_law_2013 rfl rfl ?_
  refine j_iconst C dL_law_2015 rfl ?_
  refine j_iadd C dL_law_2016 rfl ?_
  refine j_sld C hX hbl hbA dL_law_2017 rfl ⟨by omega, by omega⟩ (by omega) (y := a3) (by rw [show (5 * (j : Int) + 3).toNat = 5 * j + 3 by omega]; exact ha3) ?_
  refine j_aload_n 0 C dL_law_2018 rfl rfl rfl ?_
  refine j_iload 5 C dL_law_2019 rfl rfl ?_
  refine j_iconst C dL_law_2021 rfl ?_
  refine j_iadd C dL_law_2022 rfl ?_
  refine j_sld C hX hbl hbA dL_law_2023 rfl ⟨by omega, by omega⟩ (by omega) (y := a4) (by rw [show (5 * (j : Int) + 4).toNat = 5 * j + 4 by omega]; exact ha4) ?_
  obtain ⟨-, _, _, _, _, _, _, _, _, _, _, _, _, _, _, _, hrc, -⟩ := id hM1
  refine j_callV (st' := []) (As := [vi (a1), vi (a2), vi (a3), vi (a4)]) C dL_law_2024 rfl m_L_211 hrc rfl rfl rfl (m_sellBlend (kL κ) hfl (kD κ) (kc κ) σ1 am bs ru se pf hd ca evs ln bl1 th1 hM1 a1 r1 a2 r2 a3 r3 a4 r4 hO) rfl (by omega) (by omega) (by omega) (fun _ _ hx => hx.elim) (fun v2 σ2 hp2 => ?_)
  obtain ⟨rz, rfl, hrz, ⟨bl2, hM2⟩, hK2, hd2⟩ := hp2
  rw [hO9] at hrz hM2
  obtain ⟨hI2, ho2, hf2⟩ := hI.mk2 hR1 hT1 ho1 hf1 hm1 hM2 hK2 hd2
  show J κ σ2 [(0, .ref b), (1, .ref (ad 0)), (2, .ref (am 0)), (3, .ref o), (4, .ref d), (5, vi ((5 * (j : Int)))), (6, vi (O.1))] 2027 [vi (rz)] _ _
  refine j_istore (lv' := [(0, .ref b), (1, .ref (ad 0)), (2, .ref (am 0)), (3, .ref o), (4, .ref d), (5, vi ((5 * (j : Int)))), (6, vi (O.1)), (7, vi (rz))]) [1, 2, 3, 4, 5, 6, 7, 0] C dL_law_2027 rfl rfl rfl ?_
  refine j_aload_n 2 C dL_law_2029 rfl rfl rfl ?_
  obtain ⟨-, _, _, _, _, _, _, _, _, _, _, _, _, _, _, _, hrc, -⟩ := id hM2
  refine j_callV (st' := []) (As := []) C dL_law_2030 rfl m_L_127 hrc rfl rfl rfl (m_thrown (kL κ) hfl (kD κ) (kc κ) σ2 am _ _ _ _ _ _ _ _ bl2 O.1 hM2) rfl (by omega) (by omega) (by omega) (fun _ _ hx => hx.elim) (fun v3 σ3 hp3 => ?_)
  obtain ⟨rfl, hs9⟩ := hp3
  replace hs9 := hs9.symm
  subst hs9
  show J κ σ2 [(0, .ref b), (1, .ref (ad 0)), (2, .ref (am 0)), (3, .ref o), (4, .ref d), (5, vi ((5 * (j : Int)))), (6, vi (O.1)), (7, vi (rz))] 2033 [vi (O.1)] _ _
  refine j_iload 6 C dL_law_2033 rfl rfl ?_
  refine j_icmp_same (tgt := 2040) C dL_law_2035 rfl ?_
  refine j_iload 6 C dL_law_2040 rfl rfl ?_
  refine j_if_ne (tgt := 2057) C dL_law_2042 rfl rfl ⟨by omega, by omega⟩ (fun cc1 => ?_) (fun cc1 => ?_)
  · refine j_goto (tgt := 2447) C dL_law_2057 rfl ?_
    refine j_locals (lv' := [(0, .ref b), (1, .ref (ad 0)), (2, .ref (am 0)), (3, .ref o), (4, .ref d), (5, vi ((5 * (j : Int))))]) [0, 1, 2, 3, 4, 5] rfl ?_
    exact hB _ _ _ _ _ _ hI2 ha01 (by omega) (by omega)
  · have e8 : vi rz = vi (w32 O.2.1) := by rw [hrz cc1]; exact vi_w _
    rw [e8]
    refine j_aload_n 3 C dL_law_2045 rfl rfl rfl ?_
    refine j_iconst C dL_law_2046 rfl ?_
    refine j_lald C dL_law_2047 rfl ho2 ⟨by decide, by decide⟩ (by decide) (y := w32 O.2.1) (hg1 cc1) ?_
    refine j_iload 7 C dL_law_2048 rfl rfl ?_
    refine j_i2l C dL_law_2050 rfl (w32_in _) ?_
    refine j_lcmp_same C dL_law_2051 rfl ?_
    refine j_if_eq (tgt := 2057) C dL_law_2052 rfl rfl ⟨by decide, by decide⟩ (fun _ => ?_) (fun cc => absurd cc (by decide))
    refine j_goto (tgt := 2447) C dL_law_2057 rfl ?_
    refine j_locals (lv' := [(0, .ref b), (1, .ref (ad 0)), (2, .ref (am 0)), (3, .ref o), (4, .ref d), (5, vi ((5 * (j : Int))))]) [0, 1, 2, 3, 4, 5] rfl ?_
    exact hB _ _ _ _ _ _ hI2 ha01 (by omega) (by omega)
set_option maxHeartbeats 8000000 in
set_option maxRecDepth 20000 in
theorem lc_26 {κ : Kx} {nmx : String} {b L j k n : Nat} {xs : Nat → Int} {σ : Wd} {tg ad am : Nat → Nat} {S : St} {o d : Nat} (C : Cx κ cL_law 9 RL nmx 9) (HN : Ncs (kS κ)) (hfl : (kL κ).stackTraces = false) (hxs : ∀ i : Nat, -2147483648 ≤ xs i ∧ xs i < 2147483648) (hX : va_X b L (fun j => Int32.ofInt (xs j)) (kS κ) (kS κ).heap) (hbl : b < (kS κ).heap.size) (hbA : ¬ kA κ b) (hL : L < 2147483648) (hI : LI (kc κ) σ tg ad am S o d) (hj : 5 * j + 5 ≤ L) (hk : k + 300 ≤ (kR κ).cells) (hn : n + 8000 ≤ (kR κ).slots) (hB : LB κ b o d (ad 0) am j k n) : J κ σ [(0, .ref b), (1, .ref (ad 0)), (2, .ref (am 0)), (3, .ref o), (4, .ref d), (5, vi (5 * (j : Int)))] 2060 [] k n := by
  obtain ⟨a1, ha1⟩ : ∃ a, xs (5 * j + 1) = a := ⟨_, rfl⟩
  have r1 : -2147483648 ≤ a1 ∧ a1 < 2147483648 := by rw [← ha1]; exact hxs _
  obtain ⟨a2, ha2⟩ : ∃ a, xs (5 * j + 2) = a := ⟨_, rfl⟩
  have r2 : -2147483648 ≤ a2 ∧ a2 < 2147483648 := by rw [← ha2]; exact hxs _
  obtain ⟨a3, ha3⟩ : ∃ a, xs (5 * j + 3) = a := ⟨_, rfl⟩
  have r3 : -2147483648 ≤ a3 ∧ a3 < 2147483648 := by rw [← ha3]; exact hxs _
  obtain ⟨a4, ha4⟩ : ∃ a, xs (5 * j + 4) = a := ⟨_, rfl⟩
  have r4 : -2147483648 ≤ a4 ∧ a4 < 2147483648 := by rw [← ha4]; exact hxs _
  obtain ⟨bs, ru, se, pf, hd, ca, evs, ln⟩ := S
  have hX0 : RX (kc κ) σ tg ad bs ru se pf hd ca evs ln := hI.1
  have hO := hX0.ok
  obtain ⟨-, -, ⟨g0, hout⟩, ⟨f0, hdub⟩, ⟨to9, td9⟩, -⟩ := id hI
  refine j_aload_n 1 C dL_law_2060 rfl rfl rfl ?_
  refine j_aload_n 0 C dL_law_2061 rfl rfl rfl ?_
  refine j_iload 5 C dL_law_2062 rfl rfl ?_
  refine j_iconst C dL_law_2064 rfl ?_
  refine j_iadd C dL_law_2065 rfl ?_
  refine j_sld C hX hbl hbA dL_law_2066 rfl ⟨by omega, by omega⟩ (by omega) (y := a1) (by rw [show (5 * (j : Int) + 1).toNat = 5 * j + 1 by omega]; exact ha1) ?_
  refine j_aload_n 3 C dL_law_2067 rfl rfl rfl ?_
  refine j_callSN (st' := []) (As := [.ref (ad 0), vi (a1), .ref o]) C HN dL_law_2068 rfl m_L_212 rfl rfl (W_setFutures (kL κ) hfl (kD κ) (kc κ) σ tg ad bs ru se pf hd ca evs ln hX0 o g0 hout (by omega) a1 r1) rfl (by omega) (by omega) (by omega) (fun _ _ hx => hx.elim) (fun v1 σ1 hp => ?_)
  obtain ⟨rfl, ⟨tg1, ad1, hR1, hT1, ha01⟩, ⟨g1, ho1, hg1⟩, hK1, hm1⟩ := hp
  have hcr := cr_setFutures bs ru se pf hd ca evs ln a1
  obtain ⟨O, hO9⟩ : ∃ O : Rs, o_setFutures bs ru se pf hd ca evs ln a1 = O := ⟨_, rfl⟩
  show J κ σ1 [(0, .ref b), (1, .ref (ad 0)), (2, .ref (am 0)), (3, .ref o), (4, .ref d), (5, vi ((5 * (j : Int))))] 2071 [vi (o_setFutures bs ru se pf hd ca evs ln a1).1] _ _
  rw [hO9] at hR1 hg1 hcr ⊢
  obtain ⟨bl1, th1, hM1⟩ := hI.mod (Or.inl rfl) hK1
  have hf1 := hI.dbl hdub hK1
  show J κ σ1 [(0, .ref b), (1, .ref (ad 0)), (2, .ref (am 0)), (3, .ref o), (4, .ref d), (5, vi ((5 * (j : Int))))] 2071 [vi (O.1)] _ _
  refine j_istore (lv' := [(0, .ref b), (1, .ref (ad 0)), (2, .ref (am 0)), (3, .ref o), (4, .ref d), (5, vi ((5 * (j : Int)))), (6, vi (O.1))]) [1, 2, 3, 4, 5, 6, 0] C dL_law_2071 rfl rfl rfl ?_
  refine j_aload_n 2 C dL_law_2073 rfl rfl rfl ?_
  refine j_aload_n 0 C dL_law_2074 rfl rfl rfl ?_
  refine j_iload 5 C dL_law_2075 rfl rfl ?_
  refine j_iconst C dL_law_2077 rfl ?_
  refine j_iadd C dL_law_2078 rfl ?_
  refine j_sld C hX hbl hbA dL_law_2079 rfl ⟨by omega, by omega⟩ (by omega) (y := a1) (by rw [show (5 * (j : Int) + 1).toNat = 5 * j + 1 by omega]; exact ha1) ?_
  obtain ⟨-, _, _, _, _, _, _, _, _, _, _, _, _, _, _, _, hrc, -⟩ := id hM1
  refine j_callV (st' := []) (As := [vi (a1)]) C dL_law_2080 rfl m_L_214 hrc rfl rfl rfl (m_setFutures (kL κ) hfl (kD κ) (kc κ) σ1 am bs ru se pf hd ca evs ln bl1 th1 hM1 a1 r1 hO) rfl (by omega) (by omega) (by omega) (fun _ _ hx => hx.elim) (fun v2 σ2 hp2 => ?_)
  obtain ⟨rz, rfl, hrz, ⟨bl2, hM2⟩, hK2, hd2⟩ := hp2
  rw [hO9] at hrz hM2
  obtain ⟨hI2, ho2, hf2⟩ := hI.mk2 hR1 hT1 ho1 hf1 hm1 hM2 hK2 hd2
  show J κ σ2 [(0, .ref b), (1, .ref (ad 0)), (2, .ref (am 0)), (3, .ref o), (4, .ref d), (5, vi ((5 * (j : Int)))), (6, vi (O.1))] 2083 [vi (rz)] _ _
  refine j_istore (lv' := [(0, .ref b), (1, .ref (ad 0)), (2, .ref (am 0)), (3, .ref o), (4, .ref d), (5, vi ((5 * (j : Int)))), (6, vi (O.1)), (7, vi (rz))]) [1, 2, 3, 4, 5, 6, 7, 0] C dL_law_2083 rfl rfl rfl ?_
  refine j_aload_n 2 C dL_law_2085 rfl rfl rfl ?_
  obtain ⟨-, _, _, _, _, _, _, _, _, _, _, _, _, _, _, _, hrc, -⟩ := id hM2
  refine j_callV (st' := []) (As := []) C dL_law_2086 rfl m_L_127 hrc rfl rfl rfl (m_thrown (kL κ) hfl (kD κ) (kc κ) σ2 am _ _ _ _ _ _ _ _ bl2 O.1 hM2) rfl (by omega) (by omega) (by omega) (fun _ _ hx => hx.elim) (fun v3 σ3 hp3 => ?_)
  obtain ⟨rfl, hs9⟩ := hp3
  replace hs9 := hs9.symm
  subst hs9
  show J κ σ2 [(0, .ref b), (1, .ref (ad 0)), (2, .ref (am 0)), (3, .ref o), (4, .ref d), (5, vi ((5 * (j : Int)))), (6, vi (O.1)), (7, vi (rz))] 2089 [vi (O.1)] _ _
  refine j_iload 6 C dL_law_2089 rfl rfl ?_
  refine j_icmp_same (tgt := 2096) C dL_law_2091 rfl ?_
  refine j_iload 6 C dL_law_2096 rfl rfl ?_
  refine j_if_ne (tgt := 2113) C dL_law_2098 rfl rfl ⟨by omega, by omega⟩ (fun cc1 => ?_) (fun cc1 => ?_)
  · refine j_goto (tgt := 2447) C dL_law_2113 rfl ?_
    refine j_locals (lv' := [(0, .ref b), (1, .ref (ad 0)), (2, .ref (am 0)), (3, .ref o), (4, .ref d), (5, vi ((5 * (j : Int))))]) [0, 1, 2, 3, 4, 5] rfl ?_
    exact hB _ _ _ _ _ _ hI2 ha01 (by omega) (by omega)
  · have e8 : vi rz = vi (w32 O.2.1) := by rw [hrz cc1]; exact vi_w _
    rw [e8]
    refine j_aload_n 3 C dL_law_2101 rfl rfl rfl ?_
    refine j_iconst C dL_law_2102 rfl ?_
    refine j_lald C dL_law_2103 rfl ho2 ⟨by decide, by decide⟩ (by decide) (y := w32 O.2.1) (hg1 cc1) ?_
    refine j_iload 7 C dL_law_2104 rfl rfl ?_
    refine j_i2l C dL_law_2106 rfl (w32_in _) ?_
    refine j_lcmp_same C dL_law_2107 rfl ?_
    refine j_if_eq (tgt := 2113) C dL_law_2108 rfl rfl ⟨by decide, by decide⟩ (fun _ => ?_) (fun cc => absurd cc (by decide))
    refine j_goto (tgt := 2447) C dL_law_2113 rfl ?_
    refine j_locals (lv' := [(0, .ref b), (1, .ref (ad 0)), (2, .ref (am 0)), (3, .ref o), (4, .ref d), (5, vi ((5 * (j : Int))))]) [0, 1, 2, 3, 4, 5] rfl ?_
    exact hB _ _ _ _ _ _ hI2 ha01 (by omega) (by omega)
set_option maxHeartbeats 8000000 in
set_option maxRecDepth 20000 in
theorem lc_27 {κ : Kx} {nmx : String} {b L j k n : Nat} {xs : Nat → Int} {σ : Wd} {tg ad am : Nat → Nat} {S : St} {o d : Nat} (C : Cx κ cL_law 9 RL nmx 9) (HN : Ncs (kS κ)) (hfl : (kL κ).stackTraces = false) (hxs : ∀ i : Nat, -2147483648 ≤ xs i ∧ xs i < 2147483648) (hX : va_X b L (fun j => Int32.ofInt (xs j)) (kS κ) (kS κ).heap) (hbl : b < (kS κ).heap.size) (hbA : ¬ kA κ b) (hL : L < 2147483648) (hI : LI (kc κ) σ tg ad am S o d) (hj : 5 * j + 5 ≤ L) (hk : k + 300 ≤ (kR κ).cells) (hn : n + 8000 ≤ (kR κ).slots) (hB : LB κ b o d (ad 0) am j k n) : J κ σ [(0, .ref b), (1, .ref (ad 0)), (2, .ref (am 0)), (3, .ref o), (4, .ref d), (5, vi (5 * (j : Int)))] 2116 [] k n := by
  obtain ⟨a1, ha1⟩ : ∃ a, xs (5 * j + 1) = a := ⟨_, rfl⟩
  have r1 : -2147483648 ≤ a1 ∧ a1 < 2147483648 := by rw [← ha1]; exact hxs _
  obtain ⟨a2, ha2⟩ : ∃ a, xs (5 * j + 2) = a := ⟨_, rfl⟩
  have r2 : -2147483648 ≤ a2 ∧ a2 < 2147483648 := by rw [← ha2]; exact hxs _
  obtain ⟨a3, ha3⟩ : ∃ a, xs (5 * j + 3) = a := ⟨_, rfl⟩
  have r3 : -2147483648 ≤ a3 ∧ a3 < 2147483648 := by rw [← ha3]; exact hxs _
  obtain ⟨a4, ha4⟩ : ∃ a, xs (5 * j + 4) = a := ⟨_, rfl⟩
  have r4 : -2147483648 ≤ a4 ∧ a4 < 2147483648 := by rw [← ha4]; exact hxs _
  obtain ⟨bs, ru, se, pf, hd, ca, evs, ln⟩ := S
  have hX0 : RX (kc κ) σ tg ad bs ru se pf hd ca evs ln := hI.1
  have hO := hX0.ok
  obtain ⟨-, -, ⟨g0, hout⟩, ⟨f0, hdub⟩, ⟨to9, td9⟩, -⟩ := id hI
  refine j_aload_n 1 C dL_law_2116 rfl rfl rfl ?_
  obtain ⟨⟨x1, x2⟩, hBB, -, -, -, -⟩ := id hX0
  refine j_callV (st' := []) (As := []) C dL_law_2117 rfl m_L_215 x1 rfl rfl rfl (c_hedged (kL κ) hfl (kD κ) (kc κ) σ tg ad bs ru se pf hd ca evs ln hX0) rfl (by omega) (by omega) (by omega) (fun _ _ hx => hx.elim) (fun v1 σ1 hp => ?_)
  obtain ⟨rfl, hs9⟩ := hp
  rw [hs9]
  have hR1 := hX0
  have hKK : Keep σ σ (fun y => tg y < 1000 ∨ y = o) := Keep.rf
  have hm1 : ∀ y, y ∈ σ.1 → y ∈ σ.1 := fun _ hy => hy
  obtain ⟨bl1, th1, hM1⟩ := hI.mod (Or.inl rfl) hKK
  have hf1 := hI.dbl hdub hKK
  have ho1 : has σ o (lA (kc κ) 1 g0) := hout
  show J κ σ [(0, .ref b), (1, .ref (ad 0)), (2, .ref (am 0)), (3, .ref o), (4, .ref d), (5, vi ((5 * (j : Int))))] 2120 [vi (hd.2.2.1)] _ _
  refine j_aload_n 2 C dL_law_2120 rfl rfl rfl ?_
  obtain ⟨-, _, _, _, _, _, _, _, _, _, _, _, _, _, _, _, hrc, -⟩ := id hM1
  refine j_callV (st' := [vi (hd.2.2.1)]) (As := []) C dL_law_2121 rfl m_L_218 hrc rfl rfl rfl (m_hedged (kL κ) hfl (kD κ) (kc κ) σ am bs ru se pf hd ca evs ln bl1 th1 hM1) rfl (by omega) (by omega) (by omega) (fun _ _ hx => hx.elim) (fun v2 σ2 hp2 => ?_)
  obtain ⟨rfl, hM2, hK2, hd2⟩ := hp2
  have hM3 : RMs (kc κ) σ2 am (bs, ru, se, pf, hd, ca, evs, ln) bl1 0 := hM2
  obtain ⟨hI2, -, -⟩ := hI.mk2 (S1 := (bs, ru, se, pf, hd, ca, evs, ln)) (tg1 := tg) (ad1 := ad) hR1 (fun _ _ => rfl) ho1 hf1 hm1 hM3 hK2 hd2
  show J κ σ2 [(0, .ref b), (1, .ref (ad 0)), (2, .ref (am 0)), (3, .ref o), (4, .ref d), (5, vi ((5 * (j : Int))))] 2124 [vi (hd.2.2.1), vi (hd.2.2.1)] _ _
  refine j_icmp_same (tgt := 2447) C dL_law_2124 rfl ?_
  refine j_locals (lv' := [(0, .ref b), (1, .ref (ad 0)), (2, .ref (am 0)), (3, .ref o), (4, .ref d), (5, vi ((5 * (j : Int))))]) [0, 1, 2, 3, 4, 5] rfl ?_
  exact hB _ _ _ _ _ _ hI2 rfl (by omega) (by omega)
set_option maxHeartbeats 8000000 in
set_option maxRecDepth 20000 in
theorem lc_28 {κ : Kx} {nmx : String} {b L j k n : Nat} {xs : Nat → Int} {σ : Wd} {tg ad am : Nat → Nat} {S : St} {o d : Nat} (C : Cx κ cL_law 9 RL nmx 9) (HN : Ncs (kS κ)) (hfl : (kL κ).stackTraces = false) (hxs : ∀ i : Nat, -2147483648 ≤ xs i ∧ xs i < 2147483648) (hX : va_X b L (fun j => Int32.ofInt (xs j)) (kS κ) (kS κ).heap) (hbl : b < (kS κ).heap.size) (hbA : ¬ kA κ b) (hL : L < 2147483648) (hI : LI (kc κ) σ tg ad am S o d) (hj : 5 * j + 5 ≤ L) (hk : k + 300 ≤ (kR κ).cells) (hn : n + 8000 ≤ (kR κ).slots) (hB : LB κ b o d (ad 0) am j k n) : J κ σ [(0, .ref b), (1, .ref (ad 0)), (2, .ref (am 0)), (3, .ref o), (4, .ref d), (5, vi (5 * (j : Int)))] 2129 [] k n := by
  obtain ⟨a1, ha1⟩ : ∃ a, xs (5 * j + 1) = a := ⟨_, rfl⟩
  have r1 : -2147483648 ≤ a1 ∧ a1 < 2147483648 := by rw [← ha1]; exact hxs _
  obtain ⟨a2, ha2⟩ : ∃ a, xs (5 * j + 2) = a := ⟨_, rfl⟩
  have r2 : -2147483648 ≤ a2 ∧ a2 < 2147483648 := by rw [← ha2]; exact hxs _
  obtain ⟨a3, ha3⟩ : ∃ a, xs (5 * j + 3) = a := ⟨_, rfl⟩
  have r3 : -2147483648 ≤ a3 ∧ a3 < 2147483648 := by rw [← ha3]; exact hxs _
  obtain ⟨a4, ha4⟩ : ∃ a, xs (5 * j + 4) = a := ⟨_, rfl⟩
  have r4 : -2147483648 ≤ a4 ∧ a4 < 2147483648 := by rw [← ha4]; exact hxs _
  obtain ⟨bs, ru, se, pf, hd, ca, evs, ln⟩ := S
  have hX0 : RX (kc κ) σ tg ad bs ru se pf hd ca evs ln := hI.1
  have hO := hX0.ok
  obtain ⟨-, -, ⟨g0, hout⟩, ⟨f0, hdub⟩, ⟨to9, td9⟩, -⟩ := id hI
  refine j_aload_n 1 C dL_law_2129 rfl rfl rfl ?_
  obtain ⟨⟨x1, x2⟩, hBB, -, -, -, -⟩ := id hX0
  refine j_callV (st' := []) (As := []) C dL_law_2130 rfl m_L_219 x1 rfl rfl rfl (c_owned (kL κ) hfl (kD κ) (kc κ) σ tg ad 1 2 100 bs hBB (ad 0) (ad 3) (ad 5) (ad 7) (ad 10) (ad 11) (ad 13) ca x1) rfl (by omega) (by omega) (by omega) (fun _ _ hx => hx.elim) (fun v1 σ1 hp => ?_)
  obtain ⟨rfl, hs9⟩ := hp
  rw [hs9]
  have hR1 := hX0
  have hKK : Keep σ σ (fun y => tg y < 1000 ∨ y = o) := Keep.rf
  have hm1 : ∀ y, y ∈ σ.1 → y ∈ σ.1 := fun _ hy => hy
  obtain ⟨bl1, th1, hM1⟩ := hI.mod (Or.inl rfl) hKK
  have hf1 := hI.dbl hdub hKK
  have ho1 : has σ o (lA (kc κ) 1 g0) := hout
  show J κ σ [(0, .ref b), (1, .ref (ad 0)), (2, .ref (am 0)), (3, .ref o), (4, .ref d), (5, vi ((5 * (j : Int))))] 2133 [vi ((totB bs))] _ _
  refine j_aload_n 2 C dL_law_2133 rfl rfl rfl ?_
  obtain ⟨-, _, _, _, _, _, _, _, _, _, _, _, _, _, _, _, hrc, -⟩ := id hM1
  refine j_callV (st' := [vi ((totB bs))]) (As := []) C dL_law_2134 rfl m_L_222 hrc rfl rfl rfl (m_owned (kL κ) hfl (kD κ) (kc κ) σ am bs ru se pf hd ca evs ln bl1 th1 hM1) rfl (by omega) (by omega) (by omega) (fun _ _ hx => hx.elim) (fun v2 σ2 hp2 => ?_)
  obtain ⟨rfl, hM2, hK2, hd2⟩ := hp2
  have hM3 : RMs (kc κ) σ2 am (bs, ru, se, pf, hd, ca, evs, ln) bl1 0 := hM2
  obtain ⟨hI2, -, -⟩ := hI.mk2 (S1 := (bs, ru, se, pf, hd, ca, evs, ln)) (tg1 := tg) (ad1 := ad) hR1 (fun _ _ => rfl) ho1 hf1 hm1 hM3 hK2 hd2
  show J κ σ2 [(0, .ref b), (1, .ref (ad 0)), (2, .ref (am 0)), (3, .ref o), (4, .ref d), (5, vi ((5 * (j : Int))))] 2137 [vi ((totB bs)), vi ((totB bs))] _ _
  refine j_icmp_same (tgt := 2447) C dL_law_2137 rfl ?_
  refine j_locals (lv' := [(0, .ref b), (1, .ref (ad 0)), (2, .ref (am 0)), (3, .ref o), (4, .ref d), (5, vi ((5 * (j : Int))))]) [0, 1, 2, 3, 4, 5] rfl ?_
  exact hB _ _ _ _ _ _ hI2 rfl (by omega) (by omega)
set_option maxHeartbeats 8000000 in
set_option maxRecDepth 20000 in
theorem lc_29 {κ : Kx} {nmx : String} {b L j k n : Nat} {xs : Nat → Int} {σ : Wd} {tg ad am : Nat → Nat} {S : St} {o d : Nat} (C : Cx κ cL_law 9 RL nmx 9) (HN : Ncs (kS κ)) (hfl : (kL κ).stackTraces = false) (hxs : ∀ i : Nat, -2147483648 ≤ xs i ∧ xs i < 2147483648) (hX : va_X b L (fun j => Int32.ofInt (xs j)) (kS κ) (kS κ).heap) (hbl : b < (kS κ).heap.size) (hbA : ¬ kA κ b) (hL : L < 2147483648) (hI : LI (kc κ) σ tg ad am S o d) (hj : 5 * j + 5 ≤ L) (hk : k + 300 ≤ (kR κ).cells) (hn : n + 8000 ≤ (kR κ).slots) (hB : LB κ b o d (ad 0) am j k n) : J κ σ [(0, .ref b), (1, .ref (ad 0)), (2, .ref (am 0)), (3, .ref o), (4, .ref d), (5, vi (5 * (j : Int)))] 2142 [] k n := by
  obtain ⟨a1, ha1⟩ : ∃ a, xs (5 * j + 1) = a := ⟨_, rfl⟩
  have r1 : -2147483648 ≤ a1 ∧ a1 < 2147483648 := by rw [← ha1]; exact hxs _
  obtain ⟨a2, ha2⟩ : ∃ a, xs (5 * j + 2) = a := ⟨_, rfl⟩
  have r2 : -2147483648 ≤ a2 ∧ a2 < 2147483648 := by rw [← ha2]; exact hxs _
  obtain ⟨a3, ha3⟩ : ∃ a, xs (5 * j + 3) = a := ⟨_, rfl⟩
  have r3 : -2147483648 ≤ a3 ∧ a3 < 2147483648 := by rw [← ha3]; exact hxs _
  obtain ⟨a4, ha4⟩ : ∃ a, xs (5 * j + 4) = a := ⟨_, rfl⟩
  have r4 : -2147483648 ≤ a4 ∧ a4 < 2147483648 := by rw [← ha4]; exact hxs _
  obtain ⟨bs, ru, se, pf, hd, ca, evs, ln⟩ := S
  have hX0 : RX (kc κ) σ tg ad bs ru se pf hd ca evs ln := hI.1
  have hO := hX0.ok
  obtain ⟨-, -, ⟨g0, hout⟩, ⟨f0, hdub⟩, ⟨to9, td9⟩, -⟩ := id hI
  refine j_aload_n 1 C dL_law_2142 rfl rfl rfl ?_
  obtain ⟨⟨x1, x2⟩, hBB, -, -, -, -⟩ := id hX0
  refine j_callV (st' := []) (As := []) C dL_law_2143 rfl m_L_223 x1 rfl rfl rfl (c_tradeCount (kL κ) hfl (kD κ) (kc κ) σ tg ad bs ru se pf hd ca evs ln hX0) rfl (by omega) (by omega) (by omega) (fun _ _ hx => hx.elim) (fun v1 σ1 hp => ?_)
  obtain ⟨rfl, hs9⟩ := hp
  rw [hs9]
  have hR1 := hX0
  have hKK : Keep σ σ (fun y => tg y < 1000 ∨ y = o) := Keep.rf
  have hm1 : ∀ y, y ∈ σ.1 → y ∈ σ.1 := fun _ hy => hy
  obtain ⟨bl1, th1, hM1⟩ := hI.mod (Or.inl rfl) hKK
  have hf1 := hI.dbl hdub hKK
  have ho1 : has σ o (lA (kc κ) 1 g0) := hout
  show J κ σ [(0, .ref b), (1, .ref (ad 0)), (2, .ref (am 0)), (3, .ref o), (4, .ref d), (5, vi ((5 * (j : Int))))] 2146 [vi (hd.2.1)] _ _
  refine j_aload_n 2 C dL_law_2146 rfl rfl rfl ?_
  obtain ⟨-, _, _, _, _, _, _, _, _, _, _, _, _, _, _, _, hrc, -⟩ := id hM1
  refine j_callV (st' := [vi (hd.2.1)]) (As := []) C dL_law_2147 rfl m_L_226 hrc rfl rfl rfl (m_tradeCount (kL κ) hfl (kD κ) (kc κ) σ am bs ru se pf hd ca evs ln bl1 th1 hM1) rfl (by omega) (by omega) (by omega) (fun _ _ hx => hx.elim) (fun v2 σ2 hp2 => ?_)
  obtain ⟨rfl, hM2, hK2, hd2⟩ := hp2
  have hM3 : RMs (kc κ) σ2 am (bs, ru, se, pf, hd, ca, evs, ln) bl1 0 := hM2
  obtain ⟨hI2, -, -⟩ := hI.mk2 (S1 := (bs, ru, se, pf, hd, ca, evs, ln)) (tg1 := tg) (ad1 := ad) hR1 (fun _ _ => rfl) ho1 hf1 hm1 hM3 hK2 hd2
  show J κ σ2 [(0, .ref b), (1, .ref (ad 0)), (2, .ref (am 0)), (3, .ref o), (4, .ref d), (5, vi ((5 * (j : Int))))] 2150 [vi (hd.2.1), vi (hd.2.1)] _ _
  refine j_icmp_same (tgt := 2447) C dL_law_2150 rfl ?_
  refine j_locals (lv' := [(0, .ref b), (1, .ref (ad 0)), (2, .ref (am 0)), (3, .ref o), (4, .ref d), (5, vi ((5 * (j : Int))))]) [0, 1, 2, 3, 4, 5] rfl ?_
  exact hB _ _ _ _ _ _ hI2 rfl (by omega) (by omega)
set_option maxHeartbeats 8000000 in
set_option maxRecDepth 20000 in
theorem lc_30 {κ : Kx} {nmx : String} {b L j k n : Nat} {xs : Nat → Int} {σ : Wd} {tg ad am : Nat → Nat} {S : St} {o d : Nat} (C : Cx κ cL_law 9 RL nmx 9) (HN : Ncs (kS κ)) (hfl : (kL κ).stackTraces = false) (hxs : ∀ i : Nat, -2147483648 ≤ xs i ∧ xs i < 2147483648) (hX : va_X b L (fun j => Int32.ofInt (xs j)) (kS κ) (kS κ).heap) (hbl : b < (kS κ).heap.size) (hbA : ¬ kA κ b) (hL : L < 2147483648) (hI : LI (kc κ) σ tg ad am S o d) (hj : 5 * j + 5 ≤ L) (hk : k + 300 ≤ (kR κ).cells) (hn : n + 8000 ≤ (kR κ).slots) (hB : LB κ b o d (ad 0) am j k n) : J κ σ [(0, .ref b), (1, .ref (ad 0)), (2, .ref (am 0)), (3, .ref o), (4, .ref d), (5, vi (5 * (j : Int)))] 2155 [] k n := by
  obtain ⟨a1, ha1⟩ : ∃ a, xs (5 * j + 1) = a := ⟨_, rfl⟩
  have r1 : -2147483648 ≤ a1 ∧ a1 < 2147483648 := by rw [← ha1]; exact hxs _
  obtain ⟨a2, ha2⟩ : ∃ a, xs (5 * j + 2) = a := ⟨_, rfl⟩
  have r2 : -2147483648 ≤ a2 ∧ a2 < 2147483648 := by rw [← ha2]; exact hxs _
  obtain ⟨a3, ha3⟩ : ∃ a, xs (5 * j + 3) = a := ⟨_, rfl⟩
  have r3 : -2147483648 ≤ a3 ∧ a3 < 2147483648 := by rw [← ha3]; exact hxs _
  obtain ⟨a4, ha4⟩ : ∃ a, xs (5 * j + 4) = a := ⟨_, rfl⟩
  have r4 : -2147483648 ≤ a4 ∧ a4 < 2147483648 := by rw [← ha4]; exact hxs _
  obtain ⟨bs, ru, se, pf, hd, ca, evs, ln⟩ := S
  have hX0 : RX (kc κ) σ tg ad bs ru se pf hd ca evs ln := hI.1
  have hO := hX0.ok
  obtain ⟨-, -, ⟨g0, hout⟩, ⟨f0, hdub⟩, ⟨to9, td9⟩, -⟩ := id hI
  refine j_aload_n 1 C dL_law_2155 rfl rfl rfl ?_
  refine j_aload_n 0 C dL_law_2156 rfl rfl rfl ?_
  refine j_iload 5 C dL_law_2157 rfl rfl ?_
  refine j_iconst C dL_law_2159 rfl ?_
  refine j_iadd C dL_law_2160 rfl ?_
  refine j_sld C hX hbl hbA dL_law_2161 rfl ⟨by omega, by omega⟩ (by omega) (y := a1) (by rw [show (5 * (j : Int) + 1).toNat = 5 * j + 1 by omega]; exact ha1) ?_
  refine j_aload_n 3 C dL_law_2162 rfl rfl rfl ?_
  refine j_callSN (st' := []) (As := [.ref (ad 0), vi (a1), .ref o]) C HN dL_law_2163 rfl m_L_227 rfl rfl (W_tradeAt (kL κ) hfl (kD κ) (kc κ) σ tg ad bs ru se pf hd ca evs ln hX0 o g0 hout (by omega) a1 r1) rfl (by omega) (by omega) (by omega) (fun _ _ hx => hx.elim) (fun v1 σ1 hp => ?_)
  obtain ⟨rfl, ⟨tg1, ad1, hR1, hT1, ha01⟩, ⟨g1, ho1, hg1⟩, hK1, hm1⟩ := hp
  have hcr := cr_tradeAt bs ru se pf hd ca evs ln a1
  obtain ⟨O, hO9⟩ : ∃ O : Rs, o_tradeAt bs ru se pf hd ca evs ln a1 = O := ⟨_, rfl⟩
  show J κ σ1 [(0, .ref b), (1, .ref (ad 0)), (2, .ref (am 0)), (3, .ref o), (4, .ref d), (5, vi ((5 * (j : Int))))] 2166 [vi (o_tradeAt bs ru se pf hd ca evs ln a1).1] _ _
  rw [hO9] at hR1 hg1 hcr ⊢
  obtain ⟨bl1, th1, hM1⟩ := hI.mod (Or.inl rfl) hK1
  have hf1 := hI.dbl hdub hK1
  show J κ σ1 [(0, .ref b), (1, .ref (ad 0)), (2, .ref (am 0)), (3, .ref o), (4, .ref d), (5, vi ((5 * (j : Int))))] 2166 [vi (O.1)] _ _
  refine j_istore (lv' := [(0, .ref b), (1, .ref (ad 0)), (2, .ref (am 0)), (3, .ref o), (4, .ref d), (5, vi ((5 * (j : Int)))), (6, vi (O.1))]) [1, 2, 3, 4, 5, 6, 0] C dL_law_2166 rfl rfl rfl ?_
  refine j_aload_n 2 C dL_law_2168 rfl rfl rfl ?_
  refine j_aload_n 0 C dL_law_2169 rfl rfl rfl ?_
  refine j_iload 5 C dL_law_2170 rfl rfl ?_
  refine j_iconst C dL_law_2172 rfl ?_
  refine j_iadd C dL_law_2173 rfl ?_
  refine j_sld C hX hbl hbA dL_law_2174 rfl ⟨by omega, by omega⟩ (by omega) (y := a1) (by rw [show (5 * (j : Int) + 1).toNat = 5 * j + 1 by omega]; exact ha1) ?_
  obtain ⟨-, _, _, _, _, _, _, _, _, _, _, _, _, _, _, _, hrc, -⟩ := id hM1
  refine j_callV (st' := []) (As := [vi (a1)]) C dL_law_2175 rfl m_L_229 hrc rfl rfl rfl (m_tradeAt (kL κ) hfl (kD κ) (kc κ) σ1 am bs ru se pf hd ca evs ln bl1 th1 hM1 a1 r1) rfl (by omega) (by omega) (by omega) (fun _ _ hx => hx.elim) (fun v2 σ2 hp2 => ?_)
  obtain ⟨rz, rfl, hrz, ⟨bl2, hM2⟩, hK2, hd2⟩ := hp2
  rw [hO9] at hrz hM2
  obtain ⟨hI2, ho2, hf2⟩ := hI.mk2 hR1 hT1 ho1 hf1 hm1 hM2 hK2 hd2
  show J κ σ2 [(0, .ref b), (1, .ref (ad 0)), (2, .ref (am 0)), (3, .ref o), (4, .ref d), (5, vi ((5 * (j : Int)))), (6, vi (O.1))] 2178 [vi (rz)] _ _
  refine j_istore (lv' := [(0, .ref b), (1, .ref (ad 0)), (2, .ref (am 0)), (3, .ref o), (4, .ref d), (5, vi ((5 * (j : Int)))), (6, vi (O.1)), (7, vi (rz))]) [1, 2, 3, 4, 5, 6, 7, 0] C dL_law_2178 rfl rfl rfl ?_
  refine j_aload_n 2 C dL_law_2180 rfl rfl rfl ?_
  obtain ⟨-, _, _, _, _, _, _, _, _, _, _, _, _, _, _, _, hrc, -⟩ := id hM2
  refine j_callV (st' := []) (As := []) C dL_law_2181 rfl m_L_127 hrc rfl rfl rfl (m_thrown (kL κ) hfl (kD κ) (kc κ) σ2 am _ _ _ _ _ _ _ _ bl2 O.1 hM2) rfl (by omega) (by omega) (by omega) (fun _ _ hx => hx.elim) (fun v3 σ3 hp3 => ?_)
  obtain ⟨rfl, hs9⟩ := hp3
  replace hs9 := hs9.symm
  subst hs9
  show J κ σ2 [(0, .ref b), (1, .ref (ad 0)), (2, .ref (am 0)), (3, .ref o), (4, .ref d), (5, vi ((5 * (j : Int)))), (6, vi (O.1)), (7, vi (rz))] 2184 [vi (O.1)] _ _
  refine j_iload 6 C dL_law_2184 rfl rfl ?_
  refine j_icmp_same (tgt := 2191) C dL_law_2186 rfl ?_
  refine j_iload 6 C dL_law_2191 rfl rfl ?_
  refine j_if_ne (tgt := 2208) C dL_law_2193 rfl rfl ⟨by omega, by omega⟩ (fun cc1 => ?_) (fun cc1 => ?_)
  · refine j_goto (tgt := 2447) C dL_law_2208 rfl ?_
    refine j_locals (lv' := [(0, .ref b), (1, .ref (ad 0)), (2, .ref (am 0)), (3, .ref o), (4, .ref d), (5, vi ((5 * (j : Int))))]) [0, 1, 2, 3, 4, 5] rfl ?_
    exact hB _ _ _ _ _ _ hI2 ha01 (by omega) (by omega)
  · have e8 : vi rz = vi (w32 O.2.1) := by rw [hrz cc1]; exact vi_w _
    rw [e8]
    refine j_aload_n 3 C dL_law_2196 rfl rfl rfl ?_
    refine j_iconst C dL_law_2197 rfl ?_
    refine j_lald C dL_law_2198 rfl ho2 ⟨by decide, by decide⟩ (by decide) (y := w32 O.2.1) (hg1 cc1) ?_
    refine j_iload 7 C dL_law_2199 rfl rfl ?_
    refine j_i2l C dL_law_2201 rfl (w32_in _) ?_
    refine j_lcmp_same C dL_law_2202 rfl ?_
    refine j_if_eq (tgt := 2208) C dL_law_2203 rfl rfl ⟨by decide, by decide⟩ (fun _ => ?_) (fun cc => absurd cc (by decide))
    refine j_goto (tgt := 2447) C dL_law_2208 rfl ?_
    refine j_locals (lv' := [(0, .ref b), (1, .ref (ad 0)), (2, .ref (am 0)), (3, .ref o), (4, .ref d), (5, vi ((5 * (j : Int))))]) [0, 1, 2, 3, 4, 5] rfl ?_
    exact hB _ _ _ _ _ _ hI2 ha01 (by omega) (by omega)
set_option maxHeartbeats 8000000 in
set_option maxRecDepth 20000 in
theorem lc_31 {κ : Kx} {nmx : String} {b L j k n : Nat} {xs : Nat → Int} {σ : Wd} {tg ad am : Nat → Nat} {S : St} {o d : Nat} (C : Cx κ cL_law 9 RL nmx 9) (HN : Ncs (kS κ)) (hfl : (kL κ).stackTraces = false) (hxs : ∀ i : Nat, -2147483648 ≤ xs i ∧ xs i < 2147483648) (hX : va_X b L (fun j => Int32.ofInt (xs j)) (kS κ) (kS κ).heap) (hbl : b < (kS κ).heap.size) (hbA : ¬ kA κ b) (hL : L < 2147483648) (hI : LI (kc κ) σ tg ad am S o d) (hj : 5 * j + 5 ≤ L) (hk : k + 300 ≤ (kR κ).cells) (hn : n + 8000 ≤ (kR κ).slots) (hB : LB κ b o d (ad 0) am j k n) : J κ σ [(0, .ref b), (1, .ref (ad 0)), (2, .ref (am 0)), (3, .ref o), (4, .ref d), (5, vi (5 * (j : Int)))] 2211 [] k n := by
  obtain ⟨a1, ha1⟩ : ∃ a, xs (5 * j + 1) = a := ⟨_, rfl⟩
  have r1 : -2147483648 ≤ a1 ∧ a1 < 2147483648 := by rw [← ha1]; exact hxs _
  obtain ⟨a2, ha2⟩ : ∃ a, xs (5 * j + 2) = a := ⟨_, rfl⟩
  have r2 : -2147483648 ≤ a2 ∧ a2 < 2147483648 := by rw [← ha2]; exact hxs _
  obtain ⟨a3, ha3⟩ : ∃ a, xs (5 * j + 3) = a := ⟨_, rfl⟩
  have r3 : -2147483648 ≤ a3 ∧ a3 < 2147483648 := by rw [← ha3]; exact hxs _
  obtain ⟨a4, ha4⟩ : ∃ a, xs (5 * j + 4) = a := ⟨_, rfl⟩
  have r4 : -2147483648 ≤ a4 ∧ a4 < 2147483648 := by rw [← ha4]; exact hxs _
  obtain ⟨bs, ru, se, pf, hd, ca, evs, ln⟩ := S
  have hX0 : RX (kc κ) σ tg ad bs ru se pf hd ca evs ln := hI.1
  have hO := hX0.ok
  obtain ⟨-, -, ⟨g0, hout⟩, ⟨f0, hdub⟩, ⟨to9, td9⟩, -⟩ := id hI
  refine j_aload_n 1 C dL_law_2211 rfl rfl rfl ?_
  obtain ⟨⟨x1, x2⟩, hBB, -, -, -, -⟩ := id hX0
  refine j_callV (st' := []) (As := []) C dL_law_2212 rfl m_L_230 x1 rfl rfl rfl (c_gain (kL κ) hfl (kD κ) (kc κ) σ tg ad bs ru se pf hd ca evs ln hX0) rfl (by omega) (by omega) (by omega) (fun _ _ hx => hx.elim) (fun v1 σ1 hp => ?_)
  obtain ⟨rfl, hs9⟩ := hp
  rw [hs9]
  have hR1 := hX0
  have hKK : Keep σ σ (fun y => tg y < 1000 ∨ y = o) := Keep.rf
  have hm1 : ∀ y, y ∈ σ.1 → y ∈ σ.1 := fun _ hy => hy
  obtain ⟨bl1, th1, hM1⟩ := hI.mod (Or.inl rfl) hKK
  have hf1 := hI.dbl hdub hKK
  have ho1 : has σ o (lA (kc κ) 1 g0) := hout
  show J κ σ [(0, .ref b), (1, .ref (ad 0)), (2, .ref (am 0)), (3, .ref o), (4, .ref d), (5, vi ((5 * (j : Int))))] 2215 [vl (hd.2.2.2.2)] _ _
  refine j_aload_n 2 C dL_law_2215 rfl rfl rfl ?_
  obtain ⟨-, _, _, _, _, _, _, _, _, _, _, _, _, _, _, _, hrc, -⟩ := id hM1
  refine j_callV (st' := [vl (hd.2.2.2.2)]) (As := []) C dL_law_2216 rfl m_L_234 hrc rfl rfl rfl (m_gain (kL κ) hfl (kD κ) (kc κ) σ am bs ru se pf hd ca evs ln bl1 th1 hM1) rfl (by omega) (by omega) (by omega) (fun _ _ hx => hx.elim) (fun v2 σ2 hp2 => ?_)
  obtain ⟨rfl, hM2, hK2, hd2⟩ := hp2
  have hM3 : RMs (kc κ) σ2 am (bs, ru, se, pf, hd, ca, evs, ln) bl1 0 := hM2
  obtain ⟨hI2, -, -⟩ := hI.mk2 (S1 := (bs, ru, se, pf, hd, ca, evs, ln)) (tg1 := tg) (ad1 := ad) hR1 (fun _ _ => rfl) ho1 hf1 hm1 hM3 hK2 hd2
  show J κ σ2 [(0, .ref b), (1, .ref (ad 0)), (2, .ref (am 0)), (3, .ref o), (4, .ref d), (5, vi ((5 * (j : Int))))] 2219 [vl (hd.2.2.2.2), vl (hd.2.2.2.2)] _ _
  refine j_lcmp_same C dL_law_2219 rfl ?_
  refine j_if_eq (tgt := 2447) C dL_law_2220 rfl rfl ⟨by decide, by decide⟩ (fun _ => ?_) (fun cc => absurd cc (by decide))
  refine j_locals (lv' := [(0, .ref b), (1, .ref (ad 0)), (2, .ref (am 0)), (3, .ref o), (4, .ref d), (5, vi ((5 * (j : Int))))]) [0, 1, 2, 3, 4, 5] rfl ?_
  exact hB _ _ _ _ _ _ hI2 rfl (by omega) (by omega)
set_option maxHeartbeats 8000000 in
set_option maxRecDepth 20000 in
theorem lc_32 {κ : Kx} {nmx : String} {b L j k n : Nat} {xs : Nat → Int} {σ : Wd} {tg ad am : Nat → Nat} {S : St} {o d : Nat} (C : Cx κ cL_law 9 RL nmx 9) (HN : Ncs (kS κ)) (hfl : (kL κ).stackTraces = false) (hxs : ∀ i : Nat, -2147483648 ≤ xs i ∧ xs i < 2147483648) (hX : va_X b L (fun j => Int32.ofInt (xs j)) (kS κ) (kS κ).heap) (hbl : b < (kS κ).heap.size) (hbA : ¬ kA κ b) (hL : L < 2147483648) (hI : LI (kc κ) σ tg ad am S o d) (hj : 5 * j + 5 ≤ L) (hk : k + 300 ≤ (kR κ).cells) (hn : n + 8000 ≤ (kR κ).slots) (hB : LB κ b o d (ad 0) am j k n) : J κ σ [(0, .ref b), (1, .ref (ad 0)), (2, .ref (am 0)), (3, .ref o), (4, .ref d), (5, vi (5 * (j : Int)))] 2225 [] k n := by
  obtain ⟨a1, ha1⟩ : ∃ a, xs (5 * j + 1) = a := ⟨_, rfl⟩
  have r1 : -2147483648 ≤ a1 ∧ a1 < 2147483648 := by rw [← ha1]; exact hxs _
  obtain ⟨a2, ha2⟩ : ∃ a, xs (5 * j + 2) = a := ⟨_, rfl⟩
  have r2 : -2147483648 ≤ a2 ∧ a2 < 2147483648 := by rw [← ha2]; exact hxs _
  obtain ⟨a3, ha3⟩ : ∃ a, xs (5 * j + 3) = a := ⟨_, rfl⟩
  have r3 : -2147483648 ≤ a3 ∧ a3 < 2147483648 := by rw [← ha3]; exact hxs _
  obtain ⟨a4, ha4⟩ : ∃ a, xs (5 * j + 4) = a := ⟨_, rfl⟩
  have r4 : -2147483648 ≤ a4 ∧ a4 < 2147483648 := by rw [← ha4]; exact hxs _
  obtain ⟨bs, ru, se, pf, hd, ca, evs, ln⟩ := S
  have hX0 : RX (kc κ) σ tg ad bs ru se pf hd ca evs ln := hI.1
  have hO := hX0.ok
  obtain ⟨-, -, ⟨g0, hout⟩, ⟨f0, hdub⟩, ⟨to9, td9⟩, -⟩ := id hI
  refine j_aload_n 1 C dL_law_2225 rfl rfl rfl ?_
  obtain ⟨⟨x1, x2⟩, hBB, -, -, -, -⟩ := id hX0
  refine j_callV (st' := []) (As := []) C dL_law_2226 rfl m_L_235 x1 rfl rfl rfl (c_cash (kL κ) hfl (kD κ) (kc κ) σ tg ad bs ru se pf hd ca evs ln hX0) rfl (by omega) (by omega) (by omega) (fun _ _ hx => hx.elim) (fun v1 σ1 hp => ?_)
  obtain ⟨rfl, hs9⟩ := hp
  rw [hs9]
  have hR1 := hX0
  have hKK : Keep σ σ (fun y => tg y < 1000 ∨ y = o) := Keep.rf
  have hm1 : ∀ y, y ∈ σ.1 → y ∈ σ.1 := fun _ hy => hy
  obtain ⟨bl1, th1, hM1⟩ := hI.mod (Or.inl rfl) hKK
  have hf1 := hI.dbl hdub hKK
  have ho1 : has σ o (lA (kc κ) 1 g0) := hout
  show J κ σ [(0, .ref b), (1, .ref (ad 0)), (2, .ref (am 0)), (3, .ref o), (4, .ref d), (5, vi ((5 * (j : Int))))] 2229 [vl (ca)] _ _
  refine j_aload_n 2 C dL_law_2229 rfl rfl rfl ?_
  obtain ⟨-, _, _, _, _, _, _, _, _, _, _, _, _, _, _, _, hrc, -⟩ := id hM1
  refine j_callV (st' := [vl (ca)]) (As := []) C dL_law_2230 rfl m_L_238 hrc rfl rfl rfl (m_cash (kL κ) hfl (kD κ) (kc κ) σ am bs ru se pf hd ca evs ln bl1 th1 hM1) rfl (by omega) (by omega) (by omega) (fun _ _ hx => hx.elim) (fun v2 σ2 hp2 => ?_)
  obtain ⟨rfl, hM2, hK2, hd2⟩ := hp2
  have hM3 : RMs (kc κ) σ2 am (bs, ru, se, pf, hd, ca, evs, ln) bl1 0 := hM2
  obtain ⟨hI2, -, -⟩ := hI.mk2 (S1 := (bs, ru, se, pf, hd, ca, evs, ln)) (tg1 := tg) (ad1 := ad) hR1 (fun _ _ => rfl) ho1 hf1 hm1 hM3 hK2 hd2
  show J κ σ2 [(0, .ref b), (1, .ref (ad 0)), (2, .ref (am 0)), (3, .ref o), (4, .ref d), (5, vi ((5 * (j : Int))))] 2233 [vl (ca), vl (ca)] _ _
  refine j_lcmp_same C dL_law_2233 rfl ?_
  refine j_if_eq (tgt := 2447) C dL_law_2234 rfl rfl ⟨by decide, by decide⟩ (fun _ => ?_) (fun cc => absurd cc (by decide))
  refine j_locals (lv' := [(0, .ref b), (1, .ref (ad 0)), (2, .ref (am 0)), (3, .ref o), (4, .ref d), (5, vi ((5 * (j : Int))))]) [0, 1, 2, 3, 4, 5] rfl ?_
  exact hB _ _ _ _ _ _ hI2 rfl (by omega) (by omega)
set_option maxHeartbeats 8000000 in
set_option maxRecDepth 20000 in
theorem lc_33 {κ : Kx} {nmx : String} {b L j k n : Nat} {xs : Nat → Int} {σ : Wd} {tg ad am : Nat → Nat} {S : St} {o d : Nat} (C : Cx κ cL_law 9 RL nmx 9) (HN : Ncs (kS κ)) (hfl : (kL κ).stackTraces = false) (hxs : ∀ i : Nat, -2147483648 ≤ xs i ∧ xs i < 2147483648) (hX : va_X b L (fun j => Int32.ofInt (xs j)) (kS κ) (kS κ).heap) (hbl : b < (kS κ).heap.size) (hbA : ¬ kA κ b) (hL : L < 2147483648) (hI : LI (kc κ) σ tg ad am S o d) (hj : 5 * j + 5 ≤ L) (hk : k + 300 ≤ (kR κ).cells) (hn : n + 8000 ≤ (kR κ).slots) (hB : LB κ b o d (ad 0) am j k n) : J κ σ [(0, .ref b), (1, .ref (ad 0)), (2, .ref (am 0)), (3, .ref o), (4, .ref d), (5, vi (5 * (j : Int)))] 2239 [] k n := by
  obtain ⟨a1, ha1⟩ : ∃ a, xs (5 * j + 1) = a := ⟨_, rfl⟩
  have r1 : -2147483648 ≤ a1 ∧ a1 < 2147483648 := by rw [← ha1]; exact hxs _
  obtain ⟨a2, ha2⟩ : ∃ a, xs (5 * j + 2) = a := ⟨_, rfl⟩
  have r2 : -2147483648 ≤ a2 ∧ a2 < 2147483648 := by rw [← ha2]; exact hxs _
  obtain ⟨a3, ha3⟩ : ∃ a, xs (5 * j + 3) = a := ⟨_, rfl⟩
  have r3 : -2147483648 ≤ a3 ∧ a3 < 2147483648 := by rw [← ha3]; exact hxs _
  obtain ⟨a4, ha4⟩ : ∃ a, xs (5 * j + 4) = a := ⟨_, rfl⟩
  have r4 : -2147483648 ≤ a4 ∧ a4 < 2147483648 := by rw [← ha4]; exact hxs _
  obtain ⟨bs, ru, se, pf, hd, ca, evs, ln⟩ := S
  have hX0 : RX (kc κ) σ tg ad bs ru se pf hd ca evs ln := hI.1
  have hO := hX0.ok
  obtain ⟨-, -, ⟨g0, hout⟩, ⟨f0, hdub⟩, ⟨to9, td9⟩, -⟩ := id hI
  refine j_aload_n 1 C dL_law_2239 rfl rfl rfl ?_
  obtain ⟨⟨x1, x2⟩, hBB, -, -, -, -⟩ := id hX0
  refine j_callV (st' := []) (As := []) C dL_law_2240 rfl m_L_239 x1 rfl rfl rfl (c_worth (kL κ) hfl (kD κ) (kc κ) σ tg ad bs ru se pf hd ca evs ln hX0) rfl (by omega) (by omega) (by omega) (fun _ _ hx => hx.elim) (fun v1 σ1 hp => ?_)
  obtain ⟨rfl, hK1⟩ := hp
  have hR1 := hX0.keep0 hK1
  have hKK : Keep σ σ1 (fun y => tg y < 1000 ∨ y = o) := hK1.mono (fun _ z => z.elim)
  have hm1 : ∀ y, y ∈ σ.1 → y ∈ σ1.1 := fun y hy => hK1.mem hy (fun z => z)
  obtain ⟨bl1, th1, hM1⟩ := hI.mod (Or.inl rfl) hKK
  have hf1 := hI.dbl hdub hKK
  have ho1 : has σ1 o (lA (kc κ) 1 g0) := hK1 _ _ hout (fun z => z)
  show J κ σ1 [(0, .ref b), (1, .ref (ad 0)), (2, .ref (am 0)), (3, .ref o), (4, .ref d), (5, vi ((5 * (j : Int))))] 2243 [vl ((costB pf bs))] _ _
  refine j_aload_n 2 C dL_law_2243 rfl rfl rfl ?_
  obtain ⟨-, _, _, _, _, _, _, _, _, _, _, _, _, _, _, _, hrc, -⟩ := id hM1
  refine j_callV (st' := [vl ((costB pf bs))]) (As := []) C dL_law_2244 rfl m_L_242 hrc rfl rfl rfl (m_worth (kL κ) hfl (kD κ) (kc κ) σ1 am bs ru se pf hd ca evs ln bl1 th1 hM1 hO) rfl (by omega) (by omega) (by omega) (fun _ _ hx => hx.elim) (fun v2 σ2 hp2 => ?_)
  obtain ⟨rfl, hM2, hK2, hd2⟩ := hp2
  have hM3 : RMs (kc κ) σ2 am (bs, ru, se, pf, hd, ca, evs, ln) bl1 0 := hM2
  obtain ⟨hI2, -, -⟩ := hI.mk2 (S1 := (bs, ru, se, pf, hd, ca, evs, ln)) (tg1 := tg) (ad1 := ad) hR1 (fun _ _ => rfl) ho1 hf1 hm1 hM3 hK2 hd2
  show J κ σ2 [(0, .ref b), (1, .ref (ad 0)), (2, .ref (am 0)), (3, .ref o), (4, .ref d), (5, vi ((5 * (j : Int))))] 2247 [vl ((costB pf bs)), vl ((costB pf bs))] _ _
  refine j_lcmp_same C dL_law_2247 rfl ?_
  refine j_if_eq (tgt := 2447) C dL_law_2248 rfl rfl ⟨by decide, by decide⟩ (fun _ => ?_) (fun cc => absurd cc (by decide))
  refine j_locals (lv' := [(0, .ref b), (1, .ref (ad 0)), (2, .ref (am 0)), (3, .ref o), (4, .ref d), (5, vi ((5 * (j : Int))))]) [0, 1, 2, 3, 4, 5] rfl ?_
  exact hB _ _ _ _ _ _ hI2 rfl (by omega) (by omega)
set_option maxHeartbeats 8000000 in
set_option maxRecDepth 20000 in
theorem lc_34 {κ : Kx} {nmx : String} {b L j k n : Nat} {xs : Nat → Int} {σ : Wd} {tg ad am : Nat → Nat} {S : St} {o d : Nat} (C : Cx κ cL_law 9 RL nmx 9) (HN : Ncs (kS κ)) (hfl : (kL κ).stackTraces = false) (hxs : ∀ i : Nat, -2147483648 ≤ xs i ∧ xs i < 2147483648) (hX : va_X b L (fun j => Int32.ofInt (xs j)) (kS κ) (kS κ).heap) (hbl : b < (kS κ).heap.size) (hbA : ¬ kA κ b) (hL : L < 2147483648) (hI : LI (kc κ) σ tg ad am S o d) (hj : 5 * j + 5 ≤ L) (hk : k + 300 ≤ (kR κ).cells) (hn : n + 8000 ≤ (kR κ).slots) (hB : LB κ b o d (ad 0) am j k n) : J κ σ [(0, .ref b), (1, .ref (ad 0)), (2, .ref (am 0)), (3, .ref o), (4, .ref d), (5, vi (5 * (j : Int)))] 2253 [] k n := by
  obtain ⟨a1, ha1⟩ : ∃ a, xs (5 * j + 1) = a := ⟨_, rfl⟩
  have r1 : -2147483648 ≤ a1 ∧ a1 < 2147483648 := by rw [← ha1]; exact hxs _
  obtain ⟨a2, ha2⟩ : ∃ a, xs (5 * j + 2) = a := ⟨_, rfl⟩
  have r2 : -2147483648 ≤ a2 ∧ a2 < 2147483648 := by rw [← ha2]; exact hxs _
  obtain ⟨a3, ha3⟩ : ∃ a, xs (5 * j + 3) = a := ⟨_, rfl⟩
  have r3 : -2147483648 ≤ a3 ∧ a3 < 2147483648 := by rw [← ha3]; exact hxs _
  obtain ⟨a4, ha4⟩ : ∃ a, xs (5 * j + 4) = a := ⟨_, rfl⟩
  have r4 : -2147483648 ≤ a4 ∧ a4 < 2147483648 := by rw [← ha4]; exact hxs _
  obtain ⟨bs, ru, se, pf, hd, ca, evs, ln⟩ := S
  have hX0 : RX (kc κ) σ tg ad bs ru se pf hd ca evs ln := hI.1
  have hO := hX0.ok
  obtain ⟨-, -, ⟨g0, hout⟩, ⟨f0, hdub⟩, ⟨to9, td9⟩, -⟩ := id hI
  refine j_aload_n 1 C dL_law_2253 rfl rfl rfl ?_
  obtain ⟨⟨x1, x2⟩, hBB, -, -, -, -⟩ := id hX0
  refine j_callV (st' := []) (As := []) C dL_law_2254 rfl m_L_243 x1 rfl rfl rfl (c_eventCount (kL κ) hfl (kD κ) (kc κ) σ tg ad bs ru se pf hd ca evs ln hX0) rfl (by omega) (by omega) (by omega) (fun _ _ hx => hx.elim) (fun v1 σ1 hp => ?_)
  obtain ⟨rfl, hs9⟩ := hp
  rw [hs9]
  have hR1 := hX0
  have hKK : Keep σ σ (fun y => tg y < 1000 ∨ y = o) := Keep.rf
  have hm1 : ∀ y, y ∈ σ.1 → y ∈ σ.1 := fun _ hy => hy
  obtain ⟨bl1, th1, hM1⟩ := hI.mod (Or.inl rfl) hKK
  have hf1 := hI.dbl hdub hKK
  have ho1 : has σ o (lA (kc κ) 1 g0) := hout
  show J κ σ [(0, .ref b), (1, .ref (ad 0)), (2, .ref (am 0)), (3, .ref o), (4, .ref d), (5, vi ((5 * (j : Int))))] 2257 [vi ((evs.length : Int))] _ _
  refine j_aload_n 2 C dL_law_2257 rfl rfl rfl ?_
  obtain ⟨-, _, _, _, _, _, _, _, _, _, _, _, _, _, _, _, hrc, -⟩ := id hM1
  refine j_callV (st' := [vi ((evs.length : Int))]) (As := []) C dL_law_2258 rfl m_L_246 hrc rfl rfl rfl (m_eventCount (kL κ) hfl (kD κ) (kc κ) σ am bs ru se pf hd ca evs ln bl1 th1 hM1) rfl (by omega) (by omega) (by omega) (fun _ _ hx => hx.elim) (fun v2 σ2 hp2 => ?_)
  obtain ⟨rfl, hM2, hK2, hd2⟩ := hp2
  have hM3 : RMs (kc κ) σ2 am (bs, ru, se, pf, hd, ca, evs, ln) bl1 0 := hM2
  obtain ⟨hI2, -, -⟩ := hI.mk2 (S1 := (bs, ru, se, pf, hd, ca, evs, ln)) (tg1 := tg) (ad1 := ad) hR1 (fun _ _ => rfl) ho1 hf1 hm1 hM3 hK2 hd2
  show J κ σ2 [(0, .ref b), (1, .ref (ad 0)), (2, .ref (am 0)), (3, .ref o), (4, .ref d), (5, vi ((5 * (j : Int))))] 2261 [vi ((evs.length : Int)), vi ((evs.length : Int))] _ _
  refine j_icmp_same (tgt := 2447) C dL_law_2261 rfl ?_
  refine j_locals (lv' := [(0, .ref b), (1, .ref (ad 0)), (2, .ref (am 0)), (3, .ref o), (4, .ref d), (5, vi ((5 * (j : Int))))]) [0, 1, 2, 3, 4, 5] rfl ?_
  exact hB _ _ _ _ _ _ hI2 rfl (by omega) (by omega)
set_option maxHeartbeats 8000000 in
set_option maxRecDepth 20000 in
theorem lc_35 {κ : Kx} {nmx : String} {b L j k n : Nat} {xs : Nat → Int} {σ : Wd} {tg ad am : Nat → Nat} {S : St} {o d : Nat} (C : Cx κ cL_law 9 RL nmx 9) (HN : Ncs (kS κ)) (hfl : (kL κ).stackTraces = false) (hxs : ∀ i : Nat, -2147483648 ≤ xs i ∧ xs i < 2147483648) (hX : va_X b L (fun j => Int32.ofInt (xs j)) (kS κ) (kS κ).heap) (hbl : b < (kS κ).heap.size) (hbA : ¬ kA κ b) (hL : L < 2147483648) (hI : LI (kc κ) σ tg ad am S o d) (hj : 5 * j + 5 ≤ L) (hk : k + 300 ≤ (kR κ).cells) (hn : n + 8000 ≤ (kR κ).slots) (hB : LB κ b o d (ad 0) am j k n) : J κ σ [(0, .ref b), (1, .ref (ad 0)), (2, .ref (am 0)), (3, .ref o), (4, .ref d), (5, vi (5 * (j : Int)))] 2266 [] k n := by
  obtain ⟨a1, ha1⟩ : ∃ a, xs (5 * j + 1) = a := ⟨_, rfl⟩
  have r1 : -2147483648 ≤ a1 ∧ a1 < 2147483648 := by rw [← ha1]; exact hxs _
  obtain ⟨a2, ha2⟩ : ∃ a, xs (5 * j + 2) = a := ⟨_, rfl⟩
  have r2 : -2147483648 ≤ a2 ∧ a2 < 2147483648 := by rw [← ha2]; exact hxs _
  obtain ⟨a3, ha3⟩ : ∃ a, xs (5 * j + 3) = a := ⟨_, rfl⟩
  have r3 : -2147483648 ≤ a3 ∧ a3 < 2147483648 := by rw [← ha3]; exact hxs _
  obtain ⟨a4, ha4⟩ : ∃ a, xs (5 * j + 4) = a := ⟨_, rfl⟩
  have r4 : -2147483648 ≤ a4 ∧ a4 < 2147483648 := by rw [← ha4]; exact hxs _
  obtain ⟨bs, ru, se, pf, hd, ca, evs, ln⟩ := S
  have hX0 : RX (kc κ) σ tg ad bs ru se pf hd ca evs ln := hI.1
  have hO := hX0.ok
  obtain ⟨-, -, ⟨g0, hout⟩, ⟨f0, hdub⟩, ⟨to9, td9⟩, -⟩ := id hI
  refine j_aload_n 1 C dL_law_2266 rfl rfl rfl ?_
  refine j_aload_n 0 C dL_law_2267 rfl rfl rfl ?_
  refine j_iload 5 C dL_law_2268 rfl rfl ?_
  refine j_iconst C dL_law_2270 rfl ?_
  refine j_iadd C dL_law_2271 rfl ?_
  refine j_sld C hX hbl hbA dL_law_2272 rfl ⟨by omega, by omega⟩ (by omega) (y := a1) (by rw [show (5 * (j : Int) + 1).toNat = 5 * j + 1 by omega]; exact ha1) ?_
  refine j_aload_n 3 C dL_law_2273 rfl rfl rfl ?_
  refine j_callSN (st' := []) (As := [.ref (ad 0), vi (a1), .ref o]) C HN dL_law_2274 rfl m_L_247 rfl rfl (W_eventKind (kL κ) hfl (kD κ) (kc κ) σ tg ad bs ru se pf hd ca evs ln hX0 o g0 hout (by omega) a1 r1) rfl (by omega) (by omega) (by omega) (fun _ _ hx => hx.elim) (fun v1 σ1 hp => ?_)
  obtain ⟨rfl, ⟨tg1, ad1, hR1, hT1, ha01⟩, ⟨g1, ho1, hg1⟩, hK1, hm1⟩ := hp
  have hcr := cr_eventKind bs ru se pf hd ca evs ln a1
  obtain ⟨O, hO9⟩ : ∃ O : Rs, o_eventKind bs ru se pf hd ca evs ln a1 = O := ⟨_, rfl⟩
  show J κ σ1 [(0, .ref b), (1, .ref (ad 0)), (2, .ref (am 0)), (3, .ref o), (4, .ref d), (5, vi ((5 * (j : Int))))] 2277 [vi (o_eventKind bs ru se pf hd ca evs ln a1).1] _ _
  rw [hO9] at hR1 hg1 hcr ⊢
  obtain ⟨bl1, th1, hM1⟩ := hI.mod (Or.inl rfl) hK1
  have hf1 := hI.dbl hdub hK1
  show J κ σ1 [(0, .ref b), (1, .ref (ad 0)), (2, .ref (am 0)), (3, .ref o), (4, .ref d), (5, vi ((5 * (j : Int))))] 2277 [vi (O.1)] _ _
  refine j_istore (lv' := [(0, .ref b), (1, .ref (ad 0)), (2, .ref (am 0)), (3, .ref o), (4, .ref d), (5, vi ((5 * (j : Int)))), (6, vi (O.1))]) [1, 2, 3, 4, 5, 6, 0] C dL_law_2277 rfl rfl rfl ?_
  refine j_aload_n 2 C dL_law_2279 rfl rfl rfl ?_
  refine j_aload_n 0 C dL_law_2280 rfl rfl rfl ?_
  refine j_iload 5 C dL_law_2281 rfl rfl ?_
  refine j_iconst C dL_law_2283 rfl ?_
  refine j_iadd C dL_law_2284 rfl ?_
  refine j_sld C hX hbl hbA dL_law_2285 rfl ⟨by omega, by omega⟩ (by omega) (y := a1) (by rw [show (5 * (j : Int) + 1).toNat = 5 * j + 1 by omega]; exact ha1) ?_
  obtain ⟨-, _, _, _, _, _, _, _, _, _, _, _, _, _, _, _, hrc, -⟩ := id hM1
  refine j_callV (st' := []) (As := [vi (a1)]) C dL_law_2286 rfl m_L_249 hrc rfl rfl rfl (m_eventKind (kL κ) hfl (kD κ) (kc κ) σ1 am bs ru se pf hd ca evs ln bl1 th1 hM1 a1 r1) rfl (by omega) (by omega) (by omega) (fun _ _ hx => hx.elim) (fun v2 σ2 hp2 => ?_)
  obtain ⟨rz, rfl, hrz, ⟨bl2, hM2⟩, hK2, hd2⟩ := hp2
  rw [hO9] at hrz hM2
  obtain ⟨hI2, ho2, hf2⟩ := hI.mk2 hR1 hT1 ho1 hf1 hm1 hM2 hK2 hd2
  show J κ σ2 [(0, .ref b), (1, .ref (ad 0)), (2, .ref (am 0)), (3, .ref o), (4, .ref d), (5, vi ((5 * (j : Int)))), (6, vi (O.1))] 2289 [vi (rz)] _ _
  refine j_istore (lv' := [(0, .ref b), (1, .ref (ad 0)), (2, .ref (am 0)), (3, .ref o), (4, .ref d), (5, vi ((5 * (j : Int)))), (6, vi (O.1)), (7, vi (rz))]) [1, 2, 3, 4, 5, 6, 7, 0] C dL_law_2289 rfl rfl rfl ?_
  refine j_aload_n 2 C dL_law_2291 rfl rfl rfl ?_
  obtain ⟨-, _, _, _, _, _, _, _, _, _, _, _, _, _, _, _, hrc, -⟩ := id hM2
  refine j_callV (st' := []) (As := []) C dL_law_2292 rfl m_L_127 hrc rfl rfl rfl (m_thrown (kL κ) hfl (kD κ) (kc κ) σ2 am _ _ _ _ _ _ _ _ bl2 O.1 hM2) rfl (by omega) (by omega) (by omega) (fun _ _ hx => hx.elim) (fun v3 σ3 hp3 => ?_)
  obtain ⟨rfl, hs9⟩ := hp3
  replace hs9 := hs9.symm
  subst hs9
  show J κ σ2 [(0, .ref b), (1, .ref (ad 0)), (2, .ref (am 0)), (3, .ref o), (4, .ref d), (5, vi ((5 * (j : Int)))), (6, vi (O.1)), (7, vi (rz))] 2295 [vi (O.1)] _ _
  refine j_iload 6 C dL_law_2295 rfl rfl ?_
  refine j_icmp_same (tgt := 2302) C dL_law_2297 rfl ?_
  refine j_iload 6 C dL_law_2302 rfl rfl ?_
  refine j_if_ne (tgt := 2319) C dL_law_2304 rfl rfl ⟨by omega, by omega⟩ (fun cc1 => ?_) (fun cc1 => ?_)
  · refine j_goto (tgt := 2447) C dL_law_2319 rfl ?_
    refine j_locals (lv' := [(0, .ref b), (1, .ref (ad 0)), (2, .ref (am 0)), (3, .ref o), (4, .ref d), (5, vi ((5 * (j : Int))))]) [0, 1, 2, 3, 4, 5] rfl ?_
    exact hB _ _ _ _ _ _ hI2 ha01 (by omega) (by omega)
  · have e8 : vi rz = vi (w32 O.2.1) := by rw [hrz cc1]; exact vi_w _
    rw [e8]
    refine j_aload_n 3 C dL_law_2307 rfl rfl rfl ?_
    refine j_iconst C dL_law_2308 rfl ?_
    refine j_lald C dL_law_2309 rfl ho2 ⟨by decide, by decide⟩ (by decide) (y := w32 O.2.1) (hg1 cc1) ?_
    refine j_iload 7 C dL_law_2310 rfl rfl ?_
    refine j_i2l C dL_law_2312 rfl (w32_in _) ?_
    refine j_lcmp_same C dL_law_2313 rfl ?_
    refine j_if_eq (tgt := 2319) C dL_law_2314 rfl rfl ⟨by decide, by decide⟩ (fun _ => ?_) (fun cc => absurd cc (by decide))
    refine j_goto (tgt := 2447) C dL_law_2319 rfl ?_
    refine j_locals (lv' := [(0, .ref b), (1, .ref (ad 0)), (2, .ref (am 0)), (3, .ref o), (4, .ref d), (5, vi ((5 * (j : Int))))]) [0, 1, 2, 3, 4, 5] rfl ?_
    exact hB _ _ _ _ _ _ hI2 ha01 (by omega) (by omega)
set_option maxHeartbeats 8000000 in
set_option maxRecDepth 20000 in
theorem lc_36 {κ : Kx} {nmx : String} {b L j k n : Nat} {xs : Nat → Int} {σ : Wd} {tg ad am : Nat → Nat} {S : St} {o d : Nat} (C : Cx κ cL_law 9 RL nmx 9) (HN : Ncs (kS κ)) (hfl : (kL κ).stackTraces = false) (hxs : ∀ i : Nat, -2147483648 ≤ xs i ∧ xs i < 2147483648) (hX : va_X b L (fun j => Int32.ofInt (xs j)) (kS κ) (kS κ).heap) (hbl : b < (kS κ).heap.size) (hbA : ¬ kA κ b) (hL : L < 2147483648) (hI : LI (kc κ) σ tg ad am S o d) (hj : 5 * j + 5 ≤ L) (hk : k + 300 ≤ (kR κ).cells) (hn : n + 8000 ≤ (kR κ).slots) (hB : LB κ b o d (ad 0) am j k n) : J κ σ [(0, .ref b), (1, .ref (ad 0)), (2, .ref (am 0)), (3, .ref o), (4, .ref d), (5, vi (5 * (j : Int)))] 2322 [] k n := by
  obtain ⟨a1, ha1⟩ : ∃ a, xs (5 * j + 1) = a := ⟨_, rfl⟩
  have r1 : -2147483648 ≤ a1 ∧ a1 < 2147483648 := by rw [← ha1]; exact hxs _
  obtain ⟨a2, ha2⟩ : ∃ a, xs (5 * j + 2) = a := ⟨_, rfl⟩
  have r2 : -2147483648 ≤ a2 ∧ a2 < 2147483648 := by rw [← ha2]; exact hxs _
  obtain ⟨a3, ha3⟩ : ∃ a, xs (5 * j + 3) = a := ⟨_, rfl⟩
  have r3 : -2147483648 ≤ a3 ∧ a3 < 2147483648 := by rw [← ha3]; exact hxs _
  obtain ⟨a4, ha4⟩ : ∃ a, xs (5 * j + 4) = a := ⟨_, rfl⟩
  have r4 : -2147483648 ≤ a4 ∧ a4 < 2147483648 := by rw [← ha4]; exact hxs _
  obtain ⟨bs, ru, se, pf, hd, ca, evs, ln⟩ := S
  have hX0 : RX (kc κ) σ tg ad bs ru se pf hd ca evs ln := hI.1
  have hO := hX0.ok
  obtain ⟨-, -, ⟨g0, hout⟩, ⟨f0, hdub⟩, ⟨to9, td9⟩, -⟩ := id hI
  refine j_aload_n 1 C dL_law_2322 rfl rfl rfl ?_
  obtain ⟨⟨x1, x2⟩, hBB, -, -, -, -⟩ := id hX0
  refine j_callV (st' := []) (As := []) C dL_law_2323 rfl m_L_250 x1 rfl rfl rfl (c_isConsistent (kL κ) hfl (kD κ) (kc κ) σ tg ad bs ru se pf hd ca evs ln hX0) rfl (by omega) (by omega) (by omega) (fun _ _ hx => hx.elim) (fun v1 σ1 hp => ?_)
  obtain ⟨rfl, hR1, hK1, hd1⟩ := hp
  have hKK : Keep σ σ1 (fun y => tg y < 1000 ∨ y = o) := hK1.mono (fun y z => Or.inl (by have z1 := z.2; show tg y < 1000; omega))
  have hm1 : ∀ y, y ∈ σ.1 → y ∈ σ1.1 := fun y hy => by rw [hd1]; exact hy
  obtain ⟨bl1, th1, hM1⟩ := hI.mod (Or.inl rfl) hKK
  have hf1 := hI.dbl hdub hKK
  have ho1 : has σ1 o (lA (kc κ) 1 g0) := hK1 _ _ hout (fun z => by have z1 := z.2; omega)
  show J κ σ1 [(0, .ref b), (1, .ref (ad 0)), (2, .ref (am 0)), (3, .ref o), (4, .ref d), (5, vi ((5 * (j : Int))))] 2326 [vi (1)] _ _
  refine j_aload_n 2 C dL_law_2326 rfl rfl rfl ?_
  obtain ⟨-, _, _, _, _, _, _, _, _, _, _, _, _, _, _, _, hrc, -⟩ := id hM1
  refine j_callV (st' := [vi (1)]) (As := []) C dL_law_2327 rfl m_L_254 hrc rfl rfl rfl (m_isConsistent (kL κ) hfl (kD κ) (kc κ) σ1 am bs ru se pf hd ca evs ln bl1 th1 hM1) rfl (by omega) (by omega) (by omega) (fun _ _ hx => hx.elim) (fun v2 σ2 hp2 => ?_)
  obtain ⟨rfl, hM2, hK2, hd2⟩ := hp2
  have hM3 : RMs (kc κ) σ2 am (bs, ru, se, pf, hd, ca, evs, ln) bl1 0 := hM2
  obtain ⟨hI2, -, -⟩ := hI.mk2 (S1 := (bs, ru, se, pf, hd, ca, evs, ln)) (tg1 := tg) (ad1 := ad) hR1 (fun _ _ => rfl) ho1 hf1 hm1 hM3 hK2 hd2
  show J κ σ2 [(0, .ref b), (1, .ref (ad 0)), (2, .ref (am 0)), (3, .ref o), (4, .ref d), (5, vi ((5 * (j : Int))))] 2330 [vi (1), vi (1)] _ _
  refine j_icmp_same (tgt := 2447) C dL_law_2330 rfl ?_
  refine j_locals (lv' := [(0, .ref b), (1, .ref (ad 0)), (2, .ref (am 0)), (3, .ref o), (4, .ref d), (5, vi ((5 * (j : Int))))]) [0, 1, 2, 3, 4, 5] rfl ?_
  exact hB _ _ _ _ _ _ hI2 rfl (by omega) (by omega)
set_option maxHeartbeats 8000000 in
set_option maxRecDepth 20000 in
theorem lc_37 {κ : Kx} {nmx : String} {b L j k n : Nat} {xs : Nat → Int} {σ : Wd} {tg ad am : Nat → Nat} {S : St} {o d : Nat} (C : Cx κ cL_law 9 RL nmx 9) (HN : Ncs (kS κ)) (hfl : (kL κ).stackTraces = false) (hxs : ∀ i : Nat, -2147483648 ≤ xs i ∧ xs i < 2147483648) (hX : va_X b L (fun j => Int32.ofInt (xs j)) (kS κ) (kS κ).heap) (hbl : b < (kS κ).heap.size) (hbA : ¬ kA κ b) (hL : L < 2147483648) (hI : LI (kc κ) σ tg ad am S o d) (hj : 5 * j + 5 ≤ L) (hk : k + 300 ≤ (kR κ).cells) (hn : n + 8000 ≤ (kR κ).slots) (hB : LB κ b o d (ad 0) am j k n) : J κ σ [(0, .ref b), (1, .ref (ad 0)), (2, .ref (am 0)), (3, .ref o), (4, .ref d), (5, vi (5 * (j : Int)))] 2335 [] k n := by
  obtain ⟨a1, ha1⟩ : ∃ a, xs (5 * j + 1) = a := ⟨_, rfl⟩
  have r1 : -2147483648 ≤ a1 ∧ a1 < 2147483648 := by rw [← ha1]; exact hxs _
  obtain ⟨a2, ha2⟩ : ∃ a, xs (5 * j + 2) = a := ⟨_, rfl⟩
  have r2 : -2147483648 ≤ a2 ∧ a2 < 2147483648 := by rw [← ha2]; exact hxs _
  obtain ⟨a3, ha3⟩ : ∃ a, xs (5 * j + 3) = a := ⟨_, rfl⟩
  have r3 : -2147483648 ≤ a3 ∧ a3 < 2147483648 := by rw [← ha3]; exact hxs _
  obtain ⟨a4, ha4⟩ : ∃ a, xs (5 * j + 4) = a := ⟨_, rfl⟩
  have r4 : -2147483648 ≤ a4 ∧ a4 < 2147483648 := by rw [← ha4]; exact hxs _
  obtain ⟨bs, ru, se, pf, hd, ca, evs, ln⟩ := S
  have hX0 : RX (kc κ) σ tg ad bs ru se pf hd ca evs ln := hI.1
  have hO := hX0.ok
  obtain ⟨-, -, ⟨g0, hout⟩, ⟨f0, hdub⟩, ⟨to9, td9⟩, -⟩ := id hI
  refine j_aload_n 1 C dL_law_2335 rfl rfl rfl ?_
  refine j_aload_n 0 C dL_law_2336 rfl rfl rfl ?_
  refine j_iload 5 C dL_law_2337 rfl rfl ?_
  refine j_iconst C dL_law_2339 rfl ?_
  refine j_iadd C dL_law_2340 rfl ?_
  refine j_sld C hX hbl hbA dL_law_2341 rfl ⟨by omega, by omega⟩ (by omega) (y := a1) (by rw [show (5 * (j : Int) + 1).toNat = 5 * j + 1 by omega]; exact ha1) ?_
  refine j_aload_n 3 C dL_law_2342 rfl rfl rfl ?_
  refine j_callSN (st' := []) (As := [.ref (ad 0), vi (a1), .ref o]) C HN dL_law_2343 rfl m_L_255 rfl rfl (W_writeBin (kL κ) hfl (kD κ) (kc κ) σ tg ad bs ru se pf hd ca evs ln hX0 o g0 hout (by omega) a1 r1) rfl (by omega) (by omega) (by omega) (fun _ _ hx => hx.elim) (fun v1 σ1 hp => ?_)
  obtain ⟨rfl, ⟨tg1, ad1, hR1, hT1, ha01⟩, ⟨g1, ho1, hg1⟩, hK1, hm1⟩ := hp
  have hcr := cr_writeBin bs ru se pf hd ca evs ln a1
  obtain ⟨O, hO9⟩ : ∃ O : Rs, o_writeBin bs ru se pf hd ca evs ln a1 = O := ⟨_, rfl⟩
  show J κ σ1 [(0, .ref b), (1, .ref (ad 0)), (2, .ref (am 0)), (3, .ref o), (4, .ref d), (5, vi ((5 * (j : Int))))] 2346 [vi (o_writeBin bs ru se pf hd ca evs ln a1).1] _ _
  rw [hO9] at hR1 hg1 hcr ⊢
  obtain ⟨bl1, th1, hM1⟩ := hI.mod (Or.inl rfl) hK1
  have hf1 := hI.dbl hdub hK1
  show J κ σ1 [(0, .ref b), (1, .ref (ad 0)), (2, .ref (am 0)), (3, .ref o), (4, .ref d), (5, vi ((5 * (j : Int))))] 2346 [vi (O.1)] _ _
  refine j_istore (lv' := [(0, .ref b), (1, .ref (ad 0)), (2, .ref (am 0)), (3, .ref o), (4, .ref d), (5, vi ((5 * (j : Int)))), (6, vi (O.1))]) [1, 2, 3, 4, 5, 6, 0] C dL_law_2346 rfl rfl rfl ?_
  refine j_aload_n 2 C dL_law_2348 rfl rfl rfl ?_
  refine j_aload_n 0 C dL_law_2349 rfl rfl rfl ?_
  refine j_iload 5 C dL_law_2350 rfl rfl ?_
  refine j_iconst C dL_law_2352 rfl ?_
  refine j_iadd C dL_law_2353 rfl ?_
  refine j_sld C hX hbl hbA dL_law_2354 rfl ⟨by omega, by omega⟩ (by omega) (y := a1) (by rw [show (5 * (j : Int) + 1).toNat = 5 * j + 1 by omega]; exact ha1) ?_
  obtain ⟨-, _, _, _, _, _, _, _, _, _, _, _, _, _, _, _, hrc, -⟩ := id hM1
  refine j_callV (st' := []) (As := [vi (a1)]) C dL_law_2355 rfl m_L_257 hrc rfl rfl rfl (m_writeBin (kL κ) hfl (kD κ) (kc κ) σ1 am bs ru se pf hd ca evs ln bl1 th1 hM1 a1 r1 hO) rfl (by omega) (by omega) (by omega) (fun _ _ hx => hx.elim) (fun v2 σ2 hp2 => ?_)
  obtain ⟨rz, rfl, hrz, ⟨bl2, hM2⟩, hK2, hd2⟩ := hp2
  rw [hO9] at hrz hM2
  obtain ⟨hI2, ho2, hf2⟩ := hI.mk2 hR1 hT1 ho1 hf1 hm1 hM2 hK2 hd2
  show J κ σ2 [(0, .ref b), (1, .ref (ad 0)), (2, .ref (am 0)), (3, .ref o), (4, .ref d), (5, vi ((5 * (j : Int)))), (6, vi (O.1))] 2358 [vi (rz)] _ _
  refine j_istore (lv' := [(0, .ref b), (1, .ref (ad 0)), (2, .ref (am 0)), (3, .ref o), (4, .ref d), (5, vi ((5 * (j : Int)))), (6, vi (O.1)), (7, vi (rz))]) [1, 2, 3, 4, 5, 6, 7, 0] C dL_law_2358 rfl rfl rfl ?_
  refine j_aload_n 2 C dL_law_2360 rfl rfl rfl ?_
  obtain ⟨-, _, _, _, _, _, _, _, _, _, _, _, _, _, _, _, hrc, -⟩ := id hM2
  refine j_callV (st' := []) (As := []) C dL_law_2361 rfl m_L_127 hrc rfl rfl rfl (m_thrown (kL κ) hfl (kD κ) (kc κ) σ2 am _ _ _ _ _ _ _ _ bl2 O.1 hM2) rfl (by omega) (by omega) (by omega) (fun _ _ hx => hx.elim) (fun v3 σ3 hp3 => ?_)
  obtain ⟨rfl, hs9⟩ := hp3
  replace hs9 := hs9.symm
  subst hs9
  show J κ σ2 [(0, .ref b), (1, .ref (ad 0)), (2, .ref (am 0)), (3, .ref o), (4, .ref d), (5, vi ((5 * (j : Int)))), (6, vi (O.1)), (7, vi (rz))] 2364 [vi (O.1)] _ _
  refine j_iload 6 C dL_law_2364 rfl rfl ?_
  refine j_icmp_same (tgt := 2371) C dL_law_2366 rfl ?_
  refine j_iload 6 C dL_law_2371 rfl rfl ?_
  refine j_if_ne (tgt := 2388) C dL_law_2373 rfl rfl ⟨by omega, by omega⟩ (fun cc1 => ?_) (fun cc1 => ?_)
  · refine j_goto (tgt := 2447) C dL_law_2388 rfl ?_
    refine j_locals (lv' := [(0, .ref b), (1, .ref (ad 0)), (2, .ref (am 0)), (3, .ref o), (4, .ref d), (5, vi ((5 * (j : Int))))]) [0, 1, 2, 3, 4, 5] rfl ?_
    exact hB _ _ _ _ _ _ hI2 ha01 (by omega) (by omega)
  · have e8 : vi rz = vi (w32 O.2.1) := by rw [hrz cc1]; exact vi_w _
    rw [e8]
    refine j_aload_n 3 C dL_law_2376 rfl rfl rfl ?_
    refine j_iconst C dL_law_2377 rfl ?_
    refine j_lald C dL_law_2378 rfl ho2 ⟨by decide, by decide⟩ (by decide) (y := w32 O.2.1) (hg1 cc1) ?_
    refine j_iload 7 C dL_law_2379 rfl rfl ?_
    refine j_i2l C dL_law_2381 rfl (w32_in _) ?_
    refine j_lcmp_same C dL_law_2382 rfl ?_
    refine j_if_eq (tgt := 2388) C dL_law_2383 rfl rfl ⟨by decide, by decide⟩ (fun _ => ?_) (fun cc => absurd cc (by decide))
    refine j_goto (tgt := 2447) C dL_law_2388 rfl ?_
    refine j_locals (lv' := [(0, .ref b), (1, .ref (ad 0)), (2, .ref (am 0)), (3, .ref o), (4, .ref d), (5, vi ((5 * (j : Int))))]) [0, 1, 2, 3, 4, 5] rfl ?_
    exact hB _ _ _ _ _ _ hI2 ha01 (by omega) (by omega)
set_option maxHeartbeats 8000000 in
set_option maxRecDepth 20000 in
theorem lc_38 {κ : Kx} {nmx : String} {b L j k n : Nat} {xs : Nat → Int} {σ : Wd} {tg ad am : Nat → Nat} {S : St} {o d : Nat} (C : Cx κ cL_law 9 RL nmx 9) (HN : Ncs (kS κ)) (hfl : (kL κ).stackTraces = false) (hxs : ∀ i : Nat, -2147483648 ≤ xs i ∧ xs i < 2147483648) (hX : va_X b L (fun j => Int32.ofInt (xs j)) (kS κ) (kS κ).heap) (hbl : b < (kS κ).heap.size) (hbA : ¬ kA κ b) (hL : L < 2147483648) (hI : LI (kc κ) σ tg ad am S o d) (hj : 5 * j + 5 ≤ L) (hk : k + 300 ≤ (kR κ).cells) (hn : n + 8000 ≤ (kR κ).slots) (hB : LB κ b o d (ad 0) am j k n) : J κ σ [(0, .ref b), (1, .ref (ad 0)), (2, .ref (am 0)), (3, .ref o), (4, .ref d), (5, vi (5 * (j : Int)))] 2391 [] k n := by
  obtain ⟨a1, ha1⟩ : ∃ a, xs (5 * j + 1) = a := ⟨_, rfl⟩
  have r1 : -2147483648 ≤ a1 ∧ a1 < 2147483648 := by rw [← ha1]; exact hxs _
  obtain ⟨a2, ha2⟩ : ∃ a, xs (5 * j + 2) = a := ⟨_, rfl⟩
  have r2 : -2147483648 ≤ a2 ∧ a2 < 2147483648 := by rw [← ha2]; exact hxs _
  obtain ⟨a3, ha3⟩ : ∃ a, xs (5 * j + 3) = a := ⟨_, rfl⟩
  have r3 : -2147483648 ≤ a3 ∧ a3 < 2147483648 := by rw [← ha3]; exact hxs _
  obtain ⟨a4, ha4⟩ : ∃ a, xs (5 * j + 4) = a := ⟨_, rfl⟩
  have r4 : -2147483648 ≤ a4 ∧ a4 < 2147483648 := by rw [← ha4]; exact hxs _
  obtain ⟨bs, ru, se, pf, hd, ca, evs, ln⟩ := S
  have hX0 : RX (kc κ) σ tg ad bs ru se pf hd ca evs ln := hI.1
  have hO := hX0.ok
  obtain ⟨-, -, ⟨g0, hout⟩, ⟨f0, hdub⟩, ⟨to9, td9⟩, -⟩ := id hI
  refine j_aload_n 1 C dL_law_2391 rfl rfl rfl ?_
  refine j_aload_n 0 C dL_law_2392 rfl rfl rfl ?_
  refine j_iload 5 C dL_law_2393 rfl rfl ?_
  refine j_iconst C dL_law_2395 rfl ?_
  refine j_iadd C dL_law_2396 rfl ?_
  refine j_sld C hX hbl hbA dL_law_2397 rfl ⟨by omega, by omega⟩ (by omega) (y := a1) (by rw [show (5 * (j : Int) + 1).toNat = 5 * j + 1 by omega]; exact ha1) ?_
  refine j_aload_n 3 C dL_law_2398 rfl rfl rfl ?_
  refine j_callSN (st' := []) (As := [.ref (ad 0), vi (a1), .ref o]) C HN dL_law_2399 rfl m_L_258 rfl rfl (W_lineAt (kL κ) hfl (kD κ) (kc κ) σ tg ad bs ru se pf hd ca evs ln hX0 o g0 hout (by omega) a1 r1) rfl (by omega) (by omega) (by omega) (fun _ _ hx => hx.elim) (fun v1 σ1 hp => ?_)
  obtain ⟨rfl, ⟨tg1, ad1, hR1, hT1, ha01⟩, ⟨g1, ho1, hg1⟩, hK1, hm1⟩ := hp
  have hcr := cr_lineAt bs ru se pf hd ca evs ln a1
  obtain ⟨O, hO9⟩ : ∃ O : Rs, o_lineAt bs ru se pf hd ca evs ln a1 = O := ⟨_, rfl⟩
  show J κ σ1 [(0, .ref b), (1, .ref (ad 0)), (2, .ref (am 0)), (3, .ref o), (4, .ref d), (5, vi ((5 * (j : Int))))] 2402 [vi (o_lineAt bs ru se pf hd ca evs ln a1).1] _ _
  rw [hO9] at hR1 hg1 hcr ⊢
  obtain ⟨bl1, th1, hM1⟩ := hI.mod (Or.inl rfl) hK1
  have hf1 := hI.dbl hdub hK1
  show J κ σ1 [(0, .ref b), (1, .ref (ad 0)), (2, .ref (am 0)), (3, .ref o), (4, .ref d), (5, vi ((5 * (j : Int))))] 2402 [vi (O.1)] _ _
  refine j_istore (lv' := [(0, .ref b), (1, .ref (ad 0)), (2, .ref (am 0)), (3, .ref o), (4, .ref d), (5, vi ((5 * (j : Int)))), (6, vi (O.1))]) [1, 2, 3, 4, 5, 6, 0] C dL_law_2402 rfl rfl rfl ?_
  refine j_aload_n 2 C dL_law_2404 rfl rfl rfl ?_
  refine j_aload_n 0 C dL_law_2405 rfl rfl rfl ?_
  refine j_iload 5 C dL_law_2406 rfl rfl ?_
  refine j_iconst C dL_law_2408 rfl ?_
  refine j_iadd C dL_law_2409 rfl ?_
  refine j_sld C hX hbl hbA dL_law_2410 rfl ⟨by omega, by omega⟩ (by omega) (y := a1) (by rw [show (5 * (j : Int) + 1).toNat = 5 * j + 1 by omega]; exact ha1) ?_
  obtain ⟨-, _, _, _, _, _, _, _, _, _, _, _, _, _, _, _, hrc, -⟩ := id hM1
  refine j_callV (st' := []) (As := [vi (a1)]) C dL_law_2411 rfl m_L_260 hrc rfl rfl rfl (m_lineAt (kL κ) hfl (kD κ) (kc κ) σ1 am bs ru se pf hd ca evs ln bl1 th1 hM1 a1 r1) rfl (by omega) (by omega) (by omega) (fun _ _ hx => hx.elim) (fun v2 σ2 hp2 => ?_)
  obtain ⟨rz, rfl, hrz, ⟨bl2, hM2⟩, hK2, hd2⟩ := hp2
  rw [hO9] at hrz hM2
  obtain ⟨hI2, ho2, hf2⟩ := hI.mk2 hR1 hT1 ho1 hf1 hm1 hM2 hK2 hd2
  show J κ σ2 [(0, .ref b), (1, .ref (ad 0)), (2, .ref (am 0)), (3, .ref o), (4, .ref d), (5, vi ((5 * (j : Int)))), (6, vi (O.1))] 2414 [vi (rz)] _ _
  refine j_istore (lv' := [(0, .ref b), (1, .ref (ad 0)), (2, .ref (am 0)), (3, .ref o), (4, .ref d), (5, vi ((5 * (j : Int)))), (6, vi (O.1)), (7, vi (rz))]) [1, 2, 3, 4, 5, 6, 7, 0] C dL_law_2414 rfl rfl rfl ?_
  refine j_aload_n 2 C dL_law_2416 rfl rfl rfl ?_
  obtain ⟨-, _, _, _, _, _, _, _, _, _, _, _, _, _, _, _, hrc, -⟩ := id hM2
  refine j_callV (st' := []) (As := []) C dL_law_2417 rfl m_L_127 hrc rfl rfl rfl (m_thrown (kL κ) hfl (kD κ) (kc κ) σ2 am _ _ _ _ _ _ _ _ bl2 O.1 hM2) rfl (by omega) (by omega) (by omega) (fun _ _ hx => hx.elim) (fun v3 σ3 hp3 => ?_)
  obtain ⟨rfl, hs9⟩ := hp3
  replace hs9 := hs9.symm
  subst hs9
  show J κ σ2 [(0, .ref b), (1, .ref (ad 0)), (2, .ref (am 0)), (3, .ref o), (4, .ref d), (5, vi ((5 * (j : Int)))), (6, vi (O.1)), (7, vi (rz))] 2420 [vi (O.1)] _ _
  refine j_iload 6 C dL_law_2420 rfl rfl ?_
  refine j_icmp_same (tgt := 2427) C dL_law_2422 rfl ?_
  refine j_iload 6 C dL_law_2427 rfl rfl ?_
  refine j_if_ne (tgt := 2444) C dL_law_2429 rfl rfl ⟨by omega, by omega⟩ (fun cc1 => ?_) (fun cc1 => ?_)
  · refine j_goto (tgt := 2447) C dL_law_2444 rfl ?_
    refine j_locals (lv' := [(0, .ref b), (1, .ref (ad 0)), (2, .ref (am 0)), (3, .ref o), (4, .ref d), (5, vi ((5 * (j : Int))))]) [0, 1, 2, 3, 4, 5] rfl ?_
    exact hB _ _ _ _ _ _ hI2 ha01 (by omega) (by omega)
  · have e8 : vi rz = vi (w32 O.2.1) := by rw [hrz cc1]; exact vi_w _
    rw [e8]
    refine j_aload_n 3 C dL_law_2432 rfl rfl rfl ?_
    refine j_iconst C dL_law_2433 rfl ?_
    refine j_lald C dL_law_2434 rfl ho2 ⟨by decide, by decide⟩ (by decide) (y := w32 O.2.1) (hg1 cc1) ?_
    refine j_iload 7 C dL_law_2435 rfl rfl ?_
    refine j_i2l C dL_law_2437 rfl (w32_in _) ?_
    refine j_lcmp_same C dL_law_2438 rfl ?_
    refine j_if_eq (tgt := 2444) C dL_law_2439 rfl rfl ⟨by decide, by decide⟩ (fun _ => ?_) (fun cc => absurd cc (by decide))
    refine j_goto (tgt := 2447) C dL_law_2444 rfl ?_
    refine j_locals (lv' := [(0, .ref b), (1, .ref (ad 0)), (2, .ref (am 0)), (3, .ref o), (4, .ref d), (5, vi ((5 * (j : Int))))]) [0, 1, 2, 3, 4, 5] rfl ?_
    exact hB _ _ _ _ _ _ hI2 ha01 (by omega) (by omega)
