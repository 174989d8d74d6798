/-! law: the calls, one by one -/
theorem cr_addBin (bs : List Bn) (ru : Nat → Int × Int) (se : Int) (pf : Nat → Int) (hd : Hd) (ca : Int) (evs : List Evt) (ln : List Int) (c : Int) (m : Bool) : 0 ≤ (o_addBin bs ru se pf hd ca evs ln c m).1 ∧ (o_addBin bs ru se pf hd ca evs ln c m).1 < 10 := by
  unfold o_addBin
  (repeat' split) <;> (constructor <;> first | (dsimp only; omega) | simp)
theorem cr_capacityOf (bs : List Bn) (ru : Nat → Int × Int) (se : Int) (pf : Nat → Int) (hd : Hd) (ca : Int) (evs : List Evt) (ln : List Int) (b : Int) : 0 ≤ (o_capacityOf bs ru se pf hd ca evs ln b).1 ∧ (o_capacityOf bs ru se pf hd ca evs ln b).1 < 10 := by
  unfold o_capacityOf
  (repeat' split) <;> (constructor <;> first | (dsimp only; omega) | simp)
theorem cr_setRule (bs : List Bn) (ru : Nat → Int × Int) (se : Int) (pf : Nat → Int) (hd : Hd) (ca : Int) (evs : List Evt) (ln : List Int) (s g y z : Int) : 0 ≤ (o_setRule bs ru se pf hd ca evs ln s g y z).1 ∧ (o_setRule bs ru se pf hd ca evs ln s g y z).1 < 10 := by
  unfold o_setRule
  (repeat' split) <;> (constructor <;> first | (dsimp only; omega) | simp)
theorem cr_setSeason (bs : List Bn) (ru : Nat → Int × Int) (se : Int) (pf : Nat → Int) (hd : Hd) (ca : Int) (evs : List Evt) (ln : List Int) (z : Int) : 0 ≤ (o_setSeason bs ru se pf hd ca evs ln z).1 ∧ (o_setSeason bs ru se pf hd ca evs ln z).1 < 10 := by
  unfold o_setSeason
  (repeat' split) <;> (constructor <;> first | (dsimp only; omega) | simp)
theorem cr_gradeFor (bs : List Bn) (ru : Nat → Int × Int) (se : Int) (pf : Nat → Int) (hd : Hd) (ca : Int) (evs : List Evt) (ln : List Int) (y z : Int) : 0 ≤ (o_gradeFor bs ru se pf hd ca evs ln y z).1 ∧ (o_gradeFor bs ru se pf hd ca evs ln y z).1 < 10 := by
  unfold o_gradeFor
  (repeat' split) <;> (constructor <;> first | (dsimp only; omega) | simp)
theorem cr_setPrice (bs : List Bn) (ru : Nat → Int × Int) (se : Int) (pf : Nat → Int) (hd : Hd) (ca : Int) (evs : List Evt) (ln : List Int) (z y : Int) : 0 ≤ (o_setPrice bs ru se pf hd ca evs ln z y).1 ∧ (o_setPrice bs ru se pf hd ca evs ln z y).1 < 10 := by
  unfold o_setPrice
  (repeat' split) <;> (constructor <;> first | (dsimp only; omega) | simp)
theorem cr_priceOf (bs : List Bn) (ru : Nat → Int × Int) (se : Int) (pf : Nat → Int) (hd : Hd) (ca : Int) (evs : List Evt) (ln : List Int) (z : Int) : 0 ≤ (o_priceOf bs ru se pf hd ca evs ln z).1 ∧ (o_priceOf bs ru se pf hd ca evs ln z).1 < 10 := by
  unfold o_priceOf
  (repeat' split) <;> (constructor <;> first | (dsimp only; omega) | simp)
theorem cr_load (bs : List Bn) (ru : Nat → Int × Int) (se : Int) (pf : Nat → Int) (hd : Hd) (ca : Int) (evs : List Evt) (ln : List Int) (b n x f : Int) : 0 ≤ (o_load bs ru se pf hd ca evs ln b n x f).1 ∧ (o_load bs ru se pf hd ca evs ln b n x f).1 < 10 := by
  unfold o_load
  (repeat' split) <;> (constructor <;> first | (dsimp only; omega) | simp)
theorem cr_sell (bs : List Bn) (ru : Nat → Int × Int) (se : Int) (pf : Nat → Int) (hd : Hd) (ca : Int) (evs : List Evt) (ln : List Int) (b n : Int) : 0 ≤ (o_sell bs ru se pf hd ca evs ln b n).1 ∧ (o_sell bs ru se pf hd ca evs ln b n).1 < 10 := by
  unfold o_sell
  (repeat' split) <;> (constructor <;> first | (dsimp only; omega) | simp)
theorem cr_transfer (bs : List Bn) (ru : Nat → Int × Int) (se : Int) (pf : Nat → Int) (hd : Hd) (ca : Int) (evs : List Evt) (ln : List Int) (a b n : Int) : 0 ≤ (o_transfer bs ru se pf hd ca evs ln a b n).1 ∧ (o_transfer bs ru se pf hd ca evs ln a b n).1 < 10 := by
  unfold o_transfer
  (repeat' split) <;> (constructor <;> first | (dsimp only; omega) | simp)
theorem cr_dry (bs : List Bn) (ru : Nat → Int × Int) (se : Int) (pf : Nat → Int) (hd : Hd) (ca : Int) (evs : List Evt) (ln : List Int) (b x : Int) : 0 ≤ (o_dry bs ru se pf hd ca evs ln b x).1 ∧ (o_dry bs ru se pf hd ca evs ln b x).1 < 10 := by
  unfold o_dry
  (repeat' split) <;> (constructor <;> first | (dsimp only; omega) | simp)
theorem cr_dryingCost (bs : List Bn) (ru : Nat → Int × Int) (se : Int) (pf : Nat → Int) (hd : Hd) (ca : Int) (evs : List Evt) (ln : List Int) (b x : Int) : 0 ≤ (o_dryingCost bs ru se pf hd ca evs ln b x).1 ∧ (o_dryingCost bs ru se pf hd ca evs ln b x).1 < 10 := by
  unfold o_dryingCost
  (repeat' split) <;> (constructor <;> first | (dsimp only; omega) | simp)
theorem cr_bushelsIn (bs : List Bn) (ru : Nat → Int × Int) (se : Int) (pf : Nat → Int) (hd : Hd) (ca : Int) (evs : List Evt) (ln : List Int) (b : Int) : 0 ≤ (o_bushelsIn bs ru se pf hd ca evs ln b).1 ∧ (o_bushelsIn bs ru se pf hd ca evs ln b).1 < 10 := by
  unfold o_bushelsIn
  (repeat' split) <;> (constructor <;> first | (dsimp only; omega) | simp)
theorem cr_layersIn (bs : List Bn) (ru : Nat → Int × Int) (se : Int) (pf : Nat → Int) (hd : Hd) (ca : Int) (evs : List Evt) (ln : List Int) (b : Int) : 0 ≤ (o_layersIn bs ru se pf hd ca evs ln b).1 ∧ (o_layersIn bs ru se pf hd ca evs ln b).1 < 10 := by
  unfold o_layersIn
  (repeat' split) <;> (constructor <;> first | (dsimp only; omega) | simp)
theorem cr_layerBushels (bs : List Bn) (ru : Nat → Int × Int) (se : Int) (pf : Nat → Int) (hd : Hd) (ca : Int) (evs : List Evt) (ln : List Int) (b q : Int) : 0 ≤ (o_layerBushels bs ru se pf hd ca evs ln b q).1 ∧ (o_layerBushels bs ru se pf hd ca evs ln b q).1 < 10 := by
  unfold o_layerBushels
  (repeat' split) <;> (constructor <;> first | (dsimp only; omega) | simp)
theorem cr_layerMoisture (bs : List Bn) (ru : Nat → Int × Int) (se : Int) (pf : Nat → Int) (hd : Hd) (ca : Int) (evs : List Evt) (ln : List Int) (b q : Int) : 0 ≤ (o_layerMoisture bs ru se pf hd ca evs ln b q).1 ∧ (o_layerMoisture bs ru se pf hd ca evs ln b q).1 < 10 := by
  unfold o_layerMoisture
  (repeat' split) <;> (constructor <;> first | (dsimp only; omega) | simp)
theorem cr_layerForeign (bs : List Bn) (ru : Nat → Int × Int) (se : Int) (pf : Nat → Int) (hd : Hd) (ca : Int) (evs : List Evt) (ln : List Int) (b q : Int) : 0 ≤ (o_layerForeign bs ru se pf hd ca evs ln b q).1 ∧ (o_layerForeign bs ru se pf hd ca evs ln b q).1 < 10 := by
  unfold o_layerForeign
  (repeat' split) <;> (constructor <;> first | (dsimp only; omega) | simp)
theorem cr_layerGrade (bs : List Bn) (ru : Nat → Int × Int) (se : Int) (pf : Nat → Int) (hd : Hd) (ca : Int) (evs : List Evt) (ln : List Int) (b q : Int) : 0 ≤ (o_layerGrade bs ru se pf hd ca evs ln b q).1 ∧ (o_layerGrade bs ru se pf hd ca evs ln b q).1 < 10 := by
  unfold o_layerGrade
  (repeat' split) <;> (constructor <;> first | (dsimp only; omega) | simp)
theorem cr_blendCost (bs : List Bn) (ru : Nat → Int × Int) (se : Int) (pf : Nat → Int) (hd : Hd) (ca : Int) (evs : List Evt) (ln : List Int) (a b n x : Int) : 0 ≤ (o_blendCost bs ru se pf hd ca evs ln a b n x).1 ∧ (o_blendCost bs ru se pf hd ca evs ln a b n x).1 < 10 := by
  unfold o_blendCost
  (repeat' split) <;> (constructor <;> first | (dsimp only; omega) | simp)
theorem cr_blendShare (bs : List Bn) (ru : Nat → Int × Int) (se : Int) (pf : Nat → Int) (hd : Hd) (ca : Int) (evs : List Evt) (ln : List Int) (a b n x : Int) : 0 ≤ (o_blendShare bs ru se pf hd ca evs ln a b n x).1 ∧ (o_blendShare bs ru se pf hd ca evs ln a b n x).1 < 10 := by
  unfold o_blendShare
  (repeat' split) <;> (constructor <;> first | (dsimp only; omega) | simp)
theorem cr_sellBlend (bs : List Bn) (ru : Nat → Int × Int) (se : Int) (pf : Nat → Int) (hd : Hd) (ca : Int) (evs : List Evt) (ln : List Int) (a b n x : Int) : 0 ≤ (o_sellBlend bs ru se pf hd ca evs ln a b n x).1 ∧ (o_sellBlend bs ru se pf hd ca evs ln a b n x).1 < 10 := by
  unfold o_sellBlend
  (repeat' split) <;> (constructor <;> first | (dsimp only; omega) | simp)
theorem cr_setFutures (bs : List Bn) (ru : Nat → Int × Int) (se : Int) (pf : Nat → Int) (hd : Hd) (ca : Int) (evs : List Evt) (ln : List Int) (z : Int) : 0 ≤ (o_setFutures bs ru se pf hd ca evs ln z).1 ∧ (o_setFutures bs ru se pf hd ca evs ln z).1 < 10 := by
  unfold o_setFutures
  (repeat' split) <;> (constructor <;> first | (dsimp only; omega) | simp)
theorem cr_tradeAt (bs : List Bn) (ru : Nat → Int × Int) (se : Int) (pf : Nat → Int) (hd : Hd) (ca : Int) (evs : List Evt) (ln : List Int) (z : Int) : 0 ≤ (o_tradeAt bs ru se pf hd ca evs ln z).1 ∧ (o_tradeAt bs ru se pf hd ca evs ln z).1 < 10 := by
  unfold o_tradeAt
  (repeat' split) <;> (constructor <;> first | (dsimp only; omega) | simp)
theorem cr_eventKind (bs : List Bn) (ru : Nat → Int × Int) (se : Int) (pf : Nat → Int) (hd : Hd) (ca : Int) (evs : List Evt) (ln : List Int) (z : Int) : 0 ≤ (o_eventKind bs ru se pf hd ca evs ln z).1 ∧ (o_eventKind bs ru se pf hd ca evs ln z).1 < 10 := by
  unfold o_eventKind
  (repeat' split) <;> (constructor <;> first | (dsimp only; omega) | simp)
theorem cr_lineAt (bs : List Bn) (ru : Nat → Int × Int) (se : Int) (pf : Nat → Int) (hd : Hd) (ca : Int) (evs : List Evt) (ln : List Int) (z : Int) : 0 ≤ (o_lineAt bs ru se pf hd ca evs ln z).1 ∧ (o_lineAt bs ru se pf hd ca evs ln z).1 < 10 := by
  unfold o_lineAt
  (repeat' split) <;> (constructor <;> first | (dsimp only; omega) | simp)
theorem cr_writeBin (bs : List Bn) (ru : Nat → Int × Int) (se : Int) (pf : Nat → Int) (hd : Hd) (ca : Int) (evs : List Evt) (ln : List Int) (b : Int) : 0 ≤ (o_writeBin bs ru se pf hd ca evs ln b).1 ∧ (o_writeBin bs ru se pf hd ca evs ln b).1 < 10 := by
  unfold o_writeBin
  (repeat' split) <;> (constructor <;> first | (dsimp only; omega) | simp)
theorem cr_mean (bs : List Bn) (b : Int) : 0 ≤ cdMean bs b ∧ cdMean bs b < 10 := by
  unfold cdMean
  (repeat' split) <;> (constructor <;> omega)
theorem cr_wet (bs : List Bn) (b : Int) : 0 ≤ cdWet bs b ∧ cdWet bs b < 10 := by
  unfold cdWet
  (repeat' split) <;> (constructor <;> omega)
theorem vMean_n {bs : List Bn} {b : Int} (h : cdMean bs b = 0) {ru : Nat → Int × Int} {se : Int} {pf : Nat → Int} {hd : Hd} {evs : List Evt} {ln : List Int} (hO : Ok bs ru se pf hd evs ln) : vf_n64 (vMean bs b) := by
  unfold cdMean at h
  split at h
  · exact absurd h (by decide)
  · rename_i h1
    split at h
    · exact absurd h (by decide)
    · rename_i h2
      obtain ⟨⟨cap, mf, ly⟩, hg7⟩ : ∃ z, gB bs b = z := ⟨_, rfl⟩
      have hbk7 := hO.2.1 _ (gB_mem (bs := bs) (i := b) (by omega) (by omega))
      unfold vMean
      rw [hg7] at hbk7 h2 ⊢
      obtain ⟨hcp7, hly7, htc7⟩ := hbk7
      dsimp only at hcp7 hly7 htc7 h2 ⊢
      have ht07 := tot_0 hly7
      exact fp_d _ ⟨by omega, by omega⟩
theorem vWet_n {bs : List Bn} {b : Int} (h : cdWet bs b = 0) {ru : Nat → Int × Int} {se : Int} {pf : Nat → Int} {hd : Hd} {evs : List Evt} {ln : List Int} (hO : Ok bs ru se pf hd evs ln) : vf_n32 (vWet bs b) := by
  have hTb := totB_in hO.2.1
  have h6 := hO.1
  unfold cdWet at h
  split at h
  · exact absurd h (by decide)
  · split at h
    · exact absurd h (by decide)
    · unfold vWet
      exact fp_f _ ⟨by omega, by omega⟩
set_option maxHeartbeats 8000000 in
set_option maxRecDepth 20000 in
theorem lc_0 {κ : Kx} {mc ms b L j k n : Nat} {xs : Nat → Int} {σ : Wd} {tg ad am : Nat → Nat} {S : St} {o d : Nat} {Post : Option Value → Wd → Prop} {Exc : String → Wd → Prop} (C : Cx κ cL_law 9 RL "law" 9) (HN : Ncs (kS κ)) (hfl : (kL κ).stackTraces = false) (hxs : ∀ i : Nat, -2147483648 ≤ xs i ∧ xs i < 2147483648) (hX : va_X b L (fun j => Int32.ofInt (xs j)) (kS κ) (kS κ).heap) (hbl : b < (kS κ).heap.size) (hbA : ¬ kA κ b) (hL : L < 2147483648) (hI : LI (kc κ) σ tg ad am S o d) (hj : 5 * j + 5 ≤ L) (hk : k + 1177 ≤ (kR κ).cells) (hn : n + 14084 ≤ (kR κ).slots) (hB : LB κ b o d (ad 0) am j k n) : J κ σ [(0, .ref b), (1, .ref (ad 0)), (2, .ref (am 0)), (3, .ref o), (4, .ref d), (5, vi (5 * (j : Int)))] 216 [] k n := by
  obtain ⟨a1, ha1⟩ : ∃ a, xs (5 * j + 1) = a := ⟨_, rfl⟩
  have r1 : -2147483648 ≤ a1 ∧ a1 < 2147483648 := by rw [← ha1]; exact hxs _
  obtain ⟨a2, ha2⟩ : ∃ a, xs (5 * j + 2) = a := ⟨_, rfl⟩
  have r2 : -2147483648 ≤ a2 ∧ a2 < 2147483648 := by rw [← ha2]; exact hxs _
  obtain ⟨a3, ha3⟩ : ∃ a, xs (5 * j + 3) = a := ⟨_, rfl⟩
  have r3 : -2147483648 ≤ a3 ∧ a3 < 2147483648 := by rw [← ha3]; exact hxs _
  obtain ⟨a4, ha4⟩ : ∃ a, xs (5 * j + 4) = a := ⟨_, rfl⟩
  have r4 : -2147483648 ≤ a4 ∧ a4 < 2147483648 := by rw [← ha4]; exact hxs _
  obtain ⟨bs, ru, se, pf, hd, ca, evs, ln⟩ := S
  have hX0 : RX (kc κ) σ tg ad bs ru se pf hd ca evs ln := hI.1
  have hO := hX0.ok
  obtain ⟨-, -, ⟨g0, hout⟩, ⟨f0, hdub⟩, ⟨to9, td9⟩, -⟩ := id hI
  refine j_aload_n 1 C dL_law_216 rfl rfl rfl ?_
  refine j_aload_n 0 C dL_law_217 rfl rfl rfl ?_
  refine j_iload 5 C dL_law_218 rfl rfl ?_
  refine j_iconst C dL_law_220 rfl ?_
  refine j_iadd C dL_law_221 rfl ?_
  refine j_sld C hX hbl hbA dL_law_222 rfl ⟨by omega, by omega⟩ (by omega) (y := a1) (by rw [show (5 * (j : Int) + 1).toNat = 5 * j + 1 by omega]; exact ha1) ?_
  refine j_aload_n 0 C dL_law_223 rfl rfl rfl ?_
  refine j_iload 5 C dL_law_224 rfl rfl ?_
  refine j_iconst C dL_law_226 rfl ?_
  refine j_iadd C dL_law_227 rfl ?_
  refine j_sld C hX hbl hbA dL_law_228 rfl ⟨by omega, by omega⟩ (by omega) (y := a2) (by rw [show (5 * (j : Int) + 2).toNat = 5 * j + 2 by omega]; exact ha2) ?_
  refine j_if_eq (tgt := 236) C dL_law_229 rfl rfl r2 (fun cc1 => ?_) (fun cc1 => ?_)
  · refine j_iconst C dL_law_236 rfl ?_
    refine j_aload_n 3 C dL_law_237 rfl rfl rfl ?_
    refine j_callSN (st' := []) (As := [.ref (ad 0), vi (a1), vi (b01 false), .ref o]) C HN dL_law_238 rfl m_L_121 rfl rfl (W_addBin (kL κ) hfl (kD κ) (kc κ) σ tg ad bs ru se pf hd ca evs ln hX0 o g0 hout (by omega) a1 r1 false) rfl (by omega) (by omega) (by omega) (fun _ _ hx => hx.elim) (fun v1 σ1 hp => ?_)
    obtain ⟨rfl, ⟨tg1, ad1, hR1, hT1, ha01⟩, ⟨g1, ho1, hg1⟩, hK1, hm1⟩ := hp
    have hcr := cr_addBin bs ru se pf hd ca evs ln a1 false
    obtain ⟨O, hO9⟩ : ∃ O : Rs, o_addBin bs ru se pf hd ca evs ln a1 false = O := ⟨_, rfl⟩
    show J κ σ1 [(0, .ref b), (1, .ref (ad 0)), (2, .ref (am 0)), (3, .ref o), (4, .ref d), (5, vi ((5 * (j : Int))))] 241 [vi (o_addBin bs ru se pf hd ca evs ln a1 false).1] _ _
    rw [hO9] at hR1 hg1 hcr ⊢
    obtain ⟨bl1, th1, hM1⟩ := hI.mod (Or.inl rfl) hK1
    have hf1 := hI.dbl hdub hK1
    show J κ σ1 [(0, .ref b), (1, .ref (ad 0)), (2, .ref (am 0)), (3, .ref o), (4, .ref d), (5, vi ((5 * (j : Int))))] 241 [vi (O.1)] _ _
    refine j_istore (lv' := [(0, .ref b), (1, .ref (ad 0)), (2, .ref (am 0)), (3, .ref o), (4, .ref d), (5, vi ((5 * (j : Int)))), (6, vi (O.1))]) [1, 2, 3, 4, 5, 6, 0] C dL_law_241 rfl rfl rfl ?_
    refine j_aload_n 2 C dL_law_243 rfl rfl rfl ?_
    refine j_aload_n 0 C dL_law_244 rfl rfl rfl ?_
    refine j_iload 5 C dL_law_245 rfl rfl ?_
    refine j_iconst C dL_law_247 rfl ?_
    refine j_iadd C dL_law_248 rfl ?_
    refine j_sld C hX hbl hbA dL_law_249 rfl ⟨by omega, by omega⟩ (by omega) (y := a1) (by rw [show (5 * (j : Int) + 1).toNat = 5 * j + 1 by omega]; exact ha1) ?_
    refine j_aload_n 0 C dL_law_250 rfl rfl rfl ?_
    refine j_iload 5 C dL_law_251 rfl rfl ?_
    refine j_iconst C dL_law_253 rfl ?_
    refine j_iadd C dL_law_254 rfl ?_
    refine j_sld C hX hbl hbA dL_law_255 rfl ⟨by omega, by omega⟩ (by omega) (y := a2) (by rw [show (5 * (j : Int) + 2).toNat = 5 * j + 2 by omega]; exact ha2) ?_
    refine j_if_eq (tgt := 263) C dL_law_256 rfl rfl r2 (fun _ => ?_) (fun cc => absurd cc1 cc)
    refine j_iconst C dL_law_263 rfl ?_
    obtain ⟨-, _, _, _, _, _, _, _, _, _, _, _, _, _, _, _, hrc, -⟩ := id hM1
    refine j_callV (st' := []) (As := [vi (a1), vi (b01 false)]) C dL_law_264 rfl m_L_126 hrc rfl rfl rfl (m_addBin (kL κ) hfl (kD κ) (kc κ) σ1 am bs ru se pf hd ca evs ln bl1 th1 hM1 a1 r1 false) rfl (by omega) (by omega) (by omega) (fun _ _ hx => hx.elim) (fun v2 σ2 hp2 => ?_)
    obtain ⟨rz, rfl, hrz, ⟨bl2, hM2⟩, hK2, hd2⟩ := hp2
    rw [hO9] at hrz hM2
    obtain ⟨hI2, ho2, hf2⟩ := hI.mk2 hR1 hT1 ho1 hf1 hm1 hM2 hK2 hd2
    show J κ σ2 [(0, .ref b), (1, .ref (ad 0)), (2, .ref (am 0)), (3, .ref o), (4, .ref d), (5, vi ((5 * (j : Int)))), (6, vi (O.1))] 267 [vi (rz)] _ _
    refine j_istore (lv' := [(0, .ref b), (1, .ref (ad 0)), (2, .ref (am 0)), (3, .ref o), (4, .ref d), (5, vi ((5 * (j : Int)))), (6, vi (O.1)), (7, vi (rz))]) [1, 2, 3, 4, 5, 6, 7, 0] C dL_law_267 rfl rfl rfl ?_
    refine j_aload_n 2 C dL_law_269 rfl rfl rfl ?_
    obtain ⟨-, _, _, _, _, _, _, _, _, _, _, _, _, _, _, _, hrc, -⟩ := id hM2
    refine j_callV (st' := []) (As := []) C dL_law_270 rfl m_L_127 hrc rfl rfl rfl (m_thrown (kL κ) hfl (kD κ) (kc κ) σ2 am _ _ _ _ _ _ _ _ bl2 O.1 hM2) rfl (by omega) (by omega) (by omega) (fun _ _ hx => hx.elim) (fun v3 σ3 hp3 => ?_)
    obtain ⟨rfl, hs9⟩ := hp3
    replace hs9 := hs9.symm
    subst hs9
    show J κ σ2 [(0, .ref b), (1, .ref (ad 0)), (2, .ref (am 0)), (3, .ref o), (4, .ref d), (5, vi ((5 * (j : Int)))), (6, vi (O.1)), (7, vi (rz))] 273 [vi (O.1)] _ _
    refine j_iload 6 C dL_law_273 rfl rfl ?_
    refine j_icmp_same (tgt := 280) C dL_law_275 rfl ?_
    refine j_iload 6 C dL_law_280 rfl rfl ?_
    refine j_if_ne (tgt := 297) C dL_law_282 rfl rfl ⟨by omega, by omega⟩ (fun cc2 => ?_) (fun cc2 => ?_)
    · refine j_goto (tgt := 2447) C dL_law_297 rfl ?_
      refine j_locals (lv' := [(0, .ref b), (1, .ref (ad 0)), (2, .ref (am 0)), (3, .ref o), (4, .ref d), (5, vi ((5 * (j : Int))))]) [0, 1, 2, 3, 4, 5] rfl ?_
      exact hB _ _ _ _ _ _ hI2 ha01 (by omega) (by omega)
    · have e8 : vi rz = vi (w32 O.2.1) := by rw [hrz cc2]; exact vi_w _
      rw [e8]
      refine j_aload_n 3 C dL_law_285 rfl rfl rfl ?_
      refine j_iconst C dL_law_286 rfl ?_
      refine j_lald C dL_law_287 rfl ho2 ⟨by decide, by decide⟩ (by decide) (y := w32 O.2.1) (hg1 cc2) ?_
      refine j_iload 7 C dL_law_288 rfl rfl ?_
      refine j_i2l C dL_law_290 rfl (w32_in _) ?_
      refine j_lcmp_same C dL_law_291 rfl ?_
      refine j_if_eq (tgt := 297) C dL_law_292 rfl rfl ⟨by decide, by decide⟩ (fun _ => ?_) (fun cc => absurd cc (by decide))
      refine j_goto (tgt := 2447) C dL_law_297 rfl ?_
      refine j_locals (lv' := [(0, .ref b), (1, .ref (ad 0)), (2, .ref (am 0)), (3, .ref o), (4, .ref d), (5, vi ((5 * (j : Int))))]) [0, 1, 2, 3, 4, 5] rfl ?_
      exact hB _ _ _ _ _ _ hI2 ha01 (by omega) (by omega)
  · refine j_iconst C dL_law_232 rfl ?_
    refine j_goto (tgt := 237) C dL_law_233 rfl ?_
    refine j_aload_n 3 C dL_law_237 rfl rfl rfl ?_
    refine j_callSN (st' := []) (As := [.ref (ad 0), vi (a1), vi (b01 true), .ref o]) C HN dL_law_238 rfl m_L_121 rfl rfl (W_addBin (kL κ) hfl (kD κ) (kc κ) σ tg ad bs ru se pf hd ca evs ln hX0 o g0 hout (by omega) a1 r1 true) rfl (by omega) (by omega) (by omega) (fun _ _ hx => hx.elim) (fun v1 σ1 hp => ?_)
    obtain ⟨rfl, ⟨tg1, ad1, hR1, hT1, ha01⟩, ⟨g1, ho1, hg1⟩, hK1, hm1⟩ := hp
    have hcr := cr_addBin bs ru se pf hd ca evs ln a1 true
    obtain ⟨O, hO9⟩ : ∃ O : Rs, o_addBin bs ru se pf hd ca evs ln a1 true = O := ⟨_, rfl⟩
    show J κ σ1 [(0, .ref b), (1, .ref (ad 0)), (2, .ref (am 0)), (3, .ref o), (4, .ref d), (5, vi ((5 * (j : Int))))] 241 [vi (o_addBin bs ru se pf hd ca evs ln a1 true).1] _ _
    rw [hO9] at hR1 hg1 hcr ⊢
    obtain ⟨bl1, th1, hM1⟩ := hI.mod (Or.inl rfl) hK1
    have hf1 := hI.dbl hdub hK1
    show J κ σ1 [(0, .ref b), (1, .ref (ad 0)), (2, .ref (am 0)), (3, .ref o), (4, .ref d), (5, vi ((5 * (j : Int))))] 241 [vi (O.1)] _ _
    refine j_istore (lv' := [(0, .ref b), (1, .ref (ad 0)), (2, .ref (am 0)), (3, .ref o), (4, .ref d), (5, vi ((5 * (j : Int)))), (6, vi (O.1))]) [1, 2, 3, 4, 5, 6, 0] C dL_law_241 rfl rfl rfl ?_
    refine j_aload_n 2 C dL_law_243 rfl rfl rfl ?_
    refine j_aload_n 0 C dL_law_244 rfl rfl rfl ?_
    refine j_iload 5 C dL_law_245 rfl rfl ?_
    refine j_iconst C dL_law_247 rfl ?_
    refine j_iadd C dL_law_248 rfl ?_
    refine j_sld C hX hbl hbA dL_law_249 rfl ⟨by omega, by omega⟩ (by omega) (y := a1) (by rw [show (5 * (j : Int) + 1).toNat = 5 * j + 1 by omega]; exact ha1) ?_
    refine j_aload_n 0 C dL_law_250 rfl rfl rfl ?_
    refine j_iload 5 C dL_law_251 rfl rfl ?_
    refine j_iconst C dL_law_253 rfl ?_
    refine j_iadd C dL_law_254 rfl ?_
    refine j_sld C hX hbl hbA dL_law_255 rfl ⟨by omega, by omega⟩ (by omega) (y := a2) (by rw [show (5 * (j : Int) + 2).toNat = 5 * j + 2 by omega]; exact ha2) ?_
    refine j_if_eq (tgt := 263) C dL_law_256 rfl rfl r2 (fun cc => absurd cc cc1) (fun _ => ?_)
    refine j_iconst C dL_law_259 rfl ?_
    refine j_goto (tgt := 264) C dL_law_260 rfl ?_
    obtain ⟨-, _, _, _, _, _, _, _, _, _, _, _, _, _, _, _, hrc, -⟩ := id hM1
    refine j_callV (st' := []) (As := [vi (a1), vi (b01 true)]) C dL_law_264 rfl m_L_126 hrc rfl rfl rfl (m_addBin (kL κ) hfl (kD κ) (kc κ) σ1 am bs ru se pf hd ca evs ln bl1 th1 hM1 a1 r1 true) rfl (by omega) (by omega) (by omega) (fun _ _ hx => hx.elim) (fun v2 σ2 hp2 => ?_)
    obtain ⟨rz, rfl, hrz, ⟨bl2, hM2⟩, hK2, hd2⟩ := hp2
    rw [hO9] at hrz hM2
    obtain ⟨hI2, ho2, hf2⟩ := hI.mk2 hR1 hT1 ho1 hf1 hm1 hM2 hK2 hd2
    show J κ σ2 [(0, .ref b), (1, .ref (ad 0)), (2, .ref (am 0)), (3, .ref o), (4, .ref d), (5, vi ((5 * (j : Int)))), (6, vi (O.1))] 267 [vi (rz)] _ _
    refine j_istore (lv' := [(0, .ref b), (1, .ref (ad 0)), (2, .ref (am 0)), (3, .ref o), (4, .ref d), (5, vi ((5 * (j : Int)))), (6, vi (O.1)), (7, vi (rz))]) [1, 2, 3, 4, 5, 6, 7, 0] C dL_law_267 rfl rfl rfl ?_
    refine j_aload_n 2 C dL_law_269 rfl rfl rfl ?_
    obtain ⟨-, _, _, _, _, _, _, _, _, _, _, _, _, _, _, _, hrc, -⟩ := id hM2
    refine j_callV (st' := []) (As := []) C dL_law_270 rfl m_L_127 hrc rfl rfl rfl (m_thrown (kL κ) hfl (kD κ) (kc κ) σ2 am _ _ _ _ _ _ _ _ bl2 O.1 hM2) rfl (by omega) (by omega) (by omega) (fun _ _ hx => hx.elim) (fun v3 σ3 hp3 => ?_)
    obtain ⟨rfl, hs9⟩ := hp3
    replace hs9 := hs9.symm
    subst hs9
    show J κ σ2 [(0, .ref b), (1, .ref (ad 0)), (2, .ref (am 0)), (3, .ref o), (4, .ref d), (5, vi ((5 * (j : Int)))), (6, vi (O.1)), (7, vi (rz))] 273 [vi (O.1)] _ _
    refine j_iload 6 C dL_law_273 rfl rfl ?_
    refine j_icmp_same (tgt := 280) C dL_law_275 rfl ?_
    refine j_iload 6 C dL_law_280 rfl rfl ?_
    refine j_if_ne (tgt := 297) C dL_law_282 rfl rfl ⟨by omega, by omega⟩ (fun cc3 => ?_) (fun cc3 => ?_)
    · refine j_goto (tgt := 2447) C dL_law_297 rfl ?_
      refine j_locals (lv' := [(0, .ref b), (1, .ref (ad 0)), (2, .ref (am 0)), (3, .ref o), (4, .ref d), (5, vi ((5 * (j : Int))))]) [0, 1, 2, 3, 4, 5] rfl ?_
      exact hB _ _ _ _ _ _ hI2 ha01 (by omega) (by omega)
    · have e8 : vi rz = vi (w32 O.2.1) := by rw [hrz cc3]; exact vi_w _
      rw [e8]
      refine j_aload_n 3 C dL_law_285 rfl rfl rfl ?_
      refine j_iconst C dL_law_286 rfl ?_
      refine j_lald C dL_law_287 rfl ho2 ⟨by decide, by decide⟩ (by decide) (y := w32 O.2.1) (hg1 cc3) ?_
      refine j_iload 7 C dL_law_288 rfl rfl ?_
      refine j_i2l C dL_law_290 rfl (w32_in _) ?_
      refine j_lcmp_same C dL_law_291 rfl ?_
      refine j_if_eq (tgt := 297) C dL_law_292 rfl rfl ⟨by decide, by decide⟩ (fun _ => ?_) (fun cc => absurd cc (by decide))
      refine j_goto (tgt := 2447) C dL_law_297 rfl ?_
      refine j_locals (lv' := [(0, .ref b), (1, .ref (ad 0)), (2, .ref (am 0)), (3, .ref o), (4, .ref d), (5, vi ((5 * (j : Int))))]) [0, 1, 2, 3, 4, 5] rfl ?_
      exact hB _ _ _ _ _ _ hI2 ha01 (by omega) (by omega)
set_option maxHeartbeats 8000000 in
set_option maxRecDepth 20000 in
theorem lc_1 {κ : Kx} {mc ms b L j k n : Nat} {xs : Nat → Int} {σ : Wd} {tg ad am : Nat → Nat} {S : St} {o d : Nat} {Post : Option Value → Wd → Prop} {Exc : String → Wd → Prop} (C : Cx κ cL_law 9 RL "law" 9) (HN : Ncs (kS κ)) (hfl : (kL κ).stackTraces = false) (hxs : ∀ i : Nat, -2147483648 ≤ xs i ∧ xs i < 2147483648) (hX : va_X b L (fun j => Int32.ofInt (xs j)) (kS κ) (kS κ).heap) (hbl : b < (kS κ).heap.size) (hbA : ¬ kA κ b) (hL : L < 2147483648) (hI : LI (kc κ) σ tg ad am S o d) (hj : 5 * j + 5 ≤ L) (hk : k + 1177 ≤ (kR κ).cells) (hn : n + 14084 ≤ (kR κ).slots) (hB : LB κ b o d (ad 0) am j k n) : J κ σ [(0, .ref b), (1, .ref (ad 0)), (2, .ref (am 0)), (3, .ref o), (4, .ref d), (5, vi (5 * (j : Int)))] 300 [] k n := by
  obtain ⟨a1, ha1⟩ : ∃ a, xs (5 * j + 1) = a := ⟨_, rfl⟩
  have r1 : -2147483648 ≤ a1 ∧ a1 < 2147483648 := by rw [← ha1]; exact hxs _
  obtain ⟨a2, ha2⟩ : ∃ a, xs (5 * j + 2) = a := ⟨_, rfl⟩
  have r2 : -2147483648 ≤ a2 ∧ a2 < 2147483648 := by rw [← ha2]; exact hxs _
  obtain ⟨a3, ha3⟩ : ∃ a, xs (5 * j + 3) = a := ⟨_, rfl⟩
  have r3 : -2147483648 ≤ a3 ∧ a3 < 2147483648 := by rw [← ha3]; exact hxs _
  obtain ⟨a4, ha4⟩ : ∃ a, xs (5 * j + 4) = a := ⟨_, rfl⟩
  have r4 : -2147483648 ≤ a4 ∧ a4 < 2147483648 := by rw [← ha4]; exact hxs _
  obtain ⟨bs, ru, se, pf, hd, ca, evs, ln⟩ := S
  have hX0 : RX (kc κ) σ tg ad bs ru se pf hd ca evs ln := hI.1
  have hO := hX0.ok
  obtain ⟨-, -, ⟨g0, hout⟩, ⟨f0, hdub⟩, ⟨to9, td9⟩, -⟩ := id hI
  refine j_aload_n 1 C dL_law_300 rfl rfl rfl ?_
  obtain ⟨⟨x1, x2⟩, hBB, -, -, -, -⟩ := id hX0
  refine j_callV (st' := []) (As := []) C dL_law_301 rfl m_L_131 x1 rfl rfl rfl (c_binCount (kL κ) hfl (kD κ) (kc κ) σ tg ad bs ru se pf hd ca evs ln hX0) rfl (by omega) (by omega) (by omega) (fun _ _ hx => hx.elim) (fun v1 σ1 hp => ?_)
  obtain ⟨rfl, hs9⟩ := hp
  rw [hs9]
  have hR1 := hX0
  have hKK : Keep σ σ (fun y => tg y < 1000 ∨ y = o) := Keep.rf
  have hm1 : ∀ y, y ∈ σ.1 → y ∈ σ.1 := fun _ hy => hy
  obtain ⟨bl1, th1, hM1⟩ := hI.mod (Or.inl rfl) hKK
  have hf1 := hI.dbl hdub hKK
  have ho1 : has σ o (lA (kc κ) 1 g0) := hout
  show J κ σ [(0, .ref b), (1, .ref (ad 0)), (2, .ref (am 0)), (3, .ref o), (4, .ref d), (5, vi ((5 * (j : Int))))] 304 [vi ((bs.length : Int))] _ _
  refine j_aload_n 2 C dL_law_304 rfl rfl rfl ?_
  obtain ⟨-, _, _, _, _, _, _, _, _, _, _, _, _, _, _, _, hrc, -⟩ := id hM1
  refine j_callV (st' := [vi ((bs.length : Int))]) (As := []) C dL_law_305 rfl m_L_134 hrc rfl rfl rfl (m_binCount (kL κ) hfl (kD κ) (kc κ) σ am bs ru se pf hd ca evs ln bl1 th1 hM1) rfl (by omega) (by omega) (by omega) (fun _ _ hx => hx.elim) (fun v2 σ2 hp2 => ?_)
  obtain ⟨rfl, hM2, hK2, hd2⟩ := hp2
  have hM3 : RMs (kc κ) σ2 am (bs, ru, se, pf, hd, ca, evs, ln) bl1 0 := hM2
  obtain ⟨hI2, -, -⟩ := hI.mk2 (S1 := (bs, ru, se, pf, hd, ca, evs, ln)) (tg1 := tg) (ad1 := ad) hR1 (fun _ _ => rfl) ho1 hf1 hm1 hM3 hK2 hd2
  show J κ σ2 [(0, .ref b), (1, .ref (ad 0)), (2, .ref (am 0)), (3, .ref o), (4, .ref d), (5, vi ((5 * (j : Int))))] 308 [vi ((bs.length : Int)), vi ((bs.length : Int))] _ _
  refine j_icmp_same (tgt := 2447) C dL_law_308 rfl ?_
  refine j_locals (lv' := [(0, .ref b), (1, .ref (ad 0)), (2, .ref (am 0)), (3, .ref o), (4, .ref d), (5, vi ((5 * (j : Int))))]) [0, 1, 2, 3, 4, 5] rfl ?_
  exact hB _ _ _ _ _ _ hI2 rfl (by omega) (by omega)
set_option maxHeartbeats 8000000 in
set_option maxRecDepth 20000 in
theorem lc_2 {κ : Kx} {mc ms b L j k n : Nat} {xs : Nat → Int} {σ : Wd} {tg ad am : Nat → Nat} {S : St} {o d : Nat} {Post : Option Value → Wd → Prop} {Exc : String → Wd → Prop} (C : Cx κ cL_law 9 RL "law" 9) (HN : Ncs (kS κ)) (hfl : (kL κ).stackTraces = false) (hxs : ∀ i : Nat, -2147483648 ≤ xs i ∧ xs i < 2147483648) (hX : va_X b L (fun j => Int32.ofInt (xs j)) (kS κ) (kS κ).heap) (hbl : b < (kS κ).heap.size) (hbA : ¬ kA κ b) (hL : L < 2147483648) (hI : LI (kc κ) σ tg ad am S o d) (hj : 5 * j + 5 ≤ L) (hk : k + 1177 ≤ (kR κ).cells) (hn : n + 14084 ≤ (kR κ).slots) (hB : LB κ b o d (ad 0) am j k n) : J κ σ [(0, .ref b), (1, .ref (ad 0)), (2, .ref (am 0)), (3, .ref o), (4, .ref d), (5, vi (5 * (j : Int)))] 313 [] k n := by
  obtain ⟨a1, ha1⟩ : ∃ a, xs (5 * j + 1) = a := ⟨_, rfl⟩
  have r1 : -2147483648 ≤ a1 ∧ a1 < 2147483648 := by rw [← ha1]; exact hxs _
  obtain ⟨a2, ha2⟩ : ∃ a, xs (5 * j + 2) = a := ⟨_, rfl⟩
  have r2 : -2147483648 ≤ a2 ∧ a2 < 2147483648 := by rw [← ha2]; exact hxs _
  obtain ⟨a3, ha3⟩ : ∃ a, xs (5 * j + 3) = a := ⟨_, rfl⟩
  have r3 : -2147483648 ≤ a3 ∧ a3 < 2147483648 := by rw [← ha3]; exact hxs _
  obtain ⟨a4, ha4⟩ : ∃ a, xs (5 * j + 4) = a := ⟨_, rfl⟩
  have r4 : -2147483648 ≤ a4 ∧ a4 < 2147483648 := by rw [← ha4]; exact hxs _
  obtain ⟨bs, ru, se, pf, hd, ca, evs, ln⟩ := S
  have hX0 : RX (kc κ) σ tg ad bs ru se pf hd ca evs ln := hI.1
  have hO := hX0.ok
  obtain ⟨-, -, ⟨g0, hout⟩, ⟨f0, hdub⟩, ⟨to9, td9⟩, -⟩ := id hI
  refine j_aload_n 1 C dL_law_313 rfl rfl rfl ?_
  refine j_aload_n 0 C dL_law_314 rfl rfl rfl ?_
  refine j_iload 5 C dL_law_315 rfl rfl ?_
  refine j_iconst C dL_law_317 rfl ?_
  refine j_iadd C dL_law_318 rfl ?_
  refine j_sld C hX hbl hbA dL_law_319 rfl ⟨by omega, by omega⟩ (by omega) (y := a1) (by rw [show (5 * (j : Int) + 1).toNat = 5 * j + 1 by omega]; exact ha1) ?_
  refine j_aload_n 3 C dL_law_320 rfl rfl rfl ?_
  refine j_callSN (st' := []) (As := [.ref (ad 0), vi (a1), .ref o]) C HN dL_law_321 rfl m_L_135 rfl rfl (W_capacityOf (kL κ) hfl (kD κ) (kc κ) σ tg ad bs ru se pf hd ca evs ln hX0 o g0 hout (by omega) a1 r1) rfl (by omega) (by omega) (by omega) (fun _ _ hx => hx.elim) (fun v1 σ1 hp => ?_)
  obtain ⟨rfl, ⟨tg1, ad1, hR1, hT1, ha01⟩, ⟨g1, ho1, hg1⟩, hK1, hm1⟩ := hp
  have hcr := cr_capacityOf bs ru se pf hd ca evs ln a1
  obtain ⟨O, hO9⟩ : ∃ O : Rs, o_capacityOf bs ru se pf hd ca evs ln a1 = O := ⟨_, rfl⟩
  show J κ σ1 [(0, .ref b), (1, .ref (ad 0)), (2, .ref (am 0)), (3, .ref o), (4, .ref d), (5, vi ((5 * (j : Int))))] 324 [vi (o_capacityOf bs ru se pf hd ca evs ln a1).1] _ _
  rw [hO9] at hR1 hg1 hcr ⊢
  obtain ⟨bl1, th1, hM1⟩ := hI.mod (Or.inl rfl) hK1
  have hf1 := hI.dbl hdub hK1
  show J κ σ1 [(0, .ref b), (1, .ref (ad 0)), (2, .ref (am 0)), (3, .ref o), (4, .ref d), (5, vi ((5 * (j : Int))))] 324 [vi (O.1)] _ _
  refine j_istore (lv' := [(0, .ref b), (1, .ref (ad 0)), (2, .ref (am 0)), (3, .ref o), (4, .ref d), (5, vi ((5 * (j : Int)))), (6, vi (O.1))]) [1, 2, 3, 4, 5, 6, 0] C dL_law_324 rfl rfl rfl ?_
  refine j_aload_n 2 C dL_law_326 rfl rfl rfl ?_
  refine j_aload_n 0 C dL_law_327 rfl rfl rfl ?_
  refine j_iload 5 C dL_law_328 rfl rfl ?_
  refine j_iconst C dL_law_330 rfl ?_
  refine j_iadd C dL_law_331 rfl ?_
  refine j_sld C hX hbl hbA dL_law_332 rfl ⟨by omega, by omega⟩ (by omega) (y := a1) (by rw [show (5 * (j : Int) + 1).toNat = 5 * j + 1 by omega]; exact ha1) ?_
  obtain ⟨-, _, _, _, _, _, _, _, _, _, _, _, _, _, _, _, hrc, -⟩ := id hM1
  refine j_callV (st' := []) (As := [vi (a1)]) C dL_law_333 rfl m_L_138 hrc rfl rfl rfl (m_capacityOf (kL κ) hfl (kD κ) (kc κ) σ1 am bs ru se pf hd ca evs ln bl1 th1 hM1 a1 r1) rfl (by omega) (by omega) (by omega) (fun _ _ hx => hx.elim) (fun v2 σ2 hp2 => ?_)
  obtain ⟨rz, rfl, hrz, ⟨bl2, hM2⟩, hK2, hd2⟩ := hp2
  rw [hO9] at hrz hM2
  obtain ⟨hI2, ho2, hf2⟩ := hI.mk2 hR1 hT1 ho1 hf1 hm1 hM2 hK2 hd2
  show J κ σ2 [(0, .ref b), (1, .ref (ad 0)), (2, .ref (am 0)), (3, .ref o), (4, .ref d), (5, vi ((5 * (j : Int)))), (6, vi (O.1))] 336 [vi (rz)] _ _
  refine j_istore (lv' := [(0, .ref b), (1, .ref (ad 0)), (2, .ref (am 0)), (3, .ref o), (4, .ref d), (5, vi ((5 * (j : Int)))), (6, vi (O.1)), (7, vi (rz))]) [1, 2, 3, 4, 5, 6, 7, 0] C dL_law_336 rfl rfl rfl ?_
  refine j_aload_n 2 C dL_law_338 rfl rfl rfl ?_
  obtain ⟨-, _, _, _, _, _, _, _, _, _, _, _, _, _, _, _, hrc, -⟩ := id hM2
  refine j_callV (st' := []) (As := []) C dL_law_339 rfl m_L_127 hrc rfl rfl rfl (m_thrown (kL κ) hfl (kD κ) (kc κ) σ2 am _ _ _ _ _ _ _ _ bl2 O.1 hM2) rfl (by omega) (by omega) (by omega) (fun _ _ hx => hx.elim) (fun v3 σ3 hp3 => ?_)
  obtain ⟨rfl, hs9⟩ := hp3
  replace hs9 := hs9.symm
  subst hs9
  show J κ σ2 [(0, .ref b), (1, .ref (ad 0)), (2, .ref (am 0)), (3, .ref o), (4, .ref d), (5, vi ((5 * (j : Int)))), (6, vi (O.1)), (7, vi (rz))] 342 [vi (O.1)] _ _
  refine j_iload 6 C dL_law_342 rfl rfl ?_
  refine j_icmp_same (tgt := 349) C dL_law_344 rfl ?_
  refine j_iload 6 C dL_law_349 rfl rfl ?_
  refine j_if_ne (tgt := 366) C dL_law_351 rfl rfl ⟨by omega, by omega⟩ (fun cc1 => ?_) (fun cc1 => ?_)
  · refine j_goto (tgt := 2447) C dL_law_366 rfl ?_
    refine j_locals (lv' := [(0, .ref b), (1, .ref (ad 0)), (2, .ref (am 0)), (3, .ref o), (4, .ref d), (5, vi ((5 * (j : Int))))]) [0, 1, 2, 3, 4, 5] rfl ?_
    exact hB _ _ _ _ _ _ hI2 ha01 (by omega) (by omega)
  · have e8 : vi rz = vi (w32 O.2.1) := by rw [hrz cc1]; exact vi_w _
    rw [e8]
    refine j_aload_n 3 C dL_law_354 rfl rfl rfl ?_
    refine j_iconst C dL_law_355 rfl ?_
    refine j_lald C dL_law_356 rfl ho2 ⟨by decide, by decide⟩ (by decide) (y := w32 O.2.1) (hg1 cc1) ?_
    refine j_iload 7 C dL_law_357 rfl rfl ?_
    refine j_i2l C dL_law_359 rfl (w32_in _) ?_
    refine j_lcmp_same C dL_law_360 rfl ?_
    refine j_if_eq (tgt := 366) C dL_law_361 rfl rfl ⟨by decide, by decide⟩ (fun _ => ?_) (fun cc => absurd cc (by decide))
    refine j_goto (tgt := 2447) C dL_law_366 rfl ?_
    refine j_locals (lv' := [(0, .ref b), (1, .ref (ad 0)), (2, .ref (am 0)), (3, .ref o), (4, .ref d), (5, vi ((5 * (j : Int))))]) [0, 1, 2, 3, 4, 5] rfl ?_
    exact hB _ _ _ _ _ _ hI2 ha01 (by omega) (by omega)
set_option maxHeartbeats 8000000 in
set_option maxRecDepth 20000 in
theorem lc_25 {κ : Kx} {mc ms b L j k n : Nat} {xs : Nat → Int} {σ : Wd} {tg ad am : Nat → Nat} {S : St} {o d : Nat} {Post : Option Value → Wd → Prop} {Exc : String → Wd → Prop} (C : Cx κ cL_law 9 RL "law" 9) (HN : Ncs (kS κ)) (hfl : (kL κ).stackTraces = false) (hxs : ∀ i : Nat, -2147483648 ≤ xs i ∧ xs i < 2147483648) (hX : va_X b L (fun j => Int32.ofInt (xs j)) (kS κ) (kS κ).heap) (hbl : b < (kS κ).heap.size) (hbA : ¬ kA κ b) (hL : L < 2147483648) (hI : LI (kc κ) σ tg ad am S o d) (hj : 5 * j + 5 ≤ L) (hk : k + 1177 ≤ (kR κ).cells) (hn : n + 14084 ≤ (kR κ).slots) (hB : LB κ b o d (ad 0) am j k n) : J κ σ [(0, .ref b), (1, .ref (ad 0)), (2, .ref (am 0)), (3, .ref o), (4, .ref d), (5, vi (5 * (j : Int)))] 1968 [] k n := by
  obtain ⟨a1, ha1⟩ : ∃ a, xs (5 * j + 1) = a := ⟨_, rfl⟩
  have r1 : -2147483648 ≤ a1 ∧ a1 < 2147483648 := by rw [← ha1]; exact hxs _
  obtain ⟨a2, ha2⟩ : ∃ a, xs (5 * j + 2) = a := ⟨_, rfl⟩
  have r2 : -2147483648 ≤ a2 ∧ a2 < 2147483648 := by rw [← ha2]; exact hxs _
  obtain ⟨a3, ha3⟩ : ∃ a, xs (5 * j + 3) = a := ⟨_, rfl⟩
  have r3 : -2147483648 ≤ a3 ∧ a3 < 2147483648 := by rw [← ha3]; exact hxs _
  obtain ⟨a4, ha4⟩ : ∃ a, xs (5 * j + 4) = a := ⟨_, rfl⟩
  have r4 : -2147483648 ≤ a4 ∧ a4 < 2147483648 := by rw [← ha4]; exact hxs _
  obtain ⟨bs, ru, se, pf, hd, ca, evs, ln⟩ := S
  have hX0 : RX (kc κ) σ tg ad bs ru se pf hd ca evs ln := hI.1
  have hO := hX0.ok
  obtain ⟨-, -, ⟨g0, hout⟩, ⟨f0, hdub⟩, ⟨to9, td9⟩, -⟩ := id hI
  refine j_aload_n 1 C dL_law_1968 rfl rfl rfl ?_
  refine j_aload_n 0 C dL_law_1969 rfl rfl rfl ?_
  refine j_iload 5 C dL_law_1970 rfl rfl ?_
  refine j_iconst C dL_law_1972 rfl ?_
  refine j_iadd C dL_law_1973 rfl ?_
  refine j_sld C hX hbl hbA dL_law_1974 rfl ⟨by omega, by omega⟩ (by omega) (y := a1) (by rw [show (5 * (j : Int) + 1).toNat = 5 * j + 1 by omega]; exact ha1) ?_
  refine j_aload_n 0 C dL_law_1975 rfl rfl rfl ?_
  refine j_iload 5 C dL_law_1976 rfl rfl ?_
  refine j_iconst C dL_law_1978 rfl ?_
  refine j_iadd C dL_law_1979 rfl ?_
  refine j_sld C hX hbl hbA dL_law_1980 rfl ⟨by omega, by omega⟩ (by omega) (y := a2) (by rw [show (5 * (j : Int) + 2).toNat = 5 * j + 2 by omega]; exact ha2) ?_
  refine j_aload_n 0 C dL_law_1981 rfl rfl rfl ?_
  refine j_iload 5 C dL_law_1982 rfl rfl ?_
  refine j_iconst C dL_law_1984 rfl ?_
  refine j_iadd C dL_law_1985 rfl ?_
  refine j_sld C hX hbl hbA dL_law_1986 rfl ⟨by omega, by omega⟩ (by omega) (y := a3) (by rw [show (5 * (j : Int) + 3).toNat = 5 * j + 3 by omega]; exact ha3) ?_
  refine j_aload_n 0 C dL_law_1987 rfl rfl rfl ?_
  refine j_iload 5 C dL_law_1988 rfl rfl ?_
  refine j_iconst C dL_law_1990 rfl ?_
  refine j_iadd C dL_law_1991 rfl ?_
  refine j_sld C hX hbl hbA dL_law_1992 rfl ⟨by omega, by omega⟩ (by omega) (y := a4) (by rw [show (5 * (j : Int) + 4).toNat = 5 * j + 4 by omega]; exact ha4) ?_
  refine j_aload_n 3 C dL_law_1993 rfl rfl rfl ?_
  refine j_callSN (st' := []) (As := [.ref (ad 0), vi (a1), vi (a2), vi (a3), vi (a4), .ref o]) C HN dL_law_1994 rfl m_L_209 rfl rfl (W_sellBlend (kL κ) hfl (kD κ) (kc κ) σ tg ad bs ru se pf hd ca evs ln hX0 o g0 hout (by omega) a1 r1 a2 r2 a3 r3 a4 r4) rfl (by omega) (by omega) (by omega) (fun _ _ hx => hx.elim) (fun v1 σ1 hp => ?_)
  obtain ⟨rfl, ⟨tg1, ad1, hR1, hT1, ha01⟩, ⟨g1, ho1, hg1⟩, hK1, hm1⟩ := hp
  have hcr := cr_sellBlend bs ru se pf hd ca evs ln a1 a2 a3 a4
  obtain ⟨O, hO9⟩ : ∃ O : Rs, o_sellBlend bs ru se pf hd ca evs ln a1 a2 a3 a4 = O := ⟨_, rfl⟩
  show J κ σ1 [(0, .ref b), (1, .ref (ad 0)), (2, .ref (am 0)), (3, .ref o), (4, .ref d), (5, vi ((5 * (j : Int))))] 1997 [vi (o_sellBlend bs ru se pf hd ca evs ln a1 a2 a3 a4).1] _ _
  rw [hO9] at hR1 hg1 hcr ⊢
  obtain ⟨bl1, th1, hM1⟩ := hI.mod (Or.inl rfl) hK1
  have hf1 := hI.dbl hdub hK1
  show J κ σ1 [(0, .ref b), (1, .ref (ad 0)), (2, .ref (am 0)), (3, .ref o), (4, .ref d), (5, vi ((5 * (j : Int))))] 1997 [vi (O.1)] _ _
  refine j_istore (lv' := [(0, .ref b), (1, .ref (ad 0)), (2, .ref (am 0)), (3, .ref o), (4, .ref d), (5, vi ((5 * (j : Int)))), (6, vi (O.1))]) [1, 2, 3, 4, 5, 6, 0] C dL_law_1997 rfl rfl rfl ?_
  refine j_aload_n 2 C dL_law_1999 rfl rfl rfl ?_
  refine j_aload_n 0 C dL_law_2000 rfl rfl rfl ?_
  refine j_iload 5 C dL_law_2001 rfl rfl ?_
  refine j_iconst C dL_law_2003 rfl ?_
  refine j_iadd C dL_law_2004 rfl ?_
  refine j_sld C hX hbl hbA dL_law_2005 rfl ⟨by omega, by omega⟩ (by omega) (y := a1) (by rw [show (5 * (j : Int) + 1).toNat = 5 * j + 1 by omega]; exact ha1) ?_
  refine j_aload_n 0 C dL_law_2006 rfl rfl rfl ?_
  refine j_iload 5 C dL_law_2007 rfl rfl ?_
  refine j_iconst C dL_law_2009 rfl ?_
  refine j_iadd C dL_law_2010 rfl ?_
  refine j_sld C hX hbl hbA dL_law_2011 rfl ⟨by omega, by omega⟩ (by omega) (y := a2) (by rw [show (5 * (j : Int) + 2).toNat = 5 * j + 2 by omega]; exact ha2) ?_
  refine j_aload_n 0 C dL_law_2012 rfl rfl rfl ?_
  refine j_iload 5 C dL_law_2013 rfl rfl ?_
  refine j_iconst C dL_law_2015 rfl ?_
  refine j_iadd C dL_law_2016 rfl ?_
  refine j_sld C hX hbl hbA dL_law_2017 rfl ⟨by omega, by omega⟩ (by omega) (y := a3) (by rw [show (5 * (j : Int) + 3).toNat = 5 * j + 3 by omega]; exact ha3) ?_
  refine j_aload_n 0 C dL_law_2018 rfl rfl rfl ?_
  refine j_iload 5 C dL_law_2019 rfl rfl ?_
  refine j_iconst C dL_law_2021 rfl ?_
  refine j_iadd C dL_law_2022 rfl ?_
  refine j_sld C hX hbl hbA dL_law_2023 rfl ⟨by omega, by omega⟩ (by omega) (y := a4) (by rw [show (5 * (j : Int) + 4).toNat = 5 * j + 4 by omega]; exact ha4) ?_
  obtain ⟨-, _, _, _, _, _, _, _, _, _, _, _, _, _, _, _, hrc, -⟩ := id hM1
  refine j_callV (st' := []) (As := [vi (a1), vi (a2), vi (a3), vi (a4)]) C dL_law_2024 rfl m_L_211 hrc rfl rfl rfl (m_sellBlend (kL κ) hfl (kD κ) (kc κ) σ1 am bs ru se pf hd ca evs ln bl1 th1 hM1 a1 r1 a2 r2 a3 r3 a4 r4 hO) rfl (by omega) (by omega) (by omega) (fun _ _ hx => hx.elim) (fun v2 σ2 hp2 => ?_)
  obtain ⟨rz, rfl, hrz, ⟨bl2, hM2⟩, hK2, hd2⟩ := hp2
  rw [hO9] at hrz hM2
  obtain ⟨hI2, ho2, hf2⟩ := hI.mk2 hR1 hT1 ho1 hf1 hm1 hM2 hK2 hd2
  show J κ σ2 [(0, .ref b), (1, .ref (ad 0)), (2, .ref (am 0)), (3, .ref o), (4, .ref d), (5, vi ((5 * (j : Int)))), (6, vi (O.1))] 2027 [vi (rz)] _ _
  refine j_istore (lv' := [(0, .ref b), (1, .ref (ad 0)), (2, .ref (am 0)), (3, .ref o), (4, .ref d), (5, vi ((5 * (j : Int)))), (6, vi (O.1)), (7, vi (rz))]) [1, 2, 3, 4, 5, 6, 7, 0] C dL_law_2027 rfl rfl rfl ?_
  refine j_aload_n 2 C dL_law_2029 rfl rfl rfl ?_
  obtain ⟨-, _, _, _, _, _, _, _, _, _, _, _, _, _, _, _, hrc, -⟩ := id hM2
  refine j_callV (st' := []) (As := []) C dL_law_2030 rfl m_L_127 hrc rfl rfl rfl (m_thrown (kL κ) hfl (kD κ) (kc κ) σ2 am _ _ _ _ _ _ _ _ bl2 O.1 hM2) rfl (by omega) (by omega) (by omega) (fun _ _ hx => hx.elim) (fun v3 σ3 hp3 => ?_)
  obtain ⟨rfl, hs9⟩ := hp3
  replace hs9 := hs9.symm
  subst hs9
  show J κ σ2 [(0, .ref b), (1, .ref (ad 0)), (2, .ref (am 0)), (3, .ref o), (4, .ref d), (5, vi ((5 * (j : Int)))), (6, vi (O.1)), (7, vi (rz))] 2033 [vi (O.1)] _ _
  refine j_iload 6 C dL_law_2033 rfl rfl ?_
  refine j_icmp_same (tgt := 2040) C dL_law_2035 rfl ?_
  refine j_iload 6 C dL_law_2040 rfl rfl ?_
  refine j_if_ne (tgt := 2057) C dL_law_2042 rfl rfl ⟨by omega, by omega⟩ (fun cc1 => ?_) (fun cc1 => ?_)
  · refine j_goto (tgt := 2447) C dL_law_2057 rfl ?_
    refine j_locals (lv' := [(0, .ref b), (1, .ref (ad 0)), (2, .ref (am 0)), (3, .ref o), (4, .ref d), (5, vi ((5 * (j : Int))))]) [0, 1, 2, 3, 4, 5] rfl ?_
    exact hB _ _ _ _ _ _ hI2 ha01 (by omega) (by omega)
  · have e8 : vi rz = vi (w32 O.2.1) := by rw [hrz cc1]; exact vi_w _
    rw [e8]
    refine j_aload_n 3 C dL_law_2045 rfl rfl rfl ?_
    refine j_iconst C dL_law_2046 rfl ?_
    refine j_lald C dL_law_2047 rfl ho2 ⟨by decide, by decide⟩ (by decide) (y := w32 O.2.1) (hg1 cc1) ?_
    refine j_iload 7 C dL_law_2048 rfl rfl ?_
    refine j_i2l C dL_law_2050 rfl (w32_in _) ?_
    refine j_lcmp_same C dL_law_2051 rfl ?_
    refine j_if_eq (tgt := 2057) C dL_law_2052 rfl rfl ⟨by decide, by decide⟩ (fun _ => ?_) (fun cc => absurd cc (by decide))
    refine j_goto (tgt := 2447) C dL_law_2057 rfl ?_
    refine j_locals (lv' := [(0, .ref b), (1, .ref (ad 0)), (2, .ref (am 0)), (3, .ref o), (4, .ref d), (5, vi ((5 * (j : Int))))]) [0, 1, 2, 3, 4, 5] rfl ?_
    exact hB _ _ _ _ _ _ hI2 ha01 (by omega) (by omega)
