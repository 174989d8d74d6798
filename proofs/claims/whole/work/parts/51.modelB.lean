/-! GrainElevatorModel: addBin, writeBin, worth, its start -/
def o_writeBin (bs : List Bn) (ru : Nat → Int × Int) (se : Int) (pf : Nat → Int) (hd : Hd) (ca : Int) (evs : List Evt) (ln : List Int) (b : Int) : Rs := if b < 0 ∨ (bs.length : Int) ≤ b then (1, 0, (bs, ru, se, pf, hd, ca, evs, ln)) else (0, ((lnF (fl (gB bs b))).length : Int), (bs, ru, se, pf, hd, ca, evs, lnF (fl (gB bs b))))
theorem BnM.add {bs : List Bn} {gc gm gz gb go gf gg : Nat → Int} (h : BnM bs gc gm gz gb go gf gg) (hl : bs.length < 6) (c : Int) (m : Bool) {k : Nat} (hk : k = bs.length) : BnM (bs ++ [(c, m, [])]) (ups gc k c) gm (ups gz k (b01 m)) gb go gf gg := by
  subst hk
  obtain ⟨h6, h0, h1⟩ := h
  have hlen : (bs ++ [(c, m, [])]).length = bs.length + 1 := by rw [List.length_append]; rfl
  refine ⟨by omega, fun i hi hn => h0 i hi (by omega), fun i hi => ?_⟩
  rw [hlen] at hi
  by_cases d : i = bs.length
  · subst d
    have e : gB (bs ++ [(c, m, [])]) (bs.length : Int) = (c, m, []) := by
      unfold gB
      rw [Int.toNat_natCast, List.getD_eq_getElem?_getD, List.getElem?_append_right (Nat.le_refl _), Nat.sub_self]
      rfl
    rw [e]
    exact ⟨⟨ups_s, ups_s⟩, ⟨h0 _ hl (Nat.le_refl _), Nat.zero_le _⟩, rfl⟩
  · have e : gB (bs ++ [(c, m, [])]) (i : Int) = gB bs i := gB_snoc (by omega) (by omega)
    rw [e, ups_n d, ups_n d]
    exact h1 i (by omega)
theorem bl1 (bs : List Bn) (x : Bn) : ((bs.length : Int) + 1) = (((bs ++ [x]).length : Nat) : Int) := by rw [List.length_append]; rfl
theorem nar_b01 (m : Bool) : vp_nar .boolean (Int32.ofInt (b01 m)) = Int32.ofInt (b01 m) := by cases m <;> decide
theorem LiM.nil (gl : Nat → Int) : LiM [] gl := ⟨by decide, fun i hi => absurd hi (Nat.not_lt_zero _)⟩
set_option maxHeartbeats 4000000 in
set_option maxRecDepth 20000 in
theorem m_addBin (l : Launch) (hfl : l.stackTraces = false) (D : va_G) (cy : Nat → Nat) (σ : Wd) (am : Nat → Nat) (bs : List Bn) (ru : Nat → Int × Int) (se : Int) (pf : Nat → Int) (hd : Hd) (ca : Int) (evs : List Evt) (ln : List Int) (bl : Int × Int × Int) (th : Int) (hM : RM cy σ am bs ru se pf hd ca evs ln bl th) (c : Int) (hc9 : (-2147483648 ≤ c ∧ c < 2147483648)) (m : Bool) : Ct l yX7_addBin cX7_addBin 3 (some .int) 2 0 0 D cy [.ref (am 0), vi (c), vi (b01 m)] σ (fun v σ' => ∃ rz : Int, v = some (vi rz) ∧ ((o_addBin bs ru se pf hd ca evs ln c m).1 = 0 → rz = (o_addBin bs ru se pf hd ca evs ln c m).2.1) ∧ (∃ bl', RMs cy σ' am (o_addBin bs ru se pf hd ca evs ln c m).2.2 bl' (o_addBin bs ru se pf hd ca evs ln c m).1) ∧ Keep σ σ' (inM am) ∧ σ'.1 = σ.1) noX := by
  refine ct_start (by decide +kernel) hfl rfl (fun κ e1 e2 e3 C E NH => ?_)
  subst e1 e2 e3
  have C : Cx κ cX7_addBin 3 RX7 "addBin" 2 := C
  obtain ⟨-, -, -, -, hc, hs⟩ := id E
  show J κ σ [(0, .ref (am 0)), (1, vi (c)), (2, vi (b01 m))] 0 [] 0 0
  obtain ⟨hI1, gc1, gm1, gr1, gp1, gb1, go1, gf1, gg1, gt1, gz1, gk1, gl1, _, _, _, h01, ⟨hgc1, hgm1, hgr1, hgp1, hgb1, hgo1, hgf1, hgg1, hgt1, hgz1, hgk1, hgl1⟩, ⟨rfl, rfl, rfl⟩, hBn1, hRu1, hPr1, hTr1, hKi1, hLi1⟩ := id hM
  have hI := hI1
  have hnb61 := hBn1.1
  have kp0 : Keep σ σ (inM am) := Keep.rf
  have dm0 : σ.1 = σ.1 := rfl
  have hnb := hBn1.1
  refine j_aload_n 0 C dX7_addBin_0 rfl rfl rfl ?_
  refine j_iload_n 1 C dX7_addBin_1 rfl rfl rfl ?_
  refine j_iconst C dX7_addBin_2 rfl ?_
  refine j_sipush C dX7_addBin_3 rfl (by decide) ?_
  refine j_callS (st' := [.ref (am 0)]) (As := [vi (c), vi (1), vi (5000)]) C dX7_addBin_6 rfl m_X7_58 rfl rfl (c_isIn (kL κ) hfl (kD κ) (kc κ) σ c 1 5000 ⟨by omega, by omega⟩ ⟨by omega, by omega⟩ ⟨by omega, by omega⟩) rfl (by omega) (by omega) (by omega) (fun _ _ hx => hx.elim) (fun v3 τ2 hp4 => ?_)
  obtain ⟨rfl, hs9⟩ := hp4
  replace hs9 := hs9.symm
  subst hs9
  show J κ σ [(0, .ref (am 0)), (1, vi (c)), (2, vi (b01 m))] 9 [vi ((inI c 1 5000)), .ref (am 0)] _ _
  refine j_if_ne (tgt := 16) C dX7_addBin_9 rfl rfl (inI_r _ _ _) (fun cc5 => ?_) (fun cc5 => ?_)
  · replace cc5 := inI_T cc5
    refine j_iconst C dX7_addBin_16 rfl ?_
    refine j_iconst C dX7_addBin_17 rfl ?_
    refine j_callV (st' := []) (As := [vi (0), vi (1)]) C dX7_addBin_18 rfl m_X7_62 h01 rfl rfl rfl (c_thr0 (kL κ) hfl (kD κ) (kc κ) σ am bs ru se pf hd ca evs ln bl th hM 1) rfl (by omega) (by omega) (by omega) (fun _ _ hx => hx.elim) (fun v7 τ6 hp8 => ?_)
    obtain ⟨rfl, hN9, hN9k, hN9d⟩ := hp8
    show J κ τ6 [(0, .ref (am 0)), (1, vi (c)), (2, vi (b01 m))] 21 [vi (0)] _ _
    have hN9K := kp0.tr hN9k
    have hN9D := hN9d.trans dm0
    obtain ⟨hI10, gc10, gm10, gr10, gp10, gb10, go10, gf10, gg10, gt10, gz10, gk10, gl10, _, _, _, h010, ⟨hgc10, hgm10, hgr10, hgp10, hgb10, hgo10, hgf10, hgg10, hgt10, hgz10, hgk10, hgl10⟩, ⟨rfl, rfl, rfl⟩, hBn10, hRu10, hPr10, hTr10, hKi10, hLi10⟩ := id hN9
    have hI := hI10
    have hnb610 := hBn10.1
    refine j_if_ne (tgt := 46) C dX7_addBin_21 rfl rfl ⟨by omega, by omega⟩ (fun cc11 => absurd cc11 (by decide)) (fun _ => ?_)
    refine j_aload_n 0 C dX7_addBin_24 rfl rfl rfl ?_
    refine j_aload_n 0 C dX7_addBin_25 rfl rfl rfl ?_
    refine j_get C dX7_addBin_26 rfl fg_X7_55 h010 rfl ?_
    refine j_bipush C dX7_addBin_29 rfl (by decide) ?_
    refine j_icmp_ne (tgt := 38) C dX7_addBin_31 rfl rfl ⟨by omega, by omega⟩ ⟨by omega, by omega⟩ (fun cc12 => ?_) (fun cc12 => ?_)
    · refine j_iconst C dX7_addBin_38 rfl ?_
      refine j_iconst C dX7_addBin_39 rfl ?_
      refine j_callV (st' := []) (As := [vi (0), vi (2)]) C dX7_addBin_40 rfl m_X7_62 h010 rfl rfl rfl (c_thr0 (kL κ) hfl (kD κ) (kc κ) τ6 am bs ru se pf hd ca evs ln bl 0 hN9 2) rfl (by omega) (by omega) (by omega) (fun _ _ hx => hx.elim) (fun v14 τ13 hp15 => ?_)
      obtain ⟨rfl, hN16, hN16k, hN16d⟩ := hp15
      show J κ τ13 [(0, .ref (am 0)), (1, vi (c)), (2, vi (b01 m))] 43 [vi (0)] _ _
      have hN16K := hN9K.tr hN16k
      have hN16D := hN16d.trans hN9D
      obtain ⟨hI17, gc17, gm17, gr17, gp17, gb17, go17, gf17, gg17, gt17, gz17, gk17, gl17, _, _, _, h017, ⟨hgc17, hgm17, hgr17, hgp17, hgb17, hgo17, hgf17, hgg17, hgt17, hgz17, hgk17, hgl17⟩, ⟨rfl, rfl, rfl⟩, hBn17, hRu17, hPr17, hTr17, hKi17, hLi17⟩ := id hN16
      have hI := hI17
      have hnb617 := hBn17.1
      refine j_if_eq (tgt := 48) C dX7_addBin_43 rfl rfl ⟨by omega, by omega⟩ (fun _ => ?_) (fun cc18 => absurd cc18 (by decide))
      refine j_aload_n 0 C dX7_addBin_48 rfl rfl rfl ?_
      refine j_get C dX7_addBin_49 rfl fg_X7_9 h017 rfl ?_
      refine j_aload_n 0 C dX7_addBin_52 rfl rfl rfl ?_
      refine j_get C dX7_addBin_53 rfl fg_X7_55 h017 rfl ?_
      refine j_iload_n 1 C dX7_addBin_56 rfl rfl rfl ?_
      refine j_iast C dX7_addBin_57 rfl hgc17 ⟨by omega, by omega⟩ (by omega) (fun τ19 ee20 => ?_)
      have u21 := h017.ne' ee20 (hI 0 1 (by decide) (by decide) (by decide))
      have u22 : has τ19 (am 1) (iA (kc κ) 6 (ups gc17 (bs.length : Int).toNat c)) := hgc17.self' ee20
      have u23 := hgm17.ne' ee20 (hI 2 1 (by decide) (by decide) (by decide))
      have u24 := hgr17.ne' ee20 (hI 3 1 (by decide) (by decide) (by decide))
      have u25 := hgp17.ne' ee20 (hI 4 1 (by decide) (by decide) (by decide))
      have u26 := hgb17.ne' ee20 (hI 5 1 (by decide) (by decide) (by decide))
      have u27 := hgo17.ne' ee20 (hI 6 1 (by decide) (by decide) (by decide))
      have u28 := hgf17.ne' ee20 (hI 7 1 (by decide) (by decide) (by decide))
      have u29 := hgg17.ne' ee20 (hI 8 1 (by decide) (by decide) (by decide))
      have u30 := hgt17.ne' ee20 (hI 9 1 (by decide) (by decide) (by decide))
      have u31 := hgz17.ne' ee20 (hI 10 1 (by decide) (by decide) (by decide))
      have u32 := hgk17.ne' ee20 (hI 11 1 (by decide) (by decide) (by decide))
      have u33 := hgl17.ne' ee20 (hI 12 1 (by decide) (by decide) (by decide))
      have kp34 := hN16K.put ee20 ⟨1, by decide, rfl⟩
      have dm35 := (dom_put ee20).trans hN16D
      refine j_aload_n 0 C dX7_addBin_58 rfl rfl rfl ?_
      refine j_get C dX7_addBin_59 rfl fg_X7_37 u21 rfl ?_
      refine j_aload_n 0 C dX7_addBin_62 rfl rfl rfl ?_
      refine j_get C dX7_addBin_63 rfl fg_X7_55 u21 rfl ?_
      refine j_iload_n 2 C dX7_addBin_66 rfl rfl rfl ?_
      refine j_zast C dX7_addBin_67 rfl u31 ⟨by omega, by omega⟩ (by omega) (nar_b01 m) (fun τ36 ee37 => ?_)
      have u38 := u21.ne' ee37 (hI 0 10 (by decide) (by decide) (by decide))
      have u39 := u22.ne' ee37 (hI 1 10 (by decide) (by decide) (by decide))
      have u40 := u23.ne' ee37 (hI 2 10 (by decide) (by decide) (by decide))
      have u41 := u24.ne' ee37 (hI 3 10 (by decide) (by decide) (by decide))
      have u42 := u25.ne' ee37 (hI 4 10 (by decide) (by decide) (by decide))
      have u43 := u26.ne' ee37 (hI 5 10 (by decide) (by decide) (by decide))
      have u44 := u27.ne' ee37 (hI 6 10 (by decide) (by decide) (by decide))
      have u45 := u28.ne' ee37 (hI 7 10 (by decide) (by decide) (by decide))
      have u46 := u29.ne' ee37 (hI 8 10 (by decide) (by decide) (by decide))
      have u47 := u30.ne' ee37 (hI 9 10 (by decide) (by decide) (by decide))
      have u48 : has τ36 (am 10) (zA (kc κ) 6 (ups gz17 (bs.length : Int).toNat (b01 m))) := u31.self' ee37
      have u49 := u32.ne' ee37 (hI 11 10 (by decide) (by decide) (by decide))
      have u50 := u33.ne' ee37 (hI 12 10 (by decide) (by decide) (by decide))
      have kp51 := kp34.put ee37 ⟨10, by decide, rfl⟩
      have dm52 := (dom_put ee37).trans dm35
      refine j_aload_n 0 C dX7_addBin_68 rfl rfl rfl ?_
      refine j_dup C dX7_addBin_69 rfl rfl ?_
      refine j_get C dX7_addBin_70 rfl fg_X7_55 u38 rfl ?_
      refine j_iconst C dX7_addBin_73 rfl ?_
      refine j_iadd C dX7_addBin_74 rfl ?_
      refine j_put (fs' := [.ref (am 1), .ref (am 2), .ref (am 3), .ref (am 4), .ref (am 5), .ref (am 6), .ref (am 7), .ref (am 8), .ref (am 9), .ref (am 10), .ref (am 11), .ref (am 12), vi ((bs.length : Int) + 1), vi (se), vi ((evs.length : Int)), vi (hd.2.1), vi (hd.2.2.2.1), vi (hd.2.2.1), vi ((ln.length : Int)), vi (bl.1), vi (bl.2.1), vi (bl.2.2), vi (0), vl (hd.2.2.2.2), vl (ca)]) C dX7_addBin_75 rfl fa_X7_55 u38 rfl rfl rfl rfl (fun τ53 ee54 => ?_)
      have u55 : has τ53 (am 0) (.inr (7, [.ref (am 1), .ref (am 2), .ref (am 3), .ref (am 4), .ref (am 5), .ref (am 6), .ref (am 7), .ref (am 8), .ref (am 9), .ref (am 10), .ref (am 11), .ref (am 12), vi ((bs.length : Int) + 1), vi (se), vi ((evs.length : Int)), vi (hd.2.1), vi (hd.2.2.2.1), vi (hd.2.2.1), vi ((ln.length : Int)), vi (bl.1), vi (bl.2.1), vi (bl.2.2), vi (0), vl (hd.2.2.2.2), vl (ca)])) := u38.self' ee54
      have u56 := u39.ne' ee54 (hI 1 0 (by decide) (by decide) (by decide))
      have u57 := u40.ne' ee54 (hI 2 0 (by decide) (by decide) (by decide))
      have u58 := u41.ne' ee54 (hI 3 0 (by decide) (by decide) (by decide))
      have u59 := u42.ne' ee54 (hI 4 0 (by decide) (by decide) (by decide))
      have u60 := u43.ne' ee54 (hI 5 0 (by decide) (by decide) (by decide))
      have u61 := u44.ne' ee54 (hI 6 0 (by decide) (by decide) (by decide))
      have u62 := u45.ne' ee54 (hI 7 0 (by decide) (by decide) (by decide))
      have u63 := u46.ne' ee54 (hI 8 0 (by decide) (by decide) (by decide))
      have u64 := u47.ne' ee54 (hI 9 0 (by decide) (by decide) (by decide))
      have u65 := u48.ne' ee54 (hI 10 0 (by decide) (by decide) (by decide))
      have u66 := u49.ne' ee54 (hI 11 0 (by decide) (by decide) (by decide))
      have u67 := u50.ne' ee54 (hI 12 0 (by decide) (by decide) (by decide))
      have kp68 := kp51.put ee54 ⟨0, by decide, rfl⟩
      have dm69 := (dom_put ee54).trans dm52
      refine j_aload_n 0 C dX7_addBin_78 rfl rfl rfl ?_
      refine j_get C dX7_addBin_79 rfl fg_X7_55 u55 rfl ?_
      refine j_iconst C dX7_addBin_82 rfl ?_
      refine j_isub C dX7_addBin_83 rfl ?_
      have ho : o_addBin bs ru se pf hd ca evs ln c m = (0, (bs.length : Int), (bs ++ [(c, m, [])], ru, se, pf, hd, ca, evs, ln)) := by unfold o_addBin; rw [if_neg (by omega), if_neg (by omega)]
      exact j_iret C E dX7_addBin_84 (by omega) (by omega) ⟨_, rfl, by rw [ho]; exact fun _ => (by show ((bs.length : Int) + 1) - 1 = (bs.length : Int); omega), ⟨_, by rw [ho]; exact ⟨hI, _, _, _, _, _, _, _, _, _, _, _, _, _, _, _, u55, ⟨u56, u57, u58, u59, u60, u61, u62, u63, u64, u65, u66, u67⟩, ⟨bl1 _ _, rfl, rfl⟩, (hBn17.add (by omega) c m (by omega)), hRu17, hPr17, hTr17, hKi17, hLi17⟩⟩, kp68, dm69⟩
    · refine j_iconst C dX7_addBin_34 rfl ?_
      refine j_goto (tgt := 39) C dX7_addBin_35 rfl ?_
      refine j_iconst C dX7_addBin_39 rfl ?_
      refine j_callV (st' := []) (As := [vi (1), vi (2)]) C dX7_addBin_40 rfl m_X7_62 h010 rfl rfl rfl (c_thr1 (kL κ) hfl (kD κ) (kc κ) τ6 am bs ru se pf hd ca evs ln bl 0 hN9 2) rfl (by omega) (by omega) (by omega) (fun _ _ hx => hx.elim) (fun v71 τ70 hp72 => ?_)
      obtain ⟨rfl, hN73, hN73k, hN73d⟩ := hp72
      show J κ τ70 [(0, .ref (am 0)), (1, vi (c)), (2, vi (b01 m))] 43 [vi (1)] _ _
      have hN73K := hN9K.tr hN73k
      have hN73D := hN73d.trans hN9D
      obtain ⟨hI74, gc74, gm74, gr74, gp74, gb74, go74, gf74, gg74, gt74, gz74, gk74, gl74, _, _, _, h074, ⟨hgc74, hgm74, hgr74, hgp74, hgb74, hgo74, hgf74, hgg74, hgt74, hgz74, hgk74, hgl74⟩, ⟨rfl, rfl, rfl⟩, hBn74, hRu74, hPr74, hTr74, hKi74, hLi74⟩ := id hN73
      have hI := hI74
      have hnb674 := hBn74.1
      refine j_if_eq (tgt := 48) C dX7_addBin_43 rfl rfl ⟨by omega, by omega⟩ (fun cc75 => absurd cc75 (by decide)) (fun _ => ?_)
      refine j_iconst C dX7_addBin_46 rfl ?_
      have ho : o_addBin bs ru se pf hd ca evs ln c m = (2, 0, (bs, ru, se, pf, hd, ca, evs, ln)) := by unfold o_addBin; rw [if_neg (by omega), if_pos (by omega)]
      exact j_iret C E dX7_addBin_47 (by omega) (by omega) ⟨_, rfl, by rw [ho]; exact fun h9 => absurd (show (2 : Int) = 0 from h9) (by decide), ⟨_, by rw [ho]; exact hN73⟩, hN73K, hN73D⟩
  · replace cc5 := inI_F cc5
    refine j_iconst C dX7_addBin_12 rfl ?_
    refine j_goto (tgt := 17) C dX7_addBin_13 rfl ?_
    refine j_iconst C dX7_addBin_17 rfl ?_
    refine j_callV (st' := []) (As := [vi (1), vi (1)]) C dX7_addBin_18 rfl m_X7_62 h01 rfl rfl rfl (c_thr1 (kL κ) hfl (kD κ) (kc κ) σ am bs ru se pf hd ca evs ln bl th hM 1) rfl (by omega) (by omega) (by omega) (fun _ _ hx => hx.elim) (fun v77 τ76 hp78 => ?_)
    obtain ⟨rfl, hN79, hN79k, hN79d⟩ := hp78
    show J κ τ76 [(0, .ref (am 0)), (1, vi (c)), (2, vi (b01 m))] 21 [vi (1)] _ _
    have hN79K := kp0.tr hN79k
    have hN79D := hN79d.trans dm0
    obtain ⟨hI80, gc80, gm80, gr80, gp80, gb80, go80, gf80, gg80, gt80, gz80, gk80, gl80, _, _, _, h080, ⟨hgc80, hgm80, hgr80, hgp80, hgb80, hgo80, hgf80, hgg80, hgt80, hgz80, hgk80, hgl80⟩, ⟨rfl, rfl, rfl⟩, hBn80, hRu80, hPr80, hTr80, hKi80, hLi80⟩ := id hN79
    have hI := hI80
    have hnb680 := hBn80.1
    refine j_if_ne (tgt := 46) C dX7_addBin_21 rfl rfl ⟨by omega, by omega⟩ (fun _ => ?_) (fun cc81 => absurd cc81 (by decide))
    refine j_iconst C dX7_addBin_46 rfl ?_
    have ho : o_addBin bs ru se pf hd ca evs ln c m = (1, 0, (bs, ru, se, pf, hd, ca, evs, ln)) := by unfold o_addBin; rw [if_pos (by omega)]
    exact j_iret C E dX7_addBin_47 (by omega) (by omega) ⟨_, rfl, by rw [ho]; exact fun h9 => absurd (show (1 : Int) = 0 from h9) (by decide), ⟨_, by rw [ho]; exact hN79⟩, hN79K, hN79D⟩
set_option maxHeartbeats 16000000 in
set_option maxRecDepth 20000 in
theorem m_writeBin (l : Launch) (hfl : l.stackTraces = false) (D : va_G) (cy : Nat → Nat) (σ : Wd) (am : Nat → Nat) (bs : List Bn) (ru : Nat → Int × Int) (se : Int) (pf : Nat → Int) (hd : Hd) (ca : Int) (evs : List Evt) (ln : List Int) (bl : Int × Int × Int) (th : Int) (hM : RM cy σ am bs ru se pf hd ca evs ln bl th) (b : Int) (hb9 : (-2147483648 ≤ b ∧ b < 2147483648)) (hO : Ok bs ru se pf hd evs ln) : Ct l yX7_writeBin cX7_writeBin 4 (some .int) 5 0 0 D cy [.ref (am 0), vi (b)] σ (fun v σ' => ∃ rz : Int, v = some (vi rz) ∧ ((o_writeBin bs ru se pf hd ca evs ln b).1 = 0 → rz = (o_writeBin bs ru se pf hd ca evs ln b).2.1) ∧ (∃ bl', RMs cy σ' am (o_writeBin bs ru se pf hd ca evs ln b).2.2 bl' (o_writeBin bs ru se pf hd ca evs ln b).1) ∧ Keep σ σ' (inM am) ∧ σ'.1 = σ.1) noX := by
  refine ct_start (by decide +kernel) hfl rfl (fun κ e1 e2 e3 C E NH => ?_)
  subst e1 e2 e3
  have C : Cx κ cX7_writeBin 4 RX7 "writeBin" 5 := C
  obtain ⟨-, -, -, -, hc, hs⟩ := id E
  show J κ σ [(0, .ref (am 0)), (1, vi (b))] 0 [] 0 0
  obtain ⟨hI1, gc1, gm1, gr1, gp1, gb1, go1, gf1, gg1, gt1, gz1, gk1, gl1, _, _, _, h01, ⟨hgc1, hgm1, hgr1, hgp1, hgb1, hgo1, hgf1, hgg1, hgt1, hgz1, hgk1, hgl1⟩, ⟨rfl, rfl, rfl⟩, hBn1, hRu1, hPr1, hTr1, hKi1, hLi1⟩ := id hM
  have hI := hI1
  have hnb61 := hBn1.1
  have kp0 : Keep σ σ (inM am) := Keep.rf
  have dm0 : σ.1 = σ.1 := rfl
  obtain ⟨⟨hc1, hc2⟩, hc3, hc4⟩ := hO.2.2.2.1
  have h6 := hO.1
  have hlb := hO.2.2.1
  have hTb := totB_in hO.2.1
  have hprr := hO.2.2.2.2.1
  refine j_aload_n 0 C dX7_writeBin_0 rfl rfl rfl ?_
  refine j_iload_n 1 C dX7_writeBin_1 rfl rfl rfl ?_
  rcases Classical.em (b < 0 ∨ (bs.length : Int) ≤ b) with hq | hq
  · refine j_callV (st' := []) (As := [vi (b)]) C dX7_writeBin_2 rfl m_X7_66 h01 rfl rfl rfl (c_nb1 (kL κ) hfl (kD κ) (kc κ) σ am bs ru se pf hd ca evs ln bl th hM b ⟨by omega, by omega⟩ hq) rfl (by omega) (by omega) (by omega) (fun _ _ hx => hx.elim) (fun v3 τ2 hp4 => ?_)
    obtain ⟨rfl, hN5, hN5k, hN5d⟩ := hp4
    show J κ τ2 [(0, .ref (am 0)), (1, vi (b))] 5 [vi (1)] _ _
    have hN5K := kp0.tr hN5k
    have hN5D := hN5d.trans dm0
    obtain ⟨hI6, gc6, gm6, gr6, gp6, gb6, go6, gf6, gg6, gt6, gz6, gk6, gl6, _, _, _, h06, ⟨hgc6, hgm6, hgr6, hgp6, hgb6, hgo6, hgf6, hgg6, hgt6, hgz6, hgk6, hgl6⟩, ⟨rfl, rfl, rfl⟩, hBn6, hRu6, hPr6, hTr6, hKi6, hLi6⟩ := id hN5
    have hI := hI6
    have hnb66 := hBn6.1
    refine j_if_eq (tgt := 10) C dX7_writeBin_5 rfl rfl ⟨by omega, by omega⟩ (fun cc7 => absurd cc7 (by decide)) (fun _ => ?_)
    refine j_iconst C dX7_writeBin_8 rfl ?_
    have ho : o_writeBin bs ru se pf hd ca evs ln b = (1, 0, (bs, ru, se, pf, hd, ca, evs, ln)) := by unfold o_writeBin; rw [if_pos (by omega)]
    exact j_iret C E dX7_writeBin_9 (by omega) (by omega) ⟨_, rfl, by rw [ho]; exact fun h9 => absurd (show (1 : Int) = 0 from h9) (by decide), ⟨_, by rw [ho]; exact hN5⟩, hN5K, hN5D⟩
  · obtain ⟨i, hi, rfl⟩ : ∃ i : Nat, i < bs.length ∧ b = (i : Int) := ⟨b.toNat, by omega, by omega⟩
    have hmmi := gB_mem (bs := bs) (i := (i : Int)) (by omega) (by omega)
    obtain ⟨hcpi, hlyi, htci⟩ := hO.2.1 _ hmmi
    have hlli := len_lenB hmmi
    have ht0i := tot_0 hlyi
    have hfli : tot (fl (gB bs (i : Int))) = tot (gB bs (i : Int)).2.2 := sum_fl _ _
    have hfoi : lysOk (fl (gB bs (i : Int))) := fl_ok hlyi
    refine j_callV (st' := []) (As := [vi ((i : Int))]) C dX7_writeBin_2 rfl m_X7_66 h01 rfl rfl rfl (c_nb0 (kL κ) hfl (kD κ) (kc κ) σ am bs ru se pf hd ca evs ln bl th hM i hi) rfl (by omega) (by omega) (by omega) (fun _ _ hx => hx.elim) (fun v9 τ8 hp10 => ?_)
    obtain ⟨rfl, hN11, hN11k, hN11d⟩ := hp10
    show J κ τ8 [(0, .ref (am 0)), (1, vi ((i : Int)))] 5 [vi (0)] _ _
    have hN11K := kp0.tr hN11k
    have hN11D := hN11d.trans dm0
    obtain ⟨hI12, gc12, gm12, gr12, gp12, gb12, go12, gf12, gg12, gt12, gz12, gk12, gl12, _, _, _, h012, ⟨hgc12, hgm12, hgr12, hgp12, hgb12, hgo12, hgf12, hgg12, hgt12, hgz12, hgk12, hgl12⟩, ⟨rfl, rfl, rfl⟩, hBn12, hRu12, hPr12, hTr12, hKi12, hLi12⟩ := id hN11
    have hI := hI12
    have hnb612 := hBn12.1
    refine j_if_eq (tgt := 10) C dX7_writeBin_5 rfl rfl ⟨by omega, by omega⟩ (fun _ => ?_) (fun cc13 => absurd cc13 (by decide))
    refine j_aload_n 0 C dX7_writeBin_10 rfl rfl rfl ?_
    refine j_iconst C dX7_writeBin_11 rfl ?_
    refine j_put (fs' := [.ref (am 1), .ref (am 2), .ref (am 3), .ref (am 4), .ref (am 5), .ref (am 6), .ref (am 7), .ref (am 8), .ref (am 9), .ref (am 10), .ref (am 11), .ref (am 12), vi ((bs.length : Int)), vi (se), vi ((evs.length : Int)), vi (hd.2.1), vi (hd.2.2.2.1), vi (hd.2.2.1), vi (0), vi (bl.1), vi (bl.2.1), vi (bl.2.2), vi (0), vl (hd.2.2.2.2), vl (ca)]) C dX7_writeBin_12 rfl fa_X7_173 h012 rfl rfl rfl rfl (fun τ14 ee15 => ?_)
    have u16 : has τ14 (am 0) (.inr (7, [.ref (am 1), .ref (am 2), .ref (am 3), .ref (am 4), .ref (am 5), .ref (am 6), .ref (am 7), .ref (am 8), .ref (am 9), .ref (am 10), .ref (am 11), .ref (am 12), vi ((bs.length : Int)), vi (se), vi ((evs.length : Int)), vi (hd.2.1), vi (hd.2.2.2.1), vi (hd.2.2.1), vi (0), vi (bl.1), vi (bl.2.1), vi (bl.2.2), vi (0), vl (hd.2.2.2.2), vl (ca)])) := h012.self' ee15
    have u17 := hgc12.ne' ee15 (hI 1 0 (by decide) (by decide) (by decide))
    have u18 := hgm12.ne' ee15 (hI 2 0 (by decide) (by decide) (by decide))
    have u19 := hgr12.ne' ee15 (hI 3 0 (by decide) (by decide) (by decide))
    have u20 := hgp12.ne' ee15 (hI 4 0 (by decide) (by decide) (by decide))
    have u21 := hgb12.ne' ee15 (hI 5 0 (by decide) (by decide) (by decide))
    have u22 := hgo12.ne' ee15 (hI 6 0 (by decide) (by decide) (by decide))
    have u23 := hgf12.ne' ee15 (hI 7 0 (by decide) (by decide) (by decide))
    have u24 := hgg12.ne' ee15 (hI 8 0 (by decide) (by decide) (by decide))
    have u25 := hgt12.ne' ee15 (hI 9 0 (by decide) (by decide) (by decide))
    have u26 := hgz12.ne' ee15 (hI 10 0 (by decide) (by decide) (by decide))
    have u27 := hgk12.ne' ee15 (hI 11 0 (by decide) (by decide) (by decide))
    have u28 := hgl12.ne' ee15 (hI 12 0 (by decide) (by decide) (by decide))
    have kp29 := hN11K.put ee15 ⟨0, by decide, rfl⟩
    have dm30 := (dom_put ee15).trans hN11D
    refine j_iconst C dX7_writeBin_15 rfl ?_
    refine j_istore_n (lv' := [(0, .ref (am 0)), (1, vi ((i : Int))), (2, vi (0))]) [1, 2, 0] C dX7_writeBin_16 rfl rfl rfl rfl ?_
    obtain ⟨⟨cap, mf, ly⟩, hg⟩ : ∃ z, gB bs (i : Int) = z := ⟨_, rfl⟩
    have hbk_12 := hBn12.2.2 i hi
    rw [hg] at hbk_12
    obtain ⟨⟨hcp_12, hmz_12⟩, ⟨hmn_12, hl9_12⟩, hrw_12⟩ := hbk_12
    dsimp only at hcp_12 hmz_12 hmn_12 hl9_12 hrw_12
    obtain ⟨L, hLe⟩ : ∃ L, fl (cap, mf, ly) = L := ⟨_, rfl⟩
    have hokL : lysOk L := by have e := hfoi; rw [hg, hLe] at e; exact e
    have hlL : L.length = ly.length := by rw [← hLe, fl_len]
    have hl80 : ly.length ≤ 80 := by have e := hlli; rw [hg] at e; dsimp only at e; omega
    have hM0 : RM (kc κ) τ14 am bs ru se pf hd ca evs (lnK L 0) bl 0 := ⟨hI, _, _, _, _, _, _, _, _, _, _, _, _, _, _, _, u16, ⟨u17, u18, u19, u20, u21, u22, u23, u24, u25, u26, u27, u28⟩, ⟨rfl, rfl, rfl⟩, hBn12, hRu12, hPr12, hTr12, hKi12, LiM.nil _⟩
    have lp : ∀ (N : Nat) (q : Nat) (σ1 : Wd), RM (kc κ) σ1 am bs ru se pf hd ca evs (lnK L q) bl 0 → Keep σ σ1 (inM am) → σ1.1 = σ.1 → q ≤ L.length → (L.length + 1 - q) < N → J κ σ1 [(0, .ref (am 0)), (1, vi ((i : Int))), (2, vi ((q : Int)))] 17 [] 0 0 := by
      intro N
      induction N with
      | zero => intro q σ1 hM1 hk1 hd1 hq hN; exact absurd hN (Nat.not_lt_zero _)
      | succ N ih =>
        intro q σ1 hM1 hk1 hd1 hq hN
        obtain ⟨hI31, gc31, gm31, gr31, gp31, gb31, go31, gf31, gg31, gt31, gz31, gk31, gl31, _, _, _, h031, ⟨hgc31, hgm31, hgr31, hgp31, hgb31, hgo31, hgf31, hgg31, hgt31, hgz31, hgk31, hgl31⟩, ⟨rfl, rfl, rfl⟩, hBn31, hRu31, hPr31, hTr31, hKi31, hLi31⟩ := id hM1
        have hI := hI31
        have hnb631 := hBn31.1
        have hbk_31 := hBn31.2.2 i hi
        rw [hg] at hbk_31
        obtain ⟨⟨hcp_31, hmz_31⟩, ⟨hmn_31, hl9_31⟩, hrw_31⟩ := hbk_31
        dsimp only at hcp_31 hmz_31 hmn_31 hl9_31 hrw_31
        have hlk := lnK_len hokL q (by omega)
        refine j_iload_n 2 C dX7_writeBin_17 rfl rfl rfl ?_
        refine j_aload_n 0 C dX7_writeBin_18 rfl rfl rfl ?_
        refine j_get C dX7_writeBin_19 rfl fg_X7_13 h031 rfl ?_
        refine j_iload_n 1 C dX7_writeBin_22 rfl rfl rfl ?_
        refine j_iald C dX7_writeBin_23 rfl hgm31 ⟨by omega, by omega⟩ (by omega) hmn_31 ?_
        refine j_icmp_ge (tgt := 92) C dX7_writeBin_24 rfl rfl ⟨by omega, by omega⟩ ⟨by omega, by omega⟩ (fun cc32 => ?_) (fun cc32 => ?_)
        · have e9 : lnK L q = lnF L := by rw [show q = L.length by omega]; rfl
          refine j_aload_n 0 C dX7_writeBin_92 rfl rfl rfl ?_
          refine j_get C dX7_writeBin_93 rfl fg_X7_173 h031 rfl ?_
          have hLg : lnF (fl (gB bs (i : Int))) = lnK L q := by rw [hg, hLe, e9]
          have ho : o_writeBin bs ru se pf hd ca evs ln (i : Int) = (0, ((lnF (fl (gB bs (i : Int)))).length : Int), (bs, ru, se, pf, hd, ca, evs, lnF (fl (gB bs (i : Int))))) := by unfold o_writeBin; rw [if_neg (by omega)]
          exact j_iret C E dX7_writeBin_96 (by omega) (by omega) ⟨_, rfl, by rw [ho]; exact fun _ => (by rw [hLg]), ⟨_, by rw [ho]; show RM _ _ _ _ _ _ _ _ _ _ (lnF (fl (gB bs (i : Int)))) _ _; rw [hLg]; exact hM1⟩, hk1, hd1⟩
        · have hq9 : q < L.length := by omega
          obtain ⟨⟨a1, a2⟩, ⟨b1, b2⟩, -, g1, g2⟩ := lyAt_ok hokL (i := (q : Int)) (by omega) (by omega)
          obtain ⟨y9, hy9⟩ : ∃ y, lyAt L (q : Int) = y := ⟨_, rfl⟩
          rw [hy9] at a1 a2 b1 b2 g1 g2
          have dl0 := dg_len y9.1
          have sl0 : sz y9.1 ≤ 4 := by have s1 := sz_in y9.1; have s2 := sz_up y9.1; omega
          have dl1 := dg_len y9.2.1
          have sl1 : sz y9.2.1 ≤ 3 := by have s1 := sz_in y9.2.1; have s2 := sz_up y9.2.1; omega
          have dl2 := dg_len y9.2.2.2
          have sl2 : sz y9.2.2.2 ≤ 1 := by have s1 := sz_in y9.2.2.2; have s2 := sz_up y9.2.2.2; omega
          have hpl := pl_in (m := mf) (n := (ly.length : Int)) (i := (q : Int)) ⟨by omega, by omega⟩
          refine j_aload_n 0 C dX7_writeBin_27 rfl rfl rfl ?_
          refine j_iload_n 1 C dX7_writeBin_28 rfl rfl rfl ?_
          refine j_iload_n 2 C dX7_writeBin_29 rfl rfl rfl ?_
          refine j_callV (st' := []) (As := [vi ((i : Int)), vi ((q : Int))]) C dX7_writeBin_30 rfl m_X7_109 h031 rfl rfl rfl (c_at (kL κ) hfl (kD κ) (kc κ) σ1 am bs ru se pf hd ca evs (lnK L q) bl 0 hM1 i hi (q : Int)) rfl (by omega) (by omega) (by omega) (fun _ _ hx => hx.elim) (fun v34 τ33 hp35 => ?_)
          obtain ⟨rfl, hs9⟩ := hp35
          replace hs9 := hs9.symm
          subst hs9
          show J κ σ1 [(0, .ref (am 0)), (1, vi ((i : Int))), (2, vi ((q : Int)))] 33 [vi ((90 * (i : Int) + pl (gB bs (i : Int)).2.1 (gB bs (i : Int)).2.2.length (q : Int)))] _ _
          rw [hg]
          have hsh : ∀ z9 : Int, pl mf ly.length (q : Int) = z9 → J κ σ1 [(0, .ref (am 0)), (1, vi ((i : Int))), (2, vi ((q : Int)))] 33 [vi (90 * (i : Int) + z9)] 0 0 := ?_
          · exact hsh _ rfl
          intro z9 hz9
          rw [hz9] at hpl
          refine j_istore_n (lv' := [(0, .ref (am 0)), (1, vi ((i : Int))), (2, vi ((q : Int))), (3, vi (90 * (i : Int) + z9))]) [1, 2, 3, 0] C dX7_writeBin_33 rfl rfl rfl rfl ?_
          refine j_iload_n 2 C dX7_writeBin_34 rfl rfl rfl ?_
          refine j_if_le (tgt := 44) C dX7_writeBin_35 rfl rfl ⟨by omega, by omega⟩ (fun cc36 => ?_) (fun cc36 => ?_)
          · refine j_aload_n 0 C dX7_writeBin_44 rfl rfl rfl ?_
            refine j_aload_n 0 C dX7_writeBin_45 rfl rfl rfl ?_
            refine j_get C dX7_writeBin_46 rfl fg_X7_22 h031 rfl ?_
            refine j_iload_n 3 C dX7_writeBin_49 rfl rfl rfl ?_
            refine j_iald C dX7_writeBin_50 rfl hgb31 ⟨by omega, by omega⟩ (by omega) ((rowF hrw_31 (c := cap) (m := mf) (i := (q : Int)) ⟨by omega, by omega⟩ (z := 90 * (i : Int) + z9) (by rw [hz9]; omega)).1.trans (by rw [hLe, hy9])) ?_
            refine j_callV (st' := []) (As := [vi (y9.1)]) C dX7_writeBin_51 rfl m_X7_176 h031 rfl rfl rfl (c_num4 (kL κ) hfl (kD κ) (kc κ) σ1 am bs ru se pf hd ca evs (lnK L q) bl 0 hM1 y9.1 ⟨by omega, by omega⟩ (by (try simp only [List.length_append, List.length_singleton]); omega)) rfl (by omega) (by omega) (by omega) (fun _ _ hx => hx.elim) (fun v38 τ37 hp39 => ?_)
            obtain ⟨rfl, hN40, hN40k, hN40d⟩ := hp39
            show J κ τ37 [(0, .ref (am 0)), (1, vi ((i : Int))), (2, vi ((q : Int))), (3, vi (90 * (i : Int) + z9))] 54 [] _ _
            have hN40K := hk1.tr hN40k
            have hN40D := hN40d.trans hd1
            obtain ⟨hI41, gc41, gm41, gr41, gp41, gb41, go41, gf41, gg41, gt41, gz41, gk41, gl41, _, _, _, h041, ⟨hgc41, hgm41, hgr41, hgp41, hgb41, hgo41, hgf41, hgg41, hgt41, hgz41, hgk41, hgl41⟩, ⟨rfl, rfl, rfl⟩, hBn41, hRu41, hPr41, hTr41, hKi41, hLi41⟩ := id hN40
            have hI := hI41
            have hnb641 := hBn41.1
            have hbk_41 := hBn41.2.2 i hi
            rw [hg] at hbk_41
            obtain ⟨⟨hcp_41, hmz_41⟩, ⟨hmn_41, hl9_41⟩, hrw_41⟩ := hbk_41
            dsimp only at hcp_41 hmz_41 hmn_41 hl9_41 hrw_41
            refine j_aload_n 0 C dX7_writeBin_54 rfl rfl rfl ?_
            refine j_bipush C dX7_writeBin_55 rfl (by decide) ?_
            refine j_callV (st' := []) (As := [vi (64)]) C dX7_writeBin_57 rfl m_X7_179 h041 rfl rfl rfl (c_writes (kL κ) hfl (kD κ) (kc κ) τ37 am bs ru se pf hd ca evs ((lnK L q) ++ dg y9.1) bl 0 hN40 64 (⟨by decide, by decide⟩) (by (try simp only [List.length_append, List.length_singleton]); omega)) rfl (by omega) (by omega) (by omega) (fun _ _ hx => hx.elim) (fun v43 τ42 hp44 => ?_)
            obtain ⟨rfl, hN45, hN45k, hN45d⟩ := hp44
            show J κ τ42 [(0, .ref (am 0)), (1, vi ((i : Int))), (2, vi ((q : Int))), (3, vi (90 * (i : Int) + z9))] 60 [] _ _
            have hN45K := hN40K.tr hN45k
            have hN45D := hN45d.trans hN40D
            obtain ⟨hI46, gc46, gm46, gr46, gp46, gb46, go46, gf46, gg46, gt46, gz46, gk46, gl46, _, _, _, h046, ⟨hgc46, hgm46, hgr46, hgp46, hgb46, hgo46, hgf46, hgg46, hgt46, hgz46, hgk46, hgl46⟩, ⟨rfl, rfl, rfl⟩, hBn46, hRu46, hPr46, hTr46, hKi46, hLi46⟩ := id hN45
            have hI := hI46
            have hnb646 := hBn46.1
            have hbk_46 := hBn46.2.2 i hi
            rw [hg] at hbk_46
            obtain ⟨⟨hcp_46, hmz_46⟩, ⟨hmn_46, hl9_46⟩, hrw_46⟩ := hbk_46
            dsimp only at hcp_46 hmz_46 hmn_46 hl9_46 hrw_46
            refine j_aload_n 0 C dX7_writeBin_60 rfl rfl rfl ?_
            refine j_aload_n 0 C dX7_writeBin_61 rfl rfl rfl ?_
            refine j_get C dX7_writeBin_62 rfl fg_X7_25 h046 rfl ?_
            refine j_iload_n 3 C dX7_writeBin_65 rfl rfl rfl ?_
            refine j_iald C dX7_writeBin_66 rfl hgo46 ⟨by omega, by omega⟩ (by omega) ((rowF hrw_46 (c := cap) (m := mf) (i := (q : Int)) ⟨by omega, by omega⟩ (z := 90 * (i : Int) + z9) (by rw [hz9]; omega)).2.1.trans (by rw [hLe, hy9])) ?_
            refine j_callV (st' := []) (As := [vi (y9.2.1)]) C dX7_writeBin_67 rfl m_X7_176 h046 rfl rfl rfl (c_num3 (kL κ) hfl (kD κ) (kc κ) τ42 am bs ru se pf hd ca evs (((lnK L q) ++ dg y9.1) ++ [64]) bl 0 hN45 y9.2.1 ⟨by omega, by omega⟩ (by (try simp only [List.length_append, List.length_singleton]); omega)) rfl (by omega) (by omega) (by omega) (fun _ _ hx => hx.elim) (fun v48 τ47 hp49 => ?_)
            obtain ⟨rfl, hN50, hN50k, hN50d⟩ := hp49
            show J κ τ47 [(0, .ref (am 0)), (1, vi ((i : Int))), (2, vi ((q : Int))), (3, vi (90 * (i : Int) + z9))] 70 [] _ _
            have hN50K := hN45K.tr hN50k
            have hN50D := hN50d.trans hN45D
            obtain ⟨hI51, gc51, gm51, gr51, gp51, gb51, go51, gf51, gg51, gt51, gz51, gk51, gl51, _, _, _, h051, ⟨hgc51, hgm51, hgr51, hgp51, hgb51, hgo51, hgf51, hgg51, hgt51, hgz51, hgk51, hgl51⟩, ⟨rfl, rfl, rfl⟩, hBn51, hRu51, hPr51, hTr51, hKi51, hLi51⟩ := id hN50
            have hI := hI51
            have hnb651 := hBn51.1
            have hbk_51 := hBn51.2.2 i hi
            rw [hg] at hbk_51
            obtain ⟨⟨hcp_51, hmz_51⟩, ⟨hmn_51, hl9_51⟩, hrw_51⟩ := hbk_51
            dsimp only at hcp_51 hmz_51 hmn_51 hl9_51 hrw_51
            refine j_aload_n 0 C dX7_writeBin_70 rfl rfl rfl ?_
            refine j_bipush C dX7_writeBin_71 rfl (by decide) ?_
            refine j_callV (st' := []) (As := [vi (103)]) C dX7_writeBin_73 rfl m_X7_179 h051 rfl rfl rfl (c_writes (kL κ) hfl (kD κ) (kc κ) τ47 am bs ru se pf hd ca evs ((((lnK L q) ++ dg y9.1) ++ [64]) ++ dg y9.2.1) bl 0 hN50 103 (⟨by decide, by decide⟩) (by (try simp only [List.length_append, List.length_singleton]); omega)) rfl (by omega) (by omega) (by omega) (fun _ _ hx => hx.elim) (fun v53 τ52 hp54 => ?_)
            obtain ⟨rfl, hN55, hN55k, hN55d⟩ := hp54
            show J κ τ52 [(0, .ref (am 0)), (1, vi ((i : Int))), (2, vi ((q : Int))), (3, vi (90 * (i : Int) + z9))] 76 [] _ _
            have hN55K := hN50K.tr hN55k
            have hN55D := hN55d.trans hN50D
            obtain ⟨hI56, gc56, gm56, gr56, gp56, gb56, go56, gf56, gg56, gt56, gz56, gk56, gl56, _, _, _, h056, ⟨hgc56, hgm56, hgr56, hgp56, hgb56, hgo56, hgf56, hgg56, hgt56, hgz56, hgk56, hgl56⟩, ⟨rfl, rfl, rfl⟩, hBn56, hRu56, hPr56, hTr56, hKi56, hLi56⟩ := id hN55
            have hI := hI56
            have hnb656 := hBn56.1
            have hbk_56 := hBn56.2.2 i hi
            rw [hg] at hbk_56
            obtain ⟨⟨hcp_56, hmz_56⟩, ⟨hmn_56, hl9_56⟩, hrw_56⟩ := hbk_56
            dsimp only at hcp_56 hmz_56 hmn_56 hl9_56 hrw_56
            refine j_aload_n 0 C dX7_writeBin_76 rfl rfl rfl ?_
            refine j_aload_n 0 C dX7_writeBin_77 rfl rfl rfl ?_
            refine j_get C dX7_writeBin_78 rfl fg_X7_31 h056 rfl ?_
            refine j_iload_n 3 C dX7_writeBin_81 rfl rfl rfl ?_
            refine j_iald C dX7_writeBin_82 rfl hgg56 ⟨by omega, by omega⟩ (by omega) ((rowF hrw_56 (c := cap) (m := mf) (i := (q : Int)) ⟨by omega, by omega⟩ (z := 90 * (i : Int) + z9) (by rw [hz9]; omega)).2.2.2.trans (by rw [hLe, hy9])) ?_
            refine j_callV (st' := []) (As := [vi (y9.2.2.2)]) C dX7_writeBin_83 rfl m_X7_176 h056 rfl rfl rfl (c_num1 (kL κ) hfl (kD κ) (kc κ) τ52 am bs ru se pf hd ca evs (((((lnK L q) ++ dg y9.1) ++ [64]) ++ dg y9.2.1) ++ [103]) bl 0 hN55 y9.2.2.2 ⟨by omega, by omega⟩ (by (try simp only [List.length_append, List.length_singleton]); omega)) rfl (by omega) (by omega) (by omega) (fun _ _ hx => hx.elim) (fun v58 τ57 hp59 => ?_)
            obtain ⟨rfl, hN60, hN60k, hN60d⟩ := hp59
            show J κ τ57 [(0, .ref (am 0)), (1, vi ((i : Int))), (2, vi ((q : Int))), (3, vi (90 * (i : Int) + z9))] 86 [] _ _
            have hN60K := hN55K.tr hN60k
            have hN60D := hN60d.trans hN55D
            obtain ⟨hI61, gc61, gm61, gr61, gp61, gb61, go61, gf61, gg61, gt61, gz61, gk61, gl61, _, _, _, h061, ⟨hgc61, hgm61, hgr61, hgp61, hgb61, hgo61, hgf61, hgg61, hgt61, hgz61, hgk61, hgl61⟩, ⟨rfl, rfl, rfl⟩, hBn61, hRu61, hPr61, hTr61, hKi61, hLi61⟩ := id hN60
            have hI := hI61
            have hnb661 := hBn61.1
            have hbk_61 := hBn61.2.2 i hi
            rw [hg] at hbk_61
            obtain ⟨⟨hcp_61, hmz_61⟩, ⟨hmn_61, hl9_61⟩, hrw_61⟩ := hbk_61
            dsimp only at hcp_61 hmz_61 hmn_61 hl9_61 hrw_61
            refine j_iinc (y := (q : Int) + 1) (lv' := [(0, .ref (am 0)), (1, vi ((i : Int))), (2, vi ((q : Int) + 1)), (3, vi (90 * (i : Int) + z9))]) 2 [1, 2, 0, 3] C dX7_writeBin_86 rfl rfl rfl rfl rfl ?_
            refine j_goto (tgt := 17) C dX7_writeBin_89 rfl ?_
            refine j_locals (lv' := [(0, .ref (am 0)), (1, vi ((i : Int))), (2, vi ((q : Int) + 1))]) [0, 1, 2] rfl ?_
            have hlk1 : ((((((lnK L q) ++ dg y9.1) ++ [64]) ++ dg y9.2.1) ++ [103]) ++ dg y9.2.2.2) = lnK L (q + 1) := by show _ = ((((((lnK L q ++ (if q = 0 then [] else [32])) ++ dg (lyAt L (q : Int)).1) ++ [64]) ++ dg (lyAt L (q : Int)).2.1) ++ [103]) ++ dg (lyAt L (q : Int)).2.2.2); rw [hy9, if_pos (by omega), List.append_nil]
            have hM2 := hN60
            rw [hlk1] at hM2
            exact ih (q + 1) τ57 hM2 hN60K hN60D (by omega) (by omega)
          · refine j_aload_n 0 C dX7_writeBin_38 rfl rfl rfl ?_
            refine j_bipush C dX7_writeBin_39 rfl (by decide) ?_
            refine j_callV (st' := []) (As := [vi (32)]) C dX7_writeBin_41 rfl m_X7_179 h031 rfl rfl rfl (c_writes (kL κ) hfl (kD κ) (kc κ) σ1 am bs ru se pf hd ca evs (lnK L q) bl 0 hM1 32 (⟨by decide, by decide⟩) (by (try simp only [List.length_append, List.length_singleton]); omega)) rfl (by omega) (by omega) (by omega) (fun _ _ hx => hx.elim) (fun v63 τ62 hp64 => ?_)
            obtain ⟨rfl, hN65, hN65k, hN65d⟩ := hp64
            show J κ τ62 [(0, .ref (am 0)), (1, vi ((i : Int))), (2, vi ((q : Int))), (3, vi (90 * (i : Int) + z9))] 44 [] _ _
            have hN65K := hk1.tr hN65k
            have hN65D := hN65d.trans hd1
            obtain ⟨hI66, gc66, gm66, gr66, gp66, gb66, go66, gf66, gg66, gt66, gz66, gk66, gl66, _, _, _, h066, ⟨hgc66, hgm66, hgr66, hgp66, hgb66, hgo66, hgf66, hgg66, hgt66, hgz66, hgk66, hgl66⟩, ⟨rfl, rfl, rfl⟩, hBn66, hRu66, hPr66, hTr66, hKi66, hLi66⟩ := id hN65
            have hI := hI66
            have hnb666 := hBn66.1
            have hbk_66 := hBn66.2.2 i hi
            rw [hg] at hbk_66
            obtain ⟨⟨hcp_66, hmz_66⟩, ⟨hmn_66, hl9_66⟩, hrw_66⟩ := hbk_66
            dsimp only at hcp_66 hmz_66 hmn_66 hl9_66 hrw_66
            refine j_aload_n 0 C dX7_writeBin_44 rfl rfl rfl ?_
            refine j_aload_n 0 C dX7_writeBin_45 rfl rfl rfl ?_
            refine j_get C dX7_writeBin_46 rfl fg_X7_22 h066 rfl ?_
            refine j_iload_n 3 C dX7_writeBin_49 rfl rfl rfl ?_
            refine j_iald C dX7_writeBin_50 rfl hgb66 ⟨by omega, by omega⟩ (by omega) ((rowF hrw_66 (c := cap) (m := mf) (i := (q : Int)) ⟨by omega, by omega⟩ (z := 90 * (i : Int) + z9) (by rw [hz9]; omega)).1.trans (by rw [hLe, hy9])) ?_
            refine j_callV (st' := []) (As := [vi (y9.1)]) C dX7_writeBin_51 rfl m_X7_176 h066 rfl rfl rfl (c_num4 (kL κ) hfl (kD κ) (kc κ) τ62 am bs ru se pf hd ca evs ((lnK L q) ++ [32]) bl 0 hN65 y9.1 ⟨by omega, by omega⟩ (by (try simp only [List.length_append, List.length_singleton]); omega)) rfl (by omega) (by omega) (by omega) (fun _ _ hx => hx.elim) (fun v68 τ67 hp69 => ?_)
            obtain ⟨rfl, hN70, hN70k, hN70d⟩ := hp69
            show J κ τ67 [(0, .ref (am 0)), (1, vi ((i : Int))), (2, vi ((q : Int))), (3, vi (90 * (i : Int) + z9))] 54 [] _ _
            have hN70K := hN65K.tr hN70k
            have hN70D := hN70d.trans hN65D
            obtain ⟨hI71, gc71, gm71, gr71, gp71, gb71, go71, gf71, gg71, gt71, gz71, gk71, gl71, _, _, _, h071, ⟨hgc71, hgm71, hgr71, hgp71, hgb71, hgo71, hgf71, hgg71, hgt71, hgz71, hgk71, hgl71⟩, ⟨rfl, rfl, rfl⟩, hBn71, hRu71, hPr71, hTr71, hKi71, hLi71⟩ := id hN70
            have hI := hI71
            have hnb671 := hBn71.1
            have hbk_71 := hBn71.2.2 i hi
            rw [hg] at hbk_71
            obtain ⟨⟨hcp_71, hmz_71⟩, ⟨hmn_71, hl9_71⟩, hrw_71⟩ := hbk_71
            dsimp only at hcp_71 hmz_71 hmn_71 hl9_71 hrw_71
            refine j_aload_n 0 C dX7_writeBin_54 rfl rfl rfl ?_
            refine j_bipush C dX7_writeBin_55 rfl (by decide) ?_
            refine j_callV (st' := []) (As := [vi (64)]) C dX7_writeBin_57 rfl m_X7_179 h071 rfl rfl rfl (c_writes (kL κ) hfl (kD κ) (kc κ) τ67 am bs ru se pf hd ca evs (((lnK L q) ++ [32]) ++ dg y9.1) bl 0 hN70 64 (⟨by decide, by decide⟩) (by (try simp only [List.length_append, List.length_singleton]); omega)) rfl (by omega) (by omega) (by omega) (fun _ _ hx => hx.elim) (fun v73 τ72 hp74 => ?_)
            obtain ⟨rfl, hN75, hN75k, hN75d⟩ := hp74
            show J κ τ72 [(0, .ref (am 0)), (1, vi ((i : Int))), (2, vi ((q : Int))), (3, vi (90 * (i : Int) + z9))] 60 [] _ _
            have hN75K := hN70K.tr hN75k
            have hN75D := hN75d.trans hN70D
            obtain ⟨hI76, gc76, gm76, gr76, gp76, gb76, go76, gf76, gg76, gt76, gz76, gk76, gl76, _, _, _, h076, ⟨hgc76, hgm76, hgr76, hgp76, hgb76, hgo76, hgf76, hgg76, hgt76, hgz76, hgk76, hgl76⟩, ⟨rfl, rfl, rfl⟩, hBn76, hRu76, hPr76, hTr76, hKi76, hLi76⟩ := id hN75
            have hI := hI76
            have hnb676 := hBn76.1
            have hbk_76 := hBn76.2.2 i hi
            rw [hg] at hbk_76
            obtain ⟨⟨hcp_76, hmz_76⟩, ⟨hmn_76, hl9_76⟩, hrw_76⟩ := hbk_76
            dsimp only at hcp_76 hmz_76 hmn_76 hl9_76 hrw_76
            refine j_aload_n 0 C dX7_writeBin_60 rfl rfl rfl ?_
            refine j_aload_n 0 C dX7_writeBin_61 rfl rfl rfl ?_
            refine j_get C dX7_writeBin_62 rfl fg_X7_25 h076 rfl ?_
            refine j_iload_n 3 C dX7_writeBin_65 rfl rfl rfl ?_
            refine j_iald C dX7_writeBin_66 rfl hgo76 ⟨by omega, by omega⟩ (by omega) ((rowF hrw_76 (c := cap) (m := mf) (i := (q : Int)) ⟨by omega, by omega⟩ (z := 90 * (i : Int) + z9) (by rw [hz9]; omega)).2.1.trans (by rw [hLe, hy9])) ?_
            refine j_callV (st' := []) (As := [vi (y9.2.1)]) C dX7_writeBin_67 rfl m_X7_176 h076 rfl rfl rfl (c_num3 (kL κ) hfl (kD κ) (kc κ) τ72 am bs ru se pf hd ca evs ((((lnK L q) ++ [32]) ++ dg y9.1) ++ [64]) bl 0 hN75 y9.2.1 ⟨by omega, by omega⟩ (by (try simp only [List.length_append, List.length_singleton]); omega)) rfl (by omega) (by omega) (by omega) (fun _ _ hx => hx.elim) (fun v78 τ77 hp79 => ?_)
            obtain ⟨rfl, hN80, hN80k, hN80d⟩ := hp79
            show J κ τ77 [(0, .ref (am 0)), (1, vi ((i : Int))), (2, vi ((q : Int))), (3, vi (90 * (i : Int) + z9))] 70 [] _ _
            have hN80K := hN75K.tr hN80k
            have hN80D := hN80d.trans hN75D
            obtain ⟨hI81, gc81, gm81, gr81, gp81, gb81, go81, gf81, gg81, gt81, gz81, gk81, gl81, _, _, _, h081, ⟨hgc81, hgm81, hgr81, hgp81, hgb81, hgo81, hgf81, hgg81, hgt81, hgz81, hgk81, hgl81⟩, ⟨rfl, rfl, rfl⟩, hBn81, hRu81, hPr81, hTr81, hKi81, hLi81⟩ := id hN80
            have hI := hI81
            have hnb681 := hBn81.1
            have hbk_81 := hBn81.2.2 i hi
            rw [hg] at hbk_81
            obtain ⟨⟨hcp_81, hmz_81⟩, ⟨hmn_81, hl9_81⟩, hrw_81⟩ := hbk_81
            dsimp only at hcp_81 hmz_81 hmn_81 hl9_81 hrw_81
            refine j_aload_n 0 C dX7_writeBin_70 rfl rfl rfl ?_
            refine j_bipush C dX7_writeBin_71 rfl (by decide) ?_
            refine j_callV (st' := []) (As := [vi (103)]) C dX7_writeBin_73 rfl m_X7_179 h081 rfl rfl rfl (c_writes (kL κ) hfl (kD κ) (kc κ) τ77 am bs ru se pf hd ca evs (((((lnK L q) ++ [32]) ++ dg y9.1) ++ [64]) ++ dg y9.2.1) bl 0 hN80 103 (⟨by decide, by decide⟩) (by (try simp only [List.length_append, List.length_singleton]); omega)) rfl (by omega) (by omega) (by omega) (fun _ _ hx => hx.elim) (fun v83 τ82 hp84 => ?_)
            obtain ⟨rfl, hN85, hN85k, hN85d⟩ := hp84
            show J κ τ82 [(0, .ref (am 0)), (1, vi ((i : Int))), (2, vi ((q : Int))), (3, vi (90 * (i : Int) + z9))] 76 [] _ _
            have hN85K := hN80K.tr hN85k
            have hN85D := hN85d.trans hN80D
            obtain ⟨hI86, gc86, gm86, gr86, gp86, gb86, go86, gf86, gg86, gt86, gz86, gk86, gl86, _, _, _, h086, ⟨hgc86, hgm86, hgr86, hgp86, hgb86, hgo86, hgf86, hgg86, hgt86, hgz86, hgk86, hgl86⟩, ⟨rfl, rfl, rfl⟩, hBn86, hRu86, hPr86, hTr86, hKi86, hLi86⟩ := id hN85
            have hI := hI86
            have hnb686 := hBn86.1
            have hbk_86 := hBn86.2.2 i hi
            rw [hg] at hbk_86
            obtain ⟨⟨hcp_86, hmz_86⟩, ⟨hmn_86, hl9_86⟩, hrw_86⟩ := hbk_86
            dsimp only at hcp_86 hmz_86 hmn_86 hl9_86 hrw_86
            refine j_aload_n 0 C dX7_writeBin_76 rfl rfl rfl ?_
            refine j_aload_n 0 C dX7_writeBin_77 rfl rfl rfl ?_
            refine j_get C dX7_writeBin_78 rfl fg_X7_31 h086 rfl ?_
            refine j_iload_n 3 C dX7_writeBin_81 rfl rfl rfl ?_
            refine j_iald C dX7_writeBin_82 rfl hgg86 ⟨by omega, by omega⟩ (by omega) ((rowF hrw_86 (c := cap) (m := mf) (i := (q : Int)) ⟨by omega, by omega⟩ (z := 90 * (i : Int) + z9) (by rw [hz9]; omega)).2.2.2.trans (by rw [hLe, hy9])) ?_
            refine j_callV (st' := []) (As := [vi (y9.2.2.2)]) C dX7_writeBin_83 rfl m_X7_176 h086 rfl rfl rfl (c_num1 (kL κ) hfl (kD κ) (kc κ) τ82 am bs ru se pf hd ca evs ((((((lnK L q) ++ [32]) ++ dg y9.1) ++ [64]) ++ dg y9.2.1) ++ [103]) bl 0 hN85 y9.2.2.2 ⟨by omega, by omega⟩ (by (try simp only [List.length_append, List.length_singleton]); omega)) rfl (by omega) (by omega) (by omega) (fun _ _ hx => hx.elim) (fun v88 τ87 hp89 => ?_)
            obtain ⟨rfl, hN90, hN90k, hN90d⟩ := hp89
            show J κ τ87 [(0, .ref (am 0)), (1, vi ((i : Int))), (2, vi ((q : Int))), (3, vi (90 * (i : Int) + z9))] 86 [] _ _
            have hN90K := hN85K.tr hN90k
            have hN90D := hN90d.trans hN85D
            obtain ⟨hI91, gc91, gm91, gr91, gp91, gb91, go91, gf91, gg91, gt91, gz91, gk91, gl91, _, _, _, h091, ⟨hgc91, hgm91, hgr91, hgp91, hgb91, hgo91, hgf91, hgg91, hgt91, hgz91, hgk91, hgl91⟩, ⟨rfl, rfl, rfl⟩, hBn91, hRu91, hPr91, hTr91, hKi91, hLi91⟩ := id hN90
            have hI := hI91
            have hnb691 := hBn91.1
            have hbk_91 := hBn91.2.2 i hi
            rw [hg] at hbk_91
            obtain ⟨⟨hcp_91, hmz_91⟩, ⟨hmn_91, hl9_91⟩, hrw_91⟩ := hbk_91
            dsimp only at hcp_91 hmz_91 hmn_91 hl9_91 hrw_91
            refine j_iinc (y := (q : Int) + 1) (lv' := [(0, .ref (am 0)), (1, vi ((i : Int))), (2, vi ((q : Int) + 1)), (3, vi (90 * (i : Int) + z9))]) 2 [1, 2, 0, 3] C dX7_writeBin_86 rfl rfl rfl rfl rfl ?_
            refine j_goto (tgt := 17) C dX7_writeBin_89 rfl ?_
            refine j_locals (lv' := [(0, .ref (am 0)), (1, vi ((i : Int))), (2, vi ((q : Int) + 1))]) [0, 1, 2] rfl ?_
            have hlk1 : (((((((lnK L q) ++ [32]) ++ dg y9.1) ++ [64]) ++ dg y9.2.1) ++ [103]) ++ dg y9.2.2.2) = lnK L (q + 1) := by show _ = ((((((lnK L q ++ (if q = 0 then [] else [32])) ++ dg (lyAt L (q : Int)).1) ++ [64]) ++ dg (lyAt L (q : Int)).2.1) ++ [103]) ++ dg (lyAt L (q : Int)).2.2.2); rw [hy9, if_neg (by omega)]
            have hM2 := hN90
            rw [hlk1] at hM2
            exact ih (q + 1) τ87 hM2 hN90K hN90D (by omega) (by omega)
    exact lp _ 0 τ14 hM0 kp29 dm30 (Nat.zero_le _) (Nat.lt_succ_self _)
def sumB (f : Ly → Int) : List Bn → Int
  | [] => 0
  | b :: l => sumL f b.2.2 + sumB f l
theorem costB_sumB (pf : Nat → Int) : ∀ bs : List Bn, costB pf bs = sumB (cf pf) bs
  | [] => rfl
  | b :: l => by rw [costB, sumB, costB_sumB pf l]
theorem sumB_take (f : Ly → Int) : ∀ (bs : List Bn) (i : Nat), i < bs.length → sumB f (bs.take (i + 1)) = sumB f (bs.take i) + sumL f (gB bs i).2.2
  | [], i, h => by simp at h
  | b :: l, 0, h => by simp [sumB, gB]
  | b :: l, i + 1, h => by
    have ih := sumB_take f l i (by simpa using h)
    rw [List.take_succ_cons, List.take_succ_cons, sumB, sumB, ih]
    have e : gB (b :: l) ((i + 1 : Nat) : Int) = gB l (i : Int) := by
      unfold gB
      rw [show (((i + 1 : Nat) : Int)).toNat = i + 1 by omega, List.getD_cons_succ]
      rfl
    rw [e]
    omega
/-- a sum over the first k cells of all bins -/
def sB (f : Ly → Int) (bs : List Bn) (k : Nat) : Int := sumB f (bs.take (k / 90)) + sumL f ((gB bs ((k / 90 : Nat) : Int)).2.2.take (k % 90))
theorem sB_step (f : Ly → Int) {bs : List Bn} {k : Nat} (hk : k < 90 * bs.length) {l : List Ly} (hl : (gB bs ((k / 90 : Nat) : Int)).2.2 = l) (h9 : l.length ≤ 90) : sB f bs (k + 1) = sB f bs k + (if k % 90 < l.length then f (lyAt l ((k % 90 : Nat) : Int)) else 0) := by
  have hb : k / 90 < bs.length := by omega
  have hs := sumB_take f bs (k / 90) hb
  have hu : sumL f (l.take (k % 90 + 1)) = sumL f (l.take (k % 90)) + (if k % 90 < l.length then f (lyAt l ((k % 90 : Nat) : Int)) else 0) := by
    by_cases c : k % 90 < l.length
    · rw [if_pos c]; exact sum_takeN f c
    · rw [if_neg c, List.take_of_length_le (by omega), List.take_of_length_le (by omega), Int.add_zero]
  unfold sB
  rw [hl] at hs ⊢
  by_cases d : k % 90 = 89
  · have e1 : (k + 1) / 90 = k / 90 + 1 := by omega
    have e2 : (k + 1) % 90 = 0 := by omega
    rw [e1, e2, hs, List.take_zero]
    rw [show l.take (k % 90 + 1) = l from List.take_of_length_le (by omega)] at hu
    show _ + _ + 0 = _
    omega
  · have e1 : (k + 1) / 90 = k / 90 := by omega
    have e2 : (k + 1) % 90 = k % 90 + 1 := by omega
    rw [e1, e2, hl]
    omega
theorem sB_end (f : Ly → Int) (bs : List Bn) : sB f bs (90 * bs.length) = sumB f bs := by
  unfold sB
  rw [show 90 * bs.length / 90 = bs.length by omega, show 90 * bs.length % 90 = 0 by omega, List.take_length, List.take_zero]
  exact Int.add_zero _
set_option maxHeartbeats 8000000 in
set_option maxRecDepth 20000 in
theorem m_worth (l : Launch) (hfl : l.stackTraces = false) (D : va_G) (cy : Nat → Nat) (σ : Wd) (am : Nat → Nat) (bs : List Bn) (ru : Nat → Int × Int) (se : Int) (pf : Nat → Int) (hd : Hd) (ca : Int) (evs : List Evt) (ln : List Int) (bl : Int × Int × Int) (th : Int) (hM : RM cy σ am bs ru se pf hd ca evs ln bl th) (hO : Ok bs ru se pf hd evs ln) : Ct l yX7_worth cX7_worth 4 (some .long) 0 0 0 D cy [.ref (am 0)] σ (fun v σ' => v = some (vl (costB pf bs)) ∧ RM cy σ' am bs ru se pf hd ca evs ln bl 0 ∧ Keep σ σ' (inM am) ∧ σ'.1 = σ.1) noX := by
  refine ct_start (by decide +kernel) hfl rfl (fun κ e1 e2 e3 C E NH => ?_)
  subst e1 e2 e3
  have C : Cx κ cX7_worth 4 RX7 "worth" 0 := C
  obtain ⟨-, -, -, -, hc, hs⟩ := id E
  show J κ σ [(0, .ref (am 0))] 0 [] 0 0
  obtain ⟨hI1, gc1, gm1, gr1, gp1, gb1, go1, gf1, gg1, gt1, gz1, gk1, gl1, _, _, _, h01, ⟨hgc1, hgm1, hgr1, hgp1, hgb1, hgo1, hgf1, hgg1, hgt1, hgz1, hgk1, hgl1⟩, ⟨rfl, rfl, rfl⟩, hBn1, hRu1, hPr1, hTr1, hKi1, hLi1⟩ := id hM
  have hI := hI1
  have hnb61 := hBn1.1
  have kp0 : Keep σ σ (inM am) := Keep.rf
  have dm0 : σ.1 = σ.1 := rfl
  have hprr := hO.2.2.2.2.1
  refine j_aload_n 0 C dX7_worth_0 rfl rfl rfl ?_
  refine j_iconst C dX7_worth_1 rfl ?_
  refine j_put (fs' := [.ref (am 1), .ref (am 2), .ref (am 3), .ref (am 4), .ref (am 5), .ref (am 6), .ref (am 7), .ref (am 8), .ref (am 9), .ref (am 10), .ref (am 11), .ref (am 12), vi ((bs.length : Int)), vi (se), vi ((evs.length : Int)), vi (hd.2.1), vi (hd.2.2.2.1), vi (hd.2.2.1), vi ((ln.length : Int)), vi (bl.1), vi (bl.2.1), vi (bl.2.2), vi (0), vl (hd.2.2.2.2), vl (ca)]) C dX7_worth_2 rfl fa_X7_52 h01 rfl rfl rfl rfl (fun τ2 ee3 => ?_)
  have u4 : has τ2 (am 0) (.inr (7, [.ref (am 1), .ref (am 2), .ref (am 3), .ref (am 4), .ref (am 5), .ref (am 6), .ref (am 7), .ref (am 8), .ref (am 9), .ref (am 10), .ref (am 11), .ref (am 12), vi ((bs.length : Int)), vi (se), vi ((evs.length : Int)), vi (hd.2.1), vi (hd.2.2.2.1), vi (hd.2.2.1), vi ((ln.length : Int)), vi (bl.1), vi (bl.2.1), vi (bl.2.2), vi (0), vl (hd.2.2.2.2), vl (ca)])) := h01.self' ee3
  have u5 := hgc1.ne' ee3 (hI 1 0 (by decide) (by decide) (by decide))
  have u6 := hgm1.ne' ee3 (hI 2 0 (by decide) (by decide) (by decide))
  have u7 := hgr1.ne' ee3 (hI 3 0 (by decide) (by decide) (by decide))
  have u8 := hgp1.ne' ee3 (hI 4 0 (by decide) (by decide) (by decide))
  have u9 := hgb1.ne' ee3 (hI 5 0 (by decide) (by decide) (by decide))
  have u10 := hgo1.ne' ee3 (hI 6 0 (by decide) (by decide) (by decide))
  have u11 := hgf1.ne' ee3 (hI 7 0 (by decide) (by decide) (by decide))
  have u12 := hgg1.ne' ee3 (hI 8 0 (by decide) (by decide) (by decide))
  have u13 := hgt1.ne' ee3 (hI 9 0 (by decide) (by decide) (by decide))
  have u14 := hgz1.ne' ee3 (hI 10 0 (by decide) (by decide) (by decide))
  have u15 := hgk1.ne' ee3 (hI 11 0 (by decide) (by decide) (by decide))
  have u16 := hgl1.ne' ee3 (hI 12 0 (by decide) (by decide) (by decide))
  have kp17 := kp0.put ee3 ⟨0, by decide, rfl⟩
  have dm18 := (dom_put ee3).trans dm0
  refine j_lconst (z := 0) C dX7_worth_5 rfl rfl ?_
  refine j_lstore_n (lv' := [(0, .ref (am 0)), (1, vl (0))]) [1, 0] C dX7_worth_6 rfl rfl rfl rfl ?_
  refine j_iconst C dX7_worth_7 rfl ?_
  refine j_istore_n (lv' := [(0, .ref (am 0)), (1, vl (0)), (3, vi (0))]) [1, 2, 0] C dX7_worth_8 rfl rfl rfl rfl ?_
  have lp : ∀ (N : Nat) (k : Nat), k ≤ 90 * bs.length → (90 * bs.length + 1 - k) < N → J κ τ2 [(0, .ref (am 0)), (1, vl ((sB (cf pf) bs k))), (3, vi ((k : Int)))] 9 [] 0 0 := by
    intro N
    induction N with
    | zero => intro k hk hN; exact absurd hN (Nat.not_lt_zero _)
    | succ N ih =>
      intro k hk hN
      refine j_iload_n 2 C dX7_worth_9 rfl rfl rfl ?_
      refine j_bipush C dX7_worth_10 rfl (by decide) ?_
      refine j_aload_n 0 C dX7_worth_12 rfl rfl rfl ?_
      refine j_get C dX7_worth_13 rfl fg_X7_55 u4 rfl ?_
      refine j_imul C dX7_worth_16 rfl ?_
      refine j_icmp_ge (tgt := 70) C dX7_worth_17 rfl rfl ⟨by omega, by omega⟩ ⟨by omega, by omega⟩ (fun cc19 => ?_) (fun cc19 => ?_)
      · refine j_lload_n 1 C dX7_worth_70 rfl rfl rfl ?_
        exact j_lret C E dX7_worth_71 (by omega) (by omega) ⟨by rw [show k = 90 * bs.length by omega, sB_end, ← costB_sumB], ⟨hI, _, _, _, _, _, _, _, _, _, _, _, _, _, _, _, u4, ⟨u5, u6, u7, u8, u9, u10, u11, u12, u13, u14, u15, u16⟩, ⟨rfl, rfl, rfl⟩, hBn1, hRu1, hPr1, hTr1, hKi1, hLi1⟩, kp17, dm18⟩
      · obtain ⟨b, hb0⟩ : ∃ b, k / 90 = b := ⟨_, rfl⟩
        obtain ⟨r, hr0⟩ : ∃ r, k % 90 = r := ⟨_, rfl⟩
        have hb9 : b < bs.length := by omega
        obtain ⟨⟨cap, mf, ly⟩, hg⟩ : ∃ z, gB bs (b : Int) = z := ⟨_, rfl⟩
        have hbk_1 := hBn1.2.2 b hb9
        rw [hg] at hbk_1
        obtain ⟨⟨hcp_1, hmz_1⟩, ⟨hmn_1, hl9_1⟩, hrw_1⟩ := hbk_1
        dsimp only at hcp_1 hmz_1 hmn_1 hl9_1 hrw_1
        have hokl : lysOk ly := by have e := (hO.2.1 _ (gB_mem (bs := bs) (i := (b : Int)) (by omega) (by omega))).2.1; rw [hg] at e; exact e
        have hst := sB_step (cf pf) (bs := bs) (k := k) (by omega) (l := ly) (by rw [hb0, hg]) hl9_1
        rw [hr0] at hst
        refine j_lload_n 1 C dX7_worth_20 rfl rfl rfl ?_
        refine j_iload_n 2 C dX7_worth_21 rfl rfl rfl ?_
        refine j_bipush C dX7_worth_22 rfl (by decide) ?_
        refine j_irem C dX7_worth_24 rfl ⟨by omega, by omega⟩ ⟨by omega, by omega⟩ ?_
        refine j_aload_n 0 C dX7_worth_25 rfl rfl rfl ?_
        refine j_get C dX7_worth_26 rfl fg_X7_13 u4 rfl ?_
        refine j_iload_n 2 C dX7_worth_29 rfl rfl rfl ?_
        refine j_bipush C dX7_worth_30 rfl (by decide) ?_
        refine j_idiv C dX7_worth_32 rfl ⟨by omega, by omega⟩ ⟨by omega, by omega⟩ ?_
        refine j_iald C dX7_worth_33 rfl u6 ⟨by omega, by omega⟩ (by omega) ((congrArg gm1 (show ((k : Int) / 90).toNat = b by omega)).trans hmn_1) ?_
        refine j_icmp_ge (tgt := 61) C dX7_worth_34 rfl rfl ⟨by omega, by omega⟩ ⟨by omega, by omega⟩ (fun cc20 => ?_) (fun cc20 => ?_)
        · rw [if_neg (by omega)] at hst
          refine j_lconst (z := 0) C dX7_worth_61 rfl rfl ?_
          refine j_ladd C dX7_worth_62 rfl ?_
          refine j_lstore_n (lv' := [(0, .ref (am 0)), (1, vl ((sB (cf pf) bs k) + 0)), (3, vi ((k : Int)))]) [1, 0, 2] C dX7_worth_63 rfl rfl rfl rfl ?_
          refine j_iinc (y := (k : Int) + 1) (lv' := [(0, .ref (am 0)), (1, vl ((sB (cf pf) bs k) + 0)), (3, vi ((k : Int) + 1))]) 2 [1, 2, 0] C dX7_worth_64 rfl rfl rfl rfl rfl ?_
          refine j_goto (tgt := 9) C dX7_worth_67 rfl ?_
          refine j_locals (lv' := [(0, .ref (am 0)), (1, vl (sB (cf pf) bs (k + 1))), (3, vi ((k : Int) + 1))]) [0, 1, 2] (by rw [hst]; rfl) ?_
          exact ih (k + 1) (by omega) (by omega)
        · have hly9 := hokl _ (lyAt_mem (l := ly) (k := r) (by omega))
          obtain ⟨⟨a1, a2⟩, ⟨b1, b2⟩, -, g1, g2⟩ := id hly9
          have hp9 := hprr (lyAt ly (r : Int)).2.2.2.toNat (by omega)
          have hp8 := mul_in (n := (lyAt ly (r : Int)).1) (p := pf (lyAt ly (r : Int)).2.2.2.toNat) ⟨by omega, by omega⟩ hp9
          rw [if_pos (by omega)] at hst
          refine j_aload_n 0 C dX7_worth_37 rfl rfl rfl ?_
          refine j_get C dX7_worth_38 rfl fg_X7_22 u4 rfl ?_
          refine j_iload_n 2 C dX7_worth_41 rfl rfl rfl ?_
          refine j_iald C dX7_worth_42 rfl u9 ⟨by omega, by omega⟩ (by omega) (rowK hrw_1 (k := r) (by omega) (z := (k : Int)) (by omega)).1 ?_
          refine j_aload_n 0 C dX7_worth_43 rfl rfl rfl ?_
          refine j_get C dX7_worth_44 rfl fg_X7_19 u4 rfl ?_
          refine j_aload_n 0 C dX7_worth_47 rfl rfl rfl ?_
          refine j_get C dX7_worth_48 rfl fg_X7_31 u4 rfl ?_
          refine j_iload_n 2 C dX7_worth_51 rfl rfl rfl ?_
          refine j_iald C dX7_worth_52 rfl u12 ⟨by omega, by omega⟩ (by omega) (rowK hrw_1 (k := r) (by omega) (z := (k : Int)) (by omega)).2.2.2 ?_
          refine j_iconst C dX7_worth_53 rfl ?_
          refine j_isub C dX7_worth_54 rfl ?_
          refine j_iald C dX7_worth_55 rfl u8 ⟨by omega, by omega⟩ (by omega) (prK hPr1 (g := ((lyAt ly (r : Int)).2.2.2)) ⟨by omega, by omega⟩ (z := ((lyAt ly (r : Int)).2.2.2) - 1) (by omega)) ?_
          refine j_imul C dX7_worth_56 rfl ?_
          refine j_i2l C dX7_worth_57 rfl ⟨by omega, by omega⟩ ?_
          refine j_goto (tgt := 62) C dX7_worth_58 rfl ?_
          refine j_ladd C dX7_worth_62 rfl ?_
          refine j_lstore_n (lv' := [(0, .ref (am 0)), (1, vl ((sB (cf pf) bs k) + (((lyAt ly (r : Int)).1) * (pf ((lyAt ly (r : Int)).2.2.2).toNat)))), (3, vi ((k : Int)))]) [1, 0, 2] C dX7_worth_63 rfl rfl rfl rfl ?_
          refine j_iinc (y := (k : Int) + 1) (lv' := [(0, .ref (am 0)), (1, vl ((sB (cf pf) bs k) + (((lyAt ly (r : Int)).1) * (pf ((lyAt ly (r : Int)).2.2.2).toNat)))), (3, vi ((k : Int) + 1))]) 2 [1, 2, 0] C dX7_worth_64 rfl rfl rfl rfl rfl ?_
          refine j_goto (tgt := 9) C dX7_worth_67 rfl ?_
          refine j_locals (lv' := [(0, .ref (am 0)), (1, vl (sB (cf pf) bs (k + 1))), (3, vi ((k : Int) + 1))]) [0, 1, 2] (by rw [hst]; rfl) ?_
          exact ih (k + 1) (by omega) (by omega)
  refine j_locals (lv' := [(0, .ref (am 0)), (1, vl (sB (cf pf) bs 0)), (3, vi ((0 : Nat) : Int))]) [0, 1, 2] rfl ?_
  exact lp _ 0 (Nat.zero_le _) (Nat.lt_succ_self _)
