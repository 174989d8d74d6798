/-! GrainElevatorModel: dry, blends -/
def dm (gr : Int → Int → Int) (w : Int) (y : Ly) : Ly := if w < y.2.1 then (dryN w y, w, y.2.2.1, gr w y.2.2.1) else y
/-- the first k layers dried -/
def dmK (gr : Int → Int → Int) (w : Int) (l : List Ly) (k : Nat) : List Ly := (l.take k).map (dm gr w) ++ l.drop k
theorem dmK_0 (gr : Int → Int → Int) (w : Int) (l : List Ly) : dmK gr w l 0 = l := rfl
theorem dmK_len (gr : Int → Int → Int) (w : Int) (l : List Ly) (k : Nat) : (dmK gr w l k).length = l.length := by
  unfold dmK
  rw [List.length_append, List.length_map, List.length_take, List.length_drop]
  omega
theorem dmK_at {gr : Int → Int → Int} {w : Int} {l : List Ly} {k : Nat} (h : k < l.length) : lyAt (dmK gr w l k) (k : Int) = lyAt l (k : Int) := lyAt_mid (by rw [List.length_map, List.length_take]; omega) h
theorem ly_take {l : List Ly} {k : Nat} (h : k < l.length) : l.take (k + 1) = l.take k ++ [lyAt l (k : Int)] := by
  rw [List.take_succ]
  unfold lyAt
  rw [Int.toNat_natCast, List.getD_eq_getElem?_getD, List.getElem?_eq_getElem h]
  rfl
theorem dmK_s {gr : Int → Int → Int} {w : Int} {l : List Ly} {k : Nat} (h : k < l.length) : (dmK gr w l k).set k (dm gr w (lyAt l (k : Int))) = dmK gr w l (k + 1) := by
  unfold dmK
  rw [drop_ly h, set_mid (by rw [List.length_map, List.length_take]; omega), ly_take h, List.map_append, List.append_assoc]
  rfl
theorem dmK_F {gr : Int → Int → Int} {w : Int} {l : List Ly} {k : Nat} (h : k < l.length) (hd : (lyAt l (k : Int)).2.1 ≤ w) : dmK gr w l (k + 1) = dmK gr w l k := by
  unfold dmK
  rw [ly_take h, List.map_append, List.append_assoc, drop_ly h]
  congr 1
  show dm gr w (lyAt l (k : Int)) :: l.drop (k + 1) = _
  rw [show dm gr w (lyAt l (k : Int)) = lyAt l (k : Int) from if_neg (by omega)]
theorem dmK_all {gr : Int → Int → Int} {w : Int} {l : List Ly} : dmK gr w l l.length = l.map (dm gr w) := by
  unfold dmK
  rw [List.take_length, List.drop_length, List.append_nil]
theorem dm_fpos {gr : Int → Int → Int} {w : Int} : ∀ {l : List Ly}, lysOk l → fpos (l.map (dm gr w)) = dryL gr w l
  | [], _ => rfl
  | x :: l, h => by
    have hx := (h x List.mem_cons_self).1
    have ih := dm_fpos (gr := gr) (w := w) (l := l) (fun y hy => h y (List.mem_cons_of_mem _ hy))
    unfold dryL fpos at ih ⊢
    rw [List.map_cons, List.flatMap_cons, ← ih]
    unfold dm dry1
    by_cases c : w < x.2.1
    · rw [if_pos c, if_pos c]
      by_cases d : dryN w x < 1
      · rw [if_pos d, List.filter_cons_of_neg (by show ¬ decide (0 < dryN w x) = true; simp; omega)]
        rfl
      · rw [if_neg d]
        exact List.filter_cons_of_pos (decide_eq_true (show 0 < dryN w x by omega))
    · rw [if_neg c, if_neg c]
      exact List.filter_cons_of_pos (decide_eq_true (show 0 < x.1 by omega))
theorem dm_in {gr : Int → Int → Int} {w : Int} (hw : 80 ≤ w ∧ w ≤ 300) {l : List Ly} (h : lysOk l) : ∀ y ∈ l.map (dm gr w), 0 ≤ y.1 ∧ y.1 ≤ 2000 := by
  intro y hy
  obtain ⟨x, hx, rfl⟩ := List.mem_map.mp hy
  have hx0 := h x hx
  have h1 := hx0.1
  unfold dm
  split
  · rename_i hm
    have h2 := dryN_in hx0 hw hm
    show 0 ≤ dryN w x ∧ dryN w x ≤ 2000
    omega
  · omega
theorem row_set {G G' : Nat → Ly} {s j : Nat} {ly : List Ly} {y : Ly} (h : ly = rowL G s ly.length) (h1 : G' (s + j) = y) (h2 : ∀ q, q ≠ s + j → G' q = G q) : ly.set j y = rowL G' s (ly.set j y).length := by
  rw [List.length_set]
  apply List.ext_getElem?
  intro q
  by_cases c : q < ly.length
  · rw [rowL_at c, List.getElem?_set]
    by_cases d : j = q
    · subst d
      rw [if_pos rfl, if_pos c, h1]
    · rw [if_neg d, h2 _ (by omega)]
      have e2 : ly[q]? = some (G (s + q)) := by rw [h]; exact rowL_at c
      exact e2
  · rw [List.getElem?_eq_none (by rw [List.length_set]; omega), List.getElem?_eq_none (by rw [rowL_len]; omega)]
set_option maxHeartbeats 8000000 in
set_option maxRecDepth 20000 in
theorem m_dry (l : Launch) (hfl : l.stackTraces = false) (D : va_G) (cy : Nat → Nat) (σ : Wd) (am : Nat → Nat) (bs : List Bn) (ru : Nat → Int × Int) (se : Int) (pf : Nat → Int) (hd : Hd) (ca : Int) (evs : List Evt) (ln : List Int) (bl : Int × Int × Int) (th : Int) (hM : RM cy σ am bs ru se pf hd ca evs ln bl th) (b : Int) (hb9 : (-2147483648 ≤ b ∧ b < 2147483648)) (x : Int) (hx9 : (-2147483648 ≤ x ∧ x < 2147483648)) (hO : Ok bs ru se pf hd evs ln) : Ct l yX7_dry cX7_dry 5 (some .int) 3 0 0 D cy [.ref (am 0), vi (b), vi (x)] σ (fun v σ' => ∃ rz : Int, v = some (vi rz) ∧ ((o_dry bs ru se pf hd ca evs ln b x).1 = 0 → rz = (o_dry bs ru se pf hd ca evs ln b x).2.1) ∧ (∃ bl', RMs cy σ' am (o_dry bs ru se pf hd ca evs ln b x).2.2 bl' (o_dry bs ru se pf hd ca evs ln b x).1) ∧ Keep σ σ' (inM am) ∧ σ'.1 = σ.1) noX := by
  refine ct_start (by decide +kernel) hfl rfl (fun κ e1 e2 e3 C E NH => ?_)
  subst e1 e2 e3
  have C : Cx κ cX7_dry 5 RX7 "dry" 3 := C
  obtain ⟨-, -, -, -, hc, hs⟩ := id E
  show J κ σ [(0, .ref (am 0)), (1, vi (b)), (2, vi (x))] 0 [] 0 0
  obtain ⟨hI1, gc1, gm1, gr1, gp1, gb1, go1, gf1, gg1, gt1, gz1, gk1, gl1, _, _, _, h01, ⟨hgc1, hgm1, hgr1, hgp1, hgb1, hgo1, hgf1, hgg1, hgt1, hgz1, hgk1, hgl1⟩, ⟨rfl, rfl, rfl⟩, hBn1, hRu1, hPr1, hTr1, hKi1, hLi1⟩ := id hM
  have hI := hI1
  have hnb61 := hBn1.1
  have kp0 : Keep σ σ (inM am) := Keep.rf
  have dm0 : σ.1 = σ.1 := rfl
  obtain ⟨⟨hc1, hc2⟩, hc3, hc4⟩ := hO.2.2.2.1
  have h6 := hO.1
  have hlb := hO.2.2.1
  have hTb := totB_in hO.2.1
  have hprr := hO.2.2.2.2.1
  refine j_aload_n 0 C dX7_dry_0 rfl rfl rfl ?_
  refine j_iload_n 1 C dX7_dry_1 rfl rfl rfl ?_
  rcases Classical.em (b < 0 ∨ (bs.length : Int) ≤ b) with hq | hq
  · refine j_callV (st' := []) (As := [vi (b)]) C dX7_dry_2 rfl m_X7_66 h01 rfl rfl rfl (c_nb1 (kL κ) hfl (kD κ) (kc κ) σ am bs ru se pf hd ca evs ln bl th hM b ⟨by omega, by omega⟩ hq) rfl (by omega) (by omega) (by omega) (fun _ _ hx => hx.elim) (fun v3 τ2 hp4 => ?_)
    obtain ⟨rfl, hN5, hN5k, hN5d⟩ := hp4
    show J κ τ2 [(0, .ref (am 0)), (1, vi (b)), (2, vi (x))] 5 [vi (1)] _ _
    have hN5K := kp0.tr hN5k
    have hN5D := hN5d.trans dm0
    obtain ⟨hI6, gc6, gm6, gr6, gp6, gb6, go6, gf6, gg6, gt6, gz6, gk6, gl6, _, _, _, h06, ⟨hgc6, hgm6, hgr6, hgp6, hgb6, hgo6, hgf6, hgg6, hgt6, hgz6, hgk6, hgl6⟩, ⟨rfl, rfl, rfl⟩, hBn6, hRu6, hPr6, hTr6, hKi6, hLi6⟩ := id hN5
    have hI := hI6
    have hnb66 := hBn6.1
    refine j_if_ne (tgt := 59) C dX7_dry_5 rfl rfl ⟨by omega, by omega⟩ (fun _ => ?_) (fun cc7 => absurd cc7 (by decide))
    refine j_iconst C dX7_dry_59 rfl ?_
    have ho : o_dry bs ru se pf hd ca evs ln b x = (1, 0, (bs, ru, se, pf, hd, ca, evs, ln)) := by unfold o_dry; rw [if_pos (by omega)]
    exact j_iret C E dX7_dry_60 (by omega) (by omega) ⟨_, rfl, by rw [ho]; exact fun h9 => absurd (show (1 : Int) = 0 from h9) (by decide), ⟨_, by rw [ho]; exact hN5⟩, hN5K, hN5D⟩
  · obtain ⟨i, hi, rfl⟩ : ∃ i : Nat, i < bs.length ∧ b = (i : Int) := ⟨b.toNat, by omega, by omega⟩
    have hmmi := gB_mem (bs := bs) (i := (i : Int)) (by omega) (by omega)
    obtain ⟨hcpi, hlyi, htci⟩ := hO.2.1 _ hmmi
    have hlli := len_lenB hmmi
    have ht0i := tot_0 hlyi
    have hfli : tot (fl (gB bs (i : Int))) = tot (gB bs (i : Int)).2.2 := sum_fl _ _
    have hfoi : lysOk (fl (gB bs (i : Int))) := fl_ok hlyi
    refine j_callV (st' := []) (As := [vi ((i : Int))]) C dX7_dry_2 rfl m_X7_66 h01 rfl rfl rfl (c_nb0 (kL κ) hfl (kD κ) (kc κ) σ am bs ru se pf hd ca evs ln bl th hM i hi) rfl (by omega) (by omega) (by omega) (fun _ _ hx => hx.elim) (fun v9 τ8 hp10 => ?_)
    obtain ⟨rfl, hN11, hN11k, hN11d⟩ := hp10
    show J κ τ8 [(0, .ref (am 0)), (1, vi ((i : Int))), (2, vi (x))] 5 [vi (0)] _ _
    have hN11K := kp0.tr hN11k
    have hN11D := hN11d.trans dm0
    obtain ⟨hI12, gc12, gm12, gr12, gp12, gb12, go12, gf12, gg12, gt12, gz12, gk12, gl12, _, _, _, h012, ⟨hgc12, hgm12, hgr12, hgp12, hgb12, hgo12, hgf12, hgg12, hgt12, hgz12, hgk12, hgl12⟩, ⟨rfl, rfl, rfl⟩, hBn12, hRu12, hPr12, hTr12, hKi12, hLi12⟩ := id hN11
    have hI := hI12
    have hnb612 := hBn12.1
    refine j_if_ne (tgt := 59) C dX7_dry_5 rfl rfl ⟨by omega, by omega⟩ (fun cc13 => absurd cc13 (by decide)) (fun _ => ?_)
    refine j_aload_n 0 C dX7_dry_8 rfl rfl rfl ?_
    refine j_iload_n 2 C dX7_dry_9 rfl rfl rfl ?_
    refine j_callS (st' := [.ref (am 0)]) (As := [vi (x)]) C dX7_dry_10 rfl m_X7_70 rfl rfl (c_isMoist (kL κ) hfl (kD κ) (kc κ) τ8 x ⟨by omega, by omega⟩) rfl (by omega) (by omega) (by omega) (fun _ _ hx => hx.elim) (fun v15 τ14 hp16 => ?_)
    obtain ⟨rfl, hs9⟩ := hp16
    replace hs9 := hs9.symm
    subst hs9
    show J κ τ8 [(0, .ref (am 0)), (1, vi ((i : Int))), (2, vi (x))] 13 [vi ((inI x 80 300)), .ref (am 0)] _ _
    refine j_if_ne (tgt := 20) C dX7_dry_13 rfl rfl (inI_r _ _ _) (fun cc17 => ?_) (fun cc17 => ?_)
    · replace cc17 := inI_T cc17
      refine j_iconst C dX7_dry_20 rfl ?_
      refine j_iconst C dX7_dry_21 rfl ?_
      refine j_callV (st' := []) (As := [vi (0), vi (2)]) C dX7_dry_22 rfl m_X7_62 h012 rfl rfl rfl (c_thr0 (kL κ) hfl (kD κ) (kc κ) τ8 am bs ru se pf hd ca evs ln bl 0 hN11 2) rfl (by omega) (by omega) (by omega) (fun _ _ hx => hx.elim) (fun v19 τ18 hp20 => ?_)
      obtain ⟨rfl, hN21, hN21k, hN21d⟩ := hp20
      show J κ τ18 [(0, .ref (am 0)), (1, vi ((i : Int))), (2, vi (x))] 25 [vi (0)] _ _
      have hN21K := hN11K.tr hN21k
      have hN21D := hN21d.trans hN11D
      obtain ⟨hI22, gc22, gm22, gr22, gp22, gb22, go22, gf22, gg22, gt22, gz22, gk22, gl22, _, _, _, h022, ⟨hgc22, hgm22, hgr22, hgp22, hgb22, hgo22, hgf22, hgg22, hgt22, hgz22, hgk22, hgl22⟩, ⟨rfl, rfl, rfl⟩, hBn22, hRu22, hPr22, hTr22, hKi22, hLi22⟩ := id hN21
      have hI := hI22
      have hnb622 := hBn22.1
      refine j_if_ne (tgt := 59) C dX7_dry_25 rfl rfl ⟨by omega, by omega⟩ (fun cc23 => absurd cc23 (by decide)) (fun _ => ?_)
      refine j_aload_n 0 C dX7_dry_28 rfl rfl rfl ?_
      refine j_aload_n 0 C dX7_dry_29 rfl rfl rfl ?_
      refine j_iload_n 1 C dX7_dry_30 rfl rfl rfl ?_
      refine j_iload_n 2 C dX7_dry_31 rfl rfl rfl ?_
      refine j_callV (st' := [.ref (am 0)]) (As := [vi ((i : Int)), vi (x)]) C dX7_dry_32 rfl m_X7_129 h022 rfl rfl rfl (c_isWet (kL κ) hfl (kD κ) (kc κ) τ18 am bs ru se pf hd ca evs ln bl 0 hN21 i hi hlyi x ⟨by omega, by omega⟩) rfl (by omega) (by omega) (by omega) (fun _ _ hx => hx.elim) (fun v25 τ24 hp26 => ?_)
      obtain ⟨rfl, hs9⟩ := hp26
      replace hs9 := hs9.symm
      subst hs9
      show J κ τ18 [(0, .ref (am 0)), (1, vi ((i : Int))), (2, vi (x))] 35 [vi ((isW x (gB bs (i : Int)).2.2)), .ref (am 0)] _ _
      refine j_if_eq (tgt := 47) C dX7_dry_35 rfl rfl (isW_r _ _) (fun cc27 => ?_) (fun cc27 => ?_)
      · replace cc27 := isW_F cc27
        refine j_iconst C dX7_dry_47 rfl ?_
        refine j_goto (tgt := 52) C dX7_dry_48 rfl ?_
        refine j_iconst C dX7_dry_52 rfl ?_
        refine j_callV (st' := []) (As := [vi (1), vi (3)]) C dX7_dry_53 rfl m_X7_62 h022 rfl rfl rfl (c_thr1 (kL κ) hfl (kD κ) (kc κ) τ18 am bs ru se pf hd ca evs ln bl 0 hN21 3) rfl (by omega) (by omega) (by omega) (fun _ _ hx => hx.elim) (fun v29 τ28 hp30 => ?_)
        obtain ⟨rfl, hN31, hN31k, hN31d⟩ := hp30
        show J κ τ28 [(0, .ref (am 0)), (1, vi ((i : Int))), (2, vi (x))] 56 [vi (1)] _ _
        have hN31K := hN21K.tr hN31k
        have hN31D := hN31d.trans hN21D
        obtain ⟨hI32, gc32, gm32, gr32, gp32, gb32, go32, gf32, gg32, gt32, gz32, gk32, gl32, _, _, _, h032, ⟨hgc32, hgm32, hgr32, hgp32, hgb32, hgo32, hgf32, hgg32, hgt32, hgz32, hgk32, hgl32⟩, ⟨rfl, rfl, rfl⟩, hBn32, hRu32, hPr32, hTr32, hKi32, hLi32⟩ := id hN31
        have hI := hI32
        have hnb632 := hBn32.1
        refine j_if_eq (tgt := 61) C dX7_dry_56 rfl rfl ⟨by omega, by omega⟩ (fun cc33 => absurd cc33 (by decide)) (fun _ => ?_)
        refine j_iconst C dX7_dry_59 rfl ?_
        have ho : o_dry bs ru se pf hd ca evs ln (i : Int) x = (3, 0, (bs, ru, se, pf, hd, ca, evs, ln)) := by unfold o_dry; rw [if_neg (by omega), if_neg (by omega), if_pos (by omega)]
        exact j_iret C E dX7_dry_60 (by omega) (by omega) ⟨_, rfl, by rw [ho]; exact fun h9 => absurd (show (3 : Int) = 0 from h9) (by decide), ⟨_, by rw [ho]; exact hN31⟩, hN31K, hN31D⟩
      · replace cc27 := isW_T cc27
        refine j_aload_n 0 C dX7_dry_38 rfl rfl rfl ?_
        refine j_get C dX7_dry_39 rfl fg_X7_80 h022 rfl ?_
        refine j_bipush C dX7_dry_42 rfl (by decide) ?_
        refine j_icmp_ne (tgt := 51) C dX7_dry_44 rfl rfl ⟨by omega, by omega⟩ ⟨by omega, by omega⟩ (fun cc34 => ?_) (fun cc34 => ?_)
        · refine j_iconst C dX7_dry_51 rfl ?_
          refine j_iconst C dX7_dry_52 rfl ?_
          refine j_callV (st' := []) (As := [vi (0), vi (3)]) C dX7_dry_53 rfl m_X7_62 h022 rfl rfl rfl (c_thr0 (kL κ) hfl (kD κ) (kc κ) τ18 am bs ru se pf hd ca evs ln bl 0 hN21 3) rfl (by omega) (by omega) (by omega) (fun _ _ hx => hx.elim) (fun v36 τ35 hp37 => ?_)
          obtain ⟨rfl, hN38, hN38k, hN38d⟩ := hp37
          show J κ τ35 [(0, .ref (am 0)), (1, vi ((i : Int))), (2, vi (x))] 56 [vi (0)] _ _
          have hN38K := hN21K.tr hN38k
          have hN38D := hN38d.trans hN21D
          obtain ⟨hI39, gc39, gm39, gr39, gp39, gb39, go39, gf39, gg39, gt39, gz39, gk39, gl39, _, _, _, h039, ⟨hgc39, hgm39, hgr39, hgp39, hgb39, hgo39, hgf39, hgg39, hgt39, hgz39, hgk39, hgl39⟩, ⟨rfl, rfl, rfl⟩, hBn39, hRu39, hPr39, hTr39, hKi39, hLi39⟩ := id hN38
          have hI := hI39
          have hnb639 := hBn39.1
          refine j_if_eq (tgt := 61) C dX7_dry_56 rfl rfl ⟨by omega, by omega⟩ (fun _ => ?_) (fun cc40 => absurd cc40 (by decide))
          have hl : evs.length < 80 := by omega
          have hx0 : 80 ≤ x ∧ x ≤ 300 := ⟨by omega, by omega⟩
          obtain ⟨-, hap, hOk⟩ := dry_ev hO hl hi (x := x) hx0
          have hdi := dryC_in hx0 hlyi
          refine j_aload_n 0 C dX7_dry_61 rfl rfl rfl ?_
          refine j_iload_n 1 C dX7_dry_62 rfl rfl rfl ?_
          refine j_callV (st' := []) (As := [vi ((i : Int))]) C dX7_dry_63 rfl m_X7_93 h039 rfl rfl rfl (c_within (kL κ) hfl (kD κ) (kc κ) τ35 am bs ru se pf hd ca evs ln bl 0 hN38 i hi) rfl (by omega) (by omega) (by omega) (fun _ _ hx => hx.elim) (fun v42 τ41 hp43 => ?_)
          obtain ⟨rfl, hs9⟩ := hp43
          replace hs9 := hs9.symm
          subst hs9
          show J κ τ35 [(0, .ref (am 0)), (1, vi ((i : Int))), (2, vi (x))] 66 [vi ((tot (gB bs (i : Int)).2.2))] _ _
          refine j_istore_n (lv' := [(0, .ref (am 0)), (1, vi ((i : Int))), (2, vi (x)), (3, vi ((tot (gB bs (i : Int)).2.2)))]) [1, 2, 3, 0] C dX7_dry_66 rfl rfl rfl rfl ?_
          refine j_aload_n 0 C dX7_dry_67 rfl rfl rfl ?_
          refine j_dup C dX7_dry_68 rfl rfl ?_
          refine j_get C dX7_dry_69 rfl fg_X7_101 h039 rfl ?_
          refine j_aload_n 0 C dX7_dry_72 rfl rfl rfl ?_
          refine j_iload_n 1 C dX7_dry_73 rfl rfl rfl ?_
          refine j_iload_n 2 C dX7_dry_74 rfl rfl rfl ?_
          refine j_callV (st' := [vl (ca), .ref (am 0)]) (As := [vi ((i : Int)), vi (x)]) C dX7_dry_75 rfl m_X7_132 h039 rfl rfl rfl (c_drying (kL κ) hfl (kD κ) (kc κ) τ35 am bs ru se pf hd ca evs ln bl 0 hN38 i hi hlyi x ⟨by omega, by omega⟩) rfl (by omega) (by omega) (by omega) (fun _ _ hx => hx.elim) (fun v45 τ44 hp46 => ?_)
          obtain ⟨rfl, hs9⟩ := hp46
          replace hs9 := hs9.symm
          subst hs9
          show J κ τ35 [(0, .ref (am 0)), (1, vi ((i : Int))), (2, vi (x)), (3, vi ((tot (gB bs (i : Int)).2.2)))] 78 [vi ((sumL (dryC x) (gB bs (i : Int)).2.2)), vl (ca), .ref (am 0)] _ _
          refine j_i2l C dX7_dry_78 rfl ⟨by omega, by omega⟩ ?_
          refine j_lsub C dX7_dry_79 rfl ?_
          refine j_put (fs' := [.ref (am 1), .ref (am 2), .ref (am 3), .ref (am 4), .ref (am 5), .ref (am 6), .ref (am 7), .ref (am 8), .ref (am 9), .ref (am 10), .ref (am 11), .ref (am 12), vi ((bs.length : Int)), vi (se), vi ((evs.length : Int)), vi (hd.2.1), vi (hd.2.2.2.1), vi (hd.2.2.1), vi ((ln.length : Int)), vi (bl.1), vi (bl.2.1), vi (bl.2.2), vi (0), vl (hd.2.2.2.2), vl (ca - (sumL (dryC x) (gB bs (i : Int)).2.2))]) C dX7_dry_80 rfl fa_X7_101 h039 rfl rfl rfl rfl (fun τ47 ee48 => ?_)
          have u49 : has τ47 (am 0) (.inr (7, [.ref (am 1), .ref (am 2), .ref (am 3), .ref (am 4), .ref (am 5), .ref (am 6), .ref (am 7), .ref (am 8), .ref (am 9), .ref (am 10), .ref (am 11), .ref (am 12), vi ((bs.length : Int)), vi (se), vi ((evs.length : Int)), vi (hd.2.1), vi (hd.2.2.2.1), vi (hd.2.2.1), vi ((ln.length : Int)), vi (bl.1), vi (bl.2.1), vi (bl.2.2), vi (0), vl (hd.2.2.2.2), vl (ca - (sumL (dryC x) (gB bs (i : Int)).2.2))])) := h039.self' ee48
          have u50 := hgc39.ne' ee48 (hI 1 0 (by decide) (by decide) (by decide))
          have u51 := hgm39.ne' ee48 (hI 2 0 (by decide) (by decide) (by decide))
          have u52 := hgr39.ne' ee48 (hI 3 0 (by decide) (by decide) (by decide))
          have u53 := hgp39.ne' ee48 (hI 4 0 (by decide) (by decide) (by decide))
          have u54 := hgb39.ne' ee48 (hI 5 0 (by decide) (by decide) (by decide))
          have u55 := hgo39.ne' ee48 (hI 6 0 (by decide) (by decide) (by decide))
          have u56 := hgf39.ne' ee48 (hI 7 0 (by decide) (by decide) (by decide))
          have u57 := hgg39.ne' ee48 (hI 8 0 (by decide) (by decide) (by decide))
          have u58 := hgt39.ne' ee48 (hI 9 0 (by decide) (by decide) (by decide))
          have u59 := hgz39.ne' ee48 (hI 10 0 (by decide) (by decide) (by decide))
          have u60 := hgk39.ne' ee48 (hI 11 0 (by decide) (by decide) (by decide))
          have u61 := hgl39.ne' ee48 (hI 12 0 (by decide) (by decide) (by decide))
          have kp62 := hN38K.put ee48 ⟨0, by decide, rfl⟩
          have dm63 := (dom_put ee48).trans hN38D
          have hMc : RM (kc κ) τ47 am bs ru se pf hd (ca - (sumL (dryC x) (gB bs (i : Int)).2.2)) evs ln bl 0 := ⟨hI, _, _, _, _, _, _, _, _, _, _, _, _, _, _, _, u49, ⟨u50, u51, u52, u53, u54, u55, u56, u57, u58, u59, u60, u61⟩, ⟨rfl, rfl, rfl⟩, hBn39, hRu39, hPr39, hTr39, hKi39, hLi39⟩
          rw [show ca - (sumL (dryC x) (gB bs (i : Int)).2.2) = ca + -sumL (dryC x) (gB bs (i : Int)).2.2 from Int.sub_eq_add_neg] at hMc
          refine j_bipush C dX7_dry_83 rfl (by decide) ?_
          refine j_iload_n 1 C dX7_dry_85 rfl rfl rfl ?_
          refine j_imul C dX7_dry_86 rfl ?_
          refine j_istore (lv' := [(0, .ref (am 0)), (1, vi ((i : Int))), (2, vi (x)), (3, vi ((tot (gB bs (i : Int)).2.2))), (4, vi (90 * (i : Int)))]) [1, 2, 3, 4, 0] C dX7_dry_87 rfl rfl rfl ?_
          obtain ⟨⟨cap, mf, ly⟩, hg⟩ : ∃ z, gB bs (i : Int) = z := ⟨_, rfl⟩
          have hokl : lysOk ly := by have e := hlyi; rw [hg] at e; exact e
          have hll80 : ly.length ≤ 80 := by have e := hlli; rw [hg] at e; dsimp only at e; omega
          have hM0 : RM (kc κ) τ47 am (setL bs i (dmK (gradeF ru se) x ly 0)) ru se pf hd (ca + -sumL (dryC x) (gB bs (i : Int)).2.2) evs ln bl 0 := by rw [dmK_0, show setL bs i ly = bs by have e := setL_self hi; rw [hg] at e; exact e]; exact hMc
          have lp : ∀ (N : Nat) (k : Nat) (σ1 : Wd), RM (kc κ) σ1 am (setL bs i (dmK (gradeF ru se) x ly k)) ru se pf hd (ca + -sumL (dryC x) (gB bs (i : Int)).2.2) evs ln bl 0 → Keep σ σ1 (inM am) → σ1.1 = σ.1 → k ≤ ly.length → (ly.length + 1 - k) < N → J κ σ1 [(0, .ref (am 0)), (1, vi ((i : Int))), (2, vi (x)), (3, vi ((tot (gB bs (i : Int)).2.2))), (4, vi ((90 * (i : Int) + (k : Int))))] 89 [] 0 0 := by
            intro N
            induction N with
            | zero => intro k σ1 hM1 hk1 hd1 hk hN; exact absurd hN (Nat.not_lt_zero _)
            | succ N ih =>
              intro k σ1 hM1 hk1 hd1 hk hN
              obtain ⟨X, hX⟩ : ∃ z, dmK (gradeF ru se) x ly k = z := ⟨_, rfl⟩
              rw [hX] at hM1
              have hlX : X.length = ly.length := by rw [← hX, dmK_len]
              obtain ⟨bs1, hb1⟩ : ∃ z, setL bs i X = z := ⟨_, rfl⟩
              rw [hb1] at hM1
              have hbl1 : bs1.length = bs.length := by rw [← hb1, setL_len]
              have hi1 : i < bs1.length := by omega
              have hg1 : gB bs1 i = (cap, mf, X) := by rw [← hb1, gB_setS hi, hg]
              obtain ⟨hI64, gc64, gm64, gr64, gp64, gb64, go64, gf64, gg64, gt64, gz64, gk64, gl64, _, _, _, h064, ⟨hgc64, hgm64, hgr64, hgp64, hgb64, hgo64, hgf64, hgg64, hgt64, hgz64, hgk64, hgl64⟩, ⟨rfl, rfl, rfl⟩, hBn64, hRu64, hPr64, hTr64, hKi64, hLi64⟩ := id hM1
              have hI := hI64
              have hnb664 := hBn64.1
              have hbk_64 := hBn64.2.2 i hi1
              rw [hg1] at hbk_64
              obtain ⟨⟨hcp_64, hmz_64⟩, ⟨hmn_64, hl9_64⟩, hrw_64⟩ := hbk_64
              dsimp only at hcp_64 hmz_64 hmn_64 hl9_64 hrw_64
              refine j_iload 4 C dX7_dry_89 rfl rfl ?_
              refine j_bipush C dX7_dry_91 rfl (by decide) ?_
              refine j_iload_n 1 C dX7_dry_93 rfl rfl rfl ?_
              refine j_imul C dX7_dry_94 rfl ?_
              refine j_aload_n 0 C dX7_dry_95 rfl rfl rfl ?_
              refine j_get C dX7_dry_96 rfl fg_X7_13 h064 rfl ?_
              refine j_iload_n 1 C dX7_dry_99 rfl rfl rfl ?_
              refine j_iald C dX7_dry_100 rfl hgm64 ⟨by omega, by omega⟩ (by omega) hmn_64 ?_
              refine j_iadd C dX7_dry_101 rfl ?_
              refine j_icmp_ge (tgt := 181) C dX7_dry_102 rfl rfl ⟨by omega, by omega⟩ ⟨by omega, by omega⟩ (fun cc65 => ?_) (fun cc65 => ?_)
              · have hke : k = ly.length := by omega
                rw [hke, dmK_all] at hX
                have h09 : ∀ y ∈ (gB bs1 i).2.2, 0 ≤ y.1 ∧ y.1 ≤ 2000 := by rw [hg1]; show ∀ y ∈ X, 0 ≤ y.1 ∧ y.1 ≤ 2000; rw [← hX]; exact dm_in hx0 hokl
                have hfin : setL bs1 i (fpos (gB bs1 i).2.2) = (apB (gradeF ru se) bs (100, (i : Int), (i : Int), 0, 0, x, 0)) := by rw [hap, hg1, ← hb1, setL_same hi]; show setL bs i (fpos X) = setL bs i (dryL (gradeF ru se) x (gB bs (i : Int)).2.2); rw [hg, ← hX, dm_fpos hokl]
                refine j_aload_n 0 C dX7_dry_181 rfl rfl rfl ?_
                refine j_iload_n 1 C dX7_dry_182 rfl rfl rfl ?_
                refine j_callV (st' := []) (As := [vi ((i : Int))]) C dX7_dry_183 rfl m_X7_117 h064 rfl rfl rfl (c_clears (kL κ) hfl (kD κ) (kc κ) σ1 am bs1 ru se pf hd (ca + -sumL (dryC x) (gB bs (i : Int)).2.2) evs ln bl 0 hM1 i hi1 h09) rfl (by omega) (by omega) (by omega) (fun _ _ hx => hx.elim) (fun v67 τ66 hp68 => ?_)
                obtain ⟨rfl, hN69, hN69k, hN69d⟩ := hp68
                rw [hfin] at hN69
                show J κ τ66 [(0, .ref (am 0)), (1, vi ((i : Int))), (2, vi (x)), (3, vi ((tot (gB bs (i : Int)).2.2))), (4, vi ((90 * (i : Int) + (k : Int))))] 186 [] _ _
                have hN69K := hk1.tr hN69k
                have hN69D := hN69d.trans hd1
                obtain ⟨hI70, gc70, gm70, gr70, gp70, gb70, go70, gf70, gg70, gt70, gz70, gk70, gl70, _, _, _, h070, ⟨hgc70, hgm70, hgr70, hgp70, hgb70, hgo70, hgf70, hgg70, hgt70, hgz70, hgk70, hgl70⟩, ⟨rfl, rfl, rfl⟩, hBn70, hRu70, hPr70, hTr70, hKi70, hLi70⟩ := id hN69
                have hI := hI70
                have hnb670 := hBn70.1
                refine j_aload_n 0 C dX7_dry_186 rfl rfl rfl ?_
                refine j_bipush C dX7_dry_187 rfl (by decide) ?_
                have hTA := totB_in hOk.2.1
                have hA6 := hOk.1
                refine j_callV (st' := []) (As := [vi (100)]) C dX7_dry_189 rfl m_X7_105 h070 rfl rfl rfl (c_notes (kL κ) hfl (kD κ) (kc κ) τ66 am (apB (gradeF ru se) bs (100, (i : Int), (i : Int), 0, 0, x, 0)) ru se pf hd (ca + -sumL (dryC x) (gB bs (i : Int)).2.2) evs ln bl 0 hN69 (100, (i : Int), (i : Int), 0, 0, x, 0) nar_d (⟨by decide, by decide⟩ : (0 : Int) ≤ 100 ∧ (100 : Int) < 128) hl (by omega) ⟨by omega, by omega⟩ ⟨by omega, by omega⟩) rfl (by omega) (by omega) (by omega) (fun _ _ hx => hx.elim) (fun v72 τ71 hp73 => ?_)
                obtain ⟨rfl, hN74, hN74k, hN74d⟩ := hp73
                show J κ τ71 [(0, .ref (am 0)), (1, vi ((i : Int))), (2, vi (x)), (3, vi ((tot (gB bs (i : Int)).2.2))), (4, vi ((90 * (i : Int) + (k : Int))))] 192 [] _ _
                have hN74K := hN69K.tr hN74k
                have hN74D := hN74d.trans hN69D
                obtain ⟨hI75, gc75, gm75, gr75, gp75, gb75, go75, gf75, gg75, gt75, gz75, gk75, gl75, _, _, _, h075, ⟨hgc75, hgm75, hgr75, hgp75, hgb75, hgo75, hgf75, hgg75, hgt75, hgz75, hgk75, hgl75⟩, ⟨rfl, rfl, rfl⟩, hBn75, hRu75, hPr75, hTr75, hKi75, hLi75⟩ := id hN74
                have hI := hI75
                have hnb675 := hBn75.1
                refine j_iload_n 3 C dX7_dry_192 rfl rfl rfl ?_
                refine j_aload_n 0 C dX7_dry_193 rfl rfl rfl ?_
                refine j_iload_n 1 C dX7_dry_194 rfl rfl rfl ?_
                refine j_callV (st' := [vi ((tot (gB bs (i : Int)).2.2))]) (As := [vi ((i : Int))]) C dX7_dry_195 rfl m_X7_93 h075 rfl rfl rfl (c_within (kL κ) hfl (kD κ) (kc κ) τ71 am (apB (gradeF ru se) bs (100, (i : Int), (i : Int), 0, 0, x, 0)) ru se pf (hdF hd (totB (apB (gradeF ru se) bs (100, (i : Int), (i : Int), 0, 0, x, 0)))) (ca + -sumL (dryC x) (gB bs (i : Int)).2.2) (evs ++ [(100, (i : Int), (i : Int), 0, 0, x, 0)]) ln bl 0 hN74 i (by rw [apB_len]; exact hi)) rfl (by omega) (by omega) (by omega) (fun _ _ hx => hx.elim) (fun v77 τ76 hp78 => ?_)
                obtain ⟨rfl, hs9⟩ := hp78
                replace hs9 := hs9.symm
                subst hs9
                show J κ τ71 [(0, .ref (am 0)), (1, vi ((i : Int))), (2, vi (x)), (3, vi ((tot (gB bs (i : Int)).2.2))), (4, vi ((90 * (i : Int) + (k : Int))))] 198 [vi ((tot (gB (apB (gradeF ru se) bs (100, (i : Int), (i : Int), 0, 0, x, 0)) (i : Int)).2.2)), vi ((tot (gB bs (i : Int)).2.2))] _ _
                refine j_isub C dX7_dry_198 rfl ?_
                have ho : o_dry bs ru se pf hd ca evs ln (i : Int) x = (0, tot (gB bs (i : Int)).2.2 - tot (gB (apB (gradeF ru se) bs (100, (i : Int), (i : Int), 0, 0, x, 0)) (i : Int)).2.2, evS bs ru se pf hd ca evs ln (100, (i : Int), (i : Int), 0, 0, x, 0) (-sumL (dryC x) (gB bs (i : Int)).2.2)) := by unfold o_dry; rw [if_neg (by omega), if_neg (by omega), if_neg (by omega)]
                exact j_iret C E dX7_dry_199 (by omega) (by omega) ⟨_, rfl, by rw [ho]; exact fun _ => rfl, ⟨_, by rw [ho]; exact hN74⟩, hN74K, hN74D⟩
              · have hk9 : k < ly.length := by omega
                have hxX : lyAt X (k : Int) = lyAt ly (k : Int) := by rw [← hX]; exact dmK_at hk9
                have hly9 := hokl _ (lyAt_mem hk9)
                obtain ⟨⟨a1, a2⟩, ⟨b1, b2⟩, ⟨f1, f2⟩, g1, g2⟩ := id hly9
                refine j_aload_n 0 C dX7_dry_105 rfl rfl rfl ?_
                refine j_get C dX7_dry_106 rfl fg_X7_25 h064 rfl ?_
                refine j_iload 4 C dX7_dry_109 rfl rfl ?_
                refine j_iald C dX7_dry_111 rfl hgo64 ⟨by omega, by omega⟩ (by omega) ((rowK hrw_64 (k := k) (by omega) (z := (90 * (i : Int) + (k : Int))) (by omega)).2.1.trans (by rw [hxX])) ?_
                refine j_iload_n 2 C dX7_dry_112 rfl rfl rfl ?_
                refine j_icmp_le (tgt := 175) C dX7_dry_113 rfl rfl ⟨by omega, by omega⟩ ⟨by omega, by omega⟩ (fun cc79 => ?_) (fun cc79 => ?_)
                · refine j_iinc (y := (90 * (i : Int) + (k : Int)) + 1) (lv' := [(0, .ref (am 0)), (1, vi ((i : Int))), (2, vi (x)), (3, vi ((tot (gB bs (i : Int)).2.2))), (4, vi ((90 * (i : Int) + (k : Int)) + 1))]) 4 [1, 2, 3, 4, 0] C dX7_dry_175 rfl rfl rfl rfl rfl ?_
                  refine j_goto (tgt := 89) C dX7_dry_178 rfl ?_
                  have hM3 : RM (kc κ) σ1 am (setL bs i (dmK (gradeF ru se) x ly (k + 1))) ru se pf hd (ca + -sumL (dryC x) (gB bs (i : Int)).2.2) evs ln bl 0 := by rw [dmK_F hk9 (by omega), hX, hb1]; exact hM1
                  refine j_locals (lv' := [(0, .ref (am 0)), (1, vi ((i : Int))), (2, vi (x)), (3, vi ((tot (gB bs (i : Int)).2.2))), (4, vi (90 * (i : Int) + ((k + 1 : Nat) : Int)))]) [0, 1, 2, 3, 4] (by rw [show 90 * (i : Int) + ((k + 1 : Nat) : Int) = (90 * (i : Int) + (k : Int)) + 1 by omega]; rfl) ?_
                  exact ih (k + 1) σ1 hM3 hk1 hd1 (by omega) (by omega)
                · have hdn := dryN_in hly9 hx0 (by omega)
                  refine j_aload_n 0 C dX7_dry_116 rfl rfl rfl ?_
                  refine j_get C dX7_dry_117 rfl fg_X7_22 h064 rfl ?_
                  refine j_iload 4 C dX7_dry_120 rfl rfl ?_
                  refine j_aload_n 0 C dX7_dry_122 rfl rfl rfl ?_
                  refine j_get C dX7_dry_123 rfl fg_X7_22 h064 rfl ?_
                  refine j_iload 4 C dX7_dry_126 rfl rfl ?_
                  refine j_iald C dX7_dry_128 rfl hgb64 ⟨by omega, by omega⟩ (by omega) ((rowK hrw_64 (k := k) (by omega) (z := (90 * (i : Int) + (k : Int))) (by omega)).1.trans (by rw [hxX])) ?_
                  refine j_sipush C dX7_dry_129 rfl (by decide) ?_
                  refine j_aload_n 0 C dX7_dry_132 rfl rfl rfl ?_
                  refine j_get C dX7_dry_133 rfl fg_X7_25 h064 rfl ?_
                  refine j_iload 4 C dX7_dry_136 rfl rfl ?_
                  refine j_iald C dX7_dry_138 rfl hgo64 ⟨by omega, by omega⟩ (by omega) ((rowK hrw_64 (k := k) (by omega) (z := (90 * (i : Int) + (k : Int))) (by omega)).2.1.trans (by rw [hxX])) ?_
                  refine j_isub C dX7_dry_139 rfl ?_
                  refine j_imul C dX7_dry_140 rfl ?_
                  refine j_sipush C dX7_dry_141 rfl (by decide) ?_
                  refine j_iload_n 2 C dX7_dry_144 rfl rfl rfl ?_
                  refine j_isub C dX7_dry_145 rfl ?_
                  refine j_idiv C dX7_dry_146 rfl ⟨by omega, by omega⟩ ⟨by omega, by omega⟩ ?_
                  refine j_iast C dX7_dry_147 rfl hgb64 ⟨by omega, by omega⟩ (by omega) (fun τ80 ee81 => ?_)
                  have u82 := h064.ne' ee81 (hI 0 5 (by decide) (by decide) (by decide))
                  have u83 := hgc64.ne' ee81 (hI 1 5 (by decide) (by decide) (by decide))
                  have u84 := hgm64.ne' ee81 (hI 2 5 (by decide) (by decide) (by decide))
                  have u85 := hgr64.ne' ee81 (hI 3 5 (by decide) (by decide) (by decide))
                  have u86 := hgp64.ne' ee81 (hI 4 5 (by decide) (by decide) (by decide))
                  have u87 : has τ80 (am 5) (iA (kc κ) 540 (ups gb64 (90 * (i : Int) + (k : Int)).toNat ((((lyAt ly (k : Int)).1) * (1000 - ((lyAt ly (k : Int)).2.1))) / (1000 - x)))) := hgb64.self' ee81
                  have u88 := hgo64.ne' ee81 (hI 6 5 (by decide) (by decide) (by decide))
                  have u89 := hgf64.ne' ee81 (hI 7 5 (by decide) (by decide) (by decide))
                  have u90 := hgg64.ne' ee81 (hI 8 5 (by decide) (by decide) (by decide))
                  have u91 := hgt64.ne' ee81 (hI 9 5 (by decide) (by decide) (by decide))
                  have u92 := hgz64.ne' ee81 (hI 10 5 (by decide) (by decide) (by decide))
                  have u93 := hgk64.ne' ee81 (hI 11 5 (by decide) (by decide) (by decide))
                  have u94 := hgl64.ne' ee81 (hI 12 5 (by decide) (by decide) (by decide))
                  have kp95 := hk1.put ee81 ⟨5, by decide, rfl⟩
                  have dm96 := (dom_put ee81).trans hd1
                  refine j_aload_n 0 C dX7_dry_148 rfl rfl rfl ?_
                  refine j_get C dX7_dry_149 rfl fg_X7_25 u82 rfl ?_
                  refine j_iload 4 C dX7_dry_152 rfl rfl ?_
                  refine j_iload_n 2 C dX7_dry_154 rfl rfl rfl ?_
                  refine j_iast C dX7_dry_155 rfl u88 ⟨by omega, by omega⟩ (by omega) (fun τ97 ee98 => ?_)
                  have u99 := u82.ne' ee98 (hI 0 6 (by decide) (by decide) (by decide))
                  have u100 := u83.ne' ee98 (hI 1 6 (by decide) (by decide) (by decide))
                  have u101 := u84.ne' ee98 (hI 2 6 (by decide) (by decide) (by decide))
                  have u102 := u85.ne' ee98 (hI 3 6 (by decide) (by decide) (by decide))
                  have u103 := u86.ne' ee98 (hI 4 6 (by decide) (by decide) (by decide))
                  have u104 := u87.ne' ee98 (hI 5 6 (by decide) (by decide) (by decide))
                  have u105 : has τ97 (am 6) (iA (kc κ) 540 (ups go64 (90 * (i : Int) + (k : Int)).toNat x)) := u88.self' ee98
                  have u106 := u89.ne' ee98 (hI 7 6 (by decide) (by decide) (by decide))
                  have u107 := u90.ne' ee98 (hI 8 6 (by decide) (by decide) (by decide))
                  have u108 := u91.ne' ee98 (hI 9 6 (by decide) (by decide) (by decide))
                  have u109 := u92.ne' ee98 (hI 10 6 (by decide) (by decide) (by decide))
                  have u110 := u93.ne' ee98 (hI 11 6 (by decide) (by decide) (by decide))
                  have u111 := u94.ne' ee98 (hI 12 6 (by decide) (by decide) (by decide))
                  have kp112 := kp95.put ee98 ⟨6, by decide, rfl⟩
                  have dm113 := (dom_put ee98).trans dm96
                  refine j_aload_n 0 C dX7_dry_156 rfl rfl rfl ?_
                  refine j_get C dX7_dry_157 rfl fg_X7_31 u99 rfl ?_
                  refine j_iload 4 C dX7_dry_160 rfl rfl ?_
                  refine j_aload_n 0 C dX7_dry_162 rfl rfl rfl ?_
                  refine j_iload_n 2 C dX7_dry_163 rfl rfl rfl ?_
                  refine j_aload_n 0 C dX7_dry_164 rfl rfl rfl ?_
                  refine j_get C dX7_dry_165 rfl fg_X7_28 u99 rfl ?_
                  refine j_iload 4 C dX7_dry_168 rfl rfl ?_
                  refine j_iald C dX7_dry_170 rfl u106 ⟨by omega, by omega⟩ (by omega) ((rowK hrw_64 (k := k) (by omega) (z := (90 * (i : Int) + (k : Int))) (by omega)).2.2.1.trans (by rw [hxX])) ?_
                  have hkk : (90 * (i : Int) + (k : Int)).toNat = 90 * i + k := by omega
                  have hru1 := row_set (G' := G4 (ups gb64 (90 * (i : Int) + (k : Int)).toNat (dryN x (lyAt ly (k : Int)))) (ups go64 (90 * (i : Int) + (k : Int)).toNat x) gf64 gg64) (j := k) (y := (dryN x (lyAt ly (k : Int)), x, (lyAt ly (k : Int)).2.2.1, (lyAt ly (k : Int)).2.2.2)) hrw_64 (by have e := rowK hrw_64 (k := k) (by omega) (z := ((90 * i + k : Nat) : Int)) (by omega); rw [hxX, Int.toNat_natCast] at e; unfold G4; rw [hkk, ups_s, ups_s, e.2.2.1, e.2.2.2]) (fun q hq => by unfold G4; rw [hkk, ups_n hq, ups_n hq])
                  have hMm : RM (kc κ) τ97 am (setL bs1 i (X.set k (dryN x (lyAt ly (k : Int)), x, (lyAt ly (k : Int)).2.2.1, (lyAt ly (k : Int)).2.2.2))) ru se pf hd (ca + -sumL (dryC x) (gB bs (i : Int)).2.2) evs ln bl 0 := ⟨hI, _, _, _, _, _, _, _, _, _, _, _, _, _, _, _, u99, ⟨u100, u101, u102, u103, u104, u105, u106, u107, u108, u109, u110, u111⟩, ⟨by rw [setL_len], rfl, rfl⟩, (hBn64.set hi1 (by rw [List.length_set]; omega) (by rw [List.length_set]; exact hmn_64) (fun _ _ => rfl) (fun s hs => by unfold G4; rw [hkk, ups_n (by omega), ups_n (by omega)]) hru1), hRu64, hPr64, hTr64, hKi64, hLi64⟩
                  refine j_callV (st' := [vi ((90 * (i : Int) + (k : Int))), .ref (am 8)]) (As := [vi (x), vi ((lyAt ly (k : Int)).2.2.1)]) C dX7_dry_171 rfl m_X7_76 u99 rfl rfl rfl (c_graded (kL κ) hfl (kD κ) (kc κ) τ97 am (setL bs1 i (X.set k (dryN x (lyAt ly (k : Int)), x, (lyAt ly (k : Int)).2.2.1, (lyAt ly (k : Int)).2.2.2))) ru se pf hd (ca + -sumL (dryC x) (gB bs (i : Int)).2.2) evs ln bl 0 hMm x ((lyAt ly (k : Int)).2.2.1) ⟨by omega, by omega⟩ ⟨by omega, by omega⟩) rfl (by omega) (by omega) (by omega) (fun _ _ hx => hx.elim) (fun v115 τ114 hp116 => ?_)
                  obtain ⟨rfl, hs9⟩ := hp116
                  replace hs9 := hs9.symm
                  subst hs9
                  show J κ τ97 [(0, .ref (am 0)), (1, vi ((i : Int))), (2, vi (x)), (3, vi ((tot (gB bs (i : Int)).2.2))), (4, vi ((90 * (i : Int) + (k : Int))))] 174 [vi ((gradeF ru se x ((lyAt ly (k : Int)).2.2.1))), vi ((90 * (i : Int) + (k : Int))), .ref (am 8)] _ _
                  refine j_iast C dX7_dry_174 rfl u107 ⟨by omega, by omega⟩ (by omega) (fun τ117 ee118 => ?_)
                  have u119 := u99.ne' ee118 (hI 0 8 (by decide) (by decide) (by decide))
                  have u120 := u100.ne' ee118 (hI 1 8 (by decide) (by decide) (by decide))
                  have u121 := u101.ne' ee118 (hI 2 8 (by decide) (by decide) (by decide))
                  have u122 := u102.ne' ee118 (hI 3 8 (by decide) (by decide) (by decide))
                  have u123 := u103.ne' ee118 (hI 4 8 (by decide) (by decide) (by decide))
                  have u124 := u104.ne' ee118 (hI 5 8 (by decide) (by decide) (by decide))
                  have u125 := u105.ne' ee118 (hI 6 8 (by decide) (by decide) (by decide))
                  have u126 := u106.ne' ee118 (hI 7 8 (by decide) (by decide) (by decide))
                  have u127 : has τ117 (am 8) (iA (kc κ) 540 (ups gg64 (90 * (i : Int) + (k : Int)).toNat (gradeF ru se x ((lyAt ly (k : Int)).2.2.1)))) := u107.self' ee118
                  have u128 := u108.ne' ee118 (hI 9 8 (by decide) (by decide) (by decide))
                  have u129 := u109.ne' ee118 (hI 10 8 (by decide) (by decide) (by decide))
                  have u130 := u110.ne' ee118 (hI 11 8 (by decide) (by decide) (by decide))
                  have u131 := u111.ne' ee118 (hI 12 8 (by decide) (by decide) (by decide))
                  have kp132 := kp112.put ee118 ⟨8, by decide, rfl⟩
                  have dm133 := (dom_put ee118).trans dm113
                  refine j_iinc (y := (90 * (i : Int) + (k : Int)) + 1) (lv' := [(0, .ref (am 0)), (1, vi ((i : Int))), (2, vi (x)), (3, vi ((tot (gB bs (i : Int)).2.2))), (4, vi ((90 * (i : Int) + (k : Int)) + 1))]) 4 [1, 2, 3, 4, 0] C dX7_dry_175 rfl rfl rfl rfl rfl ?_
                  refine j_goto (tgt := 89) C dX7_dry_178 rfl ?_
                  have hru2 := row_set (G' := G4 (ups gb64 (90 * (i : Int) + (k : Int)).toNat (dryN x (lyAt ly (k : Int)))) (ups go64 (90 * (i : Int) + (k : Int)).toNat x) gf64 (ups gg64 (90 * (i : Int) + (k : Int)).toNat (gradeF ru se x (lyAt ly (k : Int)).2.2.1))) (j := k) (y := dm (gradeF ru se) x (lyAt ly (k : Int))) hrw_64 (by have e := rowK hrw_64 (k := k) (by omega) (z := ((90 * i + k : Nat) : Int)) (by omega); rw [hxX, Int.toNat_natCast] at e; unfold G4 dm; rw [if_pos (by omega), hkk, ups_s, ups_s, ups_s, e.2.2.1]) (fun q hq => by unfold G4; rw [hkk, ups_n hq, ups_n hq, ups_n hq])
                  have hM3 : RM (kc κ) τ117 am (setL bs1 i (X.set k (dm (gradeF ru se) x (lyAt ly (k : Int))))) ru se pf hd (ca + -sumL (dryC x) (gB bs (i : Int)).2.2) evs ln bl 0 := ⟨hI, _, _, _, _, _, _, _, _, _, _, _, _, _, _, _, u119, ⟨u120, u121, u122, u123, u124, u125, u126, u127, u128, u129, u130, u131⟩, ⟨by rw [setL_len], rfl, rfl⟩, (hBn64.set hi1 (by rw [List.length_set]; omega) (by rw [List.length_set]; exact hmn_64) (fun _ _ => rfl) (fun s hs => by unfold G4; rw [hkk, ups_n (by omega), ups_n (by omega), ups_n (by omega)]) hru2), hRu64, hPr64, hTr64, hKi64, hLi64⟩
                  rw [← hb1, setL_same hi, ← hX, dmK_s hk9] at hM3
                  refine j_locals (lv' := [(0, .ref (am 0)), (1, vi ((i : Int))), (2, vi (x)), (3, vi ((tot (gB bs (i : Int)).2.2))), (4, vi (90 * (i : Int) + ((k + 1 : Nat) : Int)))]) [0, 1, 2, 3, 4] (by rw [show 90 * (i : Int) + ((k + 1 : Nat) : Int) = (90 * (i : Int) + (k : Int)) + 1 by omega]; rfl) ?_
                  exact ih (k + 1) τ117 hM3 kp132 dm133 (by omega) (by omega)
          refine j_locals (lv' := [(0, .ref (am 0)), (1, vi ((i : Int))), (2, vi (x)), (3, vi ((tot (gB bs (i : Int)).2.2))), (4, vi (90 * (i : Int) + ((0 : Nat) : Int)))]) [0, 1, 2, 3, 4] (by rw [show 90 * (i : Int) + ((0 : Nat) : Int) = 90 * (i : Int) by omega]; rfl) ?_
          exact lp _ 0 τ47 hM0 kp62 dm63 (Nat.zero_le _) (Nat.lt_succ_self _)
        · refine j_iconst C dX7_dry_47 rfl ?_
          refine j_goto (tgt := 52) C dX7_dry_48 rfl ?_
          refine j_iconst C dX7_dry_52 rfl ?_
          refine j_callV (st' := []) (As := [vi (1), vi (3)]) C dX7_dry_53 rfl m_X7_62 h022 rfl rfl rfl (c_thr1 (kL κ) hfl (kD κ) (kc κ) τ18 am bs ru se pf hd ca evs ln bl 0 hN21 3) rfl (by omega) (by omega) (by omega) (fun _ _ hx => hx.elim) (fun v135 τ134 hp136 => ?_)
          obtain ⟨rfl, hN137, hN137k, hN137d⟩ := hp136
          show J κ τ134 [(0, .ref (am 0)), (1, vi ((i : Int))), (2, vi (x))] 56 [vi (1)] _ _
          have hN137K := hN21K.tr hN137k
          have hN137D := hN137d.trans hN21D
          obtain ⟨hI138, gc138, gm138, gr138, gp138, gb138, go138, gf138, gg138, gt138, gz138, gk138, gl138, _, _, _, h0138, ⟨hgc138, hgm138, hgr138, hgp138, hgb138, hgo138, hgf138, hgg138, hgt138, hgz138, hgk138, hgl138⟩, ⟨rfl, rfl, rfl⟩, hBn138, hRu138, hPr138, hTr138, hKi138, hLi138⟩ := id hN137
          have hI := hI138
          have hnb6138 := hBn138.1
          refine j_if_eq (tgt := 61) C dX7_dry_56 rfl rfl ⟨by omega, by omega⟩ (fun cc139 => absurd cc139 (by decide)) (fun _ => ?_)
          refine j_iconst C dX7_dry_59 rfl ?_
          have ho : o_dry bs ru se pf hd ca evs ln (i : Int) x = (3, 0, (bs, ru, se, pf, hd, ca, evs, ln)) := by unfold o_dry; rw [if_neg (by omega), if_neg (by omega), if_pos (by omega)]
          exact j_iret C E dX7_dry_60 (by omega) (by omega) ⟨_, rfl, by rw [ho]; exact fun h9 => absurd (show (3 : Int) = 0 from h9) (by decide), ⟨_, by rw [ho]; exact hN137⟩, hN137K, hN137D⟩
    · replace cc17 := inI_F cc17
      refine j_iconst C dX7_dry_16 rfl ?_
      refine j_goto (tgt := 21) C dX7_dry_17 rfl ?_
      refine j_iconst C dX7_dry_21 rfl ?_
      refine j_callV (st' := []) (As := [vi (1), vi (2)]) C dX7_dry_22 rfl m_X7_62 h012 rfl rfl rfl (c_thr1 (kL κ) hfl (kD κ) (kc κ) τ8 am bs ru se pf hd ca evs ln bl 0 hN11 2) rfl (by omega) (by omega) (by omega) (fun _ _ hx => hx.elim) (fun v141 τ140 hp142 => ?_)
      obtain ⟨rfl, hN143, hN143k, hN143d⟩ := hp142
      show J κ τ140 [(0, .ref (am 0)), (1, vi ((i : Int))), (2, vi (x))] 25 [vi (1)] _ _
      have hN143K := hN11K.tr hN143k
      have hN143D := hN143d.trans hN11D
      obtain ⟨hI144, gc144, gm144, gr144, gp144, gb144, go144, gf144, gg144, gt144, gz144, gk144, gl144, _, _, _, h0144, ⟨hgc144, hgm144, hgr144, hgp144, hgb144, hgo144, hgf144, hgg144, hgt144, hgz144, hgk144, hgl144⟩, ⟨rfl, rfl, rfl⟩, hBn144, hRu144, hPr144, hTr144, hKi144, hLi144⟩ := id hN143
      have hI := hI144
      have hnb6144 := hBn144.1
      refine j_if_ne (tgt := 59) C dX7_dry_25 rfl rfl ⟨by omega, by omega⟩ (fun _ => ?_) (fun cc145 => absurd cc145 (by decide))
      refine j_iconst C dX7_dry_59 rfl ?_
      have ho : o_dry bs ru se pf hd ca evs ln (i : Int) x = (2, 0, (bs, ru, se, pf, hd, ca, evs, ln)) := by unfold o_dry; rw [if_neg (by omega), if_pos (by omega)]
      exact j_iret C E dX7_dry_60 (by omega) (by omega) ⟨_, rfl, by rw [ho]; exact fun h9 => absurd (show (2 : Int) = 0 from h9) (by decide), ⟨_, by rw [ho]; exact hN143⟩, hN143K, hN143D⟩
set_option maxHeartbeats 4000000 in
set_option maxRecDepth 20000 in
theorem m_dryingCost (l : Launch) (hfl : l.stackTraces = false) (D : va_G) (cy : Nat → Nat) (σ : Wd) (am : Nat → Nat) (bs : List Bn) (ru : Nat → Int × Int) (se : Int) (pf : Nat → Int) (hd : Hd) (ca : Int) (evs : List Evt) (ln : List Int) (bl : Int × Int × Int) (th : Int) (hM : RM cy σ am bs ru se pf hd ca evs ln bl th) (b : Int) (hb9 : (-2147483648 ≤ b ∧ b < 2147483648)) (x : Int) (hx9 : (-2147483648 ≤ x ∧ x < 2147483648)) (hO : Ok bs ru se pf hd evs ln) : Ct l yX7_dryingCost cX7_dryingCost 3 (some .int) 3 0 0 D cy [.ref (am 0), vi (b), vi (x)] σ (fun v σ' => ∃ rz : Int, v = some (vi rz) ∧ ((o_dryingCost bs ru se pf hd ca evs ln b x).1 = 0 → rz = (o_dryingCost bs ru se pf hd ca evs ln b x).2.1) ∧ (∃ bl', RMs cy σ' am (o_dryingCost bs ru se pf hd ca evs ln b x).2.2 bl' (o_dryingCost bs ru se pf hd ca evs ln b x).1) ∧ Keep σ σ' (inM am) ∧ σ'.1 = σ.1) noX := by
  refine ct_start (by decide +kernel) hfl rfl (fun κ e1 e2 e3 C E NH => ?_)
  subst e1 e2 e3
  have C : Cx κ cX7_dryingCost 3 RX7 "dryingCost" 3 := C
  obtain ⟨-, -, -, -, hc, hs⟩ := id E
  show J κ σ [(0, .ref (am 0)), (1, vi (b)), (2, vi (x))] 0 [] 0 0
  obtain ⟨hI1, gc1, gm1, gr1, gp1, gb1, go1, gf1, gg1, gt1, gz1, gk1, gl1, _, _, _, h01, ⟨hgc1, hgm1, hgr1, hgp1, hgb1, hgo1, hgf1, hgg1, hgt1, hgz1, hgk1, hgl1⟩, ⟨rfl, rfl, rfl⟩, hBn1, hRu1, hPr1, hTr1, hKi1, hLi1⟩ := id hM
  have hI := hI1
  have hnb61 := hBn1.1
  have kp0 : Keep σ σ (inM am) := Keep.rf
  have dm0 : σ.1 = σ.1 := rfl
  obtain ⟨⟨hc1, hc2⟩, hc3, hc4⟩ := hO.2.2.2.1
  have h6 := hO.1
  have hlb := hO.2.2.1
  have hTb := totB_in hO.2.1
  have hprr := hO.2.2.2.2.1
  refine j_aload_n 0 C dX7_dryingCost_0 rfl rfl rfl ?_
  refine j_iload_n 1 C dX7_dryingCost_1 rfl rfl rfl ?_
  rcases Classical.em (b < 0 ∨ (bs.length : Int) ≤ b) with hq | hq
  · refine j_callV (st' := []) (As := [vi (b)]) C dX7_dryingCost_2 rfl m_X7_66 h01 rfl rfl rfl (c_nb1 (kL κ) hfl (kD κ) (kc κ) σ am bs ru se pf hd ca evs ln bl th hM b ⟨by omega, by omega⟩ hq) rfl (by omega) (by omega) (by omega) (fun _ _ hx => hx.elim) (fun v3 τ2 hp4 => ?_)
    obtain ⟨rfl, hN5, hN5k, hN5d⟩ := hp4
    show J κ τ2 [(0, .ref (am 0)), (1, vi (b)), (2, vi (x))] 5 [vi (1)] _ _
    have hN5K := kp0.tr hN5k
    have hN5D := hN5d.trans dm0
    obtain ⟨hI6, gc6, gm6, gr6, gp6, gb6, go6, gf6, gg6, gt6, gz6, gk6, gl6, _, _, _, h06, ⟨hgc6, hgm6, hgr6, hgp6, hgb6, hgo6, hgf6, hgg6, hgt6, hgz6, hgk6, hgl6⟩, ⟨rfl, rfl, rfl⟩, hBn6, hRu6, hPr6, hTr6, hKi6, hLi6⟩ := id hN5
    have hI := hI6
    have hnb66 := hBn6.1
    refine j_if_ne (tgt := 28) C dX7_dryingCost_5 rfl rfl ⟨by omega, by omega⟩ (fun _ => ?_) (fun cc7 => absurd cc7 (by decide))
    refine j_iconst C dX7_dryingCost_28 rfl ?_
    refine j_goto (tgt := 38) C dX7_dryingCost_29 rfl ?_
    have ho : o_dryingCost bs ru se pf hd ca evs ln b x = (1, 0, (bs, ru, se, pf, hd, ca, evs, ln)) := by unfold o_dryingCost; rw [if_pos (by omega)]
    exact j_iret C E dX7_dryingCost_38 (by omega) (by omega) ⟨_, rfl, by rw [ho]; exact fun h9 => absurd (show (1 : Int) = 0 from h9) (by decide), ⟨_, by rw [ho]; exact hN5⟩, hN5K, hN5D⟩
  · obtain ⟨i, hi, rfl⟩ : ∃ i : Nat, i < bs.length ∧ b = (i : Int) := ⟨b.toNat, by omega, by omega⟩
    have hmmi := gB_mem (bs := bs) (i := (i : Int)) (by omega) (by omega)
    obtain ⟨hcpi, hlyi, htci⟩ := hO.2.1 _ hmmi
    have hlli := len_lenB hmmi
    have ht0i := tot_0 hlyi
    have hfli : tot (fl (gB bs (i : Int))) = tot (gB bs (i : Int)).2.2 := sum_fl _ _
    have hfoi : lysOk (fl (gB bs (i : Int))) := fl_ok hlyi
    refine j_callV (st' := []) (As := [vi ((i : Int))]) C dX7_dryingCost_2 rfl m_X7_66 h01 rfl rfl rfl (c_nb0 (kL κ) hfl (kD κ) (kc κ) σ am bs ru se pf hd ca evs ln bl th hM i hi) rfl (by omega) (by omega) (by omega) (fun _ _ hx => hx.elim) (fun v9 τ8 hp10 => ?_)
    obtain ⟨rfl, hN11, hN11k, hN11d⟩ := hp10
    show J κ τ8 [(0, .ref (am 0)), (1, vi ((i : Int))), (2, vi (x))] 5 [vi (0)] _ _
    have hN11K := kp0.tr hN11k
    have hN11D := hN11d.trans dm0
    obtain ⟨hI12, gc12, gm12, gr12, gp12, gb12, go12, gf12, gg12, gt12, gz12, gk12, gl12, _, _, _, h012, ⟨hgc12, hgm12, hgr12, hgp12, hgb12, hgo12, hgf12, hgg12, hgt12, hgz12, hgk12, hgl12⟩, ⟨rfl, rfl, rfl⟩, hBn12, hRu12, hPr12, hTr12, hKi12, hLi12⟩ := id hN11
    have hI := hI12
    have hnb612 := hBn12.1
    refine j_if_ne (tgt := 28) C dX7_dryingCost_5 rfl rfl ⟨by omega, by omega⟩ (fun cc13 => absurd cc13 (by decide)) (fun _ => ?_)
    refine j_aload_n 0 C dX7_dryingCost_8 rfl rfl rfl ?_
    refine j_iload_n 2 C dX7_dryingCost_9 rfl rfl rfl ?_
    refine j_callS (st' := [.ref (am 0)]) (As := [vi (x)]) C dX7_dryingCost_10 rfl m_X7_70 rfl rfl (c_isMoist (kL κ) hfl (kD κ) (kc κ) τ8 x ⟨by omega, by omega⟩) rfl (by omega) (by omega) (by omega) (fun _ _ hx => hx.elim) (fun v15 τ14 hp16 => ?_)
    obtain ⟨rfl, hs9⟩ := hp16
    replace hs9 := hs9.symm
    subst hs9
    show J κ τ8 [(0, .ref (am 0)), (1, vi ((i : Int))), (2, vi (x))] 13 [vi ((inI x 80 300)), .ref (am 0)] _ _
    refine j_if_ne (tgt := 20) C dX7_dryingCost_13 rfl rfl (inI_r _ _ _) (fun cc17 => ?_) (fun cc17 => ?_)
    · replace cc17 := inI_T cc17
      refine j_iconst C dX7_dryingCost_20 rfl ?_
      refine j_iconst C dX7_dryingCost_21 rfl ?_
      refine j_callV (st' := []) (As := [vi (0), vi (2)]) C dX7_dryingCost_22 rfl m_X7_62 h012 rfl rfl rfl (c_thr0 (kL κ) hfl (kD κ) (kc κ) τ8 am bs ru se pf hd ca evs ln bl 0 hN11 2) rfl (by omega) (by omega) (by omega) (fun _ _ hx => hx.elim) (fun v19 τ18 hp20 => ?_)
      obtain ⟨rfl, hN21, hN21k, hN21d⟩ := hp20
      show J κ τ18 [(0, .ref (am 0)), (1, vi ((i : Int))), (2, vi (x))] 25 [vi (0)] _ _
      have hN21K := hN11K.tr hN21k
      have hN21D := hN21d.trans hN11D
      obtain ⟨hI22, gc22, gm22, gr22, gp22, gb22, go22, gf22, gg22, gt22, gz22, gk22, gl22, _, _, _, h022, ⟨hgc22, hgm22, hgr22, hgp22, hgb22, hgo22, hgf22, hgg22, hgt22, hgz22, hgk22, hgl22⟩, ⟨rfl, rfl, rfl⟩, hBn22, hRu22, hPr22, hTr22, hKi22, hLi22⟩ := id hN21
      have hI := hI22
      have hnb622 := hBn22.1
      refine j_if_eq (tgt := 32) C dX7_dryingCost_25 rfl rfl ⟨by omega, by omega⟩ (fun _ => ?_) (fun cc23 => absurd cc23 (by decide))
      refine j_aload_n 0 C dX7_dryingCost_32 rfl rfl rfl ?_
      refine j_iload_n 1 C dX7_dryingCost_33 rfl rfl rfl ?_
      refine j_iload_n 2 C dX7_dryingCost_34 rfl rfl rfl ?_
      refine j_callV (st' := []) (As := [vi ((i : Int)), vi (x)]) C dX7_dryingCost_35 rfl m_X7_132 h022 rfl rfl rfl (c_drying (kL κ) hfl (kD κ) (kc κ) τ18 am bs ru se pf hd ca evs ln bl 0 hN21 i hi hlyi x ⟨by omega, by omega⟩) rfl (by omega) (by omega) (by omega) (fun _ _ hx => hx.elim) (fun v25 τ24 hp26 => ?_)
      obtain ⟨rfl, hs9⟩ := hp26
      replace hs9 := hs9.symm
      subst hs9
      show J κ τ18 [(0, .ref (am 0)), (1, vi ((i : Int))), (2, vi (x))] 38 [vi ((sumL (dryC x) (gB bs (i : Int)).2.2))] _ _
      have ho : o_dryingCost bs ru se pf hd ca evs ln (i : Int) x = (0, sumL (dryC x) (gB bs (i : Int)).2.2, (bs, ru, se, pf, hd, ca, evs, ln)) := by unfold o_dryingCost; rw [if_neg (by omega), if_neg (by omega)]
      exact j_iret C E dX7_dryingCost_38 (by omega) (by omega) ⟨_, rfl, by rw [ho]; exact fun _ => rfl, ⟨_, by rw [ho]; exact hN21⟩, hN21K, hN21D⟩
    · replace cc17 := inI_F cc17
      refine j_iconst C dX7_dryingCost_16 rfl ?_
      refine j_goto (tgt := 21) C dX7_dryingCost_17 rfl ?_
      refine j_iconst C dX7_dryingCost_21 rfl ?_
      refine j_callV (st' := []) (As := [vi (1), vi (2)]) C dX7_dryingCost_22 rfl m_X7_62 h012 rfl rfl rfl (c_thr1 (kL κ) hfl (kD κ) (kc κ) τ8 am bs ru se pf hd ca evs ln bl 0 hN11 2) rfl (by omega) (by omega) (by omega) (fun _ _ hx => hx.elim) (fun v28 τ27 hp29 => ?_)
      obtain ⟨rfl, hN30, hN30k, hN30d⟩ := hp29
      show J κ τ27 [(0, .ref (am 0)), (1, vi ((i : Int))), (2, vi (x))] 25 [vi (1)] _ _
      have hN30K := hN11K.tr hN30k
      have hN30D := hN30d.trans hN11D
      obtain ⟨hI31, gc31, gm31, gr31, gp31, gb31, go31, gf31, gg31, gt31, gz31, gk31, gl31, _, _, _, h031, ⟨hgc31, hgm31, hgr31, hgp31, hgb31, hgo31, hgf31, hgg31, hgt31, hgz31, hgk31, hgl31⟩, ⟨rfl, rfl, rfl⟩, hBn31, hRu31, hPr31, hTr31, hKi31, hLi31⟩ := id hN30
      have hI := hI31
      have hnb631 := hBn31.1
      refine j_if_eq (tgt := 32) C dX7_dryingCost_25 rfl rfl ⟨by omega, by omega⟩ (fun cc32 => absurd cc32 (by decide)) (fun _ => ?_)
      refine j_iconst C dX7_dryingCost_28 rfl ?_
      refine j_goto (tgt := 38) C dX7_dryingCost_29 rfl ?_
      have ho : o_dryingCost bs ru se pf hd ca evs ln (i : Int) x = (2, 0, (bs, ru, se, pf, hd, ca, evs, ln)) := by unfold o_dryingCost; rw [if_neg (by omega), if_pos (by omega)]
      exact j_iret C E dX7_dryingCost_38 (by omega) (by omega) ⟨_, rfl, by rw [ho]; exact fun h9 => absurd (show (2 : Int) = 0 from h9) (by decide), ⟨_, by rw [ho]; exact hN30⟩, hN30K, hN30D⟩
