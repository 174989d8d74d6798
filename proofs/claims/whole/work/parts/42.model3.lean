/-! GrainElevatorModel: notes, clears, flows, drying, isWet -/
theorem KiM.snoc {evs : List Evt} {gk : Nat → Int} (h : KiM evs gk) (hl : evs.length < 80) {e : Evt} (he : 0 ≤ e.1 ∧ e.1 < 128) {k : Nat} (hk : k = evs.length) : KiM (evs ++ [e]) (ups gk k e.1) := by
  subst hk
  refine ⟨by rw [List.length_append]; show evs.length + 1 ≤ 80; omega, fun i hi => ?_⟩
  rw [List.length_append] at hi
  have hi' : i < evs.length + 1 := hi
  rw [List.getD_eq_getElem?_getD]
  by_cases c : i = evs.length
  · subst c
    rw [ups_s, List.getElem?_append_right (Nat.le_refl _), Nat.sub_self]
    exact ⟨rfl, he⟩
  · rw [ups_n c, List.getElem?_append_left (by omega), ← List.getD_eq_getElem?_getD]
    exact h.2 i (by omega)
theorem TrM.snoc {hd : Hd} {gt : Nat → Int} (h : TrM hd gt) (hl : hd.2.1 < 80) (d own fu : Int) (ga : Int) : TrM (ups hd.1 hd.2.1.toNat d, hd.2.1 + 1, own, fu, ga) (ups gt hd.2.1.toNat d) := by
  refine ⟨⟨by have := h.1; show 0 ≤ hd.2.1 + 1; omega, by show hd.2.1 + 1 ≤ 80; omega⟩, fun i hi => ?_⟩
  have hi' : (i : Int) < hd.2.1 + 1 := hi
  show ups gt hd.2.1.toNat d i = ups hd.1 hd.2.1.toNat d i
  by_cases c : i = hd.2.1.toNat
  · rw [ups_u c, ups_u c]
  · rw [ups_n c, ups_n c]
    exact h.2 i (by omega)
theorem prK {pf gp : Nat → Int} (h : PrM pf gp) {g z : Int} (hg : 1 ≤ g ∧ g ≤ 4) (hz : z = g - 1) : gp z.toNat = pf g.toNat := by
  rw [h z.toNat (by omega), show z.toNat + 1 = g.toNat by omega]
theorem gB_setS {bs : List Bn} {i : Nat} {l : List Ly} (h : i < bs.length) : gB (setL bs i l) i = ((gB bs i).1, (gB bs i).2.1, l) := by
  rw [gB_set (by omega) (by omega) (by omega), if_pos rfl]
theorem gB_setN {bs : List Bn} {i j : Nat} {l : List Ly} (h : i < bs.length) (hij : j ≠ i) : gB (setL bs i l) j = gB bs j := by
  rw [gB_set (by omega) (by omega) (by omega), if_neg (by omega)]
theorem setL_same {bs : List Bn} {i : Nat} {l l' : List Ly} (h : i < bs.length) : setL (setL bs i l) i l' = setL bs i l' := by
  have e := gB_setS (l := l) h
  unfold setL at e ⊢
  rw [e, List.set_set]
theorem setL_comm {bs : List Bn} {i j : Nat} {l l' : List Ly} (hi : i < bs.length) (hj : j < bs.length) (hij : i ≠ j) : setL (setL bs i l) j l' = setL (setL bs j l') i l := by
  have e := gB_setN (l := l) hi (Ne.symm hij)
  have e' := gB_setN (l := l') hj hij
  unfold setL at e e' ⊢
  rw [e, e', List.set_comm _ _ (by omega)]
theorem setL_self {bs : List Bn} {i : Nat} (h : i < bs.length) : setL bs i (gB bs i).2.2 = bs := by
  unfold setL
  have e : (gB bs i).1 = (gB bs i).1 ∧ ((gB bs i).1, (gB bs i).2.1, (gB bs i).2.2) = gB bs i := ⟨rfl, rfl⟩
  rw [e.2]
  apply List.ext_getElem?
  intro k
  rw [List.getElem?_set]
  by_cases c : (i : Int).toNat = k
  · rw [if_pos c, if_pos (by omega), ← gB_at (bs := bs) (i := (i : Int)) (by omega) (by omega), c]
  · rw [if_neg c]
/-- the layers that have bushels -/
def fpos (l : List Ly) : List Ly := l.filter (fun x => decide (0 < x.1))
theorem fpos_take {l : List Ly} {k : Nat} (h : k < l.length) : fpos (l.take (k + 1)) = fpos (l.take k) ++ (if 0 < (lyAt l k).1 then [lyAt l k] else []) := by
  have e : l[k]? = some (lyAt l k) := by
    unfold lyAt
    rw [Int.toNat_natCast, List.getD_eq_getElem?_getD, List.getElem?_eq_getElem h]
    rfl
  unfold fpos
  rw [List.take_succ, e, List.filter_append]
  congr 1
  by_cases c : 0 < (lyAt l k).1
  · rw [if_pos c]; simp [c]
  · rw [if_neg c]; simp [c]
theorem fpos_ofl (m : Bool) (l : List Ly) : fpos (ofl m l) = ofl m (fpos l) := by
  unfold fpos ofl
  cases m
  · simp only [Bool.false_eq_true, if_false]
    rw [List.filter_reverse]
  · rfl
abbrev in4 (am : Nat → Nat) : Nat → Prop := fun y => y = am 5 ∨ y = am 6 ∨ y = am 7 ∨ y = am 8
theorem in4.m {am : Nat → Nat} : ∀ y, in4 am y → inM am y := fun y h => by
  rcases h with h | h | h | h
  · exact ⟨5, by decide, h⟩
  · exact ⟨6, by decide, h⟩
  · exact ⟨7, by decide, h⟩
  · exact ⟨8, by decide, h⟩
theorem InjM.n4 {am : Nat → Nat} (hI : InjM am) {k : Nat} (hk : k < 13) (h : k < 5 ∨ 8 < k) : ¬ in4 am (am k) := by
  rintro (z | z | z | z)
  · exact hI k 5 hk (by decide) (by omega) z
  · exact hI k 6 hk (by decide) (by omega) z
  · exact hI k 7 hk (by decide) (by omega) z
  · exact hI k 8 hk (by decide) (by omega) z
set_option maxHeartbeats 4000000 in
set_option maxRecDepth 20000 in
theorem c_notes (l : Launch) (hfl : l.stackTraces = false) (D : va_G) (cy : Nat → Nat) (σ : Wd) (am : Nat → Nat) (bs : List Bn) (ru : Nat → Int × Int) (se : Int) (pf : Nat → Int) (hd : Hd) (ca : Int) (evs : List Evt) (ln : List Int) (bl : Int × Int × Int) (th : Int) (hM : RM cy σ am bs ru se pf hd ca evs ln bl th) (e : Evt) (he : vp_nar .char (Int32.ofInt e.1) = Int32.ofInt e.1) (he2 : 0 ≤ e.1 ∧ e.1 < 128) (h8 : evs.length < 80) (ht : hd.2.1 < 80) (hT : 0 ≤ totB bs ∧ totB bs ≤ 30000) (hh : 0 ≤ hd.2.2.1 ∧ hd.2.2.1 ≤ 30000) : Ct l yX7_notes cX7_notes 3 none 2 0 0 D cy [.ref (am 0), vi (e.1)] σ (fun v σ' => v = none ∧ RM cy σ' am bs ru se pf (hdF hd (totB bs)) ca (evs ++ [e]) ln bl th ∧ Keep σ σ' (inM am) ∧ σ'.1 = σ.1) noX := by
  refine ct_start (by decide +kernel) hfl rfl (fun κ e1 e2 e3 C E NH => ?_)
  subst e1 e2 e3
  have C : Cx κ cX7_notes 3 RX7 "notes" 2 := C
  obtain ⟨-, -, -, -, hc, hs⟩ := id E
  show J κ σ [(0, .ref (am 0)), (1, vi (e.1))] 0 [] 0 0
  obtain ⟨hI1, gc1, gm1, gr1, gp1, gb1, go1, gf1, gg1, gt1, gz1, gk1, gl1, _, _, _, h01, ⟨hgc1, hgm1, hgr1, hgp1, hgb1, hgo1, hgf1, hgg1, hgt1, hgz1, hgk1, hgl1⟩, ⟨rfl, rfl, rfl⟩, hBn1, hRu1, hPr1, hTr1, hKi1, hLi1⟩ := id hM
  have hI := hI1
  have hnb61 := hBn1.1
  have kp0 : Keep σ σ (inM am) := Keep.rf
  have dm0 : σ.1 = σ.1 := rfl
  have htr := hTr1.1
  refine j_aload_n 0 C dX7_notes_0 rfl rfl rfl ?_
  refine j_get C dX7_notes_1 rfl fg_X7_41 h01 rfl ?_
  refine j_aload_n 0 C dX7_notes_4 rfl rfl rfl ?_
  refine j_get C dX7_notes_5 rfl fg_X7_80 h01 rfl ?_
  refine j_iload_n 1 C dX7_notes_8 rfl rfl rfl ?_
  refine j_cast C dX7_notes_9 rfl hgk1 ⟨by omega, by omega⟩ (by omega) he (fun τ2 ee3 => ?_)
  have u4 := h01.ne' ee3 (hI 0 11 (by decide) (by decide) (by decide))
  have u5 := hgc1.ne' ee3 (hI 1 11 (by decide) (by decide) (by decide))
  have u6 := hgm1.ne' ee3 (hI 2 11 (by decide) (by decide) (by decide))
  have u7 := hgr1.ne' ee3 (hI 3 11 (by decide) (by decide) (by decide))
  have u8 := hgp1.ne' ee3 (hI 4 11 (by decide) (by decide) (by decide))
  have u9 := hgb1.ne' ee3 (hI 5 11 (by decide) (by decide) (by decide))
  have u10 := hgo1.ne' ee3 (hI 6 11 (by decide) (by decide) (by decide))
  have u11 := hgf1.ne' ee3 (hI 7 11 (by decide) (by decide) (by decide))
  have u12 := hgg1.ne' ee3 (hI 8 11 (by decide) (by decide) (by decide))
  have u13 := hgt1.ne' ee3 (hI 9 11 (by decide) (by decide) (by decide))
  have u14 := hgz1.ne' ee3 (hI 10 11 (by decide) (by decide) (by decide))
  have u15 : has τ2 (am 11) (cA (kc κ) 80 (ups gk1 (evs.length : Int).toNat e.1)) := hgk1.self' ee3
  have u16 := hgl1.ne' ee3 (hI 12 11 (by decide) (by decide) (by decide))
  have kp17 := kp0.put ee3 ⟨11, by decide, rfl⟩
  have dm18 := (dom_put ee3).trans dm0
  refine j_aload_n 0 C dX7_notes_10 rfl rfl rfl ?_
  refine j_dup C dX7_notes_11 rfl rfl ?_
  refine j_get C dX7_notes_12 rfl fg_X7_80 u4 rfl ?_
  refine j_iconst C dX7_notes_15 rfl ?_
  refine j_iadd C dX7_notes_16 rfl ?_
  refine j_put (fs' := [.ref (am 1), .ref (am 2), .ref (am 3), .ref (am 4), .ref (am 5), .ref (am 6), .ref (am 7), .ref (am 8), .ref (am 9), .ref (am 10), .ref (am 11), .ref (am 12), vi ((bs.length : Int)), vi (se), vi ((evs.length : Int) + 1), vi (hd.2.1), vi (hd.2.2.2.1), vi (hd.2.2.1), vi ((ln.length : Int)), vi (bl.1), vi (bl.2.1), vi (bl.2.2), vi (th), vl (hd.2.2.2.2), vl (ca)]) C dX7_notes_17 rfl fa_X7_80 u4 rfl rfl rfl rfl (fun τ19 ee20 => ?_)
  have u21 : has τ19 (am 0) (.inr (7, [.ref (am 1), .ref (am 2), .ref (am 3), .ref (am 4), .ref (am 5), .ref (am 6), .ref (am 7), .ref (am 8), .ref (am 9), .ref (am 10), .ref (am 11), .ref (am 12), vi ((bs.length : Int)), vi (se), vi ((evs.length : Int) + 1), vi (hd.2.1), vi (hd.2.2.2.1), vi (hd.2.2.1), vi ((ln.length : Int)), vi (bl.1), vi (bl.2.1), vi (bl.2.2), vi (th), vl (hd.2.2.2.2), vl (ca)])) := u4.self' ee20
  have u22 := u5.ne' ee20 (hI 1 0 (by decide) (by decide) (by decide))
  have u23 := u6.ne' ee20 (hI 2 0 (by decide) (by decide) (by decide))
  have u24 := u7.ne' ee20 (hI 3 0 (by decide) (by decide) (by decide))
  have u25 := u8.ne' ee20 (hI 4 0 (by decide) (by decide) (by decide))
  have u26 := u9.ne' ee20 (hI 5 0 (by decide) (by decide) (by decide))
  have u27 := u10.ne' ee20 (hI 6 0 (by decide) (by decide) (by decide))
  have u28 := u11.ne' ee20 (hI 7 0 (by decide) (by decide) (by decide))
  have u29 := u12.ne' ee20 (hI 8 0 (by decide) (by decide) (by decide))
  have u30 := u13.ne' ee20 (hI 9 0 (by decide) (by decide) (by decide))
  have u31 := u14.ne' ee20 (hI 10 0 (by decide) (by decide) (by decide))
  have u32 := u15.ne' ee20 (hI 11 0 (by decide) (by decide) (by decide))
  have u33 := u16.ne' ee20 (hI 12 0 (by decide) (by decide) (by decide))
  have kp34 := kp17.put ee20 ⟨0, by decide, rfl⟩
  have dm35 := (dom_put ee20).trans dm18
  refine j_aload_n 0 C dX7_notes_20 rfl rfl rfl ?_
  have hen : (((evs.length : Nat) : Int) + 1) = (((evs ++ [e]).length : Nat) : Int) := by rw [List.length_append]; rfl
  have hM2 : RM (kc κ) τ19 am bs ru se pf hd ca (evs ++ [e]) ln bl th := ⟨hI, _, _, _, _, _, _, _, _, _, _, _, _, _, _, _, u21, ⟨u22, u23, u24, u25, u26, u27, u28, u29, u30, u31, u32, u33⟩, ⟨rfl, hen, rfl⟩, hBn1, hRu1, hPr1, hTr1, (hKi1.snoc h8 he2 (by omega)), hLi1⟩
  refine j_callV (st' := []) (As := []) C dX7_notes_21 rfl m_X7_83 u21 rfl rfl rfl (c_all (kL κ) hfl (kD κ) (kc κ) τ19 am bs ru se pf hd ca (evs ++ [e]) ln bl th hM2 ) rfl (by omega) (by omega) (by omega) (fun _ _ hx => hx.elim) (fun v37 τ36 hp38 => ?_)
  obtain ⟨rfl, hs9⟩ := hp38
  replace hs9 := hs9.symm
  subst hs9
  show J κ τ19 [(0, .ref (am 0)), (1, vi (e.1))] 24 [vi ((totB bs))] _ _
  refine j_istore_n (lv' := [(0, .ref (am 0)), (1, vi (e.1)), (2, vi ((totB bs)))]) [1, 2, 0] C dX7_notes_24 rfl rfl rfl rfl ?_
  refine j_iload_n 2 C dX7_notes_25 rfl rfl rfl ?_
  refine j_aload_n 0 C dX7_notes_26 rfl rfl rfl ?_
  refine j_get C dX7_notes_27 rfl fg_X7_87 u21 rfl ?_
  refine j_icmp_eq (tgt := 63) C dX7_notes_30 rfl rfl ⟨by omega, by omega⟩ ⟨by omega, by omega⟩ (fun cc39 => ?_) (fun cc39 => ?_)
  · exact j_vret C E dX7_notes_63 (by omega) (by omega) ⟨rfl, by rw [hdF, if_pos (by omega)]; exact hM2, kp34, dm35⟩
  · refine j_aload_n 0 C dX7_notes_33 rfl rfl rfl ?_
    refine j_get C dX7_notes_34 rfl fg_X7_34 u21 rfl ?_
    refine j_aload_n 0 C dX7_notes_37 rfl rfl rfl ?_
    refine j_get C dX7_notes_38 rfl fg_X7_90 u21 rfl ?_
    refine j_iload_n 2 C dX7_notes_41 rfl rfl rfl ?_
    refine j_aload_n 0 C dX7_notes_42 rfl rfl rfl ?_
    refine j_get C dX7_notes_43 rfl fg_X7_87 u21 rfl ?_
    refine j_isub C dX7_notes_46 rfl ?_
    refine j_iast C dX7_notes_47 rfl u30 ⟨by omega, by omega⟩ (by omega) (fun τ40 ee41 => ?_)
    have u42 := u21.ne' ee41 (hI 0 9 (by decide) (by decide) (by decide))
    have u43 := u22.ne' ee41 (hI 1 9 (by decide) (by decide) (by decide))
    have u44 := u23.ne' ee41 (hI 2 9 (by decide) (by decide) (by decide))
    have u45 := u24.ne' ee41 (hI 3 9 (by decide) (by decide) (by decide))
    have u46 := u25.ne' ee41 (hI 4 9 (by decide) (by decide) (by decide))
    have u47 := u26.ne' ee41 (hI 5 9 (by decide) (by decide) (by decide))
    have u48 := u27.ne' ee41 (hI 6 9 (by decide) (by decide) (by decide))
    have u49 := u28.ne' ee41 (hI 7 9 (by decide) (by decide) (by decide))
    have u50 := u29.ne' ee41 (hI 8 9 (by decide) (by decide) (by decide))
    have u51 : has τ40 (am 9) (iA (kc κ) 80 (ups gt1 hd.2.1.toNat ((totB bs) - hd.2.2.1))) := u30.self' ee41
    have u52 := u31.ne' ee41 (hI 10 9 (by decide) (by decide) (by decide))
    have u53 := u32.ne' ee41 (hI 11 9 (by decide) (by decide) (by decide))
    have u54 := u33.ne' ee41 (hI 12 9 (by decide) (by decide) (by decide))
    have kp55 := kp34.put ee41 ⟨9, by decide, rfl⟩
    have dm56 := (dom_put ee41).trans dm35
    refine j_aload_n 0 C dX7_notes_48 rfl rfl rfl ?_
    refine j_dup C dX7_notes_49 rfl rfl ?_
    refine j_get C dX7_notes_50 rfl fg_X7_90 u42 rfl ?_
    refine j_iconst C dX7_notes_53 rfl ?_
    refine j_iadd C dX7_notes_54 rfl ?_
    refine j_put (fs' := [.ref (am 1), .ref (am 2), .ref (am 3), .ref (am 4), .ref (am 5), .ref (am 6), .ref (am 7), .ref (am 8), .ref (am 9), .ref (am 10), .ref (am 11), .ref (am 12), vi ((bs.length : Int)), vi (se), vi ((evs.length : Int) + 1), vi (hd.2.1 + 1), vi (hd.2.2.2.1), vi (hd.2.2.1), vi ((ln.length : Int)), vi (bl.1), vi (bl.2.1), vi (bl.2.2), vi (th), vl (hd.2.2.2.2), vl (ca)]) C dX7_notes_55 rfl fa_X7_90 u42 rfl rfl rfl rfl (fun τ57 ee58 => ?_)
    have u59 : has τ57 (am 0) (.inr (7, [.ref (am 1), .ref (am 2), .ref (am 3), .ref (am 4), .ref (am 5), .ref (am 6), .ref (am 7), .ref (am 8), .ref (am 9), .ref (am 10), .ref (am 11), .ref (am 12), vi ((bs.length : Int)), vi (se), vi ((evs.length : Int) + 1), vi (hd.2.1 + 1), vi (hd.2.2.2.1), vi (hd.2.2.1), vi ((ln.length : Int)), vi (bl.1), vi (bl.2.1), vi (bl.2.2), vi (th), vl (hd.2.2.2.2), vl (ca)])) := u42.self' ee58
    have u60 := u43.ne' ee58 (hI 1 0 (by decide) (by decide) (by decide))
    have u61 := u44.ne' ee58 (hI 2 0 (by decide) (by decide) (by decide))
    have u62 := u45.ne' ee58 (hI 3 0 (by decide) (by decide) (by decide))
    have u63 := u46.ne' ee58 (hI 4 0 (by decide) (by decide) (by decide))
    have u64 := u47.ne' ee58 (hI 5 0 (by decide) (by decide) (by decide))
    have u65 := u48.ne' ee58 (hI 6 0 (by decide) (by decide) (by decide))
    have u66 := u49.ne' ee58 (hI 7 0 (by decide) (by decide) (by decide))
    have u67 := u50.ne' ee58 (hI 8 0 (by decide) (by decide) (by decide))
    have u68 := u51.ne' ee58 (hI 9 0 (by decide) (by decide) (by decide))
    have u69 := u52.ne' ee58 (hI 10 0 (by decide) (by decide) (by decide))
    have u70 := u53.ne' ee58 (hI 11 0 (by decide) (by decide) (by decide))
    have u71 := u54.ne' ee58 (hI 12 0 (by decide) (by decide) (by decide))
    have kp72 := kp55.put ee58 ⟨0, by decide, rfl⟩
    have dm73 := (dom_put ee58).trans dm56
    refine j_aload_n 0 C dX7_notes_58 rfl rfl rfl ?_
    refine j_iload_n 2 C dX7_notes_59 rfl rfl rfl ?_
    refine j_put (fs' := [.ref (am 1), .ref (am 2), .ref (am 3), .ref (am 4), .ref (am 5), .ref (am 6), .ref (am 7), .ref (am 8), .ref (am 9), .ref (am 10), .ref (am 11), .ref (am 12), vi ((bs.length : Int)), vi (se), vi ((evs.length : Int) + 1), vi (hd.2.1 + 1), vi (hd.2.2.2.1), vi ((totB bs)), vi ((ln.length : Int)), vi (bl.1), vi (bl.2.1), vi (bl.2.2), vi (th), vl (hd.2.2.2.2), vl (ca)]) C dX7_notes_60 rfl fa_X7_87 u59 rfl rfl rfl rfl (fun τ74 ee75 => ?_)
    have u76 : has τ74 (am 0) (.inr (7, [.ref (am 1), .ref (am 2), .ref (am 3), .ref (am 4), .ref (am 5), .ref (am 6), .ref (am 7), .ref (am 8), .ref (am 9), .ref (am 10), .ref (am 11), .ref (am 12), vi ((bs.length : Int)), vi (se), vi ((evs.length : Int) + 1), vi (hd.2.1 + 1), vi (hd.2.2.2.1), vi ((totB bs)), vi ((ln.length : Int)), vi (bl.1), vi (bl.2.1), vi (bl.2.2), vi (th), vl (hd.2.2.2.2), vl (ca)])) := u59.self' ee75
    have u77 := u60.ne' ee75 (hI 1 0 (by decide) (by decide) (by decide))
    have u78 := u61.ne' ee75 (hI 2 0 (by decide) (by decide) (by decide))
    have u79 := u62.ne' ee75 (hI 3 0 (by decide) (by decide) (by decide))
    have u80 := u63.ne' ee75 (hI 4 0 (by decide) (by decide) (by decide))
    have u81 := u64.ne' ee75 (hI 5 0 (by decide) (by decide) (by decide))
    have u82 := u65.ne' ee75 (hI 6 0 (by decide) (by decide) (by decide))
    have u83 := u66.ne' ee75 (hI 7 0 (by decide) (by decide) (by decide))
    have u84 := u67.ne' ee75 (hI 8 0 (by decide) (by decide) (by decide))
    have u85 := u68.ne' ee75 (hI 9 0 (by decide) (by decide) (by decide))
    have u86 := u69.ne' ee75 (hI 10 0 (by decide) (by decide) (by decide))
    have u87 := u70.ne' ee75 (hI 11 0 (by decide) (by decide) (by decide))
    have u88 := u71.ne' ee75 (hI 12 0 (by decide) (by decide) (by decide))
    have kp89 := kp72.put ee75 ⟨0, by decide, rfl⟩
    have dm90 := (dom_put ee75).trans dm73
    exact j_vret C E dX7_notes_63 (by omega) (by omega) ⟨rfl, by rw [hdF, if_neg (by omega)]; exact ⟨hI, _, _, _, _, _, _, _, _, _, _, _, _, _, _, _, u76, ⟨u77, u78, u79, u80, u81, u82, u83, u84, u85, u86, u87, u88⟩, ⟨rfl, hen, rfl⟩, hBn1, hRu1, hPr1, (hTr1.snoc ht _ _ _ _), (hKi1.snoc h8 he2 (by omega)), hLi1⟩, kp89, dm90⟩
theorem G4_upd {gb go gf gg : Nat → Int} {k : Nat} {y : Ly} (s : Nat) : G4 (ups gb k y.1) (ups go k y.2.1) (ups gf k y.2.2.1) (ups gg k y.2.2.2) s = if s = k then y else G4 gb go gf gg s := G4_ups gb go gf gg k y.1 y.2.1 y.2.2.1 y.2.2.2 s
theorem clr_y {gb go gf gg gb' go' gf' gg' : Nat → Int} {b k : Nat} {ly : List Ly} (h : ly = rowL (G4 gb go gf gg) (90 * b) ly.length) (hk : k < ly.length) (hQ : ∀ s : Nat, (s < 90 * b ∨ 90 * b + k ≤ s) → G4 gb' go' gf' gg' s = G4 gb go gf gg s) {z : Int} (hz : z = 90 * (b : Int) + k) : gb' z.toNat = (lyAt ly k).1 ∧ go' z.toNat = (lyAt ly k).2.1 ∧ gf' z.toNat = (lyAt ly k).2.2.1 ∧ gg' z.toNat = (lyAt ly k).2.2.2 := by
  have e1 := hQ (90 * b + k) (Or.inr (Nat.le_refl _))
  have e2 : lyAt ly k = G4 gb go gf gg (90 * b + k) := by rw [h]; exact rowL_ly hk
  rw [show z.toNat = 90 * b + k by omega, e2, ← e1]
  exact ⟨rfl, rfl, rfl, rfl⟩
theorem lyAt_mem {l : List Ly} {k : Nat} (h : k < l.length) : lyAt l k ∈ l := by
  unfold lyAt
  rw [Int.toNat_natCast, List.getD_eq_getElem?_getD, List.getElem?_eq_getElem h]
  exact List.getElem_mem h
theorem clr_P {gb go gf gg : Nat → Int} {b k kept : Nat} {ly : List Ly} (hk : k < ly.length) (hkk : kept ≤ k) (hP : rowL (G4 gb go gf gg) (90 * b) kept = fpos (ly.take k)) (hc : 0 < (lyAt ly k).1) {z : Nat} (hz : z = 90 * b + kept) : rowL (G4 (ups gb z (lyAt ly k).1) (ups go z (lyAt ly k).2.1) (ups gf z (lyAt ly k).2.2.1) (ups gg z (lyAt ly k).2.2.2)) (90 * b) (kept + 1) = fpos (ly.take (k + 1)) := by
  subst hz
  rw [rowL_succ, G4_upd, if_pos rfl, fpos_take hk, if_pos hc, ← hP]
  congr 1
  exact rowL_cong (fun j hj => by rw [G4_upd, if_neg (by omega)])
set_option maxHeartbeats 4000000 in
set_option maxRecDepth 20000 in
theorem c_clears (l : Launch) (hfl : l.stackTraces = false) (D : va_G) (cy : Nat → Nat) (σ : Wd) (am : Nat → Nat) (bs : List Bn) (ru : Nat → Int × Int) (se : Int) (pf : Nat → Int) (hd : Hd) (ca : Int) (evs : List Evt) (ln : List Int) (bl : Int × Int × Int) (th : Int) (hM : RM cy σ am bs ru se pf hd ca evs ln bl th) (b : Nat) (hb : b < bs.length) (h0 : ∀ x ∈ (gB bs b).2.2, 0 ≤ x.1 ∧ x.1 ≤ 2000) : Ct l yX7_clears cX7_clears 6 none 0 0 0 D cy [.ref (am 0), vi ((b : Int))] σ (fun v σ' => v = none ∧ RM cy σ' am (setL bs b (fpos (gB bs b).2.2)) ru se pf hd ca evs ln bl th ∧ Keep σ σ' (inM am) ∧ σ'.1 = σ.1) noX := by
  refine ct_start (by decide +kernel) hfl rfl (fun κ e1 e2 e3 C E NH => ?_)
  subst e1 e2 e3
  have C : Cx κ cX7_clears 6 RX7 "clears" 0 := C
  obtain ⟨-, -, -, -, hc, hs⟩ := id E
  show J κ σ [(0, .ref (am 0)), (1, vi ((b : Int)))] 0 [] 0 0
  obtain ⟨hI1, gc1, gm1, gr1, gp1, gb1, go1, gf1, gg1, gt1, gz1, gk1, gl1, _, _, _, h01, ⟨hgc1, hgm1, hgr1, hgp1, hgb1, hgo1, hgf1, hgg1, hgt1, hgz1, hgk1, hgl1⟩, ⟨rfl, rfl, rfl⟩, hBn1, hRu1, hPr1, hTr1, hKi1, hLi1⟩ := id hM
  have hI := hI1
  have hnb61 := hBn1.1
  have kp0 : Keep σ σ (inM am) := Keep.rf
  have dm0 : σ.1 = σ.1 := rfl
  obtain ⟨⟨cap, mf, ly⟩, hg⟩ : ∃ z, gB bs (b : Int) = z := ⟨_, rfl⟩
  have hbk_1 := hBn1.2.2 b hb
  rw [hg] at hbk_1
  obtain ⟨⟨hcp_1, hmz_1⟩, ⟨hmn_1, hl9_1⟩, hrw_1⟩ := hbk_1
  dsimp only at hcp_1 hmz_1 hmn_1 hl9_1 hrw_1
  rw [hg] at h0
  dsimp only at h0
  refine j_iconst C dX7_clears_0 rfl ?_
  refine j_istore_n (lv' := [(0, .ref (am 0)), (1, vi ((b : Int))), (2, vi (0))]) [1, 2, 0] C dX7_clears_1 rfl rfl rfl rfl ?_
  refine j_iconst C dX7_clears_2 rfl ?_
  refine j_istore_n (lv' := [(0, .ref (am 0)), (1, vi ((b : Int))), (2, vi (0)), (3, vi (0))]) [1, 2, 3, 0] C dX7_clears_3 rfl rfl rfl rfl ?_
  have lp : ∀ (N : Nat) (k : Nat) (kept : Nat) (σ1 : Wd) (gb9 : Nat → Int) (go9 : Nat → Int) (gf9 : Nat → Int) (gg9 : Nat → Int), Keep σ σ1 (in4 am) → σ1.1 = σ.1 → has σ1 (am 5) (iA (kc κ) 540 gb9) → has σ1 (am 6) (iA (kc κ) 540 go9) → has σ1 (am 7) (iA (kc κ) 540 gf9) → has σ1 (am 8) (iA (kc κ) 540 gg9) → rowL (G4 gb9 go9 gf9 gg9) (90 * b) kept = fpos (ly.take k) → (∀ s : Nat, (s < 90 * b ∨ 90 * b + k ≤ s) → G4 gb9 go9 gf9 gg9 s = G4 gb1 go1 gf1 gg1 s) → kept ≤ k → k ≤ ly.length → (ly.length + 1 - k) < N → J κ σ1 [(0, .ref (am 0)), (1, vi ((b : Int))), (2, vi ((kept : Int))), (3, vi ((k : Int)))] 4 [] 0 0 := by
    intro N
    induction N with
    | zero => intro k kept σ1 gb9 go9 gf9 gg9 hk1 hd1 j5 j6 j7 j8 hP hQ hkk hk hN; exact absurd hN (Nat.not_lt_zero _)
    | succ N ih =>
      intro k kept σ1 gb9 go9 gf9 gg9 hk1 hd1 j5 j6 j7 j8 hP hQ hkk hk hN
      have x0 := hk1 _ _ h01 (hI.n4 (by decide) (by decide))
      have x1 := hk1 _ _ hgc1 (hI.n4 (by decide) (by decide))
      have x2 := hk1 _ _ hgm1 (hI.n4 (by decide) (by decide))
      have x3 := hk1 _ _ hgr1 (hI.n4 (by decide) (by decide))
      have x4 := hk1 _ _ hgp1 (hI.n4 (by decide) (by decide))
      have x9 := hk1 _ _ hgt1 (hI.n4 (by decide) (by decide))
      have x10 := hk1 _ _ hgz1 (hI.n4 (by decide) (by decide))
      have x11 := hk1 _ _ hgk1 (hI.n4 (by decide) (by decide))
      have x12 := hk1 _ _ hgl1 (hI.n4 (by decide) (by decide))
      refine j_iload_n 3 C dX7_clears_4 rfl rfl rfl ?_
      refine j_aload_n 0 C dX7_clears_5 rfl rfl rfl ?_
      refine j_get C dX7_clears_6 rfl fg_X7_13 x0 rfl ?_
      refine j_iload_n 1 C dX7_clears_9 rfl rfl rfl ?_
      refine j_iald C dX7_clears_10 rfl x2 ⟨by omega, by omega⟩ (by omega) hmn_1 ?_
      refine j_icmp_ge (tgt := 105) C dX7_clears_11 rfl rfl ⟨by omega, by omega⟩ ⟨by omega, by omega⟩ (fun cc2 => ?_) (fun cc2 => ?_)
      · have hke : k = ly.length := by omega
        rw [hke, List.take_length] at hP
        have hlf : (fpos ly).length = kept := by rw [← hP, rowL_len]
        refine j_aload_n 0 C dX7_clears_105 rfl rfl rfl ?_
        refine j_get C dX7_clears_106 rfl fg_X7_13 x0 rfl ?_
        refine j_iload_n 1 C dX7_clears_109 rfl rfl rfl ?_
        refine j_iload_n 2 C dX7_clears_110 rfl rfl rfl ?_
        refine j_iast C dX7_clears_111 rfl x2 ⟨by omega, by omega⟩ (by omega) (fun τ3 ee4 => ?_)
        have u5 := x0.ne' ee4 (hI 0 2 (by decide) (by decide) (by decide))
        have u6 := x1.ne' ee4 (hI 1 2 (by decide) (by decide) (by decide))
        have u7 : has τ3 (am 2) (iA (kc κ) 6 (ups gm1 (b : Int).toNat (kept : Int))) := x2.self' ee4
        have u8 := x3.ne' ee4 (hI 3 2 (by decide) (by decide) (by decide))
        have u9 := x4.ne' ee4 (hI 4 2 (by decide) (by decide) (by decide))
        have u10 := j5.ne' ee4 (hI 5 2 (by decide) (by decide) (by decide))
        have u11 := j6.ne' ee4 (hI 6 2 (by decide) (by decide) (by decide))
        have u12 := j7.ne' ee4 (hI 7 2 (by decide) (by decide) (by decide))
        have u13 := j8.ne' ee4 (hI 8 2 (by decide) (by decide) (by decide))
        have u14 := x9.ne' ee4 (hI 9 2 (by decide) (by decide) (by decide))
        have u15 := x10.ne' ee4 (hI 10 2 (by decide) (by decide) (by decide))
        have u16 := x11.ne' ee4 (hI 11 2 (by decide) (by decide) (by decide))
        have u17 := x12.ne' ee4 (hI 12 2 (by decide) (by decide) (by decide))
        exact j_vret C E dX7_clears_112 (by omega) (by omega) ⟨rfl, by rw [hg]; exact ⟨hI, _, _, _, _, _, _, _, _, _, _, _, _, _, _, _, u5, ⟨u6, u7, u8, u9, u10, u11, u12, u13, u14, u15, u16, u17⟩, ⟨by rw [setL_len], rfl, rfl⟩, (hBn1.set hb (by show (fpos ly).length ≤ 90; omega) (by rw [hlf]; exact ups_u rfl) (fun i hi => ups_n (by omega)) (fun s hs => hQ s (by omega)) (by rw [hlf]; exact hP.symm)), hRu1, hPr1, hTr1, hKi1, hLi1⟩, (hk1.mono in4.m).put ee4 ⟨2, by decide, rfl⟩, (dom_put ee4).trans hd1⟩
      · refine j_bipush C dX7_clears_14 rfl (by decide) ?_
        refine j_iload_n 1 C dX7_clears_16 rfl rfl rfl ?_
        refine j_imul C dX7_clears_17 rfl ?_
        refine j_iload_n 3 C dX7_clears_18 rfl rfl rfl ?_
        refine j_iadd C dX7_clears_19 rfl ?_
        refine j_istore (lv' := [(0, .ref (am 0)), (1, vi ((b : Int))), (2, vi ((kept : Int))), (3, vi ((k : Int))), (4, vi ((90 * (b : Int)) + (k : Int)))]) [1, 2, 3, 4, 0] C dX7_clears_20 rfl rfl rfl ?_
        refine j_aload_n 0 C dX7_clears_22 rfl rfl rfl ?_
        refine j_get C dX7_clears_23 rfl fg_X7_22 x0 rfl ?_
        refine j_iload 4 C dX7_clears_26 rfl rfl ?_
        refine j_iald C dX7_clears_28 rfl j5 ⟨by omega, by omega⟩ (by omega) (clr_y hrw_1 (k := k) (by omega) hQ (z := (90 * (b : Int)) + (k : Int)) (by omega)).1 ?_
        have h09 := h0 (lyAt ly (k : Int)) (lyAt_mem (by omega))
        refine j_if_le (tgt := 99) C dX7_clears_29 rfl rfl ⟨by omega, by omega⟩ (fun cc18 => ?_) (fun cc18 => ?_)
        · have hly9 := fpos_take (l := ly) (k := k) (by omega)
          rw [if_neg (by omega), List.append_nil] at hly9
          refine j_iinc (y := (k : Int) + 1) (lv' := [(0, .ref (am 0)), (1, vi ((b : Int))), (2, vi ((kept : Int))), (3, vi ((k : Int) + 1)), (4, vi ((90 * (b : Int)) + (k : Int)))]) 3 [1, 2, 3, 0, 4] C dX7_clears_99 rfl rfl rfl rfl rfl ?_
          refine j_goto (tgt := 4) C dX7_clears_102 rfl ?_
          refine j_locals (lv' := [(0, .ref (am 0)), (1, vi ((b : Int))), (2, vi ((kept : Int))), (3, vi ((k : Int) + 1))]) [0, 1, 2, 3] rfl ?_
          exact ih (k + 1) kept σ1 gb9 go9 gf9 gg9 hk1 hd1 j5 j6 j7 j8 (by rw [hly9]; exact hP) (fun s hs => hQ s (by omega)) (by omega) (by omega) (by omega)
        · refine j_bipush C dX7_clears_32 rfl (by decide) ?_
          refine j_iload_n 1 C dX7_clears_34 rfl rfl rfl ?_
          refine j_imul C dX7_clears_35 rfl ?_
          refine j_iload_n 2 C dX7_clears_36 rfl rfl rfl ?_
          refine j_iadd C dX7_clears_37 rfl ?_
          refine j_istore (lv' := [(0, .ref (am 0)), (1, vi ((b : Int))), (2, vi ((kept : Int))), (3, vi ((k : Int))), (4, vi ((90 * (b : Int)) + (k : Int))), (5, vi ((90 * (b : Int)) + (kept : Int)))]) [1, 2, 3, 4, 5, 0] C dX7_clears_38 rfl rfl rfl ?_
          refine j_aload_n 0 C dX7_clears_40 rfl rfl rfl ?_
          refine j_get C dX7_clears_41 rfl fg_X7_22 x0 rfl ?_
          refine j_iload 5 C dX7_clears_44 rfl rfl ?_
          refine j_aload_n 0 C dX7_clears_46 rfl rfl rfl ?_
          refine j_get C dX7_clears_47 rfl fg_X7_22 x0 rfl ?_
          refine j_iload 4 C dX7_clears_50 rfl rfl ?_
          refine j_iald C dX7_clears_52 rfl j5 ⟨by omega, by omega⟩ (by omega) (clr_y hrw_1 (k := k) (by omega) hQ (z := (90 * (b : Int)) + (k : Int)) (by omega)).1 ?_
          refine j_iast C dX7_clears_53 rfl j5 ⟨by omega, by omega⟩ (by omega) (fun τ19 ee20 => ?_)
          have u21 := x0.ne' ee20 (hI 0 5 (by decide) (by decide) (by decide))
          have u22 := x1.ne' ee20 (hI 1 5 (by decide) (by decide) (by decide))
          have u23 := x2.ne' ee20 (hI 2 5 (by decide) (by decide) (by decide))
          have u24 := x3.ne' ee20 (hI 3 5 (by decide) (by decide) (by decide))
          have u25 := x4.ne' ee20 (hI 4 5 (by decide) (by decide) (by decide))
          have u26 : has τ19 (am 5) (iA (kc κ) 540 (ups gb9 ((90 * (b : Int)) + (kept : Int)).toNat ((lyAt ly (k : Int)).1))) := j5.self' ee20
          have u27 := j6.ne' ee20 (hI 6 5 (by decide) (by decide) (by decide))
          have u28 := j7.ne' ee20 (hI 7 5 (by decide) (by decide) (by decide))
          have u29 := j8.ne' ee20 (hI 8 5 (by decide) (by decide) (by decide))
          have u30 := x9.ne' ee20 (hI 9 5 (by decide) (by decide) (by decide))
          have u31 := x10.ne' ee20 (hI 10 5 (by decide) (by decide) (by decide))
          have u32 := x11.ne' ee20 (hI 11 5 (by decide) (by decide) (by decide))
          have u33 := x12.ne' ee20 (hI 12 5 (by decide) (by decide) (by decide))
          have kp34 := hk1.put ee20 (Or.inl rfl)
          have dm35 := (dom_put ee20).trans hd1
          refine j_aload_n 0 C dX7_clears_54 rfl rfl rfl ?_
          refine j_get C dX7_clears_55 rfl fg_X7_25 u21 rfl ?_
          refine j_iload 5 C dX7_clears_58 rfl rfl ?_
          refine j_aload_n 0 C dX7_clears_60 rfl rfl rfl ?_
          refine j_get C dX7_clears_61 rfl fg_X7_25 u21 rfl ?_
          refine j_iload 4 C dX7_clears_64 rfl rfl ?_
          refine j_iald C dX7_clears_66 rfl u27 ⟨by omega, by omega⟩ (by omega) (clr_y hrw_1 (k := k) (by omega) hQ (z := (90 * (b : Int)) + (k : Int)) (by omega)).2.1 ?_
          refine j_iast C dX7_clears_67 rfl u27 ⟨by omega, by omega⟩ (by omega) (fun τ36 ee37 => ?_)
          have u38 := u21.ne' ee37 (hI 0 6 (by decide) (by decide) (by decide))
          have u39 := u22.ne' ee37 (hI 1 6 (by decide) (by decide) (by decide))
          have u40 := u23.ne' ee37 (hI 2 6 (by decide) (by decide) (by decide))
          have u41 := u24.ne' ee37 (hI 3 6 (by decide) (by decide) (by decide))
          have u42 := u25.ne' ee37 (hI 4 6 (by decide) (by decide) (by decide))
          have u43 := u26.ne' ee37 (hI 5 6 (by decide) (by decide) (by decide))
          have u44 : has τ36 (am 6) (iA (kc κ) 540 (ups go9 ((90 * (b : Int)) + (kept : Int)).toNat ((lyAt ly (k : Int)).2.1))) := u27.self' ee37
          have u45 := u28.ne' ee37 (hI 7 6 (by decide) (by decide) (by decide))
          have u46 := u29.ne' ee37 (hI 8 6 (by decide) (by decide) (by decide))
          have u47 := u30.ne' ee37 (hI 9 6 (by decide) (by decide) (by decide))
          have u48 := u31.ne' ee37 (hI 10 6 (by decide) (by decide) (by decide))
          have u49 := u32.ne' ee37 (hI 11 6 (by decide) (by decide) (by decide))
          have u50 := u33.ne' ee37 (hI 12 6 (by decide) (by decide) (by decide))
          have kp51 := kp34.put ee37 (Or.inr (Or.inl rfl))
          have dm52 := (dom_put ee37).trans dm35
          refine j_aload_n 0 C dX7_clears_68 rfl rfl rfl ?_
          refine j_get C dX7_clears_69 rfl fg_X7_28 u38 rfl ?_
          refine j_iload 5 C dX7_clears_72 rfl rfl ?_
          refine j_aload_n 0 C dX7_clears_74 rfl rfl rfl ?_
          refine j_get C dX7_clears_75 rfl fg_X7_28 u38 rfl ?_
          refine j_iload 4 C dX7_clears_78 rfl rfl ?_
          refine j_iald C dX7_clears_80 rfl u45 ⟨by omega, by omega⟩ (by omega) (clr_y hrw_1 (k := k) (by omega) hQ (z := (90 * (b : Int)) + (k : Int)) (by omega)).2.2.1 ?_
          refine j_iast C dX7_clears_81 rfl u45 ⟨by omega, by omega⟩ (by omega) (fun τ53 ee54 => ?_)
          have u55 := u38.ne' ee54 (hI 0 7 (by decide) (by decide) (by decide))
          have u56 := u39.ne' ee54 (hI 1 7 (by decide) (by decide) (by decide))
          have u57 := u40.ne' ee54 (hI 2 7 (by decide) (by decide) (by decide))
          have u58 := u41.ne' ee54 (hI 3 7 (by decide) (by decide) (by decide))
          have u59 := u42.ne' ee54 (hI 4 7 (by decide) (by decide) (by decide))
          have u60 := u43.ne' ee54 (hI 5 7 (by decide) (by decide) (by decide))
          have u61 := u44.ne' ee54 (hI 6 7 (by decide) (by decide) (by decide))
          have u62 : has τ53 (am 7) (iA (kc κ) 540 (ups gf9 ((90 * (b : Int)) + (kept : Int)).toNat ((lyAt ly (k : Int)).2.2.1))) := u45.self' ee54
          have u63 := u46.ne' ee54 (hI 8 7 (by decide) (by decide) (by decide))
          have u64 := u47.ne' ee54 (hI 9 7 (by decide) (by decide) (by decide))
          have u65 := u48.ne' ee54 (hI 10 7 (by decide) (by decide) (by decide))
          have u66 := u49.ne' ee54 (hI 11 7 (by decide) (by decide) (by decide))
          have u67 := u50.ne' ee54 (hI 12 7 (by decide) (by decide) (by decide))
          have kp68 := kp51.put ee54 (Or.inr (Or.inr (Or.inl rfl)))
          have dm69 := (dom_put ee54).trans dm52
          refine j_aload_n 0 C dX7_clears_82 rfl rfl rfl ?_
          refine j_get C dX7_clears_83 rfl fg_X7_31 u55 rfl ?_
          refine j_iload 5 C dX7_clears_86 rfl rfl ?_
          refine j_aload_n 0 C dX7_clears_88 rfl rfl rfl ?_
          refine j_get C dX7_clears_89 rfl fg_X7_31 u55 rfl ?_
          refine j_iload 4 C dX7_clears_92 rfl rfl ?_
          refine j_iald C dX7_clears_94 rfl u63 ⟨by omega, by omega⟩ (by omega) (clr_y hrw_1 (k := k) (by omega) hQ (z := (90 * (b : Int)) + (k : Int)) (by omega)).2.2.2 ?_
          refine j_iast C dX7_clears_95 rfl u63 ⟨by omega, by omega⟩ (by omega) (fun τ70 ee71 => ?_)
          have u72 := u55.ne' ee71 (hI 0 8 (by decide) (by decide) (by decide))
          have u73 := u56.ne' ee71 (hI 1 8 (by decide) (by decide) (by decide))
          have u74 := u57.ne' ee71 (hI 2 8 (by decide) (by decide) (by decide))
          have u75 := u58.ne' ee71 (hI 3 8 (by decide) (by decide) (by decide))
          have u76 := u59.ne' ee71 (hI 4 8 (by decide) (by decide) (by decide))
          have u77 := u60.ne' ee71 (hI 5 8 (by decide) (by decide) (by decide))
          have u78 := u61.ne' ee71 (hI 6 8 (by decide) (by decide) (by decide))
          have u79 := u62.ne' ee71 (hI 7 8 (by decide) (by decide) (by decide))
          have u80 : has τ70 (am 8) (iA (kc κ) 540 (ups gg9 ((90 * (b : Int)) + (kept : Int)).toNat ((lyAt ly (k : Int)).2.2.2))) := u63.self' ee71
          have u81 := u64.ne' ee71 (hI 9 8 (by decide) (by decide) (by decide))
          have u82 := u65.ne' ee71 (hI 10 8 (by decide) (by decide) (by decide))
          have u83 := u66.ne' ee71 (hI 11 8 (by decide) (by decide) (by decide))
          have u84 := u67.ne' ee71 (hI 12 8 (by decide) (by decide) (by decide))
          have kp85 := kp68.put ee71 (Or.inr (Or.inr (Or.inr rfl)))
          have dm86 := (dom_put ee71).trans dm69
          refine j_iinc (y := (kept : Int) + 1) (lv' := [(0, .ref (am 0)), (1, vi ((b : Int))), (2, vi ((kept : Int) + 1)), (3, vi ((k : Int))), (4, vi ((90 * (b : Int)) + (k : Int))), (5, vi ((90 * (b : Int)) + (kept : Int)))]) 2 [1, 2, 0, 3, 4, 5] C dX7_clears_96 rfl rfl rfl rfl rfl ?_
          refine j_iinc (y := (k : Int) + 1) (lv' := [(0, .ref (am 0)), (1, vi ((b : Int))), (2, vi ((kept : Int) + 1)), (3, vi ((k : Int) + 1)), (4, vi ((90 * (b : Int)) + (k : Int))), (5, vi ((90 * (b : Int)) + (kept : Int)))]) 3 [1, 2, 3, 0, 4, 5] C dX7_clears_99 rfl rfl rfl rfl rfl ?_
          refine j_goto (tgt := 4) C dX7_clears_102 rfl ?_
          refine j_locals (lv' := [(0, .ref (am 0)), (1, vi ((b : Int))), (2, vi ((kept : Int) + 1)), (3, vi ((k : Int) + 1))]) [0, 1, 2, 3] rfl ?_
          have hz9 : ((90 * (b : Int)) + (kept : Int)).toNat = 90 * b + kept := by omega
          exact ih (k + 1) (kept + 1) τ70 _ _ _ _ kp85 dm86 u77 u78 u79 u80 (clr_P (by omega) (by omega) hP (by omega) hz9) (fun s hs => by rw [G4_upd, if_neg (by omega)]; exact hQ s (by omega)) (by omega) (by omega) (by omega)
  exact lp _ 0 0 σ _ _ _ _ Keep.rf rfl hgb1 hgo1 hgf1 hgg1 rfl (fun _ _ => rfl) (Nat.le_refl _) (Nat.zero_le _) (Nat.lt_succ_self _)
