/-! what each call answers and changes; GrainElevatorModel: what is asked first, numbers -/
/-- bins, rules, season, prices, hedge, cash, events, line -/
abbrev St : Type := List Bn × (Nat → Int × Int) × Int × (Nat → Int) × Hd × Int × List Evt × List Int
/-- a call: which refusal (0: none), its answer, what is there behind it -/
abbrev Rs : Type := Int × Int × St
def evS (bs : List Bn) (ru : Nat → Int × Int) (se : Int) (pf : Nat → Int) (hd : Hd) (ca : Int) (evs : List Evt) (ln : List Int) (e : Evt) (c : Int) : St := (apB (gradeF ru se) bs e, ru, se, pf, hdF hd (totB (apB (gradeF ru se) bs e)), ca + c, evs ++ [e], ln)
def RMs (cy : Nat → Nat) (σ : Wd) (am : Nat → Nat) (s : St) (bl : Int × Int × Int) (th : Int) : Prop := RM cy σ am s.1 s.2.1 s.2.2.1 s.2.2.2.1 s.2.2.2.2.1 s.2.2.2.2.2.1 s.2.2.2.2.2.2.1 s.2.2.2.2.2.2.2 bl th
def RXs (cy : Nat → Nat) (σ : Wd) (tg ad : Nat → Nat) (s : St) : Prop := RX cy σ tg ad s.1 s.2.1 s.2.2.1 s.2.2.2.1 s.2.2.2.2.1 s.2.2.2.2.2.1 s.2.2.2.2.2.2.1 s.2.2.2.2.2.2.2
def Oks (s : St) : Prop := Ok s.1 s.2.1 s.2.2.1 s.2.2.2.1 s.2.2.2.2.1 s.2.2.2.2.2.2.1 s.2.2.2.2.2.2.2
def o_addBin (bs : List Bn) (ru : Nat → Int × Int) (se : Int) (pf : Nat → Int) (hd : Hd) (ca : Int) (evs : List Evt) (ln : List Int) (c : Int) (m : Bool) : Rs := if c < 1 ∨ 5000 < c then (1, 0, (bs, ru, se, pf, hd, ca, evs, ln)) else if (bs.length : Int) = 6 then (2, 0, (bs, ru, se, pf, hd, ca, evs, ln)) else (0, (bs.length : Int), (bs ++ [(c, m, [])], ru, se, pf, hd, ca, evs, ln))
def o_capacityOf (bs : List Bn) (ru : Nat → Int × Int) (se : Int) (pf : Nat → Int) (hd : Hd) (ca : Int) (evs : List Evt) (ln : List Int) (b : Int) : Rs := if b < 0 ∨ (bs.length : Int) ≤ b then (1, 0, (bs, ru, se, pf, hd, ca, evs, ln)) else (0, (gB bs b).1, (bs, ru, se, pf, hd, ca, evs, ln))
def o_setRule (bs : List Bn) (ru : Nat → Int × Int) (se : Int) (pf : Nat → Int) (hd : Hd) (ca : Int) (evs : List Evt) (ln : List Int) (s g y z : Int) : Rs := if s < 0 ∨ 3 < s ∨ g < 1 ∨ 3 < g ∨ y < 80 ∨ 300 < y ∨ z < 0 ∨ 100 < z then (1, 0, (bs, ru, se, pf, hd, ca, evs, ln)) else (0, (rAt ru s g).1, (bs, ruU ru (s * 3 + g - 1).toNat y z, se, pf, hd, ca, evs, ln))
def o_setSeason (bs : List Bn) (ru : Nat → Int × Int) (se : Int) (pf : Nat → Int) (hd : Hd) (ca : Int) (evs : List Evt) (ln : List Int) (z : Int) : Rs := if z < 0 ∨ 3 < z then (1, 0, (bs, ru, se, pf, hd, ca, evs, ln)) else (0, se, (bs, ru, z, pf, hd, ca, evs, ln))
def o_gradeFor (bs : List Bn) (ru : Nat → Int × Int) (se : Int) (pf : Nat → Int) (hd : Hd) (ca : Int) (evs : List Evt) (ln : List Int) (y z : Int) : Rs := if y < 80 ∨ 300 < y ∨ z < 0 ∨ 100 < z then (1, 0, (bs, ru, se, pf, hd, ca, evs, ln)) else (0, gradeF ru se y z, (bs, ru, se, pf, hd, ca, evs, ln))
def o_setPrice (bs : List Bn) (ru : Nat → Int × Int) (se : Int) (pf : Nat → Int) (hd : Hd) (ca : Int) (evs : List Evt) (ln : List Int) (z y : Int) : Rs := if z < 1 ∨ 4 < z ∨ y < 0 ∨ 2000 < y then (1, 0, (bs, ru, se, pf, hd, ca, evs, ln)) else (0, pf z.toNat, (bs, ru, se, ups pf z.toNat y, hd, ca, evs, ln))
def o_priceOf (bs : List Bn) (ru : Nat → Int × Int) (se : Int) (pf : Nat → Int) (hd : Hd) (ca : Int) (evs : List Evt) (ln : List Int) (z : Int) : Rs := if z < 1 ∨ 4 < z then (1, 0, (bs, ru, se, pf, hd, ca, evs, ln)) else (0, pf z.toNat, (bs, ru, se, pf, hd, ca, evs, ln))
def o_load (bs : List Bn) (ru : Nat → Int × Int) (se : Int) (pf : Nat → Int) (hd : Hd) (ca : Int) (evs : List Evt) (ln : List Int) (b n x f : Int) : Rs := if b < 0 ∨ (bs.length : Int) ≤ b then (1, 0, (bs, ru, se, pf, hd, ca, evs, ln)) else if n < 1 ∨ 2000 < n ∨ x < 80 ∨ 300 < x ∨ f < 0 ∨ 100 < f then (2, 0, (bs, ru, se, pf, hd, ca, evs, ln)) else if (gB bs b).1 - tot (gB bs b).2.2 < n ∨ 80 ≤ evs.length then (3, 0, (bs, ru, se, pf, hd, ca, evs, ln)) else (0, gradeF ru se x f, evS bs ru se pf hd ca evs ln (108, b, b, n, 0, x, f) (-n * pf (gradeF ru se x f).toNat))
def o_sell (bs : List Bn) (ru : Nat → Int × Int) (se : Int) (pf : Nat → Int) (hd : Hd) (ca : Int) (evs : List Evt) (ln : List Int) (b n : Int) : Rs := if b < 0 ∨ (bs.length : Int) ≤ b then (1, 0, (bs, ru, se, pf, hd, ca, evs, ln)) else if n < 1 ∨ 5000 < n then (2, 0, (bs, ru, se, pf, hd, ca, evs, ln)) else if tot (gB bs b).2.2 < n ∨ 80 ≤ evs.length then (3, 0, (bs, ru, se, pf, hd, ca, evs, ln)) else (0, sumL (cf pf) (takeL n (fl (gB bs b))), evS bs ru se pf hd ca evs ln (115, b, b, n, 0, 0, 0) (sumL (cf pf) (takeL n (fl (gB bs b)))))
def o_transfer (bs : List Bn) (ru : Nat → Int × Int) (se : Int) (pf : Nat → Int) (hd : Hd) (ca : Int) (evs : List Evt) (ln : List Int) (a b n : Int) : Rs := if a < 0 ∨ (bs.length : Int) ≤ a ∨ b < 0 ∨ (bs.length : Int) ≤ b then (1, 0, (bs, ru, se, pf, hd, ca, evs, ln)) else if a = b ∨ n < 1 ∨ 5000 < n then (2, 0, (bs, ru, se, pf, hd, ca, evs, ln)) else if tot (gB bs a).2.2 < n ∨ (gB bs b).1 - tot (gB bs b).2.2 < n ∨ 80 ≤ evs.length then (3, 0, (bs, ru, se, pf, hd, ca, evs, ln)) else (0, ((gB (apB (gradeF ru se) bs (116, a, b, n, 0, 0, 0)) b).2.2.length : Int) - ((gB bs b).2.2.length : Int), evS bs ru se pf hd ca evs ln (116, a, b, n, 0, 0, 0) (0))
def o_dry (bs : List Bn) (ru : Nat → Int × Int) (se : Int) (pf : Nat → Int) (hd : Hd) (ca : Int) (evs : List Evt) (ln : List Int) (b x : Int) : Rs := if b < 0 ∨ (bs.length : Int) ≤ b then (1, 0, (bs, ru, se, pf, hd, ca, evs, ln)) else if x < 80 ∨ 300 < x then (2, 0, (bs, ru, se, pf, hd, ca, evs, ln)) else if sumL (wetF x) (gB bs b).2.2 = 0 ∨ 80 ≤ evs.length then (3, 0, (bs, ru, se, pf, hd, ca, evs, ln)) else (0, tot (gB bs b).2.2 - tot (gB (apB (gradeF ru se) bs (100, b, b, 0, 0, x, 0)) b).2.2, evS bs ru se pf hd ca evs ln (100, b, b, 0, 0, x, 0) (-sumL (dryC x) (gB bs b).2.2))
def o_dryingCost (bs : List Bn) (ru : Nat → Int × Int) (se : Int) (pf : Nat → Int) (hd : Hd) (ca : Int) (evs : List Evt) (ln : List Int) (b x : Int) : Rs := if b < 0 ∨ (bs.length : Int) ≤ b then (1, 0, (bs, ru, se, pf, hd, ca, evs, ln)) else if x < 80 ∨ 300 < x then (2, 0, (bs, ru, se, pf, hd, ca, evs, ln)) else (0, sumL (dryC x) (gB bs b).2.2, (bs, ru, se, pf, hd, ca, evs, ln))
def o_bushelsIn (bs : List Bn) (ru : Nat → Int × Int) (se : Int) (pf : Nat → Int) (hd : Hd) (ca : Int) (evs : List Evt) (ln : List Int) (b : Int) : Rs := if b < 0 ∨ (bs.length : Int) ≤ b then (1, 0, (bs, ru, se, pf, hd, ca, evs, ln)) else (0, tot (gB bs b).2.2, (bs, ru, se, pf, hd, ca, evs, ln))
def o_layersIn (bs : List Bn) (ru : Nat → Int × Int) (se : Int) (pf : Nat → Int) (hd : Hd) (ca : Int) (evs : List Evt) (ln : List Int) (b : Int) : Rs := if b < 0 ∨ (bs.length : Int) ≤ b then (1, 0, (bs, ru, se, pf, hd, ca, evs, ln)) else (0, ((gB bs b).2.2.length : Int), (bs, ru, se, pf, hd, ca, evs, ln))
def o_layerBushels (bs : List Bn) (ru : Nat → Int × Int) (se : Int) (pf : Nat → Int) (hd : Hd) (ca : Int) (evs : List Evt) (ln : List Int) (b q : Int) : Rs := if b < 0 ∨ (bs.length : Int) ≤ b ∨ q < 0 ∨ ((gB bs b).2.2.length : Int) ≤ q then (1, 0, (bs, ru, se, pf, hd, ca, evs, ln)) else (0, (lyAt (fl (gB bs b)) q).1, (bs, ru, se, pf, hd, ca, evs, ln))
def o_layerMoisture (bs : List Bn) (ru : Nat → Int × Int) (se : Int) (pf : Nat → Int) (hd : Hd) (ca : Int) (evs : List Evt) (ln : List Int) (b q : Int) : Rs := if b < 0 ∨ (bs.length : Int) ≤ b ∨ q < 0 ∨ ((gB bs b).2.2.length : Int) ≤ q then (1, 0, (bs, ru, se, pf, hd, ca, evs, ln)) else (0, (lyAt (fl (gB bs b)) q).2.1, (bs, ru, se, pf, hd, ca, evs, ln))
def o_layerForeign (bs : List Bn) (ru : Nat → Int × Int) (se : Int) (pf : Nat → Int) (hd : Hd) (ca : Int) (evs : List Evt) (ln : List Int) (b q : Int) : Rs := if b < 0 ∨ (bs.length : Int) ≤ b ∨ q < 0 ∨ ((gB bs b).2.2.length : Int) ≤ q then (1, 0, (bs, ru, se, pf, hd, ca, evs, ln)) else (0, (lyAt (fl (gB bs b)) q).2.2.1, (bs, ru, se, pf, hd, ca, evs, ln))
def o_layerGrade (bs : List Bn) (ru : Nat → Int × Int) (se : Int) (pf : Nat → Int) (hd : Hd) (ca : Int) (evs : List Evt) (ln : List Int) (b q : Int) : Rs := if b < 0 ∨ (bs.length : Int) ≤ b ∨ q < 0 ∨ ((gB bs b).2.2.length : Int) ≤ q then (1, 0, (bs, ru, se, pf, hd, ca, evs, ln)) else (0, (lyAt (fl (gB bs b)) q).2.2.2, (bs, ru, se, pf, hd, ca, evs, ln))
def o_blendCost (bs : List Bn) (ru : Nat → Int × Int) (se : Int) (pf : Nat → Int) (hd : Hd) (ca : Int) (evs : List Evt) (ln : List Int) (a b n x : Int) : Rs := if a < 0 ∨ (bs.length : Int) ≤ a ∨ b < 0 ∨ (bs.length : Int) ≤ b then (1, 0, (bs, ru, se, pf, hd, ca, evs, ln)) else if a = b ∨ n < 1 ∨ 500 < n ∨ x < 80 ∨ 300 < x then (2, 0, (bs, ru, se, pf, hd, ca, evs, ln)) else if ¬ (bestF pf (fl (gB bs a)) (fl (gB bs b)) n (n * x)).1 = true then (3, 0, (bs, ru, se, pf, hd, ca, evs, ln)) else (0, (bestF pf (fl (gB bs a)) (fl (gB bs b)) n (n * x)).2.2, (bs, ru, se, pf, hd, ca, evs, ln))
def o_blendShare (bs : List Bn) (ru : Nat → Int × Int) (se : Int) (pf : Nat → Int) (hd : Hd) (ca : Int) (evs : List Evt) (ln : List Int) (a b n x : Int) : Rs := if a < 0 ∨ (bs.length : Int) ≤ a ∨ b < 0 ∨ (bs.length : Int) ≤ b then (1, 0, (bs, ru, se, pf, hd, ca, evs, ln)) else if a = b ∨ n < 1 ∨ 500 < n ∨ x < 80 ∨ 300 < x then (2, 0, (bs, ru, se, pf, hd, ca, evs, ln)) else if ¬ (bestF pf (fl (gB bs a)) (fl (gB bs b)) n (n * x)).1 = true then (3, 0, (bs, ru, se, pf, hd, ca, evs, ln)) else (0, (bestF pf (fl (gB bs a)) (fl (gB bs b)) n (n * x)).2.1, (bs, ru, se, pf, hd, ca, evs, ln))
def o_sellBlend (bs : List Bn) (ru : Nat → Int × Int) (se : Int) (pf : Nat → Int) (hd : Hd) (ca : Int) (evs : List Evt) (ln : List Int) (a b n x : Int) : Rs := if a < 0 ∨ (bs.length : Int) ≤ a ∨ b < 0 ∨ (bs.length : Int) ≤ b then (1, 0, (bs, ru, se, pf, hd, ca, evs, ln)) else if a = b ∨ n < 1 ∨ 500 < n ∨ x < 80 ∨ 300 < x then (2, 0, (bs, ru, se, pf, hd, ca, evs, ln)) else if ¬ (bestF pf (fl (gB bs a)) (fl (gB bs b)) n (n * x)).1 = true then (3, 0, (bs, ru, se, pf, hd, ca, evs, ln)) else if 80 ≤ evs.length then (4, 0, (bs, ru, se, pf, hd, ca, evs, ln)) else (0, n * pf (gradeM ru se (fl (gB bs a)) (fl (gB bs b)) (bestF pf (fl (gB bs a)) (fl (gB bs b)) n (n * x)).2.1 (n - (bestF pf (fl (gB bs a)) (fl (gB bs b)) n (n * x)).2.1)).toNat, evS bs ru se pf hd ca evs ln (98, a, b, (bestF pf (fl (gB bs a)) (fl (gB bs b)) n (n * x)).2.1, n - (bestF pf (fl (gB bs a)) (fl (gB bs b)) n (n * x)).2.1, 0, 0) (n * pf (gradeM ru se (fl (gB bs a)) (fl (gB bs b)) (bestF pf (fl (gB bs a)) (fl (gB bs b)) n (n * x)).2.1 (n - (bestF pf (fl (gB bs a)) (fl (gB bs b)) n (n * x)).2.1)).toNat))
def o_setFutures (bs : List Bn) (ru : Nat → Int × Int) (se : Int) (pf : Nat → Int) (hd : Hd) (ca : Int) (evs : List Evt) (ln : List Int) (z : Int) : Rs := if z < 0 ∨ 2000 < z then (1, 0, (bs, ru, se, pf, hd, ca, evs, ln)) else (0, hd.2.2.2.1, (bs, ru, se, pf, hdP hd z, ca, evs, ln))
def o_tradeAt (bs : List Bn) (ru : Nat → Int × Int) (se : Int) (pf : Nat → Int) (hd : Hd) (ca : Int) (evs : List Evt) (ln : List Int) (z : Int) : Rs := if z < 0 ∨ hd.2.1 ≤ z then (1, 0, (bs, ru, se, pf, hd, ca, evs, ln)) else (0, hd.1 z.toNat, (bs, ru, se, pf, hd, ca, evs, ln))
def o_eventKind (bs : List Bn) (ru : Nat → Int × Int) (se : Int) (pf : Nat → Int) (hd : Hd) (ca : Int) (evs : List Evt) (ln : List Int) (z : Int) : Rs := if z < 0 ∨ (evs.length : Int) ≤ z then (1, 0, (bs, ru, se, pf, hd, ca, evs, ln)) else (0, (evs.getD z.toNat (0, 0, 0, 0, 0, 0, 0)).1, (bs, ru, se, pf, hd, ca, evs, ln))
def o_lineAt (bs : List Bn) (ru : Nat → Int × Int) (se : Int) (pf : Nat → Int) (hd : Hd) (ca : Int) (evs : List Evt) (ln : List Int) (z : Int) : Rs := if z < 0 ∨ (ln.length : Int) ≤ z then (1, 0, (bs, ru, se, pf, hd, ca, evs, ln)) else (0, ln.getD z.toNat 0, (bs, ru, se, pf, hd, ca, evs, ln))
theorem b01_1 {p : Prop} [Decidable p] (h : p) : b01 (decide p) = 1 := by rw [decide_eq_true h]; rfl
theorem isW_r (w : Int) (l : List Ly) : -2147483648 ≤ isW w l ∧ isW w l < 2147483648 := by unfold isW; split <;> omega
theorem isW_T {w : Int} {l : List Ly} (h : isW w l ≠ 0) : ¬ sumL (wetF w) l = 0 := fun c => h (if_pos c)
theorem isW_F {w : Int} {l : List Ly} (h : isW w l = 0) : sumL (wetF w) l = 0 := by
  by_cases c : sumL (wetF w) l = 0
  · exact c
  · unfold isW at h; rw [if_neg c] at h; exact absurd h (by decide)
set_option maxHeartbeats 4000000 in
set_option maxRecDepth 20000 in
theorem c_nb1 (l : Launch) (hfl : l.stackTraces = false) (D : va_G) (cy : Nat → Nat) (σ : Wd) (am : Nat → Nat) (bs : List Bn) (ru : Nat → Int × Int) (se : Int) (pf : Nat → Int) (hd : Hd) (ca : Int) (evs : List Evt) (ln : List Int) (bl : Int × Int × Int) (th : Int) (hM : RM cy σ am bs ru se pf hd ca evs ln bl th) (b : Int) (hb9 : (-2147483648 ≤ b ∧ b < 2147483648)) (h : b < 0 ∨ (bs.length : Int) ≤ b) : Ct l yX7_isNoBin cX7_isNoBin 2 (some .boolean) 1 0 0 D cy [.ref (am 0), vi (b)] σ (fun v σ' => v = some (vi 1) ∧ RM cy σ' am bs ru se pf hd ca evs ln bl 1 ∧ Keep σ σ' (inM am) ∧ σ'.1 = σ.1) noX := by
  refine ct_start (by decide +kernel) hfl rfl (fun κ e1 e2 e3 C E NH => ?_)
  subst e1 e2 e3
  have C : Cx κ cX7_isNoBin 2 RX7 "isNoBin" 1 := C
  obtain ⟨-, -, -, -, hc, hs⟩ := id E
  show J κ σ [(0, .ref (am 0)), (1, vi (b))] 0 [] 0 0
  obtain ⟨hI1, gc1, gm1, gr1, gp1, gb1, go1, gf1, gg1, gt1, gz1, gk1, gl1, _, _, _, h01, ⟨hgc1, hgm1, hgr1, hgp1, hgb1, hgo1, hgf1, hgg1, hgt1, hgz1, hgk1, hgl1⟩, ⟨rfl, rfl, rfl⟩, hBn1, hRu1, hPr1, hTr1, hKi1, hLi1⟩ := id hM
  have hI := hI1
  have hnb61 := hBn1.1
  have kp0 : Keep σ σ (inM am) := Keep.rf
  have dm0 : σ.1 = σ.1 := rfl
  refine j_aload_n 0 C dX7_isNoBin_0 rfl rfl rfl ?_
  refine j_iload_n 1 C dX7_isNoBin_1 rfl rfl rfl ?_
  refine j_iconst C dX7_isNoBin_2 rfl ?_
  refine j_aload_n 0 C dX7_isNoBin_3 rfl rfl rfl ?_
  refine j_get C dX7_isNoBin_4 rfl fg_X7_55 h01 rfl ?_
  refine j_iconst C dX7_isNoBin_7 rfl ?_
  refine j_isub C dX7_isNoBin_8 rfl ?_
  refine j_callS (st' := [.ref (am 0)]) (As := [vi (b), vi (0), vi ((bs.length : Int) - 1)]) C dX7_isNoBin_9 rfl m_X7_58 rfl rfl (c_isIn (kL κ) hfl (kD κ) (kc κ) σ b 0 ((bs.length : Int) - 1) ⟨by omega, by omega⟩ ⟨by omega, by omega⟩ ⟨by omega, by omega⟩) rfl (by omega) (by omega) (by omega) (fun _ _ hx => hx.elim) (fun v3 τ2 hp4 => ?_)
  obtain ⟨rfl, hs9⟩ := hp4
  replace hs9 := hs9.symm
  subst hs9
  show J κ σ [(0, .ref (am 0)), (1, vi (b))] 12 [vi ((inI b 0 ((bs.length : Int) - 1))), .ref (am 0)] _ _
  refine j_if_ne (tgt := 19) C dX7_isNoBin_12 rfl rfl (inI_r _ _ _) (fun cc5 => ?_) (fun cc5 => ?_)
  · replace cc5 := inI_T cc5
    refine j_iconst C dX7_isNoBin_19 rfl ?_
    refine j_iconst C dX7_isNoBin_20 rfl ?_
    refine j_callV (st' := []) (As := [vi (0), vi (1)]) C dX7_isNoBin_21 rfl m_X7_62 h01 rfl rfl rfl (c_thr0 (kL κ) hfl (kD κ) (kc κ) σ am bs ru se pf hd ca evs ln bl th hM 1) rfl (by omega) (by omega) (by omega) (fun _ _ hx => hx.elim) (fun v7 τ6 hp8 => ?_)
    obtain ⟨rfl, hN9, hN9k, hN9d⟩ := hp8
    show J κ τ6 [(0, .ref (am 0)), (1, vi (b))] 24 [vi (0)] _ _
    have hN9K := kp0.tr hN9k
    have hN9D := hN9d.trans dm0
    obtain ⟨hI10, gc10, gm10, gr10, gp10, gb10, go10, gf10, gg10, gt10, gz10, gk10, gl10, _, _, _, h010, ⟨hgc10, hgm10, hgr10, hgp10, hgb10, hgo10, hgf10, hgg10, hgt10, hgz10, hgk10, hgl10⟩, ⟨rfl, rfl, rfl⟩, hBn10, hRu10, hPr10, hTr10, hKi10, hLi10⟩ := id hN9
    have hI := hI10
    have hnb610 := hBn10.1
    exfalso
    omega
  · replace cc5 := inI_F cc5
    refine j_iconst C dX7_isNoBin_15 rfl ?_
    refine j_goto (tgt := 20) C dX7_isNoBin_16 rfl ?_
    refine j_iconst C dX7_isNoBin_20 rfl ?_
    refine j_callV (st' := []) (As := [vi (1), vi (1)]) C dX7_isNoBin_21 rfl m_X7_62 h01 rfl rfl rfl (c_thr1 (kL κ) hfl (kD κ) (kc κ) σ am bs ru se pf hd ca evs ln bl th hM 1) rfl (by omega) (by omega) (by omega) (fun _ _ hx => hx.elim) (fun v12 τ11 hp13 => ?_)
    obtain ⟨rfl, hN14, hN14k, hN14d⟩ := hp13
    show J κ τ11 [(0, .ref (am 0)), (1, vi (b))] 24 [vi (1)] _ _
    have hN14K := kp0.tr hN14k
    have hN14D := hN14d.trans dm0
    obtain ⟨hI15, gc15, gm15, gr15, gp15, gb15, go15, gf15, gg15, gt15, gz15, gk15, gl15, _, _, _, h015, ⟨hgc15, hgm15, hgr15, hgp15, hgb15, hgo15, hgf15, hgg15, hgt15, hgz15, hgk15, hgl15⟩, ⟨rfl, rfl, rfl⟩, hBn15, hRu15, hPr15, hTr15, hKi15, hLi15⟩ := id hN14
    have hI := hI15
    have hnb615 := hBn15.1
    exact j_zret C E dX7_isNoBin_24 rfl (by omega) (by omega) ⟨rfl, hN14, hN14K, hN14D⟩
set_option maxHeartbeats 4000000 in
set_option maxRecDepth 20000 in
theorem c_nb0 (l : Launch) (hfl : l.stackTraces = false) (D : va_G) (cy : Nat → Nat) (σ : Wd) (am : Nat → Nat) (bs : List Bn) (ru : Nat → Int × Int) (se : Int) (pf : Nat → Int) (hd : Hd) (ca : Int) (evs : List Evt) (ln : List Int) (bl : Int × Int × Int) (th : Int) (hM : RM cy σ am bs ru se pf hd ca evs ln bl th) (i : Nat) (hi : i < bs.length) : Ct l yX7_isNoBin cX7_isNoBin 2 (some .boolean) 1 0 0 D cy [.ref (am 0), vi ((i : Int))] σ (fun v σ' => v = some (vi 0) ∧ RM cy σ' am bs ru se pf hd ca evs ln bl 0 ∧ Keep σ σ' (inM am) ∧ σ'.1 = σ.1) noX := by
  refine ct_start (by decide +kernel) hfl rfl (fun κ e1 e2 e3 C E NH => ?_)
  subst e1 e2 e3
  have C : Cx κ cX7_isNoBin 2 RX7 "isNoBin" 1 := C
  obtain ⟨-, -, -, -, hc, hs⟩ := id E
  show J κ σ [(0, .ref (am 0)), (1, vi ((i : Int)))] 0 [] 0 0
  obtain ⟨hI1, gc1, gm1, gr1, gp1, gb1, go1, gf1, gg1, gt1, gz1, gk1, gl1, _, _, _, h01, ⟨hgc1, hgm1, hgr1, hgp1, hgb1, hgo1, hgf1, hgg1, hgt1, hgz1, hgk1, hgl1⟩, ⟨rfl, rfl, rfl⟩, hBn1, hRu1, hPr1, hTr1, hKi1, hLi1⟩ := id hM
  have hI := hI1
  have hnb61 := hBn1.1
  have kp0 : Keep σ σ (inM am) := Keep.rf
  have dm0 : σ.1 = σ.1 := rfl
  refine j_aload_n 0 C dX7_isNoBin_0 rfl rfl rfl ?_
  refine j_iload_n 1 C dX7_isNoBin_1 rfl rfl rfl ?_
  refine j_iconst C dX7_isNoBin_2 rfl ?_
  refine j_aload_n 0 C dX7_isNoBin_3 rfl rfl rfl ?_
  refine j_get C dX7_isNoBin_4 rfl fg_X7_55 h01 rfl ?_
  refine j_iconst C dX7_isNoBin_7 rfl ?_
  refine j_isub C dX7_isNoBin_8 rfl ?_
  refine j_callS (st' := [.ref (am 0)]) (As := [vi ((i : Int)), vi (0), vi ((bs.length : Int) - 1)]) C dX7_isNoBin_9 rfl m_X7_58 rfl rfl (c_isIn (kL κ) hfl (kD κ) (kc κ) σ (i : Int) 0 ((bs.length : Int) - 1) ⟨by omega, by omega⟩ ⟨by omega, by omega⟩ ⟨by omega, by omega⟩) rfl (by omega) (by omega) (by omega) (fun _ _ hx => hx.elim) (fun v3 τ2 hp4 => ?_)
  obtain ⟨rfl, hs9⟩ := hp4
  replace hs9 := hs9.symm
  subst hs9
  show J κ σ [(0, .ref (am 0)), (1, vi ((i : Int)))] 12 [vi ((inI (i : Int) 0 ((bs.length : Int) - 1))), .ref (am 0)] _ _
  refine j_if_ne (tgt := 19) C dX7_isNoBin_12 rfl rfl (inI_r _ _ _) (fun cc5 => ?_) (fun cc5 => ?_)
  · replace cc5 := inI_T cc5
    refine j_iconst C dX7_isNoBin_19 rfl ?_
    refine j_iconst C dX7_isNoBin_20 rfl ?_
    refine j_callV (st' := []) (As := [vi (0), vi (1)]) C dX7_isNoBin_21 rfl m_X7_62 h01 rfl rfl rfl (c_thr0 (kL κ) hfl (kD κ) (kc κ) σ am bs ru se pf hd ca evs ln bl th hM 1) rfl (by omega) (by omega) (by omega) (fun _ _ hx => hx.elim) (fun v7 τ6 hp8 => ?_)
    obtain ⟨rfl, hN9, hN9k, hN9d⟩ := hp8
    show J κ τ6 [(0, .ref (am 0)), (1, vi ((i : Int)))] 24 [vi (0)] _ _
    have hN9K := kp0.tr hN9k
    have hN9D := hN9d.trans dm0
    obtain ⟨hI10, gc10, gm10, gr10, gp10, gb10, go10, gf10, gg10, gt10, gz10, gk10, gl10, _, _, _, h010, ⟨hgc10, hgm10, hgr10, hgp10, hgb10, hgo10, hgf10, hgg10, hgt10, hgz10, hgk10, hgl10⟩, ⟨rfl, rfl, rfl⟩, hBn10, hRu10, hPr10, hTr10, hKi10, hLi10⟩ := id hN9
    have hI := hI10
    have hnb610 := hBn10.1
    exact j_zret C E dX7_isNoBin_24 rfl (by omega) (by omega) ⟨rfl, hN9, hN9K, hN9D⟩
  · replace cc5 := inI_F cc5
    refine j_iconst C dX7_isNoBin_15 rfl ?_
    refine j_goto (tgt := 20) C dX7_isNoBin_16 rfl ?_
    refine j_iconst C dX7_isNoBin_20 rfl ?_
    refine j_callV (st' := []) (As := [vi (1), vi (1)]) C dX7_isNoBin_21 rfl m_X7_62 h01 rfl rfl rfl (c_thr1 (kL κ) hfl (kD κ) (kc κ) σ am bs ru se pf hd ca evs ln bl th hM 1) rfl (by omega) (by omega) (by omega) (fun _ _ hx => hx.elim) (fun v12 τ11 hp13 => ?_)
    obtain ⟨rfl, hN14, hN14k, hN14d⟩ := hp13
    show J κ τ11 [(0, .ref (am 0)), (1, vi ((i : Int)))] 24 [vi (1)] _ _
    have hN14K := kp0.tr hN14k
    have hN14D := hN14d.trans dm0
    obtain ⟨hI15, gc15, gm15, gr15, gp15, gb15, go15, gf15, gg15, gt15, gz15, gk15, gl15, _, _, _, h015, ⟨hgc15, hgm15, hgr15, hgp15, hgb15, hgo15, hgf15, hgg15, hgt15, hgz15, hgk15, hgl15⟩, ⟨rfl, rfl, rfl⟩, hBn15, hRu15, hPr15, hTr15, hKi15, hLi15⟩ := id hN14
    have hI := hI15
    have hnb615 := hBn15.1
    exfalso
    omega
set_option maxHeartbeats 4000000 in
set_option maxRecDepth 20000 in
theorem c_np1 (l : Launch) (hfl : l.stackTraces = false) (D : va_G) (cy : Nat → Nat) (σ : Wd) (am : Nat → Nat) (bs : List Bn) (ru : Nat → Int × Int) (se : Int) (pf : Nat → Int) (hd : Hd) (ca : Int) (evs : List Evt) (ln : List Int) (bl : Int × Int × Int) (th : Int) (hM : RM cy σ am bs ru se pf hd ca evs ln bl th) (a b : Int) (ha9 : (-2147483648 ≤ a ∧ a < 2147483648)) (hb9 : (-2147483648 ≤ b ∧ b < 2147483648)) (h : a < 0 ∨ (bs.length : Int) ≤ a ∨ b < 0 ∨ (bs.length : Int) ≤ b) : Ct l yX7_isNoPair cX7_isNoPair 3 (some .boolean) 1 0 0 D cy [.ref (am 0), vi (a), vi (b)] σ (fun v σ' => v = some (vi 1) ∧ RM cy σ' am bs ru se pf hd ca evs ln bl 1 ∧ Keep σ σ' (inM am) ∧ σ'.1 = σ.1) noX := by
  refine ct_start (by decide +kernel) hfl rfl (fun κ e1 e2 e3 C E NH => ?_)
  subst e1 e2 e3
  have C : Cx κ cX7_isNoPair 3 RX7 "isNoPair" 1 := C
  obtain ⟨-, -, -, -, hc, hs⟩ := id E
  show J κ σ [(0, .ref (am 0)), (1, vi (a)), (2, vi (b))] 0 [] 0 0
  obtain ⟨hI1, gc1, gm1, gr1, gp1, gb1, go1, gf1, gg1, gt1, gz1, gk1, gl1, _, _, _, h01, ⟨hgc1, hgm1, hgr1, hgp1, hgb1, hgo1, hgf1, hgg1, hgt1, hgz1, hgk1, hgl1⟩, ⟨rfl, rfl, rfl⟩, hBn1, hRu1, hPr1, hTr1, hKi1, hLi1⟩ := id hM
  have hI := hI1
  have hnb61 := hBn1.1
  have kp0 : Keep σ σ (inM am) := Keep.rf
  have dm0 : σ.1 = σ.1 := rfl
  refine j_aload_n 0 C dX7_isNoPair_0 rfl rfl rfl ?_
  refine j_iload_n 1 C dX7_isNoPair_1 rfl rfl rfl ?_
  refine j_iconst C dX7_isNoPair_2 rfl ?_
  refine j_aload_n 0 C dX7_isNoPair_3 rfl rfl rfl ?_
  refine j_get C dX7_isNoPair_4 rfl fg_X7_55 h01 rfl ?_
  refine j_iconst C dX7_isNoPair_7 rfl ?_
  refine j_isub C dX7_isNoPair_8 rfl ?_
  refine j_callS (st' := [.ref (am 0)]) (As := [vi (a), vi (0), vi ((bs.length : Int) - 1)]) C dX7_isNoPair_9 rfl m_X7_58 rfl rfl (c_isIn (kL κ) hfl (kD κ) (kc κ) σ a 0 ((bs.length : Int) - 1) ⟨by omega, by omega⟩ ⟨by omega, by omega⟩ ⟨by omega, by omega⟩) rfl (by omega) (by omega) (by omega) (fun _ _ hx => hx.elim) (fun v3 τ2 hp4 => ?_)
  obtain ⟨rfl, hs9⟩ := hp4
  replace hs9 := hs9.symm
  subst hs9
  show J κ σ [(0, .ref (am 0)), (1, vi (a)), (2, vi (b))] 12 [vi ((inI a 0 ((bs.length : Int) - 1))), .ref (am 0)] _ _
  refine j_if_eq (tgt := 29) C dX7_isNoPair_12 rfl rfl (inI_r _ _ _) (fun cc5 => ?_) (fun cc5 => ?_)
  · replace cc5 := inI_F cc5
    refine j_iconst C dX7_isNoPair_29 rfl ?_
    refine j_goto (tgt := 34) C dX7_isNoPair_30 rfl ?_
    refine j_iconst C dX7_isNoPair_34 rfl ?_
    refine j_callV (st' := []) (As := [vi (1), vi (1)]) C dX7_isNoPair_35 rfl m_X7_62 h01 rfl rfl rfl (c_thr1 (kL κ) hfl (kD κ) (kc κ) σ am bs ru se pf hd ca evs ln bl th hM 1) rfl (by omega) (by omega) (by omega) (fun _ _ hx => hx.elim) (fun v7 τ6 hp8 => ?_)
    obtain ⟨rfl, hN9, hN9k, hN9d⟩ := hp8
    show J κ τ6 [(0, .ref (am 0)), (1, vi (a)), (2, vi (b))] 38 [vi (1)] _ _
    have hN9K := kp0.tr hN9k
    have hN9D := hN9d.trans dm0
    obtain ⟨hI10, gc10, gm10, gr10, gp10, gb10, go10, gf10, gg10, gt10, gz10, gk10, gl10, _, _, _, h010, ⟨hgc10, hgm10, hgr10, hgp10, hgb10, hgo10, hgf10, hgg10, hgt10, hgz10, hgk10, hgl10⟩, ⟨rfl, rfl, rfl⟩, hBn10, hRu10, hPr10, hTr10, hKi10, hLi10⟩ := id hN9
    have hI := hI10
    have hnb610 := hBn10.1
    exact j_zret C E dX7_isNoPair_38 rfl (by omega) (by omega) ⟨rfl, hN9, hN9K, hN9D⟩
  · replace cc5 := inI_T cc5
    refine j_iload_n 2 C dX7_isNoPair_15 rfl rfl rfl ?_
    refine j_iconst C dX7_isNoPair_16 rfl ?_
    refine j_aload_n 0 C dX7_isNoPair_17 rfl rfl rfl ?_
    refine j_get C dX7_isNoPair_18 rfl fg_X7_55 h01 rfl ?_
    refine j_iconst C dX7_isNoPair_21 rfl ?_
    refine j_isub C dX7_isNoPair_22 rfl ?_
    refine j_callS (st' := [.ref (am 0)]) (As := [vi (b), vi (0), vi ((bs.length : Int) - 1)]) C dX7_isNoPair_23 rfl m_X7_58 rfl rfl (c_isIn (kL κ) hfl (kD κ) (kc κ) σ b 0 ((bs.length : Int) - 1) ⟨by omega, by omega⟩ ⟨by omega, by omega⟩ ⟨by omega, by omega⟩) rfl (by omega) (by omega) (by omega) (fun _ _ hx => hx.elim) (fun v12 τ11 hp13 => ?_)
    obtain ⟨rfl, hs9⟩ := hp13
    replace hs9 := hs9.symm
    subst hs9
    show J κ σ [(0, .ref (am 0)), (1, vi (a)), (2, vi (b))] 26 [vi ((inI b 0 ((bs.length : Int) - 1))), .ref (am 0)] _ _
    refine j_if_ne (tgt := 33) C dX7_isNoPair_26 rfl rfl (inI_r _ _ _) (fun cc14 => ?_) (fun cc14 => ?_)
    · replace cc14 := inI_T cc14
      refine j_iconst C dX7_isNoPair_33 rfl ?_
      refine j_iconst C dX7_isNoPair_34 rfl ?_
      refine j_callV (st' := []) (As := [vi (0), vi (1)]) C dX7_isNoPair_35 rfl m_X7_62 h01 rfl rfl rfl (c_thr0 (kL κ) hfl (kD κ) (kc κ) σ am bs ru se pf hd ca evs ln bl th hM 1) rfl (by omega) (by omega) (by omega) (fun _ _ hx => hx.elim) (fun v16 τ15 hp17 => ?_)
      obtain ⟨rfl, hN18, hN18k, hN18d⟩ := hp17
      show J κ τ15 [(0, .ref (am 0)), (1, vi (a)), (2, vi (b))] 38 [vi (0)] _ _
      have hN18K := kp0.tr hN18k
      have hN18D := hN18d.trans dm0
      obtain ⟨hI19, gc19, gm19, gr19, gp19, gb19, go19, gf19, gg19, gt19, gz19, gk19, gl19, _, _, _, h019, ⟨hgc19, hgm19, hgr19, hgp19, hgb19, hgo19, hgf19, hgg19, hgt19, hgz19, hgk19, hgl19⟩, ⟨rfl, rfl, rfl⟩, hBn19, hRu19, hPr19, hTr19, hKi19, hLi19⟩ := id hN18
      have hI := hI19
      have hnb619 := hBn19.1
      exfalso
      omega
    · replace cc14 := inI_F cc14
      refine j_iconst C dX7_isNoPair_29 rfl ?_
      refine j_goto (tgt := 34) C dX7_isNoPair_30 rfl ?_
      refine j_iconst C dX7_isNoPair_34 rfl ?_
      refine j_callV (st' := []) (As := [vi (1), vi (1)]) C dX7_isNoPair_35 rfl m_X7_62 h01 rfl rfl rfl (c_thr1 (kL κ) hfl (kD κ) (kc κ) σ am bs ru se pf hd ca evs ln bl th hM 1) rfl (by omega) (by omega) (by omega) (fun _ _ hx => hx.elim) (fun v21 τ20 hp22 => ?_)
      obtain ⟨rfl, hN23, hN23k, hN23d⟩ := hp22
      show J κ τ20 [(0, .ref (am 0)), (1, vi (a)), (2, vi (b))] 38 [vi (1)] _ _
      have hN23K := kp0.tr hN23k
      have hN23D := hN23d.trans dm0
      obtain ⟨hI24, gc24, gm24, gr24, gp24, gb24, go24, gf24, gg24, gt24, gz24, gk24, gl24, _, _, _, h024, ⟨hgc24, hgm24, hgr24, hgp24, hgb24, hgo24, hgf24, hgg24, hgt24, hgz24, hgk24, hgl24⟩, ⟨rfl, rfl, rfl⟩, hBn24, hRu24, hPr24, hTr24, hKi24, hLi24⟩ := id hN23
      have hI := hI24
      have hnb624 := hBn24.1
      exact j_zret C E dX7_isNoPair_38 rfl (by omega) (by omega) ⟨rfl, hN23, hN23K, hN23D⟩
set_option maxHeartbeats 4000000 in
set_option maxRecDepth 20000 in
theorem c_np0 (l : Launch) (hfl : l.stackTraces = false) (D : va_G) (cy : Nat → Nat) (σ : Wd) (am : Nat → Nat) (bs : List Bn) (ru : Nat → Int × Int) (se : Int) (pf : Nat → Int) (hd : Hd) (ca : Int) (evs : List Evt) (ln : List Int) (bl : Int × Int × Int) (th : Int) (hM : RM cy σ am bs ru se pf hd ca evs ln bl th) (i j : Nat) (hi : i < bs.length) (hj : j < bs.length) : Ct l yX7_isNoPair cX7_isNoPair 3 (some .boolean) 1 0 0 D cy [.ref (am 0), vi ((i : Int)), vi ((j : Int))] σ (fun v σ' => v = some (vi 0) ∧ RM cy σ' am bs ru se pf hd ca evs ln bl 0 ∧ Keep σ σ' (inM am) ∧ σ'.1 = σ.1) noX := by
  refine ct_start (by decide +kernel) hfl rfl (fun κ e1 e2 e3 C E NH => ?_)
  subst e1 e2 e3
  have C : Cx κ cX7_isNoPair 3 RX7 "isNoPair" 1 := C
  obtain ⟨-, -, -, -, hc, hs⟩ := id E
  show J κ σ [(0, .ref (am 0)), (1, vi ((i : Int))), (2, vi ((j : Int)))] 0 [] 0 0
  obtain ⟨hI1, gc1, gm1, gr1, gp1, gb1, go1, gf1, gg1, gt1, gz1, gk1, gl1, _, _, _, h01, ⟨hgc1, hgm1, hgr1, hgp1, hgb1, hgo1, hgf1, hgg1, hgt1, hgz1, hgk1, hgl1⟩, ⟨rfl, rfl, rfl⟩, hBn1, hRu1, hPr1, hTr1, hKi1, hLi1⟩ := id hM
  have hI := hI1
  have hnb61 := hBn1.1
  have kp0 : Keep σ σ (inM am) := Keep.rf
  have dm0 : σ.1 = σ.1 := rfl
  refine j_aload_n 0 C dX7_isNoPair_0 rfl rfl rfl ?_
  refine j_iload_n 1 C dX7_isNoPair_1 rfl rfl rfl ?_
  refine j_iconst C dX7_isNoPair_2 rfl ?_
  refine j_aload_n 0 C dX7_isNoPair_3 rfl rfl rfl ?_
  refine j_get C dX7_isNoPair_4 rfl fg_X7_55 h01 rfl ?_
  refine j_iconst C dX7_isNoPair_7 rfl ?_
  refine j_isub C dX7_isNoPair_8 rfl ?_
  refine j_callS (st' := [.ref (am 0)]) (As := [vi ((i : Int)), vi (0), vi ((bs.length : Int) - 1)]) C dX7_isNoPair_9 rfl m_X7_58 rfl rfl (c_isIn (kL κ) hfl (kD κ) (kc κ) σ (i : Int) 0 ((bs.length : Int) - 1) ⟨by omega, by omega⟩ ⟨by omega, by omega⟩ ⟨by omega, by omega⟩) rfl (by omega) (by omega) (by omega) (fun _ _ hx => hx.elim) (fun v3 τ2 hp4 => ?_)
  obtain ⟨rfl, hs9⟩ := hp4
  replace hs9 := hs9.symm
  subst hs9
  show J κ σ [(0, .ref (am 0)), (1, vi ((i : Int))), (2, vi ((j : Int)))] 12 [vi ((inI (i : Int) 0 ((bs.length : Int) - 1))), .ref (am 0)] _ _
  refine j_if_eq (tgt := 29) C dX7_isNoPair_12 rfl rfl (inI_r _ _ _) (fun cc5 => ?_) (fun cc5 => ?_)
  · replace cc5 := inI_F cc5
    refine j_iconst C dX7_isNoPair_29 rfl ?_
    refine j_goto (tgt := 34) C dX7_isNoPair_30 rfl ?_
    refine j_iconst C dX7_isNoPair_34 rfl ?_
    refine j_callV (st' := []) (As := [vi (1), vi (1)]) C dX7_isNoPair_35 rfl m_X7_62 h01 rfl rfl rfl (c_thr1 (kL κ) hfl (kD κ) (kc κ) σ am bs ru se pf hd ca evs ln bl th hM 1) rfl (by omega) (by omega) (by omega) (fun _ _ hx => hx.elim) (fun v7 τ6 hp8 => ?_)
    obtain ⟨rfl, hN9, hN9k, hN9d⟩ := hp8
    show J κ τ6 [(0, .ref (am 0)), (1, vi ((i : Int))), (2, vi ((j : Int)))] 38 [vi (1)] _ _
    have hN9K := kp0.tr hN9k
    have hN9D := hN9d.trans dm0
    obtain ⟨hI10, gc10, gm10, gr10, gp10, gb10, go10, gf10, gg10, gt10, gz10, gk10, gl10, _, _, _, h010, ⟨hgc10, hgm10, hgr10, hgp10, hgb10, hgo10, hgf10, hgg10, hgt10, hgz10, hgk10, hgl10⟩, ⟨rfl, rfl, rfl⟩, hBn10, hRu10, hPr10, hTr10, hKi10, hLi10⟩ := id hN9
    have hI := hI10
    have hnb610 := hBn10.1
    exfalso
    omega
  · replace cc5 := inI_T cc5
    refine j_iload_n 2 C dX7_isNoPair_15 rfl rfl rfl ?_
    refine j_iconst C dX7_isNoPair_16 rfl ?_
    refine j_aload_n 0 C dX7_isNoPair_17 rfl rfl rfl ?_
    refine j_get C dX7_isNoPair_18 rfl fg_X7_55 h01 rfl ?_
    refine j_iconst C dX7_isNoPair_21 rfl ?_
    refine j_isub C dX7_isNoPair_22 rfl ?_
    refine j_callS (st' := [.ref (am 0)]) (As := [vi ((j : Int)), vi (0), vi ((bs.length : Int) - 1)]) C dX7_isNoPair_23 rfl m_X7_58 rfl rfl (c_isIn (kL κ) hfl (kD κ) (kc κ) σ (j : Int) 0 ((bs.length : Int) - 1) ⟨by omega, by omega⟩ ⟨by omega, by omega⟩ ⟨by omega, by omega⟩) rfl (by omega) (by omega) (by omega) (fun _ _ hx => hx.elim) (fun v12 τ11 hp13 => ?_)
    obtain ⟨rfl, hs9⟩ := hp13
    replace hs9 := hs9.symm
    subst hs9
    show J κ σ [(0, .ref (am 0)), (1, vi ((i : Int))), (2, vi ((j : Int)))] 26 [vi ((inI (j : Int) 0 ((bs.length : Int) - 1))), .ref (am 0)] _ _
    refine j_if_ne (tgt := 33) C dX7_isNoPair_26 rfl rfl (inI_r _ _ _) (fun cc14 => ?_) (fun cc14 => ?_)
    · replace cc14 := inI_T cc14
      refine j_iconst C dX7_isNoPair_33 rfl ?_
      refine j_iconst C dX7_isNoPair_34 rfl ?_
      refine j_callV (st' := []) (As := [vi (0), vi (1)]) C dX7_isNoPair_35 rfl m_X7_62 h01 rfl rfl rfl (c_thr0 (kL κ) hfl (kD κ) (kc κ) σ am bs ru se pf hd ca evs ln bl th hM 1) rfl (by omega) (by omega) (by omega) (fun _ _ hx => hx.elim) (fun v16 τ15 hp17 => ?_)
      obtain ⟨rfl, hN18, hN18k, hN18d⟩ := hp17
      show J κ τ15 [(0, .ref (am 0)), (1, vi ((i : Int))), (2, vi ((j : Int)))] 38 [vi (0)] _ _
      have hN18K := kp0.tr hN18k
      have hN18D := hN18d.trans dm0
      obtain ⟨hI19, gc19, gm19, gr19, gp19, gb19, go19, gf19, gg19, gt19, gz19, gk19, gl19, _, _, _, h019, ⟨hgc19, hgm19, hgr19, hgp19, hgb19, hgo19, hgf19, hgg19, hgt19, hgz19, hgk19, hgl19⟩, ⟨rfl, rfl, rfl⟩, hBn19, hRu19, hPr19, hTr19, hKi19, hLi19⟩ := id hN18
      have hI := hI19
      have hnb619 := hBn19.1
      exact j_zret C E dX7_isNoPair_38 rfl (by omega) (by omega) ⟨rfl, hN18, hN18K, hN18D⟩
    · replace cc14 := inI_F cc14
      refine j_iconst C dX7_isNoPair_29 rfl ?_
      refine j_goto (tgt := 34) C dX7_isNoPair_30 rfl ?_
      refine j_iconst C dX7_isNoPair_34 rfl ?_
      refine j_callV (st' := []) (As := [vi (1), vi (1)]) C dX7_isNoPair_35 rfl m_X7_62 h01 rfl rfl rfl (c_thr1 (kL κ) hfl (kD κ) (kc κ) σ am bs ru se pf hd ca evs ln bl th hM 1) rfl (by omega) (by omega) (by omega) (fun _ _ hx => hx.elim) (fun v21 τ20 hp22 => ?_)
      obtain ⟨rfl, hN23, hN23k, hN23d⟩ := hp22
      show J κ τ20 [(0, .ref (am 0)), (1, vi ((i : Int))), (2, vi ((j : Int)))] 38 [vi (1)] _ _
      have hN23K := kp0.tr hN23k
      have hN23D := hN23d.trans dm0
      obtain ⟨hI24, gc24, gm24, gr24, gp24, gb24, go24, gf24, gg24, gt24, gz24, gk24, gl24, _, _, _, h024, ⟨hgc24, hgm24, hgr24, hgp24, hgb24, hgo24, hgf24, hgg24, hgt24, hgz24, hgk24, hgl24⟩, ⟨rfl, rfl, rfl⟩, hBn24, hRu24, hPr24, hTr24, hKi24, hLi24⟩ := id hN23
      have hI := hI24
      have hnb624 := hBn24.1
      exfalso
      omega
set_option maxHeartbeats 4000000 in
set_option maxRecDepth 20000 in
theorem c_nl1 (l : Launch) (hfl : l.stackTraces = false) (D : va_G) (cy : Nat → Nat) (σ : Wd) (am : Nat → Nat) (bs : List Bn) (ru : Nat → Int × Int) (se : Int) (pf : Nat → Int) (hd : Hd) (ca : Int) (evs : List Evt) (ln : List Int) (bl : Int × Int × Int) (th : Int) (hM : RM cy σ am bs ru se pf hd ca evs ln bl th) (b q : Int) (hb9 : (-2147483648 ≤ b ∧ b < 2147483648)) (hq9 : (-2147483648 ≤ q ∧ q < 2147483648)) (h : b < 0 ∨ (bs.length : Int) ≤ b) : Ct l yX7_isNoLayer cX7_isNoLayer 3 (some .boolean) 2 0 0 D cy [.ref (am 0), vi (b), vi (q)] σ (fun v σ' => v = some (vi 1) ∧ RM cy σ' am bs ru se pf hd ca evs ln bl 1 ∧ Keep σ σ' (inM am) ∧ σ'.1 = σ.1) noX := by
  refine ct_start (by decide +kernel) hfl rfl (fun κ e1 e2 e3 C E NH => ?_)
  subst e1 e2 e3
  have C : Cx κ cX7_isNoLayer 3 RX7 "isNoLayer" 2 := C
  obtain ⟨-, -, -, -, hc, hs⟩ := id E
  show J κ σ [(0, .ref (am 0)), (1, vi (b)), (2, vi (q))] 0 [] 0 0
  obtain ⟨hI1, gc1, gm1, gr1, gp1, gb1, go1, gf1, gg1, gt1, gz1, gk1, gl1, _, _, _, h01, ⟨hgc1, hgm1, hgr1, hgp1, hgb1, hgo1, hgf1, hgg1, hgt1, hgz1, hgk1, hgl1⟩, ⟨rfl, rfl, rfl⟩, hBn1, hRu1, hPr1, hTr1, hKi1, hLi1⟩ := id hM
  have hI := hI1
  have hnb61 := hBn1.1
  have kp0 : Keep σ σ (inM am) := Keep.rf
  have dm0 : σ.1 = σ.1 := rfl
  refine j_aload_n 0 C dX7_isNoLayer_0 rfl rfl rfl ?_
  refine j_iload_n 1 C dX7_isNoLayer_1 rfl rfl rfl ?_
  refine j_callV (st' := []) (As := [vi (b)]) C dX7_isNoLayer_2 rfl m_X7_66 h01 rfl rfl rfl (c_nb1 (kL κ) hfl (kD κ) (kc κ) σ am bs ru se pf hd ca evs ln bl th hM b ⟨by omega, by omega⟩ h) rfl (by omega) (by omega) (by omega) (fun _ _ hx => hx.elim) (fun v3 τ2 hp4 => ?_)
  obtain ⟨rfl, hN5, hN5k, hN5d⟩ := hp4
  show J κ τ2 [(0, .ref (am 0)), (1, vi (b)), (2, vi (q))] 5 [vi (1)] _ _
  have hN5K := kp0.tr hN5k
  have hN5D := hN5d.trans dm0
  obtain ⟨hI6, gc6, gm6, gr6, gp6, gb6, go6, gf6, gg6, gt6, gz6, gk6, gl6, _, _, _, h06, ⟨hgc6, hgm6, hgr6, hgp6, hgb6, hgo6, hgf6, hgg6, hgt6, hgz6, hgk6, hgl6⟩, ⟨rfl, rfl, rfl⟩, hBn6, hRu6, hPr6, hTr6, hKi6, hLi6⟩ := id hN5
  have hI := hI6
  have hnb66 := hBn6.1
  refine j_if_ne (tgt := 37) C dX7_isNoLayer_5 rfl rfl ⟨by omega, by omega⟩ (fun _ => ?_) (fun cc7 => absurd cc7 (by decide))
  refine j_iconst C dX7_isNoLayer_37 rfl ?_
  refine j_goto (tgt := 42) C dX7_isNoLayer_38 rfl ?_
  exact j_zret C E dX7_isNoLayer_42 rfl (by omega) (by omega) ⟨rfl, hN5, hN5K, hN5D⟩
set_option maxHeartbeats 4000000 in
set_option maxRecDepth 20000 in
theorem c_nl2 (l : Launch) (hfl : l.stackTraces = false) (D : va_G) (cy : Nat → Nat) (σ : Wd) (am : Nat → Nat) (bs : List Bn) (ru : Nat → Int × Int) (se : Int) (pf : Nat → Int) (hd : Hd) (ca : Int) (evs : List Evt) (ln : List Int) (bl : Int × Int × Int) (th : Int) (hM : RM cy σ am bs ru se pf hd ca evs ln bl th) (i : Nat) (hi : i < bs.length) (q : Int) (hq9 : (-2147483648 ≤ q ∧ q < 2147483648)) (hq : q < 0 ∨ ((gB bs (i : Int)).2.2.length : Int) ≤ q) : Ct l yX7_isNoLayer cX7_isNoLayer 3 (some .boolean) 2 0 0 D cy [.ref (am 0), vi ((i : Int)), vi (q)] σ (fun v σ' => v = some (vi 1) ∧ RM cy σ' am bs ru se pf hd ca evs ln bl 1 ∧ Keep σ σ' (inM am) ∧ σ'.1 = σ.1) noX := by
  refine ct_start (by decide +kernel) hfl rfl (fun κ e1 e2 e3 C E NH => ?_)
  subst e1 e2 e3
  have C : Cx κ cX7_isNoLayer 3 RX7 "isNoLayer" 2 := C
  obtain ⟨-, -, -, -, hc, hs⟩ := id E
  show J κ σ [(0, .ref (am 0)), (1, vi ((i : Int))), (2, vi (q))] 0 [] 0 0
  obtain ⟨hI1, gc1, gm1, gr1, gp1, gb1, go1, gf1, gg1, gt1, gz1, gk1, gl1, _, _, _, h01, ⟨hgc1, hgm1, hgr1, hgp1, hgb1, hgo1, hgf1, hgg1, hgt1, hgz1, hgk1, hgl1⟩, ⟨rfl, rfl, rfl⟩, hBn1, hRu1, hPr1, hTr1, hKi1, hLi1⟩ := id hM
  have hI := hI1
  have hnb61 := hBn1.1
  have kp0 : Keep σ σ (inM am) := Keep.rf
  have dm0 : σ.1 = σ.1 := rfl
  refine j_aload_n 0 C dX7_isNoLayer_0 rfl rfl rfl ?_
  refine j_iload_n 1 C dX7_isNoLayer_1 rfl rfl rfl ?_
  refine j_callV (st' := []) (As := [vi ((i : Int))]) C dX7_isNoLayer_2 rfl m_X7_66 h01 rfl rfl rfl (c_nb0 (kL κ) hfl (kD κ) (kc κ) σ am bs ru se pf hd ca evs ln bl th hM i hi) rfl (by omega) (by omega) (by omega) (fun _ _ hx => hx.elim) (fun v3 τ2 hp4 => ?_)
  obtain ⟨rfl, hN5, hN5k, hN5d⟩ := hp4
  show J κ τ2 [(0, .ref (am 0)), (1, vi ((i : Int))), (2, vi (q))] 5 [vi (0)] _ _
  have hN5K := kp0.tr hN5k
  have hN5D := hN5d.trans dm0
  obtain ⟨hI6, gc6, gm6, gr6, gp6, gb6, go6, gf6, gg6, gt6, gz6, gk6, gl6, _, _, _, h06, ⟨hgc6, hgm6, hgr6, hgp6, hgb6, hgo6, hgf6, hgg6, hgt6, hgz6, hgk6, hgl6⟩, ⟨rfl, rfl, rfl⟩, hBn6, hRu6, hPr6, hTr6, hKi6, hLi6⟩ := id hN5
  have hI := hI6
  have hnb66 := hBn6.1
  obtain ⟨⟨cap, mf, ly⟩, hg⟩ : ∃ z, gB bs (i : Int) = z := ⟨_, rfl⟩
  have hbk_6 := hBn6.2.2 i hi
  rw [hg] at hbk_6
  obtain ⟨⟨hcp_6, hmz_6⟩, ⟨hmn_6, hl9_6⟩, hrw_6⟩ := hbk_6
  dsimp only at hcp_6 hmz_6 hmn_6 hl9_6 hrw_6
  try rw [hg] at hq
  try dsimp only at hq
  refine j_if_ne (tgt := 37) C dX7_isNoLayer_5 rfl rfl ⟨by omega, by omega⟩ (fun cc7 => absurd cc7 (by decide)) (fun _ => ?_)
  refine j_aload_n 0 C dX7_isNoLayer_8 rfl rfl rfl ?_
  refine j_iload_n 2 C dX7_isNoLayer_9 rfl rfl rfl ?_
  refine j_iconst C dX7_isNoLayer_10 rfl ?_
  refine j_aload_n 0 C dX7_isNoLayer_11 rfl rfl rfl ?_
  refine j_get C dX7_isNoLayer_12 rfl fg_X7_13 h06 rfl ?_
  refine j_iload_n 1 C dX7_isNoLayer_15 rfl rfl rfl ?_
  refine j_iald C dX7_isNoLayer_16 rfl hgm6 ⟨by omega, by omega⟩ (by omega) hmn_6 ?_
  refine j_iconst C dX7_isNoLayer_17 rfl ?_
  refine j_isub C dX7_isNoLayer_18 rfl ?_
  refine j_callS (st' := [.ref (am 0)]) (As := [vi (q), vi (0), vi ((ly.length : Int) - 1)]) C dX7_isNoLayer_19 rfl m_X7_58 rfl rfl (c_isIn (kL κ) hfl (kD κ) (kc κ) τ2 q 0 ((ly.length : Int) - 1) ⟨by omega, by omega⟩ ⟨by omega, by omega⟩ ⟨by omega, by omega⟩) rfl (by omega) (by omega) (by omega) (fun _ _ hx => hx.elim) (fun v9 τ8 hp10 => ?_)
  obtain ⟨rfl, hs9⟩ := hp10
  replace hs9 := hs9.symm
  subst hs9
  show J κ τ2 [(0, .ref (am 0)), (1, vi ((i : Int))), (2, vi (q))] 22 [vi ((inI q 0 ((ly.length : Int) - 1))), .ref (am 0)] _ _
  refine j_if_ne (tgt := 29) C dX7_isNoLayer_22 rfl rfl (inI_r _ _ _) (fun cc11 => ?_) (fun cc11 => ?_)
  · replace cc11 := inI_T cc11
    refine j_iconst C dX7_isNoLayer_29 rfl ?_
    refine j_iconst C dX7_isNoLayer_30 rfl ?_
    refine j_callV (st' := []) (As := [vi (0), vi (1)]) C dX7_isNoLayer_31 rfl m_X7_62 h06 rfl rfl rfl (c_thr0 (kL κ) hfl (kD κ) (kc κ) τ2 am bs ru se pf hd ca evs ln bl 0 hN5 1) rfl (by omega) (by omega) (by omega) (fun _ _ hx => hx.elim) (fun v13 τ12 hp14 => ?_)
    obtain ⟨rfl, hN15, hN15k, hN15d⟩ := hp14
    show J κ τ12 [(0, .ref (am 0)), (1, vi ((i : Int))), (2, vi (q))] 34 [vi (0)] _ _
    have hN15K := hN5K.tr hN15k
    have hN15D := hN15d.trans hN5D
    obtain ⟨hI16, gc16, gm16, gr16, gp16, gb16, go16, gf16, gg16, gt16, gz16, gk16, gl16, _, _, _, h016, ⟨hgc16, hgm16, hgr16, hgp16, hgb16, hgo16, hgf16, hgg16, hgt16, hgz16, hgk16, hgl16⟩, ⟨rfl, rfl, rfl⟩, hBn16, hRu16, hPr16, hTr16, hKi16, hLi16⟩ := id hN15
    have hI := hI16
    have hnb616 := hBn16.1
    refine j_if_eq (tgt := 41) C dX7_isNoLayer_34 rfl rfl ⟨by omega, by omega⟩ (fun _ => ?_) (fun cc17 => absurd cc17 (by decide))
    refine j_iconst C dX7_isNoLayer_41 rfl ?_
    exfalso
    omega
  · replace cc11 := inI_F cc11
    refine j_iconst C dX7_isNoLayer_25 rfl ?_
    refine j_goto (tgt := 30) C dX7_isNoLayer_26 rfl ?_
    refine j_iconst C dX7_isNoLayer_30 rfl ?_
    refine j_callV (st' := []) (As := [vi (1), vi (1)]) C dX7_isNoLayer_31 rfl m_X7_62 h06 rfl rfl rfl (c_thr1 (kL κ) hfl (kD κ) (kc κ) τ2 am bs ru se pf hd ca evs ln bl 0 hN5 1) rfl (by omega) (by omega) (by omega) (fun _ _ hx => hx.elim) (fun v19 τ18 hp20 => ?_)
    obtain ⟨rfl, hN21, hN21k, hN21d⟩ := hp20
    show J κ τ18 [(0, .ref (am 0)), (1, vi ((i : Int))), (2, vi (q))] 34 [vi (1)] _ _
    have hN21K := hN5K.tr hN21k
    have hN21D := hN21d.trans hN5D
    obtain ⟨hI22, gc22, gm22, gr22, gp22, gb22, go22, gf22, gg22, gt22, gz22, gk22, gl22, _, _, _, h022, ⟨hgc22, hgm22, hgr22, hgp22, hgb22, hgo22, hgf22, hgg22, hgt22, hgz22, hgk22, hgl22⟩, ⟨rfl, rfl, rfl⟩, hBn22, hRu22, hPr22, hTr22, hKi22, hLi22⟩ := id hN21
    have hI := hI22
    have hnb622 := hBn22.1
    refine j_if_eq (tgt := 41) C dX7_isNoLayer_34 rfl rfl ⟨by omega, by omega⟩ (fun cc23 => absurd cc23 (by decide)) (fun _ => ?_)
    refine j_iconst C dX7_isNoLayer_37 rfl ?_
    refine j_goto (tgt := 42) C dX7_isNoLayer_38 rfl ?_
    exact j_zret C E dX7_isNoLayer_42 rfl (by omega) (by omega) ⟨rfl, hN21, hN21K, hN21D⟩
set_option maxHeartbeats 4000000 in
set_option maxRecDepth 20000 in
theorem c_nl0 (l : Launch) (hfl : l.stackTraces = false) (D : va_G) (cy : Nat → Nat) (σ : Wd) (am : Nat → Nat) (bs : List Bn) (ru : Nat → Int × Int) (se : Int) (pf : Nat → Int) (hd : Hd) (ca : Int) (evs : List Evt) (ln : List Int) (bl : Int × Int × Int) (th : Int) (hM : RM cy σ am bs ru se pf hd ca evs ln bl th) (i : Nat) (hi : i < bs.length) (q : Int) (hq : 0 ≤ q ∧ q < ((gB bs (i : Int)).2.2.length : Int)) : Ct l yX7_isNoLayer cX7_isNoLayer 3 (some .boolean) 2 0 0 D cy [.ref (am 0), vi ((i : Int)), vi (q)] σ (fun v σ' => v = some (vi 0) ∧ RM cy σ' am bs ru se pf hd ca evs ln bl 0 ∧ Keep σ σ' (inM am) ∧ σ'.1 = σ.1) noX := by
  refine ct_start (by decide +kernel) hfl rfl (fun κ e1 e2 e3 C E NH => ?_)
  subst e1 e2 e3
  have C : Cx κ cX7_isNoLayer 3 RX7 "isNoLayer" 2 := C
  obtain ⟨-, -, -, -, hc, hs⟩ := id E
  show J κ σ [(0, .ref (am 0)), (1, vi ((i : Int))), (2, vi (q))] 0 [] 0 0
  obtain ⟨hI1, gc1, gm1, gr1, gp1, gb1, go1, gf1, gg1, gt1, gz1, gk1, gl1, _, _, _, h01, ⟨hgc1, hgm1, hgr1, hgp1, hgb1, hgo1, hgf1, hgg1, hgt1, hgz1, hgk1, hgl1⟩, ⟨rfl, rfl, rfl⟩, hBn1, hRu1, hPr1, hTr1, hKi1, hLi1⟩ := id hM
  have hI := hI1
  have hnb61 := hBn1.1
  have kp0 : Keep σ σ (inM am) := Keep.rf
  have dm0 : σ.1 = σ.1 := rfl
  refine j_aload_n 0 C dX7_isNoLayer_0 rfl rfl rfl ?_
  refine j_iload_n 1 C dX7_isNoLayer_1 rfl rfl rfl ?_
  refine j_callV (st' := []) (As := [vi ((i : Int))]) C dX7_isNoLayer_2 rfl m_X7_66 h01 rfl rfl rfl (c_nb0 (kL κ) hfl (kD κ) (kc κ) σ am bs ru se pf hd ca evs ln bl th hM i hi) rfl (by omega) (by omega) (by omega) (fun _ _ hx => hx.elim) (fun v3 τ2 hp4 => ?_)
  obtain ⟨rfl, hN5, hN5k, hN5d⟩ := hp4
  show J κ τ2 [(0, .ref (am 0)), (1, vi ((i : Int))), (2, vi (q))] 5 [vi (0)] _ _
  have hN5K := kp0.tr hN5k
  have hN5D := hN5d.trans dm0
  obtain ⟨hI6, gc6, gm6, gr6, gp6, gb6, go6, gf6, gg6, gt6, gz6, gk6, gl6, _, _, _, h06, ⟨hgc6, hgm6, hgr6, hgp6, hgb6, hgo6, hgf6, hgg6, hgt6, hgz6, hgk6, hgl6⟩, ⟨rfl, rfl, rfl⟩, hBn6, hRu6, hPr6, hTr6, hKi6, hLi6⟩ := id hN5
  have hI := hI6
  have hnb66 := hBn6.1
  obtain ⟨⟨cap, mf, ly⟩, hg⟩ : ∃ z, gB bs (i : Int) = z := ⟨_, rfl⟩
  have hbk_6 := hBn6.2.2 i hi
  rw [hg] at hbk_6
  obtain ⟨⟨hcp_6, hmz_6⟩, ⟨hmn_6, hl9_6⟩, hrw_6⟩ := hbk_6
  dsimp only at hcp_6 hmz_6 hmn_6 hl9_6 hrw_6
  try rw [hg] at hq
  try dsimp only at hq
  refine j_if_ne (tgt := 37) C dX7_isNoLayer_5 rfl rfl ⟨by omega, by omega⟩ (fun cc7 => absurd cc7 (by decide)) (fun _ => ?_)
  refine j_aload_n 0 C dX7_isNoLayer_8 rfl rfl rfl ?_
  refine j_iload_n 2 C dX7_isNoLayer_9 rfl rfl rfl ?_
  refine j_iconst C dX7_isNoLayer_10 rfl ?_
  refine j_aload_n 0 C dX7_isNoLayer_11 rfl rfl rfl ?_
  refine j_get C dX7_isNoLayer_12 rfl fg_X7_13 h06 rfl ?_
  refine j_iload_n 1 C dX7_isNoLayer_15 rfl rfl rfl ?_
  refine j_iald C dX7_isNoLayer_16 rfl hgm6 ⟨by omega, by omega⟩ (by omega) hmn_6 ?_
  refine j_iconst C dX7_isNoLayer_17 rfl ?_
  refine j_isub C dX7_isNoLayer_18 rfl ?_
  refine j_callS (st' := [.ref (am 0)]) (As := [vi (q), vi (0), vi ((ly.length : Int) - 1)]) C dX7_isNoLayer_19 rfl m_X7_58 rfl rfl (c_isIn (kL κ) hfl (kD κ) (kc κ) τ2 q 0 ((ly.length : Int) - 1) ⟨by omega, by omega⟩ ⟨by omega, by omega⟩ ⟨by omega, by omega⟩) rfl (by omega) (by omega) (by omega) (fun _ _ hx => hx.elim) (fun v9 τ8 hp10 => ?_)
  obtain ⟨rfl, hs9⟩ := hp10
  replace hs9 := hs9.symm
  subst hs9
  show J κ τ2 [(0, .ref (am 0)), (1, vi ((i : Int))), (2, vi (q))] 22 [vi ((inI q 0 ((ly.length : Int) - 1))), .ref (am 0)] _ _
  refine j_if_ne (tgt := 29) C dX7_isNoLayer_22 rfl rfl (inI_r _ _ _) (fun cc11 => ?_) (fun cc11 => ?_)
  · replace cc11 := inI_T cc11
    refine j_iconst C dX7_isNoLayer_29 rfl ?_
    refine j_iconst C dX7_isNoLayer_30 rfl ?_
    refine j_callV (st' := []) (As := [vi (0), vi (1)]) C dX7_isNoLayer_31 rfl m_X7_62 h06 rfl rfl rfl (c_thr0 (kL κ) hfl (kD κ) (kc κ) τ2 am bs ru se pf hd ca evs ln bl 0 hN5 1) rfl (by omega) (by omega) (by omega) (fun _ _ hx => hx.elim) (fun v13 τ12 hp14 => ?_)
    obtain ⟨rfl, hN15, hN15k, hN15d⟩ := hp14
    show J κ τ12 [(0, .ref (am 0)), (1, vi ((i : Int))), (2, vi (q))] 34 [vi (0)] _ _
    have hN15K := hN5K.tr hN15k
    have hN15D := hN15d.trans hN5D
    obtain ⟨hI16, gc16, gm16, gr16, gp16, gb16, go16, gf16, gg16, gt16, gz16, gk16, gl16, _, _, _, h016, ⟨hgc16, hgm16, hgr16, hgp16, hgb16, hgo16, hgf16, hgg16, hgt16, hgz16, hgk16, hgl16⟩, ⟨rfl, rfl, rfl⟩, hBn16, hRu16, hPr16, hTr16, hKi16, hLi16⟩ := id hN15
    have hI := hI16
    have hnb616 := hBn16.1
    refine j_if_eq (tgt := 41) C dX7_isNoLayer_34 rfl rfl ⟨by omega, by omega⟩ (fun _ => ?_) (fun cc17 => absurd cc17 (by decide))
    refine j_iconst C dX7_isNoLayer_41 rfl ?_
    exact j_zret C E dX7_isNoLayer_42 rfl (by omega) (by omega) ⟨rfl, hN15, hN15K, hN15D⟩
  · replace cc11 := inI_F cc11
    refine j_iconst C dX7_isNoLayer_25 rfl ?_
    refine j_goto (tgt := 30) C dX7_isNoLayer_26 rfl ?_
    refine j_iconst C dX7_isNoLayer_30 rfl ?_
    refine j_callV (st' := []) (As := [vi (1), vi (1)]) C dX7_isNoLayer_31 rfl m_X7_62 h06 rfl rfl rfl (c_thr1 (kL κ) hfl (kD κ) (kc κ) τ2 am bs ru se pf hd ca evs ln bl 0 hN5 1) rfl (by omega) (by omega) (by omega) (fun _ _ hx => hx.elim) (fun v19 τ18 hp20 => ?_)
    obtain ⟨rfl, hN21, hN21k, hN21d⟩ := hp20
    show J κ τ18 [(0, .ref (am 0)), (1, vi ((i : Int))), (2, vi (q))] 34 [vi (1)] _ _
    have hN21K := hN5K.tr hN21k
    have hN21D := hN21d.trans hN5D
    obtain ⟨hI22, gc22, gm22, gr22, gp22, gb22, go22, gf22, gg22, gt22, gz22, gk22, gl22, _, _, _, h022, ⟨hgc22, hgm22, hgr22, hgp22, hgb22, hgo22, hgf22, hgg22, hgt22, hgz22, hgk22, hgl22⟩, ⟨rfl, rfl, rfl⟩, hBn22, hRu22, hPr22, hTr22, hKi22, hLi22⟩ := id hN21
    have hI := hI22
    have hnb622 := hBn22.1
    refine j_if_eq (tgt := 41) C dX7_isNoLayer_34 rfl rfl ⟨by omega, by omega⟩ (fun cc23 => absurd cc23 (by decide)) (fun _ => ?_)
    refine j_iconst C dX7_isNoLayer_37 rfl ?_
    refine j_goto (tgt := 42) C dX7_isNoLayer_38 rfl ?_
    exfalso
    omega
theorem LiM.snoc {ln : List Int} {gl : Nat → Int} (h : LiM ln gl) (hl : ln.length < 1600) {c : Int} (hc : 0 ≤ c ∧ c < 128) {k : Nat} (hk : k = ln.length) : LiM (ln ++ [c]) (ups gl k c) := by
  subst hk
  refine ⟨by rw [List.length_append]; show ln.length + 1 ≤ 1600; omega, fun i hi => ?_⟩
  rw [List.length_append] at hi
  have hi' : i < ln.length + 1 := hi
  rw [List.getD_eq_getElem?_getD]
  by_cases c9 : i = ln.length
  · subst c9
    rw [ups_s, List.getElem?_append_right (Nat.le_refl _), Nat.sub_self]
    exact ⟨rfl, hc⟩
  · rw [ups_n c9, List.getElem?_append_left (by omega), ← List.getD_eq_getElem?_getD]
    exact h.2 i (by omega)
theorem z_nch {x : Int} (hx : 0 ≤ x ∧ x < 128) : vp_nar .char (Int32.ofInt x) = Int32.ofInt x := b7 (P := fun x => vp_nar .char (Int32.ofInt x) = Int32.ofInt x) (by decide) hx
theorem dg_small {n : Int} (h : 0 ≤ n ∧ n < 10) : dg n = [48 + n] := by unfold dg; rw [if_pos h.2]
theorem sz_up (n : Int) : (n < 10 → sz n ≤ 1) ∧ (n < 100 → sz n ≤ 2) ∧ (n < 1000 → sz n ≤ 3) := by
  unfold sz
  by_cases h1 : n < 10
  · rw [if_pos h1]; omega
  · rw [if_neg h1]
    by_cases h2 : n < 100
    · rw [if_pos h2]; omega
    · rw [if_neg h2]
      by_cases h3 : n < 1000
      · rw [if_pos h3]; omega
      · rw [if_neg h3]; omega
theorem ln1 (ln : List Int) (c : Int) : ((ln.length : Int) + 1) = (((ln ++ [c]).length : Nat) : Int) := by rw [List.length_append]; rfl
set_option maxHeartbeats 4000000 in
set_option maxRecDepth 20000 in
theorem c_writes (l : Launch) (hfl : l.stackTraces = false) (D : va_G) (cy : Nat → Nat) (σ : Wd) (am : Nat → Nat) (bs : List Bn) (ru : Nat → Int × Int) (se : Int) (pf : Nat → Int) (hd : Hd) (ca : Int) (evs : List Evt) (ln : List Int) (bl : Int × Int × Int) (th : Int) (hM : RM cy σ am bs ru se pf hd ca evs ln bl th) (c : Int) (hc9 : 0 ≤ c ∧ c < 128) (hl9 : ln.length < 1600) : Ct l yX7_writes cX7_writes 2 none 0 0 0 D cy [.ref (am 0), vi (c)] σ (fun v σ' => v = none ∧ RM cy σ' am bs ru se pf hd ca evs (ln ++ [c]) bl th ∧ Keep σ σ' (inM am) ∧ σ'.1 = σ.1) noX := by
  refine ct_start (by decide +kernel) hfl rfl (fun κ e1 e2 e3 C E NH => ?_)
  subst e1 e2 e3
  have C : Cx κ cX7_writes 2 RX7 "writes" 0 := C
  obtain ⟨-, -, -, -, hc, hs⟩ := id E
  show J κ σ [(0, .ref (am 0)), (1, vi (c))] 0 [] 0 0
  obtain ⟨hI1, gc1, gm1, gr1, gp1, gb1, go1, gf1, gg1, gt1, gz1, gk1, gl1, _, _, _, h01, ⟨hgc1, hgm1, hgr1, hgp1, hgb1, hgo1, hgf1, hgg1, hgt1, hgz1, hgk1, hgl1⟩, ⟨rfl, rfl, rfl⟩, hBn1, hRu1, hPr1, hTr1, hKi1, hLi1⟩ := id hM
  have hI := hI1
  have hnb61 := hBn1.1
  have kp0 : Keep σ σ (inM am) := Keep.rf
  have dm0 : σ.1 = σ.1 := rfl
  refine j_aload_n 0 C dX7_writes_0 rfl rfl rfl ?_
  refine j_get C dX7_writes_1 rfl fg_X7_45 h01 rfl ?_
  refine j_aload_n 0 C dX7_writes_4 rfl rfl rfl ?_
  refine j_get C dX7_writes_5 rfl fg_X7_173 h01 rfl ?_
  refine j_iload_n 1 C dX7_writes_8 rfl rfl rfl ?_
  refine j_cast C dX7_writes_9 rfl hgl1 ⟨by omega, by omega⟩ (by omega) (z_nch hc9) (fun τ2 ee3 => ?_)
  have u4 := h01.ne' ee3 (hI 0 12 (by decide) (by decide) (by decide))
  have u5 := hgc1.ne' ee3 (hI 1 12 (by decide) (by decide) (by decide))
  have u6 := hgm1.ne' ee3 (hI 2 12 (by decide) (by decide) (by decide))
  have u7 := hgr1.ne' ee3 (hI 3 12 (by decide) (by decide) (by decide))
  have u8 := hgp1.ne' ee3 (hI 4 12 (by decide) (by decide) (by decide))
  have u9 := hgb1.ne' ee3 (hI 5 12 (by decide) (by decide) (by decide))
  have u10 := hgo1.ne' ee3 (hI 6 12 (by decide) (by decide) (by decide))
  have u11 := hgf1.ne' ee3 (hI 7 12 (by decide) (by decide) (by decide))
  have u12 := hgg1.ne' ee3 (hI 8 12 (by decide) (by decide) (by decide))
  have u13 := hgt1.ne' ee3 (hI 9 12 (by decide) (by decide) (by decide))
  have u14 := hgz1.ne' ee3 (hI 10 12 (by decide) (by decide) (by decide))
  have u15 := hgk1.ne' ee3 (hI 11 12 (by decide) (by decide) (by decide))
  have u16 : has τ2 (am 12) (cA (kc κ) 1600 (ups gl1 (ln.length : Int).toNat c)) := hgl1.self' ee3
  have kp17 := kp0.put ee3 ⟨12, by decide, rfl⟩
  have dm18 := (dom_put ee3).trans dm0
  refine j_aload_n 0 C dX7_writes_10 rfl rfl rfl ?_
  refine j_dup C dX7_writes_11 rfl rfl ?_
  refine j_get C dX7_writes_12 rfl fg_X7_173 u4 rfl ?_
  refine j_iconst C dX7_writes_15 rfl ?_
  refine j_iadd C dX7_writes_16 rfl ?_
  refine j_put (fs' := [.ref (am 1), .ref (am 2), .ref (am 3), .ref (am 4), .ref (am 5), .ref (am 6), .ref (am 7), .ref (am 8), .ref (am 9), .ref (am 10), .ref (am 11), .ref (am 12), vi ((bs.length : Int)), vi (se), vi ((evs.length : Int)), vi (hd.2.1), vi (hd.2.2.2.1), vi (hd.2.2.1), vi ((ln.length : Int) + 1), vi (bl.1), vi (bl.2.1), vi (bl.2.2), vi (th), vl (hd.2.2.2.2), vl (ca)]) C dX7_writes_17 rfl fa_X7_173 u4 rfl rfl rfl rfl (fun τ19 ee20 => ?_)
  have u21 : has τ19 (am 0) (.inr (7, [.ref (am 1), .ref (am 2), .ref (am 3), .ref (am 4), .ref (am 5), .ref (am 6), .ref (am 7), .ref (am 8), .ref (am 9), .ref (am 10), .ref (am 11), .ref (am 12), vi ((bs.length : Int)), vi (se), vi ((evs.length : Int)), vi (hd.2.1), vi (hd.2.2.2.1), vi (hd.2.2.1), vi ((ln.length : Int) + 1), vi (bl.1), vi (bl.2.1), vi (bl.2.2), vi (th), vl (hd.2.2.2.2), vl (ca)])) := u4.self' ee20
  have u22 := u5.ne' ee20 (hI 1 0 (by decide) (by decide) (by decide))
  have u23 := u6.ne' ee20 (hI 2 0 (by decide) (by decide) (by decide))
  have u24 := u7.ne' ee20 (hI 3 0 (by decide) (by decide) (by decide))
  have u25 := u8.ne' ee20 (hI 4 0 (by decide) (by decide) (by decide))
  have u26 := u9.ne' ee20 (hI 5 0 (by decide) (by decide) (by decide))
  have u27 := u10.ne' ee20 (hI 6 0 (by decide) (by decide) (by decide))
  have u28 := u11.ne' ee20 (hI 7 0 (by decide) (by decide) (by decide))
  have u29 := u12.ne' ee20 (hI 8 0 (by decide) (by decide) (by decide))
  have u30 := u13.ne' ee20 (hI 9 0 (by decide) (by decide) (by decide))
  have u31 := u14.ne' ee20 (hI 10 0 (by decide) (by decide) (by decide))
  have u32 := u15.ne' ee20 (hI 11 0 (by decide) (by decide) (by decide))
  have u33 := u16.ne' ee20 (hI 12 0 (by decide) (by decide) (by decide))
  have kp34 := kp17.put ee20 ⟨0, by decide, rfl⟩
  have dm35 := (dom_put ee20).trans dm18
  exact j_vret C E dX7_writes_20 (by omega) (by omega) ⟨rfl, ⟨hI, _, _, _, _, _, _, _, _, _, _, _, _, _, _, _, u21, ⟨u22, u23, u24, u25, u26, u27, u28, u29, u30, u31, u32, u33⟩, ⟨rfl, rfl, ln1 _ _⟩, hBn1, hRu1, hPr1, hTr1, hKi1, (hLi1.snoc hl9 ⟨by omega, by omega⟩ (by omega))⟩, kp34, dm35⟩
set_option maxHeartbeats 4000000 in
set_option maxRecDepth 20000 in
theorem c_num1 (l : Launch) (hfl : l.stackTraces = false) (D : va_G) (cy : Nat → Nat) (σ : Wd) (am : Nat → Nat) (bs : List Bn) (ru : Nat → Int × Int) (se : Int) (pf : Nat → Int) (hd : Hd) (ca : Int) (evs : List Evt) (ln : List Int) (bl : Int × Int × Int) (th : Int) (hM : RM cy σ am bs ru se pf hd ca evs ln bl th) (n : Int) (hn : 0 ≤ n ∧ n < 10) (hl9 : ln.length + 1 ≤ 1600) : Ct l yX7_number cX7_number 2 none 1 0 0 D cy [.ref (am 0), vi (n)] σ (fun v σ' => v = none ∧ RM cy σ' am bs ru se pf hd ca evs (ln ++ dg n) bl th ∧ Keep σ σ' (inM am) ∧ σ'.1 = σ.1) noX := by
  refine ct_start (by decide +kernel) hfl rfl (fun κ e1 e2 e3 C E NH => ?_)
  subst e1 e2 e3
  have C : Cx κ cX7_number 2 RX7 "number" 1 := C
  obtain ⟨-, -, -, -, hc, hs⟩ := id E
  show J κ σ [(0, .ref (am 0)), (1, vi (n))] 0 [] 0 0
  obtain ⟨hI1, gc1, gm1, gr1, gp1, gb1, go1, gf1, gg1, gt1, gz1, gk1, gl1, _, _, _, h01, ⟨hgc1, hgm1, hgr1, hgp1, hgb1, hgo1, hgf1, hgg1, hgt1, hgz1, hgk1, hgl1⟩, ⟨rfl, rfl, rfl⟩, hBn1, hRu1, hPr1, hTr1, hKi1, hLi1⟩ := id hM
  have hI := hI1
  have hnb61 := hBn1.1
  have kp0 : Keep σ σ (inM am) := Keep.rf
  have dm0 : σ.1 = σ.1 := rfl
  refine j_iload_n 1 C dX7_number_0 rfl rfl rfl ?_
  refine j_bipush C dX7_number_1 rfl (by decide) ?_
  refine j_icmp_le (tgt := 14) C dX7_number_3 rfl rfl ⟨by omega, by omega⟩ ⟨by omega, by omega⟩ (fun cc2 => ?_) (fun cc2 => ?_)
  · refine j_aload_n 0 C dX7_number_14 rfl rfl rfl ?_
    refine j_bipush C dX7_number_15 rfl (by decide) ?_
    refine j_iload_n 1 C dX7_number_17 rfl rfl rfl ?_
    refine j_bipush C dX7_number_18 rfl (by decide) ?_
    refine j_irem C dX7_number_20 rfl ⟨by omega, by omega⟩ ⟨by omega, by omega⟩ ?_
    refine j_iadd C dX7_number_21 rfl ?_
    refine j_i2c (z := (48 + (n % 10))) C dX7_number_22 rfl (z_i2c ⟨by omega, by omega⟩) ?_
    refine j_callV (st' := []) (As := [vi ((48 + (n % 10)))]) C dX7_number_23 rfl m_X7_179 h01 rfl rfl rfl (c_writes (kL κ) hfl (kD κ) (kc κ) σ am bs ru se pf hd ca evs ln bl th hM (48 + (n % 10)) ⟨by omega, by omega⟩ (by omega)) rfl (by omega) (by omega) (by omega) (fun _ _ hx => hx.elim) (fun v4 τ3 hp5 => ?_)
    obtain ⟨rfl, hN6, hN6k, hN6d⟩ := hp5
    show J κ τ3 [(0, .ref (am 0)), (1, vi (n))] 26 [] _ _
    have hN6K := kp0.tr hN6k
    have hN6D := hN6d.trans dm0
    obtain ⟨hI7, gc7, gm7, gr7, gp7, gb7, go7, gf7, gg7, gt7, gz7, gk7, gl7, _, _, _, h07, ⟨hgc7, hgm7, hgr7, hgp7, hgb7, hgo7, hgf7, hgg7, hgt7, hgz7, hgk7, hgl7⟩, ⟨rfl, rfl, rfl⟩, hBn7, hRu7, hPr7, hTr7, hKi7, hLi7⟩ := id hN6
    have hI := hI7
    have hnb67 := hBn7.1
    exact j_vret C E dX7_number_26 (by omega) (by omega) ⟨rfl, by rw [dg_small ⟨by omega, by omega⟩]; have e9 : n % 10 = n := (by omega); have h9 := hN6; rw [e9] at h9; exact h9, hN6K, hN6D⟩
  · exact absurd cc2 (by omega)
set_option maxHeartbeats 4000000 in
set_option maxRecDepth 20000 in
theorem c_num2 (l : Launch) (hfl : l.stackTraces = false) (D : va_G) (cy : Nat → Nat) (σ : Wd) (am : Nat → Nat) (bs : List Bn) (ru : Nat → Int × Int) (se : Int) (pf : Nat → Int) (hd : Hd) (ca : Int) (evs : List Evt) (ln : List Int) (bl : Int × Int × Int) (th : Int) (hM : RM cy σ am bs ru se pf hd ca evs ln bl th) (n : Int) (hn : 0 ≤ n ∧ n < 100) (hl9 : ln.length + 2 ≤ 1600) : Ct l yX7_number cX7_number 2 none 2 0 0 D cy [.ref (am 0), vi (n)] σ (fun v σ' => v = none ∧ RM cy σ' am bs ru se pf hd ca evs (ln ++ dg n) bl th ∧ Keep σ σ' (inM am) ∧ σ'.1 = σ.1) noX := by
  refine ct_start (by decide +kernel) hfl rfl (fun κ e1 e2 e3 C E NH => ?_)
  subst e1 e2 e3
  have C : Cx κ cX7_number 2 RX7 "number" 2 := C
  obtain ⟨-, -, -, -, hc, hs⟩ := id E
  show J κ σ [(0, .ref (am 0)), (1, vi (n))] 0 [] 0 0
  obtain ⟨hI1, gc1, gm1, gr1, gp1, gb1, go1, gf1, gg1, gt1, gz1, gk1, gl1, _, _, _, h01, ⟨hgc1, hgm1, hgr1, hgp1, hgb1, hgo1, hgf1, hgg1, hgt1, hgz1, hgk1, hgl1⟩, ⟨rfl, rfl, rfl⟩, hBn1, hRu1, hPr1, hTr1, hKi1, hLi1⟩ := id hM
  have hI := hI1
  have hnb61 := hBn1.1
  have kp0 : Keep σ σ (inM am) := Keep.rf
  have dm0 : σ.1 = σ.1 := rfl
  refine j_iload_n 1 C dX7_number_0 rfl rfl rfl ?_
  refine j_bipush C dX7_number_1 rfl (by decide) ?_
  refine j_icmp_le (tgt := 14) C dX7_number_3 rfl rfl ⟨by omega, by omega⟩ ⟨by omega, by omega⟩ (fun cc2 => ?_) (fun cc2 => ?_)
  · refine j_aload_n 0 C dX7_number_14 rfl rfl rfl ?_
    refine j_bipush C dX7_number_15 rfl (by decide) ?_
    refine j_iload_n 1 C dX7_number_17 rfl rfl rfl ?_
    refine j_bipush C dX7_number_18 rfl (by decide) ?_
    refine j_irem C dX7_number_20 rfl ⟨by omega, by omega⟩ ⟨by omega, by omega⟩ ?_
    refine j_iadd C dX7_number_21 rfl ?_
    refine j_i2c (z := (48 + (n % 10))) C dX7_number_22 rfl (z_i2c ⟨by omega, by omega⟩) ?_
    refine j_callV (st' := []) (As := [vi ((48 + (n % 10)))]) C dX7_number_23 rfl m_X7_179 h01 rfl rfl rfl (c_writes (kL κ) hfl (kD κ) (kc κ) σ am bs ru se pf hd ca evs ln bl th hM (48 + (n % 10)) ⟨by omega, by omega⟩ (by omega)) rfl (by omega) (by omega) (by omega) (fun _ _ hx => hx.elim) (fun v4 τ3 hp5 => ?_)
    obtain ⟨rfl, hN6, hN6k, hN6d⟩ := hp5
    show J κ τ3 [(0, .ref (am 0)), (1, vi (n))] 26 [] _ _
    have hN6K := kp0.tr hN6k
    have hN6D := hN6d.trans dm0
    obtain ⟨hI7, gc7, gm7, gr7, gp7, gb7, go7, gf7, gg7, gt7, gz7, gk7, gl7, _, _, _, h07, ⟨hgc7, hgm7, hgr7, hgp7, hgb7, hgo7, hgf7, hgg7, hgt7, hgz7, hgk7, hgl7⟩, ⟨rfl, rfl, rfl⟩, hBn7, hRu7, hPr7, hTr7, hKi7, hLi7⟩ := id hN6
    have hI := hI7
    have hnb67 := hBn7.1
    exact j_vret C E dX7_number_26 (by omega) (by omega) ⟨rfl, by rw [dg_small ⟨by omega, by omega⟩]; have e9 : n % 10 = n := (by omega); have h9 := hN6; rw [e9] at h9; exact h9, hN6K, hN6D⟩
  · refine j_aload_n 0 C dX7_number_6 rfl rfl rfl ?_
    refine j_iload_n 1 C dX7_number_7 rfl rfl rfl ?_
    refine j_bipush C dX7_number_8 rfl (by decide) ?_
    refine j_idiv C dX7_number_10 rfl ⟨by omega, by omega⟩ ⟨by omega, by omega⟩ ?_
    refine j_callV (st' := []) (As := [vi (n / 10)]) C dX7_number_11 rfl m_X7_176 h01 rfl rfl rfl (c_num1 (kL κ) hfl (kD κ) (kc κ) σ am bs ru se pf hd ca evs ln bl th hM (n / 10) ⟨by omega, by omega⟩ (by omega)) rfl (by omega) (by omega) (by omega) (fun _ _ hx => hx.elim) (fun v9 τ8 hp10 => ?_)
    obtain ⟨rfl, hN11, hN11k, hN11d⟩ := hp10
    show J κ τ8 [(0, .ref (am 0)), (1, vi (n))] 14 [] _ _
    have hN11K := kp0.tr hN11k
    have hN11D := hN11d.trans dm0
    obtain ⟨hI12, gc12, gm12, gr12, gp12, gb12, go12, gf12, gg12, gt12, gz12, gk12, gl12, _, _, _, h012, ⟨hgc12, hgm12, hgr12, hgp12, hgb12, hgo12, hgf12, hgg12, hgt12, hgz12, hgk12, hgl12⟩, ⟨rfl, rfl, rfl⟩, hBn12, hRu12, hPr12, hTr12, hKi12, hLi12⟩ := id hN11
    have hI := hI12
    have hnb612 := hBn12.1
    have hd9 := dg_next (n := n) ⟨by omega, by omega⟩
    have hdl := dg_len (n / 10)
    have hsl := (sz_in (n / 10)).1
    have hsu := sz_up (n / 10)
    have hll := List.length_append (as := ln) (bs := dg (n / 10))
    refine j_aload_n 0 C dX7_number_14 rfl rfl rfl ?_
    refine j_bipush C dX7_number_15 rfl (by decide) ?_
    refine j_iload_n 1 C dX7_number_17 rfl rfl rfl ?_
    refine j_bipush C dX7_number_18 rfl (by decide) ?_
    refine j_irem C dX7_number_20 rfl ⟨by omega, by omega⟩ ⟨by omega, by omega⟩ ?_
    refine j_iadd C dX7_number_21 rfl ?_
    refine j_i2c (z := (48 + (n % 10))) C dX7_number_22 rfl (z_i2c ⟨by omega, by omega⟩) ?_
    refine j_callV (st' := []) (As := [vi ((48 + (n % 10)))]) C dX7_number_23 rfl m_X7_179 h012 rfl rfl rfl (c_writes (kL κ) hfl (kD κ) (kc κ) τ8 am bs ru se pf hd ca evs (ln ++ dg (n / 10)) bl th hN11 (48 + (n % 10)) ⟨by omega, by omega⟩ (by omega)) rfl (by omega) (by omega) (by omega) (fun _ _ hx => hx.elim) (fun v14 τ13 hp15 => ?_)
    obtain ⟨rfl, hN16, hN16k, hN16d⟩ := hp15
    show J κ τ13 [(0, .ref (am 0)), (1, vi (n))] 26 [] _ _
    have hN16K := hN11K.tr hN16k
    have hN16D := hN16d.trans hN11D
    obtain ⟨hI17, gc17, gm17, gr17, gp17, gb17, go17, gf17, gg17, gt17, gz17, gk17, gl17, _, _, _, h017, ⟨hgc17, hgm17, hgr17, hgp17, hgb17, hgo17, hgf17, hgg17, hgt17, hgz17, hgk17, hgl17⟩, ⟨rfl, rfl, rfl⟩, hBn17, hRu17, hPr17, hTr17, hKi17, hLi17⟩ := id hN16
    have hI := hI17
    have hnb617 := hBn17.1
    exact j_vret C E dX7_number_26 (by omega) (by omega) ⟨rfl, by rw [hd9, ← List.append_assoc]; exact hN16, hN16K, hN16D⟩
set_option maxHeartbeats 4000000 in
set_option maxRecDepth 20000 in
theorem c_num3 (l : Launch) (hfl : l.stackTraces = false) (D : va_G) (cy : Nat → Nat) (σ : Wd) (am : Nat → Nat) (bs : List Bn) (ru : Nat → Int × Int) (se : Int) (pf : Nat → Int) (hd : Hd) (ca : Int) (evs : List Evt) (ln : List Int) (bl : Int × Int × Int) (th : Int) (hM : RM cy σ am bs ru se pf hd ca evs ln bl th) (n : Int) (hn : 0 ≤ n ∧ n < 1000) (hl9 : ln.length + 3 ≤ 1600) : Ct l yX7_number cX7_number 2 none 3 0 0 D cy [.ref (am 0), vi (n)] σ (fun v σ' => v = none ∧ RM cy σ' am bs ru se pf hd ca evs (ln ++ dg n) bl th ∧ Keep σ σ' (inM am) ∧ σ'.1 = σ.1) noX := by
  refine ct_start (by decide +kernel) hfl rfl (fun κ e1 e2 e3 C E NH => ?_)
  subst e1 e2 e3
  have C : Cx κ cX7_number 2 RX7 "number" 3 := C
  obtain ⟨-, -, -, -, hc, hs⟩ := id E
  show J κ σ [(0, .ref (am 0)), (1, vi (n))] 0 [] 0 0
  obtain ⟨hI1, gc1, gm1, gr1, gp1, gb1, go1, gf1, gg1, gt1, gz1, gk1, gl1, _, _, _, h01, ⟨hgc1, hgm1, hgr1, hgp1, hgb1, hgo1, hgf1, hgg1, hgt1, hgz1, hgk1, hgl1⟩, ⟨rfl, rfl, rfl⟩, hBn1, hRu1, hPr1, hTr1, hKi1, hLi1⟩ := id hM
  have hI := hI1
  have hnb61 := hBn1.1
  have kp0 : Keep σ σ (inM am) := Keep.rf
  have dm0 : σ.1 = σ.1 := rfl
  refine j_iload_n 1 C dX7_number_0 rfl rfl rfl ?_
  refine j_bipush C dX7_number_1 rfl (by decide) ?_
  refine j_icmp_le (tgt := 14) C dX7_number_3 rfl rfl ⟨by omega, by omega⟩ ⟨by omega, by omega⟩ (fun cc2 => ?_) (fun cc2 => ?_)
  · refine j_aload_n 0 C dX7_number_14 rfl rfl rfl ?_
    refine j_bipush C dX7_number_15 rfl (by decide) ?_
    refine j_iload_n 1 C dX7_number_17 rfl rfl rfl ?_
    refine j_bipush C dX7_number_18 rfl (by decide) ?_
    refine j_irem C dX7_number_20 rfl ⟨by omega, by omega⟩ ⟨by omega, by omega⟩ ?_
    refine j_iadd C dX7_number_21 rfl ?_
    refine j_i2c (z := (48 + (n % 10))) C dX7_number_22 rfl (z_i2c ⟨by omega, by omega⟩) ?_
    refine j_callV (st' := []) (As := [vi ((48 + (n % 10)))]) C dX7_number_23 rfl m_X7_179 h01 rfl rfl rfl (c_writes (kL κ) hfl (kD κ) (kc κ) σ am bs ru se pf hd ca evs ln bl th hM (48 + (n % 10)) ⟨by omega, by omega⟩ (by omega)) rfl (by omega) (by omega) (by omega) (fun _ _ hx => hx.elim) (fun v4 τ3 hp5 => ?_)
    obtain ⟨rfl, hN6, hN6k, hN6d⟩ := hp5
    show J κ τ3 [(0, .ref (am 0)), (1, vi (n))] 26 [] _ _
    have hN6K := kp0.tr hN6k
    have hN6D := hN6d.trans dm0
    obtain ⟨hI7, gc7, gm7, gr7, gp7, gb7, go7, gf7, gg7, gt7, gz7, gk7, gl7, _, _, _, h07, ⟨hgc7, hgm7, hgr7, hgp7, hgb7, hgo7, hgf7, hgg7, hgt7, hgz7, hgk7, hgl7⟩, ⟨rfl, rfl, rfl⟩, hBn7, hRu7, hPr7, hTr7, hKi7, hLi7⟩ := id hN6
    have hI := hI7
    have hnb67 := hBn7.1
    exact j_vret C E dX7_number_26 (by omega) (by omega) ⟨rfl, by rw [dg_small ⟨by omega, by omega⟩]; have e9 : n % 10 = n := (by omega); have h9 := hN6; rw [e9] at h9; exact h9, hN6K, hN6D⟩
  · refine j_aload_n 0 C dX7_number_6 rfl rfl rfl ?_
    refine j_iload_n 1 C dX7_number_7 rfl rfl rfl ?_
    refine j_bipush C dX7_number_8 rfl (by decide) ?_
    refine j_idiv C dX7_number_10 rfl ⟨by omega, by omega⟩ ⟨by omega, by omega⟩ ?_
    refine j_callV (st' := []) (As := [vi (n / 10)]) C dX7_number_11 rfl m_X7_176 h01 rfl rfl rfl (c_num2 (kL κ) hfl (kD κ) (kc κ) σ am bs ru se pf hd ca evs ln bl th hM (n / 10) ⟨by omega, by omega⟩ (by omega)) rfl (by omega) (by omega) (by omega) (fun _ _ hx => hx.elim) (fun v9 τ8 hp10 => ?_)
    obtain ⟨rfl, hN11, hN11k, hN11d⟩ := hp10
    show J κ τ8 [(0, .ref (am 0)), (1, vi (n))] 14 [] _ _
    have hN11K := kp0.tr hN11k
    have hN11D := hN11d.trans dm0
    obtain ⟨hI12, gc12, gm12, gr12, gp12, gb12, go12, gf12, gg12, gt12, gz12, gk12, gl12, _, _, _, h012, ⟨hgc12, hgm12, hgr12, hgp12, hgb12, hgo12, hgf12, hgg12, hgt12, hgz12, hgk12, hgl12⟩, ⟨rfl, rfl, rfl⟩, hBn12, hRu12, hPr12, hTr12, hKi12, hLi12⟩ := id hN11
    have hI := hI12
    have hnb612 := hBn12.1
    have hd9 := dg_next (n := n) ⟨by omega, by omega⟩
    have hdl := dg_len (n / 10)
    have hsl := (sz_in (n / 10)).1
    have hsu := sz_up (n / 10)
    have hll := List.length_append (as := ln) (bs := dg (n / 10))
    refine j_aload_n 0 C dX7_number_14 rfl rfl rfl ?_
    refine j_bipush C dX7_number_15 rfl (by decide) ?_
    refine j_iload_n 1 C dX7_number_17 rfl rfl rfl ?_
    refine j_bipush C dX7_number_18 rfl (by decide) ?_
    refine j_irem C dX7_number_20 rfl ⟨by omega, by omega⟩ ⟨by omega, by omega⟩ ?_
    refine j_iadd C dX7_number_21 rfl ?_
    refine j_i2c (z := (48 + (n % 10))) C dX7_number_22 rfl (z_i2c ⟨by omega, by omega⟩) ?_
    refine j_callV (st' := []) (As := [vi ((48 + (n % 10)))]) C dX7_number_23 rfl m_X7_179 h012 rfl rfl rfl (c_writes (kL κ) hfl (kD κ) (kc κ) τ8 am bs ru se pf hd ca evs (ln ++ dg (n / 10)) bl th hN11 (48 + (n % 10)) ⟨by omega, by omega⟩ (by omega)) rfl (by omega) (by omega) (by omega) (fun _ _ hx => hx.elim) (fun v14 τ13 hp15 => ?_)
    obtain ⟨rfl, hN16, hN16k, hN16d⟩ := hp15
    show J κ τ13 [(0, .ref (am 0)), (1, vi (n))] 26 [] _ _
    have hN16K := hN11K.tr hN16k
    have hN16D := hN16d.trans hN11D
    obtain ⟨hI17, gc17, gm17, gr17, gp17, gb17, go17, gf17, gg17, gt17, gz17, gk17, gl17, _, _, _, h017, ⟨hgc17, hgm17, hgr17, hgp17, hgb17, hgo17, hgf17, hgg17, hgt17, hgz17, hgk17, hgl17⟩, ⟨rfl, rfl, rfl⟩, hBn17, hRu17, hPr17, hTr17, hKi17, hLi17⟩ := id hN16
    have hI := hI17
    have hnb617 := hBn17.1
    exact j_vret C E dX7_number_26 (by omega) (by omega) ⟨rfl, by rw [hd9, ← List.append_assoc]; exact hN16, hN16K, hN16D⟩
set_option maxHeartbeats 4000000 in
set_option maxRecDepth 20000 in
theorem c_num4 (l : Launch) (hfl : l.stackTraces = false) (D : va_G) (cy : Nat → Nat) (σ : Wd) (am : Nat → Nat) (bs : List Bn) (ru : Nat → Int × Int) (se : Int) (pf : Nat → Int) (hd : Hd) (ca : Int) (evs : List Evt) (ln : List Int) (bl : Int × Int × Int) (th : Int) (hM : RM cy σ am bs ru se pf hd ca evs ln bl th) (n : Int) (hn : 0 ≤ n ∧ n < 10000) (hl9 : ln.length + 4 ≤ 1600) : Ct l yX7_number cX7_number 2 none 4 0 0 D cy [.ref (am 0), vi (n)] σ (fun v σ' => v = none ∧ RM cy σ' am bs ru se pf hd ca evs (ln ++ dg n) bl th ∧ Keep σ σ' (inM am) ∧ σ'.1 = σ.1) noX := by
  refine ct_start (by decide +kernel) hfl rfl (fun κ e1 e2 e3 C E NH => ?_)
  subst e1 e2 e3
  have C : Cx κ cX7_number 2 RX7 "number" 4 := C
  obtain ⟨-, -, -, -, hc, hs⟩ := id E
  show J κ σ [(0, .ref (am 0)), (1, vi (n))] 0 [] 0 0
  obtain ⟨hI1, gc1, gm1, gr1, gp1, gb1, go1, gf1, gg1, gt1, gz1, gk1, gl1, _, _, _, h01, ⟨hgc1, hgm1, hgr1, hgp1, hgb1, hgo1, hgf1, hgg1, hgt1, hgz1, hgk1, hgl1⟩, ⟨rfl, rfl, rfl⟩, hBn1, hRu1, hPr1, hTr1, hKi1, hLi1⟩ := id hM
  have hI := hI1
  have hnb61 := hBn1.1
  have kp0 : Keep σ σ (inM am) := Keep.rf
  have dm0 : σ.1 = σ.1 := rfl
  refine j_iload_n 1 C dX7_number_0 rfl rfl rfl ?_
  refine j_bipush C dX7_number_1 rfl (by decide) ?_
  refine j_icmp_le (tgt := 14) C dX7_number_3 rfl rfl ⟨by omega, by omega⟩ ⟨by omega, by omega⟩ (fun cc2 => ?_) (fun cc2 => ?_)
  · refine j_aload_n 0 C dX7_number_14 rfl rfl rfl ?_
    refine j_bipush C dX7_number_15 rfl (by decide) ?_
    refine j_iload_n 1 C dX7_number_17 rfl rfl rfl ?_
    refine j_bipush C dX7_number_18 rfl (by decide) ?_
    refine j_irem C dX7_number_20 rfl ⟨by omega, by omega⟩ ⟨by omega, by omega⟩ ?_
    refine j_iadd C dX7_number_21 rfl ?_
    refine j_i2c (z := (48 + (n % 10))) C dX7_number_22 rfl (z_i2c ⟨by omega, by omega⟩) ?_
    refine j_callV (st' := []) (As := [vi ((48 + (n % 10)))]) C dX7_number_23 rfl m_X7_179 h01 rfl rfl rfl (c_writes (kL κ) hfl (kD κ) (kc κ) σ am bs ru se pf hd ca evs ln bl th hM (48 + (n % 10)) ⟨by omega, by omega⟩ (by omega)) rfl (by omega) (by omega) (by omega) (fun _ _ hx => hx.elim) (fun v4 τ3 hp5 => ?_)
    obtain ⟨rfl, hN6, hN6k, hN6d⟩ := hp5
    show J κ τ3 [(0, .ref (am 0)), (1, vi (n))] 26 [] _ _
    have hN6K := kp0.tr hN6k
    have hN6D := hN6d.trans dm0
    obtain ⟨hI7, gc7, gm7, gr7, gp7, gb7, go7, gf7, gg7, gt7, gz7, gk7, gl7, _, _, _, h07, ⟨hgc7, hgm7, hgr7, hgp7, hgb7, hgo7, hgf7, hgg7, hgt7, hgz7, hgk7, hgl7⟩, ⟨rfl, rfl, rfl⟩, hBn7, hRu7, hPr7, hTr7, hKi7, hLi7⟩ := id hN6
    have hI := hI7
    have hnb67 := hBn7.1
    exact j_vret C E dX7_number_26 (by omega) (by omega) ⟨rfl, by rw [dg_small ⟨by omega, by omega⟩]; have e9 : n % 10 = n := (by omega); have h9 := hN6; rw [e9] at h9; exact h9, hN6K, hN6D⟩
  · refine j_aload_n 0 C dX7_number_6 rfl rfl rfl ?_
    refine j_iload_n 1 C dX7_number_7 rfl rfl rfl ?_
    refine j_bipush C dX7_number_8 rfl (by decide) ?_
    refine j_idiv C dX7_number_10 rfl ⟨by omega, by omega⟩ ⟨by omega, by omega⟩ ?_
    refine j_callV (st' := []) (As := [vi (n / 10)]) C dX7_number_11 rfl m_X7_176 h01 rfl rfl rfl (c_num3 (kL κ) hfl (kD κ) (kc κ) σ am bs ru se pf hd ca evs ln bl th hM (n / 10) ⟨by omega, by omega⟩ (by omega)) rfl (by omega) (by omega) (by omega) (fun _ _ hx => hx.elim) (fun v9 τ8 hp10 => ?_)
    obtain ⟨rfl, hN11, hN11k, hN11d⟩ := hp10
    show J κ τ8 [(0, .ref (am 0)), (1, vi (n))] 14 [] _ _
    have hN11K := kp0.tr hN11k
    have hN11D := hN11d.trans dm0
    obtain ⟨hI12, gc12, gm12, gr12, gp12, gb12, go12, gf12, gg12, gt12, gz12, gk12, gl12, _, _, _, h012, ⟨hgc12, hgm12, hgr12, hgp12, hgb12, hgo12, hgf12, hgg12, hgt12, hgz12, hgk12, hgl12⟩, ⟨rfl, rfl, rfl⟩, hBn12, hRu12, hPr12, hTr12, hKi12, hLi12⟩ := id hN11
    have hI := hI12
    have hnb612 := hBn12.1
    have hd9 := dg_next (n := n) ⟨by omega, by omega⟩
    have hdl := dg_len (n / 10)
    have hsl := (sz_in (n / 10)).1
    have hsu := sz_up (n / 10)
    have hll := List.length_append (as := ln) (bs := dg (n / 10))
    refine j_aload_n 0 C dX7_number_14 rfl rfl rfl ?_
    refine j_bipush C dX7_number_15 rfl (by decide) ?_
    refine j_iload_n 1 C dX7_number_17 rfl rfl rfl ?_
    refine j_bipush C dX7_number_18 rfl (by decide) ?_
    refine j_irem C dX7_number_20 rfl ⟨by omega, by omega⟩ ⟨by omega, by omega⟩ ?_
    refine j_iadd C dX7_number_21 rfl ?_
    refine j_i2c (z := (48 + (n % 10))) C dX7_number_22 rfl (z_i2c ⟨by omega, by omega⟩) ?_
    refine j_callV (st' := []) (As := [vi ((48 + (n % 10)))]) C dX7_number_23 rfl m_X7_179 h012 rfl rfl rfl (c_writes (kL κ) hfl (kD κ) (kc κ) τ8 am bs ru se pf hd ca evs (ln ++ dg (n / 10)) bl th hN11 (48 + (n % 10)) ⟨by omega, by omega⟩ (by omega)) rfl (by omega) (by omega) (by omega) (fun _ _ hx => hx.elim) (fun v14 τ13 hp15 => ?_)
    obtain ⟨rfl, hN16, hN16k, hN16d⟩ := hp15
    show J κ τ13 [(0, .ref (am 0)), (1, vi (n))] 26 [] _ _
    have hN16K := hN11K.tr hN16k
    have hN16D := hN16d.trans hN11D
    obtain ⟨hI17, gc17, gm17, gr17, gp17, gb17, go17, gf17, gg17, gt17, gz17, gk17, gl17, _, _, _, h017, ⟨hgc17, hgm17, hgr17, hgp17, hgb17, hgo17, hgf17, hgg17, hgt17, hgz17, hgk17, hgl17⟩, ⟨rfl, rfl, rfl⟩, hBn17, hRu17, hPr17, hTr17, hKi17, hLi17⟩ := id hN16
    have hI := hI17
    have hnb617 := hBn17.1
    exact j_vret C E dX7_number_26 (by omega) (by omega) ⟨rfl, by rw [hd9, ← List.append_assoc]; exact hN16, hN16K, hN16D⟩
