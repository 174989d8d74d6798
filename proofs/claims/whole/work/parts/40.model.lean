/-! GrainElevatorModel: how it lies; its small methods -/
theorem NoH.rf : True := trivial
/-- what lies in a row, from s on -/
def rowL (G : Nat → Ly) (s n : Nat) : List Ly := (List.range n).map (fun k : Nat => G (s + k))
theorem rowL_len (G : Nat → Ly) (s n : Nat) : (rowL G s n).length = n := by simp [rowL]
theorem rowL_at {G : Nat → Ly} {s n k : Nat} (h : k < n) : (rowL G s n)[k]? = some (G (s + k)) := by
  unfold rowL
  rw [List.getElem?_map, List.getElem?_range h]
  rfl
theorem rowL_succ (G : Nat → Ly) (s n : Nat) : rowL G s (n + 1) = rowL G s n ++ [G (s + n)] := by
  unfold rowL
  rw [List.range_succ, List.map_append]
  rfl
theorem rowL_cong {G G' : Nat → Ly} {s n : Nat} (h : ∀ k : Nat, k < n → G (s + k) = G' (s + k)) : rowL G s n = rowL G' s n := by
  unfold rowL
  apply List.map_congr_left
  intro k hk
  exact h k (List.mem_range.mp hk)
theorem rowL_ly {G : Nat → Ly} {s n k : Nat} (h : k < n) : lyAt (rowL G s n) (k : Int) = G (s + k) := by
  unfold lyAt
  rw [List.getD_eq_getElem?_getD, Int.toNat_natCast, rowL_at h]
  rfl
theorem rowK {gb go gf gg : Nat → Int} {s : Nat} {ly : List Ly} (h : ly = rowL (G4 gb go gf gg) s ly.length) {k : Nat} (hk : k < ly.length) {z : Int} (hz : z = (s : Int) + k) : gb z.toNat = (lyAt ly k).1 ∧ go z.toNat = (lyAt ly k).2.1 ∧ gf z.toNat = (lyAt ly k).2.2.1 ∧ gg z.toNat = (lyAt ly k).2.2.2 := by
  have e : lyAt ly k = G4 gb go gf gg (s + k) := by rw [h]; exact rowL_ly hk
  rw [e, show z.toNat = s + k by omega]
  exact ⟨rfl, rfl, rfl, rfl⟩
/-- a place in the flow, from the oldest on -/
def pl (m : Bool) (n i : Int) : Int := if m then i else n - 1 - i
theorem pl_in {m : Bool} {n i : Int} (h : 0 ≤ i ∧ i < n) : 0 ≤ pl m n i ∧ pl m n i < n := by unfold pl; split <;> omega
theorem lyAt_fl {c : Int} {m : Bool} {ly : List Ly} {i : Int} (h : 0 ≤ i ∧ i < (ly.length : Int)) : lyAt (fl (c, m, ly)) i = lyAt ly (pl m ly.length i) := by
  unfold fl pl
  cases m
  · simp only [Bool.false_eq_true, if_false]
    unfold lyAt
    rw [List.getD_eq_getElem?_getD, List.getD_eq_getElem?_getD, List.getElem?_reverse (by omega), show ly.length - 1 - i.toNat = ((ly.length : Int) - 1 - i).toNat by omega]
  · simp only [if_true]
theorem rowF {gb go gf gg : Nat → Int} {s : Nat} {c : Int} {m : Bool} {ly : List Ly} (h : ly = rowL (G4 gb go gf gg) s ly.length) {i : Int} (hi : 0 ≤ i ∧ i < (ly.length : Int)) {z : Int} (hz : z = (s : Int) + pl m ly.length i) : gb z.toNat = (lyAt (fl (c, m, ly)) i).1 ∧ go z.toNat = (lyAt (fl (c, m, ly)) i).2.1 ∧ gf z.toNat = (lyAt (fl (c, m, ly)) i).2.2.1 ∧ gg z.toNat = (lyAt (fl (c, m, ly)) i).2.2.2 := by
  have hp := pl_in (m := m) hi
  rw [lyAt_fl hi]
  obtain ⟨k, hk⟩ : ∃ k : Nat, pl m ly.length i = (k : Int) := ⟨(pl m ly.length i).toNat, by omega⟩
  rw [hk] at hz hp ⊢
  exact rowK h (by omega) hz
/-- in range: 1, else 0 -/
def inI (z a b : Int) : Int := if a ≤ z ∧ z ≤ b then 1 else 0
theorem inI_T {z a b : Int} (h : inI z a b ≠ 0) : a ≤ z ∧ z ≤ b := by
  unfold inI at h
  by_cases c : a ≤ z ∧ z ≤ b
  · exact c
  · rw [if_neg c] at h; exact absurd rfl h
theorem inI_F {z a b : Int} (h : inI z a b = 0) : z < a ∨ b < z := by
  unfold inI at h
  by_cases c : a ≤ z ∧ z ≤ b
  · rw [if_pos c] at h; exact absurd h (by decide)
  · omega
theorem inI_r (z a b : Int) : -2147483648 ≤ inI z a b ∧ inI z a b < 2147483648 := by unfold inI; split <;> omega
theorem inI_1 {z a b : Int} (h : a ≤ z ∧ z ≤ b) : inI z a b = 1 := if_pos h
theorem inI_0 {z a b : Int} (h : z < a ∨ b < z) : inI z a b = 0 := if_neg (by omega)
theorem b01_r (b : Bool) : -2147483648 ≤ b01 b ∧ b01 b < 2147483648 := by cases b <;> decide
theorem b01_T {p : Prop} [Decidable p] (h : b01 (decide p) ≠ 0) : p := by
  by_cases c : p
  · exact c
  · rw [decide_eq_false c] at h; exact absurd rfl h
theorem b01_F {p : Prop} [Decidable p] (h : b01 (decide p) = 0) : ¬ p := by
  intro c
  rw [decide_eq_true c] at h
  exact absurd h (by decide)
def InjM (am : Nat → Nat) : Prop := ∀ j k : Nat, j < 13 → k < 13 → j ≠ k → am j ≠ am k
abbrev inM (am : Nat → Nat) : Nat → Prop := fun y => ∃ k : Nat, k < 13 ∧ y = am k
abbrev mV (am : Nat → Nat) (nb se ne nt fu he nw : Int) (bl : Int × Int × Int) (th ga ca : Int) : va_E := .inr (7, [.ref (am 1), .ref (am 2), .ref (am 3), .ref (am 4), .ref (am 5), .ref (am 6), .ref (am 7), .ref (am 8), .ref (am 9), .ref (am 10), .ref (am 11), .ref (am 12), vi nb, vi se, vi ne, vi nt, vi fu, vi he, vi nw, vi bl.1, vi bl.2.1, vi bl.2.2, vi th, vl ga, vl ca])
/-- the bins as the model keeps them -/
def BnM (bs : List Bn) (gc gm gz gb go gf gg : Nat → Int) : Prop := bs.length ≤ 6 ∧ (∀ i : Nat, i < 6 → bs.length ≤ i → gm i = 0) ∧ ∀ i : Nat, i < bs.length → (gc i = (gB bs i).1 ∧ gz i = b01 (gB bs i).2.1) ∧ (gm i = ((gB bs i).2.2.length : Int) ∧ (gB bs i).2.2.length ≤ 90) ∧ (gB bs i).2.2 = rowL (G4 gb go gf gg) (90 * i) (gB bs i).2.2.length
def RuM (ru : Nat → Int × Int) (se : Int) (gr : Nat → Int) : Prop := (0 ≤ se ∧ se ≤ 3) ∧ ∀ i : Nat, i < 12 → (gr (2 * i) = (ru i).1 ∧ gr (2 * i + 1) = (ru i).2) ∧ (80 ≤ (ru i).1 ∧ (ru i).1 ≤ 300) ∧ (0 ≤ (ru i).2 ∧ (ru i).2 ≤ 100)
def PrM (pf gp : Nat → Int) : Prop := ∀ i : Nat, i < 4 → gp i = pf (i + 1)
def TrM (hd : Hd) (gt : Nat → Int) : Prop := (0 ≤ hd.2.1 ∧ hd.2.1 ≤ 80) ∧ ∀ i : Nat, (i : Int) < hd.2.1 → gt i = hd.1 i
def KiM (evs : List Evt) (gk : Nat → Int) : Prop := evs.length ≤ 80 ∧ ∀ i : Nat, i < evs.length → gk i = (evs.getD i (0, 0, 0, 0, 0, 0, 0)).1 ∧ (0 ≤ gk i ∧ gk i < 128)
def LiM (ln : List Int) (gl : Nat → Int) : Prop := ln.length ≤ 1600 ∧ ∀ i : Nat, i < ln.length → gl i = ln.getD i 0 ∧ (0 ≤ gl i ∧ gl i < 128)
/-- the model -/
def RM (cy : Nat → Nat) (σ : Wd) (am : Nat → Nat) (bs : List Bn) (ru : Nat → Int × Int) (se : Int) (pf : Nat → Int) (hd : Hd) (ca : Int) (evs : List Evt) (ln : List Int) (bl : Int × Int × Int) (th : Int) : Prop :=
  InjM am ∧ ∃ (gc gm gr gp gb go gf gg gt gz gk gl : Nat → Int) (nb ne nw : Int), has σ (am 0) (mV am nb se ne hd.2.1 hd.2.2.2.1 hd.2.2.1 nw bl th hd.2.2.2.2 ca) ∧
  (has σ (am 1) (iA cy 6 gc) ∧ has σ (am 2) (iA cy 6 gm) ∧ has σ (am 3) (iA cy 24 gr) ∧ has σ (am 4) (iA cy 4 gp) ∧ has σ (am 5) (iA cy 540 gb) ∧ has σ (am 6) (iA cy 540 go) ∧ has σ (am 7) (iA cy 540 gf) ∧ has σ (am 8) (iA cy 540 gg) ∧ has σ (am 9) (iA cy 80 gt) ∧ has σ (am 10) (zA cy 6 gz) ∧ has σ (am 11) (cA cy 80 gk) ∧ has σ (am 12) (cA cy 1600 gl)) ∧
  (nb = (bs.length : Int) ∧ ne = (evs.length : Int) ∧ nw = (ln.length : Int)) ∧ BnM bs gc gm gz gb go gf gg ∧ RuM ru se gr ∧ PrM pf gp ∧ TrM hd gt ∧ KiM evs gk ∧ LiM ln gl
theorem RM.keep {cy : Nat → Nat} {σ σ' : Wd} {am : Nat → Nat} {bs : List Bn} {ru : Nat → Int × Int} {se : Int} {pf : Nat → Int} {hd : Hd} {ca : Int} {evs : List Evt} {ln : List Int} {bl : Int × Int × Int} {th : Int} {F : Nat → Prop} (h : RM cy σ am bs ru se pf hd ca evs ln bl th) (hk : Keep σ σ' F) (hF : ∀ k : Nat, k < 13 → ¬ F (am k)) : RM cy σ' am bs ru se pf hd ca evs ln bl th := by
  obtain ⟨hI, gc, gm, gr, gp, gb, go, gf, gg, gt, gz, gk, gl, nb, ne, nw, h0, ⟨h1, h2, h3, h4, h5, h6, h7, h8, h9, h10, h11, h12⟩, hr⟩ := h
  exact ⟨hI, gc, gm, gr, gp, gb, go, gf, gg, gt, gz, gk, gl, nb, ne, nw, hk _ _ h0 (hF 0 (by decide)), ⟨hk _ _ h1 (hF 1 (by decide)), hk _ _ h2 (hF 2 (by decide)), hk _ _ h3 (hF 3 (by decide)), hk _ _ h4 (hF 4 (by decide)), hk _ _ h5 (hF 5 (by decide)), hk _ _ h6 (hF 6 (by decide)), hk _ _ h7 (hF 7 (by decide)), hk _ _ h8 (hF 8 (by decide)), hk _ _ h9 (hF 9 (by decide)), hk _ _ h10 (hF 10 (by decide)), hk _ _ h11 (hF 11 (by decide)), hk _ _ h12 (hF 12 (by decide))⟩, hr⟩
set_option maxHeartbeats 4000000 in
set_option maxRecDepth 20000 in
theorem c_isIn (l : Launch) (hfl : l.stackTraces = false) (D : va_G) (cy : Nat → Nat) (σ : Wd) (z a b : Int) (hz : (-2147483648 ≤ z ∧ z < 2147483648)) (ha : (-2147483648 ≤ a ∧ a < 2147483648)) (hb : (-2147483648 ≤ b ∧ b < 2147483648)) : Ct l yX7_isIn cX7_isIn 3 (some .boolean) 0 0 0 D cy [vi (z), vi (a), vi (b)] σ (fun v σ' => v = some (vi (inI z a b)) ∧ σ' = σ) noX := by
  refine ct_start (by decide +kernel) hfl rfl (fun κ e1 e2 e3 C E NH => ?_)
  subst e1 e2 e3
  have C : Cx κ cX7_isIn 3 RX7 "isIn" 0 := C
  obtain ⟨-, -, -, -, hc, hs⟩ := id E
  show J κ σ [(0, vi (z)), (1, vi (a)), (2, vi (b))] 0 [] 0 0
  refine j_iload_n 0 C dX7_isIn_0 rfl rfl rfl ?_
  refine j_iload_n 1 C dX7_isIn_1 rfl rfl rfl ?_
  refine j_icmp_lt (tgt := 14) C dX7_isIn_2 rfl rfl ⟨by omega, by omega⟩ ⟨by omega, by omega⟩ (fun cc1 => ?_) (fun cc1 => ?_)
  · refine j_iconst C dX7_isIn_14 rfl ?_
    exact j_zret C E dX7_isIn_15 rfl (by omega) (by omega) ⟨congrArg some (congrArg vi (inI_0 (by omega)).symm), rfl⟩
  · refine j_iload_n 0 C dX7_isIn_5 rfl rfl rfl ?_
    refine j_iload_n 2 C dX7_isIn_6 rfl rfl rfl ?_
    refine j_icmp_gt (tgt := 14) C dX7_isIn_7 rfl rfl ⟨by omega, by omega⟩ ⟨by omega, by omega⟩ (fun cc2 => ?_) (fun cc2 => ?_)
    · refine j_iconst C dX7_isIn_14 rfl ?_
      exact j_zret C E dX7_isIn_15 rfl (by omega) (by omega) ⟨congrArg some (congrArg vi (inI_0 (by omega)).symm), rfl⟩
    · refine j_iconst C dX7_isIn_10 rfl ?_
      refine j_goto (tgt := 15) C dX7_isIn_11 rfl ?_
      exact j_zret C E dX7_isIn_15 rfl (by omega) (by omega) ⟨congrArg some (congrArg vi (inI_1 ⟨by omega, by omega⟩).symm), rfl⟩
theorem nar_z {z : Int} (h : z = 0 ∨ z = 1) : narrow .boolean (vi z) = vi z := by rcases h with rfl | rfl <;> rfl
theorem inI_b (z a b : Int) : inI z a b = 0 ∨ inI z a b = 1 := by unfold inI; split; exact Or.inr rfl; exact Or.inl rfl
set_option maxHeartbeats 4000000 in
set_option maxRecDepth 20000 in
theorem c_isMoist (l : Launch) (hfl : l.stackTraces = false) (D : va_G) (cy : Nat → Nat) (σ : Wd) (z : Int) (hz : (-2147483648 ≤ z ∧ z < 2147483648)) : Ct l yX7_isMoist cX7_isMoist 1 (some .boolean) 1 0 0 D cy [vi (z)] σ (fun v σ' => v = some (vi (inI z 80 300)) ∧ σ' = σ) noX := by
  refine ct_start (by decide +kernel) hfl rfl (fun κ e1 e2 e3 C E NH => ?_)
  subst e1 e2 e3
  have C : Cx κ cX7_isMoist 1 RX7 "isMoist" 1 := C
  obtain ⟨-, -, -, -, hc, hs⟩ := id E
  show J κ σ [(0, vi (z))] 0 [] 0 0
  refine j_iload_n 0 C dX7_isMoist_0 rfl rfl rfl ?_
  refine j_bipush C dX7_isMoist_1 rfl (by decide) ?_
  refine j_sipush C dX7_isMoist_3 rfl (by decide) ?_
  refine j_callS (st' := []) (As := [vi (z), vi (80), vi (300)]) C dX7_isMoist_6 rfl m_X7_58 rfl rfl (c_isIn (kL κ) hfl (kD κ) (kc κ) σ z 80 300 ⟨by omega, by omega⟩ ⟨by omega, by omega⟩ ⟨by omega, by omega⟩) rfl (by omega) (by omega) (by omega) (fun _ _ hx => hx.elim) (fun v2 τ1 hp3 => ?_)
  obtain ⟨rfl, hs9⟩ := hp3
  replace hs9 := hs9.symm
  subst hs9
  show J κ σ [(0, vi (z))] 9 [vi ((inI z 80 300))] _ _
  exact j_zret C E dX7_isMoist_9 (nar_z (inI_b _ _ _)) (by omega) (by omega) ⟨rfl, rfl⟩
set_option maxHeartbeats 4000000 in
set_option maxRecDepth 20000 in
theorem c_thr0 (l : Launch) (hfl : l.stackTraces = false) (D : va_G) (cy : Nat → Nat) (σ : Wd) (am : Nat → Nat) (bs : List Bn) (ru : Nat → Int × Int) (se : Int) (pf : Nat → Int) (hd : Hd) (ca : Int) (evs : List Evt) (ln : List Int) (bl : Int × Int × Int) (th : Int) (hM : RM cy σ am bs ru se pf hd ca evs ln bl th) (k : Int) : Ct l yX7_isThrown cX7_isThrown 3 (some .boolean) 0 0 0 D cy [.ref (am 0), vi (0), vi (k)] σ (fun v σ' => v = some (vi 0) ∧ RM cy σ' am bs ru se pf hd ca evs ln bl 0 ∧ Keep σ σ' (inM am) ∧ σ'.1 = σ.1) noX := by
  refine ct_start (by decide +kernel) hfl rfl (fun κ e1 e2 e3 C E NH => ?_)
  subst e1 e2 e3
  have C : Cx κ cX7_isThrown 3 RX7 "isThrown" 0 := C
  obtain ⟨-, -, -, -, hc, hs⟩ := id E
  show J κ σ [(0, .ref (am 0)), (1, vi (0)), (2, vi (k))] 0 [] 0 0
  obtain ⟨hI1, gc1, gm1, gr1, gp1, gb1, go1, gf1, gg1, gt1, gz1, gk1, gl1, _, _, _, h01, ⟨hgc1, hgm1, hgr1, hgp1, hgb1, hgo1, hgf1, hgg1, hgt1, hgz1, hgk1, hgl1⟩, ⟨rfl, rfl, rfl⟩, hBn1, hRu1, hPr1, hTr1, hKi1, hLi1⟩ := id hM
  have hI := hI1
  have hnb61 := hBn1.1
  have kp0 : Keep σ σ (inM am) := Keep.rf
  have dm0 : σ.1 = σ.1 := rfl
  refine j_aload_n 0 C dX7_isThrown_0 rfl rfl rfl ?_
  refine j_iload_n 1 C dX7_isThrown_1 rfl rfl rfl ?_
  refine j_if_eq (tgt := 9) C dX7_isThrown_2 rfl rfl ⟨by omega, by omega⟩ (fun _ => ?_) (fun cc2 => absurd cc2 (by decide))
  refine j_iconst C dX7_isThrown_9 rfl ?_
  refine j_put (fs' := [.ref (am 1), .ref (am 2), .ref (am 3), .ref (am 4), .ref (am 5), .ref (am 6), .ref (am 7), .ref (am 8), .ref (am 9), .ref (am 10), .ref (am 11), .ref (am 12), vi ((bs.length : Int)), vi (se), vi ((evs.length : Int)), vi (hd.2.1), vi (hd.2.2.2.1), vi (hd.2.2.1), vi ((ln.length : Int)), vi (bl.1), vi (bl.2.1), vi (bl.2.2), vi (0), vl (hd.2.2.2.2), vl (ca)]) C dX7_isThrown_10 rfl fa_X7_52 h01 rfl rfl rfl rfl (fun τ3 ee4 => ?_)
  have u5 : has τ3 (am 0) (.inr (7, [.ref (am 1), .ref (am 2), .ref (am 3), .ref (am 4), .ref (am 5), .ref (am 6), .ref (am 7), .ref (am 8), .ref (am 9), .ref (am 10), .ref (am 11), .ref (am 12), vi ((bs.length : Int)), vi (se), vi ((evs.length : Int)), vi (hd.2.1), vi (hd.2.2.2.1), vi (hd.2.2.1), vi ((ln.length : Int)), vi (bl.1), vi (bl.2.1), vi (bl.2.2), vi (0), vl (hd.2.2.2.2), vl (ca)])) := h01.self' ee4
  have u6 := hgc1.ne' ee4 (hI 1 0 (by decide) (by decide) (by decide))
  have u7 := hgm1.ne' ee4 (hI 2 0 (by decide) (by decide) (by decide))
  have u8 := hgr1.ne' ee4 (hI 3 0 (by decide) (by decide) (by decide))
  have u9 := hgp1.ne' ee4 (hI 4 0 (by decide) (by decide) (by decide))
  have u10 := hgb1.ne' ee4 (hI 5 0 (by decide) (by decide) (by decide))
  have u11 := hgo1.ne' ee4 (hI 6 0 (by decide) (by decide) (by decide))
  have u12 := hgf1.ne' ee4 (hI 7 0 (by decide) (by decide) (by decide))
  have u13 := hgg1.ne' ee4 (hI 8 0 (by decide) (by decide) (by decide))
  have u14 := hgt1.ne' ee4 (hI 9 0 (by decide) (by decide) (by decide))
  have u15 := hgz1.ne' ee4 (hI 10 0 (by decide) (by decide) (by decide))
  have u16 := hgk1.ne' ee4 (hI 11 0 (by decide) (by decide) (by decide))
  have u17 := hgl1.ne' ee4 (hI 12 0 (by decide) (by decide) (by decide))
  have kp18 := kp0.put ee4 ⟨0, by decide, rfl⟩
  have dm19 := (dom_put ee4).trans dm0
  refine j_iload_n 1 C dX7_isThrown_13 rfl rfl rfl ?_
  exact j_zret C E dX7_isThrown_14 rfl (by omega) (by omega) ⟨rfl, ⟨hI, _, _, _, _, _, _, _, _, _, _, _, _, _, _, _, u5, ⟨u6, u7, u8, u9, u10, u11, u12, u13, u14, u15, u16, u17⟩, ⟨rfl, rfl, rfl⟩, hBn1, hRu1, hPr1, hTr1, hKi1, hLi1⟩, kp18, dm19⟩
set_option maxHeartbeats 4000000 in
set_option maxRecDepth 20000 in
theorem c_thr1 (l : Launch) (hfl : l.stackTraces = false) (D : va_G) (cy : Nat → Nat) (σ : Wd) (am : Nat → Nat) (bs : List Bn) (ru : Nat → Int × Int) (se : Int) (pf : Nat → Int) (hd : Hd) (ca : Int) (evs : List Evt) (ln : List Int) (bl : Int × Int × Int) (th : Int) (hM : RM cy σ am bs ru se pf hd ca evs ln bl th) (k : Int) : Ct l yX7_isThrown cX7_isThrown 3 (some .boolean) 0 0 0 D cy [.ref (am 0), vi (1), vi (k)] σ (fun v σ' => v = some (vi 1) ∧ RM cy σ' am bs ru se pf hd ca evs ln bl k ∧ Keep σ σ' (inM am) ∧ σ'.1 = σ.1) noX := by
  refine ct_start (by decide +kernel) hfl rfl (fun κ e1 e2 e3 C E NH => ?_)
  subst e1 e2 e3
  have C : Cx κ cX7_isThrown 3 RX7 "isThrown" 0 := C
  obtain ⟨-, -, -, -, hc, hs⟩ := id E
  show J κ σ [(0, .ref (am 0)), (1, vi (1)), (2, vi (k))] 0 [] 0 0
  obtain ⟨hI1, gc1, gm1, gr1, gp1, gb1, go1, gf1, gg1, gt1, gz1, gk1, gl1, _, _, _, h01, ⟨hgc1, hgm1, hgr1, hgp1, hgb1, hgo1, hgf1, hgg1, hgt1, hgz1, hgk1, hgl1⟩, ⟨rfl, rfl, rfl⟩, hBn1, hRu1, hPr1, hTr1, hKi1, hLi1⟩ := id hM
  have hI := hI1
  have hnb61 := hBn1.1
  have kp0 : Keep σ σ (inM am) := Keep.rf
  have dm0 : σ.1 = σ.1 := rfl
  refine j_aload_n 0 C dX7_isThrown_0 rfl rfl rfl ?_
  refine j_iload_n 1 C dX7_isThrown_1 rfl rfl rfl ?_
  refine j_if_eq (tgt := 9) C dX7_isThrown_2 rfl rfl ⟨by omega, by omega⟩ (fun cc2 => absurd cc2 (by decide)) (fun _ => ?_)
  refine j_iload_n 2 C dX7_isThrown_5 rfl rfl rfl ?_
  refine j_goto (tgt := 10) C dX7_isThrown_6 rfl ?_
  refine j_put (fs' := [.ref (am 1), .ref (am 2), .ref (am 3), .ref (am 4), .ref (am 5), .ref (am 6), .ref (am 7), .ref (am 8), .ref (am 9), .ref (am 10), .ref (am 11), .ref (am 12), vi ((bs.length : Int)), vi (se), vi ((evs.length : Int)), vi (hd.2.1), vi (hd.2.2.2.1), vi (hd.2.2.1), vi ((ln.length : Int)), vi (bl.1), vi (bl.2.1), vi (bl.2.2), vi (k), vl (hd.2.2.2.2), vl (ca)]) C dX7_isThrown_10 rfl fa_X7_52 h01 rfl rfl rfl rfl (fun τ3 ee4 => ?_)
  have u5 : has τ3 (am 0) (.inr (7, [.ref (am 1), .ref (am 2), .ref (am 3), .ref (am 4), .ref (am 5), .ref (am 6), .ref (am 7), .ref (am 8), .ref (am 9), .ref (am 10), .ref (am 11), .ref (am 12), vi ((bs.length : Int)), vi (se), vi ((evs.length : Int)), vi (hd.2.1), vi (hd.2.2.2.1), vi (hd.2.2.1), vi ((ln.length : Int)), vi (bl.1), vi (bl.2.1), vi (bl.2.2), vi (k), vl (hd.2.2.2.2), vl (ca)])) := h01.self' ee4
  have u6 := hgc1.ne' ee4 (hI 1 0 (by decide) (by decide) (by decide))
  have u7 := hgm1.ne' ee4 (hI 2 0 (by decide) (by decide) (by decide))
  have u8 := hgr1.ne' ee4 (hI 3 0 (by decide) (by decide) (by decide))
  have u9 := hgp1.ne' ee4 (hI 4 0 (by decide) (by decide) (by decide))
  have u10 := hgb1.ne' ee4 (hI 5 0 (by decide) (by decide) (by decide))
  have u11 := hgo1.ne' ee4 (hI 6 0 (by decide) (by decide) (by decide))
  have u12 := hgf1.ne' ee4 (hI 7 0 (by decide) (by decide) (by decide))
  have u13 := hgg1.ne' ee4 (hI 8 0 (by decide) (by decide) (by decide))
  have u14 := hgt1.ne' ee4 (hI 9 0 (by decide) (by decide) (by decide))
  have u15 := hgz1.ne' ee4 (hI 10 0 (by decide) (by decide) (by decide))
  have u16 := hgk1.ne' ee4 (hI 11 0 (by decide) (by decide) (by decide))
  have u17 := hgl1.ne' ee4 (hI 12 0 (by decide) (by decide) (by decide))
  have kp18 := kp0.put ee4 ⟨0, by decide, rfl⟩
  have dm19 := (dom_put ee4).trans dm0
  refine j_iload_n 1 C dX7_isThrown_13 rfl rfl rfl ?_
  exact j_zret C E dX7_isThrown_14 rfl (by omega) (by omega) ⟨rfl, ⟨hI, _, _, _, _, _, _, _, _, _, _, _, _, _, _, _, u5, ⟨u6, u7, u8, u9, u10, u11, u12, u13, u14, u15, u16, u17⟩, ⟨rfl, rfl, rfl⟩, hBn1, hRu1, hPr1, hTr1, hKi1, hLi1⟩, kp18, dm19⟩
set_option maxHeartbeats 4000000 in
set_option maxRecDepth 20000 in
theorem c_isNoBin (l : Launch) (hfl : l.stackTraces = false) (D : va_G) (cy : Nat → Nat) (σ : Wd) (am : Nat → Nat) (bs : List Bn) (ru : Nat → Int × Int) (se : Int) (pf : Nat → Int) (hd : Hd) (ca : Int) (evs : List Evt) (ln : List Int) (bl : Int × Int × Int) (th : Int) (hM : RM cy σ am bs ru se pf hd ca evs ln bl th) (b : Int) (hb : (-2147483648 ≤ b ∧ b < 2147483648)) : Ct l yX7_isNoBin cX7_isNoBin 2 (some .boolean) 1 0 0 D cy [.ref (am 0), vi (b)] σ (fun v σ' => v = some (vi (1 - inI b 0 ((bs.length : Int) - 1))) ∧ RM cy σ' am bs ru se pf hd ca evs ln bl (1 - inI b 0 ((bs.length : Int) - 1)) ∧ Keep σ σ' (inM am) ∧ σ'.1 = σ.1) noX := by
  refine ct_start (by decide +kernel) hfl rfl (fun κ e1 e2 e3 C E NH => ?_)
  subst e1 e2 e3
  have C : Cx κ cX7_isNoBin 2 RX7 "isNoBin" 1 := C
  obtain ⟨-, -, -, -, hc, hs⟩ := id E
  show J κ σ [(0, .ref (am 0)), (1, vi (b))] 0 [] 0 0
  obtain ⟨hI1, gc1, gm1, gr1, gp1, gb1, go1, gf1, gg1, gt1, gz1, gk1, gl1, _, _, _, h01, ⟨hgc1, hgm1, hgr1, hgp1, hgb1, hgo1, hgf1, hgg1, hgt1, hgz1, hgk1, hgl1⟩, ⟨rfl, rfl, rfl⟩, hBn1, hRu1, hPr1, hTr1, hKi1, hLi1⟩ := id hM
  have hI := hI1
  have hnb61 := hBn1.1
  have kp0 : Keep σ σ (inM am) := Keep.rf
  have dm0 : σ.1 = σ.1 := rfl
  refine j_aload_n 0 C dX7_isNoBin_0 rfl rfl rfl ?_
  refine j_iload_n 1 C dX7_isNoBin_1 rfl rfl rfl ?_
  refine j_iconst C dX7_isNoBin_2 rfl ?_
  refine j_aload_n 0 C dX7_isNoBin_3 rfl rfl rfl ?_
  refine j_get C dX7_isNoBin_4 rfl fg_X7_55 h01 rfl ?_
  refine j_iconst C dX7_isNoBin_7 rfl ?_
  refine j_isub C dX7_isNoBin_8 rfl ?_
  refine j_callS (st' := [.ref (am 0)]) (As := [vi (b), vi (0), vi ((bs.length : Int) - 1)]) C dX7_isNoBin_9 rfl m_X7_58 rfl rfl (c_isIn (kL κ) hfl (kD κ) (kc κ) σ b 0 ((bs.length : Int) - 1) ⟨by omega, by omega⟩ ⟨by omega, by omega⟩ ⟨by omega, by omega⟩) rfl (by omega) (by omega) (by omega) (fun _ _ hx => hx.elim) (fun v3 τ2 hp4 => ?_)
  obtain ⟨rfl, hs9⟩ := hp4
  replace hs9 := hs9.symm
  subst hs9
  show J κ σ [(0, .ref (am 0)), (1, vi (b))] 12 [vi ((inI b 0 ((bs.length : Int) - 1))), .ref (am 0)] _ _
  refine j_if_ne (tgt := 19) C dX7_isNoBin_12 rfl rfl (inI_r _ _ _) (fun cc5 => ?_) (fun cc5 => ?_)
  · replace cc5 := inI_T cc5
    refine j_iconst C dX7_isNoBin_19 rfl ?_
    refine j_iconst C dX7_isNoBin_20 rfl ?_
    refine j_callV (st' := []) (As := [vi (0), vi (1)]) C dX7_isNoBin_21 rfl m_X7_62 h01 rfl rfl rfl (c_thr0 (kL κ) hfl (kD κ) (kc κ) σ am bs ru se pf hd ca evs ln bl th hM 1) rfl (by omega) (by omega) (by omega) (fun _ _ hx => hx.elim) (fun v7 τ6 hp8 => ?_)
    obtain ⟨rfl, hN9, hN9k, hN9d⟩ := hp8
    show J κ τ6 [(0, .ref (am 0)), (1, vi (b))] 24 [vi (0)] _ _
    have hN9K := kp0.tr hN9k
    have hN9D := hN9d.trans dm0
    obtain ⟨hI10, gc10, gm10, gr10, gp10, gb10, go10, gf10, gg10, gt10, gz10, gk10, gl10, _, _, _, h010, ⟨hgc10, hgm10, hgr10, hgp10, hgb10, hgo10, hgf10, hgg10, hgt10, hgz10, hgk10, hgl10⟩, ⟨rfl, rfl, rfl⟩, hBn10, hRu10, hPr10, hTr10, hKi10, hLi10⟩ := id hN9
    have hI := hI10
    have hnb610 := hBn10.1
    have e9 : inI b 0 ((bs.length : Int) - 1) = 1 := inI_1 ⟨by omega, by omega⟩
    exact j_zret C E dX7_isNoBin_24 rfl (by omega) (by omega) ⟨by rw [e9]; rfl, by rw [e9]; exact hN9, hN9K, hN9D⟩
  · replace cc5 := inI_F cc5
    refine j_iconst C dX7_isNoBin_15 rfl ?_
    refine j_goto (tgt := 20) C dX7_isNoBin_16 rfl ?_
    refine j_iconst C dX7_isNoBin_20 rfl ?_
    refine j_callV (st' := []) (As := [vi (1), vi (1)]) C dX7_isNoBin_21 rfl m_X7_62 h01 rfl rfl rfl (c_thr1 (kL κ) hfl (kD κ) (kc κ) σ am bs ru se pf hd ca evs ln bl th hM 1) rfl (by omega) (by omega) (by omega) (fun _ _ hx => hx.elim) (fun v12 τ11 hp13 => ?_)
    obtain ⟨rfl, hN14, hN14k, hN14d⟩ := hp13
    show J κ τ11 [(0, .ref (am 0)), (1, vi (b))] 24 [vi (1)] _ _
    have hN14K := kp0.tr hN14k
    have hN14D := hN14d.trans dm0
    obtain ⟨hI15, gc15, gm15, gr15, gp15, gb15, go15, gf15, gg15, gt15, gz15, gk15, gl15, _, _, _, h015, ⟨hgc15, hgm15, hgr15, hgp15, hgb15, hgo15, hgf15, hgg15, hgt15, hgz15, hgk15, hgl15⟩, ⟨rfl, rfl, rfl⟩, hBn15, hRu15, hPr15, hTr15, hKi15, hLi15⟩ := id hN14
    have hI := hI15
    have hnb615 := hBn15.1
    have e9 : inI b 0 ((bs.length : Int) - 1) = 0 := inI_0 (by omega)
    exact j_zret C E dX7_isNoBin_24 rfl (by omega) (by omega) ⟨by rw [e9]; rfl, by rw [e9]; exact hN14, hN14K, hN14D⟩
