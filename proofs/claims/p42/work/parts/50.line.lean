/-! GrainElevator: writing a bin -/
/-- the text of k layers -/
def lnK (L : List Ly) : Nat → List Int
  | 0 => []
  | k + 1 => ((((((lnK L k ++ (if k = 0 then [] else [32])) ++ dg (lyAt L (k : Int)).1) ++ [64]) ++ dg (lyAt L (k : Int)).2.1) ++ [103]) ++ dg (lyAt L (k : Int)).2.2.2)
def lnF (L : List Ly) : List Int := lnK L L.length
theorem sz_le (n : Int) : (n < 10 → sz n = 1) ∧ (n < 1000 → sz n ≤ 3) := by
  unfold sz
  by_cases h1 : n < 10
  · rw [if_pos h1]; omega
  · rw [if_neg h1]
    by_cases h2 : n < 100
    · rw [if_pos h2]; omega
    · rw [if_neg h2]
      by_cases h3 : n < 1000
      · rw [if_pos h3]; omega
      · rw [if_neg h3]; omega
theorem lnK_len {L : List Ly} (hok : lysOk L) : ∀ k : Nat, k ≤ L.length → (lnK L k).length ≤ 11 * k
  | 0, _ => Nat.le_refl _
  | k + 1, h => by
    have ih := lnK_len hok k (by omega)
    obtain ⟨⟨a1, a2⟩, ⟨b1, b2⟩, -, c1, c2⟩ := lyAt_ok hok (i := (k : Int)) (by omega) (by omega)
    have d1 := dg_len (lyAt L (k : Int)).1
    have d2 := dg_len (lyAt L (k : Int)).2.1
    have d3 := dg_len (lyAt L (k : Int)).2.2.2
    have s1 := sz_in (lyAt L (k : Int)).1
    have s2 := sz_le (lyAt L (k : Int)).2.1
    have s3 := sz_le (lyAt L (k : Int)).2.2.2
    have e : ([64] : List Int).length = 1 ∧ ([103] : List Int).length = 1 ∧ (if k = 0 then ([] : List Int) else [32]).length ≤ 1 := by
      refine ⟨rfl, rfl, ?_⟩
      split <;> simp
    unfold lnK
    simp only [List.length_append]
    omega
theorem gfacts (cap : Nat) (le : Int) : (le ≤ (cap : Int) ∧ capF cap le = cap ∧ gC cap le = 0 ∧ gS cap le = 0) ∨ ((cap : Int) < le ∧ capF cap le = 2 * cap + 2 ∧ gC cap le = 1 ∧ gS cap le = 2 * cap + 2) := by
  unfold capF gC gS
  by_cases h : le ≤ (cap : Int)
  · rw [if_pos h, if_pos h, if_pos h]; exact Or.inl ⟨h, rfl, rfl, rfl⟩
  · rw [if_neg h, if_neg h, if_neg h]; exact Or.inr ⟨by omega, rfl, rfl, rfl⟩
theorem RX.line {cy : Nat → Nat} {σ σ' : Wd} {tg ad : Nat → Nat} {bs : List Bn} {ru : Nat → Int × Int} {se : Int} {pf : Nat → Int} {hd : Hd} {ca : Int} {evs : List Evt} {ln ln' : List Int} (h : RX cy σ tg ad bs ru se pf hd ca evs ln) (hk : Keep σ σ' (fun y => y = ad 13 ∨ y = ad 14)) {d cap : Nat} (hd9 : d = ad 14 ∨ d ∉ σ.1) (hS : SbR cy σ' (ad 13) d cap ln') (hl : ln'.length ≤ 900) : RX cy σ' (updN tg d 14) (updN ad 14 d) bs ru se pf hd ca evs ln' ∧ ∀ y, y ∈ σ.1 → updN tg d 14 y = tg y := by
  obtain ⟨⟨x1, x2⟩, hB, ⟨bsA, hA, hAe⟩, hE, hX, hO⟩ := h
  have hX9 := hX
  obtain ⟨⟨⟨r1, r2, r3, r4⟩, t7, t8, t9⟩, ⟨p1, t10⟩, ⟨⟨d1, d2⟩, t11, t12⟩, cap0, ⟨ml, g, ⟨s1, s2, s3⟩, s4⟩, t13, t14⟩ := hX9
  have hF : ∀ y, y ∈ σ.1 → (y = ad 13 ∨ y = ad 14) → tg y = 13 ∨ tg y = 14 := fun y _ z => z.elim (fun z => Or.inl (by rw [z]; exact t13)) (fun z => Or.inr (by rw [z]; exact t14))
  have hT : ∀ y, y ∈ σ.1 → updN tg d 14 y = tg y := fun y hy => by
    by_cases hyd : y = d
    · rw [hyd, updN_s]
      exact hd9.elim (fun z => by rw [z]; exact t14.symm) (fun z => absurd (hyd ▸ hy) z)
    · exact updN_n hyd
  have hAd : ∀ k, k ≠ 14 → updN ad 14 d k = ad k := fun k hk => updN_n hk
  have z : ∀ {y : Nat} {x : va_E}, has σ y x → tg y ≠ 13 → tg y ≠ 14 → has σ' y x := fun hy a b => hk _ _ hy (fun q => by have := hF _ hy.1 q; omega)
  have h6 := hB.2.1
  have h6' := hA.2.1
  have h80 := hO.2.2.1.2
  refine ⟨⟨⟨?_, ?_⟩, ?_, ⟨bsA, ?_, hAe⟩, ?_, ?_, ⟨hO.1, hO.2.1, hO.2.2.1, hO.2.2.2.1, hO.2.2.2.2.1, hl, hO.2.2.2.2.2.2⟩⟩, hT⟩
  · have e : xV (updN ad 14 d) ca = xV ad ca := by unfold xV; rw [hAd 1 (by decide), hAd 3 (by decide), hAd 5 (by decide), hAd 7 (by decide), hAd 10 (by decide), hAd 11 (by decide), hAd 13 (by decide)]
    rw [e, hAd 0 (by decide)]
    exact z x1 (by omega) (by omega)
  · rw [hAd 0 (by decide), hT _ x1.1]; exact x2
  · exact (hB.keep hk (fun y hy q => by have := hF y hy q; omega)).retagS hT (fun i hi y hy => (hB.2.2 i hi).1.in hy) hB.1.1 (fun k hk => hAd k (by omega))
  · exact (hA.keep hk (fun y hy q => by have := hF y hy q; omega)).retagS hT (fun i hi y hy => (hA.2.2 i hi).1.in hy) hA.1.1 (fun k hk => hAd k (by omega))
  · have hE2 := hE.keep hk (fun y hy q => by have := hF y hy q; omega) h80
    obtain ⟨⟨e1, e2, e3⟩, e5⟩ := hE
    obtain ⟨⟨f1, f2, f3⟩, f5⟩ := hE2
    refine ⟨⟨?_, ?_, ?_⟩, fun j e he => ?_⟩
    · rw [hAd 5 (by decide), hAd 6 (by decide), evl_cong (fun j hj => hAd _ (by omega))]; exact f1
    · rw [hAd 5 (by decide), hT _ e1.amem]; exact e2
    · rw [hAd 6 (by decide)]
      rcases e3 with e3 | e3
      · exact Or.inl e3
      · rcases e1.dmem with q | q
        · exact Or.inl ⟨q.1, List.eq_nil_of_length_eq_zero (by have := congrArg List.length q.2; rw [evl_len] at this; exact this)⟩
        · exact Or.inr (by rw [hT _ q]; exact e3)
    · rw [hAd _ (by omega)]
      exact ⟨(f5 j e he).1, by rw [hT _ (e5 j e he).1.1]; exact (e5 j e he).2⟩
  · unfold FxR
    rw [hAd 7 (by decide), hAd 8 (by decide), hAd 9 (by decide), hAd 10 (by decide), hAd 11 (by decide), hAd 12 (by decide), hAd 13 (by decide), updN_s]
    exact ⟨⟨⟨z r1 (by omega) (by omega), z r2 (by omega) (by omega), z r3 (by omega) (by omega), r4⟩, (hT _ r1.1).trans t7, (hT _ r2.1).trans t8, (hT _ r3.1).trans t9⟩, ⟨z p1 (by omega) (by omega), (hT _ p1.1).trans t10⟩, ⟨⟨z d1 (by omega) (by omega), z d2 (by omega) (by omega)⟩, (hT _ d1.1).trans t11, (hT _ d2.1).trans t12⟩, cap, hS, (hT _ s1.1).trans t13, updN_s⟩
/-- the line while it is being written: world, bytes' place, capacity, cells and slots made, text, a bound of its length -/
def WB (cy : Nat → Nat) (σ σ1 : Wd) (ad : Nat → Nat) (cap0 d c k n : Nat) (cs : List Int) (B : Nat) : Prop := (Keep σ σ1 (fun y => y = ad 13 ∨ y = ad 14) ∧ (∀ y, y ∈ σ.1 → y ∈ σ1.1) ∧ (d = ad 14 ∨ d ∉ σ.1)) ∧ SbR cy σ1 (ad 13) d c cs ∧ (16 * k + cap0 ≤ c ∧ n + 2 * cap0 ≤ 2 * c ∧ c ≤ max cap0 1802 ∧ 16 ≤ cap0 ∧ cap0 ≤ 4000) ∧ cs.length ≤ B
theorem WB.fit {cy : Nat → Nat} {σ σ1 : Wd} {ad : Nat → Nat} {cap0 d c k n : Nat} {cs : List Int} {B : Nat} (h : WB cy σ σ1 ad cap0 d c k n cs B) {le : Int} (hle : le ≤ 900) : k + gC c le ≤ 250 ∧ n + gS c le ≤ 3604 + 4000 := by
  obtain ⟨-, -, hr, -⟩ := h
  rcases gfacts c le with ⟨a1, a2, a3, a4⟩ | ⟨a1, a2, a3, a4⟩
  · rw [a3, a4]; omega
  · rw [a3, a4]; omega
theorem WB.room {cy : Nat → Nat} {σ σ1 : Wd} {ad : Nat → Nat} {cap0 d c k n : Nat} {cs : List Int} {B : Nat} (h : WB cy σ σ1 ad cap0 d c k n cs B) : k ≤ 250 ∧ n ≤ 7604 := by
  obtain ⟨-, -, hr, -⟩ := h
  omega
theorem WB.app {cy : Nat → Nat} {σ σ1 σ2 : Wd} {ad : Nat → Nat} {cap0 d c k n : Nat} {cs cs' : List Int} {B B' : Nat} (h : WB cy σ σ1 ad cap0 d c k n cs B) {le : Int} (hle : le ≤ 900) {d' : Nat} (hS : SbR cy σ2 (ad 13) d' (capF c le) cs') (hd : (d' = d ∧ σ2.1 = σ1.1) ∨ (d' ∉ σ1.1 ∧ σ2.1 = σ1.1 ++ [d'])) (hk : Keep σ1 σ2 (fun x => x = ad 13 ∨ x = d)) (hl : cs'.length ≤ B') : WB cy σ σ2 ad cap0 d' (capF c le) (k + gC c le) (n + gS c le) cs' B' := by
  obtain ⟨⟨b1, b2, b3⟩, -, hr, -⟩ := h
  refine ⟨⟨b1.tr2 hk (fun y z => z.elim (fun z => Or.inl (Or.inl z)) (fun z => b3.elim (fun e => Or.inl (Or.inr (z.trans e))) (fun e => Or.inr (by rw [z]; exact e)))), fun y hy => hd.elim (fun z => by rw [z.2]; exact b2 y hy) (fun z => by rw [z.2]; exact List.mem_append_left _ (b2 y hy)), hd.elim (fun z => by rw [z.1]; exact b3) (fun z => Or.inr (fun y => z.1 (b2 _ y)))⟩, hS, ?_, hl⟩
  rcases gfacts c le with ⟨a1, a2, a3, a4⟩ | ⟨a1, a2, a3, a4⟩
  · rw [a2, a3, a4]; omega
  · rw [a2, a3, a4]; omega
set_option maxHeartbeats 16000000 in
set_option maxRecDepth 20000 in
theorem c_writeBin (l : Launch) (hfl : l.stackTraces = false) (D : va_G) (cy : Nat → Nat) (σ : Wd) (tg ad : Nat → Nat) (bs : List Bn) (ru : Nat → Int × Int) (se : Int) (pf : Nat → Int) (hd : Hd) (ca : Int) (evs : List Evt) (ln : List Int) (hX0 : RX cy σ tg ad bs ru se pf hd ca evs ln) (i : Nat) (hi : i < bs.length) : Ct l yX6_writeBin cX6_writeBin 4 (some .int) 7 250 7604 D cy [.ref (ad 0), vi ((i : Int))] σ (fun v σ' => v = some (vi ((lnF (fl (gB bs i))).length : Int)) ∧ ∃ tg' ad' : Nat → Nat, RX cy σ' tg' ad' bs ru se pf hd ca evs (lnF (fl (gB bs i))) ∧ (∀ y, y ∈ σ.1 → tg' y = tg y) ∧ ad' 0 = ad 0 ∧ Keep σ σ' (fun y => tg y < 1000) ∧ ∀ y, y ∈ σ.1 → y ∈ σ'.1) noX := by
  refine ct_start (by decide +kernel) hfl rfl (fun κ e1 e2 e3 C E NH => ?_)
  subst e1 e2 e3
  have C : Cx κ cX6_writeBin 4 RX6 "writeBin" 7 := C
  obtain ⟨-, -, -, -, hc, hs⟩ := id E
  show J κ σ [(0, .ref (ad 0)), (1, vi ((i : Int)))] 0 [] 0 0
  have hXX := hX0
  obtain ⟨⟨x1, x2⟩, hB, ⟨bsA, hA, hAe⟩, hEv, hX, hO⟩ := hXX
  obtain ⟨⟨hR, t7, t8, t9⟩, ⟨hPr, t10⟩, ⟨hH, t11, t12⟩, cap0, hSb, t13, t14⟩ := id hX
  have hL1 := hB.1.1
  have hL5 := hEv.1.1
  have hbl := bins_len ad 100 bs.length
  have hel9 := evl_len ad evs.length
  have h6 := hB.2.1
  obtain ⟨⟨hc1, hc2⟩, hc3, hc4⟩ := hO.2.2.2.1
  have hev80 := hO.2.2.1.2
  have hpr := hO.2.2.2.2.1
  have hRo := hR.1
  have hHo := hH.1
  obtain ⟨ml0, g0, hSc, -⟩ := id hSb
  have hSo := hSc.1
  have hTb := totB_in hO.2.1
  obtain ⟨m91, hl91, -⟩ := id hL1
  obtain ⟨m92, hl92, -⟩ := id hL5
  obtain ⟨⟨cap, mf, ly⟩, hg7⟩ : ∃ z, gB bs (i : Int) = z := ⟨_, rfl⟩
  have hb7 := hB.at hi hg7
  have hbk7 := hO.2.1 _ (gB_mem (bs := bs) (i := (i : Int)) (by omega) (by omega))
  rw [hg7] at hbk7
  obtain ⟨hcp7, hly7, htc7⟩ := hbk7
  dsimp only at hcp7 hly7 htc7
  have ht07 := tot_0 hly7
  obtain ⟨old7, ga7, gb7, gc7, gd7, ⟨hh7, -, -⟩, -, hcn7, -, hok7⟩ := id hb7
  dsimp only at hh7 hcn7 hok7
  obtain ⟨L, hLe⟩ : ∃ L, fl (cap, mf, ly) = L := ⟨_, rfl⟩
  have hbF : fl (gB bs i) = L := by rw [hg7]; exact hLe
  rw [hbF] at E
  have hokL : lysOk L := by rw [← hLe]; exact fl_ok (b := (cap, mf, ly)) hly7
  have hlL : L.length = ly.length := by rw [← hLe, fl_len]
  have hlb9 := len_lenB (gB_mem (bs := bs) (i := (i : Int)) (by omega) (by omega))
  rw [hg7] at hlb9
  have hlb8 := hO.2.2.1
  have hL80 : L.length ≤ 80 := by dsimp only at hlb9; omega
  have hTi := hB.2.2 i hi
  have hcap0 := hSc.2.2.1
  have hbk9 : ∀ y, iB ad 100 i y → ¬ (y = ad 13 ∨ y = ad 14) := fun y hy z => by have z1 := hTi.tag hy; rcases z with z | z <;> rw [z] at z1 <;> omega
  have hx19 : ¬ (ad 0 = ad 13 ∨ ad 0 = ad 14) := fun z => z.elim (fun z => by rw [z] at x2; omega) (fun z => by rw [z] at x2; omega)
  refine j_aload_n 0 C dX6_writeBin_0 rfl rfl rfl ?_
  refine j_get C dX6_writeBin_1 rfl fg_X6_12 x1 rfl ?_
  refine j_iload_n 1 C dX6_writeBin_4 rfl rfl rfl ?_
  refine j_callS (st' := []) (As := [.ref (ad 1), vi ((i : Int))]) C dX6_writeBin_5 rfl m_X6_75 rfl rfl (c_biG (kL κ) hfl (kD κ) (kc κ) σ (ad 1) (ad 2) _ hL1 i _ (bins_at hi) _ hh7) rfl (by omega) (by omega) (by omega) (fun _ _ hx => hx.elim) (fun v2 τ1 hp3 => ?_)
  obtain ⟨rfl, hs9⟩ := hp3
  replace hs9 := hs9.symm
  subst hs9
  show J κ σ [(0, .ref (ad 0)), (1, vi ((i : Int)))] 8 [.ref (bq ad 100 i 0)] _ _
  refine j_astore_n (lv' := [(0, .ref (ad 0)), (1, vi ((i : Int))), (2, .ref (bq ad 100 i 0))]) [1, 2, 0] C dX6_writeBin_8 rfl rfl rfl rfl ?_
  refine j_aload_n 0 C dX6_writeBin_9 rfl rfl rfl ?_
  refine j_get C dX6_writeBin_10 rfl fg_X6_43 x1 rfl ?_
  refine j_iconst C dX6_writeBin_13 rfl ?_
  refine j_callV (st' := []) (As := [vi (0)]) C dX6_writeBin_14 rfl m_X6_255 hSo rfl rfl rfl (c_setLength (kL κ) hfl (kD κ) (kc κ) σ (ad 13) (ad 14) cap0 ln hSb) rfl (by omega) (by omega) (by omega) (fun _ _ hx => hx.elim) (fun v5 τ4 hp6 => ?_)
  obtain ⟨rfl, hS0, hk0, hd0⟩ := hp6
  show J κ τ4 [(0, .ref (ad 0)), (1, vi ((i : Int))), (2, .ref (bq ad 100 i 0))] 17 [] _ _
  have hW0 : WB (kc κ) σ τ4 ad cap0 (ad 14) cap0 0 0 [] 0 := ⟨⟨hk0.mono (fun _ z => Or.inl z), fun y hy => by rw [hd0]; exact hy, Or.inl rfl⟩, hS0, ⟨by omega, by omega, by omega, by omega, by omega⟩, Nat.le_refl _⟩
  refine j_iconst C dX6_writeBin_17 rfl ?_
  refine j_istore_n (lv' := [(0, .ref (ad 0)), (1, vi ((i : Int))), (2, .ref (bq ad 100 i 0)), (3, vi (0))]) [1, 2, 3, 0] C dX6_writeBin_18 rfl rfl rfl rfl ?_
  have lp : ∀ (N : Nat) (q : Nat) (σ1 : Wd) (d1 : Nat) (c1 : Nat) (k1 : Nat) (n1 : Nat), WB (kc κ) σ σ1 ad cap0 d1 c1 k1 n1 (lnK L q) 880 → q ≤ L.length → (L.length + 1 - q) < N → J κ σ1 [(0, .ref (ad 0)), (1, vi ((i : Int))), (2, .ref (bq ad 100 i 0)), (3, vi ((q : Int)))] 19 [] k1 n1 := by
    intro N
    induction N with
    | zero => intro q σ1 d1 c1 k1 n1 hW1 hq hN; exact absurd hN (Nat.not_lt_zero _)
    | succ N ih =>
      intro q σ1 d1 c1 k1 n1 hW1 hq hN
      have hrmxs9 := hW1.room
      have xa7 := hW1.1.1 _ _ x1 hx19
      have xb8 := hb7.keep hW1.1.1 hbk9
      obtain ⟨oxb8, gaxb8, gbxb8, gcxb8, gdxb8, ⟨hhxb8, -, -⟩, -⟩ := id xb8
      dsimp only at hhxb8
      obtain ⟨mlxs9, gxs9, ⟨hoxs9, -, -⟩, -⟩ := id hW1.2.1
      refine j_iload_n 3 C dX6_writeBin_19 rfl rfl rfl ?_
      refine j_aload_n 2 C dX6_writeBin_20 rfl rfl rfl ?_
      refine j_get C dX6_writeBin_21 rfl fg_X6_137 hhxb8 rfl ?_
      refine j_icmp_ge (tgt := 106) C dX6_writeBin_24 rfl rfl ⟨by omega, by omega⟩ ⟨by omega, by omega⟩ (fun cc10 => ?_) (fun cc10 => ?_)
      · have hqe : q = L.length := by omega
        have hlk := lnK_len hokL q (by omega)
        refine j_aload_n 0 C dX6_writeBin_106 rfl rfl rfl ?_
        refine j_get C dX6_writeBin_107 rfl fg_X6_43 xa7 rfl ?_
        refine j_callV (st' := []) (As := []) C dX6_writeBin_110 rfl m_X6_265 hoxs9 rfl rfl rfl (c_sbLength (kL κ) hfl (kD κ) (kc κ) σ1 (ad 13) d1 c1 _ hW1.2.1) rfl (by omega) (by omega) (by omega) (fun _ _ hx => hx.elim) (fun v12 τ11 hp13 => ?_)
        obtain ⟨rfl, hs9⟩ := hp13
        replace hs9 := hs9.symm
        subst hs9
        show J κ σ1 [(0, .ref (ad 0)), (1, vi ((i : Int))), (2, .ref (bq ad 100 i 0)), (3, vi ((q : Int)))] 113 [vi (((lnK L q).length : Int))] _ _
        obtain ⟨hRX, hTT⟩ := hX0.line hW1.1.1 hW1.1.2.2 hW1.2.1 (by omega)
        have e9 : lnK L q = lnF L := by rw [hqe]; rfl
        rw [e9] at hRX
        have hft := hW1.2.2.1
        exact j_iret C E dX6_writeBin_113 (by omega) (by omega) ⟨by rw [e9], updN tg d1 14, updN ad 14 d1, hRX, hTT, updN_n (by decide), hW1.1.1.mono (fun y z => by show tg y < 1000; rcases z with z | z <;> rw [z] <;> omega), hW1.1.2.1⟩
      · have hq9 : q < L.length := by omega
        have hlk := lnK_len hokL q (by omega)
        have hW2 : WB (kc κ) σ σ1 ad cap0 d1 c1 k1 n1 (lnK L q) 869 := ⟨hW1.1, hW1.2.1, hW1.2.2.1, by omega⟩
        obtain ⟨⟨a1, a2⟩, ⟨b1, b2⟩, -, g1, g2⟩ := lyAt_ok hokL (i := (q : Int)) (by omega) (by omega)
        obtain ⟨y, hy9⟩ : ∃ y, lyAt L (q : Int) = y := ⟨_, rfl⟩
        rw [hy9] at a1 a2 b1 b2 g1 g2
        refine j_iload_n 3 C dX6_writeBin_27 rfl rfl rfl ?_
        refine j_if_le (tgt := 41) C dX6_writeBin_28 rfl rfl ⟨by omega, by omega⟩ (fun cc14 => ?_) (fun cc14 => ?_)
        · refine j_aload_n 0 C dX6_writeBin_41 rfl rfl rfl ?_
          refine j_get C dX6_writeBin_42 rfl fg_X6_43 xa7 rfl ?_
          refine j_aload_n 2 C dX6_writeBin_45 rfl rfl rfl ?_
          refine j_iload_n 3 C dX6_writeBin_46 rfl rfl rfl ?_
          refine j_callV (st' := [.ref (ad 13)]) (As := [vi ((q : Int))]) C dX6_writeBin_47 rfl m_X6_166 hhxb8 rfl rfl rfl (c_bushelsAt (kL κ) hfl (kD κ) (kc κ) σ1 (bq ad 100 i 0) (bq ad 100 i 1) (bq ad 100 i 2) (bq ad 100 i 3) (bq ad 100 i 4) cap mf ly xb8 (q : Int) ⟨by omega, by omega⟩) rfl (by omega) (by omega) (by omega) (fun _ _ hx => hx.elim) (fun v16 τ15 hp17 => ?_)
          obtain ⟨rfl, hs9⟩ := hp17
          replace hs9 := hs9.symm
          subst hs9
          show J κ σ1 [(0, .ref (ad 0)), (1, vi ((i : Int))), (2, .ref (bq ad 100 i 0)), (3, vi ((q : Int)))] 50 [vi ((lyAt (fl (cap, mf, ly)) (q : Int)).1), .ref (ad 13)] _ _
          rw [hLe, hy9]
          have hl24 : (((lnK L q).length : Nat) : Int) + sz y.1 ≤ 900 := by have e1 := hW2.2.2.2; have e2 := (show sz y.1 ≤ 4 from by have s1 := sz_in y.1; have s2 := sz_le y.1; omega); omega
          have hl24f := hW2.fit hl24
          refine j_callV (st' := []) (As := [vi (y.1)]) C dX6_writeBin_50 rfl m_X6_262 hoxs9 rfl rfl rfl (c_appendI (kL κ) hfl (kD κ) (kc κ) σ1 (ad 13) d1 c1 (lnK L q) hW2.2.1 y.1 ⟨by omega, by omega⟩ (Nat.le_trans hW2.2.2.2 (by decide))) rfl (by omega) (by rw [hc]; exact hl24f.1) (by rw [hs]; exact hl24f.2) (fun _ _ hx => hx.elim) (fun v26 τ25 hp27 => ?_)
          obtain ⟨rfl, dd18, hS9, hd9, hk9⟩ := hp27
          have hW23 := hW2.app hl24 hS9 hd9 hk9 (B' := 873) (by rw [List.length_append]; have e1 := hW2.2.2.2; have e2 := (show sz y.1 ≤ 4 from by have s1 := sz_in y.1; have s2 := sz_le y.1; omega); have e3 := (show (((dg y.1).length : Nat) : Int) ≤ 4 from by rw [dg_len]; have s1 := sz_in y.1; have s2 := sz_le y.1; omega); omega)
          show J κ τ25 [(0, .ref (ad 0)), (1, vi ((i : Int))), (2, .ref (bq ad 100 i 0)), (3, vi ((q : Int)))] 53 [.ref (ad 13)] (k1 + gC c1 ((((lnK L q).length : Nat) : Int) + sz y.1)) (n1 + gS c1 ((((lnK L q).length : Nat) : Int) + sz y.1))
          obtain ⟨kN19, hkN19⟩ : ∃ z, k1 + gC c1 ((((lnK L q).length : Nat) : Int) + sz y.1) = z := ⟨_, rfl⟩
          obtain ⟨nN20, hnN20⟩ : ∃ z, n1 + gS c1 ((((lnK L q).length : Nat) : Int) + sz y.1) = z := ⟨_, rfl⟩
          obtain ⟨cN21, hcN21⟩ : ∃ z, capF c1 ((((lnK L q).length : Nat) : Int) + sz y.1) = z := ⟨_, rfl⟩
          obtain ⟨cs22, hcs22⟩ : ∃ z, lnK L q ++ dg y.1 = z := ⟨_, rfl⟩
          rw [hkN19, hnN20, hcN21, hcs22] at hW23
          rw [hkN19, hnN20]
          clear hkN19 hnN20 hcN21 hl24f hl24 hS9 hd9 hk9
          have hrmxs30 := hW23.room
          have xa28 := hW23.1.1 _ _ x1 hx19
          have xb29 := hb7.keep hW23.1.1 hbk9
          obtain ⟨oxb29, gaxb29, gbxb29, gcxb29, gdxb29, ⟨hhxb29, -, -⟩, -⟩ := id xb29
          dsimp only at hhxb29
          obtain ⟨mlxs30, gxs30, ⟨hoxs30, -, -⟩, -⟩ := id hW23.2.1
          refine j_pop C dX6_writeBin_53 rfl rfl ?_
          refine j_aload_n 0 C dX6_writeBin_54 rfl rfl rfl ?_
          refine j_get C dX6_writeBin_55 rfl fg_X6_43 xa28 rfl ?_
          refine j_bipush C dX6_writeBin_58 rfl (by decide) ?_
          have hl37 : (((cs22).length : Nat) : Int) + 1 ≤ 900 := by have e1 := hW23.2.2.2; have e2 := (Int.le_refl 0); omega
          have hl37f := hW23.fit hl37
          refine j_callV (st' := []) (As := [vi (64)]) C dX6_writeBin_60 rfl m_X6_258 hoxs30 rfl rfl rfl (c_appendC (kL κ) hfl (kD κ) (kc κ) τ25 (ad 13) dd18 cN21 cs22 hW23.2.1 64 ⟨by decide, by decide⟩ (Nat.le_trans hW23.2.2.2 (by decide))) rfl (by omega) (by rw [hc]; exact hl37f.1) (by rw [hs]; exact hl37f.2) (fun _ _ hx => hx.elim) (fun v39 τ38 hp40 => ?_)
          obtain ⟨rfl, dd31, hS9, hd9, hk9⟩ := hp40
          have hW36 := hW23.app hl37 hS9 hd9 hk9 (B' := 874) (by rw [List.length_append]; have e1 := hW23.2.2.2; have e2 := (Int.le_refl 0); have e3 := (show ([64] : List Int).length ≤ 1 from Nat.le_refl 1); omega)
          show J κ τ38 [(0, .ref (ad 0)), (1, vi ((i : Int))), (2, .ref (bq ad 100 i 0)), (3, vi ((q : Int)))] 63 [.ref (ad 13)] (kN19 + gC cN21 ((((cs22).length : Nat) : Int) + 1)) (nN20 + gS cN21 ((((cs22).length : Nat) : Int) + 1))
          obtain ⟨kN32, hkN32⟩ : ∃ z, kN19 + gC cN21 ((((cs22).length : Nat) : Int) + 1) = z := ⟨_, rfl⟩
          obtain ⟨nN33, hnN33⟩ : ∃ z, nN20 + gS cN21 ((((cs22).length : Nat) : Int) + 1) = z := ⟨_, rfl⟩
          obtain ⟨cN34, hcN34⟩ : ∃ z, capF cN21 ((((cs22).length : Nat) : Int) + 1) = z := ⟨_, rfl⟩
          obtain ⟨cs35, hcs35⟩ : ∃ z, cs22 ++ [64] = z := ⟨_, rfl⟩
          rw [hkN32, hnN33, hcN34, hcs35] at hW36
          rw [hkN32, hnN33]
          clear hkN32 hnN33 hcN34 hl37f hl37 hS9 hd9 hk9
          have hrmxs43 := hW36.room
          have xa41 := hW36.1.1 _ _ x1 hx19
          have xb42 := hb7.keep hW36.1.1 hbk9
          obtain ⟨oxb42, gaxb42, gbxb42, gcxb42, gdxb42, ⟨hhxb42, -, -⟩, -⟩ := id xb42
          dsimp only at hhxb42
          obtain ⟨mlxs43, gxs43, ⟨hoxs43, -, -⟩, -⟩ := id hW36.2.1
          refine j_pop C dX6_writeBin_63 rfl rfl ?_
          refine j_aload_n 0 C dX6_writeBin_64 rfl rfl rfl ?_
          refine j_get C dX6_writeBin_65 rfl fg_X6_43 xa41 rfl ?_
          refine j_aload_n 2 C dX6_writeBin_68 rfl rfl rfl ?_
          refine j_iload_n 3 C dX6_writeBin_69 rfl rfl rfl ?_
          refine j_callV (st' := [.ref (ad 13)]) (As := [vi ((q : Int))]) C dX6_writeBin_70 rfl m_X6_172 hhxb42 rfl rfl rfl (c_moistureAt (kL κ) hfl (kD κ) (kc κ) τ38 (bq ad 100 i 0) (bq ad 100 i 1) (bq ad 100 i 2) (bq ad 100 i 3) (bq ad 100 i 4) cap mf ly xb42 (q : Int) ⟨by omega, by omega⟩) rfl (by omega) (by omega) (by omega) (fun _ _ hx => hx.elim) (fun v45 τ44 hp46 => ?_)
          obtain ⟨rfl, hs9⟩ := hp46
          replace hs9 := hs9.symm
          subst hs9
          show J κ τ38 [(0, .ref (ad 0)), (1, vi ((i : Int))), (2, .ref (bq ad 100 i 0)), (3, vi ((q : Int)))] 73 [vi ((lyAt (fl (cap, mf, ly)) (q : Int)).2.1), .ref (ad 13)] _ _
          rw [hLe, hy9]
          have hl53 : (((cs35).length : Nat) : Int) + sz y.2.1 ≤ 900 := by have e1 := hW36.2.2.2; have e2 := (show sz y.2.1 ≤ 3 from by have s1 := sz_in y.2.1; have s2 := sz_le y.2.1; omega); omega
          have hl53f := hW36.fit hl53
          refine j_callV (st' := []) (As := [vi (y.2.1)]) C dX6_writeBin_73 rfl m_X6_262 hoxs43 rfl rfl rfl (c_appendI (kL κ) hfl (kD κ) (kc κ) τ38 (ad 13) dd31 cN34 cs35 hW36.2.1 y.2.1 ⟨by omega, by omega⟩ (Nat.le_trans hW36.2.2.2 (by decide))) rfl (by omega) (by rw [hc]; exact hl53f.1) (by rw [hs]; exact hl53f.2) (fun _ _ hx => hx.elim) (fun v55 τ54 hp56 => ?_)
          obtain ⟨rfl, dd47, hS9, hd9, hk9⟩ := hp56
          have hW52 := hW36.app hl53 hS9 hd9 hk9 (B' := 877) (by rw [List.length_append]; have e1 := hW36.2.2.2; have e2 := (show sz y.2.1 ≤ 3 from by have s1 := sz_in y.2.1; have s2 := sz_le y.2.1; omega); have e3 := (show (((dg y.2.1).length : Nat) : Int) ≤ 3 from by rw [dg_len]; have s1 := sz_in y.2.1; have s2 := sz_le y.2.1; omega); omega)
          show J κ τ54 [(0, .ref (ad 0)), (1, vi ((i : Int))), (2, .ref (bq ad 100 i 0)), (3, vi ((q : Int)))] 76 [.ref (ad 13)] (kN32 + gC cN34 ((((cs35).length : Nat) : Int) + sz y.2.1)) (nN33 + gS cN34 ((((cs35).length : Nat) : Int) + sz y.2.1))
          obtain ⟨kN48, hkN48⟩ : ∃ z, kN32 + gC cN34 ((((cs35).length : Nat) : Int) + sz y.2.1) = z := ⟨_, rfl⟩
          obtain ⟨nN49, hnN49⟩ : ∃ z, nN33 + gS cN34 ((((cs35).length : Nat) : Int) + sz y.2.1) = z := ⟨_, rfl⟩
          obtain ⟨cN50, hcN50⟩ : ∃ z, capF cN34 ((((cs35).length : Nat) : Int) + sz y.2.1) = z := ⟨_, rfl⟩
          obtain ⟨cs51, hcs51⟩ : ∃ z, cs35 ++ dg y.2.1 = z := ⟨_, rfl⟩
          rw [hkN48, hnN49, hcN50, hcs51] at hW52
          rw [hkN48, hnN49]
          clear hkN48 hnN49 hcN50 hl53f hl53 hS9 hd9 hk9
          have hrmxs59 := hW52.room
          have xa57 := hW52.1.1 _ _ x1 hx19
          have xb58 := hb7.keep hW52.1.1 hbk9
          obtain ⟨oxb58, gaxb58, gbxb58, gcxb58, gdxb58, ⟨hhxb58, -, -⟩, -⟩ := id xb58
          dsimp only at hhxb58
          obtain ⟨mlxs59, gxs59, ⟨hoxs59, -, -⟩, -⟩ := id hW52.2.1
          refine j_pop C dX6_writeBin_76 rfl rfl ?_
          refine j_aload_n 0 C dX6_writeBin_77 rfl rfl rfl ?_
          refine j_get C dX6_writeBin_78 rfl fg_X6_43 xa57 rfl ?_
          refine j_bipush C dX6_writeBin_81 rfl (by decide) ?_
          have hl66 : (((cs51).length : Nat) : Int) + 1 ≤ 900 := by have e1 := hW52.2.2.2; have e2 := (Int.le_refl 0); omega
          have hl66f := hW52.fit hl66
          refine j_callV (st' := []) (As := [vi (103)]) C dX6_writeBin_83 rfl m_X6_258 hoxs59 rfl rfl rfl (c_appendC (kL κ) hfl (kD κ) (kc κ) τ54 (ad 13) dd47 cN50 cs51 hW52.2.1 103 ⟨by decide, by decide⟩ (Nat.le_trans hW52.2.2.2 (by decide))) rfl (by omega) (by rw [hc]; exact hl66f.1) (by rw [hs]; exact hl66f.2) (fun _ _ hx => hx.elim) (fun v68 τ67 hp69 => ?_)
          obtain ⟨rfl, dd60, hS9, hd9, hk9⟩ := hp69
          have hW65 := hW52.app hl66 hS9 hd9 hk9 (B' := 878) (by rw [List.length_append]; have e1 := hW52.2.2.2; have e2 := (Int.le_refl 0); have e3 := (show ([103] : List Int).length ≤ 1 from Nat.le_refl 1); omega)
          show J κ τ67 [(0, .ref (ad 0)), (1, vi ((i : Int))), (2, .ref (bq ad 100 i 0)), (3, vi ((q : Int)))] 86 [.ref (ad 13)] (kN48 + gC cN50 ((((cs51).length : Nat) : Int) + 1)) (nN49 + gS cN50 ((((cs51).length : Nat) : Int) + 1))
          obtain ⟨kN61, hkN61⟩ : ∃ z, kN48 + gC cN50 ((((cs51).length : Nat) : Int) + 1) = z := ⟨_, rfl⟩
          obtain ⟨nN62, hnN62⟩ : ∃ z, nN49 + gS cN50 ((((cs51).length : Nat) : Int) + 1) = z := ⟨_, rfl⟩
          obtain ⟨cN63, hcN63⟩ : ∃ z, capF cN50 ((((cs51).length : Nat) : Int) + 1) = z := ⟨_, rfl⟩
          obtain ⟨cs64, hcs64⟩ : ∃ z, cs51 ++ [103] = z := ⟨_, rfl⟩
          rw [hkN61, hnN62, hcN63, hcs64] at hW65
          rw [hkN61, hnN62]
          clear hkN61 hnN62 hcN63 hl66f hl66 hS9 hd9 hk9
          have hrmxs72 := hW65.room
          have xa70 := hW65.1.1 _ _ x1 hx19
          have xb71 := hb7.keep hW65.1.1 hbk9
          obtain ⟨oxb71, gaxb71, gbxb71, gcxb71, gdxb71, ⟨hhxb71, -, -⟩, -⟩ := id xb71
          dsimp only at hhxb71
          obtain ⟨mlxs72, gxs72, ⟨hoxs72, -, -⟩, -⟩ := id hW65.2.1
          refine j_pop C dX6_writeBin_86 rfl rfl ?_
          refine j_aload_n 0 C dX6_writeBin_87 rfl rfl rfl ?_
          refine j_get C dX6_writeBin_88 rfl fg_X6_43 xa70 rfl ?_
          refine j_aload_n 2 C dX6_writeBin_91 rfl rfl rfl ?_
          refine j_iload_n 3 C dX6_writeBin_92 rfl rfl rfl ?_
          refine j_callV (st' := [.ref (ad 13)]) (As := [vi ((q : Int))]) C dX6_writeBin_93 rfl m_X6_178 hhxb71 rfl rfl rfl (c_gradeAt (kL κ) hfl (kD κ) (kc κ) τ67 (bq ad 100 i 0) (bq ad 100 i 1) (bq ad 100 i 2) (bq ad 100 i 3) (bq ad 100 i 4) cap mf ly xb71 (q : Int) ⟨by omega, by omega⟩) rfl (by omega) (by omega) (by omega) (fun _ _ hx => hx.elim) (fun v74 τ73 hp75 => ?_)
          obtain ⟨rfl, hs9⟩ := hp75
          replace hs9 := hs9.symm
          subst hs9
          show J κ τ67 [(0, .ref (ad 0)), (1, vi ((i : Int))), (2, .ref (bq ad 100 i 0)), (3, vi ((q : Int)))] 96 [vi ((lyAt (fl (cap, mf, ly)) (q : Int)).2.2.2), .ref (ad 13)] _ _
          rw [hLe, hy9]
          have hl82 : (((cs64).length : Nat) : Int) + sz y.2.2.2 ≤ 900 := by have e1 := hW65.2.2.2; have e2 := (show sz y.2.2.2 ≤ 1 from by have s1 := sz_in y.2.2.2; have s2 := sz_le y.2.2.2; omega); omega
          have hl82f := hW65.fit hl82
          refine j_callV (st' := []) (As := [vi (y.2.2.2)]) C dX6_writeBin_96 rfl m_X6_262 hoxs72 rfl rfl rfl (c_appendI (kL κ) hfl (kD κ) (kc κ) τ67 (ad 13) dd60 cN63 cs64 hW65.2.1 y.2.2.2 ⟨by omega, by omega⟩ (Nat.le_trans hW65.2.2.2 (by decide))) rfl (by omega) (by rw [hc]; exact hl82f.1) (by rw [hs]; exact hl82f.2) (fun _ _ hx => hx.elim) (fun v84 τ83 hp85 => ?_)
          obtain ⟨rfl, dd76, hS9, hd9, hk9⟩ := hp85
          have hW81 := hW65.app hl82 hS9 hd9 hk9 (B' := 879) (by rw [List.length_append]; have e1 := hW65.2.2.2; have e2 := (show sz y.2.2.2 ≤ 1 from by have s1 := sz_in y.2.2.2; have s2 := sz_le y.2.2.2; omega); have e3 := (show (((dg y.2.2.2).length : Nat) : Int) ≤ 1 from by rw [dg_len]; have s1 := sz_in y.2.2.2; have s2 := sz_le y.2.2.2; omega); omega)
          show J κ τ83 [(0, .ref (ad 0)), (1, vi ((i : Int))), (2, .ref (bq ad 100 i 0)), (3, vi ((q : Int)))] 99 [.ref (ad 13)] (kN61 + gC cN63 ((((cs64).length : Nat) : Int) + sz y.2.2.2)) (nN62 + gS cN63 ((((cs64).length : Nat) : Int) + sz y.2.2.2))
          obtain ⟨kN77, hkN77⟩ : ∃ z, kN61 + gC cN63 ((((cs64).length : Nat) : Int) + sz y.2.2.2) = z := ⟨_, rfl⟩
          obtain ⟨nN78, hnN78⟩ : ∃ z, nN62 + gS cN63 ((((cs64).length : Nat) : Int) + sz y.2.2.2) = z := ⟨_, rfl⟩
          obtain ⟨cN79, hcN79⟩ : ∃ z, capF cN63 ((((cs64).length : Nat) : Int) + sz y.2.2.2) = z := ⟨_, rfl⟩
          obtain ⟨cs80, hcs80⟩ : ∃ z, cs64 ++ dg y.2.2.2 = z := ⟨_, rfl⟩
          rw [hkN77, hnN78, hcN79, hcs80] at hW81
          rw [hkN77, hnN78]
          clear hkN77 hnN78 hcN79 hl82f hl82 hS9 hd9 hk9
          have hrmxs88 := hW81.room
          have xa86 := hW81.1.1 _ _ x1 hx19
          have xb87 := hb7.keep hW81.1.1 hbk9
          obtain ⟨oxb87, gaxb87, gbxb87, gcxb87, gdxb87, ⟨hhxb87, -, -⟩, -⟩ := id xb87
          dsimp only at hhxb87
          obtain ⟨mlxs88, gxs88, ⟨hoxs88, -, -⟩, -⟩ := id hW81.2.1
          refine j_pop C dX6_writeBin_99 rfl rfl ?_
          refine j_iinc (y := (q : Int) + 1) (lv' := [(0, .ref (ad 0)), (1, vi ((i : Int))), (2, .ref (bq ad 100 i 0)), (3, vi ((q : Int) + 1))]) 3 [1, 2, 3, 0] C dX6_writeBin_100 rfl rfl rfl rfl rfl ?_
          refine j_goto (tgt := 19) C dX6_writeBin_103 rfl ?_
          have hlk1 : cs80 = lnK L (q + 1) := by show _ = ((((((lnK L q ++ (if q = 0 then [] else [32])) ++ dg (lyAt L (q : Int)).1) ++ [64]) ++ dg (lyAt L (q : Int)).2.1) ++ [103]) ++ dg (lyAt L (q : Int)).2.2.2); rw [hy9, if_pos (by omega), List.append_nil, hcs22, hcs35, hcs51, hcs64, hcs80]
          rw [hlk1] at hW81
          exact ih (q + 1) τ83 dd76 cN79 _ _ ⟨hW81.1, hW81.2.1, hW81.2.2.1, Nat.le_trans hW81.2.2.2 (by decide)⟩ (by omega) (by omega)
        · refine j_aload_n 0 C dX6_writeBin_31 rfl rfl rfl ?_
          refine j_get C dX6_writeBin_32 rfl fg_X6_43 xa7 rfl ?_
          refine j_bipush C dX6_writeBin_35 rfl (by decide) ?_
          have hl95 : (((lnK L q).length : Nat) : Int) + 1 ≤ 900 := by have e1 := hW2.2.2.2; have e2 := (Int.le_refl 0); omega
          have hl95f := hW2.fit hl95
          refine j_callV (st' := []) (As := [vi (32)]) C dX6_writeBin_37 rfl m_X6_258 hoxs9 rfl rfl rfl (c_appendC (kL κ) hfl (kD κ) (kc κ) σ1 (ad 13) d1 c1 (lnK L q) hW2.2.1 32 ⟨by decide, by decide⟩ (Nat.le_trans hW2.2.2.2 (by decide))) rfl (by omega) (by rw [hc]; exact hl95f.1) (by rw [hs]; exact hl95f.2) (fun _ _ hx => hx.elim) (fun v97 τ96 hp98 => ?_)
          obtain ⟨rfl, dd89, hS9, hd9, hk9⟩ := hp98
          have hW94 := hW2.app hl95 hS9 hd9 hk9 (B' := 870) (by rw [List.length_append]; have e1 := hW2.2.2.2; have e2 := (Int.le_refl 0); have e3 := (show ([32] : List Int).length ≤ 1 from Nat.le_refl 1); omega)
          show J κ τ96 [(0, .ref (ad 0)), (1, vi ((i : Int))), (2, .ref (bq ad 100 i 0)), (3, vi ((q : Int)))] 40 [.ref (ad 13)] (k1 + gC c1 ((((lnK L q).length : Nat) : Int) + 1)) (n1 + gS c1 ((((lnK L q).length : Nat) : Int) + 1))
          obtain ⟨kN90, hkN90⟩ : ∃ z, k1 + gC c1 ((((lnK L q).length : Nat) : Int) + 1) = z := ⟨_, rfl⟩
          obtain ⟨nN91, hnN91⟩ : ∃ z, n1 + gS c1 ((((lnK L q).length : Nat) : Int) + 1) = z := ⟨_, rfl⟩
          obtain ⟨cN92, hcN92⟩ : ∃ z, capF c1 ((((lnK L q).length : Nat) : Int) + 1) = z := ⟨_, rfl⟩
          obtain ⟨cs93, hcs93⟩ : ∃ z, lnK L q ++ [32] = z := ⟨_, rfl⟩
          rw [hkN90, hnN91, hcN92, hcs93] at hW94
          rw [hkN90, hnN91]
          clear hkN90 hnN91 hcN92 hl95f hl95 hS9 hd9 hk9
          have hrmxs101 := hW94.room
          have xa99 := hW94.1.1 _ _ x1 hx19
          have xb100 := hb7.keep hW94.1.1 hbk9
          obtain ⟨oxb100, gaxb100, gbxb100, gcxb100, gdxb100, ⟨hhxb100, -, -⟩, -⟩ := id xb100
          dsimp only at hhxb100
          obtain ⟨mlxs101, gxs101, ⟨hoxs101, -, -⟩, -⟩ := id hW94.2.1
          refine j_pop C dX6_writeBin_40 rfl rfl ?_
          refine j_aload_n 0 C dX6_writeBin_41 rfl rfl rfl ?_
          refine j_get C dX6_writeBin_42 rfl fg_X6_43 xa99 rfl ?_
          refine j_aload_n 2 C dX6_writeBin_45 rfl rfl rfl ?_
          refine j_iload_n 3 C dX6_writeBin_46 rfl rfl rfl ?_
          refine j_callV (st' := [.ref (ad 13)]) (As := [vi ((q : Int))]) C dX6_writeBin_47 rfl m_X6_166 hhxb100 rfl rfl rfl (c_bushelsAt (kL κ) hfl (kD κ) (kc κ) τ96 (bq ad 100 i 0) (bq ad 100 i 1) (bq ad 100 i 2) (bq ad 100 i 3) (bq ad 100 i 4) cap mf ly xb100 (q : Int) ⟨by omega, by omega⟩) rfl (by omega) (by omega) (by omega) (fun _ _ hx => hx.elim) (fun v103 τ102 hp104 => ?_)
          obtain ⟨rfl, hs9⟩ := hp104
          replace hs9 := hs9.symm
          subst hs9
          show J κ τ96 [(0, .ref (ad 0)), (1, vi ((i : Int))), (2, .ref (bq ad 100 i 0)), (3, vi ((q : Int)))] 50 [vi ((lyAt (fl (cap, mf, ly)) (q : Int)).1), .ref (ad 13)] _ _
          rw [hLe, hy9]
          have hl111 : (((cs93).length : Nat) : Int) + sz y.1 ≤ 900 := by have e1 := hW94.2.2.2; have e2 := (show sz y.1 ≤ 4 from by have s1 := sz_in y.1; have s2 := sz_le y.1; omega); omega
          have hl111f := hW94.fit hl111
          refine j_callV (st' := []) (As := [vi (y.1)]) C dX6_writeBin_50 rfl m_X6_262 hoxs101 rfl rfl rfl (c_appendI (kL κ) hfl (kD κ) (kc κ) τ96 (ad 13) dd89 cN92 cs93 hW94.2.1 y.1 ⟨by omega, by omega⟩ (Nat.le_trans hW94.2.2.2 (by decide))) rfl (by omega) (by rw [hc]; exact hl111f.1) (by rw [hs]; exact hl111f.2) (fun _ _ hx => hx.elim) (fun v113 τ112 hp114 => ?_)
          obtain ⟨rfl, dd105, hS9, hd9, hk9⟩ := hp114
          have hW110 := hW94.app hl111 hS9 hd9 hk9 (B' := 874) (by rw [List.length_append]; have e1 := hW94.2.2.2; have e2 := (show sz y.1 ≤ 4 from by have s1 := sz_in y.1; have s2 := sz_le y.1; omega); have e3 := (show (((dg y.1).length : Nat) : Int) ≤ 4 from by rw [dg_len]; have s1 := sz_in y.1; have s2 := sz_le y.1; omega); omega)
          show J κ τ112 [(0, .ref (ad 0)), (1, vi ((i : Int))), (2, .ref (bq ad 100 i 0)), (3, vi ((q : Int)))] 53 [.ref (ad 13)] (kN90 + gC cN92 ((((cs93).length : Nat) : Int) + sz y.1)) (nN91 + gS cN92 ((((cs93).length : Nat) : Int) + sz y.1))
          obtain ⟨kN106, hkN106⟩ : ∃ z, kN90 + gC cN92 ((((cs93).length : Nat) : Int) + sz y.1) = z := ⟨_, rfl⟩
          obtain ⟨nN107, hnN107⟩ : ∃ z, nN91 + gS cN92 ((((cs93).length : Nat) : Int) + sz y.1) = z := ⟨_, rfl⟩
          obtain ⟨cN108, hcN108⟩ : ∃ z, capF cN92 ((((cs93).length : Nat) : Int) + sz y.1) = z := ⟨_, rfl⟩
          obtain ⟨cs109, hcs109⟩ : ∃ z, cs93 ++ dg y.1 = z := ⟨_, rfl⟩
          rw [hkN106, hnN107, hcN108, hcs109] at hW110
          rw [hkN106, hnN107]
          clear hkN106 hnN107 hcN108 hl111f hl111 hS9 hd9 hk9
          have hrmxs117 := hW110.room
          have xa115 := hW110.1.1 _ _ x1 hx19
          have xb116 := hb7.keep hW110.1.1 hbk9
          obtain ⟨oxb116, gaxb116, gbxb116, gcxb116, gdxb116, ⟨hhxb116, -, -⟩, -⟩ := id xb116
          dsimp only at hhxb116
          obtain ⟨mlxs117, gxs117, ⟨hoxs117, -, -⟩, -⟩ := id hW110.2.1
          refine j_pop C dX6_writeBin_53 rfl rfl ?_
          refine j_aload_n 0 C dX6_writeBin_54 rfl rfl rfl ?_
          refine j_get C dX6_writeBin_55 rfl fg_X6_43 xa115 rfl ?_
          refine j_bipush C dX6_writeBin_58 rfl (by decide) ?_
          have hl124 : (((cs109).length : Nat) : Int) + 1 ≤ 900 := by have e1 := hW110.2.2.2; have e2 := (Int.le_refl 0); omega
          have hl124f := hW110.fit hl124
          refine j_callV (st' := []) (As := [vi (64)]) C dX6_writeBin_60 rfl m_X6_258 hoxs117 rfl rfl rfl (c_appendC (kL κ) hfl (kD κ) (kc κ) τ112 (ad 13) dd105 cN108 cs109 hW110.2.1 64 ⟨by decide, by decide⟩ (Nat.le_trans hW110.2.2.2 (by decide))) rfl (by omega) (by rw [hc]; exact hl124f.1) (by rw [hs]; exact hl124f.2) (fun _ _ hx => hx.elim) (fun v126 τ125 hp127 => ?_)
          obtain ⟨rfl, dd118, hS9, hd9, hk9⟩ := hp127
          have hW123 := hW110.app hl124 hS9 hd9 hk9 (B' := 875) (by rw [List.length_append]; have e1 := hW110.2.2.2; have e2 := (Int.le_refl 0); have e3 := (show ([64] : List Int).length ≤ 1 from Nat.le_refl 1); omega)
          show J κ τ125 [(0, .ref (ad 0)), (1, vi ((i : Int))), (2, .ref (bq ad 100 i 0)), (3, vi ((q : Int)))] 63 [.ref (ad 13)] (kN106 + gC cN108 ((((cs109).length : Nat) : Int) + 1)) (nN107 + gS cN108 ((((cs109).length : Nat) : Int) + 1))
          obtain ⟨kN119, hkN119⟩ : ∃ z, kN106 + gC cN108 ((((cs109).length : Nat) : Int) + 1) = z := ⟨_, rfl⟩
          obtain ⟨nN120, hnN120⟩ : ∃ z, nN107 + gS cN108 ((((cs109).length : Nat) : Int) + 1) = z := ⟨_, rfl⟩
          obtain ⟨cN121, hcN121⟩ : ∃ z, capF cN108 ((((cs109).length : Nat) : Int) + 1) = z := ⟨_, rfl⟩
          obtain ⟨cs122, hcs122⟩ : ∃ z, cs109 ++ [64] = z := ⟨_, rfl⟩
          rw [hkN119, hnN120, hcN121, hcs122] at hW123
          rw [hkN119, hnN120]
          clear hkN119 hnN120 hcN121 hl124f hl124 hS9 hd9 hk9
          have hrmxs130 := hW123.room
          have xa128 := hW123.1.1 _ _ x1 hx19
          have xb129 := hb7.keep hW123.1.1 hbk9
          obtain ⟨oxb129, gaxb129, gbxb129, gcxb129, gdxb129, ⟨hhxb129, -, -⟩, -⟩ := id xb129
          dsimp only at hhxb129
          obtain ⟨mlxs130, gxs130, ⟨hoxs130, -, -⟩, -⟩ := id hW123.2.1
          refine j_pop C dX6_writeBin_63 rfl rfl ?_
          refine j_aload_n 0 C dX6_writeBin_64 rfl rfl rfl ?_
          refine j_get C dX6_writeBin_65 rfl fg_X6_43 xa128 rfl ?_
          refine j_aload_n 2 C dX6_writeBin_68 rfl rfl rfl ?_
          refine j_iload_n 3 C dX6_writeBin_69 rfl rfl rfl ?_
          refine j_callV (st' := [.ref (ad 13)]) (As := [vi ((q : Int))]) C dX6_writeBin_70 rfl m_X6_172 hhxb129 rfl rfl rfl (c_moistureAt (kL κ) hfl (kD κ) (kc κ) τ125 (bq ad 100 i 0) (bq ad 100 i 1) (bq ad 100 i 2) (bq ad 100 i 3) (bq ad 100 i 4) cap mf ly xb129 (q : Int) ⟨by omega, by omega⟩) rfl (by omega) (by omega) (by omega) (fun _ _ hx => hx.elim) (fun v132 τ131 hp133 => ?_)
          obtain ⟨rfl, hs9⟩ := hp133
          replace hs9 := hs9.symm
          subst hs9
          show J κ τ125 [(0, .ref (ad 0)), (1, vi ((i : Int))), (2, .ref (bq ad 100 i 0)), (3, vi ((q : Int)))] 73 [vi ((lyAt (fl (cap, mf, ly)) (q : Int)).2.1), .ref (ad 13)] _ _
          rw [hLe, hy9]
          have hl140 : (((cs122).length : Nat) : Int) + sz y.2.1 ≤ 900 := by have e1 := hW123.2.2.2; have e2 := (show sz y.2.1 ≤ 3 from by have s1 := sz_in y.2.1; have s2 := sz_le y.2.1; omega); omega
          have hl140f := hW123.fit hl140
          refine j_callV (st' := []) (As := [vi (y.2.1)]) C dX6_writeBin_73 rfl m_X6_262 hoxs130 rfl rfl rfl (c_appendI (kL κ) hfl (kD κ) (kc κ) τ125 (ad 13) dd118 cN121 cs122 hW123.2.1 y.2.1 ⟨by omega, by omega⟩ (Nat.le_trans hW123.2.2.2 (by decide))) rfl (by omega) (by rw [hc]; exact hl140f.1) (by rw [hs]; exact hl140f.2) (fun _ _ hx => hx.elim) (fun v142 τ141 hp143 => ?_)
          obtain ⟨rfl, dd134, hS9, hd9, hk9⟩ := hp143
          have hW139 := hW123.app hl140 hS9 hd9 hk9 (B' := 878) (by rw [List.length_append]; have e1 := hW123.2.2.2; have e2 := (show sz y.2.1 ≤ 3 from by have s1 := sz_in y.2.1; have s2 := sz_le y.2.1; omega); have e3 := (show (((dg y.2.1).length : Nat) : Int) ≤ 3 from by rw [dg_len]; have s1 := sz_in y.2.1; have s2 := sz_le y.2.1; omega); omega)
          show J κ τ141 [(0, .ref (ad 0)), (1, vi ((i : Int))), (2, .ref (bq ad 100 i 0)), (3, vi ((q : Int)))] 76 [.ref (ad 13)] (kN119 + gC cN121 ((((cs122).length : Nat) : Int) + sz y.2.1)) (nN120 + gS cN121 ((((cs122).length : Nat) : Int) + sz y.2.1))
          obtain ⟨kN135, hkN135⟩ : ∃ z, kN119 + gC cN121 ((((cs122).length : Nat) : Int) + sz y.2.1) = z := ⟨_, rfl⟩
          obtain ⟨nN136, hnN136⟩ : ∃ z, nN120 + gS cN121 ((((cs122).length : Nat) : Int) + sz y.2.1) = z := ⟨_, rfl⟩
          obtain ⟨cN137, hcN137⟩ : ∃ z, capF cN121 ((((cs122).length : Nat) : Int) + sz y.2.1) = z := ⟨_, rfl⟩
          obtain ⟨cs138, hcs138⟩ : ∃ z, cs122 ++ dg y.2.1 = z := ⟨_, rfl⟩
          rw [hkN135, hnN136, hcN137, hcs138] at hW139
          rw [hkN135, hnN136]
          clear hkN135 hnN136 hcN137 hl140f hl140 hS9 hd9 hk9
          have hrmxs146 := hW139.room
          have xa144 := hW139.1.1 _ _ x1 hx19
          have xb145 := hb7.keep hW139.1.1 hbk9
          obtain ⟨oxb145, gaxb145, gbxb145, gcxb145, gdxb145, ⟨hhxb145, -, -⟩, -⟩ := id xb145
          dsimp only at hhxb145
          obtain ⟨mlxs146, gxs146, ⟨hoxs146, -, -⟩, -⟩ := id hW139.2.1
          refine j_pop C dX6_writeBin_76 rfl rfl ?_
          refine j_aload_n 0 C dX6_writeBin_77 rfl rfl rfl ?_
          refine j_get C dX6_writeBin_78 rfl fg_X6_43 xa144 rfl ?_
          refine j_bipush C dX6_writeBin_81 rfl (by decide) ?_
          have hl153 : (((cs138).length : Nat) : Int) + 1 ≤ 900 := by have e1 := hW139.2.2.2; have e2 := (Int.le_refl 0); omega
          have hl153f := hW139.fit hl153
          refine j_callV (st' := []) (As := [vi (103)]) C dX6_writeBin_83 rfl m_X6_258 hoxs146 rfl rfl rfl (c_appendC (kL κ) hfl (kD κ) (kc κ) τ141 (ad 13) dd134 cN137 cs138 hW139.2.1 103 ⟨by decide, by decide⟩ (Nat.le_trans hW139.2.2.2 (by decide))) rfl (by omega) (by rw [hc]; exact hl153f.1) (by rw [hs]; exact hl153f.2) (fun _ _ hx => hx.elim) (fun v155 τ154 hp156 => ?_)
          obtain ⟨rfl, dd147, hS9, hd9, hk9⟩ := hp156
          have hW152 := hW139.app hl153 hS9 hd9 hk9 (B' := 879) (by rw [List.length_append]; have e1 := hW139.2.2.2; have e2 := (Int.le_refl 0); have e3 := (show ([103] : List Int).length ≤ 1 from Nat.le_refl 1); omega)
          show J κ τ154 [(0, .ref (ad 0)), (1, vi ((i : Int))), (2, .ref (bq ad 100 i 0)), (3, vi ((q : Int)))] 86 [.ref (ad 13)] (kN135 + gC cN137 ((((cs138).length : Nat) : Int) + 1)) (nN136 + gS cN137 ((((cs138).length : Nat) : Int) + 1))
          obtain ⟨kN148, hkN148⟩ : ∃ z, kN135 + gC cN137 ((((cs138).length : Nat) : Int) + 1) = z := ⟨_, rfl⟩
          obtain ⟨nN149, hnN149⟩ : ∃ z, nN136 + gS cN137 ((((cs138).length : Nat) : Int) + 1) = z := ⟨_, rfl⟩
          obtain ⟨cN150, hcN150⟩ : ∃ z, capF cN137 ((((cs138).length : Nat) : Int) + 1) = z := ⟨_, rfl⟩
          obtain ⟨cs151, hcs151⟩ : ∃ z, cs138 ++ [103] = z := ⟨_, rfl⟩
          rw [hkN148, hnN149, hcN150, hcs151] at hW152
          rw [hkN148, hnN149]
          clear hkN148 hnN149 hcN150 hl153f hl153 hS9 hd9 hk9
          have hrmxs159 := hW152.room
          have xa157 := hW152.1.1 _ _ x1 hx19
          have xb158 := hb7.keep hW152.1.1 hbk9
          obtain ⟨oxb158, gaxb158, gbxb158, gcxb158, gdxb158, ⟨hhxb158, -, -⟩, -⟩ := id xb158
          dsimp only at hhxb158
          obtain ⟨mlxs159, gxs159, ⟨hoxs159, -, -⟩, -⟩ := id hW152.2.1
          refine j_pop C dX6_writeBin_86 rfl rfl ?_
          refine j_aload_n 0 C dX6_writeBin_87 rfl rfl rfl ?_
          refine j_get C dX6_writeBin_88 rfl fg_X6_43 xa157 rfl ?_
          refine j_aload_n 2 C dX6_writeBin_91 rfl rfl rfl ?_
          refine j_iload_n 3 C dX6_writeBin_92 rfl rfl rfl ?_
          refine j_callV (st' := [.ref (ad 13)]) (As := [vi ((q : Int))]) C dX6_writeBin_93 rfl m_X6_178 hhxb158 rfl rfl rfl (c_gradeAt (kL κ) hfl (kD κ) (kc κ) τ154 (bq ad 100 i 0) (bq ad 100 i 1) (bq ad 100 i 2) (bq ad 100 i 3) (bq ad 100 i 4) cap mf ly xb158 (q : Int) ⟨by omega, by omega⟩) rfl (by omega) (by omega) (by omega) (fun _ _ hx => hx.elim) (fun v161 τ160 hp162 => ?_)
          obtain ⟨rfl, hs9⟩ := hp162
          replace hs9 := hs9.symm
          subst hs9
          show J κ τ154 [(0, .ref (ad 0)), (1, vi ((i : Int))), (2, .ref (bq ad 100 i 0)), (3, vi ((q : Int)))] 96 [vi ((lyAt (fl (cap, mf, ly)) (q : Int)).2.2.2), .ref (ad 13)] _ _
          rw [hLe, hy9]
          have hl169 : (((cs151).length : Nat) : Int) + sz y.2.2.2 ≤ 900 := by have e1 := hW152.2.2.2; have e2 := (show sz y.2.2.2 ≤ 1 from by have s1 := sz_in y.2.2.2; have s2 := sz_le y.2.2.2; omega); omega
          have hl169f := hW152.fit hl169
          refine j_callV (st' := []) (As := [vi (y.2.2.2)]) C dX6_writeBin_96 rfl m_X6_262 hoxs159 rfl rfl rfl (c_appendI (kL κ) hfl (kD κ) (kc κ) τ154 (ad 13) dd147 cN150 cs151 hW152.2.1 y.2.2.2 ⟨by omega, by omega⟩ (Nat.le_trans hW152.2.2.2 (by decide))) rfl (by omega) (by rw [hc]; exact hl169f.1) (by rw [hs]; exact hl169f.2) (fun _ _ hx => hx.elim) (fun v171 τ170 hp172 => ?_)
          obtain ⟨rfl, dd163, hS9, hd9, hk9⟩ := hp172
          have hW168 := hW152.app hl169 hS9 hd9 hk9 (B' := 880) (by rw [List.length_append]; have e1 := hW152.2.2.2; have e2 := (show sz y.2.2.2 ≤ 1 from by have s1 := sz_in y.2.2.2; have s2 := sz_le y.2.2.2; omega); have e3 := (show (((dg y.2.2.2).length : Nat) : Int) ≤ 1 from by rw [dg_len]; have s1 := sz_in y.2.2.2; have s2 := sz_le y.2.2.2; omega); omega)
          show J κ τ170 [(0, .ref (ad 0)), (1, vi ((i : Int))), (2, .ref (bq ad 100 i 0)), (3, vi ((q : Int)))] 99 [.ref (ad 13)] (kN148 + gC cN150 ((((cs151).length : Nat) : Int) + sz y.2.2.2)) (nN149 + gS cN150 ((((cs151).length : Nat) : Int) + sz y.2.2.2))
          obtain ⟨kN164, hkN164⟩ : ∃ z, kN148 + gC cN150 ((((cs151).length : Nat) : Int) + sz y.2.2.2) = z := ⟨_, rfl⟩
          obtain ⟨nN165, hnN165⟩ : ∃ z, nN149 + gS cN150 ((((cs151).length : Nat) : Int) + sz y.2.2.2) = z := ⟨_, rfl⟩
          obtain ⟨cN166, hcN166⟩ : ∃ z, capF cN150 ((((cs151).length : Nat) : Int) + sz y.2.2.2) = z := ⟨_, rfl⟩
          obtain ⟨cs167, hcs167⟩ : ∃ z, cs151 ++ dg y.2.2.2 = z := ⟨_, rfl⟩
          rw [hkN164, hnN165, hcN166, hcs167] at hW168
          rw [hkN164, hnN165]
          clear hkN164 hnN165 hcN166 hl169f hl169 hS9 hd9 hk9
          have hrmxs175 := hW168.room
          have xa173 := hW168.1.1 _ _ x1 hx19
          have xb174 := hb7.keep hW168.1.1 hbk9
          obtain ⟨oxb174, gaxb174, gbxb174, gcxb174, gdxb174, ⟨hhxb174, -, -⟩, -⟩ := id xb174
          dsimp only at hhxb174
          obtain ⟨mlxs175, gxs175, ⟨hoxs175, -, -⟩, -⟩ := id hW168.2.1
          refine j_pop C dX6_writeBin_99 rfl rfl ?_
          refine j_iinc (y := (q : Int) + 1) (lv' := [(0, .ref (ad 0)), (1, vi ((i : Int))), (2, .ref (bq ad 100 i 0)), (3, vi ((q : Int) + 1))]) 3 [1, 2, 3, 0] C dX6_writeBin_100 rfl rfl rfl rfl rfl ?_
          refine j_goto (tgt := 19) C dX6_writeBin_103 rfl ?_
          have hlk1 : cs167 = lnK L (q + 1) := by show _ = ((((((lnK L q ++ (if q = 0 then [] else [32])) ++ dg (lyAt L (q : Int)).1) ++ [64]) ++ dg (lyAt L (q : Int)).2.1) ++ [103]) ++ dg (lyAt L (q : Int)).2.2.2); rw [hy9, if_neg (by omega), hcs93, hcs109, hcs122, hcs138, hcs151, hcs167]
          rw [hlk1] at hW168
          exact ih (q + 1) τ170 dd163 cN166 _ _ ⟨hW168.1, hW168.2.1, hW168.2.2.1, Nat.le_trans hW168.2.2.2 (by decide)⟩ (by omega) (by omega)
  exact lp _ 0 τ4 (ad 14) cap0 0 0 ⟨hW0.1, hW0.2.1, hW0.2.2.1, Nat.zero_le _⟩ (Nat.zero_le _) (Nat.lt_succ_self _)
set_option maxHeartbeats 4000000 in
set_option maxRecDepth 20000 in
theorem c_writeBinB (l : Launch) (hfl : l.stackTraces = false) (D : va_G) (cy : Nat → Nat) (σ : Wd) (tg ad : Nat → Nat) (bs : List Bn) (ru : Nat → Int × Int) (se : Int) (pf : Nat → Int) (hd : Hd) (ca : Int) (evs : List Evt) (ln : List Int) (hX0 : RX cy σ tg ad bs ru se pf hd ca evs ln) (b : Int) (hb9 : (-2147483648 ≤ b ∧ b < 2147483648)) (hbad : b < 0 ∨ (bs.length : Int) ≤ b) : Ct l yX6_writeBin cX6_writeBin 4 (some .int) 7 1 6 D cy [.ref (ad 0), vi (b)] σ (fun v σ' => False) (fun E9 σ' => E9 = "java/lang/IndexOutOfBoundsException" ∧ σ' = σ) := by
  refine ct_start (by decide +kernel) hfl rfl (fun κ e1 e2 e3 C E NH => ?_)
  subst e1 e2 e3
  have C : Cx κ cX6_writeBin 4 RX6 "writeBin" 7 := C
  obtain ⟨-, -, -, -, hc, hs⟩ := id E
  show J κ σ [(0, .ref (ad 0)), (1, vi (b))] 0 [] 0 0
  have hXX := hX0
  obtain ⟨⟨x1, x2⟩, hB, ⟨bsA, hA, hAe⟩, hEv, hX, hO⟩ := hXX
  obtain ⟨⟨hR, t7, t8, t9⟩, ⟨hPr, t10⟩, ⟨hH, t11, t12⟩, cap0, hSb, t13, t14⟩ := id hX
  have hL1 := hB.1.1
  have hL5 := hEv.1.1
  have hbl := bins_len ad 100 bs.length
  have hel9 := evl_len ad evs.length
  have h6 := hB.2.1
  obtain ⟨⟨hc1, hc2⟩, hc3, hc4⟩ := hO.2.2.2.1
  have hev80 := hO.2.2.1.2
  have hpr := hO.2.2.2.2.1
  have hRo := hR.1
  have hHo := hH.1
  obtain ⟨ml0, g0, hSc, -⟩ := id hSb
  have hSo := hSc.1
  have hTb := totB_in hO.2.1
  obtain ⟨m91, hl91, -⟩ := id hL1
  obtain ⟨m92, hl92, -⟩ := id hL5
  refine j_aload_n 0 C dX6_writeBin_0 rfl rfl rfl ?_
  refine j_get C dX6_writeBin_1 rfl fg_X6_12 x1 rfl ?_
  refine j_iload_n 1 C dX6_writeBin_4 rfl rfl rfl ?_
  refine j_callS (st' := []) (As := [.ref (ad 1), vi (b)]) C dX6_writeBin_5 rfl m_X6_75 rfl rfl (c_biB (kL κ) hfl (kD κ) (kc κ) σ (ad 1) (ad 2) _ hL1 b hb9 (by rw [hbl]; exact hbad)) rfl (by omega) (by omega) (by omega) (fun E9 σ9 hx => jx_out C E NH (by omega) (by omega) hx) (fun v2 τ1 hp3 => ?_)
  exact hp3.elim
