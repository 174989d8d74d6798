/-! GrainElevator: the whole of it; an event happens -/
theorem j_t0 {κ : Kx} {cc : ByteArray} {nL : Nat} {own nm : String} {lev : Nat} {σ : Wd} {lv : List (Nat × Value)} {pc : Nat} {st : List Value} {k n : Nat} (C : Cx κ cc nL own nm lev) (kk : kc κ 7 ∉ σ.1 → J κ σ lv pc st k n) : J κ σ lv pc st k n := fun H locs ls hl hP hD hS => kk (fun hm => (C.go.2.1.2.2).out (AA.of hD hm)) H locs ls hl hP hD hS
def evl (ad : Nat → Nat) (n : Nat) : List Nat := (List.range n).map (fun j => ad (300 + j))
theorem evl_len (ad : Nat → Nat) (n : Nat) : (evl ad n).length = n := by simp [evl]
theorem evl_at {ad : Nat → Nat} {n j : Nat} (h : j < n) : (evl ad n)[j]? = some (ad (300 + j)) := by
  unfold evl
  rw [List.getElem?_map, List.getElem?_range h]
  rfl
theorem evl_succ (ad : Nat → Nat) (n : Nat) : evl ad (n + 1) = evl ad n ++ [ad (300 + n)] := by
  unfold evl
  rw [List.range_succ, List.map_append]
  rfl
theorem evl_mem {ad : Nat → Nat} {n y : Nat} (h : y ∈ evl ad n) : ∃ j, j < n ∧ y = ad (300 + j) := by
  obtain ⟨j, hj, rfl⟩ := List.mem_map.mp h
  exact ⟨j, List.mem_range.mp hj, rfl⟩
theorem evl_cong {ad ad' : Nat → Nat} {n : Nat} (h : ∀ j, j < n → ad' (300 + j) = ad (300 + j)) : evl ad' n = evl ad n := by
  unfold evl
  apply List.map_congr_left
  intro j hj
  exact h j (List.mem_range.mp hj)
theorem bins_cong {ad ad' : Nat → Nat} {base n : Nat} (h : ∀ j, j < n → bq ad' base j 0 = bq ad base j 0) : bins ad' base n = bins ad base n := by
  unfold bins
  apply List.map_congr_left
  intro j hj
  exact h j (List.mem_range.mp hj)
/-- the events that there have been -/
def LsE (cy : Nat → Nat) (σ : Wd) (tg ad : Nat → Nat) (evs : List Evt) : Prop := (LstR cy σ (ad 5) (ad 6) (evl ad evs.length) ∧ tg (ad 5) = 5 ∧ ((ad 6 = cy 7 ∧ evs = []) ∨ tg (ad 6) = 6)) ∧ ∀ (j : Nat) (e : Evt), evs[j]? = some e → EvR σ (ad (300 + j)) e ∧ tg (ad (300 + j)) = 300 + j
theorem LsE.keep {cy : Nat → Nat} {σ σ' : Wd} {tg ad : Nat → Nat} {evs : List Evt} {F : Nat → Prop} (h : LsE cy σ tg ad evs) (hk : Keep σ σ' F) (hF : ∀ y, y ∈ σ.1 → F y → tg y ≠ 5 ∧ tg y ≠ 6 ∧ tg y < 300 ∨ 400 ≤ tg y) (h80 : evs.length ≤ 80) : LsE cy σ' tg ad evs := by
  obtain ⟨⟨h1, h2, h3⟩, h5⟩ := h
  refine ⟨⟨h1.keepT h2 (h3.elim (fun z => Or.inl ⟨z.1, by rw [z.2]; rfl⟩) Or.inr) hk (fun y hy z => by have := hF y hy z; omega), h2, h3⟩, fun j e he => ?_⟩
  obtain ⟨a1, a2⟩ := h5 j e he
  refine ⟨hk _ _ a1 (fun z => ?_), a2⟩
  have := hF _ a1.1 z
  have hj := (List.getElem?_eq_some_iff.mp he).1
  omega
theorem LstR.dmem {cy : Nat → Nat} {σ : Wd} {a d : Nat} {xs : List Nat} (h : LstR cy σ a d xs) : (d = cy 7 ∧ xs = []) ∨ d ∈ σ.1 := by
  obtain ⟨m, h1, h2 | ⟨cap, f, h3, -⟩⟩ := h
  · exact Or.inl h2
  · exact Or.inr h3.1
theorem LstR.amem {cy : Nat → Nat} {σ : Wd} {a d : Nat} {xs : List Nat} (h : LstR cy σ a d xs) : a ∈ σ.1 := by
  obtain ⟨m, h1, -⟩ := h
  exact h1.1
theorem LsB.retag {cy : Nat → Nat} {σ : Wd} {tg ad tg' ad' : Nat → Nat} {kl kd base : Nat} {bs : List Bn} (h : LsB cy σ tg ad kl kd base bs) (hT : ∀ a, a ∈ σ.1 → tg' a = tg a) (hA : ∀ k, (k = kl ∨ k = kd ∨ (base ≤ k ∧ k < base + 5 * bs.length)) → ad' k = ad k) : LsB cy σ tg' ad' kl kd base bs := by
  obtain ⟨⟨h1, h2, h3⟩, h4, h5⟩ := h
  have e1 := hA kl (Or.inl rfl)
  have e2 := hA kd (Or.inr (Or.inl rfl))
  have e3 : ∀ i c, i < bs.length → c < 5 → bq ad' base i c = bq ad base i c := fun i c hi hc => hA _ (Or.inr (Or.inr ⟨by omega, by omega⟩))
  refine ⟨⟨?_, ?_, ?_⟩, h4, fun i hi => ?_⟩
  · rw [e1, e2, bins_cong (fun j hj => e3 j 0 hj (by decide))]
    exact h1
  · rw [e1, hT _ h1.amem]
    exact h2
  · rw [e2]
    rcases h3 with h3 | h3
    · exact Or.inl h3
    · rcases h1.dmem with z | z
      · exact Or.inl ⟨z.1, List.eq_nil_of_length_eq_zero (by have := congrArg List.length z.2; rw [bins_len] at this; exact this)⟩
      · exact Or.inr (by rw [hT _ z]; exact h3)
  · obtain ⟨b1, b2⟩ := h5 i hi
    unfold BnR
    rw [e3 i 0 hi (by decide), e3 i 1 hi (by decide), e3 i 2 hi (by decide), e3 i 3 hi (by decide), e3 i 4 hi (by decide)]
    refine ⟨b1, fun c hc => ?_⟩
    rw [e3 i c hi hc, hT _ (b1.in (by rcases (show c = 0 ∨ c = 1 ∨ c = 2 ∨ c = 3 ∨ c = 4 by omega) with rfl | rfl | rfl | rfl | rfl; exact Or.inl rfl; exact Or.inr (Or.inl rfl); exact Or.inr (Or.inr (Or.inl rfl)); exact Or.inr (Or.inr (Or.inr (Or.inl rfl))); exact Or.inr (Or.inr (Or.inr (Or.inr rfl)))))]
    exact b2 c hc
theorem LsE.retag {cy : Nat → Nat} {σ : Wd} {tg ad tg' ad' : Nat → Nat} {evs : List Evt} (h : LsE cy σ tg ad evs) (hT : ∀ a, a ∈ σ.1 → tg' a = tg a) (hA : ∀ k, (k = 5 ∨ k = 6 ∨ (300 ≤ k ∧ k < 300 + evs.length)) → ad' k = ad k) : LsE cy σ tg' ad' evs := by
  obtain ⟨⟨h1, h2, h3⟩, h5⟩ := h
  have e1 := hA 5 (Or.inl rfl)
  have e2 := hA 6 (Or.inr (Or.inl rfl))
  refine ⟨⟨?_, ?_, ?_⟩, fun j e he => ?_⟩
  · rw [e1, e2, evl_cong (fun j hj => hA _ (Or.inr (Or.inr ⟨by omega, by omega⟩)))]
    exact h1
  · rw [e1, hT _ h1.amem]
    exact h2
  · rw [e2]
    rcases h3 with h3 | h3
    · exact Or.inl h3
    · rcases h1.dmem with z | z
      · exact Or.inl ⟨z.1, List.eq_nil_of_length_eq_zero (by have := congrArg List.length z.2; rw [evl_len] at this; exact this)⟩
      · exact Or.inr (by rw [hT _ z]; exact h3)
  · obtain ⟨b1, b2⟩ := h5 j e he
    have hj := (List.getElem?_eq_some_iff.mp he).1
    rw [hA _ (Or.inr (Or.inr ⟨by omega, by omega⟩))]
    exact ⟨b1, by rw [hT _ b1.1]; exact b2⟩
/-- rules, prices, hedge and line with their tags -/
def FxR (cy : Nat → Nat) (σ : Wd) (tg ad : Nat → Nat) (ru : Nat → Int × Int) (se : Int) (pf : Nat → Int) (hd : Hd) (ln : List Int) : Prop :=
  (RuleR cy σ (ad 7) (ad 8) (ad 9) ru se ∧ tg (ad 7) = 7 ∧ tg (ad 8) = 8 ∧ tg (ad 9) = 9) ∧ (has σ (ad 10) (iA cy 5 pf) ∧ tg (ad 10) = 10) ∧ (HedR cy σ (ad 11) (ad 12) hd ∧ tg (ad 11) = 11 ∧ tg (ad 12) = 12) ∧ ∃ cap, SbR cy σ (ad 13) (ad 14) cap ln ∧ tg (ad 13) = 13 ∧ tg (ad 14) = 14
theorem FxR.keep {cy : Nat → Nat} {σ σ' : Wd} {tg ad : Nat → Nat} {ru : Nat → Int × Int} {se : Int} {pf : Nat → Int} {hd : Hd} {ln : List Int} {F : Nat → Prop} (h : FxR cy σ tg ad ru se pf hd ln) (hk : Keep σ σ' F) (hF : ∀ y, y ∈ σ.1 → F y → tg y < 7 ∨ 14 < tg y) : FxR cy σ' tg ad ru se pf hd ln := by
  obtain ⟨⟨⟨r1, r2, r3, r4⟩, t7, t8, t9⟩, ⟨p1, t10⟩, ⟨⟨d1, d2⟩, t11, t12⟩, cap, ⟨ml, g, ⟨s1, s2, s3⟩, s4⟩, t13, t14⟩ := h
  have z : ∀ {y : Nat} {x : va_E}, has σ y x → 7 ≤ tg y → tg y ≤ 14 → has σ' y x := fun hy a b => hk _ _ hy (fun q => by have := hF _ hy.1 q; omega)
  exact ⟨⟨⟨z r1 (by omega) (by omega), z r2 (by omega) (by omega), z r3 (by omega) (by omega), r4⟩, t7, t8, t9⟩, ⟨z p1 (by omega) (by omega), t10⟩, ⟨⟨z d1 (by omega) (by omega), z d2 (by omega) (by omega)⟩, t11, t12⟩, cap, ⟨ml, g, ⟨z s1 (by omega) (by omega), z s2 (by omega) (by omega), s3⟩, s4⟩, t13, t14⟩
theorem FxR.retag {cy : Nat → Nat} {σ : Wd} {tg ad tg' ad' : Nat → Nat} {ru : Nat → Int × Int} {se : Int} {pf : Nat → Int} {hd : Hd} {ln : List Int} (h : FxR cy σ tg ad ru se pf hd ln) (hT : ∀ a, a ∈ σ.1 → tg' a = tg a) (hA : ∀ k, 7 ≤ k → k ≤ 14 → ad' k = ad k) : FxR cy σ tg' ad' ru se pf hd ln := by
  unfold FxR
  rw [hA 7 (by decide) (by decide), hA 8 (by decide) (by decide), hA 9 (by decide) (by decide), hA 10 (by decide) (by decide), hA 11 (by decide) (by decide), hA 12 (by decide) (by decide), hA 13 (by decide) (by decide), hA 14 (by decide) (by decide)]
  obtain ⟨⟨⟨r1, r2, r3, r4⟩, t7, t8, t9⟩, ⟨p1, t10⟩, ⟨⟨d1, d2⟩, t11, t12⟩, cap, ⟨ml, g, ⟨s1, s2, s3⟩, s4⟩, t13, t14⟩ := h
  exact ⟨⟨⟨r1, r2, r3, r4⟩, (hT _ r1.1).trans t7, (hT _ r2.1).trans t8, (hT _ r3.1).trans t9⟩, ⟨p1, (hT _ p1.1).trans t10⟩, ⟨⟨d1, d2⟩, (hT _ d1.1).trans t11, (hT _ d2.1).trans t12⟩, cap, ⟨ml, g, ⟨s1, s2, s3⟩, s4⟩, (hT _ s1.1).trans t13, (hT _ s2.1).trans t14⟩
abbrev xV (ad : Nat → Nat) (ca : Int) : va_E := .inr (6, [.ref (ad 1), .ref (ad 3), .ref (ad 5), .ref (ad 7), .ref (ad 10), .ref (ad 11), .ref (ad 13), vl ca])
/-- the elevator -/
def RX (cy : Nat → Nat) (σ : Wd) (tg ad : Nat → Nat) (bs : List Bn) (ru : Nat → Int × Int) (se : Int) (pf : Nat → Int) (hd : Hd) (ca : Int) (evs : List Evt) (ln : List Int) : Prop :=
  (has σ (ad 0) (xV ad ca) ∧ tg (ad 0) = 0) ∧ LsB cy σ tg ad 1 2 100 bs ∧ (∃ bsA, LsB cy σ tg ad 3 4 200 bsA ∧ bsA.map emp = bs.map emp) ∧ LsE cy σ tg ad evs ∧ FxR cy σ tg ad ru se pf hd ln ∧ Ok bs ru se pf hd evs ln
theorem RX.keep {cy : Nat → Nat} {σ σ' : Wd} {tg ad : Nat → Nat} {bs : List Bn} {ru : Nat → Int × Int} {se : Int} {pf : Nat → Int} {hd : Hd} {ca : Int} {evs : List Evt} {ln : List Int} {F : Nat → Prop} (h : RX cy σ tg ad bs ru se pf hd ca evs ln) (hk : Keep σ σ' F) (hF : ∀ y, y ∈ σ.1 → F y → 1000 ≤ tg y) : RX cy σ' tg ad bs ru se pf hd ca evs ln := by
  obtain ⟨⟨x1, x2⟩, hB, ⟨bsA, hA, hAe⟩, hE, hX, hO⟩ := h
  exact ⟨⟨hk _ _ x1 (fun z => by have := hF _ x1.1 z; omega), x2⟩, hB.keep hk (fun y hy z => by have := hF y hy z; omega), ⟨bsA, hA.keep hk (fun y hy z => by have := hF y hy z; omega), hAe⟩, hE.keep hk (fun y hy z => by have := hF y hy z; omega) hO.2.2.1.2, hX.keep hk (fun y hy z => by have := hF y hy z; omega), hO⟩
def updN (f : Nat → Nat) (k x : Nat) : Nat → Nat := fun i => if i = k then x else f i
theorem updN_s {f : Nat → Nat} {k x : Nat} : updN f k x k = x := if_pos rfl
theorem updN_n {f : Nat → Nat} {k x i : Nat} (h : i ≠ k) : updN f k x i = f i := if_neg h
theorem Keep.mem {σ σ' : Wd} {F : Nat → Prop} (h : Keep σ σ' F) {a : Nat} (ha : a ∈ σ.1) (hn : ¬ F a) : a ∈ σ'.1 := (h a _ ⟨ha, rfl⟩ hn).1
theorem LsB.retagS {cy : Nat → Nat} {σ σ1 : Wd} {tg ad tg' ad' : Nat → Nat} {kl kd base : Nat} {bs : List Bn} (h : LsB cy σ tg ad kl kd base bs) (hT : ∀ a, a ∈ σ1.1 → tg' a = tg a) (hI : ∀ i : Nat, i < bs.length → ∀ y, iB ad base i y → y ∈ σ1.1) (hL : LstR cy σ1 (ad kl) (ad kd) (bins ad base bs.length)) (hA : ∀ k, (k = kl ∨ k = kd ∨ (base ≤ k ∧ k < base + 5 * bs.length)) → ad' k = ad k) : LsB cy σ tg' ad' kl kd base bs := by
  obtain ⟨⟨h1, h2, h3⟩, h4, h5⟩ := h
  have e1 := hA kl (Or.inl rfl)
  have e2 := hA kd (Or.inr (Or.inl rfl))
  have e3 : ∀ i c, i < bs.length → c < 5 → bq ad' base i c = bq ad base i c := fun i c hi hc => hA _ (Or.inr (Or.inr ⟨by omega, by omega⟩))
  refine ⟨⟨?_, ?_, ?_⟩, h4, fun i hi => ?_⟩
  · rw [e1, e2, bins_cong (fun j hj => e3 j 0 hj (by decide))]
    exact h1
  · rw [e1, hT _ hL.amem]
    exact h2
  · rw [e2]
    rcases h3 with h3 | h3
    · exact Or.inl h3
    · rcases hL.dmem with z | z
      · exact Or.inl ⟨z.1, List.eq_nil_of_length_eq_zero (by have := congrArg List.length z.2; rw [bins_len] at this; exact this)⟩
      · exact Or.inr (by rw [hT _ z]; exact h3)
  · obtain ⟨b1, b2⟩ := h5 i hi
    unfold BnR
    rw [e3 i 0 hi (by decide), e3 i 1 hi (by decide), e3 i 2 hi (by decide), e3 i 3 hi (by decide), e3 i 4 hi (by decide)]
    refine ⟨b1, fun c hc => ?_⟩
    rw [e3 i c hi hc, hT _ (hI i hi _ (by rcases (show c = 0 ∨ c = 1 ∨ c = 2 ∨ c = 3 ∨ c = 4 by omega) with rfl | rfl | rfl | rfl | rfl; exact Or.inl rfl; exact Or.inr (Or.inl rfl); exact Or.inr (Or.inr (Or.inl rfl)); exact Or.inr (Or.inr (Or.inr (Or.inl rfl))); exact Or.inr (Or.inr (Or.inr (Or.inr rfl)))))]
    exact b2 c hc
theorem FxR.retagS {cy : Nat → Nat} {σ σ1 : Wd} {tg ad tg' ad' : Nat → Nat} {ru ru1 : Nat → Int × Int} {se se1 : Int} {pf pf1 : Nat → Int} {hd hd1 : Hd} {ln ln1 : List Int} (h : FxR cy σ tg ad ru se pf hd ln) (h1 : FxR cy σ1 tg ad ru1 se1 pf1 hd1 ln1) (hT : ∀ a, a ∈ σ1.1 → tg' a = tg a) (hA : ∀ k, 7 ≤ k → k ≤ 14 → ad' k = ad k) : FxR cy σ tg' ad' ru se pf hd ln := by
  unfold FxR
  rw [hA 7 (by decide) (by decide), hA 8 (by decide) (by decide), hA 9 (by decide) (by decide), hA 10 (by decide) (by decide), hA 11 (by decide) (by decide), hA 12 (by decide) (by decide), hA 13 (by decide) (by decide), hA 14 (by decide) (by decide)]
  obtain ⟨⟨⟨r1, r2, r3, r4⟩, t7, t8, t9⟩, ⟨p1, t10⟩, ⟨⟨d1, d2⟩, t11, t12⟩, cap, ⟨ml, g, ⟨s1, s2, s3⟩, s4⟩, t13, t14⟩ := h1
  obtain ⟨⟨q1, -⟩, ⟨q2, -⟩, ⟨q3, -⟩, cap9, q4, -⟩ := h
  exact ⟨⟨q1, (hT _ r1.1).trans t7, (hT _ r2.1).trans t8, (hT _ r3.1).trans t9⟩, ⟨q2, (hT _ p1.1).trans t10⟩, ⟨q3, (hT _ d1.1).trans t11, (hT _ d2.1).trans t12⟩, cap9, q4, (hT _ s1.1).trans t13, (hT _ s2.1).trans t14⟩
set_option maxHeartbeats 8000000 in
set_option maxRecDepth 20000 in
theorem c_happen (l : Launch) (hfl : l.stackTraces = false) (D : va_G) (cy : Nat → Nat) (σ : Wd) (tg ad : Nat → Nat) (bs : List Bn) (ru : Nat → Int × Int) (se : Int) (pf : Nat → Int) (hd : Hd) (ca : Int) (evs : List Evt) (ln : List Int) (hX0 : RX cy σ tg ad bs ru se pf hd ca evs ln) (ev : Evt) (hE : EvR σ (ad (300 + evs.length)) ev) (hte : tg (ad (300 + evs.length)) = 300 + evs.length) (hl : evs.length < 80) (hev : evOk bs ev) (cents : Int) (hc : -2147483648 ≤ cents ∧ cents < 2147483648) (hOk : Ok (apB (gradeF ru se) bs ev) ru se pf (hdF hd (totB (apB (gradeF ru se) bs ev))) (evs ++ [ev]) ln) : Ct l yX6_happen cX6_happen 3 none 6 1 250 D cy [.ref (ad 0), .ref (ad (300 + evs.length)), vi (cents)] σ (fun v σ' => v = none ∧ ∃ tg' ad' : Nat → Nat, RX cy σ' tg' ad' (apB (gradeF ru se) bs ev) ru se pf (hdF hd (totB (apB (gradeF ru se) bs ev))) (ca + cents) (evs ++ [ev]) ln ∧ (∀ y, y ∈ σ.1 → tg' y = tg y) ∧ (∀ k, k ≠ 6 → ad' k = ad k) ∧ Keep σ σ' (fun y => tg y < 1000) ∧ ∀ y, y ∈ σ.1 → y ∈ σ'.1) noX := by
  refine ct_start (by decide +kernel) hfl rfl (fun κ e1 e2 e3 C E NH => ?_)
  subst e1 e2 e3
  have C : Cx κ cX6_happen 3 RX6 "happen" 6 := C
  obtain ⟨-, -, -, -, hc, hs⟩ := id E
  show J κ σ [(0, .ref (ad 0)), (1, .ref (ad (300 + evs.length))), (2, vi (cents))] 0 [] 0 0
  refine j_t0 C (fun h70 => ?_)
  obtain ⟨⟨x1, x2⟩, hB, ⟨bsA, hA, hAe⟩, hEv, hX, hO⟩ := hX0
  have hX9 := hX
  obtain ⟨⟨hR, t7, t8, t9⟩, -, ⟨hH, t11, t12⟩, -⟩ := hX9
  have hOb := totB_in hOk.2.1
  have hO6 := hOk.1
  obtain ⟨e, he⟩ : ∃ e, ad (300 + evs.length) = e := ⟨_, rfl⟩
  rw [he] at hE hte
  rw [he]
  have hL1 := hB.1.1
  refine j_aload_n 0 C dX6_happen_0 rfl rfl rfl ?_
  refine j_aload_n 1 C dX6_happen_1 rfl rfl rfl ?_
  refine j_aload_n 0 C dX6_happen_2 rfl rfl rfl ?_
  refine j_get C dX6_happen_3 rfl fg_X6_12 x1 rfl ?_
  refine j_callV (st' := []) (As := [.ref e, .ref (ad 1)]) C dX6_happen_6 rfl m_X6_300 x1 rfl rfl rfl (c_apply (kL κ) hfl (kD κ) (kc κ) σ (ad 0) (ad 1) (ad 3) (ad 5) (ad 7) (ad 10) (ad 11) (ad 13) ca x1 tg ad 1 2 100 bs hB e ev hE (ad 8) (ad 9) ru se hR (fun y hy => by rcases hy with rfl | rfl | rfl <;> omega) ⟨by omega, by omega⟩ hev) rfl (by omega) (by omega) (by omega) (fun _ _ hx => hx.elim) (fun v2 τ1 hp3 => ?_)
  obtain ⟨rfl, hB1, hk1, hd1⟩ := hp3
  show J κ τ1 [(0, .ref (ad 0)), (1, .ref e), (2, vi (cents))] 9 [] _ _
  obtain ⟨bs1, hbs1⟩ : ∃ z, apB (gradeF ru se) bs ev = z := ⟨_, rfl⟩
  rw [hbs1] at hB1 hOk hOb hO6 E
  have x11 := hk1 _ _ x1 (fun z => by have z1 := z.1; omega)
  have hE1 := hk1 _ _ hE (fun z => by have z1 := z.2; omega)
  have hA1 := hA.keep hk1 (fun y hy z => by have z1 := z.2; have z2 := z.1; omega)
  have hEv1 := hEv.keep hk1 (fun y hy z => by have z1 := z.2; have z2 := z.1; omega) hO.2.2.1.2
  have hX1 := hX.keep hk1 (fun y hy z => by have z1 := z.2; have z2 := z.1; omega)
  have h71 : kc κ 7 ∉ τ1.1 := by rw [hd1]; exact h70
  obtain ⟨⟨hL5, t5, t6⟩, hEvs⟩ := id hEv1
  obtain ⟨m91, hl91, -⟩ := id hL5
  refine j_aload_n 0 C dX6_happen_9 rfl rfl rfl ?_
  refine j_get C dX6_happen_10 rfl fg_X6_19 x11 rfl ?_
  refine j_aload_n 1 C dX6_happen_13 rfl rfl rfl ?_
  have hel : ∀ y ∈ evl ad evs.length, Elt τ1 y := fun y hy => by obtain ⟨j, hj, rfl⟩ := evl_mem hy; exact Elt.evt (hEvs j _ (List.getElem?_eq_getElem hj)).1
  have hela : ∀ y ∈ evl ad evs.length, ¬ y = ad 5 := fun y hy z => by obtain ⟨j, hj, rfl⟩ := evl_mem hy; have z1 := (hEvs j _ (List.getElem?_eq_getElem hj)).2; rw [z] at z1; omega
  have he5 : e ≠ ad 5 := fun z => by rw [z] at hte; omega
  have he6 : e ≠ ad 6 := fun z => t6.elim (fun q => h71 (by rw [← q.1, ← z]; exact hE1.1)) (fun q => by rw [z] at hte; omega)
  refine j_callV (st' := []) (As := [.ref e]) C dX6_happen_14 rfl m_X6_71 hl91 rfl rfl rfl (c_listAdd (kL κ) hfl (kD κ) (kc κ) τ1 (ad 5) (ad 6) (evl ad evs.length) hL5 (by rw [evl_len]; omega) hel hela e (Elt.evt hE1) he5 he6) rfl (by omega) (by omega) (by omega) (fun _ _ hx => hx.elim) (fun v5 τ4 hp6 => ?_)
  obtain ⟨rfl, d', hr1, hr2, hr3⟩ := hp6
  show J κ τ4 [(0, .ref (ad 0)), (1, .ref e), (2, vi (cents))] 17 [vi (1)] 1 250
  have x12 := hr3 _ _ x11 (fun z => z.elim (fun z => by rw [z] at x2; omega) (fun z => t6.elim (fun q => h71 (by rw [← q.1, ← z]; exact x11.1)) (fun q => by rw [z] at x2; omega)))
  have hE2 := hr3 _ _ hE1 (fun z => z.elim (fun z => by rw [z] at hte; omega) (fun z => t6.elim (fun q => h71 (by rw [← q.1, ← z]; exact hE1.1)) (fun q => by rw [z] at hte; omega)))
  have hB2 := hB1.keep hr3 (fun y hy z => by have ht56 : tg y = 5 ∨ tg y = 6 := z.elim (fun z => Or.inl (by rw [z]; exact t5)) (fun z => t6.elim (fun q => absurd (show kc κ 7 ∈ τ1.1 by rw [← q.1, ← z]; exact hy) h71) (fun q => Or.inr (by rw [z]; exact q))); omega)
  have hA2 := hA1.keep hr3 (fun y hy z => by have ht56 : tg y = 5 ∨ tg y = 6 := z.elim (fun z => Or.inl (by rw [z]; exact t5)) (fun z => t6.elim (fun q => absurd (show kc κ 7 ∈ τ1.1 by rw [← q.1, ← z]; exact hy) h71) (fun q => Or.inr (by rw [z]; exact q))); omega)
  have hX2 := hX1.keep hr3 (fun y hy z => by have ht56 : tg y = 5 ∨ tg y = 6 := z.elim (fun z => Or.inl (by rw [z]; exact t5)) (fun z => t6.elim (fun q => absurd (show kc κ 7 ∈ τ1.1 by rw [← q.1, ← z]; exact hy) h71) (fun q => Or.inr (by rw [z]; exact q))); omega)
  have hEv2 : ∀ (j : Nat) (e9 : Evt), evs[j]? = some e9 → EvR τ4 (ad (300 + j)) e9 ∧ tg (ad (300 + j)) = 300 + j := fun j e9 h9 => by
    obtain ⟨a1, a2⟩ := hEvs j e9 h9
    exact ⟨hr3 _ _ a1 (fun z => z.elim (fun z => by rw [z] at a2; omega) (fun z => t6.elim (fun q => h71 (by rw [← q.1, ← z]; exact a1.1)) (fun q => by rw [z] at a2; omega))), a2⟩
  have kpA : Keep τ4 τ4 (fun y => y = ad 0) := Keep.rf
  have dmA : τ4.1 = τ4.1 := rfl
  refine j_pop C dX6_happen_17 rfl rfl ?_
  refine j_aload_n 0 C dX6_happen_18 rfl rfl rfl ?_
  refine j_dup C dX6_happen_19 rfl rfl ?_
  refine j_get C dX6_happen_20 rfl fg_X6_47 x12 rfl ?_
  refine j_iload_n 2 C dX6_happen_23 rfl rfl rfl ?_
  refine j_i2l C dX6_happen_24 rfl ⟨by omega, by omega⟩ ?_
  refine j_ladd C dX6_happen_25 rfl ?_
  refine j_put (fs' := [.ref (ad 1), .ref (ad 3), .ref (ad 5), .ref (ad 7), .ref (ad 10), .ref (ad 11), .ref (ad 13), vl (ca + cents)]) C dX6_happen_26 rfl fa_X6_47 x12 rfl rfl rfl rfl (fun τ7 ee8 => ?_)
  have u9 : has τ7 (ad 0) (.inr (6, [.ref (ad 1), .ref (ad 3), .ref (ad 5), .ref (ad 7), .ref (ad 10), .ref (ad 11), .ref (ad 13), vl (ca + cents)])) := x12.self' ee8
  have kp10 := kpA.put ee8 rfl
  have dm11 := (dom_put ee8).trans dmA
  have hE3 := kp10 _ _ hE2 (fun z => by rw [z] at hte; omega)
  have hB3 := hB2.keep kp10 (fun y hy z => by have z1 : tg y = 0 := (by rw [z]; exact x2); omega)
  have hA3 := hA2.keep kp10 (fun y hy z => by have z1 : tg y = 0 := (by rw [z]; exact x2); omega)
  have hX3 := hX2.keep kp10 (fun y hy z => by have z1 : tg y = 0 := (by rw [z]; exact x2); omega)
  have hH3 := hX3.2.2.1.1
  have hH3o := hH3.1
  refine j_aload_n 0 C dX6_happen_29 rfl rfl rfl ?_
  refine j_get C dX6_happen_30 rfl fg_X6_36 u9 rfl ?_
  refine j_aload_n 0 C dX6_happen_33 rfl rfl rfl ?_
  refine j_callV (st' := [.ref (ad 11)]) (As := []) C dX6_happen_34 rfl m_X6_189 u9 rfl rfl rfl (c_owned (kL κ) hfl (kD κ) (kc κ) τ7 tg ad 1 2 100 bs1 hB3 (ad 0) (ad 3) (ad 5) (ad 7) (ad 10) (ad 11) (ad 13) _ u9) rfl (by omega) (by omega) (by omega) (fun _ _ hx => hx.elim) (fun v13 τ12 hp14 => ?_)
  obtain ⟨rfl, hs9⟩ := hp14
  replace hs9 := hs9.symm
  subst hs9
  show J κ τ7 [(0, .ref (ad 0)), (1, .ref e), (2, vi (cents))] 37 [vi (totB bs1), .ref (ad 11)] _ _
  obtain ⟨⟨hc1, hc2⟩, hc3, hc4⟩ := hO.2.2.2.1
  have hOb0 := totB_in hO.2.1
  have hO0 := hO.1
  refine j_callV (st' := []) (As := [vi (totB bs1)]) C dX6_happen_37 rfl m_X6_304 hH3o rfl rfl rfl (c_follow (kL κ) hfl (kD κ) (kc κ) τ7 (ad 11) (ad 12) hd (totB bs1) hH3 ⟨⟨by omega, by omega⟩, by rw [hc3]; omega, by rw [hc3]; omega⟩ ⟨by omega, by omega⟩) rfl (by omega) (by omega) (by omega) (fun _ _ hx => hx.elim) (fun v16 τ15 hp17 => ?_)
  obtain ⟨rfl, hH4, hk4, hd4⟩ := hp17
  show J κ τ15 [(0, .ref (ad 0)), (1, .ref e), (2, vi (cents))] 40 [] _ _
  have x14 := hk4 _ _ u9 (fun z => z.elim (fun z => by rw [z] at x2; omega) (fun z => by rw [z] at x2; omega))
  have hE4 := hk4 _ _ hE3 (fun z => z.elim (fun z => by rw [z] at hte; omega) (fun z => by rw [z] at hte; omega))
  have hB4 := hB3.keep hk4 (fun y hy z => by have z1 : tg y = 11 ∨ tg y = 12 := z.elim (fun z => Or.inl (by rw [z]; exact t11)) (fun z => Or.inr (by rw [z]; exact t12)); omega)
  have hA4 := hA3.keep hk4 (fun y hy z => by have z1 : tg y = 11 ∨ tg y = 12 := z.elim (fun z => Or.inl (by rw [z]; exact t11)) (fun z => Or.inr (by rw [z]; exact t12)); omega)
  obtain ⟨⟨hR3, -, -, -⟩, ⟨hP3, t10⟩, -, cap3, hS3, t13, t14⟩ := id hX3
  have hX4 : FxR (kc κ) τ15 tg ad ru se pf (hdF hd (totB bs1)) ln := ⟨⟨hR3.keep hk4 ⟨fun z => z.elim (fun z => by rw [z] at t7; omega) (fun z => by rw [z] at t7; omega), fun z => z.elim (fun z => by rw [z] at t8; omega) (fun z => by rw [z] at t8; omega), fun z => z.elim (fun z => by rw [z] at t9; omega) (fun z => by rw [z] at t9; omega)⟩, t7, t8, t9⟩, ⟨hk4 _ _ hP3 (fun z => z.elim (fun z => by rw [z] at t10; omega) (fun z => by rw [z] at t10; omega)), t10⟩, ⟨hH4, t11, t12⟩, cap3, hS3.keep hk4 ⟨fun z => z.elim (fun z => by rw [z] at t13; omega) (fun z => by rw [z] at t13; omega), fun z => z.elim (fun z => by rw [z] at t14; omega) (fun z => by rw [z] at t14; omega)⟩, t13, t14⟩
  have hd'2 : d' ∈ τ4.1 := hr1.dmem.elim (fun z => absurd z.2 (by simp)) id
  have hd'6 : (d' = ad 6 ∧ tg d' = 6) ∨ d' ∉ τ1.1 := hr2.elim (fun z => Or.inl ⟨z.1, by rw [z.1]; exact t6.elim (fun q => absurd (show kc κ 7 ∈ τ1.1 by rw [← q.1, ← z.1, ← z.2]; exact hd'2) h71) id⟩) (fun z => Or.inr z.1)
  have hdn : ∀ y, y ∈ τ1.1 → tg y ≠ 6 → y ≠ d' := fun y hy h6 z => hd'6.elim (fun q => h6 (by rw [z]; exact q.2)) (fun q => q (by rw [← z]; exact hy))
  have hT : ∀ y, y ∈ τ1.1 → updN tg d' 6 y = tg y := fun y hy => by
    by_cases h6 : y = d'
    · rw [h6, updN_s]; exact hd'6.elim (fun q => q.2.symm) (fun q => absurd (h6 ▸ hy) q)
    · exact updN_n h6
  obtain ⟨ad', hadd⟩ : ∃ f, updN ad 6 d' = f := ⟨_, rfl⟩
  obtain ⟨tg', htgd⟩ : ∃ f, updN tg d' 6 = f := ⟨_, rfl⟩
  have hadn : ∀ k, k ≠ 6 → ad' k = ad k := fun k hk => by rw [← hadd]; exact updN_n hk
  have had6 : ad' 6 = d' := by rw [← hadd]; exact updN_s
  have htg6 : tg' d' = 6 := by rw [← htgd]; exact updN_s
  rw [htgd] at hT
  have hdom4 : τ15.1 = τ4.1 := hd4.trans dm11
  have hT4 : ∀ y, y ∈ τ15.1 → y ≠ d' → tg' y = tg y := fun y hy h6 => by rw [← htgd]; exact updN_n h6
  have hr14 := (hr1.keep kp10 ⟨fun z => by rw [z] at t5; omega, fun z => absurd z (Ne.symm (hdn (ad 0) x11.1 (by omega)))⟩).keep hk4 ⟨fun z => z.elim (fun z => by rw [z] at t5; omega) (fun z => by rw [z] at t5; omega), fun z => z.elim (fun z => absurd z (Ne.symm (hdn (ad 11) hX1.2.2.1.1.1.1 (by omega)))) (fun z => absurd z (Ne.symm (hdn (ad 12) hX1.2.2.1.1.2.1 (by omega))))⟩
  have hl1 : (evs ++ [ev]).length = evs.length + 1 := by simp
  have hEv4 : LsE (kc κ) τ15 tg' ad' (evs ++ [ev]) := by
    have ecg : evl ad' (evs ++ [ev]).length = evl ad evs.length ++ [e] := by rw [hl1, evl_succ, hadn _ (by omega), he, evl_cong (fun j hj => hadn _ (by omega))]
    refine ⟨⟨?_, ?_, Or.inr (by rw [had6]; exact htg6)⟩, fun j e9 h9 => ?_⟩
    · rw [ecg, hadn 5 (by decide), had6]; exact hr14
    · rw [hadn 5 (by decide), hT _ hL5.amem]; exact t5
    · rw [hadn _ (by omega)]
      by_cases hj : j < evs.length
      · rw [List.getElem?_append_left hj] at h9
        obtain ⟨a1, a2⟩ := hEv2 j e9 h9
        refine ⟨hk4 _ _ (kp10 _ _ a1 (fun z => by rw [z] at a2; omega)) (fun z => z.elim (fun z => by rw [z] at a2; omega) (fun z => by rw [z] at a2; omega)), ?_⟩
        rw [hT _ (hEvs j e9 h9).1.1]; exact a2
      · rw [List.getElem?_append_right (by omega)] at h9
        have hj0 : j = evs.length := by have := (List.getElem?_eq_some_iff.mp h9).1; simp at this; omega
        subst hj0; rw [Nat.sub_self] at h9; cases h9; rw [he, hT _ hE1.1]; exact ⟨hE4, hte⟩
  have mem1 : ∀ y, y ∈ τ1.1 → y ∈ τ4.1 := fun y hy => by
    rcases hr2 with z | z
    · rw [z.2]; exact hy
    · rw [z.2]; exact List.mem_append_left _ hy
  have apt : ∀ y, y ∈ τ15.1 → tg y ≠ 6 → y ≠ d' → tg' y = tg y := fun y hy _ h6 => hT4 y hy h6
  have hxad : xV ad' (ca + cents) = xV ad (ca + cents) := by unfold xV; rw [hadn 1 (by decide), hadn 3 (by decide), hadn 5 (by decide), hadn 7 (by decide), hadn 10 (by decide), hadn 11 (by decide), hadn 13 (by decide)]
  have hkA : Keep σ τ15 (fun y => tg y < 1000) := (((hk1.mono (fun y z => by have z1 := z.2; show tg y < 1000; omega)).tr2 hr3 (fun y z => z.elim (fun z => Or.inl (by show tg y < 1000; rw [z]; omega)) (fun z => t6.elim (fun q => Or.inr (by rw [z, q.1]; exact h70)) (fun q => Or.inl (by show tg y < 1000; rw [z]; omega))))).tr (kp10.mono (fun y z => by show tg y < 1000; rw [z]; omega))).tr (hk4.mono (fun y z => by show tg y < 1000; rcases z with z | z <;> rw [z] <;> omega))
  have hmA : ∀ y, y ∈ σ.1 → y ∈ τ15.1 := fun y hy => by rw [hdom4]; exact mem1 y (by rw [hd1]; exact hy)
  exact j_vret C E dX6_happen_40 (by omega) (by omega) ⟨rfl, tg', ad', ⟨⟨by rw [hadn 0 (by decide), hxad]; exact x14, by rw [hadn 0 (by decide), hT _ x11.1]; exact x2⟩, hB4.retagS hT (fun i hi y hy => (hB1.2.2 i hi).1.in hy) hB1.1.1 (fun k hk => hadn k (by omega)), ⟨bsA, hA4.retagS hT (fun i hi y hy => (hA1.2.2 i hi).1.in hy) hA1.1.1 (fun k hk => hadn k (by omega)), by rw [hAe, ← hbs1, apB_emp]⟩, hEv4, hX4.retagS hX1 hT (fun k a b => hadn k (by omega)), hOk⟩, (fun y hy => (hT y (by rw [hd1]; exact hy))), hadn, hkA, hmA⟩
