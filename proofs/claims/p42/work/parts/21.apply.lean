/-! GrainElevator: lists of bins, going through an event, what is owned -/
/-- the address of a bin's part -/
abbrev bq (ad : Nat → Nat) (base i c : Nat) : Nat := ad (base + 5 * i + c)
abbrev iB (ad : Nat → Nat) (base i : Nat) : Nat → Prop := inB (bq ad base i 0) (bq ad base i 1) (bq ad base i 2) (bq ad base i 3) (bq ad base i 4)
/-- a bin with its tags -/
def BnR (cy : Nat → Nat) (σ : Wd) (tg ad : Nat → Nat) (base i : Nat) (b : Bn) : Prop := BinR cy σ (bq ad base i 0) (bq ad base i 1) (bq ad base i 2) (bq ad base i 3) (bq ad base i 4) b ∧ ∀ c, c < 5 → tg (bq ad base i c) = base + 5 * i + c
theorem BnR.tag {cy : Nat → Nat} {σ : Wd} {tg ad : Nat → Nat} {base i : Nat} {b : Bn} (h : BnR cy σ tg ad base i b) {a : Nat} (ha : iB ad base i a) : base + 5 * i ≤ tg a ∧ tg a < base + 5 * i + 5 := by
  have h0 := h.2 0 (by decide)
  have h1 := h.2 1 (by decide)
  have h2 := h.2 2 (by decide)
  have h3 := h.2 3 (by decide)
  have h4 := h.2 4 (by decide)
  rcases ha with rfl | rfl | rfl | rfl | rfl <;> omega
theorem BinR.in {cy : Nat → Nat} {σ : Wd} {h q1 q2 q3 q4 : Nat} {b : Bn} (hB : BinR cy σ h q1 q2 q3 q4 b) {a : Nat} (ha : inB h q1 q2 q3 q4 a) : a ∈ σ.1 := by
  obtain ⟨old, g1, g2, g3, g4, ⟨c1, ⟨c2, c3, c4, c5⟩, -⟩, -⟩ := hB
  rcases ha with rfl | rfl | rfl | rfl | rfl
  · exact c1.1
  · exact c2.1
  · exact c3.1
  · exact c4.1
  · exact c5.1
def bins (ad : Nat → Nat) (base n : Nat) : List Nat := (List.range n).map (fun i => bq ad base i 0)
theorem bins_len (ad : Nat → Nat) (base n : Nat) : (bins ad base n).length = n := by simp [bins]
theorem bins_at {ad : Nat → Nat} {base n i : Nat} (h : i < n) : (bins ad base n)[i]? = some (bq ad base i 0) := by
  unfold bins
  rw [List.getElem?_map, List.getElem?_range h]
  rfl
/-- a list of bins -/
def LsB (cy : Nat → Nat) (σ : Wd) (tg ad : Nat → Nat) (kl kd base : Nat) (bs : List Bn) : Prop := (LstR cy σ (ad kl) (ad kd) (bins ad base bs.length) ∧ tg (ad kl) = kl ∧ ((ad kd = cy 7 ∧ bs = []) ∨ tg (ad kd) = kd)) ∧ bs.length ≤ 6 ∧ ∀ i : Nat, i < bs.length → BnR cy σ tg ad base i (gB bs i)
theorem LstR.keepT {cy : Nat → Nat} {σ σ' : Wd} {tg : Nat → Nat} {a d ka kd : Nat} {xs : List Nat} {F : Nat → Prop} (h : LstR cy σ a d xs) (hta : tg a = ka) (htd : (d = cy 7 ∧ xs = []) ∨ tg d = kd) (hk : Keep σ σ' F) (hF : ∀ y, y ∈ σ.1 → F y → tg y ≠ ka ∧ tg y ≠ kd) : LstR cy σ' a d xs := by
  obtain ⟨m, h1, h2⟩ := h
  refine ⟨m, hk _ _ h1 (fun z => (hF _ h1.1 z).1 hta), ?_⟩
  rcases h2 with h2 | ⟨cap, f, h3, h4, h5⟩
  · exact Or.inl h2
  · rcases htd with htd | htd
    · exact Or.inl htd
    · exact Or.inr ⟨cap, f, hk _ _ h3 (fun z => (hF _ h3.1 z).2 htd), h4, h5⟩
theorem LsB.keep {cy : Nat → Nat} {σ σ' : Wd} {tg ad : Nat → Nat} {kl kd base : Nat} {bs : List Bn} {F : Nat → Prop} (h : LsB cy σ tg ad kl kd base bs) (hk : Keep σ σ' F) (hF : ∀ y, y ∈ σ.1 → F y → tg y ≠ kl ∧ tg y ≠ kd ∧ (tg y < base ∨ base + 50 ≤ tg y)) : LsB cy σ' tg ad kl kd base bs := by
  obtain ⟨⟨h1, h2, h3⟩, h4, h5⟩ := h
  refine ⟨⟨h1.keepT h2 (h3.elim (fun z => Or.inl ⟨z.1, by rw [z.2]; rfl⟩) Or.inr) hk (fun y hy z => ⟨(hF y hy z).1, (hF y hy z).2.1⟩), h2, h3⟩, h4, fun i hi => ?_⟩
  have hb := h5 i hi
  exact ⟨hb.1.keep hk (fun a ha z => by
    have ht := hb.tag ha
    have hz := (hF a (hb.1.in ha) z).2.2
    omega), hb.2⟩
theorem LsB.set {cy : Nat → Nat} {σ σ' : Wd} {tg ad : Nat → Nat} {kl kd base : Nat} {bs : List Bn} (h : LsB cy σ tg ad kl kd base bs) {i : Nat} (hi : i < bs.length) (hko : (kl < base ∨ base + 50 ≤ kl) ∧ (kd < base ∨ base + 50 ≤ kd)) (hk : Keep σ σ' (iB ad base i)) {l : List Ly} (hb : BinR cy σ' (bq ad base i 0) (bq ad base i 1) (bq ad base i 2) (bq ad base i 3) (bq ad base i 4) ((gB bs i).1, (gB bs i).2.1, l)) : LsB cy σ' tg ad kl kd base (setL bs i l) := by
  obtain ⟨⟨h1, h2, h3⟩, h4, h5⟩ := h
  have ht : ∀ y, iB ad base i y → base ≤ tg y ∧ tg y < base + 50 := fun y hy => by
    have := (h5 i hi).tag hy
    omega
  refine ⟨⟨?_, h2, h3.elim (fun z => by rw [z.2] at hi; exact absurd hi (Nat.not_lt_zero _)) Or.inr⟩, by rw [setL_len]; exact h4, fun j hj => ?_⟩
  · rw [setL_len]
    exact h1.keepT h2 (h3.elim (fun z => Or.inl ⟨z.1, by rw [z.2]; rfl⟩) Or.inr) hk (fun y hy z => by
      have := ht y z
      exact ⟨by omega, by omega⟩)
  · rw [setL_len] at hj
    rw [gB_set (by omega) (by omega) (by omega)]
    by_cases hji : (j : Int) = (i : Int)
    · have e : j = i := by omega
      subst e
      rw [if_pos rfl]
      exact ⟨hb, (h5 j hj).2⟩
    · rw [if_neg hji]
      have hbj := h5 j hj
      exact ⟨hbj.1.keep hk (fun a ha z => by
        have a1 := hbj.tag ha
        have a2 := (h5 i hi).tag z
        omega), hbj.2⟩
theorem LsB.at {cy : Nat → Nat} {σ : Wd} {tg ad : Nat → Nat} {kl kd base : Nat} {bs : List Bn} (h : LsB cy σ tg ad kl kd base bs) {i : Nat} (hi : i < bs.length) {cap : Int} {mf : Bool} {ly : List Ly} (hg : gB bs i = (cap, mf, ly)) : BinR cy σ (bq ad base i 0) (bq ad base i 1) (bq ad base i 2) (bq ad base i 3) (bq ad base i 4) (cap, mf, ly) := by
  have := (h.2.2 i hi).1
  rw [hg] at this
  exact this
theorem LsB.dis {cy : Nat → Nat} {σ : Wd} {tg ad : Nat → Nat} {kl kd base : Nat} {bs : List Bn} (h : LsB cy σ tg ad kl kd base bs) {i j : Nat} (hi : i < bs.length) (hj : j < bs.length) (hij : i ≠ j) : ∀ a, iB ad base i a → ¬ iB ad base j a := fun a h1 h2 => by
  have a1 := (h.2.2 i hi).tag h1
  have a2 := (h.2.2 j hj).tag h2
  omega
abbrev inL (tg : Nat → Nat) (base : Nat) : Nat → Prop := fun a => base ≤ tg a ∧ tg a < base + 50
theorem LsB.inL {cy : Nat → Nat} {σ : Wd} {tg ad : Nat → Nat} {kl kd base : Nat} {bs : List Bn} (h : LsB cy σ tg ad kl kd base bs) {i : Nat} (hi : i < bs.length) : ∀ a, iB ad base i a → inL tg base a := fun a ha => by
  have a1 := (h.2.2 i hi).tag ha
  have a2 := h.2.1
  exact ⟨by omega, by omega⟩
theorem totB_take : ∀ (bs : List Bn) (i : Nat), i < bs.length → totB (bs.take (i + 1)) = totB (bs.take i) + tot (gB bs i).2.2
  | [], i, h => by simp at h
  | b :: l, 0, h => by simp [totB, gB]
  | b :: l, i + 1, h => by
    have ih := totB_take l i (by simpa using h)
    rw [List.take_succ_cons, List.take_succ_cons, totB, totB, ih]
    have e : gB (b :: l) ((i + 1 : Nat) : Int) = gB l (i : Int) := by
      unfold gB
      rw [show (((i + 1 : Nat) : Int)).toNat = i + 1 by omega, List.getD_cons_succ]
      rfl
    rw [e]
    omega
set_option maxHeartbeats 4000000 in
set_option maxRecDepth 20000 in
theorem c_owned (l : Launch) (hfl : l.stackTraces = false) (D : va_G) (cy : Nat → Nat) (σ : Wd) (tg ad : Nat → Nat) (kl kd base : Nat) (bs : List Bn) (hB : LsB cy σ tg ad kl kd base bs) (x a3 a5 a7 a10 a11 a13 : Nat) (ca : Int) (hx9 : has σ x (.inr (6, [.ref (ad kl), .ref a3, .ref a5, .ref a7, .ref a10, .ref a11, .ref a13, vl ca]))) : Ct l yX6_owned cX6_owned 3 (some .int) 3 0 0 D cy [.ref x] σ (fun v σ' => v = some (vi (totB bs)) ∧ σ' = σ) noX := by
  refine ct_start (by decide +kernel) hfl rfl (fun κ e1 e2 e3 C E NH => ?_)
  subst e1 e2 e3
  have C : Cx κ cX6_owned 3 RX6 "owned" 3 := C
  obtain ⟨-, -, -, -, hc, hs⟩ := id E
  show J κ σ [(0, .ref x)] 0 [] 0 0
  have hL := hB.1.1
  have hbl := bins_len ad base bs.length
  have h6 := hB.2.1
  obtain ⟨m91, hl91, -⟩ := id hL
  refine j_iconst C dX6_owned_0 rfl ?_
  refine j_istore_n (lv' := [(0, .ref x), (1, vi (0))]) [1, 0] C dX6_owned_1 rfl rfl rfl rfl ?_
  refine j_iconst C dX6_owned_2 rfl ?_
  refine j_istore_n (lv' := [(0, .ref x), (1, vi (0)), (2, vi (0))]) [1, 2, 0] C dX6_owned_3 rfl rfl rfl rfl ?_
  have lp : ∀ (N : Nat) (s : Int) (i : Nat), s = totB (bs.take i) → i ≤ bs.length → 0 ≤ s ∧ s ≤ 160000 * (i : Int) → (bs.length + 1 - i) < N → J κ σ [(0, .ref x), (1, vi (s)), (2, vi ((i : Int)))] 4 [] 0 0 := by
    intro N
    induction N with
    | zero => intro s i hs hi hsb hN; exact absurd hN (Nat.not_lt_zero _)
    | succ N ih =>
      intro s i hs hi hsb hN
      refine j_iload_n 2 C dX6_owned_4 rfl rfl rfl ?_
      refine j_aload_n 0 C dX6_owned_5 rfl rfl rfl ?_
      refine j_get C dX6_owned_6 rfl fg_X6_12 hx9 rfl ?_
      refine j_callV (st' := [vi ((i : Int))]) (As := []) C dX6_owned_9 rfl m_X6_55 hl91 rfl rfl rfl (c_size (kL κ) hfl (kD κ) (kc κ) σ (ad kl) (ad kd) _ hL) rfl (by omega) (by omega) (by omega) (fun _ _ hx => hx.elim) (fun v2 τ1 hp3 => ?_)
      obtain ⟨rfl, hs9⟩ := hp3
      replace hs9 := hs9.symm
      subst hs9
      show J κ σ [(0, .ref x), (1, vi (s)), (2, vi ((i : Int)))] 12 [vi (((bins ad base bs.length).length : Int)), vi ((i : Int))] _ _
      rw [hbl]
      refine j_icmp_ge (tgt := 38) C dX6_owned_12 rfl rfl ⟨by omega, by omega⟩ ⟨by omega, by omega⟩ (fun cc4 => ?_) (fun cc4 => ?_)
      · refine j_iload_n 1 C dX6_owned_38 rfl rfl rfl ?_
        exact j_iret C E dX6_owned_39 (by omega) (by omega) ⟨congrArg some (congrArg vi (by rw [hs, List.take_of_length_le (by omega)])), rfl⟩
      · have hi9 : i < bs.length := by omega
        obtain ⟨⟨cap, mf, ly⟩, hg⟩ : ∃ z, gB bs (i : Int) = z := ⟨_, rfl⟩
        have hb9 := hB.at hi9 hg
        have htk := totB_take bs i hi9
        rw [hg] at htk
        dsimp only at htk
        obtain ⟨-, -, -, -, -, -, -, hcn9, -, hok9⟩ := id hb9
        dsimp only at hcn9 hok9
        have htm := tot_max hok9
        have ht0 := tot_0 hok9
        have hxi : i < (bins ad base bs.length).length := by omega
        have hxb : (bins ad base bs.length)[i]'hxi = bq ad base i 0 := (List.getElem?_eq_some_iff.mp (bins_at hi9)).2
        obtain ⟨old7, ga7, gb7, gc7, gd7, ⟨hh7, -, -⟩, -⟩ := id hb9
        dsimp only at hh7
        refine j_iload_n 1 C dX6_owned_15 rfl rfl rfl ?_
        refine j_aload_n 0 C dX6_owned_16 rfl rfl rfl ?_
        refine j_get C dX6_owned_17 rfl fg_X6_12 hx9 rfl ?_
        refine j_iload_n 2 C dX6_owned_20 rfl rfl rfl ?_
        refine j_callV (st' := [vi (s)]) (As := [vi ((i : Int))]) C dX6_owned_21 rfl m_X6_194 hl91 rfl rfl rfl (c_listGet (kL κ) hfl (kD κ) (kc κ) σ (ad kl) (ad kd) _ hL i hxi) rfl (by omega) (by omega) (by omega) (fun _ _ hx => hx.elim) (fun v6 τ5 hp7 => ?_)
        obtain ⟨rfl, hs9⟩ := hp7
        replace hs9 := hs9.symm
        subst hs9
        show J κ σ [(0, .ref x), (1, vi (s)), (2, vi ((i : Int)))] 24 [.ref ((bins ad base bs.length)[i]'hxi), vi (s)] _ _
        rw [hxb]
        refine j_chk C dX6_owned_24 rfl hh7 rfl cl_X6_66 ?_
        refine j_get C dX6_owned_27 rfl fg_X6_153 hh7 rfl ?_
        refine j_iadd C dX6_owned_30 rfl ?_
        refine j_istore_n (lv' := [(0, .ref x), (1, vi (s + (tot ly))), (2, vi ((i : Int)))]) [1, 0, 2] C dX6_owned_31 rfl rfl rfl rfl ?_
        refine j_iinc (y := (i : Int) + 1) (lv' := [(0, .ref x), (1, vi (s + (tot ly))), (2, vi ((i : Int) + 1))]) 2 [1, 2, 0] C dX6_owned_32 rfl rfl rfl rfl rfl ?_
        refine j_goto (tgt := 4) C dX6_owned_35 rfl ?_
        refine ih _ (i + 1) (by rw [htk, ← hs]) (by omega) ?_ (by omega)
        constructor <;> omega
  exact lp _ 0 0 rfl (Nat.zero_le _) ⟨by omega, by omega⟩ (Nat.lt_succ_self _)
theorem LsB.set2 {cy : Nat → Nat} {σ σ' : Wd} {tg ad : Nat → Nat} {kl kd base : Nat} {bs : List Bn} (h : LsB cy σ tg ad kl kd base bs) {i j : Nat} (hi : i < bs.length) (hj : j < bs.length) (hij : i ≠ j) (hko : (kl < base ∨ base + 50 ≤ kl) ∧ (kd < base ∨ base + 50 ≤ kd)) (hk : Keep σ σ' (fun a => iB ad base i a ∨ iB ad base j a)) {l l' : List Ly} (hb : BinR cy σ' (bq ad base i 0) (bq ad base i 1) (bq ad base i 2) (bq ad base i 3) (bq ad base i 4) ((gB bs i).1, (gB bs i).2.1, l)) (hb' : BinR cy σ' (bq ad base j 0) (bq ad base j 1) (bq ad base j 2) (bq ad base j 3) (bq ad base j 4) ((gB bs j).1, (gB bs j).2.1, l')) : LsB cy σ' tg ad kl kd base (setL (setL bs i l) j l') := by
  obtain ⟨⟨h1, h2, h3⟩, h4, h5⟩ := h
  have ht : ∀ y, (iB ad base i y ∨ iB ad base j y) → base ≤ tg y ∧ tg y < base + 50 := fun y hy => by
    rcases hy with hy | hy
    · have := (h5 i hi).tag hy
      omega
    · have := (h5 j hj).tag hy
      omega
  refine ⟨⟨?_, h2, h3.elim (fun z => by rw [z.2] at hi; exact absurd hi (Nat.not_lt_zero _)) Or.inr⟩, by rw [setL_len, setL_len]; exact h4, fun q hq => ?_⟩
  · rw [setL_len, setL_len]
    exact h1.keepT h2 (h3.elim (fun z => Or.inl ⟨z.1, by rw [z.2]; rfl⟩) Or.inr) hk (fun y hy z => by
      have := ht y z
      exact ⟨by omega, by omega⟩)
  · rw [setL_len, setL_len] at hq
    rw [gB_set (by omega) (by rw [setL_len]; omega) (by omega)]
    by_cases hqj : (q : Int) = (j : Int)
    · have e : q = j := by omega
      subst e
      have e2 := gB_set (bs := bs) (i := (i : Int)) (j := (q : Int)) (l := l) (by omega) (by omega) (by omega)
      rw [if_neg (by omega)] at e2
      rw [if_pos rfl, e2]
      exact ⟨hb', (h5 q hq).2⟩
    · rw [if_neg hqj]
      have e2 := gB_set (bs := bs) (i := (i : Int)) (j := (q : Int)) (l := l) (by omega) (by omega) (by omega)
      rw [e2]
      by_cases hqi : (q : Int) = (i : Int)
      · have e : q = i := by omega
        subst e
        rw [if_pos rfl]
        exact ⟨hb, (h5 q hq).2⟩
      · rw [if_neg hqi]
        have hbq := h5 q hq
        exact ⟨hbq.1.keep hk (fun a ha z => by
          have a1 := hbq.tag ha
          rcases z with z | z
          · have a2 := (h5 i hi).tag z
            omega
          · have a2 := (h5 j hj).tag z
            omega), hbq.2⟩
set_option maxHeartbeats 8000000 in
set_option maxRecDepth 20000 in
theorem c_apply (l : Launch) (hfl : l.stackTraces = false) (D : va_G) (cy : Nat → Nat) (σ : Wd) (x a1 a3 a5 a7 a10 a11 a13 : Nat) (ca : Int) (hx9 : has σ x (.inr (6, [.ref a1, .ref a3, .ref a5, .ref a7, .ref a10, .ref a11, .ref a13, vl ca]))) (tg ad : Nat → Nat) (kl kd base : Nat) (bs : List Bn) (hB : LsB cy σ tg ad kl kd base bs) (e : Nat) (ev : Evt) (hE : EvR σ e ev) (m f : Nat) (ru : Nat → Int × Int) (se : Int) (hR : RuleR cy σ a7 m f ru se) (htr : ∀ y, y = a7 ∨ y = m ∨ y = f → tg y < base ∨ base + 50 ≤ tg y) (hko : (kl < base ∨ base + 50 ≤ kl) ∧ (kd < base ∨ base + 50 ≤ kd)) (hev : evOk bs ev) : Ct l yX6_apply cX6_apply 5 none 5 0 0 D cy [.ref x, .ref e, .ref (ad kl)] σ (fun v σ' => v = none ∧ LsB cy σ' tg ad kl kd base (apB (gradeF ru se) bs ev) ∧ Keep σ σ' (inL tg base) ∧ σ'.1 = σ.1) noX := by
  refine ct_start (by decide +kernel) hfl rfl (fun κ e1 e2 e3 C E NH => ?_)
  subst e1 e2 e3
  have C : Cx κ cX6_apply 5 RX6 "apply" 5 := C
  obtain ⟨-, -, -, -, hc, hs⟩ := id E
  show J κ σ [(0, .ref x), (1, .ref e), (2, .ref (ad kl))] 0 [] 0 0
  obtain ⟨ek, eb, eo, en, en2, em, ef⟩ := ev
  dsimp only [EvR] at hE
  have hev9 := hev
  dsimp only [evOk] at hev
  obtain ⟨⟨b1, b2⟩, ⟨o1, o2⟩, hn1, hn2, e1, e2, e3, e4⟩ := hev
  obtain ⟨i, hi9⟩ : ∃ i : Nat, eb = (i : Int) := ⟨eb.toNat, by omega⟩
  subst hi9
  obtain ⟨j, hj9⟩ : ∃ j : Nat, eo = (j : Int) := ⟨eo.toNat, by omega⟩
  subst hj9
  have hi : i < bs.length := by omega
  have hj : j < bs.length := by omega
  obtain ⟨⟨cap, mf, ly⟩, hg⟩ : ∃ z, gB bs (i : Int) = z := ⟨_, rfl⟩
  obtain ⟨⟨cap', mf', lz⟩, hgo⟩ : ∃ z, gB bs (j : Int) = z := ⟨_, rfl⟩
  rw [hg] at e1 e2
  rw [hgo] at e2
  dsimp only at e1 e2
  have hbi := hB.at hi hg
  have hbj := hB.at hj hgo
  have hL := hB.1.1
  have hTi := (hB.2.2 i hi)
  have hTj := (hB.2.2 j hj)
  have hRo := hR.1
  have h6 := hB.2.1
  obtain ⟨m92, hl92, -⟩ := id hL
  obtain ⟨old7, ga7, gb7, gc7, gd7, ⟨hh7, -, -⟩, -⟩ := id hbi
  dsimp only at hh7
  obtain ⟨old8, ga8, gb8, gc8, gd8, ⟨hh8, -, -⟩, -⟩ := id hbj
  dsimp only at hh8
  refine j_aload_n 2 C dX6_apply_0 rfl rfl rfl ?_
  refine j_aload_n 1 C dX6_apply_1 rfl rfl rfl ?_
  refine j_get C dX6_apply_2 rfl fg_X6_310 hE rfl ?_
  refine j_callS (st' := []) (As := [.ref (ad kl), vi ((i : Int))]) C dX6_apply_5 rfl m_X6_75 rfl rfl (c_biG (kL κ) hfl (kD κ) (kc κ) σ (ad kl) (ad kd) _ hL i _ (bins_at hi) _ hh7) rfl (by omega) (by omega) (by omega) (fun _ _ hx => hx.elim) (fun v2 τ1 hp3 => ?_)
  obtain ⟨rfl, hs9⟩ := hp3
  replace hs9 := hs9.symm
  subst hs9
  show J κ σ [(0, .ref x), (1, .ref e), (2, .ref (ad kl))] 8 [.ref (bq ad base i 0)] _ _
  refine j_astore_n (lv' := [(0, .ref x), (1, .ref e), (2, .ref (ad kl)), (3, .ref (bq ad base i 0))]) [1, 2, 3, 0] C dX6_apply_8 rfl rfl rfl rfl ?_
  refine j_aload_n 2 C dX6_apply_9 rfl rfl rfl ?_
  refine j_aload_n 1 C dX6_apply_10 rfl rfl rfl ?_
  refine j_get C dX6_apply_11 rfl fg_X6_313 hE rfl ?_
  refine j_callS (st' := []) (As := [.ref (ad kl), vi ((j : Int))]) C dX6_apply_14 rfl m_X6_75 rfl rfl (c_biG (kL κ) hfl (kD κ) (kc κ) σ (ad kl) (ad kd) _ hL j _ (bins_at hj) _ hh8) rfl (by omega) (by omega) (by omega) (fun _ _ hx => hx.elim) (fun v5 τ4 hp6 => ?_)
  obtain ⟨rfl, hs9⟩ := hp6
  replace hs9 := hs9.symm
  subst hs9
  show J κ σ [(0, .ref x), (1, .ref e), (2, .ref (ad kl)), (3, .ref (bq ad base i 0))] 17 [.ref (bq ad base j 0)] _ _
  refine j_astore (lv' := [(0, .ref x), (1, .ref e), (2, .ref (ad kl)), (3, .ref (bq ad base i 0)), (4, .ref (bq ad base j 0))]) [1, 2, 3, 4, 0] C dX6_apply_17 rfl rfl rfl ?_
  refine j_aload_n 1 C dX6_apply_19 rfl rfl rfl ?_
  refine j_get C dX6_apply_20 rfl fg_X6_247 hE rfl ?_
  refine j_bipush C dX6_apply_23 rfl (by decide) ?_
  refine j_icmp_ne (tgt := 62) C dX6_apply_25 rfl rfl ⟨by rcases e4 with e | e | e | e | e <;> omega, by rcases e4 with e | e | e | e | e <;> omega⟩ ⟨by omega, by omega⟩ (fun cc7 => ?_) (fun cc7 => ?_)
  · refine j_aload_n 1 C dX6_apply_62 rfl rfl rfl ?_
    refine j_get C dX6_apply_63 rfl fg_X6_247 hE rfl ?_
    refine j_bipush C dX6_apply_66 rfl (by decide) ?_
    refine j_icmp_ne (tgt := 84) C dX6_apply_68 rfl rfl ⟨by rcases e4 with e | e | e | e | e <;> omega, by rcases e4 with e | e | e | e | e <;> omega⟩ ⟨by omega, by omega⟩ (fun cc14 => ?_) (fun cc14 => ?_)
    · refine j_aload_n 1 C dX6_apply_84 rfl rfl rfl ?_
      refine j_get C dX6_apply_85 rfl fg_X6_247 hE rfl ?_
      refine j_bipush C dX6_apply_88 rfl (by decide) ?_
      refine j_icmp_ne (tgt := 108) C dX6_apply_90 rfl rfl ⟨by rcases e4 with e | e | e | e | e <;> omega, by rcases e4 with e | e | e | e | e <;> omega⟩ ⟨by omega, by omega⟩ (fun cc18 => ?_) (fun cc18 => ?_)
      · have hA9 : apB (gradeF ru se) bs (ek, (i : Int), (j : Int), en, en2, em, ef) = outB (outB bs i en) j en2 := by unfold apB; rw [if_neg (by dsimp only; omega), if_neg (by dsimp only; omega), if_neg (by dsimp only; omega)]
        rw [hA9] at E
        refine j_aload_n 3 C dX6_apply_108 rfl rfl rfl ?_
        refine j_aload_n 1 C dX6_apply_109 rfl rfl rfl ?_
        refine j_get C dX6_apply_110 rfl fg_X6_316 hE rfl ?_
        refine j_callV (st' := []) (As := [vi (en)]) C dX6_apply_113 rfl m_X6_332 hh7 rfl rfl rfl (c_letOut (kL κ) hfl (kD κ) (kc κ) σ (bq ad base i 0) (bq ad base i 1) (bq ad base i 2) (bq ad base i 3) (bq ad base i 4) cap mf ly hbi en hn1) rfl (by omega) (by omega) (by omega) (fun _ _ hx => hx.elim) (fun v23 τ22 hp24 => ?_)
        obtain ⟨rfl, hO1, hO3, hO4⟩ := hp24
        show J κ τ22 [(0, .ref x), (1, .ref e), (2, .ref (ad kl)), (3, .ref (bq ad base i 0)), (4, .ref (bq ad base j 0))] 116 [] _ _
        have hB2 : LsB (kc κ) τ22 tg ad kl kd base (outB bs i en) := by unfold outB; rw [hg]; exact hB.set hi hko hO3 (by rw [hg]; exact hO1)
        obtain ⟨⟨cap2, mf2, lz2⟩, hgo2⟩ : ∃ z, gB (outB bs i en) (j : Int) = z := ⟨_, rfl⟩
        have hj2 : j < (outB bs i en).length := by rw [outB_len]; exact hj
        have hbj2 := hB2.at hj2 hgo2
        have hE2 := hO3 _ _ hE (fun z => BinR.nk hbi hE rfl rfl _ z rfl)
        obtain ⟨old6, ga6, gb6, gc6, gd6, ⟨hh6, -, -⟩, -⟩ := id hbj2
        dsimp only at hh6
        refine j_aload 4 C dX6_apply_116 rfl rfl ?_
        refine j_aload_n 1 C dX6_apply_118 rfl rfl rfl ?_
        refine j_get C dX6_apply_119 rfl fg_X6_335 hE2 rfl ?_
        refine j_callV (st' := []) (As := [vi (en2)]) C dX6_apply_122 rfl m_X6_332 hh6 rfl rfl rfl (c_letOut (kL κ) hfl (kD κ) (kc κ) τ22 (bq ad base j 0) (bq ad base j 1) (bq ad base j 2) (bq ad base j 3) (bq ad base j 4) cap2 mf2 lz2 hbj2 en2 hn2) rfl (by omega) (by omega) (by omega) (fun _ _ hx => hx.elim) (fun v26 τ25 hp27 => ?_)
        obtain ⟨rfl, hP1, hP3, hP4⟩ := hp27
        show J κ τ25 [(0, .ref x), (1, .ref e), (2, .ref (ad kl)), (3, .ref (bq ad base i 0)), (4, .ref (bq ad base j 0))] 125 [] _ _
        exact j_vret C E dX6_apply_125 (by omega) (by omega) ⟨rfl, (by have z := hB2.set hj2 hko hP3 (l := ofl mf2 (dropL en2 (fl (cap2, mf2, lz2)))) (by rw [hgo2]; exact hP1); show LsB _ _ _ _ _ _ _ (setL (outB bs i en) j (ofl (gB (outB bs i en) j).2.1 (dropL en2 (fl (gB (outB bs i en) j))))); rw [hgo2]; exact z), (hO3.mono (hB.inL hi)).tr (hP3.mono (hB2.inL hj2)), hP4.trans hO4⟩
      · have hk9 : ek = 100 := by omega
        subst hk9
        have hd1 := e3 rfl
        have hA9 : apB (gradeF ru se) bs (100, (i : Int), (j : Int), en, en2, em, ef) = setL bs i (dryL (gradeF ru se) em ly) := by unfold apB; rw [if_neg (by dsimp only; omega), if_neg (by dsimp only; omega), if_pos rfl]; dsimp only; rw [hg]
        rw [hA9] at E
        refine j_aload_n 3 C dX6_apply_93 rfl rfl rfl ?_
        refine j_aload_n 1 C dX6_apply_94 rfl rfl rfl ?_
        refine j_get C dX6_apply_95 rfl fg_X6_317 hE rfl ?_
        refine j_aload_n 0 C dX6_apply_98 rfl rfl rfl ?_
        refine j_get C dX6_apply_99 rfl fg_X6_25 hx9 rfl ?_
        refine j_callV (st' := []) (As := [vi (em), .ref a7]) C dX6_apply_102 rfl m_X6_328 hh7 rfl rfl rfl (c_dryTo (kL κ) hfl (kD κ) (kc κ) σ (bq ad base i 0) (bq ad base i 1) (bq ad base i 2) (bq ad base i 3) (bq ad base i 4) cap mf ly hbi em hd1 a7 m f ru se hR ⟨(fun z => by have z1 := hTi.tag z; have z2 := htr a7 (by simp); omega), (fun z => by have z1 := hTi.tag z; have z2 := htr m (by simp); omega), (fun z => by have z1 := hTi.tag z; have z2 := htr f (by simp); omega)⟩) rfl (by omega) (by omega) (by omega) (fun _ _ hx => hx.elim) (fun v20 τ19 hp21 => ?_)
        obtain ⟨rfl, hO1, hO3, hO4⟩ := hp21
        show J κ τ19 [(0, .ref x), (1, .ref e), (2, .ref (ad kl)), (3, .ref (bq ad base i 0)), (4, .ref (bq ad base j 0))] 105 [] _ _
        refine j_goto (tgt := 125) C dX6_apply_105 rfl ?_
        exact j_vret C E dX6_apply_125 (by omega) (by omega) ⟨rfl, hB.set hi hko hO3 (by rw [hg]; exact hO1), hO3.mono (hB.inL hi), hO4⟩
    · have hk9 : ek = 116 := by omega
      subst hk9
      obtain ⟨ht1, ht2⟩ := e2 rfl
      have hij : i ≠ j := by omega
      have hA9 : apB (gradeF ru se) bs (116, (i : Int), (j : Int), en, en2, em, ef) = setL (setL bs i (ofl mf (dropL en (fl (cap, mf, ly))))) j (lz ++ takeL en (fl (cap, mf, ly))) := by unfold apB outB; rw [if_neg (by dsimp only; omega), if_pos rfl]; dsimp only; rw [hg, hgo]
      rw [hA9] at E
      refine j_aload_n 3 C dX6_apply_71 rfl rfl rfl ?_
      refine j_aload 4 C dX6_apply_72 rfl rfl ?_
      refine j_aload_n 1 C dX6_apply_74 rfl rfl rfl ?_
      refine j_get C dX6_apply_75 rfl fg_X6_316 hE rfl ?_
      refine j_callV (st' := []) (As := [.ref (bq ad base j 0), vi (en)]) C dX6_apply_78 rfl m_X6_325 hh7 rfl rfl rfl (c_letOutInto (kL κ) hfl (kD κ) (kc κ) σ (bq ad base i 0) (bq ad base i 1) (bq ad base i 2) (bq ad base i 3) (bq ad base i 4) cap mf ly hbi (bq ad base j 0) (bq ad base j 1) (bq ad base j 2) (bq ad base j 3) (bq ad base j 4) cap' mf' lz hbj (hB.dis hi hj hij) en hn1 ht2) rfl (by omega) (by omega) (by omega) (fun _ _ hx => hx.elim) (fun v16 τ15 hp17 => ?_)
      obtain ⟨rfl, hO1, hO2, hO3, hO4⟩ := hp17
      show J κ τ15 [(0, .ref x), (1, .ref e), (2, .ref (ad kl)), (3, .ref (bq ad base i 0)), (4, .ref (bq ad base j 0))] 81 [] _ _
      refine j_goto (tgt := 125) C dX6_apply_81 rfl ?_
      exact j_vret C E dX6_apply_125 (by omega) (by omega) ⟨rfl, hB.set2 hi hj hij hko hO3 (by rw [hg]; exact hO1) (by rw [hgo]; exact hO2), hO3.mono (fun a ha => ha.elim (hB.inL hi a) (hB.inL hj a)), hO4⟩
  · have hk9 : ek = 108 := by omega
    subst hk9
    obtain ⟨hl1, hl2⟩ := e1 rfl
    have hl3 := hl1
    obtain ⟨⟨n1, n2⟩, ⟨m1, m2⟩, ⟨f1, f2⟩, -⟩ := hl3
    dsimp only at n1 n2 m1 m2 f1 f2
    have hA9 : apB (gradeF ru se) bs (108, (i : Int), (j : Int), en, en2, em, ef) = setL bs i (ly ++ [(en, em, ef, gradeF ru se em ef)]) := by unfold apB; rw [if_pos rfl]; dsimp only; rw [hg]
    rw [hA9] at E
    refine j_aload_n 3 C dX6_apply_28 rfl rfl rfl ?_
    refine j_aload_n 1 C dX6_apply_29 rfl rfl rfl ?_
    refine j_get C dX6_apply_30 rfl fg_X6_316 hE rfl ?_
    refine j_aload_n 1 C dX6_apply_33 rfl rfl rfl ?_
    refine j_get C dX6_apply_34 rfl fg_X6_317 hE rfl ?_
    refine j_aload_n 1 C dX6_apply_37 rfl rfl rfl ?_
    refine j_get C dX6_apply_38 rfl fg_X6_320 hE rfl ?_
    refine j_aload_n 0 C dX6_apply_41 rfl rfl rfl ?_
    refine j_get C dX6_apply_42 rfl fg_X6_25 hx9 rfl ?_
    refine j_aload_n 1 C dX6_apply_45 rfl rfl rfl ?_
    refine j_get C dX6_apply_46 rfl fg_X6_317 hE rfl ?_
    refine j_aload_n 1 C dX6_apply_49 rfl rfl rfl ?_
    refine j_get C dX6_apply_50 rfl fg_X6_320 hE rfl ?_
    refine j_callV (st' := [vi (ef), vi (em), vi (en), .ref (bq ad base i 0)]) (As := [vi (em), vi (ef)]) C dX6_apply_53 rfl m_X6_94 hRo rfl rfl rfl (c_gradeNow (kL κ) hfl (kD κ) (kc κ) σ a7 m f ru se em ef hR ⟨by omega, by omega⟩ ⟨by omega, by omega⟩) rfl (by omega) (by omega) (by omega) (fun _ _ hx => hx.elim) (fun v9 τ8 hp10 => ?_)
    obtain ⟨rfl, hs9⟩ := hp10
    replace hs9 := hs9.symm
    subst hs9
    show J κ σ [(0, .ref x), (1, .ref e), (2, .ref (ad kl)), (3, .ref (bq ad base i 0)), (4, .ref (bq ad base j 0))] 56 [vi (gradeF ru se em ef), vi (ef), vi (em), vi (en), .ref (bq ad base i 0)] _ _
    have hgi := gradeF_in ru se em ef
    obtain ⟨old5, g15, g25, g35, g45, hC5, ho5, hcn5, hly5, hok5⟩ := id hbi
    dsimp only at hC5 ho5 hcn5 hly5 hok5
    refine j_callV (st' := []) (As := [vi (en), vi (em), vi (ef), vi (gradeF ru se em ef)]) C dX6_apply_56 rfl m_X6_323 hh7 rfl rfl rfl (c_add (kL κ) hfl (kD κ) (kc κ) σ (bq ad base i 0) (bq ad base i 1) (bq ad base i 2) (bq ad base i 3) (bq ad base i 4) cap mf old5 ly.length (tot ly) g15 g25 g35 g45 hC5 ho5 ⟨by omega, by omega⟩ en em ef (gradeF ru se em ef) (by omega) ⟨by omega, by omega⟩) rfl (by omega) (by omega) (by omega) (fun _ _ hx => hx.elim) (fun v12 τ11 hp13 => ?_)
    obtain ⟨rfl, hA⟩ := hp13
    show J κ τ11 [(0, .ref x), (1, .ref e), (2, .ref (ad kl)), (3, .ref (bq ad base i 0)), (4, .ref (bq ad base j 0))] 59 [] _ _
    have hN := hA.R ho5 hl2 hly5 hok5 ⟨⟨n1, n2⟩, ⟨m1, m2⟩, ⟨f1, f2⟩, hgi⟩
    refine j_goto (tgt := 125) C dX6_apply_59 rfl ?_
    exact j_vret C E dX6_apply_125 (by omega) (by omega) ⟨rfl, hB.set hi hko hA.2.1 (by rw [hg]; exact hN), hA.2.1.mono (hB.inL hi), hA.2.2⟩
