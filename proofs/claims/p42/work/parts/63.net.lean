/-! NET: what the law keeps in its array of 2700 ints -/
def rowN (g : Nat → Int) (b k : Nat) : Ly := (g (260 + 400 * b + 4 * k), g (260 + 400 * b + 4 * k + 1), g (260 + 400 * b + 4 * k + 2), g (260 + 400 * b + 4 * k + 3))
/-- the rows of bin b are these layers -/
def Rows (g : Nat → Int) (b : Nat) (l : List Ly) : Prop := g (30 + b) = (l.length : Int) ∧ ∀ k : Nat, k < l.length → rowN g b k = lyAt l (k : Int)
/-- bins and their layers, in the order in which they flow out -/
def NetL (g : Nat → Int) (bs : List Bn) : Prop := g 0 = (bs.length : Int) ∧ bs.length ≤ 6 ∧ (∀ b : Nat, b < bs.length → (g (10 + b) = (gB bs (b : Int)).1 ∧ g (20 + b) = b01 (gB bs (b : Int)).2.1) ∧ (Rows g b (fl (gB bs (b : Int))) ∧ (gB bs (b : Int)).2.2.length ≤ 90) ∧ lysOk (gB bs (b : Int)).2.2) ∧ ∀ b : Nat, bs.length ≤ b → b < 6 → g (30 + b) = 0
/-- all but the rows of bin i and their number is the same -/
def Oth (g G : Nat → Int) (i : Nat) : Prop := ∀ q : Nat, q ≠ 30 + i → ¬ (260 + 400 * i ≤ q ∧ q < 624 + 400 * i) → G q = g q
/-- the head is the same but for the numbers of rows -/
def SameH (g G : Nat → Int) : Prop := ∀ q : Nat, q < 260 → ¬ (30 ≤ q ∧ q < 36) → G q = g q
theorem Oth.rf {g : Nat → Int} {i : Nat} : Oth g g i := fun _ _ _ => rfl
theorem Oth.tr {g g1 G : Nat → Int} {i : Nat} (h : Oth g g1 i) (h' : Oth g1 G i) : Oth g G i := fun q a b => (h' q a b).trans (h q a b)
theorem Oth.same {g G : Nat → Int} {i : Nat} (h : Oth g G i) (hi : i < 6) : SameH g G := fun q a b => h q (by omega) (by omega)
theorem SameH.rf {g : Nat → Int} : SameH g g := fun _ _ _ => rfl
theorem SameH.tr {g g1 G : Nat → Int} (h : SameH g g1) (h' : SameH g1 G) : SameH g G := fun q a b => (h' q a b).trans (h q a b)
theorem Rows.k0 {g : Nat → Int} {b : Nat} {l : List Ly} (h : Rows g b l) {k : Nat} (hk : k < l.length) {z : Int} (hz : z = 260 + 400 * (b : Int) + 4 * (k : Int)) : g z.toNat = (lyAt l (k : Int)).1 := by
  rw [← h.2 k hk, show z.toNat = 260 + 400 * b + 4 * k by omega]
  rfl
theorem Rows.k1 {g : Nat → Int} {b : Nat} {l : List Ly} (h : Rows g b l) {k : Nat} (hk : k < l.length) {z : Int} (hz : z = 260 + 400 * (b : Int) + 4 * (k : Int) + 1) : g z.toNat = (lyAt l (k : Int)).2.1 := by
  rw [← h.2 k hk, show z.toNat = 260 + 400 * b + 4 * k + 1 by omega]
  rfl
theorem Rows.k2 {g : Nat → Int} {b : Nat} {l : List Ly} (h : Rows g b l) {k : Nat} (hk : k < l.length) {z : Int} (hz : z = 260 + 400 * (b : Int) + 4 * (k : Int) + 2) : g z.toNat = (lyAt l (k : Int)).2.2.1 := by
  rw [← h.2 k hk, show z.toNat = 260 + 400 * b + 4 * k + 2 by omega]
  rfl
theorem Rows.k3 {g : Nat → Int} {b : Nat} {l : List Ly} (h : Rows g b l) {k : Nat} (hk : k < l.length) {z : Int} (hz : z = 260 + 400 * (b : Int) + 4 * (k : Int) + 3) : g z.toNat = (lyAt l (k : Int)).2.2.2 := by
  rw [← h.2 k hk, show z.toNat = 260 + 400 * b + 4 * k + 3 by omega]
  rfl
theorem rowN_cong {g G : Nat → Int} {b k b' k' : Nat} (h : ∀ c : Nat, c < 4 → G (260 + 400 * b + 4 * k + c) = g (260 + 400 * b' + 4 * k' + c)) : rowN G b k = rowN g b' k' := by
  unfold rowN
  have h0 := h 0 (by omega)
  have h1 := h 1 (by omega)
  have h2 := h 2 (by omega)
  have h3 := h 3 (by omega)
  rw [Nat.add_zero, Nat.add_zero] at h0
  rw [h0, h1, h2, h3]
theorem Rows.cong {g G : Nat → Int} {b : Nat} {l : List Ly} (h : Rows g b l) (hn : G (30 + b) = g (30 + b)) (hr : ∀ q : Nat, 260 + 400 * b ≤ q → q < 260 + 400 * b + 4 * l.length → G q = g q) : Rows G b l := by
  refine ⟨hn.trans h.1, fun k hk => ?_⟩
  rw [← h.2 k hk]
  exact rowN_cong (fun c hc => hr _ (by omega) (by omega))
theorem NetL.cong {g G : Nat → Int} {bs : List Bn} (h : NetL g bs) (hG : ∀ q : Nat, q < 36 ∨ (260 ≤ q ∧ q < 2700) → G q = g q) : NetL G bs := by
  obtain ⟨h0, h6, h1, hz⟩ := h
  refine ⟨(hG 0 (by omega)).trans h0, h6, fun b hb => ?_, fun b q1 q2 => (hG _ (by omega)).trans (hz b q1 q2)⟩
  obtain ⟨⟨a1, a2⟩, ⟨a3, a4⟩, a5⟩ := h1 b hb
  have e := fl_len (gB bs (b : Int))
  exact ⟨⟨(hG _ (by omega)).trans a1, (hG _ (by omega)).trans a2⟩, ⟨a3.cong (hG _ (by omega)) (fun q hq1 hq2 => hG q (by omega)), a4⟩, a5⟩
theorem NetL.set {g G : Nat → Int} {bs : List Bn} (h : NetL g bs) {i : Nat} (hi : i < bs.length) {l' : List Ly} (hr : Rows G i (fl ((gB bs (i : Int)).1, (gB bs (i : Int)).2.1, l'))) (hl : l'.length ≤ 90) (hok : lysOk l') (ho : Oth g G i) : NetL G (setL bs (i : Int) l') := by
  obtain ⟨h0, h6, h1, hz⟩ := h
  refine ⟨?_, by rw [setL_len]; exact h6, fun b hb => ?_, fun b q1 q2 => ?_⟩
  · rw [setL_len, ho 0 (by omega) (by omega)]; exact h0
  · rw [setL_len] at hb
    obtain ⟨⟨a1, a2⟩, ⟨a3, a4⟩, a5⟩ := h1 b hb
    have e := gB_set (bs := bs) (l := l') (i := (i : Int)) (j := (b : Int)) (by omega) (by omega) (by omega)
    have eB := fl_len (gB bs (b : Int))
    by_cases c : b = i
    · subst c
      rw [if_pos rfl] at e
      rw [e]
      exact ⟨⟨(ho _ (by omega) (by omega)).trans a1, (ho _ (by omega) (by omega)).trans a2⟩, ⟨hr, hl⟩, hok⟩
    · rw [if_neg (by omega)] at e
      rw [e]
      refine ⟨⟨(ho _ (by omega) (by omega)).trans a1, (ho _ (by omega) (by omega)).trans a2⟩, ⟨a3.cong (ho _ (by omega) (by omega)) (fun q hq1 hq2 => ho q (by omega) ?_), a4⟩, a5⟩
      have hb9 : b < i ∨ i < b := by omega
      omega
  · rw [setL_len] at q1
    exact (ho _ (by omega) (by omega)).trans (hz b q1 q2)
theorem lyAt_nil (k : Nat) : lyAt [] (k : Int) = (0, 0, 0, 0) := rfl
theorem lyAt_0 (x : Ly) (l : List Ly) : lyAt (x :: l) ((0 : Nat) : Int) = x := rfl
theorem lyAt_s (x : Ly) (l : List Ly) (k : Nat) : lyAt (x :: l) ((k + 1 : Nat) : Int) = lyAt l (k : Int) := by
  unfold lyAt
  rw [Int.toNat_natCast, Int.toNat_natCast, List.getD_cons_succ]
theorem lyAt_l {a b : List Ly} {k : Nat} (h : k < a.length) : lyAt (a ++ b) (k : Int) = lyAt a (k : Int) := by
  unfold lyAt
  rw [Int.toNat_natCast, List.getD_eq_getElem?_getD, List.getD_eq_getElem?_getD, List.getElem?_append_left h]
theorem lyAt_r {a b : List Ly} {k j : Nat} (h : k = a.length + j) : lyAt (a ++ b) (k : Int) = lyAt b (j : Int) := by
  unfold lyAt
  rw [Int.toNat_natCast, Int.toNat_natCast, List.getD_eq_getElem?_getD, List.getD_eq_getElem?_getD, List.getElem?_append_right (by omega), show k - a.length = j by omega]
theorem Rows.snoc {g G : Nat → Int} {b : Nat} {l : List Ly} {x : Ly} (h : Rows g b l) (hn : G (30 + b) = (l.length : Int) + 1) (hx : rowN G b l.length = x) (hlo : ∀ k : Nat, k < l.length → rowN G b k = rowN g b k) : Rows G b (l ++ [x]) := by
  refine ⟨by rw [List.length_append]; exact hn, fun k hk => ?_⟩
  rw [List.length_append] at hk
  have hk' : k < l.length + 1 := hk
  by_cases c : k < l.length
  · rw [lyAt_l c, hlo k c, h.2 k c]
  · rw [lyAt_r (j := 0) (by omega), show k = l.length by omega, hx, lyAt_0]
theorem Rows.cons {g G : Nat → Int} {b : Nat} {l : List Ly} {x : Ly} (h : Rows g b l) (hn : G (30 + b) = (l.length : Int) + 1) (hx : rowN G b 0 = x) (hhi : ∀ k : Nat, k < l.length → rowN G b (k + 1) = rowN g b k) : Rows G b (x :: l) := by
  refine ⟨by rw [List.length_cons]; omega, fun k hk => ?_⟩
  rw [List.length_cons] at hk
  match k with
  | 0 => rw [lyAt_0, hx]
  | k + 1 => rw [lyAt_s, hhi k (by omega), h.2 k (by omega)]
/-- a row is taken out of the midst -/
theorem Rows.drop {g G : Nat → Int} {b : Nat} {u t : List Ly} {x : Ly} (h : Rows g b (u ++ x :: t)) (hn : G (30 + b) = (u.length : Int) + t.length) (hlo : ∀ k : Nat, k < u.length → rowN G b k = rowN g b k) (hhi : ∀ k : Nat, k < t.length → rowN G b (u.length + k) = rowN g b (u.length + k + 1)) : Rows G b (u ++ t) := by
  have hl : (u ++ x :: t).length = u.length + (t.length + 1) := by rw [List.length_append, List.length_cons]
  refine ⟨by rw [List.length_append]; omega, fun k hk => ?_⟩
  rw [List.length_append] at hk
  by_cases c : k < u.length
  · rw [lyAt_l c, hlo k c, h.2 k (by omega), lyAt_l c]
  · obtain ⟨j, rfl⟩ : ∃ j, k = u.length + j := ⟨k - u.length, by omega⟩
    rw [lyAt_r (j := j) rfl, hhi j (by omega), h.2 _ (by omega), lyAt_r (j := j + 1) (by omega), lyAt_s]
/-- another row in a row's place -/
theorem Rows.put {g G : Nat → Int} {b : Nat} {u t : List Ly} {x y : Ly} (h : Rows g b (u ++ x :: t)) (hn : G (30 + b) = g (30 + b)) (hx : rowN G b u.length = y) (ho : ∀ k : Nat, k < (u ++ x :: t).length → k ≠ u.length → rowN G b k = rowN g b k) : Rows G b (u ++ y :: t) := by
  have hl : (u ++ x :: t).length = u.length + (t.length + 1) := by rw [List.length_append, List.length_cons]
  have hl' : (u ++ y :: t).length = u.length + (t.length + 1) := by rw [List.length_append, List.length_cons]
  refine ⟨by rw [hn, h.1, hl, hl'], fun k hk => ?_⟩
  by_cases c : k < u.length
  · rw [lyAt_l c, ho k (by omega) (by omega), h.2 k (by omega), lyAt_l c]
  · obtain ⟨j, rfl⟩ : ∃ j, k = u.length + j := ⟨k - u.length, by omega⟩
    rw [lyAt_r (j := j) rfl]
    match j with
    | 0 => rw [lyAt_0]; exact hx
    | j + 1 => rw [lyAt_s, ho _ (by omega) (by omega), h.2 _ (by omega), lyAt_r (j := j + 1) rfl, lyAt_s]
/-- rows k + 1 .. m have come from the rows before them; j places of row k too -/
def shj (A k m j : Nat) (g : Nat → Int) : Nat → Int := fun q => if (A + 4 * (k + 1) ≤ q ∧ q < A + 4 * (m + 1)) ∨ (A + 4 * k ≤ q ∧ q < A + 4 * k + j) then g (q - 4) else g q
theorem shj_0 (A m : Nat) (g : Nat → Int) : shj A m m 0 g = g := by
  funext q
  unfold shj
  rw [if_neg (by omega)]
theorem shj_4 {A k m : Nat} (g : Nat → Int) (hk : k < m) : shj A (k + 1) m 4 g = shj A k m 0 g := by
  funext q
  unfold shj
  by_cases c : A + 4 * (k + 1) ≤ q ∧ q < A + 4 * (m + 1)
  · rw [if_pos (by omega), if_pos (by omega)]
  · rw [if_neg (by omega), if_neg (by omega)]
theorem shj_step {A k m j : Nat} {g : Nat → Int} {z1 z2 y : Int} (hk : 1 ≤ k ∧ k ≤ m) (hj : j < 4) (h1 : z1.toNat = A + 4 * k + j) (h2 : z2.toNat + 4 = A + 4 * k + j) (hy : shj A k m j g z2.toNat = y) : ups (shj A k m j g) z1.toNat y = shj A k m (j + 1) g := by
  funext q
  unfold shj at hy
  rw [if_neg (by omega)] at hy
  rw [h1]
  unfold ups shj
  by_cases c : q = A + 4 * k + j
  · rw [if_pos c, if_pos (by omega), ← hy, show q - 4 = z2.toNat by omega]
  · rw [if_neg c]
    by_cases d : (A + 4 * (k + 1) ≤ q ∧ q < A + 4 * (m + 1)) ∨ (A + 4 * k ≤ q ∧ q < A + 4 * k + j)
    · rw [if_pos d, if_pos (by omega)]
    · rw [if_neg d, if_neg (by omega)]
/-- the places A .. k have come from the places four behind them -/
def drp (A k : Nat) (g : Nat → Int) : Nat → Int := fun q => if A ≤ q ∧ q < k then g (q + 4) else g q
theorem drp_0 (A : Nat) (g : Nat → Int) : drp A A g = g := by
  funext q
  unfold drp
  rw [if_neg (by omega)]
theorem drp_step {A k : Nat} {g : Nat → Int} {z1 z2 y : Int} (hk : A ≤ k) (h1 : z1.toNat = k) (h2 : z2.toNat = k + 4) (hy : drp A k g z2.toNat = y) : ups (drp A k g) z1.toNat y = drp A (k + 1) g := by
  funext q
  unfold drp at hy
  rw [if_neg (by omega)] at hy
  rw [h1]
  unfold ups drp
  by_cases c : q = k
  · rw [if_pos c, if_pos (by omega), ← hy, c, h2]
  · rw [if_neg c]
    by_cases d : A ≤ q ∧ q < k
    · rw [if_pos d, if_pos (by omega)]
    · rw [if_neg d, if_neg (by omega)]
theorem fl_snoc (c : Int) (m : Bool) (l : List Ly) (x : Ly) : fl (c, m, l ++ [x]) = if m then fl (c, m, l) ++ [x] else x :: fl (c, m, l) := by
  unfold fl
  cases m <;> simp
theorem ups_o {g : Nat → Int} {k : Nat} {x : Int} : ∀ i : Nat, i ≠ k → ups g k x i = g i := fun i h => ups_n h
theorem ups_u {g : Nat → Int} {k : Nat} {x : Int} {i : Nat} (h : i = k) : ups g k x i = x := by rw [h]; exact ups_s
theorem rowN_ups {g : Nat → Int} {b k q : Nat} {x : Int} (h : q < 260 + 400 * b + 4 * k ∨ 260 + 400 * b + 4 * k + 3 < q) : rowN (ups g q x) b k = rowN g b k := rowN_cong (fun c hc => ups_n (by omega))
/-- a layer has come -/
theorem come_net {g G : Nat → Int} {bs : List Bn} (h : NetL g bs) {i : Nat} (hi : i < bs.length) (hl : (gB bs (i : Int)).2.2.length < 90) {p : Nat} (hp : p = if (gB bs (i : Int)).2.1 then (gB bs (i : Int)).2.2.length else 0) {x : Ly} (hx : lyOk x) (hn : G (30 + i) = ((gB bs (i : Int)).2.2.length : Int) + 1) (hr : rowN G i p = x)
    (hs : ∀ q : Nat, q ≠ 30 + i → ¬ (260 + 400 * i + 4 * p ≤ q ∧ q < 260 + 400 * i + 4 * (p + 1)) → G q = shj (260 + 400 * i) p (gB bs (i : Int)).2.2.length 0 g q) : NetL G (setL bs (i : Int) ((gB bs (i : Int)).2.2 ++ [x])) ∧ Oth g G i := by
  have h6 := h.2.1
  have hO : Oth g G i := by
    intro q h1 h2
    have hpl : p ≤ (gB bs (i : Int)).2.2.length := by rw [hp]; split <;> omega
    rw [hs q h1 (by omega)]
    unfold shj
    rw [if_neg (by omega)]
  obtain ⟨-, ⟨a3, a4⟩, a5⟩ := h.2.2.1 i hi
  have e := fl_len (gB bs (i : Int))
  refine ⟨h.set hi ?_ (by rw [List.length_append]; show _ + 1 ≤ 90; omega) ?_ hO, hO⟩
  · rw [fl_snoc]
    by_cases c : (gB bs (i : Int)).2.1 = true
    · rw [if_pos c] at hp
      rw [if_pos c]
      refine Rows.snoc a3 (by rw [e]; exact hn) (by rw [show (fl ((gB bs (i : Int)).1, (gB bs (i : Int)).2.1, (gB bs (i : Int)).2.2)).length = p by rw [hp]; exact e]; exact hr) (fun k hk => rowN_cong (fun c hc => ?_))
      have hk' : k < (fl (gB bs (i : Int))).length := hk
      rw [hs _ (by omega) (by omega)]
      unfold shj
      rw [if_neg (by omega)]
    · rw [if_neg c] at hp
      rw [if_neg c]
      subst hp
      refine Rows.cons a3 (by rw [e]; exact hn) hr (fun k hk => rowN_cong (fun c hc => ?_))
      have hk' : k < (fl (gB bs (i : Int))).length := hk
      rw [hs _ (by omega) (by omega)]
      unfold shj
      rw [if_pos (by omega), show 260 + 400 * i + 4 * (k + 1) + c - 4 = 260 + 400 * i + 4 * k + c by omega]
  · intro y hy
    rcases List.mem_append.mp hy with hy | hy
    · exact a5 y hy
    · rw [List.mem_singleton.mp hy]; exact hx
theorem rowN_4 {g : Nat → Int} {b k : Nat} {n x f r : Int} (h0 : g (260 + 400 * b + 4 * k) = n) (h1 : g (260 + 400 * b + 4 * k + 1) = x) (h2 : g (260 + 400 * b + 4 * k + 2) = f) (h3 : g (260 + 400 * b + 4 * k + 3) = r) : rowN g b k = (n, x, f, r) := by
  unfold rowN
  rw [h0, h1, h2, h3]
/-- what comes out of bin i goes nowhere, or into bin j -/
def outX (bs : List Bn) (i : Nat) (n : Int) (j : Nat) : List Bn := setL (outB bs (i : Int) n) (j : Int) ((gB bs (j : Int)).2.2 ++ takeL n (fl (gB bs (i : Int))))
theorem setL_setL {bs : List Bn} {i : Int} {a b : List Ly} (h0 : 0 ≤ i) (h1 : i < (bs.length : Int)) : setL (setL bs i a) i b = setL bs i b := by
  have e := gB_set (bs := bs) (l := a) h0 h1 h0
  rw [if_pos rfl] at e
  unfold setL at e ⊢
  rw [e, List.set_set]
theorem setL_com {bs : List Bn} {i j : Int} {a b : List Ly} (h0 : 0 ≤ i) (h1 : i < (bs.length : Int)) (g0 : 0 ≤ j) (g1 : j < (bs.length : Int)) (hij : i ≠ j) : setL (setL bs i a) j b = setL (setL bs j b) i a := by
  have e1 := gB_set (bs := bs) (l := a) h0 h1 g0
  have e2 := gB_set (bs := bs) (l := b) g0 g1 h0
  rw [if_neg (Ne.symm hij)] at e1
  rw [if_neg hij] at e2
  unfold setL at e1 e2 ⊢
  rw [e1, e2, List.set_comm _ _ (by omega)]
/-- the layers that are left of a flow, when its first layer has been taken in part or whole -/
def restL (n : Int) (x : Ly) (r : List Ly) : List Ly := if n < x.1 then (x.1 - n, x.2) :: r else r
theorem outB_step {bs : List Bn} {i : Nat} (hi : i < bs.length) {n : Int} (hn : 1 ≤ n) {x : Ly} {r : List Ly} (hf : fl (gB bs (i : Int)) = x :: r) : outB (setL bs (i : Int) (ofl (gB bs (i : Int)).2.1 (restL n x r))) (i : Int) (n - min n x.1) = outB bs (i : Int) n := by
  have e := gB_set (bs := bs) (l := ofl (gB bs (i : Int)).2.1 (restL n x r)) (i := (i : Int)) (j := (i : Int)) (by omega) (by omega) (by omega)
  rw [if_pos rfl] at e
  unfold outB
  rw [e, setL_setL (by omega) (by omega), fl_ofl, hf, restL, drop_step hn]
theorem outB_00 {bs : List Bn} {i : Nat} (hi : i < bs.length) {n : Int} (hn : n ≤ 0) : outB bs (i : Int) n = bs := by
  unfold outB
  rw [dropL_0 hn, ofl_fl]
  unfold setL
  have e := gB_at (bs := bs) (i := (i : Int)) (by omega) (by omega)
  apply List.ext_getElem?
  intro q
  rw [List.getElem?_set]
  by_cases c : (i : Int).toNat = q
  · subst c
    rw [if_pos rfl, if_pos (by omega)]
    exact e.symm
  · rw [if_neg c]
theorem restL_ok {n : Int} {x : Ly} {r : List Ly} (hn : 1 ≤ n) (h : lysOk (x :: r)) : lysOk (restL n x r) := by
  have hx := h x List.mem_cons_self
  unfold restL
  split
  · intro y hy
    rcases List.mem_cons.mp hy with rfl | hy
    · obtain ⟨⟨a1, a2⟩, b⟩ := hx
      exact ⟨⟨by show 1 ≤ x.1 - n; omega, by show x.1 - n ≤ 2000; omega⟩, b⟩
    · exact h y (List.mem_cons_of_mem _ hy)
  · exact fun y hy => h y (List.mem_cons_of_mem _ hy)
theorem restL_len (n : Int) (x : Ly) (r : List Ly) : (restL n x r).length ≤ r.length + 1 := by
  unfold restL
  split
  · exact Nat.le_refl _
  · omega
theorem restL_tot {n : Int} {x : Ly} {r : List Ly} (hn : 1 ≤ n) : tot (restL n x r) = tot (x :: r) - min n x.1 := by
  unfold restL tot
  split
  · simp only [sumL]; omega
  · simp only [sumL]; omega
theorem len_oflN (m : Bool) (l : List Ly) : (ofl m l).length = l.length := by unfold ofl; split <;> simp
/-- sums over what flows, step by step -/
theorem take_sum {f : Ly → Int} (hf : Lin f) {n : Int} {x : Ly} {r : List Ly} (hn : 1 ≤ n) : f (min n x.1, x.2) + sumL f (takeL (n - min n x.1) (restL n x r)) = sumL f (takeL n (x :: r)) := by
  rw [restL, ← take_step hn]
  rfl
