/-! PURE: layers, bins, flows: what the words of the document come to -/
/-- a layer: bushels, moisture, foreign matter, grade -/
abbrev Ly : Type := Int × Int × Int × Int
/-- a bin: capacity, mass flow, its layers, the oldest one first -/
abbrev Bn : Type := Int × Bool × List Ly
def b01 (b : Bool) : Int := if b then 1 else 0
theorem b01_in (b : Bool) : b01 b = 0 ∧ b = false ∨ b01 b = 1 ∧ b = true := by cases b <;> simp [b01]
def lyOk (x : Ly) : Prop := (1 ≤ x.1 ∧ x.1 ≤ 2000) ∧ (80 ≤ x.2.1 ∧ x.2.1 ≤ 300) ∧ (0 ≤ x.2.2.1 ∧ x.2.2.1 ≤ 100) ∧ (1 ≤ x.2.2.2 ∧ x.2.2.2 ≤ 4)
def lysOk (l : List Ly) : Prop := ∀ x ∈ l, lyOk x
/-- a sum over layers -/
def sumL (f : Ly → Int) : List Ly → Int
  | [] => 0
  | x :: l => f x + sumL f l
theorem sumL_app (f : Ly → Int) : ∀ a b : List Ly, sumL f (a ++ b) = sumL f a + sumL f b
  | [], b => by simp [sumL]
  | x :: a, b => by simp only [List.cons_append, sumL, sumL_app f a b]; omega
theorem sumL_rev (f : Ly → Int) : ∀ a : List Ly, sumL f a.reverse = sumL f a
  | [] => rfl
  | x :: a => by simp only [List.reverse_cons, sumL_app, sumL_rev f a, sumL]; omega
theorem sumL_le {f g : Ly → Int} : ∀ {l : List Ly}, (∀ x ∈ l, f x ≤ g x) → sumL f l ≤ sumL g l
  | [], _ => Int.le_refl _
  | x :: l, h => by
    have h1 := h x List.mem_cons_self
    have h2 := sumL_le (l := l) (fun y hy => h y (List.mem_cons_of_mem _ hy))
    simp only [sumL]; omega
theorem sumL_0 {f : Ly → Int} {l : List Ly} (h : ∀ x ∈ l, 0 ≤ f x) : 0 ≤ sumL f l := by
  have h1 := sumL_le (f := fun _ => 0) (g := f) h
  have h2 : ∀ l : List Ly, sumL (fun _ => 0) l = 0 := fun l => by
    induction l with
    | nil => rfl
    | cons x l ih => simp only [sumL, ih]; rfl
  rw [h2] at h1
  exact h1
theorem sumL_const (c : Int) : ∀ l : List Ly, sumL (fun _ => c) l = l.length * c
  | [] => by simp [sumL]
  | x :: l => by simp only [sumL, sumL_const c l, List.length_cons, Int.natCast_succ, Int.add_mul]; omega
/-- the bushels of layers -/
def tot (l : List Ly) : Int := sumL (fun x => x.1) l
def wet (l : List Ly) : Int := sumL (fun x => x.1 * x.2.1) l
def dirt (l : List Ly) : Int := sumL (fun x => x.1 * x.2.2.1) l
def cost (pr : Int → Int) (l : List Ly) : Int := sumL (fun x => x.1 * pr x.2.2.2) l
theorem tot_len {l : List Ly} (h : lysOk l) : (l.length : Int) ≤ tot l := by
  have h1 := sumL_le (f := fun _ => 1) (g := fun x => x.1) (fun x hx => (h x hx).1.1)
  rw [sumL_const, Int.mul_one] at h1
  exact h1
theorem tot_max {l : List Ly} (h : lysOk l) : tot l ≤ l.length * 2000 := by
  have h1 := sumL_le (f := fun x => x.1) (g := fun _ => 2000) (fun x hx => (h x hx).1.2)
  rw [sumL_const] at h1
  exact h1
theorem tot_0 {l : List Ly} (h : lysOk l) : 0 ≤ tot l := by
  have := tot_len h
  omega
/-- in the order in which they flow out -/
def fl (b : Bn) : List Ly := if b.2.1 then b.2.2 else b.2.2.reverse
/-- and back -/
def ofl (m : Bool) (l : List Ly) : List Ly := if m then l else l.reverse
theorem fl_len (b : Bn) : (fl b).length = b.2.2.length := by unfold fl; split <;> simp
theorem ofl_fl (b : Bn) : ofl b.2.1 (fl b) = b.2.2 := by unfold fl ofl; split <;> simp_all
theorem fl_ofl (c : Int) (m : Bool) (l : List Ly) : fl (c, m, ofl m l) = l := by unfold fl ofl; cases m <;> simp
theorem mem_fl {b : Bn} {x : Ly} : x ∈ fl b ↔ x ∈ b.2.2 := by unfold fl; split <;> simp
theorem fl_ok {b : Bn} (h : lysOk b.2.2) : lysOk (fl b) := fun x hx => h x (mem_fl.mp hx)
theorem ofl_ok {m : Bool} {l : List Ly} (h : lysOk l) : lysOk (ofl m l) := by
  intro x hx
  unfold ofl at hx
  split at hx
  · exact h x hx
  · exact h x (List.mem_reverse.mp hx)
theorem sum_fl (f : Ly → Int) (b : Bn) : sumL f (fl b) = sumL f b.2.2 := by unfold fl; split; rfl; exact sumL_rev f _
theorem sum_ofl (f : Ly → Int) (m : Bool) (l : List Ly) : sumL f (ofl m l) = sumL f l := by unfold ofl; split; rfl; exact sumL_rev f _
/-- the layer at a place -/
def lyAt (l : List Ly) (i : Int) : Ly := l.getD i.toNat (0, 0, 0, 0)
theorem lyAt_ok {l : List Ly} (h : lysOk l) {i : Int} (h0 : 0 ≤ i) (h1 : i < (l.length : Int)) : lyOk (lyAt l i) := by
  have hi : i.toNat < l.length := by omega
  unfold lyAt
  rw [List.getD_eq_getElem?_getD, List.getElem?_eq_getElem hi]
  exact h _ (List.getElem_mem hi)
/-- what lies in a ring of 80 slots, from 'old' on, n layers -/
def ringL (G : Nat → Ly) (old : Int) (n : Nat) : List Ly := (List.range n).map (fun i : Nat => G ((old + (i : Int)) % 80).toNat)
theorem ringL_len (G : Nat → Ly) (old : Int) (n : Nat) : (ringL G old n).length = n := by simp [ringL]
theorem ringL_at {G : Nat → Ly} {old : Int} {n : Nat} {i : Nat} (h : i < n) : (ringL G old n)[i]? = some (G ((old + i) % 80).toNat) := by
  unfold ringL
  rw [List.getElem?_map, List.getElem?_range h]
  rfl
theorem ring_mass {G : Nat → Ly} {old : Int} {n : Nat} {i : Int} (h0 : 0 ≤ i) (h1 : i < (n : Int)) : lyAt (ringL G old n) i = G ((old + i) % 80).toNat := by
  unfold lyAt
  rw [List.getD_eq_getElem?_getD, ringL_at (by omega), show ((i.toNat : Nat) : Int) = i by omega]
  rfl
theorem ring_rev {G : Nat → Ly} {old : Int} {n : Nat} {i : Int} (h0 : 0 ≤ i) (h1 : i < (n : Int)) : lyAt (ringL G old n).reverse i = G ((old + n - 1 - i) % 80).toNat := by
  unfold lyAt
  rw [List.getD_eq_getElem?_getD, List.getElem?_reverse (by rw [ringL_len]; omega), ringL_len, ringL_at (by omega), show old + ((n - 1 - i.toNat : Nat) : Int) = old + n - 1 - i by omega]
  rfl
/-- the slot of a place in the flow -/
def slotI (m : Bool) (old : Int) (n : Int) (i : Int) : Int := if m then (old + i) % 80 else (old + n - 1 - i) % 80
theorem slotI_in (m : Bool) (old n i : Int) : 0 ≤ slotI m old n i ∧ slotI m old n i < 80 := by unfold slotI; split <;> omega
theorem ring_fl {G : Nat → Ly} {old : Int} {c : Int} {m : Bool} {l : List Ly} (hl : l = ringL G old l.length) {i : Int} (h0 : 0 ≤ i) (h1 : i < (l.length : Int)) : lyAt (fl (c, m, l)) i = G (slotI m old l.length i).toNat := by
  unfold fl slotI
  cases m
  · simp only [Bool.false_eq_true, if_false]
    rw [hl, ring_rev h0 (by simpa [ringL_len] using h1)]
    simp only [ringL_len]
  · simp only [if_true]
    rw [hl, ring_mass h0 (by simpa [ringL_len] using h1)]
def dropL : Int → List Ly → List Ly
  | _, [] => []
  | n, x :: l => if n ≤ 0 then x :: l else if n < x.1 then (x.1 - n, x.2) :: l else dropL (n - x.1) l
def takeL : Int → List Ly → List Ly
  | _, [] => []
  | n, x :: l => if n ≤ 0 then [] else if n < x.1 then [(n, x.2)] else x :: takeL (n - x.1) l
theorem dropL_0 {n : Int} (h : n ≤ 0) : ∀ l : List Ly, dropL n l = l
  | [] => rfl
  | x :: l => by rw [dropL, if_pos h]
theorem takeL_0 {n : Int} (h : n ≤ 0) : ∀ l : List Ly, takeL n l = []
  | [] => rfl
  | x :: l => by rw [takeL, if_pos h]
theorem drop_take (f : Ly → Int) (hf : ∀ (a b : Int) (y : Int × Int × Int), f (a + b, y) = f (a, y) + f (b, y)) : ∀ (l : List Ly) (n : Int), sumL f (takeL n l) + sumL f (dropL n l) = sumL f l
  | [], n => by simp [takeL, dropL, sumL]
  | x :: l, n => by
    rw [takeL, dropL]
    split
    · simp [sumL]
    · split
      · have h := hf n (x.1 - n) x.2
        rw [show n + (x.1 - n) = x.1 by omega] at h
        simp only [sumL]
        rw [show f x = f (x.1, x.2) from rfl]
        omega
      · have h := drop_take f hf l (n - x.1)
        simp only [sumL]
        omega
theorem take_tot : ∀ (l : List Ly) (n : Int), lysOk l → 0 ≤ n → n ≤ tot l → tot (takeL n l) = n
  | [], n, _, h0, h => by simp [tot, sumL] at h; simp [takeL, tot, sumL]; omega
  | x :: l, n, hok, h0, h => by
    rw [takeL]
    split
    · simp [tot, sumL]; omega
    · split
      · simp [tot, sumL]
      · have h2 := take_tot l (n - x.1) (fun y hy => hok y (List.mem_cons_of_mem _ hy)) (by omega) (by simp only [tot, sumL] at h ⊢; omega)
        simp only [tot, sumL] at h2 ⊢
        omega
theorem drop_tot (l : List Ly) (n : Int) (hok : lysOk l) (h0 : 0 ≤ n) (h : n ≤ tot l) : tot (dropL n l) = tot l - n := by
  have h1 := drop_take (fun x => x.1) (fun a b y => rfl) l n
  have h2 := take_tot l n hok h0 h
  simp only [tot] at h1 h2 ⊢
  omega
theorem take_ok : ∀ (l : List Ly) (n : Int), lysOk l → lysOk (takeL n l)
  | [], n, _ => by intro x hx; simp [takeL] at hx
  | x :: l, n, h => by
    have hx := h x List.mem_cons_self
    rw [takeL]
    split
    · intro y hy; cases hy
    · split
      · intro y hy
        cases List.mem_singleton.mp hy
        unfold lyOk at hx ⊢
        exact ⟨⟨by omega, by omega⟩, hx.2⟩
      · intro y hy
        rcases List.mem_cons.mp hy with rfl | hy
        · exact hx
        · exact take_ok l _ (fun z hz => h z (List.mem_cons_of_mem _ hz)) y hy
theorem drop_ok : ∀ (l : List Ly) (n : Int), lysOk l → lysOk (dropL n l)
  | [], n, _ => by intro x hx; simp [dropL] at hx
  | x :: l, n, h => by
    have hx := h x List.mem_cons_self
    rw [dropL]
    split
    · exact h
    · split
      · intro y hy
        rcases List.mem_cons.mp hy with rfl | hy
        · unfold lyOk at hx ⊢
          exact ⟨⟨by omega, by omega⟩, hx.2⟩
        · exact h y (List.mem_cons_of_mem _ hy)
      · exact drop_ok l _ (fun z hz => h z (List.mem_cons_of_mem _ hz))
theorem drop_take_len : ∀ (l : List Ly) (n : Int), (takeL n l).length + (dropL n l).length ≤ l.length + 1
  | [], n => by simp [takeL, dropL]
  | x :: l, n => by
    rw [takeL, dropL]
    split
    · simp
    · split
      · simp; omega
      · have h := drop_take_len l (n - x.1)
        simp only [List.length_cons]
        omega
theorem drop_len : ∀ (l : List Ly) (n : Int), (dropL n l).length ≤ l.length
  | [], n => by simp [dropL]
  | x :: l, n => by
    rw [dropL]
    split
    · exact Nat.le_refl _
    · split
      · simp
      · have h := drop_len l (n - x.1)
        simp only [List.length_cons]
        omega
/-- a sum over the first i layers -/
theorem sum_take (f : Ly → Int) {l : List Ly} {i : Int} (h0 : 0 ≤ i) (h1 : i < (l.length : Int)) : sumL f (l.take (i + 1).toNat) = sumL f (l.take i.toNat) + f (lyAt l i) := by
  have hi : i.toNat < l.length := by omega
  rw [show (i + 1).toNat = i.toNat + 1 by omega, List.take_succ, List.getElem?_eq_getElem hi, sumL_app]
  unfold lyAt
  rw [List.getD_eq_getElem?_getD, List.getElem?_eq_getElem hi]
  simp [sumL]
theorem sum_take_0 (f : Ly → Int) (l : List Ly) : sumL f (l.take (0 : Int).toNat) = 0 := rfl
theorem sum_take_all (f : Ly → Int) {l : List Ly} {i : Int} (h : (l.length : Int) ≤ i) : sumL f (l.take i.toNat) = sumL f l := by rw [List.take_of_length_le (by omega)]
/-- drying: what becomes of one layer -/
def dryN (w : Int) (x : Ly) : Int := x.1 * (1000 - x.2.1) / (1000 - w)
def dry1 (gr : Int → Int → Int) (w : Int) (x : Ly) : List Ly := if w < x.2.1 then (if dryN w x < 1 then [] else [(dryN w x, w, x.2.2.1, gr w x.2.2.1)]) else [x]
def dryL (gr : Int → Int → Int) (w : Int) (l : List Ly) : List Ly := l.flatMap (dry1 gr w)
def dryC (w : Int) (x : Ly) : Int := if 0 < x.2.1 - w then x.1 * (x.2.1 - w) / 10 else 0
theorem dryN_in {w : Int} {x : Ly} (hx : lyOk x) (hw : 80 ≤ w ∧ w ≤ 300) (h : w < x.2.1) : 0 ≤ dryN w x ∧ dryN w x ≤ x.1 ∧ (0 ≤ x.1 * (1000 - x.2.1) ∧ x.1 * (1000 - x.2.1) ≤ 2000000) := by
  obtain ⟨⟨a1, a2⟩, ⟨b1, b2⟩, -⟩ := hx
  have p1 : 0 ≤ x.1 * (1000 - x.2.1) := Int.mul_nonneg (by omega) (by omega)
  have p2 : x.1 * (1000 - x.2.1) ≤ x.1 * (1000 - w) := Int.mul_le_mul_of_nonneg_left (by omega) (by omega)
  have p3 : x.1 * (1000 - x.2.1) ≤ 2000 * (1000 - x.2.1) := Int.mul_le_mul_of_nonneg_right a2 (by omega)
  refine ⟨Int.ediv_nonneg p1 (by omega), ?_, p1, by omega⟩
  unfold dryN
  have h1 := Int.ediv_le_ediv (c := 1000 - w) (by omega) p2
  rw [Int.mul_ediv_cancel _ (by omega)] at h1
  exact h1
theorem dry1_len (gr : Int → Int → Int) (w : Int) (x : Ly) : (dry1 gr w x).length ≤ 1 := by
  unfold dry1
  split
  · split <;> simp
  · simp
theorem dryL_len (gr : Int → Int → Int) (w : Int) : ∀ l : List Ly, (dryL gr w l).length ≤ l.length
  | [] => by simp [dryL]
  | x :: l => by
    have h1 := dry1_len gr w x
    have h2 := dryL_len gr w l
    unfold dryL at h2 ⊢
    rw [List.flatMap_cons, List.length_append, List.length_cons]
    omega
theorem dryL_app (gr : Int → Int → Int) (w : Int) (a b : List Ly) : dryL gr w (a ++ b) = dryL gr w a ++ dryL gr w b := by simp [dryL]
theorem dryL_ok {gr : Int → Int → Int} (hg : ∀ a b, 1 ≤ gr a b ∧ gr a b ≤ 4) {w : Int} (hw : 80 ≤ w ∧ w ≤ 300) {l : List Ly} (h : lysOk l) : lysOk (dryL gr w l) := by
  intro y hy
  obtain ⟨x, hx, hy⟩ := List.mem_flatMap.mp hy
  have hx := h x hx
  unfold dry1 at hy
  split at hy
  · rename_i hm
    have hn := dryN_in hx hw hm
    split at hy
    · cases hy
    · cases List.mem_singleton.mp hy
      obtain ⟨⟨a1, a2⟩, ⟨b1, b2⟩, ⟨c1, c2⟩, -⟩ := hx
      exact ⟨⟨by omega, by omega⟩, hw, ⟨c1, c2⟩, hg _ _⟩
  · cases List.mem_singleton.mp hy
    exact hx
/-- a ring with one layer more -/
theorem ring_cong {G G' : Nat → Ly} {old : Int} {n : Nat} (h : ∀ i : Nat, i < n → G ((old + (i : Int)) % 80).toNat = G' ((old + (i : Int)) % 80).toNat) : ringL G old n = ringL G' old n := by
  unfold ringL
  apply List.map_congr_left
  intro i hi
  exact h i (List.mem_range.mp hi)
theorem ring_succ (G : Nat → Ly) (old : Int) (n : Nat) : ringL G old (n + 1) = ringL G old n ++ [G ((old + (n : Int)) % 80).toNat] := by
  unfold ringL
  rw [List.range_succ, List.map_append]
  rfl
