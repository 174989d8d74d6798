/-! PURE: layers, bins, flows: what the words of the document come to -/
/-- a layer: bushels, moisture, foreign matter, grade -/
abbrev Ly : Type := Int × Int × Int × Int
/-- a bin: capacity, mass flow, its layers, the oldest one first -/
abbrev Bn : Type := Int × Bool × List Ly
def b01 (b : Bool) : Int := if b then 1 else 0
theorem b01_in (b : Bool) : b01 b = 0 ∧ b = false ∨ b01 b = 1 ∧ b = true := by cases b <;> simp [b01]
def lyOk (x : Ly) : Prop := (1 ≤ x.1 ∧ x.1 ≤ 2000) ∧ (80 ≤ x.2.1 ∧ x.2.1 ≤ 300) ∧ (0 ≤ x.2.2.1 ∧ x.2.2.1 ≤ 100) ∧ (1 ≤ x.2.2.2 ∧ x.2.2.2 ≤ 4)
def lysOk (l : List Ly) : Prop := ∀ x ∈ l, lyOk x
/-- a sum over layers -/
def sumL (f : Ly → Int) : List Ly → Int
  | [] => 0
  | x :: l => f x + sumL f l
theorem sumL_app (f : Ly → Int) : ∀ a b : List Ly, sumL f (a ++ b) = sumL f a + sumL f b
  | [], b => by simp [sumL]
  | x :: a, b => by simp only [List.cons_append, sumL, sumL_app f a b]; omega
theorem sumL_rev (f : Ly → Int) : ∀ a : List Ly, sumL f a.reverse = sumL f a
  | [] => rfl
  | x :: a => by simp only [List.reverse_cons, sumL_app, sumL_rev f a, sumL]; omega
theorem sumL_le {f g : Ly → Int} : ∀ {l : List Ly}, (∀ x ∈ l, f x ≤ g x) → sumL f l ≤ sumL g l
  | [], _ => Int.le_refl _
  | x :: l, h => by
    have h1 := h x List.mem_cons_self
    have h2 := sumL_le (l := l) (fun y hy => h y (List.mem_cons_of_mem _ hy))
    simp only [sumL]; omega
theorem sumL_0 {f : Ly → Int} {l : List Ly} (h : ∀ x ∈ l, 0 ≤ f x) : 0 ≤ sumL f l := by
  have h1 := sumL_le (f := fun _ => 0) (g := f) h
  have h2 : ∀ l : List Ly, sumL (fun _ => 0) l = 0 := fun l => by
    induction l with
    | nil => rfl
    | cons x l ih => simp only [sumL, ih]; rfl
  rw [h2] at h1
  exact h1
theorem sumL_const (c : Int) : ∀ l : List Ly, sumL (fun _ => c) l = l.length * c
  | [] => by simp [sumL]
  | x :: l => by simp only [sumL, sumL_const c l, List.length_cons, Int.natCast_succ, Int.add_mul]; omega
/-- the bushels of layers -/
def tot (l : List Ly) : Int := sumL (fun x => x.1) l
def wet (l : List Ly) : Int := sumL (fun x => x.1 * x.2.1) l
def dirt (l : List Ly) : Int := sumL (fun x => x.1 * x.2.2.1) l
def cost (pr : Int → Int) (l : List Ly) : Int := sumL (fun x => x.1 * pr x.2.2.2) l
theorem tot_len {l : List Ly} (h : lysOk l) : (l.length : Int) ≤ tot l := by
  have h1 := sumL_le (f := fun _ => 1) (g := fun x => x.1) (fun x hx => (h x hx).1.1)
  rw [sumL_const, Int.mul_one] at h1
  exact h1
theorem tot_max {l : List Ly} (h : lysOk l) : tot l ≤ l.length * 2000 := by
  have h1 := sumL_le (f := fun x => x.1) (g := fun _ => 2000) (fun x hx => (h x hx).1.2)
  rw [sumL_const] at h1
  exact h1
theorem tot_0 {l : List Ly} (h : lysOk l) : 0 ≤ tot l := by
  have := tot_len h
  omega
/-- in the order in which they flow out -/
def fl (b : Bn) : List Ly := if b.2.1 then b.2.2 else b.2.2.reverse
/-- and back -/
def ofl (m : Bool) (l : List Ly) : List Ly := if m then l else l.reverse
theorem fl_len (b : Bn) : (fl b).length = b.2.2.length := by unfold fl; split <;> simp
theorem ofl_fl (b : Bn) : ofl b.2.1 (fl b) = b.2.2 := by unfold fl ofl; split <;> simp_all
theorem fl_ofl (c : Int) (m : Bool) (l : List Ly) : fl (c, m, ofl m l) = l := by unfold fl ofl; cases m <;> simp
theorem mem_fl {b : Bn} {x : Ly} : x ∈ fl b ↔ x ∈ b.2.2 := by unfold fl; split <;> simp
theorem fl_ok {b : Bn} (h : lysOk b.2.2) : lysOk (fl b) := fun x hx => h x (mem_fl.mp hx)
theorem ofl_ok {m : Bool} {l : List Ly} (h : lysOk l) : lysOk (ofl m l) := by
  intro x hx
  unfold ofl at hx
  split at hx
  · exact h x hx
  · exact h x (List.mem_reverse.mp hx)
theorem sum_fl (f : Ly → Int) (b : Bn) : sumL f (fl b) = sumL f b.2.2 := by unfold fl; split; rfl; exact sumL_rev f _
theorem sum_ofl (f : Ly → Int) (m : Bool) (l : List Ly) : sumL f (ofl m l) = sumL f l := by unfold ofl; split; rfl; exact sumL_rev f _
/-- the layer at a place -/
def lyAt (l : List Ly) (i : Int) : Ly := l.getD i.toNat (0, 0, 0, 0)
theorem lyAt_ok {l : List Ly} (h : lysOk l) {i : Int} (h0 : 0 ≤ i) (h1 : i < (l.length : Int)) : lyOk (lyAt l i) := by
  have hi : i.toNat < l.length := by omega
  unfold lyAt
  rw [List.getD_eq_getElem?_getD, List.getElem?_eq_getElem hi]
  exact h _ (List.getElem_mem hi)
/-- what lies in a ring of 80 slots, from 'old' on, n layers -/
def ringL (G : Nat → Ly) (old : Int) (n : Nat) : List Ly := (List.range n).map (fun i : Nat => G ((old + (i : Int)) % 80).toNat)
theorem ringL_len (G : Nat → Ly) (old : Int) (n : Nat) : (ringL G old n).length = n := by simp [ringL]
theorem ringL_at {G : Nat → Ly} {old : Int} {n : Nat} {i : Nat} (h : i < n) : (ringL G old n)[i]? = some (G ((old + i) % 80).toNat) := by
  unfold ringL
  rw [List.getElem?_map, List.getElem?_range h]
  rfl
theorem ring_mass {G : Nat → Ly} {old : Int} {n : Nat} {i : Int} (h0 : 0 ≤ i) (h1 : i < (n : Int)) : lyAt (ringL G old n) i = G ((old + i) % 80).toNat := by
  unfold lyAt
  rw [List.getD_eq_getElem?_getD, ringL_at (by omega), show ((i.toNat : Nat) : Int) = i by omega]
  rfl
theorem ring_rev {G : Nat → Ly} {old : Int} {n : Nat} {i : Int} (h0 : 0 ≤ i) (h1 : i < (n : Int)) : lyAt (ringL G old n).reverse i = G ((old + n - 1 - i) % 80).toNat := by
  unfold lyAt
  rw [List.getD_eq_getElem?_getD, List.getElem?_reverse (by rw [ringL_len]; omega), ringL_len, ringL_at (by omega), show old + ((n - 1 - i.toNat : Nat) : Int) = old + n - 1 - i by omega]
  rfl
/-- the slot of a place in the flow -/
def slotI (m : Bool) (old : Int) (n : Int) (i : Int) : Int := if m then (old + i) % 80 else (old + n - 1 - i) % 80
theorem slotI_in (m : Bool) (old n i : Int) : 0 ≤ slotI m old n i ∧ slotI m old n i < 80 := by unfold slotI; split <;> omega
theorem ring_fl {G : Nat → Ly} {old : Int} {c : Int} {m : Bool} {l : List Ly} (hl : l = ringL G old l.length) {i : Int} (h0 : 0 ≤ i) (h1 : i < (l.length : Int)) : lyAt (fl (c, m, l)) i = G (slotI m old l.length i).toNat := by
  unfold fl slotI
  cases m
  · simp only [Bool.false_eq_true, if_false]
    rw [hl, ring_rev h0 (by simpa [ringL_len] using h1)]
    simp only [ringL_len]
  · simp only [if_true]
    rw [hl, ring_mass h0 (by simpa [ringL_len] using h1)]
