/-! BASE: whole numbers as ints, worlds by address, what holds of the launch -/
def vi (z : Int) : Value := .int (Int32.ofInt z)
def vl (z : Int) : Value := .long (Int64.ofInt z)
theorem z_toInt {z : Int} (h : -2147483648 ≤ z ∧ z < 2147483648) : (Int32.ofInt z).toInt = z := Int32.toInt_ofInt_of_le (by omega) (by omega)
theorem z_of (x : Int32) : ∃ z : Int, (-2147483648 ≤ z ∧ z < 2147483648) ∧ x = Int32.ofInt z := ⟨x.toInt, by
  have h1 := Int32.le_toInt x
  have h2 := Int32.toInt_lt x
  omega, (Int32.ofInt_toInt x).symm⟩
theorem z_le {a b : Int} (ha : -2147483648 ≤ a ∧ a < 2147483648) (hb : -2147483648 ≤ b ∧ b < 2147483648) : Int32.ofInt a ≤ Int32.ofInt b ↔ a ≤ b := by rw [Int32.le_iff_toInt_le, z_toInt ha, z_toInt hb]
theorem z_lt {a b : Int} (ha : -2147483648 ≤ a ∧ a < 2147483648) (hb : -2147483648 ≤ b ∧ b < 2147483648) : Int32.ofInt a < Int32.ofInt b ↔ a < b := by rw [Int32.lt_iff_toInt_lt, z_toInt ha, z_toInt hb]
theorem z_eq {a b : Int} (ha : -2147483648 ≤ a ∧ a < 2147483648) (hb : -2147483648 ≤ b ∧ b < 2147483648) : Int32.ofInt a = Int32.ofInt b ↔ a = b := by rw [← Int32.toInt_inj, z_toInt ha, z_toInt hb]
theorem z_0 : Int32.ofInt 0 = 0 := rfl
theorem z_cl {z : Int} (h : -2147483648 ≤ z ∧ z < 2147483648) : (Int32.ofInt z).toNatClampNeg = z.toNat := by
  show (Int32.ofInt z).toInt.toNat = _
  rw [z_toInt h]
theorem z_in {z : Int} {n : Nat} (h : 0 ≤ z ∧ z < (n : Int)) (h2 : z < 2147483648) : vp_in (Int32.ofInt z) n := by
  intro q
  rcases q with q | q
  · rw [← z_0, z_lt ⟨by omega, h2⟩ ⟨by omega, by omega⟩] at q
    omega
  · rw [z_cl ⟨by omega, h2⟩] at q
    omega
theorem z_div {a b : Int} (ha : 0 ≤ a ∧ a < 2147483648) (hb : 0 < b ∧ b < 2147483648) : Int32.ofInt a / Int32.ofInt b = Int32.ofInt (a / b) := by
  have e1 := z_toInt (z := a) ⟨by omega, by omega⟩
  have e2 := z_toInt (z := b) ⟨by omega, by omega⟩
  have h1 : 0 ≤ a / b := Int.ediv_nonneg ha.1 (by omega)
  have h2 : a / b ≤ a := Int.ediv_le_self _ ha.1
  rw [← Int32.toInt_inj, Int32.toInt_div_of_ne_right _ _ (fun h => by
    have h3 := congrArg Int32.toInt h
    rw [e2] at h3
    have h4 : (-1 : Int32).toInt = -1 := by decide
    omega), e1, e2, z_toInt ⟨by omega, by omega⟩, Int.tdiv_eq_ediv_of_nonneg ha.1]
theorem z_rem {a b : Int} (ha : 0 ≤ a ∧ a < 2147483648) (hb : 0 < b ∧ b < 2147483648) : Int32.ofInt a - Int32.ofInt a / Int32.ofInt b * Int32.ofInt b = Int32.ofInt (a % b) := by
  rw [z_div ha hb, ← Int32.ofInt_mul, ← Int32.ofInt_sub, Int.emod_def, Int.mul_comm]
/-- worlds: the live addresses, and what lies at each -/
abbrev Wd : Type := List Nat × (Nat → va_E)
def wl (σ : Wd) : va_W := va_pl σ.1 σ.2
def has (σ : Wd) (a : Nat) (e : va_E) : Prop := a ∈ σ.1 ∧ σ.2 a = e
def put (σ : Wd) (a : Nat) (e : va_E) : Wd := (σ.1, va_up σ.2 a e)
def wnew (σ : Wd) (a : Nat) (e : va_E) : Wd := (σ.1 ++ [a], va_up σ.2 a e)
theorem has.at {σ : Wd} {a : Nat} {e : va_E} (h : has σ a e) : ∃ k : Nat, (wl σ)[k]? = some (a, e) := by
  obtain ⟨k, hk⟩ := va_pl_get (X := []) (f := σ.2) h.1
  rw [h.2] at hk
  exact ⟨k, hk⟩
theorem has.set {A : Nat → Prop} {σ : Wd} {a k : Nat} {e0 e : va_E} (hD : va_D A (wl σ)) (h : has σ a e0) (hk : (wl σ)[k]? = some (a, e0)) : (wl σ).set k (a, e) = wl (put σ a e) := by
  have hk2 : ([] ++ va_pl σ.1 σ.2)[k]? = some (a, σ.2 a) := by rw [h.2]; exact hk
  exact va_pl_set (X := []) (e := e) hD h.1 hk2
theorem has.push {σ : Wd} {a : Nat} {e : va_E} (h : a ∉ σ.1) : wl σ ++ [(a, e)] = wl (wnew σ a e) := va_pl_push h
theorem has.self {σ : Wd} {a : Nat} {e0 e : va_E} (h : has σ a e0) : has (put σ a e) a e := ⟨h.1, va_up_self ..⟩
theorem has.ne {σ : Wd} {a b : Nat} {e e' : va_E} (h : has σ b e') (hn : b ≠ a) : has (put σ a e) b e' := ⟨h.1, (va_up_ne _ _ hn).trans h.2⟩
theorem has.fresh {σ : Wd} {a : Nat} {e : va_E} : has (wnew σ a e) a e := ⟨List.mem_append_right _ (List.mem_singleton.mpr rfl), va_up_self ..⟩
theorem has.old {σ : Wd} {a b : Nat} {e e' : va_E} (h : has σ b e') (hn : a ∉ σ.1) : has (wnew σ a e) b e' := ⟨List.mem_append_left _ h.1, (va_up_ne _ _ (fun q : b = a => hn (by rw [← q]; exact h.1))).trans h.2⟩
theorem has.apart {σ : Wd} {a b : Nat} {e : va_E} (h : has σ b e) (hn : a ∉ σ.1) : b ≠ a := fun q => hn (by rw [← q]; exact h.1)
def knd : va_E → Nat
  | .inr o => o.1
  | .inl (_, _, .inl _) => 100
  | .inl (_, _, .inr (.inl _)) => 101
  | .inl (_, _, .inr (.inr (.inl _))) => 102
  | .inl (_, _, .inr (.inr (.inr (.inl _)))) => 103
  | .inl (_, _, .inr (.inr (.inr (.inr _)))) => 104
theorem has.nk {σ : Wd} {a b : Nat} {e e' : va_E} (h : has σ a e) (h' : has σ b e') (hk : (knd e == knd e') = false) : a ≠ b := by
  intro q
  subst q
  have := h.2.symm.trans h'.2
  subst this
  simp at hk
theorem has.inj {σ : Wd} {a : Nat} {e e' : va_E} (h : has σ a e) (h' : has σ a e') : e = e' := h.2.symm.trans h'.2
theorem has.lt {D : va_G} {cl : List vw_C} {σ : Wd} {H : Heap} {a : Nat} {e : va_E} (hP : va_P D cl (wl σ) H) (h : has σ a e) : a < H.size := by
  obtain ⟨k, hk⟩ := h.at
  exact (hP k _ hk).lt
theorem wl_fresh {D : va_G} {cl : List vw_C} {σ : Wd} {H : Heap} (hP : va_P D cl (wl σ) H) {a : Nat} (h : H.size ≤ a) : a ∉ σ.1 := fun q => by
  have := has.lt hP (⟨q, rfl⟩ : has σ a (σ.2 a))
  omega
/-- the cells that a method may change: its world's, and new ones -/
def AA (σ : Wd) (sz : Nat) : Nat → Prop := fun q => q ∈ σ.1 ∨ sz ≤ q
theorem AA.of {A : Nat → Prop} {σ : Wd} (hD : va_D A (wl σ)) {a : Nat} (h : a ∈ σ.1) : A a := by
  obtain ⟨k, hk⟩ := has.at (⟨h, rfl⟩ : has σ a (σ.2 a))
  exact hD.2 k _ hk
theorem AA.le {A0 : Nat → Prop} {σ : Wd} {H0 H : Heap} {locs : List Loc} (hD : va_D A0 (wl σ)) (hS : va_S A0 H0 H locs) (hA : ∀ q, H0.size ≤ q → A0 q) : ∀ q, AA σ H.size q → A0 q := by
  intro q h
  rcases h with h | h
  · exact AA.of hD h
  · exact hA q (Nat.le_trans hS.1 h)
theorem AA.self {σ : Wd} {A : Nat → Prop} {sz : Nat} (hD : va_D A (wl σ)) : va_D (AA σ sz) (wl σ) := ⟨hD.1, fun k q hk => by
  obtain ⟨a, ha, hq⟩ := List.mem_map.mp (List.mem_of_getElem? hk)
  subst hq
  exact Or.inl ha⟩
/-- words that a call keeps -/
def mvW : Cond → Bool
  | .arrayClass _ => true
  | .fieldLinkNest .. => true
  | .methodLinkNest .. => true
  | w => w.onTables && w.keepsCast
theorem mvW.at {A A' : Array Value} {s U : State} {w : Cond} (hW : s.WarmedH U.vm) (hg : mvW w = true) (h : w.before A s = true) : w.before A' U = true := by
  have gen : ∀ w : Cond, (w.onTables && w.keepsCast) = true → w.before A s = true → w.before A' U = true := by
    intro w hg h
    simp only [Bool.and_eq_true] at hg
    exact va_tabs hg.1 (rfl : (s.setVm U.vm).vm = U.vm) (Cond.before_shiftedCast (State.Shifted.of_warmed hW) w hg.2 h)
  cases w <;> first
    | exact gen _ hg h
    | exact word_at hW (Or.inr ⟨_, rfl⟩) h
    | exact va_Nw.use rfl (va_Nw.warmF hW (va_Nw.of rfl h))
    | exact va_Nw.use rfl (va_Nw.warmM hW (va_Nw.of rfl h))
/-- private methods of StringBuilder's superclass, called on a StringBuilder -/
def lw_x : List Cond := [Cond.selects RJ4 yJ5_newCapacity_0f7a4 yJ5_newCapacity_0f7a4, Cond.selects RJ4 yJ5_ensureCapacityInternal_d00df yJ5_ensureCapacityInternal_d00df, Cond.selects RJ4 yJ5_putStringAt_47b60 yJ5_putStringAt_47b60, Cond.selects RJ4 yJ5_inflateIfNeededFor_a7421 yJ5_inflateIfNeededFor_a7421]
def lw_g : List Cond := (lw_x ++ lw_tbl).filter mvW
theorem lw_in {w : Cond} (h : w ∈ lw_tbl) (hg : mvW w = true) : w ∈ lw_g := List.mem_filter.mpr ⟨List.mem_append_right _ h, hg⟩
theorem tm_0 {w : Cond} (i : Nat) (h : lw_x[i]? = some w) (hg : mvW w = true) : w ∈ lw_g := List.mem_filter.mpr ⟨List.mem_append_left _ (List.mem_of_getElem? h), hg⟩
theorem tm_p1 {w : Cond} (i : Nat) (h : (k2_sels lw_privs_1)[i]? = some w) (hg : mvW w = true) : w ∈ lw_g := lw_in (List.mem_append_left _ (List.mem_of_getElem? h)) hg
theorem tm_1 {w : Cond} (i : Nat) (h : tables_1_1[i]? = some w) (hg : mvW w = true) : w ∈ lw_g := lw_in (List.mem_append_right _ (List.mem_append_left _ (List.mem_of_getElem? h))) hg
theorem tm_2 {w : Cond} (i : Nat) (h : tables_1_2[i]? = some w) (hg : mvW w = true) : w ∈ lw_g := lw_in (List.mem_append_right _ (List.mem_append_right _ (List.mem_append_left _ (List.mem_of_getElem? h)))) hg
theorem tm_3 {w : Cond} (i : Nat) (h : tables_1_3[i]? = some w) (hg : mvW w = true) : w ∈ lw_g := lw_in (List.mem_append_right _ (List.mem_append_right _ (List.mem_append_right _ (List.mem_append_left _ (List.mem_of_getElem? h))))) hg
theorem tm_4 {w : Cond} (i : Nat) (h : tables_1_4[i]? = some w) (hg : mvW w = true) : w ∈ lw_g := lw_in (List.mem_append_right _ (List.mem_append_right _ (List.mem_append_right _ (List.mem_append_right _ (List.mem_append_left _ (List.mem_of_getElem? h)))))) hg
theorem tm_5 {w : Cond} (i : Nat) (h : tables_1_5[i]? = some w) (hg : mvW w = true) : w ∈ lw_g := lw_in (List.mem_append_right _ (List.mem_append_right _ (List.mem_append_right _ (List.mem_append_right _ (List.mem_append_right _ (List.mem_append_left _ (List.mem_of_getElem? h))))))) hg
theorem tm_6 {w : Cond} (i : Nat) (h : tables_1_6[i]? = some w) (hg : mvW w = true) : w ∈ lw_g := lw_in (List.mem_append_right _ (List.mem_append_right _ (List.mem_append_right _ (List.mem_append_right _ (List.mem_append_right _ (List.mem_append_right _ (List.mem_of_getElem? h))))))) hg
theorem lw_mv {A A' : Array Value} {s U : State} (hW : s.WarmedH U.vm) (h : ∀ w ∈ lw_g, w.before A s = true) : ∀ w ∈ lw_g, w.before A' U = true := fun w hw => mvW.at hW (List.mem_filter.mp hw).2 (h w hw)
/-- the texts that exceptions bear -/
def txts : List (Nat × String) := [(61, "there are 6 bins"), (151, "no layer has a greater moisture"), (279, "both bins are the same"), (298, "there is no such layer"), (268, "there is no such character"), (283, "the bin has not enough room"), (296, "there is no such bin"), (285, "there have been 80 events"), (276, "an argument is out of range"), (281, "there is not so much in the bin"), (293, "no blend is good")]
/-- which exceptions aren't of which kind -/
def ncl : List (String × String) := [("java/lang/IllegalArgumentException", "java/lang/IndexOutOfBoundsException"), ("java/lang/IllegalStateException", "java/lang/IndexOutOfBoundsException"), ("java/lang/IllegalStateException", "java/lang/IllegalArgumentException"), ("java/util/NoSuchElementException", "java/lang/IndexOutOfBoundsException"), ("java/util/NoSuchElementException", "java/lang/IllegalArgumentException"), ("java/lang/IllegalStateException", "java/util/NoSuchElementException")]
def Ncs (U : State) : Prop := ∀ p ∈ ncl, va_Nc p.1 p.2 U
theorem Ncs.moved {u U : State} (hvm : u.vm.Alike U.vm) (h : Ncs u) : Ncs U := fun p hp => (h p hp).moved hvm
/-- the law's own texts, the empty one and a space: the objects at cy 10 and 11, their bytes at cy 12 and 13 -/
def Lits (cy : Nat → Nat) (A : Nat → Prop) (U : State) (H : Heap) : Prop := vk_S 2 [0, 1] [[], [32]] (fun i => cy (10 + i)) (fun i => cy (12 + i)) A U H ∧ vk_R RL 208 "" (cy 10) U ∧ vk_R RL 210 " " (cy 11) U
/-- the script: an array of ints outside what the methods may change -/
def Scr (sc : Nat) (A : Nat → Prop) (U : State) (H : Heap) : Prop := ∃ (L : Nat) (xs : Nat → Int32), va_X sc L xs U H ∧ sc < H.size ∧ ¬ A sc ∧ L ≤ 260
/-- what the launch gives and keeps: statics, texts, classes of arrays; t0: ArrayList's empty array; t1, t2: Integer's digits; cy 9: the script -/
def Go (t0 mi : Nat) (cy : Nat → Nat) (A : Nat → Prop) (U : State) (H : Heap) : Prop :=
  (vx_Zq Bundle.tN "UNASSIGNED_STACK" Bundle.steD A U H ∧ vx_Zq Bundle.tN "SUPPRESSED_SENTINEL" Bundle.listD A U H) ∧
  (va_Z "java/lang/String" "COMPACT_STRINGS" "Z" (.int 1) A U H ∧ va_Z "java/util/ArrayList" "DEFAULTCAPACITY_EMPTY_ELEMENTDATA" "[Ljava/lang/Object;" (.ref t0) A U H ∧ va_T (.object "java/lang/Object") t0 0 (fun _ => .null) A U H) ∧
  (∃ t1 t2 : Nat, (va_Z "java/lang/Integer" "DigitOnes" "[B" (.ref t1) A U H ∧ va_T .byte t1 100 (fun k => vi (48 + (k % 10 : Nat))) A U H) ∧ (va_Z "java/lang/Integer" "DigitTens" "[B" (.ref t2) A U H ∧ va_T .byte t2 100 (fun k => vi (48 + (k / 10 : Nat))) A U H)) ∧
  (∀ q ∈ txts, ∃ a : Nat, vk_R RX6 q.1 q.2 a U) ∧ va_AO "java/lang/Object" U ∧ va_Mi "[Ljava/lang/Object;" mi U ∧ vx_Zq "jdk/internal/util/Preconditions" "SIOOBE_FORMATTER" "Ljava/util/function/BiFunction;" A U H ∧ Ncs U ∧ Lits cy A U H ∧ Scr (cy 9) A U H
theorem Go.moved {t0 mi : Nat} {cy : Nat → Nat} {A : Nat → Prop} {u U : State} {H : Heap} (hW : u.WarmedH U.vm) (h : Go t0 mi cy A u H) : Go t0 mi cy A U H := by
  obtain ⟨⟨a1, a2⟩, ⟨b1, b2, b3⟩, ⟨t1, t2, ⟨c1, c2⟩, c3, c4⟩, d, e, f, g, nc, ⟨k1, k2, k3⟩, Lx, xs, x1, x2, x3, x4⟩ := h
  have v := hW.alike
  exact ⟨⟨a1.moved v, a2.moved v⟩, ⟨b1.moved v, b2.moved v, b3.moved v⟩, ⟨t1, t2, ⟨c1.moved v, c2.moved v⟩, c3.moved v, c4.moved v⟩, fun q hq => (d q hq).elim (fun a ha => ⟨a, ha.warm hW⟩), e.moved v, f.moved v, g.moved v, nc.moved v, ⟨k1.moved v, k2.warm hW, k3.warm hW⟩, Lx, xs, x1.moved v, x2, x3, x4⟩
theorem Go.kept {t0 mi : Nat} {cy : Nat → Nat} {A : Nat → Prop} {U : State} {H H1 : Heap} (h : Go t0 mi cy A U H) (hsz : H.size ≤ H1.size) (hq : ∀ a : Nat, a < H.size → ¬ A a → H1[a]? = H[a]?) : Go t0 mi cy A U H1 := by
  obtain ⟨⟨a1, a2⟩, ⟨b1, b2, b3⟩, ⟨t1, t2, ⟨c1, c2⟩, c3, c4⟩, d, e, f, g, nc, ⟨k1, k2, k3⟩, Lx, xs, x1, x2, x3, x4⟩ := h
  exact ⟨⟨a1.kept hq, a2.kept hq⟩, ⟨b1.kept hq, b2.kept hq, b3.kept hq⟩, ⟨t1, t2, ⟨c1.kept hq, c2.kept hq⟩, c3.kept hq, c4.kept hq⟩, d, e, f, g.kept hq, nc, ⟨k1.kept hq, k2, k3⟩, Lx, xs, x1.kept (hq _ x2 x3), Nat.lt_of_lt_of_le x2 hsz, x3, x4⟩
theorem Go.narrow {t0 mi : Nat} {cy : Nat → Nat} {A B : Nat → Prop} {U : State} {H : Heap} (h : Go t0 mi cy A U H) (hAB : ∀ q, B q → A q) : Go t0 mi cy B U H := by
  obtain ⟨⟨a1, a2⟩, ⟨b1, b2, b3⟩, ⟨t1, t2, ⟨c1, c2⟩, c3, c4⟩, d, e, f, g, nc, ⟨k1, k2, k3⟩, Lx, xs, x1, x2, x3, x4⟩ := h
  exact ⟨⟨a1.narrow hAB, a2.narrow hAB⟩, ⟨b1.narrow hAB, b2.narrow hAB, b3.narrow hAB⟩, ⟨t1, t2, ⟨c1.narrow hAB, c2.narrow hAB⟩, c3.narrow hAB, c4.narrow hAB⟩, d, e, f, g.narrow hAB, nc, ⟨k1.narrow hAB, k2, k3⟩, Lx, xs, x1, x2, fun z => x3 (hAB _ z), x4⟩
/-- a method's stand: program, launch, environment, room, start, method, arguments, frames below, method, code, what is owed at the end, classes, arrays' classes, own cells, locals -/
abbrev Kx : Type := Program × Launch × Env × Room × State × MethodId × Array Value × List Frame × Method × Code × (State → Prop) × va_G × (Nat → Nat) × (Nat → Prop) × Nat
abbrev kP (κ : Kx) : Program := κ.1
abbrev kL (κ : Kx) : Launch := κ.2.1
abbrev kE (κ : Kx) : Env := κ.2.2.1
abbrev kR (κ : Kx) : Room := κ.2.2.2.1
abbrev kS (κ : Kx) : State := κ.2.2.2.2.1
abbrev kM (κ : Kx) : MethodId := κ.2.2.2.2.2.1
abbrev kG (κ : Kx) : Array Value := κ.2.2.2.2.2.2.1
abbrev kB (κ : Kx) : List Frame := κ.2.2.2.2.2.2.2.1
abbrev kH (κ : Kx) : Method := κ.2.2.2.2.2.2.2.2.1
abbrev kC (κ : Kx) : Code := κ.2.2.2.2.2.2.2.2.2.1
abbrev kQ (κ : Kx) : State → Prop := κ.2.2.2.2.2.2.2.2.2.2.1
abbrev kD (κ : Kx) : va_G := κ.2.2.2.2.2.2.2.2.2.2.2.1
abbrev kc (κ : Kx) : Nat → Nat := κ.2.2.2.2.2.2.2.2.2.2.2.2.1
abbrev kA (κ : Kx) : Nat → Prop := κ.2.2.2.2.2.2.2.2.2.2.2.2.2.1
abbrev kN (κ : Kx) : Nat := κ.2.2.2.2.2.2.2.2.2.2.2.2.2.2
/-- the classes of arrays: 0 byte, 2 int, 4 Object, 5 long (1 and 3 are not used); 7: ArrayList's empty array -/
abbrev tyz (cy : Nat → Nat) : List (ClassId × FieldType) := [(cy 0, .byte), (cy 0, .byte), (cy 2, .int), (cy 2, .int), (cy 4, .object "java/lang/Object"), (cy 5, .long)]
abbrev Vw (κ : Kx) (H : Heap) (locs : List Loc) (k n : Nat) (g : JFrame) : Prop := W (kP κ) (kL κ) (kE κ) (kR κ) (kS κ) (kM κ) (kG κ) (kB κ) (kH κ) (kC κ) H locs k n (kQ κ) g
abbrev Vx (κ : Kx) (H : Heap) (locs : List Loc) (k n : Nat) (g : JFrame) (q : Addr) : Prop := vx_W (kP κ) (kL κ) (kE κ) (kR κ) (kS κ) (kM κ) (kG κ) (kB κ) (kH κ) (kC κ) H locs k n (kQ κ) g q
/-- the method goes on to its end, from the world σ, the locals lv, the place pc, the stack st, with k cells of n slots made -/
def J (κ : Kx) (σ : Wd) (lv : List (Nat × Value)) (pc : Nat) (st : List Value) (k n : Nat) : Prop :=
  ∀ (H : Heap) (locs : List Loc) (ls : Array Slot), lv_has ls (kN κ) lv → va_P (kD κ) vwc (wl σ) H → va_D (kA κ) (wl σ) → va_S (kA κ) (kS κ).heap H locs → Vw κ H locs k n (F0 (kM κ) pc ls st)
/-- .. with an exception of class E thrown at pc -/
def JX (κ : Kx) (σ : Wd) (lv : List (Nat × Value)) (pc : Nat) (E : String) (k n : Nat) : Prop :=
  ∀ (H : Heap) (locs : List Loc) (ls : Array Slot) (rest : List Value) (q : Addr) (ce : Cell), lv_has ls (kN κ) lv → va_P (kD κ) vwc (wl σ) H → va_D (kA κ) (wl σ) → va_S (kA κ) (kS κ).heap H locs → H[q]? = some ce → ce.vm = .none → (kS κ).vm.findClass E = some ce.cls → Vx κ H locs k n (F0 (kM κ) pc ls rest) q
/-- what a body's rows rest on -/
def Cx (κ : Kx) (cc : ByteArray) (nL : Nat) (own nm : String) (lev : Nat) : Prop :=
  ((kP κ).tables.exec = Jvm.exec ∧ (kC κ).code = cc ∧ (kC κ).maxLocals = nL ∧ kN κ = nL) ∧ ((kS κ).vm.findClass own = some (kM κ).cls ∧ (kH κ).name = nm ∧ (kH κ).locks = false ∧ (kL κ).stackTraces = false) ∧
  (∀ w ∈ lw_g, w.before (kG κ) (kS κ) = true) ∧ va_K (kD κ) vwc (tyz (kc κ)) (kS κ) ∧ Go (kc κ 7) (kc κ 8) (kc κ) (kA κ) (kS κ) (kS κ).heap ∧ (∀ q, (kS κ).heap.size ≤ q → kA κ q) ∧ (40 + 20 * lev ≤ (kR κ).frames ∧ 1000 + 200 * lev ≤ (kR κ).locals)
