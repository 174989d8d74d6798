/-! ROWS over J: fields, arrays, making -/
abbrev iA (cy : Nat → Nat) (n : Nat) (g : Nat → Int) : va_E := .inl (cy 2, n, .inl (fun i => Int32.ofInt (g i)))
abbrev bA (cy : Nat → Nat) (n : Nat) (g : Nat → Int) : va_E := .inl (cy 0, n, .inl (fun i => Int32.ofInt (g i)))
abbrev cA (cy : Nat → Nat) (n : Nat) (g : Nat → Int) : va_E := .inl (cy 1, n, .inl (fun i => Int32.ofInt (g i)))
abbrev zA (cy : Nat → Nat) (n : Nat) (g : Nat → Int) : va_E := .inl (cy 3, n, .inl (fun i => Int32.ofInt (g i)))
abbrev oA (cy : Nat → Nat) (n : Nat) (f : Nat → Option Nat) : va_E := .inl (cy 4, n, .inr (.inr (.inr (.inr f))))
abbrev lA (cy : Nat → Nat) (n : Nat) (g : Nat → Int) : va_E := .inl (cy 5, n, .inr (.inl (fun i => Int64.ofInt (g i))))
abbrev dA (cy : Nat → Nat) (n : Nat) (f : Nat → UInt64) : va_E := .inl (cy 6, n, .inr (.inr (.inr (.inl f))))
def ups (g : Nat → Int) (j : Nat) (x : Int) : Nat → Int := fun i => if i = j then x else g i
theorem ups_s {g : Nat → Int} {j : Nat} {x : Int} : ups g j x j = x := if_pos rfl
theorem ups_n {g : Nat → Int} {i j : Nat} {x : Int} (h : i ≠ j) : ups g j x i = g i := if_neg h
theorem upd_ups (g : Nat → Int) (j : Nat) (x : Int) : upd (fun i => Int32.ofInt (g i)) j (Int32.ofInt x) = fun i => Int32.ofInt (ups g j x i) := by
  funext i
  show (if i = j then _ else _) = Int32.ofInt (if i = j then _ else _)
  split <;> rfl
theorem updL_ups (g : Nat → Int) (j : Nat) (x : Int) : vp_updL (fun i => Int64.ofInt (g i)) j (Int64.ofInt x) = fun i => Int64.ofInt (ups g j x i) := by
  funext i
  show (if i = j then _ else _) = Int64.ofInt (if i = j then _ else _)
  split <;> rfl
/-- a field of a class, as an instruction of 'own' names it -/
def FA (own : String) (idx ci j : Nat) (fin : Bool) (ty : FieldType) : Prop := ∃ (C : String) (T : u_T) (N : Nat) (ref : String) (ty0 : Nat → FieldType), vwc[ci]? = some (C, T, N) ∧ (∀ w ∈ u_ws C T N, w ∈ lw_g) ∧ j < N ∧ Cond.fieldLink own idx ref (T j).2.1 (T j).2.2.1 ∈ lw_g ∧ (ref = (T j).1 ∨ Cond.sameField ref (T j).1 (T j).2.1 (T j).2.2.1 ∈ lw_g) ∧
  (∀ k, k < N → parseFieldDescriptor (T k).2.2.1 = some (ty0 k)) ∧ (∀ a, a < N → ∀ b, b < N → a ≠ b → (T a).2.1 ≠ (T b).2.1) ∧ (T j).2.2.2 = fin ∧ parseFieldDescriptor (T j).2.2.1 = some ty ∧ (fin = true → (T j).1 = own)
/-- .. for reading alone -/
def FG (own : String) (idx ci j : Nat) : Prop := ∃ (C : String) (T : u_T) (N : Nat) (ref : String), vwc[ci]? = some (C, T, N) ∧ (∀ w ∈ u_ws C T N, w ∈ lw_g) ∧ j < N ∧ Cond.fieldLink own idx ref (T j).2.1 (T j).2.2.1 ∈ lw_g ∧ (ref = (T j).1 ∨ Cond.sameField ref (T j).1 (T j).2.1 (T j).2.2.1 ∈ lw_g)
/-- a class that an instruction of 'own' makes an object of -/
def NA (own : String) (idx ci N : Nat) (fs : List Value) : Prop := ∃ (C : String) (T : u_T) (ty0 : Nat → FieldType), vwc[ci]? = some (C, T, N) ∧ (∀ w ∈ u_ws C T N, w ∈ lw_g) ∧ (∀ k, k < N → parseFieldDescriptor (T k).2.2.1 = some (ty0 k)) ∧ Cond.classLink own idx C ∈ lw_g ∧ Cond.instantiable C N ∈ lw_g ∧ Cond.initialized C ∈ lw_g ∧ (∀ j, j < N → defaultValue (ty0 j) = vp_V fs j)
theorem wl_at {σ : Wd} {k : Nat} {q : Nat × va_E} : (wl σ)[k]? = some q ↔ ∃ a, σ.1[k]? = some a ∧ q = (a, σ.2 a) := by
  show (σ.1.map (fun a => (a, σ.2 a)))[k]? = some q ↔ _
  rw [List.getElem?_map]
  constructor
  · intro h
    cases h1 : σ.1[k]? with
    | none => rw [h1] at h; cases h
    | some a => rw [h1] at h; exact ⟨a, rfl, (Option.some.inj h).symm⟩
  · rintro ⟨a, h1, rfl⟩
    rw [h1]; rfl
theorem wl_D {A : Nat → Prop} {σ : Wd} : va_D A (wl σ) ↔ σ.1.Nodup ∧ ∀ a ∈ σ.1, A a := by
  constructor
  · intro h
    refine ⟨?_, fun a ha => AA.of h ha⟩
    rw [List.nodup_iff_pairwise_ne, List.pairwise_iff_getElem]
    intro i j hi hj hij e
    have := h.1 i j (σ.1[i], σ.2 σ.1[i]) (σ.1[j], σ.2 σ.1[j]) (wl_at.mpr ⟨_, List.getElem?_eq_getElem hi, rfl⟩) (wl_at.mpr ⟨_, List.getElem?_eq_getElem hj, rfl⟩) e
    omega
  · rintro ⟨h1, h2⟩
    refine ⟨fun i j p q hi hj e => ?_, fun k q hk => ?_⟩
    · obtain ⟨a, ha, rfl⟩ := wl_at.mp hi
      obtain ⟨b, hb, rfl⟩ := wl_at.mp hj
      have e : a = b := e
      subst e
      exact (List.getElem?_inj (List.getElem?_eq_some_iff.mp ha).1 h1).mp (ha.trans hb.symm)
    · obtain ⟨a, ha, rfl⟩ := wl_at.mp hk
      exact h2 a (List.mem_of_getElem? ha)
theorem wl_P {D : va_G} {cl : List vw_C} {σ : Wd} {H : Heap} : va_P D cl (wl σ) H ↔ ∀ a ∈ σ.1, va_at D cl (a, σ.2 a) H := by
  constructor
  · intro h a ha
    obtain ⟨k, hk⟩ := List.getElem?_of_mem ha
    exact h k _ (wl_at.mpr ⟨a, hk, rfl⟩)
  · intro h k q hk
    obtain ⟨a, ha, rfl⟩ := wl_at.mp hk
    exact h a (List.mem_of_getElem? ha)
section HeapJ
variable {κ : Kx} {cc : ByteArray} {nL : Nat} {own nm : String} {lev : Nat} {σ : Wd} {lv : List (Nat × Value)} {pc pc' : Nat} {st : List Value} {k n : Nat}
theorem FA.same {own : String} {idx ci j : Nat} {C : String} {T : u_T} {ref : String} {args : Array Value} {s : State} (hG : ∀ w ∈ lw_g, w.before args s = true) (h : ref = (T j).1 ∨ Cond.sameField ref (T j).1 (T j).2.1 (T j).2.2.1 ∈ lw_g) : ∀ x, s.fieldFound? (T j).1 (T j).2.1 (T j).2.2.1 = some x → s.fieldFound? ref (T j).2.1 (T j).2.2.1 = some x := by
  intro x hx
  rcases h with h | h
  · rw [h]; exact hx
  · exact u_same (hG _ h) x hx
theorem j_get {idx ci j a : Nat} {fs : List Value} {v : Value} (C : Cx κ cc nL own nm lev) (hd : decode cc pc = .ok (.getfield idx, 3)) (hp : pc + 3 = pc') (F : FG own idx ci j) (hh : has σ a (.inr (ci, fs))) (hv : fs[j]? = some v) (kk : J κ σ lv pc' (v :: st) k n) : J κ σ lv pc (.ref a :: st) k n := by
  obtain ⟨⟨hx, hb, -, -⟩, ⟨hown, -, -, -⟩, hG, hK, -⟩ := C
  obtain ⟨CC, T, N, ref, f1, f2, f3, f4, f5⟩ := F
  subst hp
  intro H locs ls hl hP hD hS
  obtain ⟨q, hq⟩ := hh.at
  exact va_get hx hb hG f2 hown hK hP q hq f1 j f3 (hG _ f4) (FA.same (own := own) (idx := idx) (ci := ci) (C := CC) hG f5) hv hd (kk H locs ls hl hP hD hS)
theorem j_put {idx ci j a : Nat} {ty : FieldType} {fs fs' : List Value} {v : Value} (C : Cx κ cc nL own nm lev) (hd : decode cc pc = .ok (.putfield idx, 3)) (hp : pc + 3 = pc') (F : FA own idx ci j false ty) (hh : has σ a (.inr (ci, fs))) (hn : narrow ty v = v) (hf : fits ty v = true) (hfs : fs.set j v = fs') (hj : Nat.blt j fs.length = true) (kk : ∀ σ' : Wd, σ' = put σ a (.inr (ci, fs')) → J κ σ' lv pc' st k n) : J κ σ lv pc (v :: .ref a :: st) k n := by
  obtain ⟨⟨hx, hb, -, -⟩, ⟨hown, -, -, -⟩, hG, hK, -⟩ := C
  obtain ⟨CC, T, N, ref, ty0, f1, f2, f3, f4, f5, f6, f7, f8, f9, -⟩ := F
  subst hp hfs
  intro H locs ls hl hP hD hS
  obtain ⟨q, hq⟩ := hh.at
  exact va_put hx hb hG f2 ty0 f6 f7 hown hK hP hD hS q hq f1 j f3 (hG _ f4) (FA.same (own := own) (idx := idx) (ci := ci) (C := CC) hG f5) f8 f9 hn hf (Nat.le_of_ble_eq_true hj) hd (fun H1 locs1 hP1 hD1 hS1 => kk _ rfl H1 locs1 ls hl (by rw [← hh.set hD hq]; exact hP1) (by rw [← hh.set hD hq]; exact hD1) hS1)
theorem j_putF {idx ci j a : Nat} {ty : FieldType} {fs fs' : List Value} {v : Value} (C : Cx κ cc nL own "<init>" lev) (hd : decode cc pc = .ok (.putfield idx, 3)) (hp : pc + 3 = pc') (F : FA own idx ci j true ty) (hh : has σ a (.inr (ci, fs))) (hn : narrow ty v = v) (hf : fits ty v = true) (hfs : fs.set j v = fs') (hj : Nat.blt j fs.length = true) (kk : ∀ σ' : Wd, σ' = put σ a (.inr (ci, fs')) → J κ σ' lv pc' st k n) : J κ σ lv pc (v :: .ref a :: st) k n := by
  obtain ⟨⟨hx, hb, -, -⟩, ⟨hown, hin, -, -⟩, hG, hK, -⟩ := C
  obtain ⟨CC, T, N, ref, ty0, f1, f2, f3, f4, f5, f6, f7, f8, f9, f10⟩ := F
  subst hp hfs
  intro H locs ls hl hP hD hS
  obtain ⟨q, hq⟩ := hh.at
  exact va_putF hx hb hG f2 ty0 f6 f7 hown hK hP hD hS q hq f1 j f3 (hG _ f4) (FA.same (own := own) (idx := idx) (ci := ci) (C := CC) hG f5) f8 hin (f10 rfl) f9 hn hf (Nat.le_of_ble_eq_true hj) hd (fun H1 locs1 hP1 hD1 hS1 => kk _ rfl H1 locs1 ls hl (by rw [← hh.set hD hq]; exact hP1) (by rw [← hh.set hD hq]; exact hD1) hS1)
theorem j_new {idx ci N : Nat} {fs : List Value} (C : Cx κ cc nL own nm lev) (hd : decode cc pc = .ok (.new idx, 3)) (hp : pc + 3 = pc') (F : NA own idx ci N fs) (hk : k + 1 ≤ (kR κ).cells) (hn : n + N ≤ (kR κ).slots) {k' n' : Nat} (hk' : k + 1 = k') (hn' : n + N = n') (kk : ∀ (q : Nat) (σ' : Wd), q ∉ σ.1 → σ' = wnew σ q (.inr (ci, fs)) → J κ σ' lv pc' (.ref q :: st) k' n') : J κ σ lv pc st k n := by
  obtain ⟨⟨hx, hb, -, -⟩, ⟨hown, -, -, -⟩, hG, hK, -, hA, -⟩ := C
  obtain ⟨CC, T, ty0, f1, f2, f3, f4, f5, f6, f7⟩ := F
  subst hp
  intro H locs ls hl hP hD hS
  refine va_new hx hb hG f2 ty0 f3 hown (hG _ f4) (hG _ f5) (hG _ f6) hK hP hD hS hA f1 f7 hk hn hd (fun q H1 hP1 hD1 hS1 => ?_)
  have hq : q ∉ σ.1 := va_pl_fresh2 (X := []) hD1
  subst hk' hn'
  exact kk q _ hq rfl H1 locs ls hl (by rw [← has.push hq]; exact hP1) (by rw [← has.push hq]; exact hD1) hS1
theorem k_cy {κ : Kx} {i : Nat} {cA : ClassId} {ty : FieldType} {tys : List (ClassId × FieldType)} (hK : va_K (kD κ) vwc (tyz (kc κ)) (kS κ)) (h : va_K (kD κ) vwc (tys ++ [(cA, ty)]) (kS κ)) (hi : (tyz (kc κ))[i]? = some (kc κ i, ty)) (hc : ∀ C, ty = .object C → C = "java/lang/Object") : cA = kc κ i := by
  have h1 := (h.2 tys.length (cA, ty) (by rw [List.getElem?_append_right (Nat.le_refl _), Nat.sub_self]; rfl)).2
  have h2 := (hK.2 i _ hi).2
  cases ty with
  | object C =>
    obtain ⟨-, -, -, -, -, g1⟩ := h1
    obtain ⟨-, -, -, -, -, g2⟩ := h2
    exact Option.some.inj (g1.symm.trans g2)
  | _ => exact Option.some.inj (h1.symm.trans h2)

theorem j_iald {a m : Nat} {g : Nat → Int} {z y : Int} (C : Cx κ cc nL own nm lev) (hd : decode cc pc = .ok (.iaload, 1)) (hp : pc + 1 = pc') (hh : has σ a (iA (kc κ) m g)) (hz : 0 ≤ z ∧ z < (m : Int)) (hm : z < 2147483648) (hy : g z.toNat = y) (kk : J κ σ lv pc' (vi y :: st) k n) : J κ σ lv pc (vi z :: .ref a :: st) k n := by
  obtain ⟨⟨hx, hb, -, -⟩, ⟨hown, -, -, -⟩, hG, hK, -⟩ := C
  subst hp hy
  intro H locs ls hl hP hD hS
  obtain ⟨q, hq⟩ := hh.at
  refine va_iald hx hb hK hP q 2 hq rfl (z_in hz hm) hd ?_
  rw [z_cl ⟨by omega, hm⟩]
  exact kk H locs ls hl hP hD hS
theorem j_bald {a m : Nat} {g : Nat → Int} {z y : Int} (C : Cx κ cc nL own nm lev) (hd : decode cc pc = .ok (.baload, 1)) (hp : pc + 1 = pc') (hh : has σ a (bA (kc κ) m g)) (hz : 0 ≤ z ∧ z < (m : Int)) (hm : z < 2147483648) (hy : g z.toNat = y) (kk : J κ σ lv pc' (vi y :: st) k n) : J κ σ lv pc (vi z :: .ref a :: st) k n := by
  obtain ⟨⟨hx, hb, -, -⟩, ⟨hown, -, -, -⟩, hG, hK, -⟩ := C
  subst hp hy
  intro H locs ls hl hP hD hS
  obtain ⟨q, hq⟩ := hh.at
  refine va_bald hx hb hK hP q 0 hq rfl (z_in hz hm) hd ?_
  rw [z_cl ⟨by omega, hm⟩]
  exact kk H locs ls hl hP hD hS
theorem j_ald {a m : Nat} {f : Nat → Option Nat} {z : Int} {v : Value} (C : Cx κ cc nL own nm lev) (hd : decode cc pc = .ok (.aaload, 1)) (hp : pc + 1 = pc') (hh : has σ a (oA (kc κ) m f)) (hz : 0 ≤ z ∧ z < (m : Int)) (hm : z < 2147483648) (hy : va_rf (f z.toNat) = v) (kk : J κ σ lv pc' (v :: st) k n) : J κ σ lv pc (vi z :: .ref a :: st) k n := by
  obtain ⟨⟨hx, hb, -, -⟩, ⟨hown, -, -, -⟩, hG, hK, -⟩ := C
  subst hp hy
  intro H locs ls hl hP hD hS
  obtain ⟨q, hq⟩ := hh.at
  refine va_aldq hx hb hK hP q 4 hq rfl (z_in hz hm) hd ?_
  rw [z_cl ⟨by omega, hm⟩]
  exact kk H locs ls hl hP hD hS
theorem j_iast {a m : Nat} {g : Nat → Int} {z x : Int} (C : Cx κ cc nL own nm lev) (hd : decode cc pc = .ok (.iastore, 1)) (hp : pc + 1 = pc') (hh : has σ a (iA (kc κ) m g)) (hz : 0 ≤ z ∧ z < (m : Int)) (hm : z < 2147483648) (kk : ∀ σ' : Wd, σ' = put σ a (iA (kc κ) m (ups g z.toNat x)) → J κ σ' lv pc' st k n) : J κ σ lv pc (vi x :: vi z :: .ref a :: st) k n := by
  obtain ⟨⟨hx, hb, -, -⟩, ⟨hown, -, -, -⟩, hG, hK, -⟩ := C
  subst hp
  intro H locs ls hl hP hD hS
  obtain ⟨q, hq⟩ := hh.at
  refine va_iast hx hb hK hP hD hS q 2 hq rfl (z_in hz hm) hd (fun H1 locs1 hP1 hD1 hS1 => ?_)
  rw [z_cl ⟨by omega, hm⟩, upd_ups] at hP1 hD1
  exact kk _ rfl H1 locs1 ls hl (by rw [← hh.set hD hq]; exact hP1) (by rw [← hh.set hD hq]; exact hD1) hS1
theorem j_bast {a m : Nat} {g : Nat → Int} {z x : Int} (C : Cx κ cc nL own nm lev) (hd : decode cc pc = .ok (.bastore, 1)) (hp : pc + 1 = pc') (hh : has σ a (bA (kc κ) m g)) (hz : 0 ≤ z ∧ z < (m : Int)) (hm : z < 2147483648) (hx9 : vp_nar .byte (Int32.ofInt x) = Int32.ofInt x) (kk : ∀ σ' : Wd, σ' = put σ a (bA (kc κ) m (ups g z.toNat x)) → J κ σ' lv pc' st k n) : J κ σ lv pc (vi x :: vi z :: .ref a :: st) k n := by
  obtain ⟨⟨hx, hb, -, -⟩, ⟨hown, -, -, -⟩, hG, hK, -⟩ := C
  subst hp
  intro H locs ls hl hP hD hS
  obtain ⟨q, hq⟩ := hh.at
  refine va_bast hx hb hK hP hD hS q 0 hq rfl (z_in hz hm) hd (fun H1 locs1 hP1 hD1 hS1 => ?_)
  rw [z_cl ⟨by omega, hm⟩, hx9, upd_ups] at hP1 hD1
  exact kk _ rfl H1 locs1 ls hl (by rw [← hh.set hD hq]; exact hP1) (by rw [← hh.set hD hq]; exact hD1) hS1
theorem j_last {a m : Nat} {g : Nat → Int} {z x : Int} (C : Cx κ cc nL own nm lev) (hd : decode cc pc = .ok (.lastore, 1)) (hp : pc + 1 = pc') (hh : has σ a (lA (kc κ) m g)) (hz : 0 ≤ z ∧ z < (m : Int)) (hm : z < 2147483648) (kk : ∀ σ' : Wd, σ' = put σ a (lA (kc κ) m (ups g z.toNat x)) → J κ σ' lv pc' st k n) : J κ σ lv pc (vl x :: vi z :: .ref a :: st) k n := by
  obtain ⟨⟨hx, hb, -, -⟩, ⟨hown, -, -, -⟩, hG, hK, -⟩ := C
  subst hp
  intro H locs ls hl hP hD hS
  obtain ⟨q, hq⟩ := hh.at
  refine va_last hx hb hK hP hD hS q 5 hq rfl (z_in hz hm) hd (fun H1 locs1 hP1 hD1 hS1 => ?_)
  rw [z_cl ⟨by omega, hm⟩, updL_ups] at hP1 hD1
  exact kk _ rfl H1 locs1 ls hl (by rw [← hh.set hD hq]; exact hP1) (by rw [← hh.set hD hq]; exact hD1) hS1
theorem j_aast {a m v ci : Nat} {f : Nat → Option Nat} {fs : List Value} {z : Int} {r : vw_C} (C : Cx κ cc nL own nm lev) (hd : decode cc pc = .ok (.aastore, 1)) (hp : pc + 1 = pc') (hh : has σ a (oA (kc κ) m f)) (hv : has σ v (.inr (ci, fs))) (hc : vwc[ci]? = some r) (hany : ∀ (s : State) (cl comp : ClassId), s = kS κ → s.vm.findClass r.1 = some cl → s.vm.findClass "java/lang/Object" = some comp → s.vm.assignable cl comp = true) (hz : 0 ≤ z ∧ z < (m : Int)) (hm : z < 2147483648) (kk : ∀ σ' : Wd, σ' = put σ a (oA (kc κ) m (va_up f z.toNat (some v))) → J κ σ' lv pc' st k n) : J κ σ lv pc (.ref v :: vi z :: .ref a :: st) k n := by
  obtain ⟨⟨hx, hb, -, -⟩, ⟨hown, -, -, -⟩, hG, hK, -⟩ := C
  subst hp
  intro H locs ls hl hP hD hS
  obtain ⟨q, hq⟩ := hh.at
  obtain ⟨q2, hq2⟩ := hv.at
  obtain ⟨cell, g1, g2, g3⟩ := va_recv hK hP hc hq2
  have hr : va_Any "java/lang/Object" (kS κ) H v := by
    obtain ⟨kk9, hkk9, -⟩ := Vm.findClass_spec g3
    exact ⟨cell, g1, g2, ⟨kk9, hkk9⟩, fun comp hcomp => hany _ _ _ rfl g3 hcomp⟩
  refine va_astqM hx hb hK hP hD hS q 4 hq rfl hr (z_in hz hm) hd (fun H1 locs1 hP1 hD1 hS1 => ?_)
  rw [z_cl ⟨by omega, hm⟩] at hP1 hD1
  exact kk _ rfl H1 locs1 ls hl (by rw [← hh.set hD hq]; exact hP1) (by rw [← hh.set hD hq]; exact hD1) hS1
theorem j_alen {a i m : Nat} {ty : FieldType} {x : (Nat → Int32) ⊕ (Nat → Int64) ⊕ (Nat → UInt32) ⊕ (Nat → UInt64) ⊕ (Nat → Option Nat)} (C : Cx κ cc nL own nm lev) (hd : decode cc pc = .ok (.arraylength, 1)) (hp : pc + 1 = pc') (hi : (tyz (kc κ))[i]? = some (kc κ i, ty)) (hh : has σ a (.inl (kc κ i, m, x))) (kk : J κ σ lv pc' (vi m :: st) k n) : J κ σ lv pc (.ref a :: st) k n := by
  obtain ⟨⟨hx, hb, -, -⟩, ⟨hown, -, -, -⟩, hG, hK, -⟩ := C
  subst hp
  intro H locs ls hl hP hD hS
  obtain ⟨q, hq⟩ := hh.at
  exact va_alen hx hb hK hP q i hq hi (v := Int32.ofInt m) (Int32.ofInt_eq_ofNat).symm hd (kk H locs ls hl hP hD hS)

theorem j_newI {z : Int} (C : Cx κ cc nL own nm lev) (hd : decode cc pc = .ok (.newarray .int, 2)) (hp : pc + 2 = pc') (hw : Cond.arrayClass .int ∈ lw_g) (hz : 0 ≤ z ∧ z ≤ 67108864) (hk : k + 1 ≤ (kR κ).cells) (hn : n + z.toNat ≤ (kR κ).slots) {k' n' : Nat} (hk' : k + 1 = k') (hn' : n + z.toNat = n') (kk : ∀ (q : Nat) (σ' : Wd), q ∉ σ.1 → σ' = wnew σ q (iA (kc κ) z.toNat (fun _ => 0)) → J κ σ' lv pc' (.ref q :: st) k' n') : J κ σ lv pc (vi z :: st) k n := by
  obtain ⟨⟨hx, hb, -, -⟩, ⟨hown, -, -, -⟩, hG, hK, -, hA, -⟩ := C
  subst hp
  intro H locs ls hl hP hD hS
  refine va_newa (atype := .int) (a0 := (z.toNat, .inl (fun _ => 0))) hx hb (hG _ hw) rfl hK hP hD hS hA (fun _ => rfl) (fun q => by rw [← z_0, z_lt ⟨by omega, by omega⟩ ⟨by omega, by omega⟩] at q; omega) (z_cl ⟨by omega, by omega⟩) (by show z.toNat * 4 ≤ 536870912; omega) hk hn hd (fun q cA9 H1 hK1 hP1 hD1 hS1 => ?_)
  have hcy := k_cy (i := 2) hK hK1 rfl (fun _ h => by cases h)
  subst hcy
  have hq : q ∉ σ.1 := va_pl_fresh2 (X := []) hD1
  subst hk' hn'
  exact kk q _ hq rfl H1 locs ls hl (by rw [← has.push hq]; exact hP1) (by rw [← has.push hq]; exact hD1) hS1
theorem j_newB {z : Int} (C : Cx κ cc nL own nm lev) (hd : decode cc pc = .ok (.newarray .byte, 2)) (hp : pc + 2 = pc') (hw : Cond.arrayClass .byte ∈ lw_g) (hz : 0 ≤ z ∧ z ≤ 67108864) (hk : k + 1 ≤ (kR κ).cells) (hn : n + z.toNat ≤ (kR κ).slots) {k' n' : Nat} (hk' : k + 1 = k') (hn' : n + z.toNat = n') (kk : ∀ (q : Nat) (σ' : Wd), q ∉ σ.1 → σ' = wnew σ q (bA (kc κ) z.toNat (fun _ => 0)) → J κ σ' lv pc' (.ref q :: st) k' n') : J κ σ lv pc (vi z :: st) k n := by
  obtain ⟨⟨hx, hb, -, -⟩, ⟨hown, -, -, -⟩, hG, hK, -, hA, -⟩ := C
  subst hp
  intro H locs ls hl hP hD hS
  refine va_newa (atype := .byte) (a0 := (z.toNat, .inl (fun _ => 0))) hx hb (hG _ hw) rfl hK hP hD hS hA (fun _ => rfl) (fun q => by rw [← z_0, z_lt ⟨by omega, by omega⟩ ⟨by omega, by omega⟩] at q; omega) (z_cl ⟨by omega, by omega⟩) (by show z.toNat * 1 ≤ 536870912; omega) hk hn hd (fun q cA9 H1 hK1 hP1 hD1 hS1 => ?_)
  have hcy := k_cy (i := 0) hK hK1 rfl (fun _ h => by cases h)
  subst hcy
  have hq : q ∉ σ.1 := va_pl_fresh2 (X := []) hD1
  subst hk' hn'
  exact kk q _ hq rfl H1 locs ls hl (by rw [← has.push hq]; exact hP1) (by rw [← has.push hq]; exact hD1) hS1
theorem j_newL {z : Int} (C : Cx κ cc nL own nm lev) (hd : decode cc pc = .ok (.newarray .long, 2)) (hp : pc + 2 = pc') (hw : Cond.arrayClass .long ∈ lw_g) (hz : 0 ≤ z ∧ z ≤ 67108864) (hk : k + 1 ≤ (kR κ).cells) (hn : n + z.toNat ≤ (kR κ).slots) {k' n' : Nat} (hk' : k + 1 = k') (hn' : n + z.toNat = n') (kk : ∀ (q : Nat) (σ' : Wd), q ∉ σ.1 → σ' = wnew σ q (lA (kc κ) z.toNat (fun _ => 0)) → J κ σ' lv pc' (.ref q :: st) k' n') : J κ σ lv pc (vi z :: st) k n := by
  obtain ⟨⟨hx, hb, -, -⟩, ⟨hown, -, -, -⟩, hG, hK, -, hA, -⟩ := C
  subst hp
  intro H locs ls hl hP hD hS
  refine va_newa (atype := .long) (a0 := (z.toNat, .inr (.inl (fun _ => 0)))) hx hb (hG _ hw) rfl hK hP hD hS hA (fun _ => rfl) (fun q => by rw [← z_0, z_lt ⟨by omega, by omega⟩ ⟨by omega, by omega⟩] at q; omega) (z_cl ⟨by omega, by omega⟩) (by show z.toNat * 8 ≤ 536870912; omega) hk hn hd (fun q cA9 H1 hK1 hP1 hD1 hS1 => ?_)
  have hcy := k_cy (i := 5) hK hK1 rfl (fun _ h => by cases h)
  subst hcy
  have hq : q ∉ σ.1 := va_pl_fresh2 (X := []) hD1
  subst hk' hn'
  exact kk q _ hq rfl H1 locs ls hl (by rw [← has.push hq]; exact hP1) (by rw [← has.push hq]; exact hD1) hS1
theorem j_newO {z : Int} {idx : Nat} (C : Cx κ cc nL own nm lev) (hd : decode cc pc = .ok (.anewarray idx, 3)) (hp : pc + 3 = pc') (hw : Cond.classLink own idx "java/lang/Object" ∈ lw_g) (hz : 0 ≤ z ∧ z ≤ 67108864) (hk : k + 1 ≤ (kR κ).cells) (hn : n + z.toNat ≤ (kR κ).slots) {k' n' : Nat} (hk' : k + 1 = k') (hn' : n + z.toNat = n') (kk : ∀ (q : Nat) (σ' : Wd), q ∉ σ.1 → σ' = wnew σ q (oA (kc κ) z.toNat (fun _ => none)) → J κ σ' lv pc' (.ref q :: st) k' n') : J κ σ lv pc (vi z :: st) k n := by
  obtain ⟨⟨hx, hb, -, -⟩, ⟨hown, -, -, -⟩, hG, hK, hGo, hA, -⟩ := C
  subst hp
  intro H locs ls hl hP hD hS
  refine va_newq hx hb hown (hG _ hw) hGo.2.2.2.2.1 hK hP hD hS hA (N' := z.toNat) (fun q => by rw [← z_0, z_lt ⟨by omega, by omega⟩ ⟨by omega, by omega⟩] at q; omega) (z_cl ⟨by omega, by omega⟩) (by omega) hk hn hd (fun q cA9 H1 hK1 hP1 hD1 hS1 => ?_)
  have hcy := k_cy (i := 4) hK hK1 rfl (fun _ h => by cases h; rfl)
  subst hcy
  have hq : q ∉ σ.1 := va_pl_fresh2 (X := []) hD1
  subst hk' hn'
  exact kk q _ hq rfl H1 locs ls hl (by rw [← has.push hq]; exact hP1) (by rw [← has.push hq]; exact hD1) hS1
theorem j_min {a b z : Int} {idx : Nat} (C : Cx κ cc nL own nm lev) (hd : decode cc pc = .ok (.invokestatic idx, 3)) (hp : pc + 3 = pc') (hlk : Cond.methodLink own idx Lib.Math.min.name ∈ lw_g) (hst : Cond.static Lib.Math.min.name ∈ lw_g) (hin : Cond.initialized "java/lang/Math" ∈ lw_g) (hco : Cond.code Lib.Math.min.name Lib.Math.min.code 2 (some .int) ∈ lw_g) (hr : (st.map fun v => v.category).sum ≤ 40) (hk : k ≤ (kR κ).cells) (hn : n ≤ (kR κ).slots) (ra : -2147483648 ≤ a ∧ a < 2147483648) (rb : -2147483648 ≤ b ∧ b < 2147483648) (hm : min a b = z) (kk : J κ σ lv pc' (vi z :: st) k n) : J κ σ lv pc (vi b :: vi a :: st) k n := by
  obtain ⟨⟨hx, hb, hmx, hkn⟩, ⟨hown, -, -, -⟩, hG, hK, -, -, hf⟩ := C
  subst hp hm
  intro H locs ls hl hP hD hS
  refine va_mmin hx hb (by rw [hmx, ← hkn]; exact hl.1.symm) hown (hG _ hlk) (hG _ hst) (hG _ hin) (hG _ hco) (by omega) (by omega) hk hn hd ?_
  have e : (if Int32.ofInt b < Int32.ofInt a then Int32.ofInt b else Int32.ofInt a) = Int32.ofInt (min a b) := by
    by_cases h : b < a
    · rw [if_pos ((z_lt rb ra).mpr h), show min a b = b by omega]
    · rw [if_neg (fun q => h ((z_lt rb ra).mp q)), show min a b = a by omega]
  rw [e]
  exact kk H locs ls hl hP hD hS
theorem j_max {a b z : Int} {idx : Nat} (C : Cx κ cc nL own nm lev) (hd : decode cc pc = .ok (.invokestatic idx, 3)) (hp : pc + 3 = pc') (hlk : Cond.methodLink own idx Lib.Math.max.name ∈ lw_g) (hst : Cond.static Lib.Math.max.name ∈ lw_g) (hin : Cond.initialized "java/lang/Math" ∈ lw_g) (hco : Cond.code Lib.Math.max.name Lib.Math.max.code 2 (some .int) ∈ lw_g) (hr : (st.map fun v => v.category).sum ≤ 40) (hk : k ≤ (kR κ).cells) (hn : n ≤ (kR κ).slots) (ra : -2147483648 ≤ a ∧ a < 2147483648) (rb : -2147483648 ≤ b ∧ b < 2147483648) (hm : max a b = z) (kk : J κ σ lv pc' (vi z :: st) k n) : J κ σ lv pc (vi b :: vi a :: st) k n := by
  obtain ⟨⟨hx, hb, hmx, hkn⟩, ⟨hown, -, -, -⟩, hG, hK, -, -, hf⟩ := C
  subst hp hm
  intro H locs ls hl hP hD hS
  refine va_mmax hx hb (by rw [hmx, ← hkn]; exact hl.1.symm) hown (hG _ hlk) (hG _ hst) (hG _ hin) (hG _ hco) (by omega) (by omega) hk hn hd ?_
  have e : (if Int32.ofInt a < Int32.ofInt b then Int32.ofInt b else Int32.ofInt a) = Int32.ofInt (max a b) := by
    by_cases h : a < b
    · rw [if_pos ((z_lt ra rb).mpr h), show max a b = b by omega]
    · rw [if_neg (fun q => h ((z_lt ra rb).mp q)), show max a b = a by omega]
  rw [e]
  exact kk H locs ls hl hP hD hS
theorem j_chk {a ci idx : Nat} {fs : List Value} {r : vw_C} (C : Cx κ cc nL own nm lev) (hd : decode cc pc = .ok (.checkcast idx, 3)) (hp : pc + 3 = pc') (hh : has σ a (.inr (ci, fs))) (hc : vwc[ci]? = some r) (hlk : Cond.classLink own idx r.1 ∈ lw_g) (kk : J κ σ lv pc' (.ref a :: st) k n) : J κ σ lv pc (.ref a :: st) k n := by
  obtain ⟨⟨hx, hb, -, -⟩, ⟨hown, -, -, -⟩, hG, hK, -⟩ := C
  subst hp
  intro H locs ls hl hP hD hS
  obtain ⟨q, hq⟩ := hh.at
  obtain ⟨cell, g1, g2, g3⟩ := va_recv hK hP hc hq
  have hat := (hK.1 ci r hc).2
  exact va_castS hx hb hown (hG _ hlk) hat ⟨cell, g1, g2, g3⟩ hd (kk H locs ls hl hP hD hS)
theorem j_objInit {idx a : Nat} (C : Cx κ cc nL own nm lev) (hd : decode cc pc = .ok (.invokespecial idx, 3)) (hp : pc + 3 = pc') (hlk : Cond.methodLink own idx objectInit ∈ lw_g) (hin : Cond.instanceMethod objectInit ∈ lw_g) (hco : Cond.code objectInit ⟨#[0xb1]⟩ 1 none ∈ lw_g) (hr : (st.map fun v => v.category).sum ≤ 40) (kk : J κ σ lv pc' st k n) : J κ σ lv pc (.ref a :: st) k n := by
  obtain ⟨⟨hx, hb, hmx, hkn⟩, ⟨hown, -, -, -⟩, hG, hK, -, -, hf⟩ := C
  subst hp
  intro H locs ls hl hP hD hS
  have hh := kk H locs ls hl hP hD hS
  refine W.objInit hx hb hown (hG _ hlk) (hG _ hin) (hG _ hco) rfl (by rw [hmx, ← hkn]; exact hl.1) (rest := st) rfl hd (by omega) ?_ hh
  show 2 * 0 + _ + 12 ≤ _
  omega
/-- cells that nobody looks at any more -/
theorem j_sub {L : List Nat} (h : L.Sublist σ.1) (kk : J κ (L, σ.2) lv pc st k n) : J κ σ lv pc st k n := by
  intro H locs ls hl hP hD hS
  obtain ⟨d1, d2⟩ := wl_D.mp hD
  exact kk H locs ls hl (wl_P.mpr (fun a ha => wl_P.mp hP a (h.subset ha))) (wl_D.mpr ⟨h.nodup d1, fun a ha => d2 a (h.subset ha)⟩) hS
end HeapJ
/-- what isn't in F stays -/
def Keep (σ σ' : Wd) (F : Nat → Prop) : Prop := ∀ (a : Nat) (e : va_E), has σ a e → ¬ F a → has σ' a e
theorem Keep.rf {σ : Wd} {F : Nat → Prop} : Keep σ σ F := fun _ _ h _ => h
theorem Keep.tr {σ σ' σ2 : Wd} {F : Nat → Prop} (h1 : Keep σ σ' F) (h2 : Keep σ' σ2 F) : Keep σ σ2 F := fun a e h hn => h2 a e (h1 a e h hn) hn
theorem Keep.mono {σ σ' : Wd} {F G : Nat → Prop} (h : Keep σ σ' F) (hFG : ∀ a, F a → G a) : Keep σ σ' G := fun a e q hn => h a e q (fun z => hn (hFG a z))
theorem Keep.put {σ σ' σ2 : Wd} {F : Nat → Prop} {a : Nat} {x : va_E} (h : Keep σ σ' F) (e : σ2 = put σ' a x) (hF : F a) : Keep σ σ2 F := by
  subst e
  exact fun b y hb hn => (h b y hb hn).ne (fun q => hn (by rw [q]; exact hF))
theorem Keep.new {σ σ' σ2 : Wd} {F : Nat → Prop} {a : Nat} {x : va_E} (h : Keep σ σ' F) (e : σ2 = wnew σ' a x) (ha : a ∉ σ'.1) : Keep σ σ2 F := by
  subst e
  exact fun b y hb hn => (h b y hb hn).old ha
theorem has.self' {σ σ' : Wd} {a : Nat} {e0 x : va_E} (h : has σ a e0) (e : σ' = put σ a x) : has σ' a x := by
  subst e
  exact h.self
theorem has.ne' {σ σ' : Wd} {a b : Nat} {y x : va_E} (h : has σ b y) (e : σ' = put σ a x) (hn : b ≠ a) : has σ' b y := by
  subst e
  exact h.ne hn
theorem has.fresh' {σ σ' : Wd} {a : Nat} {x : va_E} (e : σ' = wnew σ a x) : has σ' a x := by
  subst e
  exact has.fresh
theorem has.old' {σ σ' : Wd} {a b : Nat} {y x : va_E} (h : has σ b y) (e : σ' = wnew σ a x) (hn : a ∉ σ.1) : has σ' b y := by
  subst e
  exact h.old hn
theorem dom_put {σ σ' : Wd} {a : Nat} {x : va_E} (e : σ' = put σ a x) : σ'.1 = σ.1 := by subst e; rfl
theorem dom_new {σ σ' : Wd} {a : Nat} {x : va_E} (e : σ' = wnew σ a x) : σ'.1 = σ.1 ++ [a] := by subst e; rfl
