/-! the law's entry -/
theorem st_arr {s : State} {b : Nat} {ty : FieldType} (h : (Cond.arrayClass ty).before #[Value.ref b] s = true) (hp : ∀ C, ty ≠ .object C) : ∃ cA : ClassId, ArrOfT s cA ty ∧ va_RA s cA ty := by
  obtain ⟨cA, kA, comp, h1, h2, h3⟩ := Cond.arrayClass_spec h
  refine ⟨cA, fun n z => ⟨fun k h => (by cases h), kA, h2, comp, h3⟩, ?_⟩
  cases ty with
  | object C => exact absurd rfl (hp C)
  | _ => exact h1
theorem st_obj {s : State} {b : Nat} {C : String} (h : (Cond.arrayOver (.object C)).before #[Value.ref b] s = true) : ∃ cA : ClassId, ArrOfT s cA (.object C) ∧ va_RA s cA (.object C) := by
  obtain ⟨comp, cA, kA, f1, -, f2, f3, f4⟩ := Cond.arrayOver_spec h
  exact ⟨cA, fun n z => ⟨fun k h => (by cases h), kA, f2, comp, f3⟩, kA, comp, f2, f3, f1, f4⟩
theorem st_sub {s : State} {args : Array Value} {C : String} {y z : MethodName} (hz : (Cond.selects C z z).before args s = true) (hyz : y.cls = z.cls) (hy : y.cls ≠ "java/lang/invoke/MethodHandle" ∧ y.cls ≠ "java/lang/invoke/VarHandle") (hpriv : (Cond.privateMethod y).before args s = true) (hinst : (Cond.instanceMethod y).before args s = true) : (Cond.selects C y y).before args s = true := by
  obtain ⟨mk, methM, hnamed, hmethM, -, -⟩ := Cond.instanceMethod_spec hinst
  have hfound : s.methodFound? y.cls y.name y.desc = some mk := State.methodFound?_of_named hnamed hy
  simp only [Cond.before, Cond.holds, Cond.value] at hz ⊢
  cases hc : s.vm.findClass C with
  | none => simp [hc] at hz
  | some c =>
    have hsel : selectMethod {} s.vm c mk = .method mk := selectMethod_private hmethM (Cond.privateMethod_at hpriv mk methM hnamed hmethM)
    cases hfz : s.methodFound? z.cls z.name z.desc with
    | none => simp [hc, hfz] at hz
    | some rz =>
      cases hnz : s.methodNamed? z with
      | none => simp [hc, hfz, hnz] at hz
      | some mz =>
        have hcls : mk.cls = mz.cls := Option.some.inj ((findClass_of_methodNamed hnamed).symm.trans (by rw [hyz]; exact findClass_of_methodNamed hnz))
        cases hs9 : selectMethod {} s.vm c rz with
        | method m9 =>
          simp [hc, hfz, hnz, hs9] at hz
          simp [hc, hfound, hnamed, hsel, hcls]
          exact hz.2
        | _ => simp [hc, hfz, hnz, hs9] at hz
theorem st_hG {s : State} {b : Nat} (hts : ∀ w ∈ lw_tbl, w.before #[Value.ref b] s = true) : ∀ w ∈ lw_g, w.before #[Value.ref b] s = true := by
  intro w hw
  rcases List.mem_append.mp (List.mem_filter.mp hw).1 with h | h
  · have hz : (Cond.selects RJ4 yJ5_isLatin1_aae02 yJ5_isLatin1_aae02).before #[Value.ref b] s = true := hts _ (by decide +kernel) -- any method of AbstractStringBuilder that the tables select on StringBuilder
    rcases List.mem_cons.mp h with h | h
    · subst h; exact st_sub hz rfl ⟨by decide +kernel, by decide +kernel⟩ (hts _ (by decide +kernel)) (hts _ (by decide +kernel))
    · rcases List.mem_cons.mp h with h | h
      · subst h; exact st_sub hz rfl ⟨by decide +kernel, by decide +kernel⟩ (hts _ (by decide +kernel)) (hts _ (by decide +kernel))
      · rcases List.mem_cons.mp h with h | h
        · subst h; exact st_sub hz rfl ⟨by decide +kernel, by decide +kernel⟩ (hts _ (by decide +kernel)) (hts _ (by decide +kernel))
        · rcases List.mem_cons.mp h with h | h
          · subst h; exact st_sub hz rfl ⟨by decide +kernel, by decide +kernel⟩ (hts _ (by decide +kernel)) (hts _ (by decide +kernel))
          · cases h
  · exact hts w h
theorem st_k {s : State} {b : Nat} (hts : ∀ w ∈ lw_tbl, w.before #[Value.ref b] s = true) (hG : ∀ w ∈ lw_g, w.before #[Value.ref b] s = true) (t0 mi sc k0 k1 v0 v1 : Nat) : ∃ (D : va_G) (cy : Nat → Nat), cy 7 = t0 ∧ cy 8 = mi ∧ cy 9 = sc ∧ cy 10 = k0 ∧ cy 11 = k1 ∧ cy 12 = v0 ∧ cy 13 = v1 ∧ va_K D vwc (tyz cy) s := by
  obtain ⟨c0, iS0, hKn0⟩ := u_known (C := RX0) (T := TX0) (N := 9) (n := 9) hG cin_0 (hG _ (tm_1 (w := Cond.instantiable RX0 9) 139 rfl rfl))
  obtain ⟨c1, iS1, hKn1⟩ := u_known (C := RX1) (T := TX1) (N := 3) (n := 3) hG cin_1 (hG _ (tm_5 (w := Cond.instantiable RX1 3) 176 rfl rfl))
  obtain ⟨c2, iS2, hKn2⟩ := u_known (C := RX2) (T := TX2) (N := 7) (n := 7) hG cin_2 (hG _ (tm_2 (w := Cond.instantiable RX2 7) 125 rfl rfl))
  obtain ⟨c3, iS3, hKn3⟩ := u_known (C := RX3) (T := TX3) (N := 7) (n := 7) hG cin_3 (hG _ (tm_2 (w := Cond.instantiable RX3 7) 225 rfl rfl))
  obtain ⟨c4, iS4, hKn4⟩ := u_known (C := RX4) (T := TX4) (N := 5) (n := 5) hG cin_4 (hG _ (tm_5 (w := Cond.instantiable RX4 5) 47 rfl rfl))
  obtain ⟨c5, iS5, hKn5⟩ := u_known (C := RX5) (T := TX5) (N := 3) (n := 3) hG cin_5 (hG _ (tm_5 (w := Cond.instantiable RX5 3) 30 rfl rfl))
  obtain ⟨c6, iS6, hKn6⟩ := u_known (C := RX6) (T := TX6) (N := 8) (n := 8) hG cin_6 (hG _ (tm_2 (w := Cond.instantiable RX6 8) 118 rfl rfl))
  obtain ⟨c7, iS7, hKn7⟩ := u_known (C := RX5) (T := TX5) (N := 3) (n := 3) hG cin_7 (hG _ (tm_5 (w := Cond.instantiable RX5 3) 30 rfl rfl))
  obtain ⟨c8, iS8, hKn8⟩ := u_known (C := RJ4) (T := TJ4) (N := 4) (n := 4) hG cin_8 (hG _ (tm_3 (w := Cond.instantiable RJ4 4) 165 rfl rfl))
  obtain ⟨c9, iS9, hKn9⟩ := u_known (C := RJx4a65c) (T := TJx4a65c) (N := 3) (n := 3) hG cin_9 (hG _ (tm_1 (w := Cond.instantiable RJx4a65c 3) 187 rfl rfl))
  obtain ⟨y0, ha0, hb0⟩ := st_arr (hG _ aw_byte) (fun C h => by cases h)
  obtain ⟨y2, ha2, hb2⟩ := st_arr (hG _ aw_int) (fun C h => by cases h)
  obtain ⟨y5, ha5, hb5⟩ := st_arr (hG _ aw_long) (fun C h => by cases h)
  obtain ⟨y4, ha4, hb4⟩ := st_obj (C := "java/lang/Object") (hts _ (by decide +kernel))
  refine ⟨(fun k => match k with | 0 => c0 | 1 => c1 | 2 => c2 | 3 => c3 | 4 => c4 | 5 => c5 | 6 => c6 | 7 => c7 | 8 => c8 | _ => c9, fun k => match k with | 0 => iS0 | 1 => iS1 | 2 => iS2 | 3 => iS3 | 4 => iS4 | 5 => iS5 | 6 => iS6 | 7 => iS7 | 8 => iS8 | _ => iS9), fun k => match k with | 0 => y0 | 1 => y0 | 2 => y2 | 3 => y2 | 4 => y4 | 5 => y5 | 6 => y5 | 7 => t0 | 8 => mi | 9 => sc | 10 => k0 | 11 => k1 | 12 => v0 | _ => v1, rfl, rfl, rfl, rfl, rfl, rfl, rfl, ?_, ?_⟩
  · intro k q hq
    match k, hq with
    | 0, hq => cases hq; exact hKn0
    | 1, hq => cases hq; exact hKn1
    | 2, hq => cases hq; exact hKn2
    | 3, hq => cases hq; exact hKn3
    | 4, hq => cases hq; exact hKn4
    | 5, hq => cases hq; exact hKn5
    | 6, hq => cases hq; exact hKn6
    | 7, hq => cases hq; exact hKn7
    | 8, hq => cases hq; exact hKn8
    | 9, hq => cases hq; exact hKn9
    | k + 10, hq => simp [vwc] at hq
  · intro k q hq
    match k, hq with
    | 0, hq => cases hq; exact ⟨ha0, hb0⟩
    | 1, hq => cases hq; exact ⟨ha0, hb0⟩
    | 2, hq => cases hq; exact ⟨ha2, hb2⟩
    | 3, hq => cases hq; exact ⟨ha2, hb2⟩
    | 4, hq => cases hq; exact ⟨ha4, hb4⟩
    | 5, hq => cases hq; exact ⟨ha5, hb5⟩
    | k + 6, hq => simp [tyz] at hq
