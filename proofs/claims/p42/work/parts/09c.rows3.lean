/-! ROWS over J: statics, arraycopy, class objects -/
section Rows3J
variable {κ : Kx} {cc : ByteArray} {nL : Nat} {own nm : String} {lev : Nat} {σ : Wd} {lv lv' : List (Nat × Value)} {pc pc' tgt : Nat} {st : List Value} {k n : Nat}
theorem Cx.go (C : Cx κ cc nL own nm lev) : Go (kc κ 7) (kc κ 8) (kc κ) (kA κ) (kS κ) (kS κ).heap := C.2.2.2.2.1
theorem j_gets {Cn d nf : String} {v : Value} {idx : Nat} (C : Cx κ cc nL own nm lev) (hd : decode cc pc = .ok (.getstatic idx, 3)) (hp : pc + 3 = pc') (hlk : Cond.fieldLink own idx Cn nf d ∈ lw_g) (hZ : va_Z Cn nf d v (kA κ) (kS κ) (kS κ).heap) (kk : J κ σ lv pc' (v :: st) k n) : J κ σ lv pc st k n := by
  obtain ⟨⟨hx, hb, hmx, hkn⟩, ⟨hown, -, -, -⟩, hG, hK, -⟩ := C
  subst hp
  intro H locs ls hl hP hD hS
  exact va_gets hx hb hZ hS hown (hG _ hlk) (fun _ h => h) hd (kk H locs ls hl hP hD hS)
theorem j_tbald {t N : Nat} {f : Nat → Value} {z : Int} {v : Value} (C : Cx κ cc nL own nm lev) (hd : decode cc pc = .ok (.baload, 1)) (hp : pc + 1 = pc') (hT : va_T .byte t N f (kA κ) (kS κ) (kS κ).heap) (hz : 0 ≤ z ∧ z < (N : Int)) (hm : z < 2147483648) (hy : f z.toNat = v) (kk : J κ σ lv pc' (v :: st) k n) : J κ σ lv pc (vi z :: .ref t :: st) k n := by
  obtain ⟨⟨hx, hb, hmx, hkn⟩, ⟨hown, -, -, -⟩, hG, hK, -⟩ := C
  subst hp
  intro H locs ls hl hP hD hS
  exact va_tb hx hb hT hS (z_in hz hm) (by rw [z_cl ⟨by omega, hm⟩]; exact hy) hd (kk H locs ls hl hP hD hS)
theorem j_tlen {t N : Nat} {ty : FieldType} {f : Nat → Value} (C : Cx κ cc nL own nm lev) (hd : decode cc pc = .ok (.arraylength, 1)) (hp : pc + 1 = pc') (hT : va_T ty t N f (kA κ) (kS κ) (kS κ).heap) (kk : J κ σ lv pc' (vi N :: st) k n) : J κ σ lv pc (.ref t :: st) k n := by
  obtain ⟨⟨hx, hb, hmx, hkn⟩, ⟨hown, -, -, -⟩, hG, hK, -⟩ := C
  subst hp
  intro H locs ls hl hP hD hS
  exact va_tlen hx hb hT hS (v := Int32.ofInt N) (Int32.ofInt_eq_ofNat).symm hd (kk H locs ls hl hP hD hS)
theorem asgO {s : State} {args : Array Value} (hG : ∀ w ∈ lw_g, w.before args s = true) {Cn : String} (hw : Cond.castable Cn "java/lang/Object" ∈ lw_g) (comp c0 : ClassId) (h1 : s.vm.findClass "java/lang/Object" = some comp) (h2 : s.vm.findClass Cn = some c0) : s.vm.assignable c0 comp = true := by
  obtain ⟨x, t1, f1, f2, f3⟩ := Cond.castable_spec (hG _ hw)
  cases h2.symm.trans f1
  cases h1.symm.trans f2
  exact f3
theorem j_copyO {a0 a1 n0 n1 idx : Nat} {f g : Nat → Option Nat} {sp dp nn : Int} (C : Cx κ cc nL own nm lev) (hd : decode cc pc = .ok (.invokestatic idx, 3)) (hp : pc + 3 = pc') (hlk : Cond.methodLink own idx arraycopyName ∈ lw_g) (hnat : Cond.native arraycopyName ∈ lw_g) (hst : Cond.static arraycopyName ∈ lw_g) (hin : Cond.initialized "java/lang/System" ∈ lw_g) (h0 : has σ a0 (oA (kc κ) n0 f)) (h1 : has σ a1 (oA (kc κ) n1 g)) (r : 0 ≤ sp ∧ 0 ≤ dp ∧ 0 ≤ nn) (rr : sp + nn ≤ (n0 : Int) ∧ dp + nn ≤ (n1 : Int)) (rm : n0 < 2147483648 ∧ n1 < 2147483648) (hel : ∀ i : Nat, i < nn.toNat → ∀ y : Nat, f (sp.toNat + i) = some y → ∃ (ci : Nat) (fs : List Value) (r : vw_C), has σ y (.inr (ci, fs)) ∧ vwc[ci]? = some r ∧ Cond.castable r.1 "java/lang/Object" ∈ lw_g) (hr : (st.map fun v => v.category).sum ≤ 40) (kk : ∀ σ' : Wd, σ' = put σ a1 (oA (kc κ) n1 (va_cpy f g sp.toNat dp.toNat nn.toNat)) → J κ σ' lv pc' st k n) : J κ σ lv pc (vi nn :: vi dp :: .ref a1 :: vi sp :: .ref a0 :: st) k n := by
  obtain ⟨⟨hx, hb, hmx, hkn⟩, ⟨hown, -, -, -⟩, hG, hK, -, -, hf⟩ := C
  subst hp
  intro H locs ls hl hP hD hS
  obtain ⟨q0, hq0⟩ := h0.at
  obtain ⟨q1, hq1⟩ := h1.at
  have e9 : nativeFrameWords "java/lang/System" "arraycopy" 5 + 11 ≤ 100 := by decide
  have neg : ∀ z : Int, 0 ≤ z → z < 2147483648 → ¬ Int32.ofInt z < 0 := fun z z0 z1 q => by
    rw [← z_0, z_lt ⟨by omega, z1⟩ ⟨by omega, by omega⟩] at q
    omega
  refine va_copyM hx hb (by rw [hmx, ← hkn]; exact hl.1.symm) hown (hG _ hlk) (hG _ hnat) (hG _ hst) (hG _ hin) hK hP hD hS q0 q1 4 4 hq0 hq1 rfl rfl (neg sp r.1 (by omega)) (neg dp r.2.1 (by omega)) (neg nn r.2.2 (by omega)) (by rw [z_cl ⟨by omega, by omega⟩, z_cl ⟨by omega, by omega⟩]; omega) (by rw [z_cl ⟨by omega, by omega⟩, z_cl ⟨by omega, by omega⟩]; omega) ?_ (by omega) (by omega) hd ?_
  · intro i hi y hy
    rw [z_cl ⟨by omega, by omega⟩] at hi hy
    obtain ⟨ci, fs, r9, g1, g2, g3⟩ := hel i hi y hy
    obtain ⟨q9, hq9⟩ := g1.at
    exact va_rAny hK hP hq9 g2 (asgO hG g3)
  · intro H1 locs1 hP1 hD1 hS1
    rw [z_cl ⟨by omega, by omega⟩, z_cl ⟨by omega, by omega⟩, z_cl ⟨by omega, by omega⟩] at hP1 hD1
    exact kk _ rfl H1 locs1 ls hl (by rw [← h1.set hD hq1]; exact hP1) (by rw [← h1.set hD hq1]; exact hD1) hS1
theorem j_copyB {a0 a1 n0 n1 idx : Nat} {f g : Nat → Int} {sp dp nn : Int} (C : Cx κ cc nL own nm lev) (hd : decode cc pc = .ok (.invokestatic idx, 3)) (hp : pc + 3 = pc') (hlk : Cond.methodLink own idx arraycopyName ∈ lw_g) (hnat : Cond.native arraycopyName ∈ lw_g) (hst : Cond.static arraycopyName ∈ lw_g) (hin : Cond.initialized "java/lang/System" ∈ lw_g) (h0 : has σ a0 (bA (kc κ) n0 f)) (h1 : has σ a1 (bA (kc κ) n1 g)) (r : 0 ≤ sp ∧ 0 ≤ dp ∧ 0 ≤ nn) (rr : sp + nn ≤ (n0 : Int) ∧ dp + nn ≤ (n1 : Int)) (rm : n0 < 2147483648 ∧ n1 < 2147483648) (hfit : ∀ i : Nat, i < nn.toNat → fits .byte (vi (f (sp.toNat + i))) = true) (hr : (st.map fun v => v.category).sum ≤ 40) (kk : ∀ σ' : Wd, σ' = put σ a1 (bA (kc κ) n1 (va_cpy f g sp.toNat dp.toNat nn.toNat)) → J κ σ' lv pc' st k n) : J κ σ lv pc (vi nn :: vi dp :: .ref a1 :: vi sp :: .ref a0 :: st) k n := by
  obtain ⟨⟨hx, hb, hmx, hkn⟩, ⟨hown, -, -, -⟩, hG, hK, -, -, hf⟩ := C
  subst hp
  intro H locs ls hl hP hD hS
  obtain ⟨q0, hq0⟩ := h0.at
  obtain ⟨q1, hq1⟩ := h1.at
  have e9 : nativeFrameWords "java/lang/System" "arraycopy" 5 + 11 ≤ 100 := by decide
  have neg : ∀ z : Int, 0 ≤ z → z < 2147483648 → ¬ Int32.ofInt z < 0 := fun z z0 z1 q => by
    rw [← z_0, z_lt ⟨by omega, z1⟩ ⟨by omega, by omega⟩] at q
    omega
  refine va_copyi hx hb (by rw [hmx, ← hkn]; exact hl.1.symm) hown (hG _ hlk) (hG _ hnat) (hG _ hst) (hG _ hin) hK hP hD hS q0 q1 0 0 (ty := .byte) hq0 hq1 rfl rfl rfl (neg sp r.1 (by omega)) (neg dp r.2.1 (by omega)) (neg nn r.2.2 (by omega)) (by rw [z_cl ⟨by omega, by omega⟩, z_cl ⟨by omega, by omega⟩]; omega) (by rw [z_cl ⟨by omega, by omega⟩, z_cl ⟨by omega, by omega⟩]; omega) ?_ (by omega) (by omega) hd ?_
  · intro i hi
    rw [z_cl ⟨by omega, by omega⟩] at hi ⊢
    exact hfit i hi
  · intro H1 locs1 hP1 hD1 hS1
    rw [z_cl ⟨by omega, by omega⟩, z_cl ⟨by omega, by omega⟩, z_cl ⟨by omega, by omega⟩] at hP1 hD1
    have e : (va_cpy (fun i => Int32.ofInt (f i)) (fun i => Int32.ofInt (g i)) sp.toNat dp.toNat nn.toNat) = fun i => Int32.ofInt (va_cpy f g sp.toNat dp.toNat nn.toNat i) := by
      funext i
      unfold va_cpy
      split <;> rfl
    rw [e] at hP1 hD1
    exact kk _ rfl H1 locs1 ls hl (by rw [← h1.set hD hq1]; exact hP1) (by rw [← h1.set hD hq1]; exact hD1) hS1
abbrev gCn : MethodName := ⟨"java/lang/Object", "getClass", "()Ljava/lang/Class;"⟩
theorem j_getC {a n0 idx : Nat} {f : Nat → Option Nat} (C : Cx κ cc nL own nm lev) (hd : decode cc pc = .ok (.invokevirtual idx, 3)) (hp : pc + 3 = pc') (hlk : Cond.methodLink own idx gCn ∈ lw_g) (hde : Cond.declares gCn ∈ lw_g) (hse : Cond.selects "[Ljava/lang/Object;" gCn gCn ∈ lw_g) (hii : Cond.instanceMethod gCn ∈ lw_g) (hna : Cond.native gCn ∈ lw_g) (h0 : has σ a (oA (kc κ) n0 f)) (hr : (st.map fun v => v.category).sum ≤ 40) (kk : J κ σ lv pc' (.ref (kc κ 8) :: st) k n) : J κ σ lv pc (.ref a :: st) k n := by
  have hMi := C.go.2.2.2.2.2.1
  obtain ⟨⟨hx, hb, hmx, hkn⟩, ⟨hown, -, -, -⟩, hG, hK, -, -, hf⟩ := C
  subst hp
  intro H locs ls hl hP hD hS
  obtain ⟨q0, hq0⟩ := h0.at
  exact va_getC hx hb (by rw [hmx, ← hkn]; exact hl.1.symm) hown (hG _ hlk) (hG _ hde) (hG _ hse) (hG _ hii) (hG _ hna) hMi ⟨_, hP q0 _ hq0, rfl, va_nmO (hK.2 4 _ rfl).2 (by decide)⟩ (by omega) (by omega) hd (kk H locs ls hl hP hD hS)
theorem j_ldcM {idx : Nat} (C : Cx κ cc nL own nm lev) (hd : decode cc pc = .ok (.ldc idx, 2)) (hp : pc + 2 = pc') (hlk : Cond.classLink own idx "[Ljava/lang/Object;" ∈ lw_g) (kk : J κ σ lv pc' (.ref (kc κ 8) :: st) k n) : J κ σ lv pc st k n := by
  have hMi := C.go.2.2.2.2.2.1
  obtain ⟨⟨hx, hb, hmx, hkn⟩, ⟨hown, -, -, -⟩, hG, hK, -, -, hf⟩ := C
  subst hp
  intro H locs ls hl hP hD hS
  exact va_ldcM hx hb hown (hG _ hlk) hMi hd (kk H locs ls hl hP hD hS)
end Rows3J
theorem gs_Jx4a65c_39 : Cond.fieldLink RJx4a65c 39 "java/util/ArrayList" "DEFAULTCAPACITY_EMPTY_ELEMENTDATA" "[Ljava/lang/Object;" ∈ lw_g := (tm_1 (w := Cond.fieldLink RJx4a65c 39 "java/util/ArrayList" "DEFAULTCAPACITY_EMPTY_ELEMENTDATA" "[Ljava/lang/Object;") 197 rfl rfl)
theorem gs_J5_18 : Cond.fieldLink RJ5 18 "java/lang/String" "COMPACT_STRINGS" "Z" ∈ lw_g := (tm_3 (w := Cond.fieldLink RJ5 18 "java/lang/String" "COMPACT_STRINGS" "Z") 173 rfl rfl)
theorem gs_J6_83 : Cond.fieldLink RJ6 83 "java/lang/Integer" "DigitOnes" "[B" ∈ lw_g := (tm_4 (w := Cond.fieldLink RJ6 83 "java/lang/Integer" "DigitOnes" "[B") 74 rfl rfl)
theorem gs_J6_87 : Cond.fieldLink RJ6 87 "java/lang/Integer" "DigitTens" "[B" ∈ lw_g := (tm_4 (w := Cond.fieldLink RJ6 87 "java/lang/Integer" "DigitTens" "[B") 76 rfl rfl)
theorem gs_J0_1053 : Cond.fieldLink RJ0 1053 "jdk/internal/util/Preconditions" "SIOOBE_FORMATTER" "Ljava/util/function/BiFunction;" ∈ lw_g := (tm_4 (w := Cond.fieldLink RJ0 1053 "jdk/internal/util/Preconditions" "SIOOBE_FORMATTER" "Ljava/util/function/BiFunction;") 4 rfl rfl)
theorem ac_na : Cond.native arraycopyName ∈ lw_g := (tm_2 (w := Cond.native arraycopyName) 3 rfl rfl)
theorem ac_st : Cond.static arraycopyName ∈ lw_g := (tm_2 (w := Cond.static arraycopyName) 2 rfl rfl)
theorem ac_in : Cond.initialized "java/lang/System" ∈ lw_g := (tm_1 (w := Cond.initialized "java/lang/System") 20 rfl rfl)
theorem gc_lk : Cond.methodLink RJ7 86 gCn ∈ lw_g := (tm_1 (w := Cond.methodLink RJ7 86 gCn) 212 rfl rfl)
theorem gc_de : Cond.declares gCn ∈ lw_g := (tm_6 (w := Cond.declares gCn) 63 rfl rfl)
theorem gc_se : Cond.selects "[Ljava/lang/Object;" gCn gCn ∈ lw_g := (tm_6 (w := Cond.selects "[Ljava/lang/Object;" gCn gCn) 62 rfl rfl)
theorem gc_ii : Cond.instanceMethod gCn ∈ lw_g := (tm_1 (w := Cond.instanceMethod gCn) 213 rfl rfl)
theorem gc_na : Cond.native gCn ∈ lw_g := (tm_1 (w := Cond.native gCn) 231 rfl rfl)
theorem kc_J8_200 : Cond.constant RJ8 200 (Int32.ofInt 2147483639) ∈ lw_g := (tm_1 (w := Cond.constant RJ8 200 (Int32.ofInt 2147483639)) 205 rfl rfl)
theorem kc_J5_39 : Cond.constant RJ5 39 (Int32.ofInt 2147483647) ∈ lw_g := (tm_3 (w := Cond.constant RJ5 39 (Int32.ofInt 2147483647)) 216 rfl rfl)
theorem kc_L_17 : Cond.constant RL 17 (Int32.ofInt (-900001)) ∈ lw_g := (tm_2 (w := Cond.constant RL 17 (Int32.ofInt (-900001))) 6 rfl rfl)
theorem kc_L_20 : Cond.constant RL 20 (Int32.ofInt (-900002)) ∈ lw_g := (tm_2 (w := Cond.constant RL 20 (Int32.ofInt (-900002))) 7 rfl rfl)
theorem kc_L_44 : Cond.constant RL 44 (Int32.ofInt (-900003)) ∈ lw_g := (tm_2 (w := Cond.constant RL 44 (Int32.ofInt (-900003))) 212 rfl rfl)
theorem kc_L_84 : Cond.constant RL 84 (Int32.ofInt (-900004)) ∈ lw_g := (tm_5 (w := Cond.constant RL 84 (Int32.ofInt (-900004))) 235 rfl rfl)
theorem kc_L_7 : Cond.constant RL 7 (Int32.ofInt 69069) ∈ lw_g := (tm_4 (w := Cond.constant RL 7 (Int32.ofInt 69069)) 229 rfl rfl)
theorem kc_L_8 : Cond.constant RL 8 (Int32.ofInt 1103515245) ∈ lw_g := (tm_4 (w := Cond.constant RL 8 (Int32.ofInt 1103515245)) 230 rfl rfl)
theorem kc_L_101 : Cond.constant RL 101 (Int32.ofInt 2147483647) ∈ lw_g := (tm_4 (w := Cond.constant RL 101 (Int32.ofInt 2147483647)) 231 rfl rfl)
