/-! the launch's gifts at the law's entry -/
theorem sd_one0 {s : State} {b : Nat} (hgv : (Jvm.Cond.and given_1 narrow_1).before #[Value.ref b] s = true) : ∀ j : Nat, j < 20 → (Cond.eq (.elem (.static "java/lang/Integer" "DigitOnes" "[B") (.int (Int32.ofNat (0 + j)))) (.int (Int32.ofInt (48 + (((0 + j) % 10 : Nat) : Int))))).before #[Value.ref b] s = true :=
  fun j hj => flat_of_before _ hgv _ ((show ∀ i : Fin 20, Cond.eq (.elem (.static "java/lang/Integer" "DigitOnes" "[B") (.int (Int32.ofNat (0 + i.1)))) (.int (Int32.ofInt (48 + (((0 + i.1) % 10 : Nat) : Int)))) ∈ _ by decide +kernel) ⟨j, hj⟩)
theorem sd_one1 {s : State} {b : Nat} (hgv : (Jvm.Cond.and given_1 narrow_1).before #[Value.ref b] s = true) : ∀ j : Nat, j < 20 → (Cond.eq (.elem (.static "java/lang/Integer" "DigitOnes" "[B") (.int (Int32.ofNat (20 + j)))) (.int (Int32.ofInt (48 + (((20 + j) % 10 : Nat) : Int))))).before #[Value.ref b] s = true :=
  fun j hj => flat_of_before _ hgv _ ((show ∀ i : Fin 20, Cond.eq (.elem (.static "java/lang/Integer" "DigitOnes" "[B") (.int (Int32.ofNat (20 + i.1)))) (.int (Int32.ofInt (48 + (((20 + i.1) % 10 : Nat) : Int)))) ∈ _ by decide +kernel) ⟨j, hj⟩)
theorem sd_one2 {s : State} {b : Nat} (hgv : (Jvm.Cond.and given_1 narrow_1).before #[Value.ref b] s = true) : ∀ j : Nat, j < 20 → (Cond.eq (.elem (.static "java/lang/Integer" "DigitOnes" "[B") (.int (Int32.ofNat (40 + j)))) (.int (Int32.ofInt (48 + (((40 + j) % 10 : Nat) : Int))))).before #[Value.ref b] s = true :=
  fun j hj => flat_of_before _ hgv _ ((show ∀ i : Fin 20, Cond.eq (.elem (.static "java/lang/Integer" "DigitOnes" "[B") (.int (Int32.ofNat (40 + i.1)))) (.int (Int32.ofInt (48 + (((40 + i.1) % 10 : Nat) : Int)))) ∈ _ by decide +kernel) ⟨j, hj⟩)
theorem sd_one3 {s : State} {b : Nat} (hgv : (Jvm.Cond.and given_1 narrow_1).before #[Value.ref b] s = true) : ∀ j : Nat, j < 20 → (Cond.eq (.elem (.static "java/lang/Integer" "DigitOnes" "[B") (.int (Int32.ofNat (60 + j)))) (.int (Int32.ofInt (48 + (((60 + j) % 10 : Nat) : Int))))).before #[Value.ref b] s = true :=
  fun j hj => flat_of_before _ hgv _ ((show ∀ i : Fin 20, Cond.eq (.elem (.static "java/lang/Integer" "DigitOnes" "[B") (.int (Int32.ofNat (60 + i.1)))) (.int (Int32.ofInt (48 + (((60 + i.1) % 10 : Nat) : Int)))) ∈ _ by decide +kernel) ⟨j, hj⟩)
theorem sd_one4 {s : State} {b : Nat} (hgv : (Jvm.Cond.and given_1 narrow_1).before #[Value.ref b] s = true) : ∀ j : Nat, j < 20 → (Cond.eq (.elem (.static "java/lang/Integer" "DigitOnes" "[B") (.int (Int32.ofNat (80 + j)))) (.int (Int32.ofInt (48 + (((80 + j) % 10 : Nat) : Int))))).before #[Value.ref b] s = true :=
  fun j hj => flat_of_before _ hgv _ ((show ∀ i : Fin 20, Cond.eq (.elem (.static "java/lang/Integer" "DigitOnes" "[B") (.int (Int32.ofNat (80 + i.1)))) (.int (Int32.ofInt (48 + (((80 + i.1) % 10 : Nat) : Int)))) ∈ _ by decide +kernel) ⟨j, hj⟩)
theorem sd_one {s : State} {b : Nat} (hgv : (Jvm.Cond.and given_1 narrow_1).before #[Value.ref b] s = true) (j : Nat) (hj : j < 100) : (Cond.eq (.elem (.static "java/lang/Integer" "DigitOnes" "[B") (.int (Int32.ofNat j))) (.int (Int32.ofInt (48 + ((j % 10 : Nat) : Int))))).before #[Value.ref b] s = true := by
  rcases (show j < 20 ∨ (20 ≤ j ∧ j < 40) ∨ (40 ≤ j ∧ j < 60) ∨ (60 ≤ j ∧ j < 80) ∨ (80 ≤ j ∧ j < 100) by omega) with h | h | h | h | h
  · have e := sd_one0 hgv j h; rw [Nat.zero_add] at e; exact e
  · have e := sd_one1 hgv (j - 20) (by omega); rw [show 20 + (j - 20) = j by omega] at e; exact e
  · have e := sd_one2 hgv (j - 40) (by omega); rw [show 40 + (j - 40) = j by omega] at e; exact e
  · have e := sd_one3 hgv (j - 60) (by omega); rw [show 60 + (j - 60) = j by omega] at e; exact e
  · have e := sd_one4 hgv (j - 80) (by omega); rw [show 80 + (j - 80) = j by omega] at e; exact e
theorem sd_ten0 {s : State} {b : Nat} (hgv : (Jvm.Cond.and given_1 narrow_1).before #[Value.ref b] s = true) : ∀ j : Nat, j < 20 → (Cond.eq (.elem (.static "java/lang/Integer" "DigitTens" "[B") (.int (Int32.ofNat (0 + j)))) (.int (Int32.ofInt (48 + (((0 + j) / 10 : Nat) : Int))))).before #[Value.ref b] s = true :=
  fun j hj => flat_of_before _ hgv _ ((show ∀ i : Fin 20, Cond.eq (.elem (.static "java/lang/Integer" "DigitTens" "[B") (.int (Int32.ofNat (0 + i.1)))) (.int (Int32.ofInt (48 + (((0 + i.1) / 10 : Nat) : Int)))) ∈ _ by decide +kernel) ⟨j, hj⟩)
theorem sd_ten1 {s : State} {b : Nat} (hgv : (Jvm.Cond.and given_1 narrow_1).before #[Value.ref b] s = true) : ∀ j : Nat, j < 20 → (Cond.eq (.elem (.static "java/lang/Integer" "DigitTens" "[B") (.int (Int32.ofNat (20 + j)))) (.int (Int32.ofInt (48 + (((20 + j) / 10 : Nat) : Int))))).before #[Value.ref b] s = true :=
  fun j hj => flat_of_before _ hgv _ ((show ∀ i : Fin 20, Cond.eq (.elem (.static "java/lang/Integer" "DigitTens" "[B") (.int (Int32.ofNat (20 + i.1)))) (.int (Int32.ofInt (48 + (((20 + i.1) / 10 : Nat) : Int)))) ∈ _ by decide +kernel) ⟨j, hj⟩)
theorem sd_ten2 {s : State} {b : Nat} (hgv : (Jvm.Cond.and given_1 narrow_1).before #[Value.ref b] s = true) : ∀ j : Nat, j < 20 → (Cond.eq (.elem (.static "java/lang/Integer" "DigitTens" "[B") (.int (Int32.ofNat (40 + j)))) (.int (Int32.ofInt (48 + (((40 + j) / 10 : Nat) : Int))))).before #[Value.ref b] s = true :=
  fun j hj => flat_of_before _ hgv _ ((show ∀ i : Fin 20, Cond.eq (.elem (.static "java/lang/Integer" "DigitTens" "[B") (.int (Int32.ofNat (40 + i.1)))) (.int (Int32.ofInt (48 + (((40 + i.1) / 10 : Nat) : Int)))) ∈ _ by decide +kernel) ⟨j, hj⟩)
theorem sd_ten3 {s : State} {b : Nat} (hgv : (Jvm.Cond.and given_1 narrow_1).before #[Value.ref b] s = true) : ∀ j : Nat, j < 20 → (Cond.eq (.elem (.static "java/lang/Integer" "DigitTens" "[B") (.int (Int32.ofNat (60 + j)))) (.int (Int32.ofInt (48 + (((60 + j) / 10 : Nat) : Int))))).before #[Value.ref b] s = true :=
  fun j hj => flat_of_before _ hgv _ ((show ∀ i : Fin 20, Cond.eq (.elem (.static "java/lang/Integer" "DigitTens" "[B") (.int (Int32.ofNat (60 + i.1)))) (.int (Int32.ofInt (48 + (((60 + i.1) / 10 : Nat) : Int)))) ∈ _ by decide +kernel) ⟨j, hj⟩)
theorem sd_ten4 {s : State} {b : Nat} (hgv : (Jvm.Cond.and given_1 narrow_1).before #[Value.ref b] s = true) : ∀ j : Nat, j < 20 → (Cond.eq (.elem (.static "java/lang/Integer" "DigitTens" "[B") (.int (Int32.ofNat (80 + j)))) (.int (Int32.ofInt (48 + (((80 + j) / 10 : Nat) : Int))))).before #[Value.ref b] s = true :=
  fun j hj => flat_of_before _ hgv _ ((show ∀ i : Fin 20, Cond.eq (.elem (.static "java/lang/Integer" "DigitTens" "[B") (.int (Int32.ofNat (80 + i.1)))) (.int (Int32.ofInt (48 + (((80 + i.1) / 10 : Nat) : Int)))) ∈ _ by decide +kernel) ⟨j, hj⟩)
theorem sd_ten {s : State} {b : Nat} (hgv : (Jvm.Cond.and given_1 narrow_1).before #[Value.ref b] s = true) (j : Nat) (hj : j < 100) : (Cond.eq (.elem (.static "java/lang/Integer" "DigitTens" "[B") (.int (Int32.ofNat j))) (.int (Int32.ofInt (48 + ((j / 10 : Nat) : Int))))).before #[Value.ref b] s = true := by
  rcases (show j < 20 ∨ (20 ≤ j ∧ j < 40) ∨ (40 ≤ j ∧ j < 60) ∨ (60 ≤ j ∧ j < 80) ∨ (80 ≤ j ∧ j < 100) by omega) with h | h | h | h | h
  · have e := sd_ten0 hgv j h; rw [Nat.zero_add] at e; exact e
  · have e := sd_ten1 hgv (j - 20) (by omega); rw [show 20 + (j - 20) = j by omega] at e; exact e
  · have e := sd_ten2 hgv (j - 40) (by omega); rw [show 40 + (j - 40) = j by omega] at e; exact e
  · have e := sd_ten3 hgv (j - 60) (by omega); rw [show 60 + (j - 60) = j by omega] at e; exact e
  · have e := sd_ten4 hgv (j - 80) (by omega); rw [show 80 + (j - 80) = j by omega] at e; exact e
section Start
variable {s : State} {b : Nat}
theorem st_ncs (hgv : (Jvm.Cond.and given_1 narrow_1).before #[Value.ref b] s = true) : Ncs s := by
  have hs := flat_of_before _ hgv
  unfold Ncs ncl
  exact List.forall_mem_cons.mpr ⟨va_Nc.of (hs _ (by decide +kernel)), List.forall_mem_cons.mpr ⟨va_Nc.of (hs _ (by decide +kernel)), List.forall_mem_cons.mpr ⟨va_Nc.of (hs _ (by decide +kernel)), List.forall_mem_cons.mpr ⟨va_Nc.of (hs _ (by decide +kernel)), List.forall_mem_cons.mpr ⟨va_Nc.of (hs _ (by decide +kernel)), List.forall_mem_cons.mpr ⟨va_Nc.of (hs _ (by decide +kernel)), fun _ h => absurd h List.not_mem_nil⟩⟩⟩⟩⟩⟩
theorem st_dig (n : String) (z : Nat → Nat) (hts : ∀ w ∈ lw_tbl, w.before #[Value.ref b] s = true) (hs : ∀ c ∈ [Cond.eq (.length (.static "java/lang/Integer" n "[B")) (.int 100), Cond.arrayOf (.static "java/lang/Integer" n "[B") .byte], c.before #[Value.ref b] s = true) (hl : (Cond.laysStatic "java/lang/Integer" n "[B").before #[Value.ref b] s = true) (hi : (Cond.initialized "java/lang/Integer").before #[Value.ref b] s = true)
    (he : ∀ j : Nat, j < 100 → (Cond.eq (.elem (.static "java/lang/Integer" n "[B") (.int (Int32.ofNat j))) (.int (Int32.ofInt (48 + (z j : Nat))))).before #[Value.ref b] s = true) : ∃ t : Nat, va_Z "java/lang/Integer" n "[B" (.ref t) (fun q => s.heap.size ≤ q) s s.heap ∧ va_T .byte t 100 (fun k => vi (48 + (z k : Nat))) (fun q => s.heap.size ≤ q) s s.heap := by
  have hA : ∀ a : Nat, a < s.heap.size → ¬ (fun q : Nat => s.heap.size ≤ q) a := fun a h => Nat.not_le.mpr h
  obtain ⟨t, ht, hT⟩ := va_Tof (N := 100) (f := fun k => vi (48 + (z k : Nat))) (by decide) (hs _ (List.mem_cons_of_mem _ List.mem_cons_self)) (va_eqt (hs _ List.mem_cons_self)) (fun j hj => va_eqt (he j hj)) hA
  exact ⟨t, va_Zof hl hi ht hA, hT⟩
theorem st_txt {k : Nat} {tx : String} (h1 : (Cond.stringRef RX6 k tx).before #[Value.ref b] s = true) (h2 : (Cond.exactly (.string RX6 k) "java/lang/String").before #[Value.ref b] s = true) : ∃ a : Nat, vk_R RX6 k tx a s := by
  obtain ⟨a, c, cell, k9, q1, -⟩ := Cond.exactly_spec (args := #[Value.ref b]) (first := s) (o := none) (s := s) (idx := []) (t := .string RX6 k) (cls := "java/lang/String") h2
  exact ⟨a, vk_R.of h1 q1⟩
theorem st_txts (hts : ∀ w ∈ lw_tbl, w.before #[Value.ref b] s = true) (hgv : (Jvm.Cond.and given_1 narrow_1).before #[Value.ref b] s = true) : ∀ q ∈ txts, ∃ a : Nat, vk_R RX6 q.1 q.2 a s := by
  have hs := flat_of_before _ hgv
  unfold txts
  exact List.forall_mem_cons.mpr ⟨st_txt (hts _ (by decide +kernel)) (hs _ (by decide +kernel)), List.forall_mem_cons.mpr ⟨st_txt (hts _ (by decide +kernel)) (hs _ (by decide +kernel)), List.forall_mem_cons.mpr ⟨st_txt (hts _ (by decide +kernel)) (hs _ (by decide +kernel)), List.forall_mem_cons.mpr ⟨st_txt (hts _ (by decide +kernel)) (hs _ (by decide +kernel)), List.forall_mem_cons.mpr ⟨st_txt (hts _ (by decide +kernel)) (hs _ (by decide +kernel)), List.forall_mem_cons.mpr ⟨st_txt (hts _ (by decide +kernel)) (hs _ (by decide +kernel)), List.forall_mem_cons.mpr ⟨st_txt (hts _ (by decide +kernel)) (hs _ (by decide +kernel)), List.forall_mem_cons.mpr ⟨st_txt (hts _ (by decide +kernel)) (hs _ (by decide +kernel)), List.forall_mem_cons.mpr ⟨st_txt (hts _ (by decide +kernel)) (hs _ (by decide +kernel)), List.forall_mem_cons.mpr ⟨st_txt (hts _ (by decide +kernel)) (hs _ (by decide +kernel)), List.forall_mem_cons.mpr ⟨st_txt (hts _ (by decide +kernel)) (hs _ (by decide +kernel)), fun _ h => absurd h List.not_mem_nil⟩⟩⟩⟩⟩⟩⟩⟩⟩⟩⟩
theorem st_lits (hts : ∀ w ∈ lw_tbl, w.before #[Value.ref b] s = true) (hgv : (Jvm.Cond.and given_1 narrow_1).before #[Value.ref b] s = true) : ∃ k0 v0 k1 v1 : Nat, ∀ cy : Nat → Nat, cy 10 = k0 → cy 11 = k1 → cy 12 = v0 → cy 13 = v1 → Lits cy (fun q => s.heap.size ≤ q) s s.heap := by
  have hs := flat_of_before _ hgv
  have hA : ∀ a : Nat, a < s.heap.size → ¬ (fun q : Nat => s.heap.size ≤ q) a := fun a h => Nat.not_le.mpr h
  obtain ⟨adK, adV, hS, hev⟩ := vk_Sof (args := #[Value.ref b]) (s := s) (N := 2) (tm := fun i => match i with | 0 => Term.string RL 208 | _ => Term.string RL 210) (len := [0, 1]) (byt := [[], [32]]) (A := fun q => s.heap.size ≤ q)
    (fun i hi => by match i, hi with | 0, _ => decide | 1, _ => decide)
    (fun i hi => by match i, hi with | 0, _ => exact hs _ (by decide +kernel) | 1, _ => exact hs _ (by decide +kernel))
    (fun i hi => by match i, hi with | 0, _ => exact hs _ (by decide +kernel) | 1, _ => exact hs _ (by decide +kernel))
    (fun i hi => by match i, hi with | 0, _ => exact hs _ (by decide +kernel) | 1, _ => exact hs _ (by decide +kernel))
    (fun i hi => by match i, hi with | 0, _ => exact hs _ (by decide +kernel) | 1, _ => exact hs _ (by decide +kernel))
    (fun i hi j hj => by
      match i, hi with
      | 0, _ => exact absurd (show j < 0 from hj) (Nat.not_lt_zero _)
      | 1, _ =>
        match j, hj with
        | 0, _ => exact hs _ (by decide +kernel)
        | j + 1, hj => exact absurd (show j + 1 < 1 from hj) (by omega))
    (fun i j hi hj hne => by
      match i, hi, j, hj with
      | 0, _, 0, _ => exact absurd rfl hne
      | 1, _, 1, _ => exact absurd rfl hne
      | 0, _, 1, _ => exact Or.inl (hs _ (by decide +kernel))
      | 1, _, 0, _ => exact Or.inr (hs _ (by decide +kernel)))
    hA
  refine ⟨adK 0, adV 0, adK 1, adV 1, fun cy e0 e1 e2 e3 => ⟨⟨fun i hi => ?_, fun i j hi hj e => ?_⟩, ?_, ?_⟩⟩
  · match i, hi with
    | 0, _ => have h := hS.1 0 (by decide); show _ ∧ _ ∧ _ ∧ _; simp only [Nat.add_zero, e0, e2]; exact h
    | 1, _ => have h := hS.1 1 (by decide); show _ ∧ _ ∧ _ ∧ _; simp only [show 10 + 1 = 11 from rfl, show 12 + 1 = 13 from rfl, e1, e3]; exact h
  · have h01 : cy 10 = cy 11 → (0 : Nat) = 1 := fun h => hS.2 0 1 (by decide) (by decide) (by rw [← e0, ← e1]; exact h)
    match i, hi, j, hj with
    | 0, _, 0, _ => rfl
    | 1, _, 1, _ => rfl
    | 0, _, 1, _ => exact h01 e
    | 1, _, 0, _ => exact (h01 e.symm).symm
  · rw [e0]; exact vk_R.of (hts _ (by decide +kernel)) (hev 0 (by decide))
  · rw [e1]; exact vk_R.of (hts _ (by decide +kernel)) (hev 1 (by decide))
theorem st_go (hts : ∀ w ∈ lw_tbl, w.before #[Value.ref b] s = true) (hgv : (Jvm.Cond.and given_1 narrow_1).before #[Value.ref b] s = true) {L : Nat} {xs : Nat → Int32} (hX : va_X b L xs s s.heap) (hbl : b < s.heap.size) (hL : L ≤ 260) : ∃ t0 mi k0 v0 k1 v1 : Nat, ∀ cy : Nat → Nat, cy 7 = t0 → cy 8 = mi → cy 9 = b → cy 10 = k0 → cy 11 = k1 → cy 12 = v0 → cy 13 = v1 → Go (cy 7) (cy 8) cy (fun q => s.heap.size ≤ q) s s.heap := by
  have hs := flat_of_before _ hgv
  have hA : ∀ a : Nat, a < s.heap.size → ¬ (fun q : Nat => s.heap.size ≤ q) a := fun a h => Nat.not_le.mpr h
  have g1 : vx_Zq Bundle.tN "UNASSIGNED_STACK" Bundle.steD (fun q => s.heap.size ≤ q) s s.heap := vx_Zqof (hts _ (by decide +kernel)) (hts _ (by decide +kernel)) (hs _ (by decide +kernel)) hA
  have g2 : vx_Zq Bundle.tN "SUPPRESSED_SENTINEL" Bundle.listD (fun q => s.heap.size ≤ q) s s.heap := vx_Zqof (hts _ (by decide +kernel)) (hts _ (by decide +kernel)) (hs _ (by decide +kernel)) hA
  have g3 : vx_Zq "jdk/internal/util/Preconditions" "SIOOBE_FORMATTER" "Ljava/util/function/BiFunction;" (fun q => s.heap.size ≤ q) s s.heap := vx_Zqof (hts _ (by decide +kernel)) (hts _ (by decide +kernel)) (hs _ (by decide +kernel)) hA
  have g4 : va_Z "java/lang/String" "COMPACT_STRINGS" "Z" (.int 1) (fun q => s.heap.size ≤ q) s s.heap := va_Zof (hts _ (by decide +kernel)) (hts _ (by decide +kernel)) (va_eqt (hs _ (by decide +kernel))) hA
  obtain ⟨t0, ht0, hT0⟩ := va_Tof (A := fun q => s.heap.size ≤ q) (tm := .static "java/util/ArrayList" "DEFAULTCAPACITY_EMPTY_ELEMENTDATA" "[Ljava/lang/Object;") (ty := .object "java/lang/Object") (N := 0) (f := fun _ => .null) (by decide) (hs _ (by decide +kernel)) (va_eqt (hs _ (by decide +kernel))) (fun j hj => absurd hj (Nat.not_lt_zero _)) hA
  have g5 : va_Z "java/util/ArrayList" "DEFAULTCAPACITY_EMPTY_ELEMENTDATA" "[Ljava/lang/Object;" (.ref t0) (fun q => s.heap.size ≤ q) s s.heap := va_Zof (hts _ (by decide +kernel)) (hts _ (by decide +kernel)) ht0 hA
  obtain ⟨mi, hmi⟩ := va_Mi.of (C := "[Ljava/lang/Object;") (hs _ (by decide +kernel))
  have hao : va_AO "java/lang/Object" s := va_AO.of (hts _ (by decide +kernel))
  obtain ⟨t1, a1, b1⟩ := st_dig "DigitOnes" (fun k => k % 10) hts (List.forall_mem_cons.mpr ⟨hs _ (by decide +kernel), List.forall_mem_cons.mpr ⟨hs _ (by decide +kernel), fun _ h => absurd h List.not_mem_nil⟩⟩) (hts _ (by decide +kernel)) (hts _ (by decide +kernel)) (fun j hj => sd_one hgv j hj)
  obtain ⟨t2, a2, b2⟩ := st_dig "DigitTens" (fun k => k / 10) hts (List.forall_mem_cons.mpr ⟨hs _ (by decide +kernel), List.forall_mem_cons.mpr ⟨hs _ (by decide +kernel), fun _ h => absurd h List.not_mem_nil⟩⟩) (hts _ (by decide +kernel)) (hts _ (by decide +kernel)) (fun j hj => sd_ten hgv j hj)
  obtain ⟨k0, v0, k1, v1, hl⟩ := st_lits hts hgv
  refine ⟨t0, mi, k0, v0, k1, v1, fun cy e7 e8 e9 e10 e11 e12 e13 => ?_⟩
  rw [e7, e8]
  exact ⟨⟨g1, g2⟩, ⟨g4, g5, hT0⟩, ⟨t1, t2, ⟨a1, b1⟩, a2, b2⟩, st_txts hts hgv, hao, hmi, g3, st_ncs hgv, hl cy e10 e11 e12 e13, L, xs, by rw [e9]; exact hX, by rw [e9]; exact hbl, by rw [e9]; exact hA b hbl, hL⟩
end Start
