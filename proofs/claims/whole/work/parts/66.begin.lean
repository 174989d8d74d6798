/-! the launch's gifts at the law's entry -/
section Start
variable {s : State} {b : Nat}
theorem st_ncs (hgv : (Jvm.Cond.and given_1 narrow_1).before #[Value.ref b] s = true) : Ncs s := by
  have hs := flat_of_before _ hgv
  unfold Ncs ncl
  exact List.forall_mem_cons.mpr ⟨va_Nc.of (hs _ (by decide +kernel)), List.forall_mem_cons.mpr ⟨va_Nc.of (hs _ (by decide +kernel)), List.forall_mem_cons.mpr ⟨va_Nc.of (hs _ (by decide +kernel)), List.forall_mem_cons.mpr ⟨va_Nc.of (hs _ (by decide +kernel)), List.forall_mem_cons.mpr ⟨va_Nc.of (hs _ (by decide +kernel)), List.forall_mem_cons.mpr ⟨va_Nc.of (hs _ (by decide +kernel)), List.forall_mem_cons.mpr ⟨va_Nc.of (hs _ (by decide +kernel)), List.forall_mem_cons.mpr ⟨va_Nc.of (hs _ (by decide +kernel)), fun _ h => absurd h List.not_mem_nil⟩⟩⟩⟩⟩⟩⟩⟩
theorem st_dig (n : String) (z : Nat → Nat) (hts : ∀ w ∈ lw_tbl, w.before #[Value.ref b] s = true) (hs : ∀ c ∈ [Cond.eq (.length (.static "java/lang/Integer" n "[B")) (.int 100), Cond.arrayOf (.static "java/lang/Integer" n "[B") .byte], c.before #[Value.ref b] s = true) (hl : (Cond.laysStatic "java/lang/Integer" n "[B").before #[Value.ref b] s = true) (hi : (Cond.initialized "java/lang/Integer").before #[Value.ref b] s = true)
    (he : ∀ j : Nat, j < 100 → (Cond.eq (.elem (.static "java/lang/Integer" n "[B") (.int (Int32.ofNat j))) (.int (Int32.ofInt (48 + (z j : Nat))))).before #[Value.ref b] s = true) : ∃ t : Nat, va_Z "java/lang/Integer" n "[B" (.ref t) (fun q => s.heap.size ≤ q) s s.heap ∧ va_T .byte t 100 (fun k => vi (48 + (z k : Nat))) (fun q => s.heap.size ≤ q) s s.heap := by
  have hA : ∀ a : Nat, a < s.heap.size → ¬ (fun q : Nat => s.heap.size ≤ q) a := fun a h => Nat.not_le.mpr h
  obtain ⟨t, ht, hT⟩ := va_Tof (N := 100) (f := fun k => vi (48 + (z k : Nat))) (by decide) (hs _ (List.mem_cons_of_mem _ List.mem_cons_self)) (va_eqt (hs _ List.mem_cons_self)) (fun j hj => va_eqt (he j hj)) hA
  exact ⟨t, va_Zof hl hi ht hA, hT⟩
theorem st_txt {k : Nat} {tx : String} (h1 : (Cond.stringRef RX6 k tx).before #[Value.ref b] s = true) (h2 : (Cond.exactly (.string RX6 k) "java/lang/String").before #[Value.ref b] s = true) : ∃ a : Nat, vk_R RX6 k tx a s := by
  obtain ⟨a, ha⟩ := Cond.exactly_ref h2
  exact ⟨a, vk_R.of h1 ha⟩
end Start
