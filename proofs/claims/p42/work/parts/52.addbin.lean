/-! GrainElevator: addBin -/
theorem LsE.retagS {cy : Nat → Nat} {σ σ' : Wd} {tg ad tg' ad' : Nat → Nat} {evs : List Evt} (h : LsE cy σ' tg ad evs) (h0 : LsE cy σ tg ad evs) (hT : ∀ a, a ∈ σ.1 → tg' a = tg a) (hA : ∀ k, (k = 5 ∨ k = 6 ∨ (300 ≤ k ∧ k < 300 + evs.length)) → ad' k = ad k) : LsE cy σ' tg' ad' evs := by
  obtain ⟨⟨e1, e2, e3⟩, e5⟩ := h0
  obtain ⟨⟨f1, f2, f3⟩, f5⟩ := h
  have a5 := hA 5 (Or.inl rfl)
  have a6 := hA 6 (Or.inr (Or.inl rfl))
  refine ⟨⟨?_, ?_, ?_⟩, fun j e he => ?_⟩
  · rw [a5, a6, evl_cong (fun j hj => hA _ (Or.inr (Or.inr ⟨by omega, by omega⟩)))]; exact f1
  · rw [a5, hT _ e1.amem]; exact e2
  · rw [a6]
    rcases e3 with e3 | e3
    · exact Or.inl e3
    · rcases e1.dmem with q | q
      · exact Or.inl ⟨q.1, List.eq_nil_of_length_eq_zero (by have := congrArg List.length q.2; rw [evl_len] at this; exact this)⟩
      · exact Or.inr (by rw [hT _ q]; exact e3)
  · have hj := (List.getElem?_eq_some_iff.mp he).1
    rw [hA _ (Or.inr (Or.inr ⟨by omega, by omega⟩))]
    exact ⟨(f5 j e he).1, by rw [hT _ (e5 j e he).1.1]; exact (e5 j e he).2⟩
theorem BinR.mem4 {cy : Nat → Nat} {σ : Wd} {h q1 q2 q3 q4 : Nat} {b : Bn} (hB : BinR cy σ h q1 q2 q3 q4 b) : (h ≠ q1 ∧ h ≠ q2 ∧ h ≠ q3 ∧ h ≠ q4) ∧ (q1 ≠ q2 ∧ q1 ≠ q3 ∧ q1 ≠ q4 ∧ q2 ≠ q3 ∧ q2 ≠ q4 ∧ q3 ≠ q4) := by
  obtain ⟨old, g1, g2, g3, g4, ⟨hh, ⟨h1, h2, h3, h4⟩, hne⟩, -⟩ := hB
  exact ⟨⟨hh.nk h1 rfl, hh.nk h2 rfl, hh.nk h3 rfl, hh.nk h4 rfl⟩, hne⟩
/-- a bin more in a list of bins -/
theorem addStage {cy : Nat → Nat} {σ σ1 σ2 σ3 : Wd} {tg ad : Nat → Nat} {kl kd base : Nat} {bs : List Bn} (h : LsB cy σ tg ad kl kd base bs) (h72 : cy 7 ∉ σ2.1) (hlen : bs.length < 6) (hko : kl < 10 ∧ kd < 10 ∧ kl ≠ kd ∧ 100 ≤ base) {b q1 q2 q3 q4 d' : Nat} {c : Int} {m : Bool} (n0 : b ∉ σ.1) (e1 : σ1.1 = σ.1 ++ [b]) (k1 : Keep σ σ1 (fun _ => False)) (hB : BinR cy σ2 b q1 q2 q3 q4 (c, m, [])) (nq : q1 ∉ σ1.1 ∧ q2 ∉ σ1.1 ∧ q3 ∉ σ1.1 ∧ q4 ∉ σ1.1) (k2 : Keep σ1 σ2 (fun a => a = b)) (e2 : σ2.1 = σ1.1 ++ [q1, q2, q3, q4]) (hL : LstR cy σ3 (ad kl) d' (bins ad base bs.length ++ [b])) (hd : (d' = ad kd ∧ σ3.1 = σ2.1) ∨ (d' ∉ σ2.1 ∧ σ3.1 = σ2.1 ++ [d'])) (k3 : Keep σ2 σ3 (fun x => x = ad kl ∨ x = ad kd)) :
    ∃ tg' ad' : Nat → Nat, LsB cy σ3 tg' ad' kl kd base (bs ++ [(c, m, [])]) ∧ (∀ y, y ∈ σ.1 → tg' y = tg y) ∧ (∀ k, k ≠ kd → (k < base + 5 * bs.length ∨ base + 5 * bs.length + 5 ≤ k) → ad' k = ad k) ∧ Keep σ σ3 (fun y => tg y = kl ∨ tg y = kd) ∧ ∀ y, y ∈ σ.1 → y ∈ σ3.1 := by
  obtain ⟨⟨l1, l2, l3⟩, l6, l5⟩ := h
  obtain ⟨⟨m1, m2, m3, m4⟩, m5, m6, m7, m8, m9, m10⟩ := hB.mem4
  obtain ⟨n1, n2, n3, n4⟩ := nq
  have mb1 : b ∈ σ1.1 := by rw [e1]; exact List.mem_append_right _ (List.mem_singleton.mpr rfl)
  have mo1 : ∀ y, y ∈ σ.1 → y ∈ σ1.1 := fun y hy => by rw [e1]; exact List.mem_append_left _ hy
  have mo2 : ∀ y, y ∈ σ1.1 → y ∈ σ2.1 := fun y hy => by rw [e2]; exact List.mem_append_left _ hy
  have mo3 : ∀ y, y ∈ σ2.1 → y ∈ σ3.1 := fun y hy => hd.elim (fun z => by rw [z.2]; exact hy) (fun z => by rw [z.2]; exact List.mem_append_left _ hy)
  have mq : ∀ y, y ∈ [q1, q2, q3, q4] → y ∈ σ2.1 := fun y hy => by rw [e2]; exact List.mem_append_right _ hy
  have md : d' ∈ σ3.1 := hL.dmem.elim (fun z => absurd z.2 (by simp)) id
  have hD : (d' ∈ σ.1 ∧ tg d' = kd) ∨ d' ∉ σ2.1 := by
    rcases hd with z | z
    · have z1 : d' ∈ σ2.1 := by rw [← z.2]; exact md
      have z2 : ad kd ≠ cy 7 := fun q => h72 (by rw [← q, ← z.1]; exact z1)
      refine Or.inl ⟨?_, ?_⟩
      · rw [z.1]; exact l1.dmem.elim (fun q => absurd q.1 z2) id
      · rw [z.1]; exact l3.elim (fun q => absurd q.1 z2) id
    · exact Or.inr z.1
  have hdn : ∀ y, y ∈ σ2.1 → y ∉ σ.1 → y ≠ d' := fun y hy hn z => hD.elim (fun q => hn (by rw [z]; exact q.1)) (fun q => q (by rw [← z]; exact hy))
  have o1 : q1 ∉ σ.1 := fun z => n1 (mo1 _ z)
  have o2 : q2 ∉ σ.1 := fun z => n2 (mo1 _ z)
  have o3 : q3 ∉ σ.1 := fun z => n3 (mo1 _ z)
  have o4 : q4 ∉ σ.1 := fun z => n4 (mo1 _ z)
  have db := hdn b (mo2 _ mb1) n0
  have dq1 := hdn q1 (mq _ (by simp)) o1
  have dq2 := hdn q2 (mq _ (by simp)) o2
  have dq3 := hdn q3 (mq _ (by simp)) o3
  have dq4 := hdn q4 (mq _ (by simp)) o4
  obtain ⟨n, hn⟩ : ∃ n, bs.length = n := ⟨_, rfl⟩
  rw [hn] at hlen hL
  have x1 : ∀ {y z : Nat}, y ∈ σ.1 → z ∉ σ.1 → y ≠ z := fun hy hz e => hz (by rw [← e]; exact hy)
  obtain ⟨tg', ht⟩ : ∃ f : Nat → Nat, (fun y => if y = b then base + 5 * n else if y = q1 then base + 5 * n + 1 else if y = q2 then base + 5 * n + 2 else if y = q3 then base + 5 * n + 3 else if y = q4 then base + 5 * n + 4 else if y = d' then kd else tg y) = f := ⟨_, rfl⟩
  obtain ⟨ad', ha⟩ : ∃ f : Nat → Nat, (fun k => if k = kd then d' else if k = base + 5 * n then b else if k = base + 5 * n + 1 then q1 else if k = base + 5 * n + 2 then q2 else if k = base + 5 * n + 3 then q3 else if k = base + 5 * n + 4 then q4 else ad k) = f := ⟨_, rfl⟩
  have t0 : tg' b = base + 5 * n := by rw [← ht]; exact if_pos rfl
  have t1 : tg' q1 = base + 5 * n + 1 := by rw [← ht]; show (if q1 = b then _ else _) = _; rw [if_neg (Ne.symm m1), if_pos rfl]
  have t2 : tg' q2 = base + 5 * n + 2 := by rw [← ht]; show (if q2 = b then _ else _) = _; rw [if_neg (Ne.symm m2), if_neg (Ne.symm m5), if_pos rfl]
  have t3 : tg' q3 = base + 5 * n + 3 := by rw [← ht]; show (if q3 = b then _ else _) = _; rw [if_neg (Ne.symm m3), if_neg (Ne.symm m6), if_neg (Ne.symm m8), if_pos rfl]
  have t4 : tg' q4 = base + 5 * n + 4 := by rw [← ht]; show (if q4 = b then _ else _) = _; rw [if_neg (Ne.symm m4), if_neg (Ne.symm m7), if_neg (Ne.symm m9), if_neg (Ne.symm m10), if_pos rfl]
  have t5 : tg' d' = kd := by rw [← ht]; show (if d' = b then _ else _) = _; rw [if_neg (Ne.symm db), if_neg (Ne.symm dq1), if_neg (Ne.symm dq2), if_neg (Ne.symm dq3), if_neg (Ne.symm dq4), if_pos rfl]
  have tT : ∀ y, y ∈ σ.1 → tg' y = tg y := fun y hy => by
    rw [← ht]
    show (if y = b then _ else _) = _
    rw [if_neg (x1 hy n0), if_neg (x1 hy o1), if_neg (x1 hy o2), if_neg (x1 hy o3), if_neg (x1 hy o4)]
    by_cases e : y = d'
    · rw [if_pos e]
      exact (hD.elim (fun q => by rw [e]; exact q.2.symm) (fun q => absurd (mo2 _ (mo1 _ (e ▸ hy))) q))
    · rw [if_neg e]
  have a0 : ad' kd = d' := by rw [← ha]; exact if_pos rfl
  have aO : ∀ k, k ≠ kd → (k < base + 5 * n ∨ base + 5 * n + 5 ≤ k) → ad' k = ad k := fun k h1 h2 => by
    rw [← ha]
    show (if k = kd then _ else _) = _
    rw [if_neg h1, if_neg (by omega), if_neg (by omega), if_neg (by omega), if_neg (by omega), if_neg (by omega)]
  have b0 : ad' (base + 5 * n + 0) = b := by rw [← ha]; show (if base + 5 * n + 0 = kd then _ else _) = _; rw [if_neg (by omega), if_pos (by omega)]
  have b1 : ad' (base + 5 * n + 1) = q1 := by rw [← ha]; show (if base + 5 * n + 1 = kd then _ else _) = _; rw [if_neg (by omega), if_neg (by omega), if_pos rfl]
  have b2 : ad' (base + 5 * n + 2) = q2 := by rw [← ha]; show (if base + 5 * n + 2 = kd then _ else _) = _; rw [if_neg (by omega), if_neg (by omega), if_neg (by omega), if_pos rfl]
  have b3 : ad' (base + 5 * n + 3) = q3 := by rw [← ha]; show (if base + 5 * n + 3 = kd then _ else _) = _; rw [if_neg (by omega), if_neg (by omega), if_neg (by omega), if_neg (by omega), if_pos rfl]
  have b4 : ad' (base + 5 * n + 4) = q4 := by rw [← ha]; show (if base + 5 * n + 4 = kd then _ else _) = _; rw [if_neg (by omega), if_neg (by omega), if_neg (by omega), if_neg (by omega), if_neg (by omega), if_pos rfl]
  have kT : Keep σ σ3 (fun y => tg y = kl ∨ tg y = kd) := ((k1.mono (fun _ z => z.elim)).tr2 k2 (fun y z => Or.inr (by rw [show y = b from z]; exact n0))).tr2 k3 (fun y z => by
    rcases z with z | z
    · exact Or.inl (Or.inl (by rw [z]; exact l2))
    · rcases l3 with q | q
      · exact (Classical.em (y ∈ σ.1)).elim (fun hy => absurd (mo2 _ (mo1 _ (by rw [← q.1, ← z]; exact hy))) h72) Or.inr
      · exact Or.inl (Or.inr (by rw [z]; exact q)))
  have hl1 : (bs ++ [(c, m, [])]).length = n + 1 := by rw [List.length_append, hn]; rfl
  refine ⟨tg', ad', ⟨⟨?_, ?_, Or.inr (by rw [a0]; exact t5)⟩, by omega, fun i hi => ?_⟩, tT, fun k h1 h2 => aO k h1 (by omega), kT, fun y hy => mo3 _ (mo2 _ (mo1 _ hy))⟩
  · have e : bins ad' base (bs ++ [(c, m, [])]).length = bins ad base n ++ [b] := by
      rw [hl1]
      unfold bins
      rw [List.range_succ, List.map_append]
      have e5 : (List.range n).map (fun i => bq ad' base i 0) = (List.range n).map (fun i => bq ad base i 0) := List.map_congr_left (fun i hi => by have := List.mem_range.mp hi; exact aO _ (by omega) (by omega))
      rw [e5]
      exact congrArg (fun z => (List.range n).map (fun i => bq ad base i 0) ++ [z]) b0
    rw [e, aO kl hko.2.2.1 (by omega), a0]
    exact hL
  · rw [aO kl hko.2.2.1 (by omega), tT _ l1.amem]
    exact l2
  · rw [hl1] at hi
    by_cases hin : i = n
    · subst hin
      have eg : gB (bs ++ [(c, m, [])]) (i : Int) = (c, m, []) := by
        unfold gB
        rw [Int.toNat_natCast, List.getD_eq_getElem?_getD, ← hn, List.getElem?_append_right (Nat.le_refl _), Nat.sub_self]
        rfl
      rw [eg]
      unfold BnR bq
      rw [b0, b1, b2, b3, b4]
      refine ⟨hB.keep k3 (fun y hy z => ?_), fun k hk => ?_⟩
      · have hy2 : y ∉ σ.1 := by rcases hy with rfl | rfl | rfl | rfl | rfl <;> assumption
        have hy3 : y ∈ σ2.1 := by rcases hy with rfl | rfl | rfl | rfl | rfl; exact mo2 _ mb1; exact mq _ (by simp); exact mq _ (by simp); exact mq _ (by simp); exact mq _ (by simp)
        rcases z with z | z
        · exact hy2 (by rw [z]; exact l1.amem)
        · rcases l1.dmem with q | q
          · exact h72 (by rw [← q.1, ← z]; exact hy3)
          · exact hy2 (by rw [z]; exact q)
      · rcases (show k = 0 ∨ k = 1 ∨ k = 2 ∨ k = 3 ∨ k = 4 by omega) with rfl | rfl | rfl | rfl | rfl
        · rw [b0]; exact t0
        · rw [b1]; exact t1
        · rw [b2]; exact t2
        · rw [b3]; exact t3
        · rw [b4]; exact t4
    · have hib : i < bs.length := by omega
      obtain ⟨f1, f2⟩ := l5 i hib
      have eg : gB (bs ++ [(c, m, [])]) (i : Int) = gB bs i := gB_snoc (by omega) (by omega)
      rw [eg]
      have eq : ∀ k, k < 5 → bq ad' base i k = bq ad base i k := fun k hk => aO _ (by omega) (by omega)
      have mem5 : ∀ k, k < 5 → bq ad base i k ∈ σ.1 := fun k hk => f1.in (by rcases (show k = 0 ∨ k = 1 ∨ k = 2 ∨ k = 3 ∨ k = 4 by omega) with rfl | rfl | rfl | rfl | rfl; exact Or.inl rfl; exact Or.inr (Or.inl rfl); exact Or.inr (Or.inr (Or.inl rfl)); exact Or.inr (Or.inr (Or.inr (Or.inl rfl))); exact Or.inr (Or.inr (Or.inr (Or.inr rfl))))
      unfold BnR
      rw [eq 0 (by decide), eq 1 (by decide), eq 2 (by decide), eq 3 (by decide), eq 4 (by decide)]
      refine ⟨f1.keep kT (fun y hy z => ?_), fun k hk => ?_⟩
      · have z1 : ∃ k, k < 5 ∧ y = bq ad base i k := by rcases hy with rfl | rfl | rfl | rfl | rfl; exact ⟨0, by decide, rfl⟩; exact ⟨1, by decide, rfl⟩; exact ⟨2, by decide, rfl⟩; exact ⟨3, by decide, rfl⟩; exact ⟨4, by decide, rfl⟩
        obtain ⟨k, hk, rfl⟩ := z1
        have := f2 k hk
        omega
      · rw [eq k hk, tT _ (mem5 k hk)]
        exact f2 k hk
theorem Ok.bin {bs : List Bn} {ru : Nat → Int × Int} {se : Int} {pf : Nat → Int} {hd : Hd} {evs : List Evt} {ln : List Int} (h : Ok bs ru se pf hd evs ln) (hl : bs.length < 6) {c : Int} {m : Bool} (hc : 1 ≤ c ∧ c ≤ 5000) : Ok (bs ++ [(c, m, [])]) ru se pf hd evs ln := by
  obtain ⟨h1, h2, h3, h4, h5, h6, h7⟩ := h
  have e1 : lenB (bs ++ [(c, m, [])]) = lenB bs := by rw [lenB_app]; rfl
  have e2 : totB (bs ++ [(c, m, [])]) = totB bs := by rw [totB_app]; exact Int.add_zero _
  refine ⟨by rw [List.length_append]; show bs.length + 1 ≤ 6; omega, fun b hb => ?_, by rw [e1]; exact h3, by rw [e2]; exact h4, h5, h6, h7.bin c m⟩
  rcases List.mem_append.mp hb with hb | hb
  · exact h2 b hb
  · cases List.mem_singleton.mp hb
    exact ⟨hc, fun _ hx => absurd hx List.not_mem_nil, by show (0 : Int) ≤ c; omega⟩
theorem LsB.elt {cy : Nat → Nat} {σ : Wd} {tg ad : Nat → Nat} {kl kd base : Nat} {bs : List Bn} (h : LsB cy σ tg ad kl kd base bs) {y : Nat} (hy : y ∈ bins ad base bs.length) : Elt σ y ∧ base ≤ tg y := by
  obtain ⟨i, hi, rfl⟩ := List.mem_map.mp hy
  have hi := List.mem_range.mp hi
  obtain ⟨⟨_, _, _, _, _, ⟨hh, -, -⟩, -⟩, h2⟩ := h.2.2 i hi
  exact ⟨Elt.bin hh, by have := h2 0 (by decide); show base ≤ tg (bq ad base i 0); omega⟩
theorem map_len {a b : List Bn} (h : a.map emp = b.map emp) : a.length = b.length := by
  have := congrArg List.length h
  rw [List.length_map, List.length_map] at this
  exact this
set_option maxHeartbeats 16000000 in
set_option maxRecDepth 20000 in
theorem c_addBin (l : Launch) (hfl : l.stackTraces = false) (D : va_G) (cy : Nat → Nat) (σ : Wd) (tg ad : Nat → Nat) (bs : List Bn) (ru : Nat → Int × Int) (se : Int) (pf : Nat → Int) (hd : Hd) (ca : Int) (evs : List Evt) (ln : List Int) (hX0 : RX cy σ tg ad bs ru se pf hd ca evs ln) (c : Int) (hc8 : (-2147483648 ≤ c ∧ c < 2147483648)) (m : Bool) (hc9 : 1 ≤ c ∧ c ≤ 5000) (hn6 : bs.length < 6) : Ct l yX6_addBin cX6_addBin 3 (some .int) 7 12 1158 D cy [.ref (ad 0), vi (c), vi (b01 m)] σ (fun v σ' => v = some (vi (bs.length : Int)) ∧ ∃ tg' ad' : Nat → Nat, RX cy σ' tg' ad' (bs ++ [(c, m, [])]) ru se pf hd ca evs ln ∧ (∀ y, y ∈ σ.1 → tg' y = tg y) ∧ ad' 0 = ad 0 ∧ Keep σ σ' (fun y => tg y < 1000) ∧ ∀ y, y ∈ σ.1 → y ∈ σ'.1) noX := by
  refine ct_start (by decide +kernel) hfl rfl (fun κ e1 e2 e3 C E NH => ?_)
  subst e1 e2 e3
  have C : Cx κ cX6_addBin 3 RX6 "addBin" 7 := C
  obtain ⟨-, -, -, -, hc, hs⟩ := id E
  show J κ σ [(0, .ref (ad 0)), (1, vi (c)), (2, vi (b01 m))] 0 [] 0 0
  have hXX := hX0
  obtain ⟨⟨x1, x2⟩, hB, ⟨bsA, hA, hAe⟩, hEv, hX, hO⟩ := hXX
  obtain ⟨⟨hR, t7, t8, t9⟩, ⟨hPr, t10⟩, ⟨hH, t11, t12⟩, cap0, hSb, t13, t14⟩ := id hX
  have hL1 := hB.1.1
  have hL5 := hEv.1.1
  have hbl := bins_len ad 100 bs.length
  have hel9 := evl_len ad evs.length
  have h6 := hB.2.1
  obtain ⟨⟨hc1, hc2⟩, hc3, hc4⟩ := hO.2.2.2.1
  have hev80 := hO.2.2.1.2
  have hpr := hO.2.2.2.2.1
  have hRo := hR.1
  have hHo := hH.1
  obtain ⟨ml0, g0, hSc, -⟩ := id hSb
  have hSo := hSc.1
  have hTb := totB_in hO.2.1
  obtain ⟨m91, hl91, -⟩ := id hL1
  obtain ⟨m92, hl92, -⟩ := id hL5
  have hm01 := b01_in m
  refine j_iload_n 1 C dX6_addBin_0 rfl rfl rfl ?_
  refine j_iconst C dX6_addBin_1 rfl ?_
  refine j_sipush C dX6_addBin_2 rfl (by decide) ?_
  refine j_callS (st' := []) (As := [vi (c), vi (1), vi (5000)]) C dX6_addBin_5 rfl m_X6_51 rfl rfl (c_crG (kL κ) hfl (kD κ) (kc κ) σ c 1 5000 hc8 ⟨by omega, by omega⟩ hc9) rfl (by omega) (by omega) (by omega) (fun _ _ hx => hx.elim) (fun v2 τ1 hp3 => ?_)
  obtain ⟨rfl, hs9⟩ := hp3
  replace hs9 := hs9.symm
  subst hs9
  show J κ σ [(0, .ref (ad 0)), (1, vi (c)), (2, vi (b01 m))] 8 [] _ _
  refine j_aload_n 0 C dX6_addBin_8 rfl rfl rfl ?_
  refine j_get C dX6_addBin_9 rfl fg_X6_12 x1 rfl ?_
  refine j_callV (st' := []) (As := []) C dX6_addBin_12 rfl m_X6_55 hl91 rfl rfl rfl (c_size (kL κ) hfl (kD κ) (kc κ) σ (ad 1) (ad 2) _ hL1) rfl (by omega) (by omega) (by omega) (fun _ _ hx => hx.elim) (fun v5 τ4 hp6 => ?_)
  obtain ⟨rfl, hs9⟩ := hp6
  replace hs9 := hs9.symm
  subst hs9
  show J κ σ [(0, .ref (ad 0)), (1, vi (c)), (2, vi (b01 m))] 15 [vi (((bins ad 100 bs.length).length : Int))] _ _
  rw [hbl]
  refine j_bipush C dX6_addBin_15 rfl (by decide) ?_
  refine j_icmp_lt (tgt := 30) C dX6_addBin_17 rfl rfl ⟨by omega, by omega⟩ ⟨by omega, by omega⟩ (fun cc7 => ?_) (fun cc7 => ?_)
  · refine j_aload_n 0 C dX6_addBin_30 rfl rfl rfl ?_
    refine j_get C dX6_addBin_31 rfl fg_X6_12 x1 rfl ?_
    have kp0 : Keep σ σ (fun _ => False) := Keep.rf
    have dm0 : σ.1 = σ.1 := rfl
    refine j_new C dX6_addBin_34 rfl na_X6_66 (by omega) (by omega) (k' := 1) (n' := 9) (by first | rfl | omega) (by first | rfl | omega) (fun b1 τ8 nq10 ee9 => ?_)
    have u11 := x1.old' ee9 nq10
    have u12 := hl91.old' ee9 nq10
    have u13 := hl92.old' ee9 nq10
    have u14 := hRo.old' ee9 nq10
    have u15 := hPr.old' ee9 nq10
    have u16 := hHo.old' ee9 nq10
    have u17 := hH.2.old' ee9 nq10
    have u18 := hSo.old' ee9 nq10
    have u19 : has τ8 b1 (.inr (0, [vi (0), vi (0), .null, .null, .null, .null, vi (0), vi (0), vi (0)])) := has.fresh' ee9
    have kp20 := kp0.new ee9 nq10
    have dm21 := (dom_new ee9).trans (congrArg (· ++ [b1]) dm0)
    have n01 : b1 ∉ σ.1 := nq10
    have e11 : τ8.1 = σ.1 ++ [b1] := dm21
    have k11 : Keep σ τ8 (fun _ => False) := kp20
    refine j_dup C dX6_addBin_37 rfl rfl ?_
    refine j_iload_n 1 C dX6_addBin_38 rfl rfl rfl ?_
    refine j_iload_n 2 C dX6_addBin_39 rfl rfl rfl ?_
    refine j_callI (st' := [.ref b1, .ref (ad 1)]) (As := [vi (c), vi (b01 m)]) C dX6_addBin_40 rfl m_X6_68 rfl rfl (c_binInit (kL κ) hfl (kD κ) (kc κ) τ8 b1 c m u19) rfl (by omega) (by omega) (by omega) (fun _ _ hx => hx.elim) (fun v23 τ22 hp24 => ?_)
    obtain ⟨rfl, q11, q21, q31, q41, hB1, hq1, k21, e21⟩ := hp24
    show J κ τ22 [(0, .ref (ad 0)), (1, vi (c)), (2, vi (b01 m))] 43 [.ref b1, .ref (ad 1)] _ _
    have k021 : Keep σ τ22 (fun _ => False) := k11.tr2 k21 (fun y z => Or.inr (by rw [show y = b1 from z]; exact n01))
    refine j_t0 C (fun h721 => ?_)
    have hLs1 := hB.keep k021 (fun _ _ z => z.elim)
    have hx21 := k021 _ _ x1 (fun z => z)
    have hll1 := hLs1.1.1
    obtain ⟨_, _, _, _, _, ⟨hbo1, -, -⟩, -⟩ := id hB1
    show J κ τ22 [(0, .ref (ad 0)), (1, vi (c)), (2, vi (b01 m))] 43 [.ref b1, .ref (ad 1)] 5 329
    obtain ⟨mA1, hlA1, -⟩ := id hll1
    have hBl := hB
    have hne1 : b1 ≠ (ad 1) := fun z => n01 (by rw [z]; exact hBl.1.1.amem)
    have hnd1 : b1 ≠ (ad 2) := fun z => hBl.1.1.dmem.elim (fun q => h721 (by rw [← q.1, ← z]; exact hbo1.1)) (fun q => n01 (by rw [z]; exact q))
    refine j_callV (st' := []) (As := [.ref b1]) C dX6_addBin_43 rfl m_X6_71 hlA1 rfl rfl rfl (c_listAdd (kL κ) hfl (kD κ) (kc κ) τ22 (ad 1) (ad 2) (bins ad 100 bs.length) hll1 (by rw [bins_len]; omega) (fun y hy => (hLs1.elt hy).1) (fun y hy z => by have z1 := (hLs1.elt hy).2; rw [z] at z1; have z2 := hLs1.1.2.1; omega) b1 (Elt.bin hbo1) hne1 hnd1) rfl (by omega) (by omega) (by omega) (fun _ _ hx => hx.elim) (fun v26 τ25 hp27 => ?_)
    obtain ⟨rfl, d1, hr11, hr21, hr31⟩ := hp27
    show J κ τ25 [(0, .ref (ad 0)), (1, vi (c)), (2, vi (b01 m))] 46 [vi (1)] 6 579
    obtain ⟨tg1, ad1, hS1, hT1, hA1, hK1, hM1⟩ := addStage hB h721 hn6 ⟨by decide, by decide, by decide, by decide⟩ n01 e11 k11 hB1 hq1 k21 e21 hr11 hr21 hr31
    have hbA := map_len hAe
    have hAl := (hA.keep hK1 (fun y hy z => by omega)).retagS hT1 (fun i hi y hy => (hA.2.2 i hi).1.in hy) hA.1.1 (fun k hk => hA1 k (by omega) (by omega))
    have x13 := hK1 _ _ x1 (fun z => by omega)
    have a0 := hA1 0 (by decide) (by omega)
    have a1 := hA1 1 (by decide) (by omega)
    have a3 := hA1 3 (by decide) (by omega)
    have a5 := hA1 5 (by decide) (by omega)
    have a7 := hA1 7 (by decide) (by omega)
    have a10 := hA1 10 (by decide) (by omega)
    have a11 := hA1 11 (by decide) (by omega)
    have a13 := hA1 13 (by decide) (by omega)
    refine j_pop C dX6_addBin_46 rfl rfl ?_
    refine j_aload_n 0 C dX6_addBin_47 rfl rfl rfl ?_
    refine j_get C dX6_addBin_48 rfl fg_X6_16 x13 rfl ?_
    have hA9 := hAl
    have kp0 : Keep τ25 τ25 (fun _ => False) := Keep.rf
    have dm0 : τ25.1 = τ25.1 := rfl
    refine j_new C dX6_addBin_51 rfl na_X6_66 (by omega) (by omega) (k' := 7) (n' := 588) (by first | rfl | omega) (by first | rfl | omega) (fun b2 τ28 nq30 ee29 => ?_)
    have u31 := x13.old' ee29 nq30
    have u32 : has τ28 b2 (.inr (0, [vi (0), vi (0), .null, .null, .null, .null, vi (0), vi (0), vi (0)])) := has.fresh' ee29
    have kp33 := kp0.new ee29 nq30
    have dm34 := (dom_new ee29).trans (congrArg (· ++ [b2]) dm0)
    have n02 : b2 ∉ τ25.1 := nq30
    have e12 : τ28.1 = τ25.1 ++ [b2] := dm34
    have k12 : Keep τ25 τ28 (fun _ => False) := kp33
    refine j_dup C dX6_addBin_54 rfl rfl ?_
    refine j_iload_n 1 C dX6_addBin_55 rfl rfl rfl ?_
    refine j_iload_n 2 C dX6_addBin_56 rfl rfl rfl ?_
    refine j_callI (st' := [.ref b2, .ref (ad 3)]) (As := [vi (c), vi (b01 m)]) C dX6_addBin_57 rfl m_X6_68 rfl rfl (c_binInit (kL κ) hfl (kD κ) (kc κ) τ28 b2 c m u32) rfl (by omega) (by omega) (by omega) (fun _ _ hx => hx.elim) (fun v36 τ35 hp37 => ?_)
    obtain ⟨rfl, q12, q22, q32, q42, hB2, hq2, k22, e22⟩ := hp37
    show J κ τ35 [(0, .ref (ad 0)), (1, vi (c)), (2, vi (b01 m))] 60 [.ref b2, .ref (ad 3)] _ _
    have k022 : Keep τ25 τ35 (fun _ => False) := k12.tr2 k22 (fun y z => Or.inr (by rw [show y = b2 from z]; exact n02))
    refine j_t0 C (fun h722 => ?_)
    have hLs2 := hAl.keep k022 (fun _ _ z => z.elim)
    have hx22 := k022 _ _ x13 (fun z => z)
    have hll2 := hLs2.1.1
    rw [a3] at hll2
    obtain ⟨_, _, _, _, _, ⟨hbo2, -, -⟩, -⟩ := id hB2
    show J κ τ35 [(0, .ref (ad 0)), (1, vi (c)), (2, vi (b01 m))] 60 [.ref b2, .ref (ad 3)] 11 908
    obtain ⟨mA2, hlA2, -⟩ := id hll2
    have hne2 : b2 ≠ ad 3 := fun z => n02 (by rw [z, ← a3]; exact hAl.1.1.amem)
    have hnd2 : b2 ≠ ad1 4 := fun z => hAl.1.1.dmem.elim (fun q => h722 (by rw [← q.1, ← z]; exact hbo2.1)) (fun q => n02 (by rw [z]; exact q))
    refine j_callV (st' := []) (As := [.ref b2]) C dX6_addBin_60 rfl m_X6_71 hlA2 rfl rfl rfl (c_listAdd (kL κ) hfl (kD κ) (kc κ) τ35 (ad 3) (ad1 4) (bins ad1 200 bsA.length) hll2 (by rw [bins_len]; omega) (fun y hy => (hLs2.elt hy).1) (fun y hy z => by have z1 := (hLs2.elt hy).2; rw [z] at z1; have z2 := hLs2.1.2.1; rw [a3] at z2; omega) b2 (Elt.bin hbo2) hne2 hnd2) rfl (by omega) (by omega) (by omega) (fun _ _ hx => hx.elim) (fun v39 τ38 hp40 => ?_)
    obtain ⟨rfl, d2, hr12, hr22, hr32⟩ := hp40
    show J κ τ38 [(0, .ref (ad 0)), (1, vi (c)), (2, vi (b01 m))] 63 [vi (1)] 12 1158
    rw [← a3] at hr12 hr32
    obtain ⟨tg2, ad2, hS2, hT2, hA2, hK2, hM2⟩ := addStage hAl h722 (by omega) ⟨by decide, by decide, by decide, by decide⟩ n02 e12 k12 hB2 hq2 k22 e22 hr12 hr22 hr32
    have x16 := hK2 _ _ x13 (fun z => by have z1 := hT1 _ x1.1; omega)
    have hS16 := hS1.keep hK2 (fun y hy z => by omega)
    have hlb := hS16.1.1
    rw [a1] at hlb
    obtain ⟨mB, hlB, -⟩ := id hlb
    refine j_pop C dX6_addBin_63 rfl rfl ?_
    refine j_aload_n 0 C dX6_addBin_64 rfl rfl rfl ?_
    refine j_get C dX6_addBin_65 rfl fg_X6_12 x16 rfl ?_
    refine j_callV (st' := []) (As := []) C dX6_addBin_68 rfl m_X6_55 hlB rfl rfl rfl (c_size (kL κ) hfl (kD κ) (kc κ) τ38 (ad 1) (ad1 2) _ hlb) rfl (by omega) (by omega) (by omega) (fun _ _ hx => hx.elim) (fun v42 τ41 hp43 => ?_)
    obtain ⟨rfl, hs9⟩ := hp43
    replace hs9 := hs9.symm
    subst hs9
    show J κ τ38 [(0, .ref (ad 0)), (1, vi (c)), (2, vi (b01 m))] 71 [vi (((bins ad1 100 (bs ++ [(c, m, [])]).length).length : Int))] _ _
    rw [bins_len]
    have hl1 : (((bs ++ [(c, m, [])]).length : Nat) : Int) = (bs.length : Int) + 1 := by rw [List.length_append]; rfl
    rw [hl1]
    refine j_iconst C dX6_addBin_71 rfl ?_
    refine j_isub C dX6_addBin_72 rfl ?_
    have hT : ∀ y, y ∈ σ.1 → tg2 y = tg y := fun y hy => (hT2 y (hM1 y hy)).trans (hT1 y hy)
    have hAd : ∀ k, k ≠ 2 → k ≠ 4 → (k < 100 + 5 * bs.length ∨ 100 + 5 * bs.length + 5 ≤ k) → (k < 200 + 5 * bs.length ∨ 200 + 5 * bs.length + 5 ≤ k) → ad2 k = ad k := fun k h1 h2 h3 h4 => (hA2 k h2 (by omega)).trans (hA1 k h1 h3)
    have hKK : Keep σ τ38 (fun y => tg y = 1 ∨ tg y = 2 ∨ tg y = 3 ∨ tg y = 4) := (hK1.mono (fun y z => z.elim Or.inl (fun z => Or.inr (Or.inl z)))).tr2 hK2 (fun y z => (Classical.em (y ∈ σ.1)).elim (fun hy => Or.inl (by have z1 := hT1 y hy; show tg y = 1 ∨ tg y = 2 ∨ tg y = 3 ∨ tg y = 4; omega)) Or.inr)
    have hxe : xV ad2 ca = xV ad ca := by unfold xV; rw [hAd 1 (by decide) (by decide) (by omega) (by omega), hAd 3 (by decide) (by decide) (by omega) (by omega), hAd 5 (by decide) (by decide) (by omega) (by omega), hAd 7 (by decide) (by decide) (by omega) (by omega), hAd 10 (by decide) (by decide) (by omega) (by omega), hAd 11 (by decide) (by decide) (by omega) (by omega), hAd 13 (by decide) (by decide) (by omega) (by omega)]
    have had0 := hAd 0 (by decide) (by decide) (by omega) (by omega)
    have hEv6 := (hEv.keep hKK (fun y hy z => by omega) hev80).retagS hEv hT (fun k hk => hAd k (by omega) (by omega) (by omega) (by omega))
    have hX6 := (hX.keep hKK (fun y hy z => by omega)).retagS hX hT (fun k h7 h14 => hAd k (by omega) (by omega) (by omega) (by omega))
    have hB6 := hS16.retagS hT2 (fun i hi y hy => (hS1.2.2 i hi).1.in hy) hS1.1.1 (fun k hk => hA2 k (by omega) (by omega))
    exact j_iret C E dX6_addBin_73 (by omega) (by omega) ⟨congrArg some (congrArg vi (by omega)), tg2, ad2, ⟨⟨by rw [had0, hxe]; exact x16, by rw [had0, hT _ x1.1]; exact x2⟩, hB6, ⟨_, hS2, by rw [List.map_append, List.map_append, hAe]⟩, hEv6, hX6, hO.bin hn6 hc9⟩, hT, had0, hKK.mono (fun y z => by show tg y < 1000; omega), fun y hy => hM2 y (hM1 y hy)⟩
  · exact absurd cc7 (by omega)
set_option maxHeartbeats 4000000 in
set_option maxRecDepth 20000 in
theorem c_addBinB1 (l : Launch) (hfl : l.stackTraces = false) (D : va_G) (cy : Nat → Nat) (σ : Wd) (tg ad : Nat → Nat) (bs : List Bn) (ru : Nat → Int × Int) (se : Int) (pf : Nat → Int) (hd : Hd) (ca : Int) (evs : List Evt) (ln : List Int) (hX0 : RX cy σ tg ad bs ru se pf hd ca evs ln) (c : Int) (hc8 : (-2147483648 ≤ c ∧ c < 2147483648)) (m : Bool) (h : c < 1 ∨ 5000 < c) : Ct l yX6_addBin cX6_addBin 3 (some .int) 7 1 6 D cy [.ref (ad 0), vi (c), vi (b01 m)] σ (fun v σ' => False) (fun E9 σ' => E9 = "java/lang/IllegalArgumentException" ∧ σ' = σ) := by
  refine ct_start (by decide +kernel) hfl rfl (fun κ e1 e2 e3 C E NH => ?_)
  subst e1 e2 e3
  have C : Cx κ cX6_addBin 3 RX6 "addBin" 7 := C
  obtain ⟨-, -, -, -, hc, hs⟩ := id E
  show J κ σ [(0, .ref (ad 0)), (1, vi (c)), (2, vi (b01 m))] 0 [] 0 0
  have hXX := hX0
  obtain ⟨⟨x1, x2⟩, hB, ⟨bsA, hA, hAe⟩, hEv, hX, hO⟩ := hXX
  obtain ⟨⟨hR, t7, t8, t9⟩, ⟨hPr, t10⟩, ⟨hH, t11, t12⟩, cap0, hSb, t13, t14⟩ := id hX
  have hL1 := hB.1.1
  have hL5 := hEv.1.1
  have hbl := bins_len ad 100 bs.length
  have hel9 := evl_len ad evs.length
  have h6 := hB.2.1
  obtain ⟨⟨hc1, hc2⟩, hc3, hc4⟩ := hO.2.2.2.1
  have hev80 := hO.2.2.1.2
  have hpr := hO.2.2.2.2.1
  have hRo := hR.1
  have hHo := hH.1
  obtain ⟨ml0, g0, hSc, -⟩ := id hSb
  have hSo := hSc.1
  have hTb := totB_in hO.2.1
  obtain ⟨m91, hl91, -⟩ := id hL1
  obtain ⟨m92, hl92, -⟩ := id hL5
  refine j_iload_n 1 C dX6_addBin_0 rfl rfl rfl ?_
  refine j_iconst C dX6_addBin_1 rfl ?_
  refine j_sipush C dX6_addBin_2 rfl (by decide) ?_
  refine j_callS (st' := []) (As := [vi (c), vi (1), vi (5000)]) C dX6_addBin_5 rfl m_X6_51 rfl rfl (c_crB (kL κ) hfl (kD κ) (kc κ) σ c 1 5000 hc8 ⟨by omega, by omega⟩ h) rfl (by omega) (by omega) (by omega) (fun E9 σ9 hx => jx_out C E NH (by omega) (by omega) hx) (fun v2 τ1 hp3 => ?_)
  exact hp3.elim
set_option maxHeartbeats 4000000 in
set_option maxRecDepth 20000 in
theorem c_addBinB2 (l : Launch) (hfl : l.stackTraces = false) (D : va_G) (cy : Nat → Nat) (σ : Wd) (tg ad : Nat → Nat) (bs : List Bn) (ru : Nat → Int × Int) (se : Int) (pf : Nat → Int) (hd : Hd) (ca : Int) (evs : List Evt) (ln : List Int) (hX0 : RX cy σ tg ad bs ru se pf hd ca evs ln) (c : Int) (hc8 : (-2147483648 ≤ c ∧ c < 2147483648)) (m : Bool) (hc9 : 1 ≤ c ∧ c ≤ 5000) (hn6 : (bs.length : Int) = 6) : Ct l yX6_addBin cX6_addBin 3 (some .int) 7 1 6 D cy [.ref (ad 0), vi (c), vi (b01 m)] σ (fun v σ' => False) (fun E9 σ' => E9 = "java/lang/IllegalStateException" ∧ σ' = σ) := by
  refine ct_start (by decide +kernel) hfl rfl (fun κ e1 e2 e3 C E NH => ?_)
  subst e1 e2 e3
  have C : Cx κ cX6_addBin 3 RX6 "addBin" 7 := C
  obtain ⟨-, -, -, -, hc, hs⟩ := id E
  show J κ σ [(0, .ref (ad 0)), (1, vi (c)), (2, vi (b01 m))] 0 [] 0 0
  have hXX := hX0
  obtain ⟨⟨x1, x2⟩, hB, ⟨bsA, hA, hAe⟩, hEv, hX, hO⟩ := hXX
  obtain ⟨⟨hR, t7, t8, t9⟩, ⟨hPr, t10⟩, ⟨hH, t11, t12⟩, cap0, hSb, t13, t14⟩ := id hX
  have hL1 := hB.1.1
  have hL5 := hEv.1.1
  have hbl := bins_len ad 100 bs.length
  have hel9 := evl_len ad evs.length
  have h6 := hB.2.1
  obtain ⟨⟨hc1, hc2⟩, hc3, hc4⟩ := hO.2.2.2.1
  have hev80 := hO.2.2.1.2
  have hpr := hO.2.2.2.2.1
  have hRo := hR.1
  have hHo := hH.1
  obtain ⟨ml0, g0, hSc, -⟩ := id hSb
  have hSo := hSc.1
  have hTb := totB_in hO.2.1
  obtain ⟨m91, hl91, -⟩ := id hL1
  obtain ⟨m92, hl92, -⟩ := id hL5
  refine j_iload_n 1 C dX6_addBin_0 rfl rfl rfl ?_
  refine j_iconst C dX6_addBin_1 rfl ?_
  refine j_sipush C dX6_addBin_2 rfl (by decide) ?_
  refine j_callS (st' := []) (As := [vi (c), vi (1), vi (5000)]) C dX6_addBin_5 rfl m_X6_51 rfl rfl (c_crG (kL κ) hfl (kD κ) (kc κ) σ c 1 5000 hc8 ⟨by omega, by omega⟩ hc9) rfl (by omega) (by omega) (by omega) (fun _ _ hx => hx.elim) (fun v2 τ1 hp3 => ?_)
  obtain ⟨rfl, hs9⟩ := hp3
  replace hs9 := hs9.symm
  subst hs9
  show J κ σ [(0, .ref (ad 0)), (1, vi (c)), (2, vi (b01 m))] 8 [] _ _
  refine j_aload_n 0 C dX6_addBin_8 rfl rfl rfl ?_
  refine j_get C dX6_addBin_9 rfl fg_X6_12 x1 rfl ?_
  refine j_callV (st' := []) (As := []) C dX6_addBin_12 rfl m_X6_55 hl91 rfl rfl rfl (c_size (kL κ) hfl (kD κ) (kc κ) σ (ad 1) (ad 2) _ hL1) rfl (by omega) (by omega) (by omega) (fun _ _ hx => hx.elim) (fun v5 τ4 hp6 => ?_)
  obtain ⟨rfl, hs9⟩ := hp6
  replace hs9 := hs9.symm
  subst hs9
  show J κ σ [(0, .ref (ad 0)), (1, vi (c)), (2, vi (b01 m))] 15 [vi (((bins ad 100 bs.length).length : Int))] _ _
  rw [hbl]
  refine j_bipush C dX6_addBin_15 rfl (by decide) ?_
  refine j_icmp_lt (tgt := 30) C dX6_addBin_17 rfl rfl ⟨by omega, by omega⟩ ⟨by omega, by omega⟩ (fun cc7 => ?_) (fun cc7 => ?_)
  · exact absurd cc7 (by omega)
  · exact j_throw C E NH tx_X6_59_63 (is := 61) (text := "there are 6 bins") (by decide) dX6_addBin_20 dX6_addBin_23 dX6_addBin_24 dX6_addBin_26 dX6_addBin_29 rfl (by omega) (by omega) ⟨rfl, rfl⟩
