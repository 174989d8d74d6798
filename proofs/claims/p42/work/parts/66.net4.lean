/-! the law's own: all, note, copied, cost, share -/
theorem totB_takeN : ∀ (bs : List Bn) (k : Nat), k < bs.length → totB (bs.take (k + 1)) = totB (bs.take k) + tot (gB bs (k : Int)).2.2
  | [], k, h => absurd h (Nat.not_lt_zero _)
  | b :: l, 0, h => by
    show tot b.2.2 + totB (l.take 0) = 0 + tot b.2.2
    simp [totB]
  | b :: l, k + 1, h => by
    have ih := totB_takeN l k (by simpa using h)
    have e : gB (b :: l) ((k + 1 : Nat) : Int) = gB l (k : Int) := by
      unfold gB
      rw [Int.toNat_natCast, Int.toNat_natCast, List.getD_cons_succ]
    rw [e, List.take_succ_cons, List.take_succ_cons]
    simp only [totB]
    omega
set_option maxHeartbeats 4000000 in
set_option maxRecDepth 20000 in
theorem c_all (l : Launch) (hfl : l.stackTraces = false) (D : va_G) (cy : Nat → Nat) (σ : Wd) (a : Nat) (g : Nat → Int) (hA : has σ a (iA cy 2700 g)) (bs : List Bn) (hNt : NetL g bs) : Ct l yL_all cL_all 3 (some .int) 2 0 0 D cy [.ref a] σ (fun v σ' => v = some (vi (totB bs)) ∧ σ' = σ) noX := by
  refine ct_start (by decide +kernel) hfl rfl (fun κ e1 e2 e3 C E NH => ?_)
  subst e1 e2 e3
  have C : Cx κ cL_all 3 RL "all" 2 := C
  obtain ⟨-, -, -, -, hc, hs⟩ := id E
  show J κ σ [(0, .ref a)] 0 [] 0 0
  have h6 := hNt.2.1
  refine j_iconst C dL_all_0 rfl ?_
  refine j_istore_n (lv' := [(0, .ref a), (1, vi (0))]) [1, 0] C dL_all_1 rfl rfl rfl rfl ?_
  refine j_iconst C dL_all_2 rfl ?_
  refine j_istore_n (lv' := [(0, .ref a), (1, vi (0)), (2, vi (0))]) [1, 2, 0] C dL_all_3 rfl rfl rfl rfl ?_
  have lp : ∀ (N : Nat) (k : Nat), k ≤ bs.length → (bs.length + 1 - k) < N → J κ σ [(0, .ref a), (1, vi ((totB (bs.take k)))), (2, vi ((k : Int)))] 4 [] 0 0 := by
    intro N
    induction N with
    | zero => intro k hk hN; exact absurd hN (Nat.not_lt_zero _)
    | succ N ih =>
      intro k hk hN
      refine j_iload_n 2 C dL_all_4 rfl rfl rfl ?_
      refine j_aload_n 0 C dL_all_5 rfl rfl rfl ?_
      refine j_iconst C dL_all_6 rfl ?_
      refine j_iald C dL_all_7 rfl hA ⟨by omega, by omega⟩ (by omega) hNt.1 ?_
      refine j_icmp_ge (tgt := 25) C dL_all_8 rfl rfl ⟨by omega, by omega⟩ ⟨by omega, by omega⟩ (fun cc1 => ?_) (fun cc1 => ?_)
      · refine j_iload_n 1 C dL_all_25 rfl rfl rfl ?_
        exact j_iret C E dL_all_26 (by omega) (by omega) ⟨congrArg some (congrArg vi (by rw [List.take_of_length_le (by omega)])), rfl⟩
      · refine j_iload_n 1 C dL_all_11 rfl rfl rfl ?_
        refine j_aload_n 0 C dL_all_12 rfl rfl rfl ?_
        refine j_iload_n 2 C dL_all_13 rfl rfl rfl ?_
        refine j_callS (st' := [vi ((totB (bs.take k)))]) (As := [.ref a, vi ((k : Int))]) C dL_all_14 rfl m_L_113 rfl rfl (c_within (kL κ) hfl (kD κ) (kc κ) σ a g hA bs hNt k (by omega)) rfl (by omega) (by omega) (by omega) (fun _ _ hx => hx.elim) (fun v3 τ2 hp4 => ?_)
        obtain ⟨rfl, hs9⟩ := hp4
        replace hs9 := hs9.symm
        subst hs9
        show J κ σ [(0, .ref a), (1, vi ((totB (bs.take k)))), (2, vi ((k : Int)))] 17 [vi ((tot (gB bs (k : Int)).2.2)), vi ((totB (bs.take k)))] _ _
        refine j_iadd C dL_all_17 rfl ?_
        refine j_istore_n (lv' := [(0, .ref a), (1, vi ((totB (bs.take k)) + (tot (gB bs (k : Int)).2.2))), (2, vi ((k : Int)))]) [1, 0, 2] C dL_all_18 rfl rfl rfl rfl ?_
        refine j_iinc (y := (k : Int) + 1) (lv' := [(0, .ref a), (1, vi ((totB (bs.take k)) + (tot (gB bs (k : Int)).2.2))), (2, vi ((k : Int) + 1))]) 2 [1, 2, 0] C dL_all_19 rfl rfl rfl rfl rfl ?_
        refine j_goto (tgt := 4) C dL_all_22 rfl ?_
        have hs9 := totB_takeN bs k (by omega)
        rw [← hs9]
        exact ih (k + 1) (by omega) (by omega)
  exact lp _ 0 (Nat.zero_le _) (Nat.lt_succ_self _)
theorem NetL.cong2 {g G : Nat → Int} {bs : List Bn} (h : NetL g bs) (hG : ∀ q : Nat, (q = 0 ∨ (10 ≤ q ∧ q < 36) ∨ (260 ≤ q ∧ q < 2700)) → q ≠ 2 → G q = g q) : NetL G bs := by
  obtain ⟨h0, h6, h1, hz⟩ := h
  refine ⟨(hG 0 (by omega) (by omega)).trans h0, h6, fun b hb => ?_, fun b q1 q2 => (hG _ (by omega) (by omega)).trans (hz b q1 q2)⟩
  obtain ⟨⟨a1, a2⟩, ⟨a3, a4⟩, a5⟩ := h1 b hb
  have e := fl_len (gB bs (b : Int))
  exact ⟨⟨(hG _ (by omega) (by omega)).trans a1, (hG _ (by omega) (by omega)).trans a2⟩, ⟨a3.cong (hG _ (by omega) (by omega)) (fun q hq1 hq2 => hG q (by omega) (by omega)), a4⟩, a5⟩
set_option maxHeartbeats 4000000 in
set_option maxRecDepth 20000 in
theorem c_note (l : Launch) (hfl : l.stackTraces = false) (D : va_G) (cy : Nat → Nat) (σ : Wd) (a : Nat) (g : Nat → Int) (hA : has σ a (iA cy 2700 g)) (bs : List Bn) (hNt : NetL g bs) (hBk : ∀ b ∈ bs, BnOk b) (ne : Nat) (h2 : g 2 = (ne : Int)) (hne : ne < 80) (h3 : 0 ≤ g 3 ∧ g 3 ≤ (ne : Int)) (h5 : -1000000 ≤ g 5 ∧ g 5 ≤ 1000000) (kd : Int) : Ct l yL_note cL_note 3 none 3 0 0 D cy [.ref a, vi (kd)] σ (fun v σ' => v = none ∧ ∃ G : Nat → Int, has σ' a (iA cy 2700 G) ∧ (∀ q : Nat, q ≠ 2 → q ≠ 3 → q ≠ 5 → ¬ (80 ≤ q ∧ q < 260) → G q = g q) ∧ (G 2 = (ne : Int) + 1 ∧ (0 ≤ G 3 ∧ G 3 ≤ (ne : Int) + 1) ∧ G 5 = totB bs) ∧ Keep σ σ' (fun y => y = a) ∧ σ'.1 = σ.1) noX := by
  refine ct_start (by decide +kernel) hfl rfl (fun κ e1 e2 e3 C E NH => ?_)
  subst e1 e2 e3
  have C : Cx κ cL_note 3 RL "note" 3 := C
  obtain ⟨-, -, -, -, hc, hs⟩ := id E
  show J κ σ [(0, .ref a), (1, vi (kd))] 0 [] 0 0
  have h6 := hNt.2.1
  have kp0 : Keep σ σ (fun y => y = a) := Keep.rf
  have dm0 : σ.1 = σ.1 := rfl
  have htb := totB_in hBk
  obtain ⟨tr, htr⟩ : ∃ z, g 3 = z := ⟨_, rfl⟩
  obtain ⟨ow, how⟩ : ∃ z, g 5 = z := ⟨_, rfl⟩
  rw [htr] at h3
  rw [how] at h5
  refine j_aload_n 0 C dL_note_0 rfl rfl rfl ?_
  refine j_bipush C dL_note_1 rfl (by decide) ?_
  refine j_aload_n 0 C dL_note_3 rfl rfl rfl ?_
  refine j_iconst C dL_note_4 rfl ?_
  refine j_iald C dL_note_5 rfl hA ⟨by omega, by omega⟩ (by omega) h2 ?_
  refine j_iadd C dL_note_6 rfl ?_
  refine j_iload_n 1 C dL_note_7 rfl rfl rfl ?_
  refine j_iast C dL_note_8 rfl hA ⟨by omega, by omega⟩ (by omega) (fun τ1 ee2 => ?_)
  have u3 : has τ1 a (iA (kc κ) 2700 (ups g (80 + (ne : Int)).toNat kd)) := hA.self' ee2
  have kp4 := kp0.put ee2 rfl
  have dm5 := (dom_put ee2).trans dm0
  refine j_aload_n 0 C dL_note_9 rfl rfl rfl ?_
  refine j_iconst C dL_note_10 rfl ?_
  refine j_dup2 C dL_note_11 rfl rfl rfl ?_
  refine j_iald C dL_note_12 rfl u3 ⟨by omega, by omega⟩ (by omega) ((ups_n (by omega)).trans h2) ?_
  refine j_iconst C dL_note_13 rfl ?_
  refine j_iadd C dL_note_14 rfl ?_
  refine j_iast C dL_note_15 rfl u3 ⟨by omega, by omega⟩ (by omega) (fun τ6 ee7 => ?_)
  have u8 : has τ6 a (iA (kc κ) 2700 (ups (ups g (80 + (ne : Int)).toNat kd) 2 ((ne : Int) + 1))) := u3.self' ee7
  have kp9 := kp4.put ee7 rfl
  have dm10 := (dom_put ee7).trans dm5
  refine j_aload_n 0 C dL_note_16 rfl rfl rfl ?_
  obtain ⟨G1, hG1⟩ : ∃ f : Nat → Int, (ups (ups g (80 + (ne : Int)).toNat kd) 2 ((ne : Int) + 1)) = f := ⟨_, rfl⟩
  have hAA := u8
  rw [hG1] at hAA
  have g1o : ∀ q : Nat, q ≠ 2 → ¬ (80 ≤ q ∧ q < 260) → G1 q = g q := fun q a b => by rw [← hG1, ups_n (by omega), ups_n (by omega)]
  have g12 : G1 2 = (ne : Int) + 1 := by rw [← hG1]; exact ups_u rfl
  have hN1 : NetL G1 bs := hNt.cong2 (fun q hq hq2 => g1o q hq2 (by omega))
  refine j_callS (st' := []) (As := [.ref a]) C dL_note_17 rfl m_L_116 rfl rfl (c_all (kL κ) hfl (kD κ) (kc κ) τ6 a G1 hAA bs hN1) rfl (by omega) (by omega) (by omega) (fun _ _ hx => hx.elim) (fun v12 τ11 hp13 => ?_)
  obtain ⟨rfl, hs9⟩ := hp13
  replace hs9 := hs9.symm
  subst hs9
  show J κ τ6 [(0, .ref a), (1, vi (kd))] 20 [vi ((totB bs))] _ _
  refine j_aload_n 0 C dL_note_20 rfl rfl rfl ?_
  refine j_iconst C dL_note_21 rfl ?_
  refine j_iald C dL_note_22 rfl hAA ⟨by omega, by omega⟩ (by omega) ((g1o 5 (by omega) (by omega)).trans how) ?_
  refine j_isub C dL_note_23 rfl ?_
  refine j_istore_n (lv' := [(0, .ref a), (1, vi (kd)), (2, vi ((totB bs) - ow))]) [1, 2, 0] C dL_note_24 rfl rfl rfl rfl ?_
  refine j_iload_n 2 C dL_note_25 rfl rfl rfl ?_
  refine j_if_eq (tgt := 53) C dL_note_26 rfl rfl ⟨by omega, by omega⟩ (fun cc14 => ?_) (fun cc14 => ?_)
  · have e9 : totB bs = ow := by omega
    exact j_vret C E dL_note_53 (by omega) (by omega) ⟨rfl, G1, hAA, fun q a b c d => g1o q a d, ⟨g12, by rw [g1o 3 (by omega) (by omega), htr]; omega, by rw [g1o 5 (by omega) (by omega), how, e9]⟩, kp9, dm10⟩
  · refine j_aload_n 0 C dL_note_29 rfl rfl rfl ?_
    refine j_sipush C dL_note_30 rfl (by decide) ?_
    refine j_aload_n 0 C dL_note_33 rfl rfl rfl ?_
    refine j_iconst C dL_note_34 rfl ?_
    refine j_iald C dL_note_35 rfl hAA ⟨by omega, by omega⟩ (by omega) ((g1o 3 (by omega) (by omega)).trans htr) ?_
    refine j_iadd C dL_note_36 rfl ?_
    refine j_iload_n 2 C dL_note_37 rfl rfl rfl ?_
    refine j_iast C dL_note_38 rfl hAA ⟨by omega, by omega⟩ (by omega) (fun τ15 ee16 => ?_)
    have u17 : has τ15 a (iA (kc κ) 2700 (ups G1 (170 + tr).toNat ((totB bs) - ow))) := hAA.self' ee16
    have kp18 := kp9.put ee16 rfl
    have dm19 := (dom_put ee16).trans dm10
    refine j_aload_n 0 C dL_note_39 rfl rfl rfl ?_
    refine j_iconst C dL_note_40 rfl ?_
    refine j_dup2 C dL_note_41 rfl rfl rfl ?_
    refine j_iald C dL_note_42 rfl u17 ⟨by omega, by omega⟩ (by omega) ((ups_n (by omega)).trans ((g1o 3 (by omega) (by omega)).trans htr)) ?_
    refine j_iconst C dL_note_43 rfl ?_
    refine j_iadd C dL_note_44 rfl ?_
    refine j_iast C dL_note_45 rfl u17 ⟨by omega, by omega⟩ (by omega) (fun τ20 ee21 => ?_)
    have u22 : has τ20 a (iA (kc κ) 2700 (ups (ups G1 (170 + tr).toNat ((totB bs) - ow)) 3 (tr + 1))) := u17.self' ee21
    have kp23 := kp18.put ee21 rfl
    have dm24 := (dom_put ee21).trans dm19
    refine j_aload_n 0 C dL_note_46 rfl rfl rfl ?_
    refine j_iconst C dL_note_47 rfl ?_
    refine j_dup2 C dL_note_48 rfl rfl rfl ?_
    refine j_iald C dL_note_49 rfl u22 ⟨by omega, by omega⟩ (by omega) ((ups_n (by omega)).trans ((ups_n (by omega)).trans ((g1o 5 (by omega) (by omega)).trans how))) ?_
    refine j_iload_n 2 C dL_note_50 rfl rfl rfl ?_
    refine j_iadd C dL_note_51 rfl ?_
    refine j_iast C dL_note_52 rfl u22 ⟨by omega, by omega⟩ (by omega) (fun τ25 ee26 => ?_)
    have u27 : has τ25 a (iA (kc κ) 2700 (ups (ups (ups G1 (170 + tr).toNat ((totB bs) - ow)) 3 (tr + 1)) 5 (ow + ((totB bs) - ow)))) := u22.self' ee26
    have kp28 := kp23.put ee26 rfl
    have dm29 := (dom_put ee26).trans dm24
    exact j_vret C E dL_note_53 (by omega) (by omega) ⟨rfl, _, u27, fun q a b c d => by rw [ups_n (by omega), ups_n (by omega), ups_n (by omega)]; exact g1o q a d, ⟨by rw [ups_n (by omega), ups_n (by omega), ups_n (by omega)]; exact g12, by rw [ups_n (by omega), ups_u rfl]; omega, (ups_u rfl).trans (by omega)⟩, kp28, dm29⟩
set_option maxHeartbeats 4000000 in
set_option maxRecDepth 20000 in
theorem c_copied (l : Launch) (hfl : l.stackTraces = false) (D : va_G) (cy : Nat → Nat) (σ : Wd) (a : Nat) (g : Nat → Int) (hA : has σ a (iA cy 2700 g)) : Ct l yL_copied cL_copied 3 (some (.array .int)) 0 1 2700 D cy [.ref a] σ (fun v σ' => ∃ (q : Nat) (Q : Nat → Int), v = some (.ref q) ∧ has σ' q (iA cy 2700 Q) ∧ (∀ z : Nat, z < 2700 → Q z = g z) ∧ q ∉ σ.1 ∧ Keep σ σ' (fun _ => False) ∧ σ'.1 = σ.1 ++ [q]) noX := by
  refine ct_start (by decide +kernel) hfl rfl (fun κ e1 e2 e3 C E NH => ?_)
  subst e1 e2 e3
  have C : Cx κ cL_copied 3 RL "copied" 0 := C
  obtain ⟨-, -, -, -, hc, hs⟩ := id E
  show J κ σ [(0, .ref a)] 0 [] 0 0
  have kpn : Keep σ σ (fun _ => False) := Keep.rf
  have dmn : σ.1 = σ.1 := rfl
  refine j_aload_n 0 C dL_copied_0 rfl rfl rfl ?_
  refine j_alen (i := 2) C dL_copied_1 rfl rfl hA ?_
  refine j_newI C dL_copied_2 rfl aw_int ⟨by omega, by omega⟩ (by omega) (by omega) (k' := 1) (n' := 2700) (by first | rfl | omega) (by first | rfl | omega) (fun q τ1 nq3 ee2 => ?_)
  have u4 := hA.old' ee2 nq3
  have u5 : has τ1 q (iA (kc κ) 2700 (fun _ => 0)) := has.fresh' ee2
  have kp6 := kpn.new ee2 nq3
  have dm7 := (dom_new ee2).trans (congrArg (· ++ [q]) dmn)
  have hqn : q ∉ σ.1 := nq3
  have hqa : q ≠ a := fun e => hqn (by rw [e]; exact hA.1)
  refine j_astore_n (lv' := [(0, .ref a), (1, .ref q)]) [1, 0] C dL_copied_4 rfl rfl rfl rfl ?_
  refine j_iconst C dL_copied_5 rfl ?_
  refine j_istore_n (lv' := [(0, .ref a), (1, .ref q), (2, vi (0))]) [1, 2, 0] C dL_copied_6 rfl rfl rfl rfl ?_
  have lp : ∀ (N : Nat) (k : Nat) (σ1 : Wd) (Q : Nat → Int), has σ1 a (iA (kc κ) 2700 g) → has σ1 q (iA (kc κ) 2700 Q) → (∀ z : Nat, z < k → Q z = g z) → k ≤ 2700 → Keep τ1 σ1 (fun y => y = q) → σ1.1 = τ1.1 → (2701 - k) < N → J κ σ1 [(0, .ref a), (1, .ref q), (2, vi ((k : Int)))] 7 [] 1 2700 := by
    intro N
    induction N with
    | zero => intro k σ1 Q hA1 hQ hQe hk hk1 hd1 hN; exact absurd hN (Nat.not_lt_zero _)
    | succ N ih =>
      intro k σ1 Q hA1 hQ hQe hk hk1 hd1 hN
      refine j_iload_n 2 C dL_copied_7 rfl rfl rfl ?_
      refine j_aload_n 1 C dL_copied_8 rfl rfl rfl ?_
      refine j_alen (i := 2) C dL_copied_9 rfl rfl hQ ?_
      refine j_icmp_ge (tgt := 25) C dL_copied_10 rfl rfl ⟨by omega, by omega⟩ ⟨by omega, by omega⟩ (fun cc8 => ?_) (fun cc8 => ?_)
      · refine j_aload_n 1 C dL_copied_25 rfl rfl rfl ?_
        exact j_aret C E dL_copied_26 (Or.inr ⟨_, rfl⟩) (by omega) (by omega) ⟨q, Q, rfl, hQ, fun z hz => hQe z (by omega), hqn, kp6.tr2 hk1 (fun y z => Or.inr (by rw [show y = q from z]; exact hqn)), hd1.trans dm7⟩
      · refine j_aload_n 1 C dL_copied_13 rfl rfl rfl ?_
        refine j_iload_n 2 C dL_copied_14 rfl rfl rfl ?_
        refine j_aload_n 0 C dL_copied_15 rfl rfl rfl ?_
        refine j_iload_n 2 C dL_copied_16 rfl rfl rfl ?_
        obtain ⟨y9, hy9⟩ : ∃ y : Int, g (k : Int).toNat = y := ⟨_, rfl⟩
        refine j_iald C dL_copied_17 rfl hA1 ⟨by omega, by omega⟩ (by omega) hy9 ?_
        refine j_iast C dL_copied_18 rfl hQ ⟨by omega, by omega⟩ (by omega) (fun τ10 ee11 => ?_)
        have u12 := hA1.ne' ee11 (hA.apart nq3)
        have u13 : has τ10 q (iA (kc κ) 2700 (ups Q (k : Int).toNat y9)) := hQ.self' ee11
        have kp14 := hk1.put ee11 rfl
        have dm15 := (dom_put ee11).trans hd1
        refine j_iinc (y := (k : Int) + 1) (lv' := [(0, .ref a), (1, .ref q), (2, vi ((k : Int) + 1))]) 2 [1, 2, 0] C dL_copied_19 rfl rfl rfl rfl rfl ?_
        refine j_goto (tgt := 7) C dL_copied_22 rfl ?_
        refine ih (k + 1) τ10 _ u12 u13 (fun z hz => ?_) (by omega) kp14 dm15 (by omega)
        unfold ups
        by_cases e : z = (k : Int).toNat
        · rw [if_pos e, ← hy9, e]
        · rw [if_neg e]
          exact hQe z (by omega)
  exact lp _ 0 τ1 _ u4 u5 (fun z hz => absurd hz (Nat.not_lt_zero _)) (by omega) Keep.rf rfl (Nat.lt_succ_self _)
/-- what a blend of s and n - s bushels is worth, or -1 -/
def costN (pf : Nat → Int) (L1 L2 : List Ly) (n mw s : Int) : Int := if s ≤ tot L1 ∧ n - s ≤ tot L2 then (if mixW L1 L2 n s ≤ mw then mixC pf L1 L2 n s else -1) else -1
theorem costN_in {pf : Nat → Int} (hp : ∀ i, i < 5 → 0 ≤ pf i ∧ pf i ≤ 2000) {L1 L2 : List Ly} (h1 : lysOk L1) (h2 : lysOk L2) (t1 : tot L1 ≤ 5000) (t2 : tot L2 ≤ 5000) (n mw s : Int) : -1 ≤ costN pf L1 L2 n mw s ∧ costN pf L1 L2 n mw s ≤ 20000000 := by
  have a1 := (sums_in hp h1 t1 s).1
  have a2 := (sums_in hp h2 t2 (n - s)).1
  unfold costN mixC
  split
  · split
    · omega
    · omega
  · omega
/-- the best of the shares 0 .. k - 1: the share, what it is worth -/
def shK (pf : Nat → Int) (L1 L2 : List Ly) (n mw : Int) : Nat → Int × Int
  | 0 => (-1, 0)
  | k + 1 => if 0 ≤ costN pf L1 L2 n mw (k : Int) ∧ ((shK pf L1 L2 n mw k).1 < 0 ∨ costN pf L1 L2 n mw (k : Int) < (shK pf L1 L2 n mw k).2) then ((k : Int), costN pf L1 L2 n mw (k : Int)) else shK pf L1 L2 n mw k
theorem shK_in {pf : Nat → Int} (hp : ∀ i, i < 5 → 0 ≤ pf i ∧ pf i ≤ 2000) {L1 L2 : List Ly} (h1 : lysOk L1) (h2 : lysOk L2) (t1 : tot L1 ≤ 5000) (t2 : tot L2 ≤ 5000) (n mw : Int) : ∀ k : Nat, (-1 ≤ (shK pf L1 L2 n mw k).1 ∧ (shK pf L1 L2 n mw k).1 < (k : Int) + 1) ∧ (0 ≤ (shK pf L1 L2 n mw k).2 ∧ (shK pf L1 L2 n mw k).2 ≤ 20000000)
  | 0 => by simp [shK]
  | k + 1 => by
    have ih := shK_in hp h1 h2 t1 t2 n mw k
    have a1 := costN_in hp h1 h2 t1 t2 n mw (k : Int)
    unfold shK
    split
    · rename_i hc
      exact ⟨⟨by show -1 ≤ (k : Int); omega, by show (k : Int) < _; omega⟩, hc.1, a1.2⟩
    · omega
/-- what a blend's object says, as a pair -/
def blP (b : Bl) : Int × Int := if b.1 = true then (b.2.1, b.2.2) else (-1, 0)
theorem shK_lo {pf : Nat → Int} {L1 L2 : List Ly} {n mw : Int} : ∀ k : Nat, (k : Int) ≤ loS L2 n → shK pf L1 L2 n mw k = (-1, 0)
  | 0, _ => rfl
  | k + 1, h => by
    have e : costN pf L1 L2 n mw (k : Int) = -1 := by
      unfold loS at h
      unfold costN
      rw [if_neg (by omega)]
    unfold shK
    rw [shK_lo k (by omega), e, if_neg (by omega)]
theorem shK_mid {pf : Nat → Int} (hp : ∀ i, i < 5 → 0 ≤ pf i ∧ pf i ≤ 2000) {L1 L2 : List Ly} (h1 : lysOk L1) (h2 : lysOk L2) (t1 : tot L1 ≤ 5000) (t2 : tot L2 ≤ 5000) {n mw : Int} {lo : Nat} (hlo : (lo : Int) = loS L2 n) : ∀ j : Nat, (lo : Int) + j ≤ hiS L1 n + 1 → shK pf L1 L2 n mw (lo + j) = blP (bestK pf L1 L2 n mw (loS L2 n) j)
  | 0, _ => by
    rw [Nat.add_zero, shK_lo lo (by omega)]
    rfl
  | j + 1, h => by
    have ih := shK_mid (mw := mw) hp h1 h2 t1 t2 hlo j (by omega)
    have hsh := bestK_share pf L1 L2 n mw (loS L2 n) j
    have hin := bestK_in hp h1 h2 t1 t2 n mw (loS L2 n) j
    have a1 := (sums_in hp h1 t1 (loS L2 n + (j : Int))).1
    have a2 := (sums_in hp h2 t2 (n - (loS L2 n + (j : Int)))).1
    have hl0 : 0 ≤ loS L2 n := by unfold loS; omega
    have hk : ((lo + j : Nat) : Int) = loS L2 n + (j : Int) := by omega
    have hc : costN pf L1 L2 n mw (loS L2 n + (j : Int)) = if mixW L1 L2 n (loS L2 n + (j : Int)) ≤ mw then mixC pf L1 L2 n (loS L2 n + (j : Int)) else -1 := by
      unfold costN
      rw [if_pos]
      unfold loS hiS at *
      omega
    show shK pf L1 L2 n mw (lo + j + 1) = _
    unfold shK bestK
    rw [ih, hk, hc]
    obtain ⟨fd, sh, co⟩ : ∃ z : Bl, bestK pf L1 L2 n mw (loS L2 n) j = z := ⟨_, rfl⟩
    generalize bestK pf L1 L2 n mw (loS L2 n) j = b at hsh hin ⊢
    obtain ⟨b1, b2, b3⟩ := b
    unfold offF
    by_cases c1 : mixW L1 L2 n (loS L2 n + (j : Int)) ≤ mw
    · rw [if_pos c1]
      have hm : 0 ≤ mixC pf L1 L2 n (loS L2 n + (j : Int)) := by unfold mixC; omega
      cases b1
      · have e1 : blP (false, b2, b3) = (-1, 0) := rfl
        rw [e1, if_pos ⟨hm, Or.inl (by decide)⟩, if_pos ⟨c1, Or.inl rfl⟩]
        rfl
      · have e1 : blP (true, b2, b3) = (b2, b3) := rfl
        have hs2 := hsh rfl
        have hs3 : loS L2 n ≤ b2 := hs2.1
        rw [e1]
        by_cases c2 : mixC pf L1 L2 n (loS L2 n + (j : Int)) < b3
        · rw [if_pos ⟨hm, Or.inr c2⟩, if_pos ⟨c1, Or.inr c2⟩]
          rfl
        · rw [if_neg (fun q => q.2.elim (fun z => by have z2 : b2 < 0 := z; omega) (fun z => c2 z)), if_neg (fun q => q.2.elim (fun z => by cases z) (fun z => c2 z))]
          rfl
    · rw [if_neg c1, if_neg (fun q => by have := q.1; omega), if_neg (fun q => c1 q.1)]
theorem shK_hi {pf : Nat → Int} {L1 L2 : List Ly} {n mw : Int} {k0 : Nat} (h : hiS L1 n < (k0 : Int)) : ∀ j : Nat, ((k0 + j : Nat) : Int) ≤ n + 1 → shK pf L1 L2 n mw (k0 + j) = shK pf L1 L2 n mw k0
  | 0, _ => rfl
  | j + 1, hj => by
    have e : costN pf L1 L2 n mw ((k0 + j : Nat) : Int) = -1 := by
      unfold hiS at h
      unfold costN
      rw [if_neg (by omega)]
    show shK pf L1 L2 n mw (k0 + j + 1) = _
    unfold shK
    rw [e, if_neg (by omega)]
    exact (shK_hi h j (by omega)).trans (by cases k0 <;> rfl)
theorem shK_best {pf : Nat → Int} (hp : ∀ i, i < 5 → 0 ≤ pf i ∧ pf i ≤ 2000) {L1 L2 : List Ly} (h1 : lysOk L1) (h2 : lysOk L2) (t1 : tot L1 ≤ 5000) (t2 : tot L2 ≤ 5000) {n mw : Int} {N : Nat} (hN : (N : Int) = n + 1) : shK pf L1 L2 n mw N = blP (bestF pf L1 L2 n mw) := by
  have z1 := tot_0 h1
  have z2 := tot_0 h2
  have hl0 : 0 ≤ loS L2 n := by unfold loS; omega
  have hln : loS L2 n ≤ n + 1 := by unfold loS; omega
  have hhn : hiS L1 n ≤ n := by unfold hiS; omega
  obtain ⟨lo, hlo⟩ : ∃ lo : Nat, (lo : Int) = loS L2 n := ⟨(loS L2 n).toNat, by omega⟩
  unfold bestF
  by_cases c : loS L2 n ≤ hiS L1 n + 1
  · obtain ⟨j, hj⟩ : ∃ j : Nat, (j : Int) = hiS L1 n + 1 - loS L2 n := ⟨(hiS L1 n + 1 - loS L2 n).toNat, by omega⟩
    have e1 := shK_mid (mw := mw) hp h1 h2 t1 t2 hlo j (by omega)
    have e2 := shK_hi (pf := pf) (L1 := L1) (L2 := L2) (n := n) (mw := mw) (k0 := lo + j) (by omega) (N - (lo + j)) (by omega)
    rw [show lo + j + (N - (lo + j)) = N by omega] at e2
    rw [e2, e1, show (hiS L1 n + 1 - loS L2 n).toNat = j by omega]
  · have e0 := shK_lo (pf := pf) (L1 := L1) (L2 := L2) (n := n) (mw := mw) lo (by omega)
    have e2 := shK_hi (pf := pf) (L1 := L1) (L2 := L2) (n := n) (mw := mw) (k0 := lo) (by omega) (N - lo) (by omega)
    rw [show lo + (N - lo) = N by omega] at e2
    rw [e2, e0, show (hiS L1 n + 1 - loS L2 n).toNat = 0 by omega]
    rfl
set_option maxHeartbeats 8000000 in
set_option maxRecDepth 20000 in
theorem c_cost (l : Launch) (hfl : l.stackTraces = false) (D : va_G) (cy : Nat → Nat) (σ : Wd) (a : Nat) (g : Nat → Int) (hA : has σ a (iA cy 2700 g)) (bs : List Bn) (hNt : NetL g bs) (pf : Nat → Int) (hPr : ∀ k : Nat, 1 ≤ k → k ≤ 4 → g (70 + k) = pf k) (hpf : ∀ i, i < 5 → 0 ≤ pf i ∧ pf i ≤ 2000) (i : Nat) (hi : i < bs.length) (j : Nat) (hj : j < bs.length) (hij : i ≠ j) (ht : tot (gB bs (i : Int)).2.2 ≤ 5000 ∧ tot (gB bs (j : Int)).2.2 ≤ 5000) (n x : Int) (hn : 0 ≤ n ∧ n ≤ 30) (hxn : 0 ≤ x * n ∧ x * n ≤ 1000000) (s : Int) (hs9 : 0 ≤ s ∧ s ≤ n) : Ct l yL_cost cL_cost 9 (some .int) 3 3 2706 D cy [.ref a, vi ((i : Int)), vi ((j : Int)), vi (s), vi (n), vi (x)] σ (fun v σ' => v = some (vi (costN pf (fl (gB bs (i : Int))) (fl (gB bs (j : Int))) n (x * n) s)) ∧ Keep σ σ' (fun _ => False) ∧ ∀ y, y ∈ σ.1 → y ∈ σ'.1) noX := by
  refine ct_start (by decide +kernel) hfl rfl (fun κ e1 e2 e3 C E NH => ?_)
  subst e1 e2 e3
  have C : Cx κ cL_cost 9 RL "cost" 3 := C
  obtain ⟨-, -, -, -, hc, hs⟩ := id E
  show J κ σ [(0, .ref a), (1, vi ((i : Int))), (2, vi ((j : Int))), (3, vi (s)), (4, vi (n)), (5, vi (x))] 0 [] 0 0
  have hoi := (hNt.2.2.1 i hi).2.2
  have hoj := (hNt.2.2.1 j hj).2.2
  have hfi := fl_ok hoi
  have hfj := fl_ok hoj
  have hti : tot (fl (gB bs (i : Int))) = tot (gB bs (i : Int)).2.2 := sum_fl _ _
  have htj : tot (fl (gB bs (j : Int))) = tot (gB bs (j : Int)).2.2 := sum_fl _ _
  have z1 := tot_0 hoi
  have z2 := tot_0 hoj
  have kpn : Keep σ σ (fun _ => False) := Keep.rf
  have a1 := sums_in hpf hfi (by omega) s
  have a2 := sums_in hpf hfj (by omega) (n - s)
  refine j_iload_n 3 C dL_cost_0 rfl rfl rfl ?_
  refine j_aload_n 0 C dL_cost_1 rfl rfl rfl ?_
  refine j_iload_n 1 C dL_cost_2 rfl rfl rfl ?_
  refine j_callS (st' := [vi (s)]) (As := [.ref a, vi ((i : Int))]) C dL_cost_3 rfl m_L_113 rfl rfl (c_within (kL κ) hfl (kD κ) (kc κ) σ a g hA bs hNt i (by omega)) rfl (by omega) (by omega) (by omega) (fun _ _ hx => hx.elim) (fun v2 τ1 hp3 => ?_)
  obtain ⟨rfl, hs9⟩ := hp3
  replace hs9 := hs9.symm
  subst hs9
  show J κ σ [(0, .ref a), (1, vi ((i : Int))), (2, vi ((j : Int))), (3, vi (s)), (4, vi (n)), (5, vi (x))] 6 [vi ((tot (gB bs (i : Int)).2.2)), vi (s)] _ _
  refine j_icmp_gt (tgt := 21) C dL_cost_6 rfl rfl ⟨by omega, by omega⟩ ⟨by omega, by omega⟩ (fun cc4 => ?_) (fun cc4 => ?_)
  · refine j_iconst C dL_cost_21 rfl ?_
    exact j_iret C E dL_cost_22 (by omega) (by omega) ⟨congrArg some (congrArg vi (show (-1 : Int) = _ by unfold costN; rw [if_neg (by omega)])), Keep.rf, fun _ hy => hy⟩
  · refine j_iload 4 C dL_cost_9 rfl rfl ?_
    refine j_iload_n 3 C dL_cost_11 rfl rfl rfl ?_
    refine j_isub C dL_cost_12 rfl ?_
    refine j_aload_n 0 C dL_cost_13 rfl rfl rfl ?_
    refine j_iload_n 2 C dL_cost_14 rfl rfl rfl ?_
    refine j_callS (st' := [vi (n - s)]) (As := [.ref a, vi ((j : Int))]) C dL_cost_15 rfl m_L_113 rfl rfl (c_within (kL κ) hfl (kD κ) (kc κ) σ a g hA bs hNt j (by omega)) rfl (by omega) (by omega) (by omega) (fun _ _ hx => hx.elim) (fun v6 τ5 hp7 => ?_)
    obtain ⟨rfl, hs9⟩ := hp7
    replace hs9 := hs9.symm
    subst hs9
    show J κ σ [(0, .ref a), (1, vi ((i : Int))), (2, vi ((j : Int))), (3, vi (s)), (4, vi (n)), (5, vi (x))] 18 [vi ((tot (gB bs (j : Int)).2.2)), vi (n - s)] _ _
    refine j_icmp_le (tgt := 23) C dL_cost_18 rfl rfl ⟨by omega, by omega⟩ ⟨by omega, by omega⟩ (fun cc8 => ?_) (fun cc8 => ?_)
    · refine j_aload_n 0 C dL_cost_23 rfl rfl rfl ?_
      refine j_callS (st' := []) (As := [.ref a]) C dL_cost_24 rfl m_L_120 rfl rfl (c_copied (kL κ) hfl (kD κ) (kc κ) σ a g hA) rfl (by omega) (by omega) (by omega) (fun _ _ hx => hx.elim) (fun v10 τ9 hp11 => ?_)
      obtain ⟨q, Q, rfl, hQ, hQe, hqn, hkq, hdq⟩ := hp11
      show J κ τ9 [(0, .ref a), (1, vi ((i : Int))), (2, vi ((j : Int))), (3, vi (s)), (4, vi (n)), (5, vi (x))] 27 [.ref q] _ _
      have hNQ : NetL Q bs := hNt.cong (fun z hz => hQe z (by omega))
      have hPQ : ∀ k : Nat, 1 ≤ k → k ≤ 4 → Q (70 + k) = pf k := fun k a b => (hQe _ (by omega)).trans (hPr k a b)
      refine j_astore (lv' := [(0, .ref a), (1, vi ((i : Int))), (2, vi ((j : Int))), (3, vi (s)), (4, vi (n)), (5, vi (x)), (6, .ref q)]) [1, 2, 3, 4, 5, 6, 0] C dL_cost_27 rfl rfl rfl ?_
      refine j_aload 6 C dL_cost_29 rfl rfl ?_
      refine j_iload_n 1 C dL_cost_31 rfl rfl rfl ?_
      refine j_iload_n 3 C dL_cost_32 rfl rfl rfl ?_
      refine j_iconst C dL_cost_33 rfl ?_
      refine j_callS (st' := []) (As := [.ref q, vi ((i : Int)), vi (s), vi (-1)]) C dL_cost_34 rfl m_L_124 rfl rfl (c_out0 (kL κ) hfl (kD κ) (kc κ) τ9 q Q hQ bs hNQ pf hPQ i hi s ⟨by omega, by omega, by omega⟩) rfl (by omega) (by omega) (by omega) (fun _ _ hx => hx.elim) (fun v13 τ12 hp14 => ?_)
      obtain ⟨r1, s1, Q1, rfl, hr1, ⟨e10, e11, e12⟩, hQ1, hNQ1, hsm1, hr1n, hk1, hd1⟩ := hp14
      show J κ τ12 [(0, .ref a), (1, vi ((i : Int))), (2, vi ((j : Int))), (3, vi (s)), (4, vi (n)), (5, vi (x)), (6, .ref q)] 37 [.ref r1] _ _
      have ej := gB_set (bs := bs) (l := ofl (gB bs (i : Int)).2.1 (dropL s (fl (gB bs (i : Int))))) (i := (i : Int)) (j := (j : Int)) (by omega) (by omega) (by omega)
      rw [if_neg (by omega)] at ej
      have ejo : gB (outB bs (i : Int) s) (j : Int) = gB bs (j : Int) := ej
      have hP1 : ∀ k : Nat, 1 ≤ k → k ≤ 4 → Q1 (70 + k) = pf k := fun k a b => (hsm1 _ (by omega) (by omega)).trans (hPQ k a b)
      refine j_astore (lv' := [(0, .ref a), (1, vi ((i : Int))), (2, vi ((j : Int))), (3, vi (s)), (4, vi (n)), (5, vi (x)), (6, .ref q), (7, .ref r1)]) [1, 2, 3, 4, 5, 6, 7, 0] C dL_cost_37 rfl rfl rfl ?_
      refine j_aload 6 C dL_cost_39 rfl rfl ?_
      refine j_iload_n 2 C dL_cost_41 rfl rfl rfl ?_
      refine j_iload 4 C dL_cost_42 rfl rfl ?_
      refine j_iload_n 3 C dL_cost_44 rfl rfl rfl ?_
      refine j_isub C dL_cost_45 rfl ?_
      refine j_iconst C dL_cost_46 rfl ?_
      refine j_callS (st' := []) (As := [.ref q, vi ((j : Int)), vi (n - s), vi (-1)]) C dL_cost_47 rfl m_L_124 rfl rfl (c_out0 (kL κ) hfl (kD κ) (kc κ) τ12 q Q1 hQ1 (outB bs (i : Int) s) hNQ1 pf hP1 j (by rw [outB_len]; exact hj) (n - s) ⟨by omega, by rw [ejo]; omega, by omega⟩) rfl (by omega) (by omega) (by omega) (fun _ _ hx => hx.elim) (fun v16 τ15 hp17 => ?_)
      obtain ⟨r2, s2, Q2, rfl, hr2, ⟨e20, e21, e22⟩, hQ2, hNQ2, hsm2, hr2n, hk2, hd2⟩ := hp17
      show J κ τ15 [(0, .ref a), (1, vi ((i : Int))), (2, vi ((j : Int))), (3, vi (s)), (4, vi (n)), (5, vi (x)), (6, .ref q), (7, .ref r1)] 50 [.ref r2] _ _
      rw [ejo] at e20 e21
      have hr1q : r1 ≠ q := fun e => hr1n (by rw [e, hdq]; exact List.mem_append_right _ (List.mem_singleton.mpr rfl))
      have hr1b := hk2 _ _ hr1 hr1q
      have hkA : Keep σ τ15 (fun _ => False) := (hkq.tr2 hk1 (fun y z => Or.inr (by rw [show y = q from z]; exact hqn))).tr2 hk2 (fun y z => Or.inr (by rw [show y = q from z]; exact hqn))
      refine j_astore (lv' := [(0, .ref a), (1, vi ((i : Int))), (2, vi ((j : Int))), (3, vi (s)), (4, vi (n)), (5, vi (x)), (6, .ref q), (7, .ref r1), (8, .ref r2)]) [1, 2, 3, 4, 5, 6, 7, 8, 0] C dL_cost_50 rfl rfl rfl ?_
      refine j_aload 7 C dL_cost_52 rfl rfl ?_
      refine j_iconst C dL_cost_54 rfl ?_
      refine j_iald C dL_cost_55 rfl hr1b ⟨by omega, by omega⟩ (by omega) e11 ?_
      refine j_aload 8 C dL_cost_56 rfl rfl ?_
      refine j_iconst C dL_cost_58 rfl ?_
      refine j_iald C dL_cost_59 rfl hr2 ⟨by omega, by omega⟩ (by omega) e21 ?_
      refine j_iadd C dL_cost_60 rfl ?_
      refine j_iload 5 C dL_cost_61 rfl rfl ?_
      refine j_iload 4 C dL_cost_63 rfl rfl ?_
      refine j_imul C dL_cost_65 rfl ?_
      refine j_icmp_le (tgt := 73) C dL_cost_66 rfl rfl ⟨by omega, by omega⟩ ⟨by omega, by omega⟩ (fun cc18 => ?_) (fun cc18 => ?_)
      · refine j_aload 7 C dL_cost_73 rfl rfl ?_
        refine j_iconst C dL_cost_75 rfl ?_
        refine j_iald C dL_cost_76 rfl hr1b ⟨by omega, by omega⟩ (by omega) e10 ?_
        refine j_aload 8 C dL_cost_77 rfl rfl ?_
        refine j_iconst C dL_cost_79 rfl ?_
        refine j_iald C dL_cost_80 rfl hr2 ⟨by omega, by omega⟩ (by omega) e20 ?_
        refine j_iadd C dL_cost_81 rfl ?_
        exact j_iret C E dL_cost_82 (by omega) (by omega) ⟨congrArg some (congrArg vi (show (sumL (cf pf) (takeL s (fl (gB bs (i : Int))))) + (sumL (cf pf) (takeL (n - s) (fl (gB bs (j : Int))))) = _ by unfold costN; rw [if_pos (by omega), if_pos (by unfold mixW; omega)]; rfl)), hkA, fun y hy => hkA.mem hy (fun z => z)⟩
      · refine j_iconst C dL_cost_69 rfl ?_
        refine j_goto (tgt := 82) C dL_cost_70 rfl ?_
        exact j_iret C E dL_cost_82 (by omega) (by omega) ⟨congrArg some (congrArg vi (show (-1 : Int) = _ by unfold costN; rw [if_pos (by omega), if_neg (by unfold mixW; omega)])), hkA, fun y hy => hkA.mem hy (fun z => z)⟩
    · refine j_iconst C dL_cost_21 rfl ?_
      exact j_iret C E dL_cost_22 (by omega) (by omega) ⟨congrArg some (congrArg vi (show (-1 : Int) = _ by unfold costN; rw [if_neg (by omega)])), Keep.rf, fun _ hy => hy⟩
set_option maxHeartbeats 8000000 in
set_option maxRecDepth 20000 in
theorem c_share (l : Launch) (hfl : l.stackTraces = false) (D : va_G) (cy : Nat → Nat) (σ : Wd) (a : Nat) (g : Nat → Int) (hA : has σ a (iA cy 2700 g)) (bs : List Bn) (hNt : NetL g bs) (pf : Nat → Int) (hPr : ∀ k : Nat, 1 ≤ k → k ≤ 4 → g (70 + k) = pf k) (hpf : ∀ i, i < 5 → 0 ≤ pf i ∧ pf i ≤ 2000) (i : Nat) (hi : i < bs.length) (j : Nat) (hj : j < bs.length) (hij : i ≠ j) (ht : tot (gB bs (i : Int)).2.2 ≤ 5000 ∧ tot (gB bs (j : Int)).2.2 ≤ 5000) (n x : Int) (hn : 0 ≤ n ∧ n ≤ 30) (hxn : 0 ≤ x * n ∧ x * n ≤ 1000000) : Ct l yL_share cL_share 9 (some .int) 4 93 83886 D cy [.ref a, vi ((i : Int)), vi ((j : Int)), vi (n), vi (x)] σ (fun v σ' => v = some (vi (if (bestF pf (fl (gB bs (i : Int))) (fl (gB bs (j : Int))) n (x * n)).1 = true then (bestF pf (fl (gB bs (i : Int))) (fl (gB bs (j : Int))) n (x * n)).2.1 else -1)) ∧ Keep σ σ' (fun _ => False) ∧ ∀ y, y ∈ σ.1 → y ∈ σ'.1) noX := by
  refine ct_start (by decide +kernel) hfl rfl (fun κ e1 e2 e3 C E NH => ?_)
  subst e1 e2 e3
  have C : Cx κ cL_share 9 RL "share" 4 := C
  obtain ⟨-, -, -, -, hc, hs⟩ := id E
  show J κ σ [(0, .ref a), (1, vi ((i : Int))), (2, vi ((j : Int))), (3, vi (n)), (4, vi (x))] 0 [] 0 0
  have hoi := (hNt.2.2.1 i hi).2.2
  have hoj := (hNt.2.2.1 j hj).2.2
  have hfi := fl_ok hoi
  have hfj := fl_ok hoj
  have hti : tot (fl (gB bs (i : Int))) = tot (gB bs (i : Int)).2.2 := sum_fl _ _
  have htj : tot (fl (gB bs (j : Int))) = tot (gB bs (j : Int)).2.2 := sum_fl _ _
  have z1 := tot_0 hoi
  have z2 := tot_0 hoj
  refine j_iconst C dL_share_0 rfl ?_
  refine j_istore (lv' := [(0, .ref a), (1, vi ((i : Int))), (2, vi ((j : Int))), (3, vi (n)), (4, vi (x)), (5, vi (-1))]) [1, 2, 3, 4, 5, 0] C dL_share_1 rfl rfl rfl ?_
  refine j_iconst C dL_share_3 rfl ?_
  refine j_istore (lv' := [(0, .ref a), (1, vi ((i : Int))), (2, vi ((j : Int))), (3, vi (n)), (4, vi (x)), (5, vi (-1)), (6, vi (0))]) [1, 2, 3, 4, 5, 6, 0] C dL_share_4 rfl rfl rfl ?_
  refine j_iconst C dL_share_6 rfl ?_
  refine j_istore (lv' := [(0, .ref a), (1, vi ((i : Int))), (2, vi ((j : Int))), (3, vi (n)), (4, vi (x)), (5, vi (-1)), (6, vi (0)), (7, vi (0))]) [1, 2, 3, 4, 5, 6, 7, 0] C dL_share_7 rfl rfl rfl ?_
  have lp : ∀ (N : Nat) (s : Nat) (σ1 : Wd), has σ1 a (iA (kc κ) 2700 g) → (s : Int) ≤ n + 1 → Keep σ σ1 (fun _ => False) → ((n + 2).toNat - s) < N → J κ σ1 [(0, .ref a), (1, vi ((i : Int))), (2, vi ((j : Int))), (3, vi (n)), (4, vi (x)), (5, vi ((shK pf (fl (gB bs (i : Int))) (fl (gB bs (j : Int))) n (x * n) s).1)), (6, vi ((shK pf (fl (gB bs (i : Int))) (fl (gB bs (j : Int))) n (x * n) s).2)), (7, vi ((s : Int)))] 9 [] (3 * s) (2706 * s) := by
    intro N
    induction N with
    | zero => intro s σ1 hA1 hsn hk1 hN; exact absurd hN (Nat.not_lt_zero _)
    | succ N ih =>
      intro s σ1 hA1 hsn hk1 hN
      have hsk := shK_in hpf hfi hfj (by omega) (by omega) n (x * n) s
      have hcn := costN_in hpf hfi hfj (by omega) (by omega) n (x * n) (s : Int)
      refine j_iload 7 C dL_share_9 rfl rfl ?_
      refine j_iload_n 3 C dL_share_11 rfl rfl rfl ?_
      refine j_icmp_gt (tgt := 59) C dL_share_12 rfl rfl ⟨by omega, by omega⟩ ⟨by omega, by omega⟩ (fun cc1 => ?_) (fun cc1 => ?_)
      · refine j_iload 5 C dL_share_59 rfl rfl ?_
        have hsN : (s : Int) = n + 1 := by omega
        have hbe := shK_best (mw := x * n) hpf hfi hfj (by omega) (by omega) hsN
        exact j_iret C E dL_share_61 (by omega) (by omega) ⟨congrArg some (congrArg vi (by rw [hbe]; unfold blP; split <;> rfl)), hk1, fun y hy => hk1.mem hy (fun z => z)⟩
      · refine j_aload_n 0 C dL_share_15 rfl rfl rfl ?_
        refine j_iload_n 1 C dL_share_16 rfl rfl rfl ?_
        refine j_iload_n 2 C dL_share_17 rfl rfl rfl ?_
        refine j_iload 7 C dL_share_18 rfl rfl ?_
        refine j_iload_n 3 C dL_share_20 rfl rfl rfl ?_
        refine j_iload 4 C dL_share_21 rfl rfl ?_
        refine j_callS (st' := []) (As := [.ref a, vi ((i : Int)), vi ((j : Int)), vi ((s : Int)), vi (n), vi (x)]) C dL_share_23 rfl m_L_128 rfl rfl (c_cost (kL κ) hfl (kD κ) (kc κ) σ1 a g hA1 bs hNt pf hPr hpf i hi j hj hij ht n x hn hxn (s : Int) ⟨by omega, by omega⟩) rfl (by omega) (by omega) (by omega) (fun _ _ hx => hx.elim) (fun v3 τ2 hp4 => ?_)
        obtain ⟨rfl, hkc, hmc⟩ := hp4
        refine j_widen (k' := 3 * (s + 1)) (n' := 2706 * (s + 1)) (by omega) (by omega) ?_
        show J κ τ2 [(0, .ref a), (1, vi ((i : Int))), (2, vi ((j : Int))), (3, vi (n)), (4, vi (x)), (5, vi ((shK pf (fl (gB bs (i : Int))) (fl (gB bs (j : Int))) n (x * n) s).1)), (6, vi ((shK pf (fl (gB bs (i : Int))) (fl (gB bs (j : Int))) n (x * n) s).2)), (7, vi ((s : Int)))] 26 [vi ((costN pf (fl (gB bs (i : Int))) (fl (gB bs (j : Int))) n (x * n) (s : Int)))] _ _
        have hk2 := hk1.tr hkc
        have hA2 := hkc _ _ hA1 (fun z => z)
        refine j_istore (lv' := [(0, .ref a), (1, vi ((i : Int))), (2, vi ((j : Int))), (3, vi (n)), (4, vi (x)), (5, vi ((shK pf (fl (gB bs (i : Int))) (fl (gB bs (j : Int))) n (x * n) s).1)), (6, vi ((shK pf (fl (gB bs (i : Int))) (fl (gB bs (j : Int))) n (x * n) s).2)), (7, vi ((s : Int))), (8, vi ((costN pf (fl (gB bs (i : Int))) (fl (gB bs (j : Int))) n (x * n) (s : Int))))]) [1, 2, 3, 4, 5, 6, 7, 8, 0] C dL_share_26 rfl rfl rfl ?_
        refine j_iload 8 C dL_share_28 rfl rfl ?_
        refine j_if_lt (tgt := 53) C dL_share_30 rfl rfl ⟨by omega, by omega⟩ (fun cc5 => ?_) (fun cc5 => ?_)
        · refine j_iinc (y := (s : Int) + 1) (lv' := [(0, .ref a), (1, vi ((i : Int))), (2, vi ((j : Int))), (3, vi (n)), (4, vi (x)), (5, vi ((shK pf (fl (gB bs (i : Int))) (fl (gB bs (j : Int))) n (x * n) s).1)), (6, vi ((shK pf (fl (gB bs (i : Int))) (fl (gB bs (j : Int))) n (x * n) s).2)), (7, vi ((s : Int) + 1)), (8, vi ((costN pf (fl (gB bs (i : Int))) (fl (gB bs (j : Int))) n (x * n) (s : Int))))]) 7 [1, 2, 3, 4, 5, 6, 7, 0, 8] C dL_share_53 rfl rfl rfl rfl rfl ?_
          refine j_goto (tgt := 9) C dL_share_56 rfl ?_
          refine j_locals (lv' := [(0, .ref a), (1, vi ((i : Int))), (2, vi ((j : Int))), (3, vi (n)), (4, vi (x)), (5, vi ((shK pf (fl (gB bs (i : Int))) (fl (gB bs (j : Int))) n (x * n) s).1)), (6, vi ((shK pf (fl (gB bs (i : Int))) (fl (gB bs (j : Int))) n (x * n) s).2)), (7, vi ((s : Int) + 1))]) [0, 1, 2, 3, 4, 5, 6, 7] rfl ?_
          have hst : (shK pf (fl (gB bs (i : Int))) (fl (gB bs (j : Int))) n (x * n) (s + 1)) = (shK pf (fl (gB bs (i : Int))) (fl (gB bs (j : Int))) n (x * n) s) := by
            show (if _ then _ else _) = _
            rw [if_neg (by omega)]
          refine j_locals (lv' := [(0, .ref a), (1, vi ((i : Int))), (2, vi ((j : Int))), (3, vi (n)), (4, vi (x)), (5, vi ((shK pf (fl (gB bs (i : Int))) (fl (gB bs (j : Int))) n (x * n) (s + 1)).1)), (6, vi ((shK pf (fl (gB bs (i : Int))) (fl (gB bs (j : Int))) n (x * n) (s + 1)).2)), (7, vi (((s + 1 : Nat) : Int)))]) [0, 1, 2, 3, 4, 5, 6, 7] (by rw [hst]; rfl) ?_
          exact ih (s + 1) τ2 hA2 (by omega) hk2 (by omega)
        · refine j_iload 5 C dL_share_33 rfl rfl ?_
          refine j_if_lt (tgt := 45) C dL_share_35 rfl rfl ⟨by omega, by omega⟩ (fun cc6 => ?_) (fun cc6 => ?_)
          · refine j_iload 7 C dL_share_45 rfl rfl ?_
            refine j_istore (lv' := [(0, .ref a), (1, vi ((i : Int))), (2, vi ((j : Int))), (3, vi (n)), (4, vi (x)), (5, vi ((s : Int))), (6, vi ((shK pf (fl (gB bs (i : Int))) (fl (gB bs (j : Int))) n (x * n) s).2)), (7, vi ((s : Int))), (8, vi ((costN pf (fl (gB bs (i : Int))) (fl (gB bs (j : Int))) n (x * n) (s : Int))))]) [1, 2, 3, 4, 5, 0, 6, 7, 8] C dL_share_47 rfl rfl rfl ?_
            refine j_iload 8 C dL_share_49 rfl rfl ?_
            refine j_istore (lv' := [(0, .ref a), (1, vi ((i : Int))), (2, vi ((j : Int))), (3, vi (n)), (4, vi (x)), (5, vi ((s : Int))), (6, vi ((costN pf (fl (gB bs (i : Int))) (fl (gB bs (j : Int))) n (x * n) (s : Int)))), (7, vi ((s : Int))), (8, vi ((costN pf (fl (gB bs (i : Int))) (fl (gB bs (j : Int))) n (x * n) (s : Int))))]) [1, 2, 3, 4, 5, 6, 0, 7, 8] C dL_share_51 rfl rfl rfl ?_
            refine j_iinc (y := (s : Int) + 1) (lv' := [(0, .ref a), (1, vi ((i : Int))), (2, vi ((j : Int))), (3, vi (n)), (4, vi (x)), (5, vi ((s : Int))), (6, vi ((costN pf (fl (gB bs (i : Int))) (fl (gB bs (j : Int))) n (x * n) (s : Int)))), (7, vi ((s : Int) + 1)), (8, vi ((costN pf (fl (gB bs (i : Int))) (fl (gB bs (j : Int))) n (x * n) (s : Int))))]) 7 [1, 2, 3, 4, 5, 6, 7, 0, 8] C dL_share_53 rfl rfl rfl rfl rfl ?_
            refine j_goto (tgt := 9) C dL_share_56 rfl ?_
            refine j_locals (lv' := [(0, .ref a), (1, vi ((i : Int))), (2, vi ((j : Int))), (3, vi (n)), (4, vi (x)), (5, vi ((s : Int))), (6, vi ((costN pf (fl (gB bs (i : Int))) (fl (gB bs (j : Int))) n (x * n) (s : Int)))), (7, vi ((s : Int) + 1))]) [0, 1, 2, 3, 4, 5, 6, 7] rfl ?_
            have hst : (shK pf (fl (gB bs (i : Int))) (fl (gB bs (j : Int))) n (x * n) (s + 1)) = ((s : Int), (costN pf (fl (gB bs (i : Int))) (fl (gB bs (j : Int))) n (x * n) (s : Int))) := by
              show (if _ then _ else _) = _
              rw [if_pos (by omega)]
            refine j_locals (lv' := [(0, .ref a), (1, vi ((i : Int))), (2, vi ((j : Int))), (3, vi (n)), (4, vi (x)), (5, vi ((shK pf (fl (gB bs (i : Int))) (fl (gB bs (j : Int))) n (x * n) (s + 1)).1)), (6, vi ((shK pf (fl (gB bs (i : Int))) (fl (gB bs (j : Int))) n (x * n) (s + 1)).2)), (7, vi (((s + 1 : Nat) : Int)))]) [0, 1, 2, 3, 4, 5, 6, 7] (by rw [hst]; rfl) ?_
            exact ih (s + 1) τ2 hA2 (by omega) hk2 (by omega)
          · refine j_iload 8 C dL_share_38 rfl rfl ?_
            refine j_iload 6 C dL_share_40 rfl rfl ?_
            refine j_icmp_ge (tgt := 53) C dL_share_42 rfl rfl ⟨by omega, by omega⟩ ⟨by omega, by omega⟩ (fun cc7 => ?_) (fun cc7 => ?_)
            · refine j_iinc (y := (s : Int) + 1) (lv' := [(0, .ref a), (1, vi ((i : Int))), (2, vi ((j : Int))), (3, vi (n)), (4, vi (x)), (5, vi ((shK pf (fl (gB bs (i : Int))) (fl (gB bs (j : Int))) n (x * n) s).1)), (6, vi ((shK pf (fl (gB bs (i : Int))) (fl (gB bs (j : Int))) n (x * n) s).2)), (7, vi ((s : Int) + 1)), (8, vi ((costN pf (fl (gB bs (i : Int))) (fl (gB bs (j : Int))) n (x * n) (s : Int))))]) 7 [1, 2, 3, 4, 5, 6, 7, 0, 8] C dL_share_53 rfl rfl rfl rfl rfl ?_
              refine j_goto (tgt := 9) C dL_share_56 rfl ?_
              refine j_locals (lv' := [(0, .ref a), (1, vi ((i : Int))), (2, vi ((j : Int))), (3, vi (n)), (4, vi (x)), (5, vi ((shK pf (fl (gB bs (i : Int))) (fl (gB bs (j : Int))) n (x * n) s).1)), (6, vi ((shK pf (fl (gB bs (i : Int))) (fl (gB bs (j : Int))) n (x * n) s).2)), (7, vi ((s : Int) + 1))]) [0, 1, 2, 3, 4, 5, 6, 7] rfl ?_
              have hst : (shK pf (fl (gB bs (i : Int))) (fl (gB bs (j : Int))) n (x * n) (s + 1)) = (shK pf (fl (gB bs (i : Int))) (fl (gB bs (j : Int))) n (x * n) s) := by
                show (if _ then _ else _) = _
                rw [if_neg (by omega)]
              refine j_locals (lv' := [(0, .ref a), (1, vi ((i : Int))), (2, vi ((j : Int))), (3, vi (n)), (4, vi (x)), (5, vi ((shK pf (fl (gB bs (i : Int))) (fl (gB bs (j : Int))) n (x * n) (s + 1)).1)), (6, vi ((shK pf (fl (gB bs (i : Int))) (fl (gB bs (j : Int))) n (x * n) (s + 1)).2)), (7, vi (((s + 1 : Nat) : Int)))]) [0, 1, 2, 3, 4, 5, 6, 7] (by rw [hst]; rfl) ?_
              exact ih (s + 1) τ2 hA2 (by omega) hk2 (by omega)
            · refine j_iload 7 C dL_share_45 rfl rfl ?_
              refine j_istore (lv' := [(0, .ref a), (1, vi ((i : Int))), (2, vi ((j : Int))), (3, vi (n)), (4, vi (x)), (5, vi ((s : Int))), (6, vi ((shK pf (fl (gB bs (i : Int))) (fl (gB bs (j : Int))) n (x * n) s).2)), (7, vi ((s : Int))), (8, vi ((costN pf (fl (gB bs (i : Int))) (fl (gB bs (j : Int))) n (x * n) (s : Int))))]) [1, 2, 3, 4, 5, 0, 6, 7, 8] C dL_share_47 rfl rfl rfl ?_
              refine j_iload 8 C dL_share_49 rfl rfl ?_
              refine j_istore (lv' := [(0, .ref a), (1, vi ((i : Int))), (2, vi ((j : Int))), (3, vi (n)), (4, vi (x)), (5, vi ((s : Int))), (6, vi ((costN pf (fl (gB bs (i : Int))) (fl (gB bs (j : Int))) n (x * n) (s : Int)))), (7, vi ((s : Int))), (8, vi ((costN pf (fl (gB bs (i : Int))) (fl (gB bs (j : Int))) n (x * n) (s : Int))))]) [1, 2, 3, 4, 5, 6, 0, 7, 8] C dL_share_51 rfl rfl rfl ?_
              refine j_iinc (y := (s : Int) + 1) (lv' := [(0, .ref a), (1, vi ((i : Int))), (2, vi ((j : Int))), (3, vi (n)), (4, vi (x)), (5, vi ((s : Int))), (6, vi ((costN pf (fl (gB bs (i : Int))) (fl (gB bs (j : Int))) n (x * n) (s : Int)))), (7, vi ((s : Int) + 1)), (8, vi ((costN pf (fl (gB bs (i : Int))) (fl (gB bs (j : Int))) n (x * n) (s : Int))))]) 7 [1, 2, 3, 4, 5, 6, 7, 0, 8] C dL_share_53 rfl rfl rfl rfl rfl ?_
              refine j_goto (tgt := 9) C dL_share_56 rfl ?_
              refine j_locals (lv' := [(0, .ref a), (1, vi ((i : Int))), (2, vi ((j : Int))), (3, vi (n)), (4, vi (x)), (5, vi ((s : Int))), (6, vi ((costN pf (fl (gB bs (i : Int))) (fl (gB bs (j : Int))) n (x * n) (s : Int)))), (7, vi ((s : Int) + 1))]) [0, 1, 2, 3, 4, 5, 6, 7] rfl ?_
              have hst : (shK pf (fl (gB bs (i : Int))) (fl (gB bs (j : Int))) n (x * n) (s + 1)) = ((s : Int), (costN pf (fl (gB bs (i : Int))) (fl (gB bs (j : Int))) n (x * n) (s : Int))) := by
                show (if _ then _ else _) = _
                rw [if_pos (by omega)]
              refine j_locals (lv' := [(0, .ref a), (1, vi ((i : Int))), (2, vi ((j : Int))), (3, vi (n)), (4, vi (x)), (5, vi ((shK pf (fl (gB bs (i : Int))) (fl (gB bs (j : Int))) n (x * n) (s + 1)).1)), (6, vi ((shK pf (fl (gB bs (i : Int))) (fl (gB bs (j : Int))) n (x * n) (s + 1)).2)), (7, vi (((s + 1 : Nat) : Int)))]) [0, 1, 2, 3, 4, 5, 6, 7] (by rw [hst]; rfl) ?_
              exact ih (s + 1) τ2 hA2 (by omega) hk2 (by omega)
  exact lp _ 0 σ hA (by omega) Keep.rf (Nat.lt_succ_self _)
