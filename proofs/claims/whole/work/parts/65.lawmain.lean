/-! law: its start and its loop -/
theorem i63 (x : Int32) : ∃ z : Int, 0 ≤ z ∧ z < 64 ∧ x &&& 63 = Int32.ofInt z := by
  refine ⟨((x.toBitVec &&& 63#32).toNat : Int), Int.natCast_nonneg _, ?_, ?_⟩
  · have h1 : (x.toBitVec &&& 63#32).toNat ≤ 63 := by rw [BitVec.toNat_and]; exact Nat.and_le_right
    omega
  · apply Int32.toBitVec_inj.mp
    rw [Int32.toBitVec_and]
    show x.toBitVec &&& 63#32 = BitVec.ofInt 32 _
    rw [BitVec.ofInt_natCast, BitVec.ofNat_toNat, BitVec.setWidth_eq]
def tagM (tg am : Nat → Nat) : Nat → Nat → Nat
  | 0 => tg
  | k + 1 => updN (tagM tg am k) (am k) (2000 + k)
theorem tagM_out {tg am : Nat → Nat} {y : Nat} : ∀ n : Nat, (∀ k, k < n → y ≠ am k) → tagM tg am n y = tg y
  | 0, _ => rfl
  | n + 1, h => by
    show updN (tagM tg am n) (am n) (2000 + n) y = tg y
    unfold updN
    rw [if_neg (h n (Nat.lt_succ_self n))]
    exact tagM_out n (fun k hk => h k (Nat.lt_succ_of_lt hk))
theorem tagM_in {tg am : Nat → Nat} : ∀ n k : Nat, n ≤ 13 → InjM am → k < n → tagM tg am n (am k) = 2000 + k
  | 0, _, _, _, h => absurd h (Nat.not_lt_zero _)
  | n + 1, k, hn, hI, h => by
    show updN (tagM tg am n) (am n) (2000 + n) (am k) = 2000 + k
    unfold updN
    by_cases e : k = n
    · rw [e, if_pos rfl]
    · rw [if_neg (hI k n (by omega) (by omega) e)]
      exact tagM_in n k (by omega) hI (by omega)
theorem RM.dom {cy : Nat → Nat} {σ : Wd} {am : Nat → Nat} {bs : List Bn} {ru : Nat → Int × Int} {se : Int} {pf : Nat → Int} {hd : Hd} {ca : Int} {evs : List Evt} {ln : List Int} {bl : Int × Int × Int} {th : Int} (h : RM cy σ am bs ru se pf hd ca evs ln bl th) : ∀ k : Nat, k < 13 → am k ∈ σ.1 := by
  obtain ⟨-, _, _, _, _, _, _, _, _, _, _, _, _, _, _, _, h0, ⟨h1, h2, h3, h4, h5, h6, h7, h8, h9, h10, h11, h12⟩, -⟩ := h
  intro k hk
  rcases (show k = 0 ∨ k = 1 ∨ k = 2 ∨ k = 3 ∨ k = 4 ∨ k = 5 ∨ k = 6 ∨ k = 7 ∨ k = 8 ∨ k = 9 ∨ k = 10 ∨ k = 11 ∨ k = 12 by omega) with rfl | rfl | rfl | rfl | rfl | rfl | rfl | rfl | rfl | rfl | rfl | rfl | rfl
  · exact h0.1
  · exact h1.1
  · exact h2.1
  · exact h3.1
  · exact h4.1
  · exact h5.1
  · exact h6.1
  · exact h7.1
  · exact h8.1
  · exact h9.1
  · exact h10.1
  · exact h11.1
  · exact h12.1
/-- the state at the start -/
def St0 : St := ([], ruI, 0, pfI, hd0, 0, [], [])
set_option maxHeartbeats 8000000 in
set_option maxRecDepth 20000 in
theorem law_start {κ : Kx} {nmx : String} {b : Nat} {σ : Wd} (C : Cx κ cL_law 9 RL nmx 9) (hfl : (kL κ).stackTraces = false) (hc : 1000 ≤ (kR κ).cells) (hs : 10000 ≤ (kR κ).slots) (kk : ∀ (σ : Wd) (tg ad am : Nat → Nat) (o d k n : Nat), LI (kc κ) σ tg ad am St0 o d → k ≤ 100 → n ≤ 5000 → J κ σ [(0, .ref b), (1, .ref (ad 0)), (2, .ref (am 0)), (3, .ref o), (4, .ref d), (5, vi 0)] 28 [] k n) : J κ σ [(0, .ref b)] 0 [] 0 0 := by
  refine j_new C dL_law_0 rfl na_L_8 (by omega) (by omega) (k' := 1) (n' := 8) (by first | rfl | omega) (by first | rfl | omega) (fun h1 τ1 nq3 ee2 => ?_)
  have u4 : has τ1 h1 (.inr (6, [.null, .null, .null, .null, .null, .null, .null, vl (0)])) := has.fresh' ee2
  refine j_dup C dL_law_3 rfl rfl ?_
  refine j_callI (st' := [.ref h1]) (As := []) C dL_law_4 rfl m_L_117 rfl rfl (c_xInit (kL κ) hfl (kD κ) (kc κ) τ1 h1 u4) rfl (by omega) (by omega) (by omega) (fun _ _ hx => hx.elim) (fun v6 τ5 hp7 => ?_)
  obtain ⟨rfl, tg, ad, ha0, hR, hK1, hm1⟩ := hp7
  subst ha0
  show J κ τ5 [(0, .ref b)] 7 [.ref (ad 0)] _ _
  refine j_astore_n (lv' := [(0, .ref b), (1, .ref (ad 0))]) [1, 0] C dL_law_7 rfl rfl rfl rfl ?_
  refine j_new C dL_law_8 rfl na_L_118 (by omega) (by omega) (k' := 22) (n' := 233) (by first | rfl | omega) (by first | rfl | omega) (fun h2 τ8 nq10 ee9 => ?_)
  have u11 : has τ8 h2 (.inr (7, [.null, .null, .null, .null, .null, .null, .null, .null, .null, .null, .null, .null, vi (0), vi (0), vi (0), vi (0), vi (0), vi (0), vi (0), vi (0), vi (0), vi (0), vi (0), vl (0), vl (0)])) := has.fresh' ee9
  have kp1 : Keep τ5 τ8 (fun _ => False) := (Keep.rf : Keep τ5 τ5 (fun _ => False)).new ee9 nq10
  refine j_dup C dL_law_11 rfl rfl ?_
  refine j_callI (st' := [.ref h2]) (As := []) C dL_law_12 rfl m_L_120 rfl rfl (c_mInit (kL κ) hfl (kD κ) (kc κ) τ8 h2 u11) rfl (by omega) (by omega) (by omega) (fun _ _ hx => hx.elim) (fun v13 τ12 hp14 => ?_)
  obtain ⟨rfl, am, hb0, hM, hmN, hK2, hm2⟩ := hp14
  subst hb0
  have kp2 := kp1.tr2 hK2 (fun y z => Or.inr (by rw [show y = am 0 from z]; exact nq10))
  have hsub : ∀ y, y ∈ τ5.1 → y ∈ τ8.1 := fun y hy => kp1.mem hy (fun z => z)
  have hnM : ∀ k : Nat, k < 13 → am k ∉ τ5.1 := fun k hk z => by
    rcases Nat.eq_zero_or_pos k with e | e
    · rw [e] at z; exact nq10 z
    · exact hmN k e hk (hsub _ z)
  have hMd := RM.dom hM
  have hMi := hM.1
  show J κ τ12 [(0, .ref b), (1, .ref (ad 0))] 15 [.ref (am 0)] _ _
  refine j_astore_n (lv' := [(0, .ref b), (1, .ref (ad 0)), (2, .ref (am 0))]) [1, 2, 0] C dL_law_15 rfl rfl rfl rfl ?_
  refine j_iconst C dL_law_16 rfl ?_
  refine j_newL C dL_law_17 rfl aw_long ⟨by omega, by omega⟩ (by omega) (by omega) (k' := 35) (n' := 4234) (by first | rfl | omega) (by first | rfl | omega) (fun o τ15 nq17 ee16 => ?_)
  have u18 : has τ15 o (lA (kc κ) 1 (fun _ => 0)) := has.fresh' ee16
  have kq1 : Keep τ12 τ15 (fun _ => False) := (Keep.rf : Keep τ12 τ12 (fun _ => False)).new ee16 nq17
  refine j_astore_n (lv' := [(0, .ref b), (1, .ref (ad 0)), (2, .ref (am 0)), (3, .ref o)]) [1, 2, 3, 0] C dL_law_19 rfl rfl rfl rfl ?_
  refine j_iconst C dL_law_20 rfl ?_
  refine j_newD C dL_law_21 rfl aw_double ⟨by omega, by omega⟩ (by omega) (by omega) (k' := 36) (n' := 4235) (by first | rfl | omega) (by first | rfl | omega) (fun d τ9 n5 ee5 => ?_)
  have hd9 := has.fresh' ee5
  have ho9 := u18.old' ee5 n5
  have kq2 : Keep τ12 τ9 (fun _ => False) := kq1.new ee5 n5
  have kp9 := kp2.tr2 kq2 (fun y z => z.elim)
  refine j_astore (lv' := [(0, .ref b), (1, .ref (ad 0)), (2, .ref (am 0)), (3, .ref o), (4, .ref d)]) [1, 2, 3, 4, 0] C dL_law_23 rfl rfl rfl ?_
  refine j_iconst C dL_law_25 rfl ?_
  refine j_istore (lv' := [(0, .ref b), (1, .ref (ad 0)), (2, .ref (am 0)), (3, .ref o), (4, .ref d), (5, vi (0))]) [1, 2, 3, 4, 5, 0] C dL_law_26 rfl rfl rfl ?_
  have hon : ∀ y, y ∈ τ12.1 → y ≠ o := fun y hy e => nq17 (by rw [← e]; exact hy)
  have hdn : ∀ y, y ∈ τ12.1 → y ≠ d := fun y hy e => n5 (by rw [← e]; exact kq1.mem hy (fun z => z))
  have hod : o ≠ d := fun e => n5 (by rw [← e]; exact u18.1)
  have h13 : ∀ y, y ∈ τ5.1 → y ∈ τ12.1 := fun y hy => kp2.mem hy (fun z => z)
  have hRt : RX (kc κ) τ5 (updN (updN (tagM tg am 13) o 3000) d 3001) ad [] ruI 0 pfI hd0 0 [] [] := hR.retag (fun y hy => by
    show updN (updN (tagM tg am 13) o 3000) d 3001 y = tg y
    unfold updN
    rw [if_neg (hdn y (h13 y hy)), if_neg (hon y (h13 y hy))]
    exact tagM_out 13 (fun k hk e => hnM k hk (by rw [← e]; exact hy))) (fun _ _ => rfl)
  have hI : LI (kc κ) τ9 (updN (updN (tagM tg am 13) o 3000) d 3001) ad am St0 o d := by
    refine ⟨hRt.keep0 kp9, ⟨(0, 0, 0), 0, RM.keep hM kq2 (fun _ _ z => z)⟩, ⟨_, ho9⟩, ⟨_, hd9⟩, ⟨?_, ?_⟩, fun k hk => ⟨kq2.mem (hMd k hk) (fun z => z), ?_⟩⟩
    · unfold updN; rw [if_neg hod, if_pos rfl]
    · unfold updN; rw [if_pos rfl]
    · unfold updN
      rw [if_neg (hdn _ (hMd k hk)), if_neg (hon _ (hMd k hk))]
      exact tagM_in 13 k (by omega) hMi hk
  exact kk _ _ _ _ _ _ _ _ hI (by omega) (by omega)
set_option maxHeartbeats 8000000 in
set_option maxRecDepth 20000 in
theorem law_loop {κ : Kx} {nmx : String} {b L : Nat} {xs : Nat → Int} {am : Nat → Nat} {o d a0 : Nat} (C : Cx κ cL_law 9 RL nmx 9) (HN : Ncs (kS κ)) (hfl : (kL κ).stackTraces = false) (hxs : ∀ i : Nat, -2147483648 ≤ xs i ∧ xs i < 2147483648) (hX : va_X b L (fun j => Int32.ofInt (xs j)) (kS κ) (kS κ).heap) (hbl : b < (kS κ).heap.size) (hbA : ¬ kA κ b) (hL : L ≤ 2560) (hc : 603072 ≤ (kR κ).cells) (hs : 7211113 ≤ (kR κ).slots) (hR : ∀ (σ : Wd) (lv : List (Nat × Value)) (k n : Nat), k ≤ 603072 → n ≤ 7211113 → J κ σ lv 2454 [vi 1] k n) : ∀ (N j : Nat) (σ : Wd) (tg ad : Nat → Nat) (S : St) (k n : Nat), LI (kc κ) σ tg ad am S o d → ad 0 = a0 → k ≤ 100 + 300 * j → n ≤ 5000 + 8000 * j → j ≤ 512 → 600 - j < N → J κ σ [(0, .ref b), (1, .ref a0), (2, .ref (am 0)), (3, .ref o), (4, .ref d), (5, vi (5 * (j : Int)))] 28 [] k n := by
  intro N
  induction N with
  | zero => intro j σ tg ad S k n _ _ _ _ _ hN; exact absurd hN (Nat.not_lt_zero _)
  | succ N ih =>
    intro j σ tg ad S k n hI ha hk hn hj9 hN
    subst ha
    obtain ⟨a0, ha0⟩ : ∃ a, xs (5 * j) = a := ⟨_, rfl⟩
    rcases Classical.em (5 * j + 5 ≤ L) with hj | hj
    · refine j_iload 5 C dL_law_28 rfl rfl ?_
      refine j_aload_n 0 C dL_law_30 rfl rfl rfl ?_
      refine j_slen C hX hbl hbA dL_law_31 rfl ?_
      refine j_iconst C dL_law_32 rfl ?_
      refine j_isub C dL_law_33 rfl ?_
      refine j_icmp_gt (tgt := 2453) C dL_law_34 rfl rfl ⟨by omega, by omega⟩ ⟨by omega, by omega⟩ (fun cc => absurd cc (by omega)) (fun cc => ?_)
      have hk2 : k + 300 ≤ (kR κ).cells := by omega
      have hn2 : n + 8000 ≤ (kR κ).slots := by omega
      have hB : LB κ b o d (ad 0) am j k n := by
        intro σ' tg' ad' S' k' n' hI' ha' hk' hn'
        refine j_iinc (y := 5 * ((j + 1 : Nat) : Int)) (lv' := [(0, .ref b), (1, .ref (ad 0)), (2, .ref (am 0)), (3, .ref o), (4, .ref d), (5, vi (5 * ((j + 1 : Nat) : Int)))]) 5 [1, 2, 3, 4, 5, 0] C dL_law_2447 rfl rfl (by omega) rfl rfl ?_
        refine j_goto (tgt := 28) C dL_law_2450 rfl ?_
        exact ih (j + 1) σ' tg' ad' S' k' n' hI' ha' (by omega) (by omega) (by omega) (by omega)
      refine j_aload_n 0 C dL_law_37 rfl rfl rfl ?_
      refine j_iload 5 C dL_law_38 rfl rfl ?_
      refine j_sld C hX hbl hbA dL_law_40 rfl ⟨by omega, by omega⟩ (by omega) (y := a0) (by rw [show (5 * (j : Int)).toNat = 5 * j by omega]; exact ha0) ?_
      refine j_bipush C dL_law_41 rfl (by decide) ?_
      obtain ⟨z, hz0, hz1, hz⟩ := i63 (Int32.ofInt a0)
      refine j_iand (z := z) C dL_law_43 rfl hz ?_
      rcases Classical.em (z < 39) with h39 | h39
      · rcases (show z = 0 ∨ z = 1 ∨ z = 2 ∨ z = 3 ∨ z = 4 ∨ z = 5 ∨ z = 6 ∨ z = 7 ∨ z = 8 ∨ z = 9 ∨ z = 10 ∨ z = 11 ∨ z = 12 ∨ z = 13 ∨ z = 14 ∨ z = 15 ∨ z = 16 ∨ z = 17 ∨ z = 18 ∨ z = 19 ∨ z = 20 ∨ z = 21 ∨ z = 22 ∨ z = 23 ∨ z = 24 ∨ z = 25 ∨ z = 26 ∨ z = 27 ∨ z = 28 ∨ z = 29 ∨ z = 30 ∨ z = 31 ∨ z = 32 ∨ z = 33 ∨ z = 34 ∨ z = 35 ∨ z = 36 ∨ z = 37 ∨ z = 38 by omega) with rfl | rfl | rfl | rfl | rfl | rfl | rfl | rfl | rfl | rfl | rfl | rfl | rfl | rfl | rfl | rfl | rfl | rfl | rfl | rfl | rfl | rfl | rfl | rfl | rfl | rfl | rfl | rfl | rfl | rfl | rfl | rfl | rfl | rfl | rfl | rfl | rfl | rfl | rfl
        · exact j_table_in (tgt := 216) C dL_law_44 ⟨by decide, by decide⟩ (by decide) (by decide) rfl rfl (lc_0 C HN hfl hxs hX hbl hbA (by omega) hI hj hk2 hn2 hB)
        · exact j_table_in (tgt := 300) C dL_law_44 ⟨by decide, by decide⟩ (by decide) (by decide) rfl rfl (lc_1 C HN hfl hxs hX hbl hbA (by omega) hI hj hk2 hn2 hB)
        · exact j_table_in (tgt := 313) C dL_law_44 ⟨by decide, by decide⟩ (by decide) (by decide) rfl rfl (lc_2 C HN hfl hxs hX hbl hbA (by omega) hI hj hk2 hn2 hB)
        · exact j_table_in (tgt := 369) C dL_law_44 ⟨by decide, by decide⟩ (by decide) (by decide) rfl rfl (lc_3 C HN hfl hxs hX hbl hbA (by omega) hI hj hk2 hn2 hB)
        · exact j_table_in (tgt := 461) C dL_law_44 ⟨by decide, by decide⟩ (by decide) (by decide) rfl rfl (lc_4 C HN hfl hxs hX hbl hbA (by omega) hI hj hk2 hn2 hB)
        · exact j_table_in (tgt := 517) C dL_law_44 ⟨by decide, by decide⟩ (by decide) (by decide) rfl rfl (lc_5 C HN hfl hxs hX hbl hbA (by omega) hI hj hk2 hn2 hB)
        · exact j_table_in (tgt := 585) C dL_law_44 ⟨by decide, by decide⟩ (by decide) (by decide) rfl rfl (lc_6 C HN hfl hxs hX hbl hbA (by omega) hI hj hk2 hn2 hB)
        · exact j_table_in (tgt := 653) C dL_law_44 ⟨by decide, by decide⟩ (by decide) (by decide) rfl rfl (lc_7 C HN hfl hxs hX hbl hbA (by omega) hI hj hk2 hn2 hB)
        · exact j_table_in (tgt := 709) C dL_law_44 ⟨by decide, by decide⟩ (by decide) (by decide) rfl rfl (lc_8 C HN hfl hxs hX hbl hbA (by omega) hI hj hk2 hn2 hB)
        · exact j_table_in (tgt := 801) C dL_law_44 ⟨by decide, by decide⟩ (by decide) (by decide) rfl rfl (lc_9 C HN hfl hxs hX hbl hbA (by omega) hI hj hk2 hn2 hB)
        · exact j_table_in (tgt := 869) C dL_law_44 ⟨by decide, by decide⟩ (by decide) (by decide) rfl rfl (lc_10 C HN hfl hxs hX hbl hbA (by omega) hI hj hk2 hn2 hB)
        · exact j_table_in (tgt := 949) C dL_law_44 ⟨by decide, by decide⟩ (by decide) (by decide) rfl rfl (lc_11 C HN hfl hxs hX hbl hbA (by omega) hI hj hk2 hn2 hB)
        · exact j_table_in (tgt := 1017) C dL_law_44 ⟨by decide, by decide⟩ (by decide) (by decide) rfl rfl (lc_12 C HN hfl hxs hX hbl hbA (by omega) hI hj hk2 hn2 hB)
        · exact j_table_in (tgt := 1085) C dL_law_44 ⟨by decide, by decide⟩ (by decide) (by decide) rfl rfl (lc_13 C HN hfl hxs hX hbl hbA (by omega) hI hj hk2 hn2 hB)
        · exact j_table_in (tgt := 1141) C dL_law_44 ⟨by decide, by decide⟩ (by decide) (by decide) rfl rfl (lc_14 C HN hfl hxs hX hbl hbA (by omega) hI hj hk2 hn2 hB)
        · exact j_table_in (tgt := 1197) C dL_law_44 ⟨by decide, by decide⟩ (by decide) (by decide) rfl rfl (lc_15 C HN hfl hxs hX hbl hbA (by omega) hI hj hk2 hn2 hB)
        · exact j_table_in (tgt := 1265) C dL_law_44 ⟨by decide, by decide⟩ (by decide) (by decide) rfl rfl (lc_16 C HN hfl hxs hX hbl hbA (by omega) hI hj hk2 hn2 hB)
        · exact j_table_in (tgt := 1333) C dL_law_44 ⟨by decide, by decide⟩ (by decide) (by decide) rfl rfl (lc_17 C HN hfl hxs hX hbl hbA (by omega) hI hj hk2 hn2 hB)
        · exact j_table_in (tgt := 1401) C dL_law_44 ⟨by decide, by decide⟩ (by decide) (by decide) rfl rfl (lc_18 C HN hfl hxs hX hbl hbA (by omega) hI hj hk2 hn2 hB)
        · exact j_table_in (tgt := 1469) C dL_law_44 ⟨by decide, by decide⟩ (by decide) (by decide) rfl rfl (lc_19 C HN hfl hxs hX hbl hbA (by omega) hI hj hk2 hn2 hB)
        · exact j_table_in (tgt := 1537) C dL_law_44 ⟨by decide, by decide⟩ (by decide) (by decide) rfl rfl (lc_20 C HN hfl hxs hX hbl hbA (by omega) hI hj hk2 hn2 hB)
        · exact j_table_in (tgt := 1614) C dL_law_44 ⟨by decide, by decide⟩ (by decide) (by decide) rfl rfl (lc_21 C HN hfl hxs hX hbl hbA (by omega) hI hj hk2 hn2 hB)
        · exact j_table_in (tgt := 1692) C dL_law_44 ⟨by decide, by decide⟩ (by decide) (by decide) rfl rfl (lc_22 C HN hfl hxs hX hbl hbA (by omega) hI hj hk2 hn2 hB)
        · exact j_table_in (tgt := 1784) C dL_law_44 ⟨by decide, by decide⟩ (by decide) (by decide) rfl rfl (lc_23 C HN hfl hxs hX hbl hbA (by omega) hI hj hk2 hn2 hB)
        · exact j_table_in (tgt := 1876) C dL_law_44 ⟨by decide, by decide⟩ (by decide) (by decide) rfl rfl (lc_24 C HN hfl hxs hX hbl hbA (by omega) hI hj hk2 hn2 hB)
        · exact j_table_in (tgt := 1968) C dL_law_44 ⟨by decide, by decide⟩ (by decide) (by decide) rfl rfl (lc_25 C HN hfl hxs hX hbl hbA (by omega) hI hj hk2 hn2 hB)
        · exact j_table_in (tgt := 2060) C dL_law_44 ⟨by decide, by decide⟩ (by decide) (by decide) rfl rfl (lc_26 C HN hfl hxs hX hbl hbA (by omega) hI hj hk2 hn2 hB)
        · exact j_table_in (tgt := 2116) C dL_law_44 ⟨by decide, by decide⟩ (by decide) (by decide) rfl rfl (lc_27 C HN hfl hxs hX hbl hbA (by omega) hI hj hk2 hn2 hB)
        · exact j_table_in (tgt := 2129) C dL_law_44 ⟨by decide, by decide⟩ (by decide) (by decide) rfl rfl (lc_28 C HN hfl hxs hX hbl hbA (by omega) hI hj hk2 hn2 hB)
        · exact j_table_in (tgt := 2142) C dL_law_44 ⟨by decide, by decide⟩ (by decide) (by decide) rfl rfl (lc_29 C HN hfl hxs hX hbl hbA (by omega) hI hj hk2 hn2 hB)
        · exact j_table_in (tgt := 2155) C dL_law_44 ⟨by decide, by decide⟩ (by decide) (by decide) rfl rfl (lc_30 C HN hfl hxs hX hbl hbA (by omega) hI hj hk2 hn2 hB)
        · exact j_table_in (tgt := 2211) C dL_law_44 ⟨by decide, by decide⟩ (by decide) (by decide) rfl rfl (lc_31 C HN hfl hxs hX hbl hbA (by omega) hI hj hk2 hn2 hB)
        · exact j_table_in (tgt := 2225) C dL_law_44 ⟨by decide, by decide⟩ (by decide) (by decide) rfl rfl (lc_32 C HN hfl hxs hX hbl hbA (by omega) hI hj hk2 hn2 hB)
        · exact j_table_in (tgt := 2239) C dL_law_44 ⟨by decide, by decide⟩ (by decide) (by decide) rfl rfl (lc_33 C HN hfl hxs hX hbl hbA (by omega) hI hj hk2 hn2 hB)
        · exact j_table_in (tgt := 2253) C dL_law_44 ⟨by decide, by decide⟩ (by decide) (by decide) rfl rfl (lc_34 C HN hfl hxs hX hbl hbA (by omega) hI hj hk2 hn2 hB)
        · exact j_table_in (tgt := 2266) C dL_law_44 ⟨by decide, by decide⟩ (by decide) (by decide) rfl rfl (lc_35 C HN hfl hxs hX hbl hbA (by omega) hI hj hk2 hn2 hB)
        · exact j_table_in (tgt := 2322) C dL_law_44 ⟨by decide, by decide⟩ (by decide) (by decide) rfl rfl (lc_36 C HN hfl hxs hX hbl hbA (by omega) hI hj hk2 hn2 hB)
        · exact j_table_in (tgt := 2335) C dL_law_44 ⟨by decide, by decide⟩ (by decide) (by decide) rfl rfl (lc_37 C HN hfl hxs hX hbl hbA (by omega) hI hj hk2 hn2 hB)
        · exact j_table_in (tgt := 2391) C dL_law_44 ⟨by decide, by decide⟩ (by decide) (by decide) rfl rfl (lc_38 C HN hfl hxs hX hbl hbA (by omega) hI hj hk2 hn2 hB)
      · exact j_table_out (tgt := 2447) C dL_law_44 ⟨by omega, by omega⟩ (Or.inr (by omega)) rfl (hB _ _ _ _ _ _ hI rfl (by omega) (by omega))
    · refine j_iload 5 C dL_law_28 rfl rfl ?_
      refine j_aload_n 0 C dL_law_30 rfl rfl rfl ?_
      refine j_slen C hX hbl hbA dL_law_31 rfl ?_
      refine j_iconst C dL_law_32 rfl ?_
      refine j_isub C dL_law_33 rfl ?_
      refine j_icmp_gt (tgt := 2453) C dL_law_34 rfl rfl ⟨by omega, by omega⟩ ⟨by omega, by omega⟩ (fun cc => ?_) (fun cc => absurd cc (by omega))
      refine j_iconst C dL_law_2453 rfl ?_
      exact hR _ _ _ _ (by omega) (by omega)
