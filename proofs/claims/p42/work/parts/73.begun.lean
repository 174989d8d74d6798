/-! the law's own: begun, twice -/
/-- the six numbers of the rules at the start -/
def rlI : Nat → Int := ups (ups (ups (ups (ups (ups (fun _ => 0) 0 140) 1 20) 2 155) 3 30) 4 175) 5 40
theorem rlI_at : ∀ i : Nat, i < 12 → rlI (2 * i % 6) = (ruI i).1 ∧ rlI ((2 * i + 1) % 6) = (ruI i).2 := by decide
theorem pfI_at : pfI 1 = 500 ∧ pfI 2 = 480 ∧ pfI 3 = 450 ∧ pfI 4 = 380 := by decide
set_option maxHeartbeats 8000000 in
set_option maxRecDepth 20000 in
theorem c_begun (l : Launch) (hfl : l.stackTraces = false) (D : va_G) (cy : Nat → Nat) (σ : Wd)  : Ct l yL_begun cL_begun 3 (some (.array .int)) 0 2 2706 D cy [] σ (fun v σ' => ∃ (q : Nat) (G : Nat → Int), v = some (.ref q) ∧ has σ' q (iA cy 2700 G) ∧ NetL G [] ∧ NetH G ruI 0 pfI 0 500 0 ∧ q ∉ σ.1 ∧ Keep σ σ' (fun _ => False) ∧ ∀ y, y ∈ σ.1 → y ∈ σ'.1) noX := by
  refine ct_start (by decide +kernel) hfl rfl (fun κ e1 e2 e3 C E NH => ?_)
  subst e1 e2 e3
  have C : Cx κ cL_begun 3 RL "begun" 0 := C
  obtain ⟨-, -, -, -, hc, hs⟩ := id E
  show J κ σ [] 0 [] 0 0
  have kpn : Keep σ σ (fun _ => False) := Keep.rf
  have dmn : σ.1 = σ.1 := rfl
  refine j_sipush C dL_begun_0 rfl (by decide) ?_
  refine j_newI C dL_begun_3 rfl aw_int ⟨by omega, by omega⟩ (by omega) (by omega) (k' := 1) (n' := 2700) (by first | rfl | omega) (by first | rfl | omega) (fun q τ1 nq3 ee2 => ?_)
  have u4 : has τ1 q (iA (kc κ) 2700 (fun _ => 0)) := has.fresh' ee2
  have kp5 := kpn.new ee2 nq3
  have dm6 := (dom_new ee2).trans (congrArg (· ++ [q]) dmn)
  have hqn : q ∉ σ.1 := nq3
  refine j_astore_n (lv' := [(0, .ref q)]) [0] C dL_begun_5 rfl rfl rfl rfl ?_
  refine j_bipush C dL_begun_6 rfl (by decide) ?_
  refine j_newI C dL_begun_8 rfl aw_int ⟨by omega, by omega⟩ (by omega) (by omega) (k' := 2) (n' := 2706) (by first | rfl | omega) (by first | rfl | omega) (fun r τ7 nq9 ee8 => ?_)
  have u10 := u4.old' ee8 nq9
  have u11 : has τ7 r (iA (kc κ) 6 (fun _ => 0)) := has.fresh' ee8
  have kp12 := kp5.new ee8 nq9
  have dm13 := (dom_new ee8).trans (congrArg (· ++ [r]) dm6)
  skip
  have kp7 : Keep τ7 τ7 (fun y => y = q ∨ y = r) := Keep.rf
  have dm7 : τ7.1 = τ7.1 := rfl
  refine j_dup C dL_begun_10 rfl rfl ?_
  refine j_iconst C dL_begun_11 rfl ?_
  refine j_sipush C dL_begun_12 rfl (by decide) ?_
  refine j_iast C dL_begun_15 rfl u11 ⟨by omega, by omega⟩ (by omega) (fun τ14 ee15 => ?_)
  have u16 := u10.ne' ee15 (u4.apart nq9)
  have u17 : has τ14 r (iA (kc κ) 6 (ups (fun _ => 0) 0 140)) := u11.self' ee15
  have kp18 := kp7.put ee15 (Or.inr rfl)
  have dm19 := (dom_put ee15).trans dm7
  refine j_dup C dL_begun_16 rfl rfl ?_
  refine j_iconst C dL_begun_17 rfl ?_
  refine j_bipush C dL_begun_18 rfl (by decide) ?_
  refine j_iast C dL_begun_20 rfl u17 ⟨by omega, by omega⟩ (by omega) (fun τ20 ee21 => ?_)
  have u22 := u16.ne' ee21 (u4.apart nq9)
  have u23 : has τ20 r (iA (kc κ) 6 (ups (ups (fun _ => 0) 0 140) 1 20)) := u17.self' ee21
  have kp24 := kp18.put ee21 (Or.inr rfl)
  have dm25 := (dom_put ee21).trans dm19
  refine j_dup C dL_begun_21 rfl rfl ?_
  refine j_iconst C dL_begun_22 rfl ?_
  refine j_sipush C dL_begun_23 rfl (by decide) ?_
  refine j_iast C dL_begun_26 rfl u23 ⟨by omega, by omega⟩ (by omega) (fun τ26 ee27 => ?_)
  have u28 := u22.ne' ee27 (u4.apart nq9)
  have u29 : has τ26 r (iA (kc κ) 6 (ups (ups (ups (fun _ => 0) 0 140) 1 20) 2 155)) := u23.self' ee27
  have kp30 := kp24.put ee27 (Or.inr rfl)
  have dm31 := (dom_put ee27).trans dm25
  refine j_dup C dL_begun_27 rfl rfl ?_
  refine j_iconst C dL_begun_28 rfl ?_
  refine j_bipush C dL_begun_29 rfl (by decide) ?_
  refine j_iast C dL_begun_31 rfl u29 ⟨by omega, by omega⟩ (by omega) (fun τ32 ee33 => ?_)
  have u34 := u28.ne' ee33 (u4.apart nq9)
  have u35 : has τ32 r (iA (kc κ) 6 (ups (ups (ups (ups (fun _ => 0) 0 140) 1 20) 2 155) 3 30)) := u29.self' ee33
  have kp36 := kp30.put ee33 (Or.inr rfl)
  have dm37 := (dom_put ee33).trans dm31
  refine j_dup C dL_begun_32 rfl rfl ?_
  refine j_iconst C dL_begun_33 rfl ?_
  refine j_sipush C dL_begun_34 rfl (by decide) ?_
  refine j_iast C dL_begun_37 rfl u35 ⟨by omega, by omega⟩ (by omega) (fun τ38 ee39 => ?_)
  have u40 := u34.ne' ee39 (u4.apart nq9)
  have u41 : has τ38 r (iA (kc κ) 6 (ups (ups (ups (ups (ups (fun _ => 0) 0 140) 1 20) 2 155) 3 30) 4 175)) := u35.self' ee39
  have kp42 := kp36.put ee39 (Or.inr rfl)
  have dm43 := (dom_put ee39).trans dm37
  refine j_dup C dL_begun_38 rfl rfl ?_
  refine j_iconst C dL_begun_39 rfl ?_
  refine j_bipush C dL_begun_40 rfl (by decide) ?_
  refine j_iast C dL_begun_42 rfl u41 ⟨by omega, by omega⟩ (by omega) (fun τ44 ee45 => ?_)
  have u46 := u40.ne' ee45 (u4.apart nq9)
  have u47 : has τ44 r (iA (kc κ) 6 (ups (ups (ups (ups (ups (ups (fun _ => 0) 0 140) 1 20) 2 155) 3 30) 4 175) 5 40)) := u41.self' ee45
  have kp48 := kp42.put ee45 (Or.inr rfl)
  have dm49 := (dom_put ee45).trans dm43
  refine j_astore_n (lv' := [(0, .ref q), (1, .ref r)]) [1, 0] C dL_begun_43 rfl rfl rfl rfl ?_
  refine j_iconst C dL_begun_44 rfl ?_
  refine j_istore_n (lv' := [(0, .ref q), (1, .ref r), (2, vi (0))]) [1, 2, 0] C dL_begun_45 rfl rfl rfl rfl ?_
  have hrr : has τ44 r (iA (kc κ) 6 rlI) := u47
  have hqd := dm13
  have hmall : ∀ y, y ∈ σ.1 → y ∈ τ7.1 := fun y hy => by rw [hqd]; exact List.mem_append_left _ (List.mem_append_left _ hy)
  have hrn : r ∉ σ.1 := fun z => nq9 (by rw [dom_new ee2]; exact List.mem_append_left _ z)
  have hkall : ∀ σ9 : Wd, Keep τ7 σ9 (fun y => y = q ∨ y = r) → Keep σ σ9 (fun _ => False) := fun σ9 h => kp12.tr2 h (fun y z => Or.inr (z.elim (fun z => by rw [z]; exact hqn) (fun z => by rw [z]; exact hrn)))
  have lp : ∀ (N : Nat) (k : Nat) (σ1 : Wd) (G : Nat → Int), has σ1 q (iA (kc κ) 2700 G) → has σ1 r (iA (kc κ) 6 rlI) → k ≤ 24 → (∀ z : Nat, 40 ≤ z → z < 40 + k → G z = rlI ((z - 40) % 6)) → (∀ z : Nat, ¬ (40 ≤ z ∧ z < 64) → G z = 0) → Keep τ7 σ1 (fun y => y = q ∨ y = r) → σ1.1 = τ7.1 → (25 - k) < N → J κ σ1 [(0, .ref q), (1, .ref r), (2, vi ((k : Int)))] 46 [] 2 2706 := by
    intro N
    induction N with
    | zero => intro k σ1 G hQ hr9 hk hG1 hG0 hk1 hd1 hN; exact absurd hN (Nat.not_lt_zero _)
    | succ N ih =>
      intro k σ1 G hQ hr9 hk hG1 hG0 hk1 hd1 hN
      refine j_iload_n 2 C dL_begun_46 rfl rfl rfl ?_
      refine j_bipush C dL_begun_47 rfl (by decide) ?_
      refine j_icmp_ge (tgt := 70) C dL_begun_49 rfl rfl ⟨by omega, by omega⟩ ⟨by omega, by omega⟩ (fun cc50 => ?_) (fun cc50 => ?_)
      · refine j_aload_n 0 C dL_begun_70 rfl rfl rfl ?_
        refine j_iconst C dL_begun_71 rfl ?_
        refine j_sipush C dL_begun_72 rfl (by decide) ?_
        refine j_iast C dL_begun_75 rfl hQ ⟨by omega, by omega⟩ (by omega) (fun τ51 ee52 => ?_)
        have u53 : has τ51 q (iA (kc κ) 2700 (ups G 4 500)) := hQ.self' ee52
        have u54 := hr9.ne' ee52 (Ne.symm (u4.apart nq9))
        have kp55 := hk1.put ee52 (Or.inl rfl)
        have dm56 := (dom_put ee52).trans hd1
        refine j_aload_n 0 C dL_begun_76 rfl rfl rfl ?_
        refine j_bipush C dL_begun_77 rfl (by decide) ?_
        refine j_sipush C dL_begun_79 rfl (by decide) ?_
        refine j_iast C dL_begun_82 rfl u53 ⟨by omega, by omega⟩ (by omega) (fun τ57 ee58 => ?_)
        have u59 : has τ57 q (iA (kc κ) 2700 (ups (ups G 4 500) 71 500)) := u53.self' ee58
        have u60 := u54.ne' ee58 (Ne.symm (u4.apart nq9))
        have kp61 := kp55.put ee58 (Or.inl rfl)
        have dm62 := (dom_put ee58).trans dm56
        refine j_aload_n 0 C dL_begun_83 rfl rfl rfl ?_
        refine j_bipush C dL_begun_84 rfl (by decide) ?_
        refine j_sipush C dL_begun_86 rfl (by decide) ?_
        refine j_iast C dL_begun_89 rfl u59 ⟨by omega, by omega⟩ (by omega) (fun τ63 ee64 => ?_)
        have u65 : has τ63 q (iA (kc κ) 2700 (ups (ups (ups G 4 500) 71 500) 72 480)) := u59.self' ee64
        have u66 := u60.ne' ee64 (Ne.symm (u4.apart nq9))
        have kp67 := kp61.put ee64 (Or.inl rfl)
        have dm68 := (dom_put ee64).trans dm62
        refine j_aload_n 0 C dL_begun_90 rfl rfl rfl ?_
        refine j_bipush C dL_begun_91 rfl (by decide) ?_
        refine j_sipush C dL_begun_93 rfl (by decide) ?_
        refine j_iast C dL_begun_96 rfl u65 ⟨by omega, by omega⟩ (by omega) (fun τ69 ee70 => ?_)
        have u71 : has τ69 q (iA (kc κ) 2700 (ups (ups (ups (ups G 4 500) 71 500) 72 480) 73 450)) := u65.self' ee70
        have u72 := u66.ne' ee70 (Ne.symm (u4.apart nq9))
        have kp73 := kp67.put ee70 (Or.inl rfl)
        have dm74 := (dom_put ee70).trans dm68
        refine j_aload_n 0 C dL_begun_97 rfl rfl rfl ?_
        refine j_bipush C dL_begun_98 rfl (by decide) ?_
        refine j_sipush C dL_begun_100 rfl (by decide) ?_
        refine j_iast C dL_begun_103 rfl u71 ⟨by omega, by omega⟩ (by omega) (fun τ75 ee76 => ?_)
        have u77 : has τ75 q (iA (kc κ) 2700 (ups (ups (ups (ups (ups G 4 500) 71 500) 72 480) 73 450) 74 380)) := u71.self' ee76
        have u78 := u72.ne' ee76 (Ne.symm (u4.apart nq9))
        have kp79 := kp73.put ee76 (Or.inl rfl)
        have dm80 := (dom_put ee76).trans dm74
        refine j_aload_n 0 C dL_begun_104 rfl rfl rfl ?_
        obtain ⟨G9, hG9⟩ : ∃ f : Nat → Int, (ups (ups (ups (ups (ups G 4 500) 71 500) 72 480) 73 450) 74 380) = f := ⟨_, rfl⟩
        have hAA := u77
        rw [hG9] at hAA
        have hk24 : k = 24 := by omega
        subst hk24
        have g4 : G9 4 = 500 := by rw [← hG9, ups_n (by decide), ups_n (by decide), ups_n (by decide), ups_n (by decide)]; exact ups_s
        have g71 : G9 71 = 500 := by rw [← hG9, ups_n (by decide), ups_n (by decide), ups_n (by decide)]; exact ups_s
        have g72 : G9 72 = 480 := by rw [← hG9, ups_n (by decide), ups_n (by decide)]; exact ups_s
        have g73 : G9 73 = 450 := by rw [← hG9, ups_n (by decide)]; exact ups_s
        have g74 : G9 74 = 380 := by rw [← hG9]; exact ups_s
        have go : ∀ z : Nat, z ≠ 4 → ¬ (71 ≤ z ∧ z < 75) → G9 z = G z := fun z a1 a2 => by rw [← hG9, ups_n (by omega), ups_n (by omega), ups_n (by omega), ups_n (by omega), ups_n (by omega)]
        have gz : ∀ z : Nat, z ≠ 4 → ¬ (71 ≤ z ∧ z < 75) → ¬ (40 ≤ z ∧ z < 64) → G9 z = 0 := fun z a1 a2 a3 => (go z a1 a2).trans (hG0 z (by omega))
        have hN : NetL G9 [] := ⟨gz 0 (by omega) (by omega) (by omega), by decide, fun b hb => absurd hb (Nat.not_lt_zero _), fun b _ hb => gz _ (by omega) (by omega) (by omega)⟩
        have hRu : RuN G9 ruI 0 := ⟨gz 1 (by omega) (by omega) (by omega), ⟨by decide, by decide⟩, fun j hj => ⟨⟨by rw [go _ (by omega) (by omega), hG1 _ (by omega) (by omega), ← (rlI_at j hj).1]; congr 1; omega, by rw [go _ (by omega) (by omega), hG1 _ (by omega) (by omega), ← (rlI_at j hj).2]; congr 1; omega⟩, ruI_in j hj⟩⟩
        have hH : NetH G9 ruI 0 pfI 0 500 0 := ⟨hRu, gz 2 (by omega) (by omega) (by omega), ⟨by rw [gz 3 (by omega) (by omega) (by omega)]; decide, by rw [gz 3 (by omega) (by omega) (by omega)]; decide⟩, g4, gz 5 (by omega) (by omega) (by omega), fun j a1 a2 => ?_⟩
        exact j_aret C E dL_begun_105 (Or.inr ⟨_, rfl⟩) (by omega) (by omega) ⟨q, G9, rfl, hAA, hN, hH, hqn, hkall τ75 kp79, fun y hy => by rw [dm80]; exact hmall y hy⟩
        rcases (show j = 1 ∨ j = 2 ∨ j = 3 ∨ j = 4 by omega) with rfl | rfl | rfl | rfl
        · rw [pfI_at.1]; exact g71
        · rw [pfI_at.2.1]; exact g72
        · rw [pfI_at.2.2.1]; exact g73
        · rw [pfI_at.2.2.2]; exact g74
      · refine j_aload_n 0 C dL_begun_52 rfl rfl rfl ?_
        refine j_bipush C dL_begun_53 rfl (by decide) ?_
        refine j_iload_n 2 C dL_begun_55 rfl rfl rfl ?_
        refine j_iadd C dL_begun_56 rfl ?_
        refine j_aload_n 1 C dL_begun_57 rfl rfl rfl ?_
        refine j_iload_n 2 C dL_begun_58 rfl rfl rfl ?_
        refine j_bipush C dL_begun_59 rfl (by decide) ?_
        refine j_irem C dL_begun_61 rfl ⟨by omega, by omega⟩ ⟨by omega, by omega⟩ ?_
        obtain ⟨y81, hy81⟩ : ∃ y : Int, rlI ((k : Int) % 6).toNat = y := ⟨_, rfl⟩
        refine j_iald C dL_begun_62 rfl hr9 ⟨by omega, by omega⟩ (by omega) hy81 ?_
        refine j_iast C dL_begun_63 rfl hQ ⟨by omega, by omega⟩ (by omega) (fun τ82 ee83 => ?_)
        have u84 : has τ82 q (iA (kc κ) 2700 (ups G (40 + (k : Int)).toNat y81)) := hQ.self' ee83
        have u85 := hr9.ne' ee83 (Ne.symm (u4.apart nq9))
        have kp86 := hk1.put ee83 (Or.inl rfl)
        have dm87 := (dom_put ee83).trans hd1
        refine j_iinc (y := (k : Int) + 1) (lv' := [(0, .ref q), (1, .ref r), (2, vi ((k : Int) + 1))]) 2 [1, 2, 0] C dL_begun_64 rfl rfl rfl rfl rfl ?_
        refine j_goto (tgt := 46) C dL_begun_67 rfl ?_
        refine ih (k + 1) τ82 _ u84 u85 (by omega) (fun z a1 a2 => ?_) (fun z a1 => ?_) kp86 dm87 (by omega)
        · unfold ups
          by_cases e : z = (40 + (k : Int)).toNat
          · rw [if_pos e, ← hy81]
            congr 1
            omega
          · rw [if_neg e]
            exact hG1 z a1 (by omega)
        · rw [ups_n (by omega)]
          exact hG0 z a1
  exact lp _ 0 τ44 _ u46 hrr (by omega) (fun z a1 a2 => absurd a2 (by omega)) (fun z _ => rfl) kp48 dm49 (Nat.lt_succ_self _)
set_option maxHeartbeats 8000000 in
set_option maxRecDepth 20000 in
theorem c_begunE (l : Launch) (hfl : l.stackTraces = false) (D : va_G) (cy : Nat → Nat) (σ : Wd) (a m : Nat) (g gm : Nat → Int) (hA : has σ a (iA cy 2700 g)) (hM : has σ m (lA cy 2 gm)) (hNt : NetL g []) (hH : NetH g ruI 0 pfI 0 500 0) : Ct l yL_begun_ cL_begun_ 6 (some (.object "GrainElevator")) 10 77 5868 D cy [.ref (cy 9), .ref a, .ref m] σ (fun v σ' => ∃ o : Nat, v = some (.ref o) ∧ LI cy σ' o a m 1) noX := by
  refine ct_start (by decide +kernel) hfl rfl (fun κ e1 e2 e3 C E NH => ?_)
  subst e1 e2 e3
  have C : Cx κ cL_begun_ 6 RL "begun" 10 := C
  obtain ⟨-, -, -, -, hc, hs⟩ := id E
  show J κ σ [(0, .ref (kc κ 9)), (1, .ref a), (2, .ref m)] 0 [] 0 0
  have kpn : Keep σ σ (fun _ => False) := Keep.rf
  refine j_new C dL_begun__0 rfl na_L_10 (by omega) (by omega) (k' := 1) (n' := 8) (by first | rfl | omega) (by first | rfl | omega) (fun o τ1 nq3 ee2 => ?_)
  have u4 := hA.old' ee2 nq3
  have u5 := hM.old' ee2 nq3
  have u6 : has τ1 o (.inr (6, [.null, .null, .null, .null, .null, .null, .null, vl (0)])) := has.fresh' ee2
  have kp7 := kpn.new ee2 nq3
  have hon : o ∉ σ.1 := nq3
  refine j_dup C dL_begun__3 rfl rfl ?_
  refine j_callI (st' := [.ref o]) (As := []) C dL_begun__4 rfl m_L_149 rfl rfl (c_xInit (kL κ) hfl (kD κ) (kc κ) τ1 o u6) rfl (by omega) (by omega) (by omega) (fun _ _ hx => hx.elim) (fun v9 τ8 hp10 => ?_)
  obtain ⟨rfl, tg, ad, ha0, hR, hK1, hm1, hfar⟩ := hp10
  show J κ τ8 [(0, .ref (kc κ 9)), (1, .ref a), (2, .ref m)] 7 [.ref o] _ _
  have hao : a ≠ o := fun e => hon (by rw [← e]; exact hA.1)
  have hmo : m ≠ o := fun e => hon (by rw [← e]; exact hM.1)
  have hA2 := hK1 _ _ u4 hao
  have hM2 := hK1 _ _ u5 hmo
  have hta := hfar a u4.1 hao
  have htm := hfar m u5.1 hmo
  have hI0 : LI (kc κ) τ8 o a m 0 := LI.mk ha0 hR hA2 hNt hH hM2 hta htm (Nat.zero_le _)
  refine j_astore_n (lv' := [(0, .ref (kc κ 9)), (1, .ref a), (2, .ref m), (3, .ref o)]) [1, 2, 3, 0] C dL_begun__7 rfl rfl rfl rfl ?_
  refine j_iconst C dL_begun__8 rfl ?_
  refine j_istore (lv' := [(0, .ref (kc κ 9)), (1, .ref a), (2, .ref m), (3, .ref o), (4, vi (1))]) [1, 2, 3, 4, 0] C dL_begun__9 rfl rfl rfl ?_
  refine j_iconst C dL_begun__11 rfl ?_
  refine j_aload_n 0 C dL_begun__12 rfl rfl rfl ?_
  refine j_iconst C dL_begun__13 rfl ?_
  refine j_iconst C dL_begun__14 rfl ?_
  refine j_callS (st' := [vi (2)]) (As := [.ref (kc κ 9), vi (0), vi (3)]) C dL_begun__15 rfl m_L_132 rfl rfl (c_in (kL κ) hfl (kD κ) (kc κ) τ8 0 3 ⟨by omega, by omega⟩ ⟨by omega, by omega⟩) rfl (by omega) (by omega) (by omega) (fun _ _ hx => hx.elim) (fun v13 τ12 hp14 => ?_)
  obtain ⟨z11, rfl, hz11, hs9⟩ := hp14
  replace hs9 := hs9.symm
  subst hs9
  show J κ τ8 [(0, .ref (kc κ 9)), (1, .ref a), (2, .ref m), (3, .ref o), (4, vi (1))] 18 [vi (z11), vi (2)] _ _
  refine j_iadd C dL_begun__18 rfl ?_
  refine j_istore (lv' := [(0, .ref (kc κ 9)), (1, .ref a), (2, .ref m), (3, .ref o), (4, vi (1)), (5, vi (2 + z11))]) [1, 2, 3, 4, 5, 0] C dL_begun__19 rfl rfl rfl ?_
  obtain ⟨N0, hN0, hN1⟩ : ∃ z : Nat, (z : Int) = 2 + z11 ∧ 2 ≤ z ∧ z ≤ 4 := ⟨(2 + z11).toNat, by omega, by omega, by omega⟩
  have lpL : ∀ (N : Nat) (j : Nat) (σ1 : Wd) (k1 : Nat) (n1 : Nat), LI (kc κ) σ1 o a m 1 → j ≤ 4 → k1 + 2 * (4 - j) ≤ 77 → n1 + 257 * (4 - j) ≤ 5868 → (5 - j) < N → J κ σ1 [(0, .ref (kc κ 9)), (1, .ref a), (2, .ref m), (3, .ref o), (4, vi (1)), (5, vi ((j : Int)))] 78 [] k1 n1 := by
    intro N
    induction N with
    | zero => intro j σ1 k1 n1 hI1 hj hk1 hn1 hN; exact absurd hN (Nat.not_lt_zero _)
    | succ N ih =>
      intro j σ1 k1 n1 hI1 hj hk1 hn1 hN
      refine j_iload 5 C dL_begun__78 rfl rfl ?_
      refine j_iconst C dL_begun__80 rfl ?_
      refine j_icmp_ge (tgt := 109) C dL_begun__81 rfl rfl ⟨by omega, by omega⟩ ⟨by omega, by omega⟩ (fun cc15 => ?_) (fun cc15 => ?_)
      · refine j_iload 4 C dL_begun__109 rfl rfl ?_
        refine j_if_eq (tgt := 118) C dL_begun__111 rfl rfl ⟨by omega, by omega⟩ (fun cc16 => absurd cc16 (by decide)) (fun _ => ?_)
        refine j_aload_n 3 C dL_begun__114 rfl rfl rfl ?_
        refine j_goto (tgt := 119) C dL_begun__115 rfl ?_
        exact j_aret C E dL_begun__119 (Or.inl ⟨_, rfl⟩) (by omega) (by omega) ⟨o, rfl, hI1⟩
      · refine j_iload 4 C dL_begun__84 rfl rfl ?_
        refine j_aload_n 3 C dL_begun__86 rfl rfl rfl ?_
        refine j_aload_n 1 C dL_begun__87 rfl rfl rfl ?_
        refine j_aload_n 2 C dL_begun__88 rfl rfl rfl ?_
        refine j_aload_n 0 C dL_begun__89 rfl rfl rfl ?_
        refine j_bipush C dL_begun__90 rfl (by decide) ?_
        refine j_iconst C dL_begun__92 rfl ?_
        refine j_iload 5 C dL_begun__93 rfl rfl ?_
        refine j_imul C dL_begun__95 rfl ?_
        refine j_iadd C dL_begun__96 rfl ?_
        refine j_callS (st' := [vi (1)]) (As := [.ref o, .ref a, .ref m, .ref (kc κ 9), vi (14 + (4 * (j : Int)))]) C dL_begun__97 rfl m_L_154 rfl rfl (c_isLoaded (kL κ) hfl (kD κ) (kc κ) σ1 o a m 1 hI1 (Nat.le_refl _) (14 + (4 * (j : Int))) ⟨by omega, by omega⟩) rfl (by omega) (by omega) (by omega) (fun _ _ hx => hx.elim) (fun v18 τ17 hp19 => ?_)
        obtain ⟨rfl, hI2⟩ := hp19
        show J κ τ17 [(0, .ref (kc κ 9)), (1, .ref a), (2, .ref m), (3, .ref o), (4, vi (1)), (5, vi ((j : Int)))] 100 [vi (1), vi (1)] (k1 + 2) (n1 + 257)
        refine j_iand (z := 1) C dL_begun__100 rfl (by decide) ?_
        refine j_istore (lv' := [(0, .ref (kc κ 9)), (1, .ref a), (2, .ref m), (3, .ref o), (4, vi (1)), (5, vi ((j : Int)))]) [1, 2, 3, 4, 0, 5] C dL_begun__101 rfl rfl rfl ?_
        refine j_iinc (y := (j : Int) + 1) (lv' := [(0, .ref (kc κ 9)), (1, .ref a), (2, .ref m), (3, .ref o), (4, vi (1)), (5, vi ((j : Int) + 1))]) 5 [1, 2, 3, 4, 5, 0] C dL_begun__103 rfl rfl rfl rfl rfl ?_
        refine j_goto (tgt := 78) C dL_begun__106 rfl ?_
        refine j_locals (lv' := [(0, .ref (kc κ 9)), (1, .ref a), (2, .ref m), (3, .ref o), (4, vi (1)), (5, vi (((j + 1 : Nat) : Int)))]) [0, 1, 2, 3, 4, 5] rfl ?_
        exact ih (j + 1) τ17 (k1 + 2) (n1 + 257) hI2 (by omega) (by omega) (by omega) (by omega)
  have lpB : ∀ (N : Nat) (n : Nat) (lo : Nat) (σ1 : Wd) (k1 : Nat) (n1 : Nat), LI (kc κ) σ1 o a m lo → (0 < n ∨ 1 ≤ lo) → n ≤ 4 → k1 + 12 * n ≤ 69 → n1 + 1158 * n ≤ 4840 → n < N → J κ σ1 [(0, .ref (kc κ 9)), (1, .ref a), (2, .ref m), (3, .ref o), (4, vi (1)), (5, vi ((n : Int)))] 21 [] k1 n1 := by
    intro N
    induction N with
    | zero => intro n lo σ1 k1 n1 hI1 hlo hn4 hk1 hn1 hN; exact absurd hN (Nat.not_lt_zero _)
    | succ N ih =>
      intro n lo σ1 k1 n1 hI1 hlo hn4 hk1 hn1 hN
      refine j_iload 5 C dL_begun__21 rfl rfl ?_
      refine j_if_le (tgt := 75) C dL_begun__23 rfl rfl ⟨by omega, by omega⟩ (fun cc20 => ?_) (fun cc20 => ?_)
      · refine j_iconst C dL_begun__75 rfl ?_
        refine j_istore (lv' := [(0, .ref (kc κ 9)), (1, .ref a), (2, .ref m), (3, .ref o), (4, vi (1)), (5, vi (0))]) [1, 2, 3, 4, 5, 0] C dL_begun__76 rfl rfl rfl ?_
        refine j_locals (lv' := [(0, .ref (kc κ 9)), (1, .ref a), (2, .ref m), (3, .ref o), (4, vi (1)), (5, vi (((0 : Nat) : Int)))]) [0, 1, 2, 3, 4, 5] rfl ?_
        exact lpL _ 0 σ1 k1 n1 (hI1.mono (by omega)) (by omega) (by omega) (by omega) (Nat.lt_succ_self _)
      · refine j_iload 4 C dL_begun__26 rfl rfl ?_
        refine j_aload_n 3 C dL_begun__28 rfl rfl rfl ?_
        refine j_aload_n 1 C dL_begun__29 rfl rfl rfl ?_
        refine j_bipush C dL_begun__30 rfl (by decide) ?_
        refine j_aload_n 0 C dL_begun__32 rfl rfl rfl ?_
        refine j_iconst C dL_begun__33 rfl ?_
        refine j_iload 5 C dL_begun__34 rfl rfl ?_
        refine j_imul C dL_begun__36 rfl ?_
        refine j_sipush C dL_begun__37 rfl (by decide) ?_
        refine j_callS (st' := [vi (40), .ref a, .ref o, vi (1)]) (As := [.ref (kc κ 9), vi (2 * (n : Int)), vi (300)]) C dL_begun__40 rfl m_L_132 rfl rfl (c_in (kL κ) hfl (kD κ) (kc κ) σ1 (2 * (n : Int)) 300 ⟨by omega, by omega⟩ ⟨by omega, by omega⟩) rfl (by omega) (by omega) (by omega) (fun _ _ hx => hx.elim) (fun v23 τ22 hp24 => ?_)
        obtain ⟨z21, rfl, hz21, hs9⟩ := hp24
        replace hs9 := hs9.symm
        subst hs9
        show J κ σ1 [(0, .ref (kc κ 9)), (1, .ref a), (2, .ref m), (3, .ref o), (4, vi (1)), (5, vi ((n : Int)))] 43 [vi (z21), vi (40), .ref a, .ref o, vi (1)] _ _
        refine j_iadd C dL_begun__43 rfl ?_
        refine j_aload_n 0 C dL_begun__44 rfl rfl rfl ?_
        refine j_iconst C dL_begun__45 rfl ?_
        refine j_iconst C dL_begun__46 rfl ?_
        refine j_iload 5 C dL_begun__47 rfl rfl ?_
        refine j_imul C dL_begun__49 rfl ?_
        refine j_iadd C dL_begun__50 rfl ?_
        refine j_iconst C dL_begun__51 rfl ?_
        refine j_callS (st' := [vi (40 + z21), .ref a, .ref o, vi (1)]) (As := [.ref (kc κ 9), vi (1 + (2 * (n : Int))), vi (2)]) C dL_begun__52 rfl m_L_132 rfl rfl (c_in (kL κ) hfl (kD κ) (kc κ) σ1 (1 + (2 * (n : Int))) 2 ⟨by omega, by omega⟩ ⟨by omega, by omega⟩) rfl (by omega) (by omega) (by omega) (fun _ _ hx => hx.elim) (fun v27 τ26 hp28 => ?_)
        obtain ⟨z25, rfl, hz25, hs9⟩ := hp28
        replace hs9 := hs9.symm
        subst hs9
        show J κ σ1 [(0, .ref (kc κ 9)), (1, .ref a), (2, .ref m), (3, .ref o), (4, vi (1)), (5, vi ((n : Int)))] 55 [vi (z25), vi (40 + z21), .ref a, .ref o, vi (1)] _ _
        refine j_if_ne (tgt := 62) C dL_begun__55 rfl rfl ⟨by omega, by omega⟩ (fun cc29 => ?_) (fun cc29 => ?_)
        · refine j_iconst C dL_begun__62 rfl ?_
          refine j_eq_st (st' := [vi (b01 false), vi (40 + z21), .ref a, .ref o, vi (1)]) rfl ?_
          refine j_callS (st' := [vi (1)]) (As := [.ref o, .ref a, vi (40 + z21), vi (b01 false)]) C dL_begun__63 rfl m_L_150 rfl rfl (c_isBin (kL κ) hfl (kD κ) (kc κ) σ1 o a m lo hI1 (40 + z21) ⟨by omega, by omega⟩ false) rfl (by omega) (by omega) (by omega) (fun _ _ hx => hx.elim) (fun v31 τ30 hp32 => ?_)
          obtain ⟨rfl, hI2⟩ := hp32
          show J κ τ30 [(0, .ref (kc κ 9)), (1, .ref a), (2, .ref m), (3, .ref o), (4, vi (1)), (5, vi ((n : Int)))] 66 [vi (1), vi (1)] (k1 + 12) (n1 + 1158)
          refine j_iand (z := 1) C dL_begun__66 rfl (by decide) ?_
          refine j_istore (lv' := [(0, .ref (kc κ 9)), (1, .ref a), (2, .ref m), (3, .ref o), (4, vi (1)), (5, vi ((n : Int)))]) [1, 2, 3, 4, 0, 5] C dL_begun__67 rfl rfl rfl ?_
          refine j_iinc (y := (n : Int) + (-1)) (lv' := [(0, .ref (kc κ 9)), (1, .ref a), (2, .ref m), (3, .ref o), (4, vi (1)), (5, vi ((n : Int) + (-1)))]) 5 [1, 2, 3, 4, 5, 0] C dL_begun__69 rfl rfl rfl rfl rfl ?_
          refine j_goto (tgt := 21) C dL_begun__72 rfl ?_
          obtain ⟨n9, rfl⟩ : ∃ z : Nat, n = z + 1 := ⟨n - 1, by omega⟩
          refine j_locals (lv' := [(0, .ref (kc κ 9)), (1, .ref a), (2, .ref m), (3, .ref o), (4, vi (1)), (5, vi ((n9 : Int)))]) [0, 1, 2, 3, 4, 5] (by rw [show ((n9 + 1 : Nat) : Int) + (-1) = (n9 : Int) by omega]; rfl) ?_
          exact ih n9 1 τ30 (k1 + 12) (n1 + 1158) hI2 (by omega) (by omega) (by omega) (by omega) (by omega)
        · refine j_iconst C dL_begun__58 rfl ?_
          refine j_goto (tgt := 63) C dL_begun__59 rfl ?_
          refine j_eq_st (st' := [vi (b01 true), vi (40 + z21), .ref a, .ref o, vi (1)]) rfl ?_
          refine j_callS (st' := [vi (1)]) (As := [.ref o, .ref a, vi (40 + z21), vi (b01 true)]) C dL_begun__63 rfl m_L_150 rfl rfl (c_isBin (kL κ) hfl (kD κ) (kc κ) σ1 o a m lo hI1 (40 + z21) ⟨by omega, by omega⟩ true) rfl (by omega) (by omega) (by omega) (fun _ _ hx => hx.elim) (fun v34 τ33 hp35 => ?_)
          obtain ⟨rfl, hI2⟩ := hp35
          show J κ τ33 [(0, .ref (kc κ 9)), (1, .ref a), (2, .ref m), (3, .ref o), (4, vi (1)), (5, vi ((n : Int)))] 66 [vi (1), vi (1)] (k1 + 12) (n1 + 1158)
          refine j_iand (z := 1) C dL_begun__66 rfl (by decide) ?_
          refine j_istore (lv' := [(0, .ref (kc κ 9)), (1, .ref a), (2, .ref m), (3, .ref o), (4, vi (1)), (5, vi ((n : Int)))]) [1, 2, 3, 4, 0, 5] C dL_begun__67 rfl rfl rfl ?_
          refine j_iinc (y := (n : Int) + (-1)) (lv' := [(0, .ref (kc κ 9)), (1, .ref a), (2, .ref m), (3, .ref o), (4, vi (1)), (5, vi ((n : Int) + (-1)))]) 5 [1, 2, 3, 4, 5, 0] C dL_begun__69 rfl rfl rfl rfl rfl ?_
          refine j_goto (tgt := 21) C dL_begun__72 rfl ?_
          obtain ⟨n9, rfl⟩ : ∃ z : Nat, n = z + 1 := ⟨n - 1, by omega⟩
          refine j_locals (lv' := [(0, .ref (kc κ 9)), (1, .ref a), (2, .ref m), (3, .ref o), (4, vi (1)), (5, vi ((n9 : Int)))]) [0, 1, 2, 3, 4, 5] (by rw [show ((n9 + 1 : Nat) : Int) + (-1) = (n9 : Int) by omega]; rfl) ?_
          exact ih n9 1 τ33 (k1 + 12) (n1 + 1158) hI2 (by omega) (by omega) (by omega) (by omega) (by omega)
  refine j_locals (lv' := [(0, .ref (kc κ 9)), (1, .ref a), (2, .ref m), (3, .ref o), (4, vi (1)), (5, vi ((N0 : Int)))]) [0, 1, 2, 3, 4, 5] (by rw [hN0]; rfl) ?_
  exact lpB _ N0 0 τ8 _ _ hI0 (Or.inl (by omega)) (by omega) (by omega) (by omega) (Nat.lt_succ_self _)
