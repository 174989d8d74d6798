/-! the law's own: isMoved, isBlended -/
theorem wf_ge : ∀ {l : List Ly}, lysOk l → tot l ≤ sumL wf l
  | [], _ => Int.le_refl _
  | x :: l, h => by
    obtain ⟨⟨a1, a2⟩, ⟨b1, b2⟩, -⟩ := h x List.mem_cons_self
    have ih := wf_ge (l := l) (fun y hy => h y (List.mem_cons_of_mem _ hy))
    have m2 : x.1 * 1 ≤ x.1 * x.2.1 := Int.mul_le_mul_of_nonneg_left (by omega) (by omega)
    unfold tot at ih ⊢
    simp only [sumL, wf] at ih ⊢
    omega
theorem NetL.cnt {g : Nat → Int} {bs : List Bn} (h : NetL g bs) {j : Nat} (hj : j < bs.length) {z : Int} (hz : z = 30 + (j : Int)) : g z.toNat = ((gB bs (j : Int)).2.2.length : Int) := by
  rw [show z.toNat = 30 + j by omega, (h.2.2.1 j hj).2.1.1.1, fl_len]
theorem updN_a {tg : Nat → Nat} {r x a : Nat} (h : a ≠ r) (ha : 1000 ≤ tg a) : 1000 ≤ updN tg r x a := by rw [updN_n h]; exact ha
set_option maxHeartbeats 8000000 in
set_option maxRecDepth 20000 in
theorem c_isMoved (l : Launch) (hfl : l.stackTraces = false) (D : va_G) (cy : Nat → Nat) (σ : Wd) (tg ad : Nat → Nat) (bs : List Bn) (ru : Nat → Int × Int) (se : Int) (pf : Nat → Int) (hd : Hd) (ca : Int) (evs : List Evt) (ln : List Int) (g gm : Nat → Int) (a m : Nat) (hX0 : RX cy σ tg ad bs ru se pf hd ca evs ln) (hA : has σ a (iA cy 2700 g)) (hNt : NetL g bs) (hH : NetH g ru se pf evs.length hd.2.2.2.1 (totB bs)) (hM : has σ m (lA cy 2 gm)) (hta : 1000 ≤ tg a) (htm : 1000 ≤ tg m) (i : Nat) (hi : i < bs.length) (j : Nat) (hj : j < bs.length) (n : Int) (hn : 1 ≤ n ∧ n ≤ 70) : Ct l yL_isMoved cL_isMoved 7 (some .boolean) 9 3 260 D cy [.ref (ad 0), .ref a, vi ((i : Int)), vi ((j : Int)), vi (n)] σ (fun v σ' => v = some (vi 1) ∧ LI cy σ' (ad 0) a m 1) noX := by
  refine ct_start (by decide +kernel) hfl rfl (fun κ e1 e2 e3 C E NH => ?_)
  subst e1 e2 e3
  have C : Cx κ cL_isMoved 7 RL "isMoved" 9 := C
  obtain ⟨-, -, -, -, hc, hs⟩ := id E
  show J κ σ [(0, .ref (ad 0)), (1, .ref a), (2, vi ((i : Int))), (3, vi ((j : Int))), (4, vi (n))] 0 [] 0 0
  have hO := hX0.ok
  have h6 := hO.1
  have hBk := hO.2.1
  have hlb := hO.2.2.1
  have hpf := hO.2.2.2.2.1
  have hTb := totB_in hBk
  obtain ⟨hRu, h2, h3, h4, h5, hPr⟩ := id hH
  have hma : m ≠ a := hM.nk hA rfl
  have kp0 : Keep σ σ (fun y => y = a ∨ y = m) := Keep.rf
  have dm0 : σ.1 = σ.1 := rfl
  have hmemi := gB_mem (bs := bs) (i := (i : Int)) (by omega) (by omega)
  obtain ⟨hcapi, hoki, htci⟩ := hBk _ hmemi
  have hlli := len_lenB hmemi
  have ht0i := tot_0 hoki
  have hcni := (hNt.2.2.1 i hi).1.1
  have hmemj := gB_mem (bs := bs) (i := (j : Int)) (by omega) (by omega)
  obtain ⟨hcapj, hokj, htcj⟩ := hBk _ hmemj
  have hllj := len_lenB hmemj
  have ht0j := tot_0 hokj
  have hcnj := (hNt.2.2.1 j hj).1.1
  refine j_iload_n 2 C dL_isMoved_0 rfl rfl rfl ?_
  refine j_iload_n 3 C dL_isMoved_1 rfl rfl rfl ?_
  refine j_icmp_ne (tgt := 24) C dL_isMoved_2 rfl rfl ⟨by omega, by omega⟩ ⟨by omega, by omega⟩ (fun cc1 => ?_) (fun cc1 => ?_)
  · refine j_aload_n 1 C dL_isMoved_24 rfl rfl rfl ?_
    refine j_iload_n 2 C dL_isMoved_25 rfl rfl rfl ?_
    refine j_callS (st' := []) (As := [.ref a, vi ((i : Int))]) C dL_isMoved_26 rfl m_L_113 rfl rfl (c_within (kL κ) hfl (kD κ) (kc κ) σ a g hA bs hNt i (by omega)) rfl (by omega) (by omega) (by omega) (fun _ _ hx => hx.elim) (fun v3 τ2 hp4 => ?_)
    obtain ⟨rfl, hs9⟩ := hp4
    replace hs9 := hs9.symm
    subst hs9
    show J κ σ [(0, .ref (ad 0)), (1, .ref a), (2, vi ((i : Int))), (3, vi ((j : Int))), (4, vi (n))] 29 [vi ((tot (gB bs (i : Int)).2.2))] _ _
    refine j_iload 4 C dL_isMoved_29 rfl rfl ?_
    refine j_icmp_lt (tgt := 59) C dL_isMoved_31 rfl rfl ⟨by omega, by omega⟩ ⟨by omega, by omega⟩ (fun cc5 => ?_) (fun cc5 => ?_)
    · refine j_aload_n 0 C dL_isMoved_59 rfl rfl rfl ?_
      refine j_iload_n 2 C dL_isMoved_60 rfl rfl rfl ?_
      refine j_iload_n 3 C dL_isMoved_61 rfl rfl rfl ?_
      refine j_iload 4 C dL_isMoved_62 rfl rfl ?_
      refine j_callSH (st' := []) (As := [.ref (ad 0), vi ((i : Int)), vi ((j : Int)), vi (n)]) C dL_isMoved_64 rfl m_L_169 rfl rfl (W_transferB2 (kL κ) hfl (kD κ) (kc κ) σ tg ad bs ru se pf hd ca evs ln hX0 i hi j hj n ⟨by omega, by omega⟩ ⟨by omega, by omega, by omega⟩ (by omega)) rfl (by omega) (by omega) (by omega) (fun _ _ hx => hx.elim) (fun v7 τ6 hp8 => ?_)
      obtain ⟨rfl, hs9⟩ := hp8
      replace hs9 := hs9.symm
      subst hs9
      show J κ σ [(0, .ref (ad 0)), (1, .ref a), (2, vi ((i : Int))), (3, vi ((j : Int))), (4, vi (n))] 67 [vi ((-900003))] _ _
      refine j_ldc (z := (-900003)) C dL_isMoved_67 rfl kc_L_44 ?_
      refine j_icmp_ne (tgt := 76) C dL_isMoved_69 rfl rfl ⟨by omega, by omega⟩ ⟨by omega, by omega⟩ (fun cc9 => absurd cc9 (by decide)) (fun _ => ?_)
      refine j_iconst C dL_isMoved_72 rfl ?_
      refine j_goto (tgt := 77) C dL_isMoved_73 rfl ?_
      exact j_zret C E dL_isMoved_77 rfl (by omega) (by omega) ⟨rfl, tg, ad, bs, ru, se, pf, hd, ca, evs, ln, g, gm, rfl, hX0, ⟨hA, hNt, hH⟩, hM, ⟨hta, htm⟩, by omega⟩
    · refine j_aload_n 1 C dL_isMoved_34 rfl rfl rfl ?_
      refine j_iload_n 3 C dL_isMoved_35 rfl rfl rfl ?_
      refine j_callS (st' := []) (As := [.ref a, vi ((j : Int))]) C dL_isMoved_36 rfl m_L_113 rfl rfl (c_within (kL κ) hfl (kD κ) (kc κ) σ a g hA bs hNt j (by omega)) rfl (by omega) (by omega) (by omega) (fun _ _ hx => hx.elim) (fun v11 τ10 hp12 => ?_)
      obtain ⟨rfl, hs9⟩ := hp12
      replace hs9 := hs9.symm
      subst hs9
      show J κ σ [(0, .ref (ad 0)), (1, .ref a), (2, vi ((i : Int))), (3, vi ((j : Int))), (4, vi (n))] 39 [vi ((tot (gB bs (j : Int)).2.2))] _ _
      refine j_iload 4 C dL_isMoved_39 rfl rfl ?_
      refine j_iadd C dL_isMoved_41 rfl ?_
      refine j_aload_n 1 C dL_isMoved_42 rfl rfl rfl ?_
      refine j_bipush C dL_isMoved_43 rfl (by decide) ?_
      refine j_iload_n 3 C dL_isMoved_45 rfl rfl rfl ?_
      refine j_iadd C dL_isMoved_46 rfl ?_
      refine j_iald C dL_isMoved_47 rfl hA ⟨by omega, by omega⟩ (by omega) ((congrArg g (show (10 + (j : Int)).toNat = 10 + j by omega)).trans hcnj) ?_
      refine j_icmp_gt (tgt := 59) C dL_isMoved_48 rfl rfl ⟨by omega, by omega⟩ ⟨by omega, by omega⟩ (fun cc13 => ?_) (fun cc13 => ?_)
      · refine j_aload_n 0 C dL_isMoved_59 rfl rfl rfl ?_
        refine j_iload_n 2 C dL_isMoved_60 rfl rfl rfl ?_
        refine j_iload_n 3 C dL_isMoved_61 rfl rfl rfl ?_
        refine j_iload 4 C dL_isMoved_62 rfl rfl ?_
        refine j_callSH (st' := []) (As := [.ref (ad 0), vi ((i : Int)), vi ((j : Int)), vi (n)]) C dL_isMoved_64 rfl m_L_169 rfl rfl (W_transferB2 (kL κ) hfl (kD κ) (kc κ) σ tg ad bs ru se pf hd ca evs ln hX0 i hi j hj n ⟨by omega, by omega⟩ ⟨by omega, by omega, by omega⟩ (by omega)) rfl (by omega) (by omega) (by omega) (fun _ _ hx => hx.elim) (fun v15 τ14 hp16 => ?_)
        obtain ⟨rfl, hs9⟩ := hp16
        replace hs9 := hs9.symm
        subst hs9
        show J κ σ [(0, .ref (ad 0)), (1, .ref a), (2, vi ((i : Int))), (3, vi ((j : Int))), (4, vi (n))] 67 [vi ((-900003))] _ _
        refine j_ldc (z := (-900003)) C dL_isMoved_67 rfl kc_L_44 ?_
        refine j_icmp_ne (tgt := 76) C dL_isMoved_69 rfl rfl ⟨by omega, by omega⟩ ⟨by omega, by omega⟩ (fun cc17 => absurd cc17 (by decide)) (fun _ => ?_)
        refine j_iconst C dL_isMoved_72 rfl ?_
        refine j_goto (tgt := 77) C dL_isMoved_73 rfl ?_
        exact j_zret C E dL_isMoved_77 rfl (by omega) (by omega) ⟨rfl, tg, ad, bs, ru, se, pf, hd, ca, evs, ln, g, gm, rfl, hX0, ⟨hA, hNt, hH⟩, hM, ⟨hta, htm⟩, by omega⟩
      · refine j_aload_n 1 C dL_isMoved_51 rfl rfl rfl ?_
        refine j_iconst C dL_isMoved_52 rfl ?_
        refine j_iald C dL_isMoved_53 rfl hA ⟨by omega, by omega⟩ (by omega) h2 ?_
        refine j_bipush C dL_isMoved_54 rfl (by decide) ?_
        refine j_icmp_ne (tgt := 78) C dL_isMoved_56 rfl rfl ⟨by omega, by omega⟩ ⟨by omega, by omega⟩ (fun cc18 => ?_) (fun cc18 => ?_)
        · refine j_aload_n 1 C dL_isMoved_78 rfl rfl rfl ?_
          refine j_bipush C dL_isMoved_79 rfl (by decide) ?_
          refine j_iload_n 3 C dL_isMoved_81 rfl rfl rfl ?_
          refine j_iadd C dL_isMoved_82 rfl ?_
          refine j_iald C dL_isMoved_83 rfl hA ⟨by omega, by omega⟩ (by omega) ((congrArg g (show (30 + (j : Int)).toNat = 30 + j by omega)).trans ((hNt.2.2.1 j hj).2.1.1.1.trans (by rw [fl_len]))) ?_
          refine j_istore (lv' := [(0, .ref (ad 0)), (1, .ref a), (2, vi ((i : Int))), (3, vi ((j : Int))), (4, vi (n)), (5, vi (((gB bs (j : Int)).2.2.length : Int)))]) [1, 2, 3, 4, 5, 0] C dL_isMoved_84 rfl rfl rfl ?_
          refine j_aload_n 1 C dL_isMoved_86 rfl rfl rfl ?_
          refine j_iload_n 2 C dL_isMoved_87 rfl rfl rfl ?_
          refine j_iload 4 C dL_isMoved_88 rfl rfl ?_
          refine j_iload_n 3 C dL_isMoved_90 rfl rfl rfl ?_
          have hij : i ≠ j := by omega
          obtain ⟨hev1, hev2, hev3⟩ := trans_ev hO (by omega) hi hj hij (n := n) ⟨by omega, by omega⟩ (by omega)
          have hl80 := (hev1.2.2.2.2.2.1 rfl).2
          rw [List.length_append] at hl80
          have hl90 : (gB bs (j : Int)).2.2.length + (takeL n (fl (gB bs (i : Int)))).length ≤ 90 := Nat.le_trans hl80 (by decide)
          refine j_callS (st' := []) (As := [.ref a, vi ((i : Int)), vi (n), vi ((j : Int))]) C dL_isMoved_91 rfl m_L_124 rfl rfl (c_outTo (kL κ) hfl (kD κ) (kc κ) σ a g hA bs hNt pf hPr i hi n ⟨by omega, by omega, by omega⟩ j hj hij hl90) rfl (by omega) (by omega) (by omega) (fun _ _ hx => hx.elim) (fun v21 τ20 hp22 => ?_)
          obtain ⟨r19, s19, G19, rfl, hr19, ⟨e019, e119, e219⟩, hG19, hN19, hS19, hrn19, hk19, hd19⟩ := hp22
          show J κ τ20 [(0, .ref (ad 0)), (1, .ref a), (2, vi ((i : Int))), (3, vi ((j : Int))), (4, vi (n)), (5, vi (((gB bs (j : Int)).2.2.length : Int)))] 94 [.ref r19] _ _
          have hnw19 : r19 ∉ σ.1 := fun z => hrn19 ((fun _ hy => hy) _ z)
          have hra19 : r19 ≠ a := fun e => hnw19 (by rw [e]; exact hA.1)
          have hrm19 : m ≠ r19 := fun e => hnw19 (by rw [← e]; exact hM.1)
          have hkk19 := kp0.tr (hk19.mono (fun _ z => Or.inl z))
          have hmm19 : ∀ y, y ∈ σ.1 → y ∈ τ20.1 := fun y hy => by rw [hd19]; exact List.mem_append_left _ ((fun _ hy => hy) y hy)
          have hqm19 := hk19 _ _ hM hma
          have hNX : NetL G19 (apB (gradeF ru se) bs (116, (i : Int), (j : Int), n, 0, 0, 0)) := by
            rw [hev2]
            exact hN19
          have hto : lysOk (takeL n (fl (gB bs (i : Int)))) := take_ok _ _ (fl_ok hoki)
          have hwg := wf_ge hto
          have htf : tot (fl (gB bs (i : Int))) = tot (gB bs (i : Int)).2.2 := sum_fl _ _
          have htt := take_tot (fl (gB bs (i : Int))) n (fl_ok hoki) (by omega) (by omega)
          have hsi := (sums_in hpf (fl_ok hoki) (by omega) n).2
          refine j_astore (lv' := [(0, .ref (ad 0)), (1, .ref a), (2, vi ((i : Int))), (3, vi ((j : Int))), (4, vi (n)), (5, vi (((gB bs (j : Int)).2.2.length : Int))), (6, .ref r19)]) [1, 2, 3, 4, 5, 6, 0] C dL_isMoved_94 rfl rfl rfl ?_
          refine j_aload_n 1 C dL_isMoved_96 rfl rfl rfl ?_
          refine j_bipush C dL_isMoved_97 rfl (by decide) ?_
          have dmX : τ20.1 = τ20.1 := rfl
          have hHn23 := hH.same hS19
          refine j_callS (st' := []) (As := [.ref a, vi (116)]) C dL_isMoved_99 rfl m_L_142 rfl rfl (c_note (kL κ) hfl (kD κ) (kc κ) τ20 a G19 hG19 (apB (gradeF ru se) bs (116, (i : Int), (j : Int), n, 0, 0, 0)) hNX hev3.2.1 evs.length hHn23.2.1 (by omega) hHn23.2.2.1 ⟨by rw [hHn23.2.2.2.2.1]; omega, by rw [hHn23.2.2.2.2.1]; omega⟩ 116) rfl (by omega) (by omega) (by omega) (fun _ _ hx => hx.elim) (fun v25 τ24 hp26 => ?_)
          obtain ⟨rfl, G23, hG23, ho23, hv23, hk23, hd23⟩ := hp26
          show J κ τ24 [(0, .ref (ad 0)), (1, .ref a), (2, vi ((i : Int))), (3, vi ((j : Int))), (4, vi (n)), (5, vi (((gB bs (j : Int)).2.2.length : Int))), (6, .ref r19)] 102 [] _ _
          have hkk23 := hkk19.tr (hk23.mono (fun _ z => Or.inl z))
          have hdd23 := hd23.trans (dmX)
          have hqr1923 := hk23 _ _ hr19 hra19
          have hqm23 := hk23 _ _ hqm19 hma
          have hN23 : NetL G23 (apB (gradeF ru se) bs (116, (i : Int), (j : Int), n, 0, 0, 0)) := hNX.cong2 (fun q h1 h2 => ho23 q h2 (by omega) (by omega) (by omega))
          have hH23 := hHn23.note ho23 hv23
          refine j_aload_n 0 C dL_isMoved_102 rfl rfl rfl ?_
          refine j_iload_n 2 C dL_isMoved_103 rfl rfl rfl ?_
          refine j_iload_n 3 C dL_isMoved_104 rfl rfl rfl ?_
          refine j_iload 4 C dL_isMoved_105 rfl rfl ?_
          obtain ⟨tg2, htg2⟩ : ∃ f : Nat → Nat, (updN tg r19 4000) = f := ⟨_, rfl⟩
          have hT2 : ∀ y, y ∈ σ.1 → tg2 y = tg y := fun y hy => by rw [← htg2, updN_n (fun e => hnw19 (by rw [← e]; exact hy))]
          have htr0 : 1000 ≤ tg2 r19 := by rw [← htg2]; unfold updN; repeat (first | omega | split)
          have hta2 : 1000 ≤ tg2 a := by rw [hT2 a hA.1]; exact hta
          have htm2 : 1000 ≤ tg2 m := by rw [hT2 m hM.1]; exact htm
          have hX27 := (hX0.retag hT2 (fun _ _ => rfl)).keep hkk23 (fun y _ z => z.elim (fun z => by rw [z]; exact hta2) (fun z => by rw [z]; exact htm2))
          refine j_callSH (st' := []) (As := [.ref (ad 0), vi ((i : Int)), vi ((j : Int)), vi (n)]) C dL_isMoved_107 rfl m_L_169 rfl rfl (W_transfer (kL κ) hfl (kD κ) (kc κ) τ24 tg2 ad bs ru se pf hd ca evs ln hX27 i hi j hj hij n ⟨by omega, by omega⟩ ⟨by omega, by omega⟩ (by omega) (by omega) (by omega)) rfl (by omega) (by omega) (by omega) (fun _ _ hx => hx.elim) (fun v29 τ28 hp30 => ?_)
          obtain ⟨rfl, tg', ad', hR9, hT9, hA9, hK9, hM9⟩ := hp30
          show J κ τ28 [(0, .ref (ad 0)), (1, .ref a), (2, vi ((i : Int))), (3, vi ((j : Int))), (4, vi (n)), (5, vi (((gB bs (j : Int)).2.2.length : Int))), (6, .ref r19)] 110 [vi ((((gB (apB (gradeF ru se) bs (116, (i : Int), (j : Int), n, 0, 0, 0)) (j : Int)).2.2.length : Int) - ((gB bs (j : Int)).2.2.length : Int)))] _ _
          have h9a := hK9 _ _ hG23 (fun z => by have z1 : tg2 a < 1000 := z; omega)
          have h9r19 := hK9 _ _ hqr1923 (fun z => by have z1 : tg2 r19 < 1000 := z; omega)
          have h9m := hK9 _ _ hqm23 (fun z => by have z1 : tg2 m < 1000 := z; omega)
          have hta9 : 1000 ≤ tg' a := by rw [hT9 a hG23.1]; exact hta2
          have htm9 : 1000 ≤ tg' m := by rw [hT9 m hqm23.1]; exact htm2
          have hl9j : (gB (apB (gradeF ru se) bs (116, (i : Int), (j : Int), n, 0, 0, 0)) (j : Int)).2.2.length ≤ 90 := (hN23.2.2.1 j (by rw [apB_len]; omega)).2.1.2
          refine j_aload_n 1 C dL_isMoved_110 rfl rfl rfl ?_
          refine j_bipush C dL_isMoved_111 rfl (by decide) ?_
          refine j_iload_n 3 C dL_isMoved_113 rfl rfl rfl ?_
          refine j_iadd C dL_isMoved_114 rfl ?_
          refine j_iald C dL_isMoved_115 rfl h9a ⟨by omega, by omega⟩ (by omega) (hN23.cnt (j := j) (by rw [apB_len]; omega) (z := 30 + (j : Int)) (by omega)) ?_
          refine j_iload 5 C dL_isMoved_116 rfl rfl ?_
          refine j_isub C dL_isMoved_118 rfl ?_
          refine j_icmp_ne (tgt := 133) C dL_isMoved_119 rfl rfl ⟨by omega, by omega⟩ ⟨by omega, by omega⟩ (fun cc31 => ?_) (fun cc31 => ?_)
          · exact absurd cc31 (fun q => q rfl)
          · refine j_aload 6 C dL_isMoved_122 rfl rfl ?_
            refine j_iconst C dL_isMoved_124 rfl ?_
            refine j_iald C dL_isMoved_125 rfl h9r19 ⟨by omega, by omega⟩ (by omega) e119 ?_
            refine j_if_le (tgt := 133) C dL_isMoved_126 rfl rfl ⟨by omega, by omega⟩ (fun cc32 => ?_) (fun cc32 => ?_)
            · exact absurd cc32 (by omega)
            · refine j_iconst C dL_isMoved_129 rfl ?_
              refine j_goto (tgt := 134) C dL_isMoved_130 rfl ?_
              exact j_zret C E dL_isMoved_134 rfl (by omega) (by omega) ⟨rfl, tg', ad', _, _, _, _, _, _, _, _, _, _, hA9, hR9, ⟨h9a, hN23, by rw [List.length_append, hdF_fu]; exact hH23⟩, h9m, ⟨hta9, htm9⟩, by rw [apB_len]; omega⟩
        · refine j_aload_n 0 C dL_isMoved_59 rfl rfl rfl ?_
          refine j_iload_n 2 C dL_isMoved_60 rfl rfl rfl ?_
          refine j_iload_n 3 C dL_isMoved_61 rfl rfl rfl ?_
          refine j_iload 4 C dL_isMoved_62 rfl rfl ?_
          refine j_callSH (st' := []) (As := [.ref (ad 0), vi ((i : Int)), vi ((j : Int)), vi (n)]) C dL_isMoved_64 rfl m_L_169 rfl rfl (W_transferB2 (kL κ) hfl (kD κ) (kc κ) σ tg ad bs ru se pf hd ca evs ln hX0 i hi j hj n ⟨by omega, by omega⟩ ⟨by omega, by omega, by omega⟩ (by omega)) rfl (by omega) (by omega) (by omega) (fun _ _ hx => hx.elim) (fun v34 τ33 hp35 => ?_)
          obtain ⟨rfl, hs9⟩ := hp35
          replace hs9 := hs9.symm
          subst hs9
          show J κ σ [(0, .ref (ad 0)), (1, .ref a), (2, vi ((i : Int))), (3, vi ((j : Int))), (4, vi (n))] 67 [vi ((-900003))] _ _
          refine j_ldc (z := (-900003)) C dL_isMoved_67 rfl kc_L_44 ?_
          refine j_icmp_ne (tgt := 76) C dL_isMoved_69 rfl rfl ⟨by omega, by omega⟩ ⟨by omega, by omega⟩ (fun cc36 => absurd cc36 (by decide)) (fun _ => ?_)
          refine j_iconst C dL_isMoved_72 rfl ?_
          refine j_goto (tgt := 77) C dL_isMoved_73 rfl ?_
          exact j_zret C E dL_isMoved_77 rfl (by omega) (by omega) ⟨rfl, tg, ad, bs, ru, se, pf, hd, ca, evs, ln, g, gm, rfl, hX0, ⟨hA, hNt, hH⟩, hM, ⟨hta, htm⟩, by omega⟩
  · refine j_aload_n 0 C dL_isMoved_5 rfl rfl rfl ?_
    refine j_iload_n 2 C dL_isMoved_6 rfl rfl rfl ?_
    refine j_iload_n 3 C dL_isMoved_7 rfl rfl rfl ?_
    refine j_iload 4 C dL_isMoved_8 rfl rfl ?_
    refine j_callSH (st' := []) (As := [.ref (ad 0), vi ((i : Int)), vi ((j : Int)), vi (n)]) C dL_isMoved_10 rfl m_L_169 rfl rfl (W_transferB1 (kL κ) hfl (kD κ) (kc κ) σ tg ad bs ru se pf hd ca evs ln hX0 i hi j hj n ⟨by omega, by omega⟩ (by omega)) rfl (by omega) (by omega) (by omega) (fun _ _ hx => hx.elim) (fun v38 τ37 hp39 => ?_)
    obtain ⟨rfl, hs9⟩ := hp39
    replace hs9 := hs9.symm
    subst hs9
    show J κ σ [(0, .ref (ad 0)), (1, .ref a), (2, vi ((i : Int))), (3, vi ((j : Int))), (4, vi (n))] 13 [vi ((-900002))] _ _
    refine j_ldc (z := (-900002)) C dL_isMoved_13 rfl kc_L_20 ?_
    refine j_icmp_ne (tgt := 22) C dL_isMoved_15 rfl rfl ⟨by omega, by omega⟩ ⟨by omega, by omega⟩ (fun cc40 => absurd cc40 (by decide)) (fun _ => ?_)
    refine j_iconst C dL_isMoved_18 rfl ?_
    refine j_goto (tgt := 23) C dL_isMoved_19 rfl ?_
    exact j_zret C E dL_isMoved_23 rfl (by omega) (by omega) ⟨rfl, tg, ad, bs, ru, se, pf, hd, ca, evs, ln, g, gm, rfl, hX0, ⟨hA, hNt, hH⟩, hM, ⟨hta, htm⟩, by omega⟩
theorem upD_div {a n : Int} (ha : 0 ≤ a) (hn : 1 ≤ n) : (0 < a % n → a / n + 1 = upD a n) ∧ (a % n ≤ 0 → a / n + 0 = upD a n) := by
  have h1 := Int.emod_nonneg a (show n ≠ 0 by omega)
  have h2 := Int.emod_lt_of_pos a (show 0 < n by omega)
  have h3 := Int.mul_ediv_add_emod a n
  have e : ∀ r : Int, r + n * (a / n) = a → (a + n - 1) / n = (r + n - 1) / n + a / n := by
    intro r hr
    rw [show a + n - 1 = r + n - 1 + n * (a / n) by omega, Int.add_mul_ediv_left _ _ (show n ≠ 0 by omega)]
  refine ⟨fun h => ?_, fun h => ?_⟩
  · have z1 : (a % n - 1) / n = 0 := Int.ediv_eq_zero_of_lt (by omega) (by omega)
    unfold upD
    rw [e (a % n) (by omega), show a % n + n - 1 = (a % n - 1) + n * 1 by omega, Int.add_mul_ediv_left _ _ (show n ≠ 0 by omega), z1]
    omega
  · have z1 : (a % n + n - 1) / n = 0 := Int.ediv_eq_zero_of_lt (by omega) (by omega)
    unfold upD
    rw [e (a % n) (by omega), z1]
    omega
set_option maxHeartbeats 16000000 in
set_option maxRecDepth 20000 in
theorem c_isBlended (l : Launch) (hfl : l.stackTraces = false) (D : va_G) (cy : Nat → Nat) (σ : Wd) (tg ad : Nat → Nat) (bs : List Bn) (ru : Nat → Int × Int) (se : Int) (pf : Nat → Int) (hd : Hd) (ca : Int) (evs : List Evt) (ln : List Int) (g gm : Nat → Int) (a m : Nat) (hX0 : RX cy σ tg ad bs ru se pf hd ca evs ln) (hA : has σ a (iA cy 2700 g)) (hNt : NetL g bs) (hH : NetH g ru se pf evs.length hd.2.2.2.1 (totB bs)) (hM : has σ m (lA cy 2 gm)) (hta : 1000 ≤ tg a) (htm : 1000 ≤ tg m) (i : Nat) (hi : i < bs.length) (j : Nat) (hj : j < bs.length) (n x : Int) (hn : 1 ≤ n ∧ n ≤ 30) (hx : 100 ≤ x ∧ x ≤ 199) : Ct l yL_isBlended cL_isBlended 13 (some .boolean) 9 102 84180 D cy [.ref (ad 0), .ref a, .ref m, vi ((i : Int)), vi ((j : Int)), vi (n), vi (x)] σ (fun v σ' => v = some (vi 1) ∧ LI cy σ' (ad 0) a m 1) noX := by
  refine ct_start (by decide +kernel) hfl rfl (fun κ e1 e2 e3 C E NH => ?_)
  subst e1 e2 e3
  have C : Cx κ cL_isBlended 13 RL "isBlended" 9 := C
  obtain ⟨-, -, -, -, hc, hs⟩ := id E
  show J κ σ [(0, .ref (ad 0)), (1, .ref a), (2, .ref m), (3, vi ((i : Int))), (4, vi ((j : Int))), (5, vi (n)), (6, vi (x))] 0 [] 0 0
  have hO := hX0.ok
  have h6 := hO.1
  have hBk := hO.2.1
  have hlb := hO.2.2.1
  have hpf := hO.2.2.2.2.1
  have hTb := totB_in hBk
  obtain ⟨hRu, h2, h3, h4, h5, hPr⟩ := id hH
  have hma : m ≠ a := hM.nk hA rfl
  have kp0 : Keep σ σ (fun y => y = a ∨ y = m) := Keep.rf
  have dm0 : σ.1 = σ.1 := rfl
  have hmemi := gB_mem (bs := bs) (i := (i : Int)) (by omega) (by omega)
  obtain ⟨hcapi, hoki, htci⟩ := hBk _ hmemi
  have hlli := len_lenB hmemi
  have ht0i := tot_0 hoki
  have hcni := (hNt.2.2.1 i hi).1.1
  have hmemj := gB_mem (bs := bs) (i := (j : Int)) (by omega) (by omega)
  obtain ⟨hcapj, hokj, htcj⟩ := hBk _ hmemj
  have hllj := len_lenB hmemj
  have ht0j := tot_0 hokj
  have hcnj := (hNt.2.2.1 j hj).1.1
  have hxn := prod_in (n := x) (p := n) (N := 199) (M := 30) ⟨by omega, by omega⟩ ⟨by omega, by omega⟩
  have hcm : x * n = n * x := Int.mul_comm _ _
  have hfi : tot (fl (gB bs (i : Int))) = tot (gB bs (i : Int)).2.2 := sum_fl _ _
  have hfj : tot (fl (gB bs (j : Int))) = tot (gB bs (j : Int)).2.2 := sum_fl _ _
  refine j_iload_n 3 C dL_isBlended_0 rfl rfl rfl ?_
  refine j_iload 4 C dL_isBlended_1 rfl rfl ?_
  refine j_icmp_ne (tgt := 28) C dL_isBlended_3 rfl rfl ⟨by omega, by omega⟩ ⟨by omega, by omega⟩ (fun cc1 => ?_) (fun cc1 => ?_)
  · refine j_aload_n 1 C dL_isBlended_28 rfl rfl rfl ?_
    refine j_iload_n 3 C dL_isBlended_29 rfl rfl rfl ?_
    refine j_iload 4 C dL_isBlended_30 rfl rfl ?_
    refine j_iload 5 C dL_isBlended_32 rfl rfl ?_
    refine j_iload 6 C dL_isBlended_34 rfl rfl ?_
    refine j_callS (st' := []) (As := [.ref a, vi ((i : Int)), vi ((j : Int)), vi (n), vi (x)]) C dL_isBlended_36 rfl m_L_165 rfl rfl (c_share (kL κ) hfl (kD κ) (kc κ) σ a g hA bs hNt pf hPr hpf i hi j hj (by omega) ⟨by omega, by omega⟩ n x ⟨by omega, by omega⟩ ⟨by omega, by omega⟩) rfl (by omega) (by omega) (by omega) (fun _ _ hx => hx.elim) (fun v3 τ2 hp4 => ?_)
    obtain ⟨rfl, hkS, hmS⟩ := hp4
    have hij : i ≠ j := by omega
    have hAs := hkS _ _ hA (fun z => z)
    have hMs := hkS _ _ hM (fun z => z)
    have kpS : Keep σ τ2 (fun y => y = a ∨ y = m) := hkS.mono (fun _ z => z.elim)
    rw [hcm]
    show J κ τ2 [(0, .ref (ad 0)), (1, .ref a), (2, .ref m), (3, vi ((i : Int))), (4, vi ((j : Int))), (5, vi (n)), (6, vi (x))] 39 [vi ((if (bestF pf (fl (gB bs (i : Int))) (fl (gB bs (j : Int))) n (n * x)).1 = true then (bestF pf (fl (gB bs (i : Int))) (fl (gB bs (j : Int))) n (n * x)).2.1 else -1))] _ _
    have hX5 := hX0.keep kpS (fun y _ z => z.elim (fun z => by rw [z]; exact hta) (fun z => by rw [z]; exact htm))
    rcases Classical.em ((bestF pf (fl (gB bs (i : Int))) (fl (gB bs (j : Int))) n (n * x)).1 = true) with hfd | hfd
    · rw [if_pos hfd]
      have hbs := bestF_share (by omega) (by omega) (by omega) hfd
      show J κ τ2 [(0, .ref (ad 0)), (1, .ref a), (2, .ref m), (3, vi ((i : Int))), (4, vi ((j : Int))), (5, vi (n)), (6, vi (x))] 39 [vi ((bestF pf (fl (gB bs (i : Int))) (fl (gB bs (j : Int))) n (n * x)).2.1)] _ _
      refine j_istore (lv' := [(0, .ref (ad 0)), (1, .ref a), (2, .ref m), (3, vi ((i : Int))), (4, vi ((j : Int))), (5, vi (n)), (6, vi (x)), (7, vi ((bestF pf (fl (gB bs (i : Int))) (fl (gB bs (j : Int))) n (n * x)).2.1))]) [1, 2, 3, 4, 5, 6, 7, 0] C dL_isBlended_39 rfl rfl rfl ?_
      refine j_iload 7 C dL_isBlended_41 rfl rfl ?_
      refine j_if_lt (tgt := 54) C dL_isBlended_43 rfl rfl ⟨by omega, by omega⟩ (fun cc6 => ?_) (fun cc6 => ?_)
      · exact absurd cc6 (by omega)
      · refine j_aload_n 1 C dL_isBlended_46 rfl rfl rfl ?_
        refine j_iconst C dL_isBlended_47 rfl ?_
        refine j_iald C dL_isBlended_48 rfl hAs ⟨by omega, by omega⟩ (by omega) h2 ?_
        refine j_bipush C dL_isBlended_49 rfl (by decide) ?_
        refine j_icmp_ne (tgt := 86) C dL_isBlended_51 rfl rfl ⟨by omega, by omega⟩ ⟨by omega, by omega⟩ (fun cc7 => ?_) (fun cc7 => ?_)
        · refine j_aload_n 1 C dL_isBlended_86 rfl rfl rfl ?_
          refine j_iload_n 3 C dL_isBlended_87 rfl rfl rfl ?_
          refine j_iload 7 C dL_isBlended_88 rfl rfl ?_
          refine j_iconst C dL_isBlended_90 rfl ?_
          have hsw1 := sums_in hpf (fl_ok hoki) (by omega) ((bestF pf (fl (gB bs (i : Int))) (fl (gB bs (j : Int))) n (n * x)).2.1)
          have hsw2 := sums_in hpf (fl_ok hokj) (by omega) (n - (bestF pf (fl (gB bs (i : Int))) (fl (gB bs (j : Int))) n (n * x)).2.1)
          have hsd1 := dirts_in (fl_ok hoki) (by omega) ((bestF pf (fl (gB bs (i : Int))) (fl (gB bs (j : Int))) n (n * x)).2.1)
          have hsd2 := dirts_in (fl_ok hokj) (by omega) (n - (bestF pf (fl (gB bs (i : Int))) (fl (gB bs (j : Int))) n (n * x)).2.1)
          obtain ⟨hev1, hev2, hev3⟩ := blend_ev (ru := ru) (se := se) (pf := pf) (hd := hd) (ln := ln) hO (by omega) hi hj hij (s := (bestF pf (fl (gB bs (i : Int))) (fl (gB bs (j : Int))) n (n * x)).2.1) (r := n - (bestF pf (fl (gB bs (i : Int))) (fl (gB bs (j : Int))) n (n * x)).2.1) ⟨by omega, by omega⟩ ⟨by omega, by omega⟩
          refine j_callS (st' := []) (As := [.ref a, vi ((i : Int)), vi ((bestF pf (fl (gB bs (i : Int))) (fl (gB bs (j : Int))) n (n * x)).2.1), vi (-1)]) C dL_isBlended_91 rfl m_L_124 rfl rfl (c_out0 (kL κ) hfl (kD κ) (kc κ) τ2 a g hAs bs hNt pf hPr i hi ((bestF pf (fl (gB bs (i : Int))) (fl (gB bs (j : Int))) n (n * x)).2.1) ⟨by omega, by omega, by omega⟩) rfl (by omega) (by omega) (by omega) (fun _ _ hx => hx.elim) (fun v10 τ9 hp11 => ?_)
          obtain ⟨r8, s8, G8, rfl, hr8, ⟨e08, e18, e28⟩, hG8, hN8, hS8, hrn8, hk8, hd8⟩ := hp11
          show J κ τ9 [(0, .ref (ad 0)), (1, .ref a), (2, .ref m), (3, vi ((i : Int))), (4, vi ((j : Int))), (5, vi (n)), (6, vi (x)), (7, vi ((bestF pf (fl (gB bs (i : Int))) (fl (gB bs (j : Int))) n (n * x)).2.1))] 94 [.ref r8] _ _
          have hnw8 : r8 ∉ σ.1 := fun z => hrn8 (hmS _ z)
          have hra8 : r8 ≠ a := fun e => hnw8 (by rw [e]; exact hA.1)
          have hrm8 : m ≠ r8 := fun e => hnw8 (by rw [← e]; exact hM.1)
          have hkk8 := kpS.tr (hk8.mono (fun _ z => Or.inl z))
          have hmm8 : ∀ y, y ∈ σ.1 → y ∈ τ9.1 := fun y hy => by rw [hd8]; exact List.mem_append_left _ (hmS y hy)
          have hqm8 := hk8 _ _ hMs hma
          have ejo := gB_set (bs := bs) (l := ofl (gB bs (i : Int)).2.1 (dropL (bestF pf (fl (gB bs (i : Int))) (fl (gB bs (j : Int))) n (n * x)).2.1 (fl (gB bs (i : Int))))) (i := (i : Int)) (j := (j : Int)) (by omega) (by omega) (by omega)
          rw [if_neg (by omega)] at ejo
          have ejo2 : gB (outB bs (i : Int) (bestF pf (fl (gB bs (i : Int))) (fl (gB bs (j : Int))) n (n * x)).2.1) (j : Int) = gB bs (j : Int) := ejo
          have hP1 : ∀ k : Nat, 1 ≤ k → k ≤ 4 → G8 (70 + k) = pf k := fun k9 a9 b9 => (hS8 _ (by omega) (by omega)).trans (hPr k9 a9 b9)
          refine j_astore (lv' := [(0, .ref (ad 0)), (1, .ref a), (2, .ref m), (3, vi ((i : Int))), (4, vi ((j : Int))), (5, vi (n)), (6, vi (x)), (7, vi ((bestF pf (fl (gB bs (i : Int))) (fl (gB bs (j : Int))) n (n * x)).2.1)), (8, .ref r8)]) [1, 2, 3, 4, 5, 6, 7, 8, 0] C dL_isBlended_94 rfl rfl rfl ?_
          refine j_aload_n 1 C dL_isBlended_96 rfl rfl rfl ?_
          refine j_iload 4 C dL_isBlended_97 rfl rfl ?_
          refine j_iload 5 C dL_isBlended_99 rfl rfl ?_
          refine j_iload 7 C dL_isBlended_101 rfl rfl ?_
          refine j_isub C dL_isBlended_103 rfl ?_
          refine j_iconst C dL_isBlended_104 rfl ?_
          refine j_callS (st' := []) (As := [.ref a, vi ((j : Int)), vi (n - ((bestF pf (fl (gB bs (i : Int))) (fl (gB bs (j : Int))) n (n * x)).2.1)), vi (-1)]) C dL_isBlended_105 rfl m_L_124 rfl rfl (c_out0 (kL κ) hfl (kD κ) (kc κ) τ9 a G8 hG8 (outB bs (i : Int) (bestF pf (fl (gB bs (i : Int))) (fl (gB bs (j : Int))) n (n * x)).2.1) hN8 pf hP1 j (by rw [outB_len]; exact hj) (n - (bestF pf (fl (gB bs (i : Int))) (fl (gB bs (j : Int))) n (n * x)).2.1) ⟨by omega, by rw [ejo2]; omega, by omega⟩) rfl (by omega) (by omega) (by omega) (fun _ _ hx => hx.elim) (fun v14 τ13 hp15 => ?_)
          obtain ⟨r12, s12, G12, rfl, hr12, ⟨e012, e112, e212⟩, hG12, hN12, hS12, hrn12, hk12, hd12⟩ := hp15
          show J κ τ13 [(0, .ref (ad 0)), (1, .ref a), (2, .ref m), (3, vi ((i : Int))), (4, vi ((j : Int))), (5, vi (n)), (6, vi (x)), (7, vi ((bestF pf (fl (gB bs (i : Int))) (fl (gB bs (j : Int))) n (n * x)).2.1)), (8, .ref r8)] 108 [.ref r12] _ _
          have hnw12 : r12 ∉ σ.1 := fun z => hrn12 (hmm8 _ z)
          have hra12 : r12 ≠ a := fun e => hnw12 (by rw [e]; exact hA.1)
          have hrm12 : m ≠ r12 := fun e => hnw12 (by rw [← e]; exact hM.1)
          have hkk12 := hkk8.tr (hk12.mono (fun _ z => Or.inl z))
          have hmm12 : ∀ y, y ∈ σ.1 → y ∈ τ13.1 := fun y hy => by rw [hd12]; exact List.mem_append_left _ (hmm8 y hy)
          have hqr812 := hk12 _ _ hr8 hra8
          have hqm12 := hk12 _ _ hqm8 hma
          rw [ejo2] at e012 e112 e212
          have hNX : NetL G12 (apB (gradeF ru se) bs (98, (i : Int), (j : Int), (bestF pf (fl (gB bs (i : Int))) (fl (gB bs (j : Int))) n (n * x)).2.1, n - (bestF pf (fl (gB bs (i : Int))) (fl (gB bs (j : Int))) n (n * x)).2.1, 0, 0)) := by
            rw [hev2]
            exact hN12
          have hSX := hS8.tr hS12
          have hHX := hH.same hSX
          obtain ⟨M, hMq⟩ : ∃ z : Int, sumL wf (takeL (bestF pf (fl (gB bs (i : Int))) (fl (gB bs (j : Int))) n (n * x)).2.1 (fl (gB bs (i : Int)))) + sumL wf (takeL (n - (bestF pf (fl (gB bs (i : Int))) (fl (gB bs (j : Int))) n (n * x)).2.1) (fl (gB bs (j : Int)))) = z := ⟨_, rfl⟩
          obtain ⟨D, hDq⟩ : ∃ z : Int, sumL df (takeL (bestF pf (fl (gB bs (i : Int))) (fl (gB bs (j : Int))) n (n * x)).2.1 (fl (gB bs (i : Int)))) + sumL df (takeL (n - (bestF pf (fl (gB bs (i : Int))) (fl (gB bs (j : Int))) n (n * x)).2.1) (fl (gB bs (j : Int)))) = z := ⟨_, rfl⟩
          have hMr : 0 ≤ M ∧ M ≤ 3000000 := by omega
          have hDr : 0 ≤ D ∧ D ≤ 1000000 := by omega
          have hud := upD_in (a := D) (n := n) (by omega) (by omega)
          have hum := upD_in (a := M) (n := n) (by omega) (by omega)
          have hqm := upD_div (a := M) (n := n) (by omega) (by omega)
          have hqd := upD_div (a := D) (n := n) (by omega) (by omega)
          have hrm1 := Int.emod_nonneg M (show n ≠ 0 by omega)
          have hrm2 := Int.emod_lt_of_pos M (show 0 < n by omega)
          have hrd1 := Int.emod_nonneg D (show n ≠ 0 by omega)
          have hrd2 := Int.emod_lt_of_pos D (show 0 < n by omega)
          have hgg := gradeF_in ru se (upD M n) (upD D n)
          refine j_astore (lv' := [(0, .ref (ad 0)), (1, .ref a), (2, .ref m), (3, vi ((i : Int))), (4, vi ((j : Int))), (5, vi (n)), (6, vi (x)), (7, vi ((bestF pf (fl (gB bs (i : Int))) (fl (gB bs (j : Int))) n (n * x)).2.1)), (8, .ref r8), (9, .ref r12)]) [1, 2, 3, 4, 5, 6, 7, 8, 9, 0] C dL_isBlended_108 rfl rfl rfl ?_
          refine j_aload 8 C dL_isBlended_110 rfl rfl ?_
          refine j_iconst C dL_isBlended_112 rfl ?_
          refine j_iald C dL_isBlended_113 rfl hqr812 ⟨by omega, by omega⟩ (by omega) e18 ?_
          refine j_aload 9 C dL_isBlended_114 rfl rfl ?_
          refine j_iconst C dL_isBlended_116 rfl ?_
          refine j_iald C dL_isBlended_117 rfl hr12 ⟨by omega, by omega⟩ (by omega) e112 ?_
          refine j_iadd C dL_isBlended_118 rfl ?_
          refine j_eq_st (st' := [vi (M)]) (by rw [← hMq]) ?_
          refine j_istore (lv' := [(0, .ref (ad 0)), (1, .ref a), (2, .ref m), (3, vi ((i : Int))), (4, vi ((j : Int))), (5, vi (n)), (6, vi (x)), (7, vi ((bestF pf (fl (gB bs (i : Int))) (fl (gB bs (j : Int))) n (n * x)).2.1)), (8, .ref r8), (9, .ref r12), (10, vi (M))]) [1, 2, 3, 4, 5, 6, 7, 8, 9, 10, 0] C dL_isBlended_119 rfl rfl rfl ?_
          refine j_aload 8 C dL_isBlended_121 rfl rfl ?_
          refine j_iconst C dL_isBlended_123 rfl ?_
          refine j_iald C dL_isBlended_124 rfl hqr812 ⟨by omega, by omega⟩ (by omega) e28 ?_
          refine j_aload 9 C dL_isBlended_125 rfl rfl ?_
          refine j_iconst C dL_isBlended_127 rfl ?_
          refine j_iald C dL_isBlended_128 rfl hr12 ⟨by omega, by omega⟩ (by omega) e212 ?_
          refine j_iadd C dL_isBlended_129 rfl ?_
          refine j_eq_st (st' := [vi (D)]) (by rw [← hDq]) ?_
          refine j_istore (lv' := [(0, .ref (ad 0)), (1, .ref a), (2, .ref m), (3, vi ((i : Int))), (4, vi ((j : Int))), (5, vi (n)), (6, vi (x)), (7, vi ((bestF pf (fl (gB bs (i : Int))) (fl (gB bs (j : Int))) n (n * x)).2.1)), (8, .ref r8), (9, .ref r12), (10, vi (M)), (11, vi (D))]) [1, 2, 3, 4, 5, 6, 7, 8, 9, 10, 11, 0] C dL_isBlended_130 rfl rfl rfl ?_
          refine j_aload_n 1 C dL_isBlended_132 rfl rfl rfl ?_
          refine j_iload 10 C dL_isBlended_133 rfl rfl ?_
          refine j_iload 5 C dL_isBlended_135 rfl rfl ?_
          refine j_idiv C dL_isBlended_137 rfl ⟨by omega, by omega⟩ ⟨by omega, by omega⟩ ?_
          refine j_iload 10 C dL_isBlended_138 rfl rfl ?_
          refine j_iload 5 C dL_isBlended_140 rfl rfl ?_
          refine j_irem C dL_isBlended_142 rfl ⟨by omega, by omega⟩ ⟨by omega, by omega⟩ ?_
          refine j_if_le (tgt := 150) C dL_isBlended_143 rfl rfl ⟨by omega, by omega⟩ (fun cc16 => ?_) (fun cc16 => ?_)
          · refine j_iconst C dL_isBlended_150 rfl ?_
            refine j_iadd C dL_isBlended_151 rfl ?_
            refine j_eq_st (st' := [vi ((upD M n)), .ref a]) (by rw [hqm.2 (by omega)]) ?_
            refine j_iload 11 C dL_isBlended_152 rfl rfl ?_
            refine j_iload 5 C dL_isBlended_154 rfl rfl ?_
            refine j_idiv C dL_isBlended_156 rfl ⟨by omega, by omega⟩ ⟨by omega, by omega⟩ ?_
            refine j_iload 11 C dL_isBlended_157 rfl rfl ?_
            refine j_iload 5 C dL_isBlended_159 rfl rfl ?_
            refine j_irem C dL_isBlended_161 rfl ⟨by omega, by omega⟩ ⟨by omega, by omega⟩ ?_
            refine j_if_le (tgt := 169) C dL_isBlended_162 rfl rfl ⟨by omega, by omega⟩ (fun cc17 => ?_) (fun cc17 => ?_)
            · refine j_iconst C dL_isBlended_169 rfl ?_
              refine j_iadd C dL_isBlended_170 rfl ?_
              refine j_eq_st (st' := [vi ((upD D n)), vi ((upD M n)), .ref a]) (by rw [hqd.2 (by omega)]) ?_
              refine j_callS (st' := []) (As := [.ref a, vi ((upD M n)), vi ((upD D n))]) C dL_isBlended_171 rfl m_L_139 rfl rfl (c_graded (kL κ) hfl (kD κ) (kc κ) τ13 a G12 hG12 ru se hHX.1 (upD M n) (upD D n) ⟨by omega, by omega⟩ ⟨by omega, by omega⟩) rfl (by omega) (by omega) (by omega) (fun _ _ hx => hx.elim) (fun v19 τ18 hp20 => ?_)
              obtain ⟨rfl, hs9⟩ := hp20
              replace hs9 := hs9.symm
              subst hs9
              show J κ τ13 [(0, .ref (ad 0)), (1, .ref a), (2, .ref m), (3, vi ((i : Int))), (4, vi ((j : Int))), (5, vi (n)), (6, vi (x)), (7, vi ((bestF pf (fl (gB bs (i : Int))) (fl (gB bs (j : Int))) n (n * x)).2.1)), (8, .ref r8), (9, .ref r12), (10, vi (M)), (11, vi (D))] 174 [vi ((gradeF ru se (upD M n) (upD D n)))] _ _
              refine j_istore (lv' := [(0, .ref (ad 0)), (1, .ref a), (2, .ref m), (3, vi ((i : Int))), (4, vi ((j : Int))), (5, vi (n)), (6, vi (x)), (7, vi ((bestF pf (fl (gB bs (i : Int))) (fl (gB bs (j : Int))) n (n * x)).2.1)), (8, .ref r8), (9, .ref r12), (10, vi (M)), (11, vi (D)), (12, vi ((gradeF ru se (upD M n) (upD D n))))]) [1, 2, 3, 4, 5, 6, 7, 8, 9, 10, 11, 12, 0] C dL_isBlended_174 rfl rfl rfl ?_
              refine j_aload_n 2 C dL_isBlended_176 rfl rfl rfl ?_
              refine j_iconst C dL_isBlended_177 rfl ?_
              refine j_dup2 C dL_isBlended_178 rfl rfl rfl ?_
              refine j_laldE C dL_isBlended_179 rfl hqm12 ⟨by omega, by omega⟩ (by omega) (fun y21 => ?_)
              refine j_iload 5 C dL_isBlended_180 rfl rfl ?_
              refine j_aload_n 1 C dL_isBlended_182 rfl rfl rfl ?_
              refine j_bipush C dL_isBlended_183 rfl (by decide) ?_
              refine j_iload 12 C dL_isBlended_185 rfl rfl ?_
              refine j_iadd C dL_isBlended_187 rfl ?_
              obtain ⟨y22, hy22⟩ : ∃ y : Int, G12 (70 + (gradeF ru se (upD M n) (upD D n))).toNat = y := ⟨_, rfl⟩
              refine j_iald C dL_isBlended_188 rfl hG12 ⟨by omega, by omega⟩ (by omega) hy22 ?_
              refine j_imul C dL_isBlended_189 rfl ?_
              refine j_i2lE C dL_isBlended_190 rfl (fun y23 => ?_)
              refine j_ladd C dL_isBlended_191 rfl ?_
              refine j_last C dL_isBlended_192 rfl hqm12 ⟨by omega, by omega⟩ (by omega) (fun τ24 ee25 => ?_)
              have u26 := hG12.ne' ee25 (Ne.symm hma)
              have u27 := hr12.ne' ee25 (Ne.symm hrm12)
              have u28 := hqr812.ne' ee25 (Ne.symm hrm8)
              have u29 : has τ24 m (lA (kc κ) 2 (ups gm 1 (y21 + y23))) := hqm12.self' ee25
              have kp30 := hkk12.put ee25 (Or.inr rfl)
              refine j_aload_n 1 C dL_isBlended_193 rfl rfl rfl ?_
              refine j_bipush C dL_isBlended_194 rfl (by decide) ?_
              have dmX : τ24.1 = τ24.1 := rfl
              have hHn31 := hHX
              refine j_callS (st' := []) (As := [.ref a, vi (98)]) C dL_isBlended_196 rfl m_L_142 rfl rfl (c_note (kL κ) hfl (kD κ) (kc κ) τ24 a G12 u26 (apB (gradeF ru se) bs (98, (i : Int), (j : Int), (bestF pf (fl (gB bs (i : Int))) (fl (gB bs (j : Int))) n (n * x)).2.1, n - (bestF pf (fl (gB bs (i : Int))) (fl (gB bs (j : Int))) n (n * x)).2.1, 0, 0)) hNX hev3.2.1 evs.length hHn31.2.1 (by omega) hHn31.2.2.1 ⟨by rw [hHn31.2.2.2.2.1]; omega, by rw [hHn31.2.2.2.2.1]; omega⟩ 98) rfl (by omega) (by omega) (by omega) (fun _ _ hx => hx.elim) (fun v33 τ32 hp34 => ?_)
              obtain ⟨rfl, G31, hG31, ho31, hv31, hk31, hd31⟩ := hp34
              show J κ τ32 [(0, .ref (ad 0)), (1, .ref a), (2, .ref m), (3, vi ((i : Int))), (4, vi ((j : Int))), (5, vi (n)), (6, vi (x)), (7, vi ((bestF pf (fl (gB bs (i : Int))) (fl (gB bs (j : Int))) n (n * x)).2.1)), (8, .ref r8), (9, .ref r12), (10, vi (M)), (11, vi (D)), (12, vi ((gradeF ru se (upD M n) (upD D n))))] 199 [] _ _
              have hkk31 := kp30.tr (hk31.mono (fun _ z => Or.inl z))
              have hdd31 := hd31.trans (dmX)
              have hqr1231 := hk31 _ _ u27 hra12
              have hqr831 := hk31 _ _ u28 hra8
              have hqm31 := hk31 _ _ u29 hma
              have hN31 : NetL G31 (apB (gradeF ru se) bs (98, (i : Int), (j : Int), (bestF pf (fl (gB bs (i : Int))) (fl (gB bs (j : Int))) n (n * x)).2.1, n - (bestF pf (fl (gB bs (i : Int))) (fl (gB bs (j : Int))) n (n * x)).2.1, 0, 0)) := hNX.cong2 (fun q h1 h2 => ho31 q h2 (by omega) (by omega) (by omega))
              have hH31 := hHn31.note ho31 hv31
              refine j_aload_n 0 C dL_isBlended_199 rfl rfl rfl ?_
              refine j_iload_n 3 C dL_isBlended_200 rfl rfl rfl ?_
              refine j_iload 4 C dL_isBlended_201 rfl rfl ?_
              refine j_iload 5 C dL_isBlended_203 rfl rfl ?_
              refine j_iload 6 C dL_isBlended_205 rfl rfl ?_
              obtain ⟨tg2, htg2⟩ : ∃ f : Nat → Nat, tg = f := ⟨_, rfl⟩
              have hta2 : 1000 ≤ tg2 a := by rw [← htg2]; exact hta
              have htm2 : 1000 ≤ tg2 m := by rw [← htg2]; exact htm
              have hX35 := hX0.keep hkk31 (fun y _ z => z.elim (fun z => by rw [z]; exact hta) (fun z => by rw [z]; exact htm))
              rw [htg2] at hX35
              refine j_callSH (st' := []) (As := [.ref (ad 0), vi ((i : Int)), vi ((j : Int)), vi (n), vi (x)]) C dL_isBlended_207 rfl m_L_163 rfl rfl (W_sellBlend (kL κ) hfl (kD κ) (kc κ) τ32 tg2 ad bs ru se pf hd ca evs ln hX35 i hi j hj hij n x ⟨by omega, by omega⟩ ⟨by omega, by omega⟩ ⟨by omega, by omega⟩ ⟨by omega, by omega⟩ hfd (by omega)) rfl (by omega) (by omega) (by omega) (fun _ _ hx => hx.elim) (fun v37 τ36 hp38 => ?_)
              obtain ⟨rfl, tg', ad', hR9, hT9, hA9, hK9, hM9⟩ := hp38
              show J κ τ36 [(0, .ref (ad 0)), (1, .ref a), (2, .ref m), (3, vi ((i : Int))), (4, vi ((j : Int))), (5, vi (n)), (6, vi (x)), (7, vi ((bestF pf (fl (gB bs (i : Int))) (fl (gB bs (j : Int))) n (n * x)).2.1)), (8, .ref r8), (9, .ref r12), (10, vi (M)), (11, vi (D)), (12, vi ((gradeF ru se (upD M n) (upD D n))))] 210 [vi ((n * pf (gradeM ru se (fl (gB bs (i : Int))) (fl (gB bs (j : Int))) (bestF pf (fl (gB bs (i : Int))) (fl (gB bs (j : Int))) n (n * x)).2.1 (n - (bestF pf (fl (gB bs (i : Int))) (fl (gB bs (j : Int))) n (n * x)).2.1)).toNat))] _ _
              have h9a := hK9 _ _ hG31 (fun z => by have z1 : tg2 a < 1000 := z; omega)
              have h9m := hK9 _ _ hqm31 (fun z => by have z1 : tg2 m < 1000 := z; omega)
              have hta9 : 1000 ≤ tg' a := by rw [hT9 a hG31.1]; exact hta2
              have htm9 : 1000 ≤ tg' m := by rw [hT9 m hqm31.1]; exact htm2
              have hgm : gradeM ru se (fl (gB bs (i : Int))) (fl (gB bs (j : Int))) (bestF pf (fl (gB bs (i : Int))) (fl (gB bs (j : Int))) n (n * x)).2.1 (n - (bestF pf (fl (gB bs (i : Int))) (fl (gB bs (j : Int))) n (n * x)).2.1) = gradeF ru se (upD M n) (upD D n) := by
                unfold gradeM
                rw [show (bestF pf (fl (gB bs (i : Int))) (fl (gB bs (j : Int))) n (n * x)).2.1 + (n - (bestF pf (fl (gB bs (i : Int))) (fl (gB bs (j : Int))) n (n * x)).2.1) = n by omega, hMq, hDq]
              have hpr1 := prod_in (n := n) (p := pf (gradeF ru se (upD M n) (upD D n)).toNat) (N := 30) (M := 2000) ⟨by omega, by omega⟩ (hpf _ (by omega))
              have hpr2 := hpr1
              rw [← hgm] at hpr2
              refine j_iload 5 C dL_isBlended_210 rfl rfl ?_
              refine j_aload_n 1 C dL_isBlended_212 rfl rfl rfl ?_
              refine j_bipush C dL_isBlended_213 rfl (by decide) ?_
              refine j_iload 12 C dL_isBlended_215 rfl rfl ?_
              refine j_iadd C dL_isBlended_217 rfl ?_
              refine j_iald C dL_isBlended_218 rfl h9a ⟨by omega, by omega⟩ (by omega) ((congrArg G31 (show (70 + (gradeF ru se (upD M n) (upD D n))).toNat = 70 + (gradeF ru se (upD M n) (upD D n)).toNat by omega)).trans (hH31.2.2.2.2.2 _ (by omega) (by omega))) ?_
              refine j_imul C dL_isBlended_219 rfl ?_
              refine j_icmp_ne (tgt := 227) C dL_isBlended_220 rfl rfl ⟨by omega, by omega⟩ ⟨by omega, by omega⟩ (fun cc39 => ?_) (fun cc39 => ?_)
              · exact absurd cc39 (fun q => q (by rw [hgm]))
              · refine j_iconst C dL_isBlended_223 rfl ?_
                refine j_goto (tgt := 228) C dL_isBlended_224 rfl ?_
                exact j_zret C E dL_isBlended_228 rfl (by omega) (by omega) ⟨rfl, tg', ad', _, _, _, _, _, _, _, _, _, _, hA9, hR9, ⟨h9a, hN31, by rw [List.length_append, hdF_fu]; exact hH31⟩, h9m, ⟨hta9, htm9⟩, by rw [apB_len]; omega⟩
            · refine j_iconst C dL_isBlended_165 rfl ?_
              refine j_goto (tgt := 170) C dL_isBlended_166 rfl ?_
              refine j_iadd C dL_isBlended_170 rfl ?_
              refine j_eq_st (st' := [vi ((upD D n)), vi ((upD M n)), .ref a]) (by rw [hqd.1 (by omega)]) ?_
              refine j_callS (st' := []) (As := [.ref a, vi ((upD M n)), vi ((upD D n))]) C dL_isBlended_171 rfl m_L_139 rfl rfl (c_graded (kL κ) hfl (kD κ) (kc κ) τ13 a G12 hG12 ru se hHX.1 (upD M n) (upD D n) ⟨by omega, by omega⟩ ⟨by omega, by omega⟩) rfl (by omega) (by omega) (by omega) (fun _ _ hx => hx.elim) (fun v41 τ40 hp42 => ?_)
              obtain ⟨rfl, hs9⟩ := hp42
              replace hs9 := hs9.symm
              subst hs9
              show J κ τ13 [(0, .ref (ad 0)), (1, .ref a), (2, .ref m), (3, vi ((i : Int))), (4, vi ((j : Int))), (5, vi (n)), (6, vi (x)), (7, vi ((bestF pf (fl (gB bs (i : Int))) (fl (gB bs (j : Int))) n (n * x)).2.1)), (8, .ref r8), (9, .ref r12), (10, vi (M)), (11, vi (D))] 174 [vi ((gradeF ru se (upD M n) (upD D n)))] _ _
              refine j_istore (lv' := [(0, .ref (ad 0)), (1, .ref a), (2, .ref m), (3, vi ((i : Int))), (4, vi ((j : Int))), (5, vi (n)), (6, vi (x)), (7, vi ((bestF pf (fl (gB bs (i : Int))) (fl (gB bs (j : Int))) n (n * x)).2.1)), (8, .ref r8), (9, .ref r12), (10, vi (M)), (11, vi (D)), (12, vi ((gradeF ru se (upD M n) (upD D n))))]) [1, 2, 3, 4, 5, 6, 7, 8, 9, 10, 11, 12, 0] C dL_isBlended_174 rfl rfl rfl ?_
              refine j_aload_n 2 C dL_isBlended_176 rfl rfl rfl ?_
              refine j_iconst C dL_isBlended_177 rfl ?_
              refine j_dup2 C dL_isBlended_178 rfl rfl rfl ?_
              refine j_laldE C dL_isBlended_179 rfl hqm12 ⟨by omega, by omega⟩ (by omega) (fun y43 => ?_)
              refine j_iload 5 C dL_isBlended_180 rfl rfl ?_
              refine j_aload_n 1 C dL_isBlended_182 rfl rfl rfl ?_
              refine j_bipush C dL_isBlended_183 rfl (by decide) ?_
              refine j_iload 12 C dL_isBlended_185 rfl rfl ?_
              refine j_iadd C dL_isBlended_187 rfl ?_
              obtain ⟨y44, hy44⟩ : ∃ y : Int, G12 (70 + (gradeF ru se (upD M n) (upD D n))).toNat = y := ⟨_, rfl⟩
              refine j_iald C dL_isBlended_188 rfl hG12 ⟨by omega, by omega⟩ (by omega) hy44 ?_
              refine j_imul C dL_isBlended_189 rfl ?_
              refine j_i2lE C dL_isBlended_190 rfl (fun y45 => ?_)
              refine j_ladd C dL_isBlended_191 rfl ?_
              refine j_last C dL_isBlended_192 rfl hqm12 ⟨by omega, by omega⟩ (by omega) (fun τ46 ee47 => ?_)
              have u48 := hG12.ne' ee47 (Ne.symm hma)
              have u49 := hr12.ne' ee47 (Ne.symm hrm12)
              have u50 := hqr812.ne' ee47 (Ne.symm hrm8)
              have u51 : has τ46 m (lA (kc κ) 2 (ups gm 1 (y43 + y45))) := hqm12.self' ee47
              have kp52 := hkk12.put ee47 (Or.inr rfl)
              refine j_aload_n 1 C dL_isBlended_193 rfl rfl rfl ?_
              refine j_bipush C dL_isBlended_194 rfl (by decide) ?_
              have dmX : τ46.1 = τ46.1 := rfl
              have hHn53 := hHX
              refine j_callS (st' := []) (As := [.ref a, vi (98)]) C dL_isBlended_196 rfl m_L_142 rfl rfl (c_note (kL κ) hfl (kD κ) (kc κ) τ46 a G12 u48 (apB (gradeF ru se) bs (98, (i : Int), (j : Int), (bestF pf (fl (gB bs (i : Int))) (fl (gB bs (j : Int))) n (n * x)).2.1, n - (bestF pf (fl (gB bs (i : Int))) (fl (gB bs (j : Int))) n (n * x)).2.1, 0, 0)) hNX hev3.2.1 evs.length hHn53.2.1 (by omega) hHn53.2.2.1 ⟨by rw [hHn53.2.2.2.2.1]; omega, by rw [hHn53.2.2.2.2.1]; omega⟩ 98) rfl (by omega) (by omega) (by omega) (fun _ _ hx => hx.elim) (fun v55 τ54 hp56 => ?_)
              obtain ⟨rfl, G53, hG53, ho53, hv53, hk53, hd53⟩ := hp56
              show J κ τ54 [(0, .ref (ad 0)), (1, .ref a), (2, .ref m), (3, vi ((i : Int))), (4, vi ((j : Int))), (5, vi (n)), (6, vi (x)), (7, vi ((bestF pf (fl (gB bs (i : Int))) (fl (gB bs (j : Int))) n (n * x)).2.1)), (8, .ref r8), (9, .ref r12), (10, vi (M)), (11, vi (D)), (12, vi ((gradeF ru se (upD M n) (upD D n))))] 199 [] _ _
              have hkk53 := kp52.tr (hk53.mono (fun _ z => Or.inl z))
              have hdd53 := hd53.trans (dmX)
              have hqr1253 := hk53 _ _ u49 hra12
              have hqr853 := hk53 _ _ u50 hra8
              have hqm53 := hk53 _ _ u51 hma
              have hN53 : NetL G53 (apB (gradeF ru se) bs (98, (i : Int), (j : Int), (bestF pf (fl (gB bs (i : Int))) (fl (gB bs (j : Int))) n (n * x)).2.1, n - (bestF pf (fl (gB bs (i : Int))) (fl (gB bs (j : Int))) n (n * x)).2.1, 0, 0)) := hNX.cong2 (fun q h1 h2 => ho53 q h2 (by omega) (by omega) (by omega))
              have hH53 := hHn53.note ho53 hv53
              refine j_aload_n 0 C dL_isBlended_199 rfl rfl rfl ?_
              refine j_iload_n 3 C dL_isBlended_200 rfl rfl rfl ?_
              refine j_iload 4 C dL_isBlended_201 rfl rfl ?_
              refine j_iload 5 C dL_isBlended_203 rfl rfl ?_
              refine j_iload 6 C dL_isBlended_205 rfl rfl ?_
              obtain ⟨tg2, htg2⟩ : ∃ f : Nat → Nat, tg = f := ⟨_, rfl⟩
              have hta2 : 1000 ≤ tg2 a := by rw [← htg2]; exact hta
              have htm2 : 1000 ≤ tg2 m := by rw [← htg2]; exact htm
              have hX57 := hX0.keep hkk53 (fun y _ z => z.elim (fun z => by rw [z]; exact hta) (fun z => by rw [z]; exact htm))
              rw [htg2] at hX57
              refine j_callSH (st' := []) (As := [.ref (ad 0), vi ((i : Int)), vi ((j : Int)), vi (n), vi (x)]) C dL_isBlended_207 rfl m_L_163 rfl rfl (W_sellBlend (kL κ) hfl (kD κ) (kc κ) τ54 tg2 ad bs ru se pf hd ca evs ln hX57 i hi j hj hij n x ⟨by omega, by omega⟩ ⟨by omega, by omega⟩ ⟨by omega, by omega⟩ ⟨by omega, by omega⟩ hfd (by omega)) rfl (by omega) (by omega) (by omega) (fun _ _ hx => hx.elim) (fun v59 τ58 hp60 => ?_)
              obtain ⟨rfl, tg', ad', hR9, hT9, hA9, hK9, hM9⟩ := hp60
              show J κ τ58 [(0, .ref (ad 0)), (1, .ref a), (2, .ref m), (3, vi ((i : Int))), (4, vi ((j : Int))), (5, vi (n)), (6, vi (x)), (7, vi ((bestF pf (fl (gB bs (i : Int))) (fl (gB bs (j : Int))) n (n * x)).2.1)), (8, .ref r8), (9, .ref r12), (10, vi (M)), (11, vi (D)), (12, vi ((gradeF ru se (upD M n) (upD D n))))] 210 [vi ((n * pf (gradeM ru se (fl (gB bs (i : Int))) (fl (gB bs (j : Int))) (bestF pf (fl (gB bs (i : Int))) (fl (gB bs (j : Int))) n (n * x)).2.1 (n - (bestF pf (fl (gB bs (i : Int))) (fl (gB bs (j : Int))) n (n * x)).2.1)).toNat))] _ _
              have h9a := hK9 _ _ hG53 (fun z => by have z1 : tg2 a < 1000 := z; omega)
              have h9m := hK9 _ _ hqm53 (fun z => by have z1 : tg2 m < 1000 := z; omega)
              have hta9 : 1000 ≤ tg' a := by rw [hT9 a hG53.1]; exact hta2
              have htm9 : 1000 ≤ tg' m := by rw [hT9 m hqm53.1]; exact htm2
              have hgm : gradeM ru se (fl (gB bs (i : Int))) (fl (gB bs (j : Int))) (bestF pf (fl (gB bs (i : Int))) (fl (gB bs (j : Int))) n (n * x)).2.1 (n - (bestF pf (fl (gB bs (i : Int))) (fl (gB bs (j : Int))) n (n * x)).2.1) = gradeF ru se (upD M n) (upD D n) := by
                unfold gradeM
                rw [show (bestF pf (fl (gB bs (i : Int))) (fl (gB bs (j : Int))) n (n * x)).2.1 + (n - (bestF pf (fl (gB bs (i : Int))) (fl (gB bs (j : Int))) n (n * x)).2.1) = n by omega, hMq, hDq]
              have hpr1 := prod_in (n := n) (p := pf (gradeF ru se (upD M n) (upD D n)).toNat) (N := 30) (M := 2000) ⟨by omega, by omega⟩ (hpf _ (by omega))
              have hpr2 := hpr1
              rw [← hgm] at hpr2
              refine j_iload 5 C dL_isBlended_210 rfl rfl ?_
              refine j_aload_n 1 C dL_isBlended_212 rfl rfl rfl ?_
              refine j_bipush C dL_isBlended_213 rfl (by decide) ?_
              refine j_iload 12 C dL_isBlended_215 rfl rfl ?_
              refine j_iadd C dL_isBlended_217 rfl ?_
              refine j_iald C dL_isBlended_218 rfl h9a ⟨by omega, by omega⟩ (by omega) ((congrArg G53 (show (70 + (gradeF ru se (upD M n) (upD D n))).toNat = 70 + (gradeF ru se (upD M n) (upD D n)).toNat by omega)).trans (hH53.2.2.2.2.2 _ (by omega) (by omega))) ?_
              refine j_imul C dL_isBlended_219 rfl ?_
              refine j_icmp_ne (tgt := 227) C dL_isBlended_220 rfl rfl ⟨by omega, by omega⟩ ⟨by omega, by omega⟩ (fun cc61 => ?_) (fun cc61 => ?_)
              · exact absurd cc61 (fun q => q (by rw [hgm]))
              · refine j_iconst C dL_isBlended_223 rfl ?_
                refine j_goto (tgt := 228) C dL_isBlended_224 rfl ?_
                exact j_zret C E dL_isBlended_228 rfl (by omega) (by omega) ⟨rfl, tg', ad', _, _, _, _, _, _, _, _, _, _, hA9, hR9, ⟨h9a, hN53, by rw [List.length_append, hdF_fu]; exact hH53⟩, h9m, ⟨hta9, htm9⟩, by rw [apB_len]; omega⟩
          · refine j_iconst C dL_isBlended_146 rfl ?_
            refine j_goto (tgt := 151) C dL_isBlended_147 rfl ?_
            refine j_iadd C dL_isBlended_151 rfl ?_
            refine j_eq_st (st' := [vi ((upD M n)), .ref a]) (by rw [hqm.1 (by omega)]) ?_
            refine j_iload 11 C dL_isBlended_152 rfl rfl ?_
            refine j_iload 5 C dL_isBlended_154 rfl rfl ?_
            refine j_idiv C dL_isBlended_156 rfl ⟨by omega, by omega⟩ ⟨by omega, by omega⟩ ?_
            refine j_iload 11 C dL_isBlended_157 rfl rfl ?_
            refine j_iload 5 C dL_isBlended_159 rfl rfl ?_
            refine j_irem C dL_isBlended_161 rfl ⟨by omega, by omega⟩ ⟨by omega, by omega⟩ ?_
            refine j_if_le (tgt := 169) C dL_isBlended_162 rfl rfl ⟨by omega, by omega⟩ (fun cc62 => ?_) (fun cc62 => ?_)
            · refine j_iconst C dL_isBlended_169 rfl ?_
              refine j_iadd C dL_isBlended_170 rfl ?_
              refine j_eq_st (st' := [vi ((upD D n)), vi ((upD M n)), .ref a]) (by rw [hqd.2 (by omega)]) ?_
              refine j_callS (st' := []) (As := [.ref a, vi ((upD M n)), vi ((upD D n))]) C dL_isBlended_171 rfl m_L_139 rfl rfl (c_graded (kL κ) hfl (kD κ) (kc κ) τ13 a G12 hG12 ru se hHX.1 (upD M n) (upD D n) ⟨by omega, by omega⟩ ⟨by omega, by omega⟩) rfl (by omega) (by omega) (by omega) (fun _ _ hx => hx.elim) (fun v64 τ63 hp65 => ?_)
              obtain ⟨rfl, hs9⟩ := hp65
              replace hs9 := hs9.symm
              subst hs9
              show J κ τ13 [(0, .ref (ad 0)), (1, .ref a), (2, .ref m), (3, vi ((i : Int))), (4, vi ((j : Int))), (5, vi (n)), (6, vi (x)), (7, vi ((bestF pf (fl (gB bs (i : Int))) (fl (gB bs (j : Int))) n (n * x)).2.1)), (8, .ref r8), (9, .ref r12), (10, vi (M)), (11, vi (D))] 174 [vi ((gradeF ru se (upD M n) (upD D n)))] _ _
              refine j_istore (lv' := [(0, .ref (ad 0)), (1, .ref a), (2, .ref m), (3, vi ((i : Int))), (4, vi ((j : Int))), (5, vi (n)), (6, vi (x)), (7, vi ((bestF pf (fl (gB bs (i : Int))) (fl (gB bs (j : Int))) n (n * x)).2.1)), (8, .ref r8), (9, .ref r12), (10, vi (M)), (11, vi (D)), (12, vi ((gradeF ru se (upD M n) (upD D n))))]) [1, 2, 3, 4, 5, 6, 7, 8, 9, 10, 11, 12, 0] C dL_isBlended_174 rfl rfl rfl ?_
              refine j_aload_n 2 C dL_isBlended_176 rfl rfl rfl ?_
              refine j_iconst C dL_isBlended_177 rfl ?_
              refine j_dup2 C dL_isBlended_178 rfl rfl rfl ?_
              refine j_laldE C dL_isBlended_179 rfl hqm12 ⟨by omega, by omega⟩ (by omega) (fun y66 => ?_)
              refine j_iload 5 C dL_isBlended_180 rfl rfl ?_
              refine j_aload_n 1 C dL_isBlended_182 rfl rfl rfl ?_
              refine j_bipush C dL_isBlended_183 rfl (by decide) ?_
              refine j_iload 12 C dL_isBlended_185 rfl rfl ?_
              refine j_iadd C dL_isBlended_187 rfl ?_
              obtain ⟨y67, hy67⟩ : ∃ y : Int, G12 (70 + (gradeF ru se (upD M n) (upD D n))).toNat = y := ⟨_, rfl⟩
              refine j_iald C dL_isBlended_188 rfl hG12 ⟨by omega, by omega⟩ (by omega) hy67 ?_
              refine j_imul C dL_isBlended_189 rfl ?_
              refine j_i2lE C dL_isBlended_190 rfl (fun y68 => ?_)
              refine j_ladd C dL_isBlended_191 rfl ?_
              refine j_last C dL_isBlended_192 rfl hqm12 ⟨by omega, by omega⟩ (by omega) (fun τ69 ee70 => ?_)
              have u71 := hG12.ne' ee70 (Ne.symm hma)
              have u72 := hr12.ne' ee70 (Ne.symm hrm12)
              have u73 := hqr812.ne' ee70 (Ne.symm hrm8)
              have u74 : has τ69 m (lA (kc κ) 2 (ups gm 1 (y66 + y68))) := hqm12.self' ee70
              have kp75 := hkk12.put ee70 (Or.inr rfl)
              refine j_aload_n 1 C dL_isBlended_193 rfl rfl rfl ?_
              refine j_bipush C dL_isBlended_194 rfl (by decide) ?_
              have dmX : τ69.1 = τ69.1 := rfl
              have hHn76 := hHX
              refine j_callS (st' := []) (As := [.ref a, vi (98)]) C dL_isBlended_196 rfl m_L_142 rfl rfl (c_note (kL κ) hfl (kD κ) (kc κ) τ69 a G12 u71 (apB (gradeF ru se) bs (98, (i : Int), (j : Int), (bestF pf (fl (gB bs (i : Int))) (fl (gB bs (j : Int))) n (n * x)).2.1, n - (bestF pf (fl (gB bs (i : Int))) (fl (gB bs (j : Int))) n (n * x)).2.1, 0, 0)) hNX hev3.2.1 evs.length hHn76.2.1 (by omega) hHn76.2.2.1 ⟨by rw [hHn76.2.2.2.2.1]; omega, by rw [hHn76.2.2.2.2.1]; omega⟩ 98) rfl (by omega) (by omega) (by omega) (fun _ _ hx => hx.elim) (fun v78 τ77 hp79 => ?_)
              obtain ⟨rfl, G76, hG76, ho76, hv76, hk76, hd76⟩ := hp79
              show J κ τ77 [(0, .ref (ad 0)), (1, .ref a), (2, .ref m), (3, vi ((i : Int))), (4, vi ((j : Int))), (5, vi (n)), (6, vi (x)), (7, vi ((bestF pf (fl (gB bs (i : Int))) (fl (gB bs (j : Int))) n (n * x)).2.1)), (8, .ref r8), (9, .ref r12), (10, vi (M)), (11, vi (D)), (12, vi ((gradeF ru se (upD M n) (upD D n))))] 199 [] _ _
              have hkk76 := kp75.tr (hk76.mono (fun _ z => Or.inl z))
              have hdd76 := hd76.trans (dmX)
              have hqr1276 := hk76 _ _ u72 hra12
              have hqr876 := hk76 _ _ u73 hra8
              have hqm76 := hk76 _ _ u74 hma
              have hN76 : NetL G76 (apB (gradeF ru se) bs (98, (i : Int), (j : Int), (bestF pf (fl (gB bs (i : Int))) (fl (gB bs (j : Int))) n (n * x)).2.1, n - (bestF pf (fl (gB bs (i : Int))) (fl (gB bs (j : Int))) n (n * x)).2.1, 0, 0)) := hNX.cong2 (fun q h1 h2 => ho76 q h2 (by omega) (by omega) (by omega))
              have hH76 := hHn76.note ho76 hv76
              refine j_aload_n 0 C dL_isBlended_199 rfl rfl rfl ?_
              refine j_iload_n 3 C dL_isBlended_200 rfl rfl rfl ?_
              refine j_iload 4 C dL_isBlended_201 rfl rfl ?_
              refine j_iload 5 C dL_isBlended_203 rfl rfl ?_
              refine j_iload 6 C dL_isBlended_205 rfl rfl ?_
              obtain ⟨tg2, htg2⟩ : ∃ f : Nat → Nat, tg = f := ⟨_, rfl⟩
              have hta2 : 1000 ≤ tg2 a := by rw [← htg2]; exact hta
              have htm2 : 1000 ≤ tg2 m := by rw [← htg2]; exact htm
              have hX80 := hX0.keep hkk76 (fun y _ z => z.elim (fun z => by rw [z]; exact hta) (fun z => by rw [z]; exact htm))
              rw [htg2] at hX80
              refine j_callSH (st' := []) (As := [.ref (ad 0), vi ((i : Int)), vi ((j : Int)), vi (n), vi (x)]) C dL_isBlended_207 rfl m_L_163 rfl rfl (W_sellBlend (kL κ) hfl (kD κ) (kc κ) τ77 tg2 ad bs ru se pf hd ca evs ln hX80 i hi j hj hij n x ⟨by omega, by omega⟩ ⟨by omega, by omega⟩ ⟨by omega, by omega⟩ ⟨by omega, by omega⟩ hfd (by omega)) rfl (by omega) (by omega) (by omega) (fun _ _ hx => hx.elim) (fun v82 τ81 hp83 => ?_)
              obtain ⟨rfl, tg', ad', hR9, hT9, hA9, hK9, hM9⟩ := hp83
              show J κ τ81 [(0, .ref (ad 0)), (1, .ref a), (2, .ref m), (3, vi ((i : Int))), (4, vi ((j : Int))), (5, vi (n)), (6, vi (x)), (7, vi ((bestF pf (fl (gB bs (i : Int))) (fl (gB bs (j : Int))) n (n * x)).2.1)), (8, .ref r8), (9, .ref r12), (10, vi (M)), (11, vi (D)), (12, vi ((gradeF ru se (upD M n) (upD D n))))] 210 [vi ((n * pf (gradeM ru se (fl (gB bs (i : Int))) (fl (gB bs (j : Int))) (bestF pf (fl (gB bs (i : Int))) (fl (gB bs (j : Int))) n (n * x)).2.1 (n - (bestF pf (fl (gB bs (i : Int))) (fl (gB bs (j : Int))) n (n * x)).2.1)).toNat))] _ _
              have h9a := hK9 _ _ hG76 (fun z => by have z1 : tg2 a < 1000 := z; omega)
              have h9m := hK9 _ _ hqm76 (fun z => by have z1 : tg2 m < 1000 := z; omega)
              have hta9 : 1000 ≤ tg' a := by rw [hT9 a hG76.1]; exact hta2
              have htm9 : 1000 ≤ tg' m := by rw [hT9 m hqm76.1]; exact htm2
              have hgm : gradeM ru se (fl (gB bs (i : Int))) (fl (gB bs (j : Int))) (bestF pf (fl (gB bs (i : Int))) (fl (gB bs (j : Int))) n (n * x)).2.1 (n - (bestF pf (fl (gB bs (i : Int))) (fl (gB bs (j : Int))) n (n * x)).2.1) = gradeF ru se (upD M n) (upD D n) := by
                unfold gradeM
                rw [show (bestF pf (fl (gB bs (i : Int))) (fl (gB bs (j : Int))) n (n * x)).2.1 + (n - (bestF pf (fl (gB bs (i : Int))) (fl (gB bs (j : Int))) n (n * x)).2.1) = n by omega, hMq, hDq]
              have hpr1 := prod_in (n := n) (p := pf (gradeF ru se (upD M n) (upD D n)).toNat) (N := 30) (M := 2000) ⟨by omega, by omega⟩ (hpf _ (by omega))
              have hpr2 := hpr1
              rw [← hgm] at hpr2
              refine j_iload 5 C dL_isBlended_210 rfl rfl ?_
              refine j_aload_n 1 C dL_isBlended_212 rfl rfl rfl ?_
              refine j_bipush C dL_isBlended_213 rfl (by decide) ?_
              refine j_iload 12 C dL_isBlended_215 rfl rfl ?_
              refine j_iadd C dL_isBlended_217 rfl ?_
              refine j_iald C dL_isBlended_218 rfl h9a ⟨by omega, by omega⟩ (by omega) ((congrArg G76 (show (70 + (gradeF ru se (upD M n) (upD D n))).toNat = 70 + (gradeF ru se (upD M n) (upD D n)).toNat by omega)).trans (hH76.2.2.2.2.2 _ (by omega) (by omega))) ?_
              refine j_imul C dL_isBlended_219 rfl ?_
              refine j_icmp_ne (tgt := 227) C dL_isBlended_220 rfl rfl ⟨by omega, by omega⟩ ⟨by omega, by omega⟩ (fun cc84 => ?_) (fun cc84 => ?_)
              · exact absurd cc84 (fun q => q (by rw [hgm]))
              · refine j_iconst C dL_isBlended_223 rfl ?_
                refine j_goto (tgt := 228) C dL_isBlended_224 rfl ?_
                exact j_zret C E dL_isBlended_228 rfl (by omega) (by omega) ⟨rfl, tg', ad', _, _, _, _, _, _, _, _, _, _, hA9, hR9, ⟨h9a, hN76, by rw [List.length_append, hdF_fu]; exact hH76⟩, h9m, ⟨hta9, htm9⟩, by rw [apB_len]; omega⟩
            · refine j_iconst C dL_isBlended_165 rfl ?_
              refine j_goto (tgt := 170) C dL_isBlended_166 rfl ?_
              refine j_iadd C dL_isBlended_170 rfl ?_
              refine j_eq_st (st' := [vi ((upD D n)), vi ((upD M n)), .ref a]) (by rw [hqd.1 (by omega)]) ?_
              refine j_callS (st' := []) (As := [.ref a, vi ((upD M n)), vi ((upD D n))]) C dL_isBlended_171 rfl m_L_139 rfl rfl (c_graded (kL κ) hfl (kD κ) (kc κ) τ13 a G12 hG12 ru se hHX.1 (upD M n) (upD D n) ⟨by omega, by omega⟩ ⟨by omega, by omega⟩) rfl (by omega) (by omega) (by omega) (fun _ _ hx => hx.elim) (fun v86 τ85 hp87 => ?_)
              obtain ⟨rfl, hs9⟩ := hp87
              replace hs9 := hs9.symm
              subst hs9
              show J κ τ13 [(0, .ref (ad 0)), (1, .ref a), (2, .ref m), (3, vi ((i : Int))), (4, vi ((j : Int))), (5, vi (n)), (6, vi (x)), (7, vi ((bestF pf (fl (gB bs (i : Int))) (fl (gB bs (j : Int))) n (n * x)).2.1)), (8, .ref r8), (9, .ref r12), (10, vi (M)), (11, vi (D))] 174 [vi ((gradeF ru se (upD M n) (upD D n)))] _ _
              refine j_istore (lv' := [(0, .ref (ad 0)), (1, .ref a), (2, .ref m), (3, vi ((i : Int))), (4, vi ((j : Int))), (5, vi (n)), (6, vi (x)), (7, vi ((bestF pf (fl (gB bs (i : Int))) (fl (gB bs (j : Int))) n (n * x)).2.1)), (8, .ref r8), (9, .ref r12), (10, vi (M)), (11, vi (D)), (12, vi ((gradeF ru se (upD M n) (upD D n))))]) [1, 2, 3, 4, 5, 6, 7, 8, 9, 10, 11, 12, 0] C dL_isBlended_174 rfl rfl rfl ?_
              refine j_aload_n 2 C dL_isBlended_176 rfl rfl rfl ?_
              refine j_iconst C dL_isBlended_177 rfl ?_
              refine j_dup2 C dL_isBlended_178 rfl rfl rfl ?_
              refine j_laldE C dL_isBlended_179 rfl hqm12 ⟨by omega, by omega⟩ (by omega) (fun y88 => ?_)
              refine j_iload 5 C dL_isBlended_180 rfl rfl ?_
              refine j_aload_n 1 C dL_isBlended_182 rfl rfl rfl ?_
              refine j_bipush C dL_isBlended_183 rfl (by decide) ?_
              refine j_iload 12 C dL_isBlended_185 rfl rfl ?_
              refine j_iadd C dL_isBlended_187 rfl ?_
              obtain ⟨y89, hy89⟩ : ∃ y : Int, G12 (70 + (gradeF ru se (upD M n) (upD D n))).toNat = y := ⟨_, rfl⟩
              refine j_iald C dL_isBlended_188 rfl hG12 ⟨by omega, by omega⟩ (by omega) hy89 ?_
              refine j_imul C dL_isBlended_189 rfl ?_
              refine j_i2lE C dL_isBlended_190 rfl (fun y90 => ?_)
              refine j_ladd C dL_isBlended_191 rfl ?_
              refine j_last C dL_isBlended_192 rfl hqm12 ⟨by omega, by omega⟩ (by omega) (fun τ91 ee92 => ?_)
              have u93 := hG12.ne' ee92 (Ne.symm hma)
              have u94 := hr12.ne' ee92 (Ne.symm hrm12)
              have u95 := hqr812.ne' ee92 (Ne.symm hrm8)
              have u96 : has τ91 m (lA (kc κ) 2 (ups gm 1 (y88 + y90))) := hqm12.self' ee92
              have kp97 := hkk12.put ee92 (Or.inr rfl)
              refine j_aload_n 1 C dL_isBlended_193 rfl rfl rfl ?_
              refine j_bipush C dL_isBlended_194 rfl (by decide) ?_
              have dmX : τ91.1 = τ91.1 := rfl
              have hHn98 := hHX
              refine j_callS (st' := []) (As := [.ref a, vi (98)]) C dL_isBlended_196 rfl m_L_142 rfl rfl (c_note (kL κ) hfl (kD κ) (kc κ) τ91 a G12 u93 (apB (gradeF ru se) bs (98, (i : Int), (j : Int), (bestF pf (fl (gB bs (i : Int))) (fl (gB bs (j : Int))) n (n * x)).2.1, n - (bestF pf (fl (gB bs (i : Int))) (fl (gB bs (j : Int))) n (n * x)).2.1, 0, 0)) hNX hev3.2.1 evs.length hHn98.2.1 (by omega) hHn98.2.2.1 ⟨by rw [hHn98.2.2.2.2.1]; omega, by rw [hHn98.2.2.2.2.1]; omega⟩ 98) rfl (by omega) (by omega) (by omega) (fun _ _ hx => hx.elim) (fun v100 τ99 hp101 => ?_)
              obtain ⟨rfl, G98, hG98, ho98, hv98, hk98, hd98⟩ := hp101
              show J κ τ99 [(0, .ref (ad 0)), (1, .ref a), (2, .ref m), (3, vi ((i : Int))), (4, vi ((j : Int))), (5, vi (n)), (6, vi (x)), (7, vi ((bestF pf (fl (gB bs (i : Int))) (fl (gB bs (j : Int))) n (n * x)).2.1)), (8, .ref r8), (9, .ref r12), (10, vi (M)), (11, vi (D)), (12, vi ((gradeF ru se (upD M n) (upD D n))))] 199 [] _ _
              have hkk98 := kp97.tr (hk98.mono (fun _ z => Or.inl z))
              have hdd98 := hd98.trans (dmX)
              have hqr1298 := hk98 _ _ u94 hra12
              have hqr898 := hk98 _ _ u95 hra8
              have hqm98 := hk98 _ _ u96 hma
              have hN98 : NetL G98 (apB (gradeF ru se) bs (98, (i : Int), (j : Int), (bestF pf (fl (gB bs (i : Int))) (fl (gB bs (j : Int))) n (n * x)).2.1, n - (bestF pf (fl (gB bs (i : Int))) (fl (gB bs (j : Int))) n (n * x)).2.1, 0, 0)) := hNX.cong2 (fun q h1 h2 => ho98 q h2 (by omega) (by omega) (by omega))
              have hH98 := hHn98.note ho98 hv98
              refine j_aload_n 0 C dL_isBlended_199 rfl rfl rfl ?_
              refine j_iload_n 3 C dL_isBlended_200 rfl rfl rfl ?_
              refine j_iload 4 C dL_isBlended_201 rfl rfl ?_
              refine j_iload 5 C dL_isBlended_203 rfl rfl ?_
              refine j_iload 6 C dL_isBlended_205 rfl rfl ?_
              obtain ⟨tg2, htg2⟩ : ∃ f : Nat → Nat, tg = f := ⟨_, rfl⟩
              have hta2 : 1000 ≤ tg2 a := by rw [← htg2]; exact hta
              have htm2 : 1000 ≤ tg2 m := by rw [← htg2]; exact htm
              have hX102 := hX0.keep hkk98 (fun y _ z => z.elim (fun z => by rw [z]; exact hta) (fun z => by rw [z]; exact htm))
              rw [htg2] at hX102
              refine j_callSH (st' := []) (As := [.ref (ad 0), vi ((i : Int)), vi ((j : Int)), vi (n), vi (x)]) C dL_isBlended_207 rfl m_L_163 rfl rfl (W_sellBlend (kL κ) hfl (kD κ) (kc κ) τ99 tg2 ad bs ru se pf hd ca evs ln hX102 i hi j hj hij n x ⟨by omega, by omega⟩ ⟨by omega, by omega⟩ ⟨by omega, by omega⟩ ⟨by omega, by omega⟩ hfd (by omega)) rfl (by omega) (by omega) (by omega) (fun _ _ hx => hx.elim) (fun v104 τ103 hp105 => ?_)
              obtain ⟨rfl, tg', ad', hR9, hT9, hA9, hK9, hM9⟩ := hp105
              show J κ τ103 [(0, .ref (ad 0)), (1, .ref a), (2, .ref m), (3, vi ((i : Int))), (4, vi ((j : Int))), (5, vi (n)), (6, vi (x)), (7, vi ((bestF pf (fl (gB bs (i : Int))) (fl (gB bs (j : Int))) n (n * x)).2.1)), (8, .ref r8), (9, .ref r12), (10, vi (M)), (11, vi (D)), (12, vi ((gradeF ru se (upD M n) (upD D n))))] 210 [vi ((n * pf (gradeM ru se (fl (gB bs (i : Int))) (fl (gB bs (j : Int))) (bestF pf (fl (gB bs (i : Int))) (fl (gB bs (j : Int))) n (n * x)).2.1 (n - (bestF pf (fl (gB bs (i : Int))) (fl (gB bs (j : Int))) n (n * x)).2.1)).toNat))] _ _
              have h9a := hK9 _ _ hG98 (fun z => by have z1 : tg2 a < 1000 := z; omega)
              have h9m := hK9 _ _ hqm98 (fun z => by have z1 : tg2 m < 1000 := z; omega)
              have hta9 : 1000 ≤ tg' a := by rw [hT9 a hG98.1]; exact hta2
              have htm9 : 1000 ≤ tg' m := by rw [hT9 m hqm98.1]; exact htm2
              have hgm : gradeM ru se (fl (gB bs (i : Int))) (fl (gB bs (j : Int))) (bestF pf (fl (gB bs (i : Int))) (fl (gB bs (j : Int))) n (n * x)).2.1 (n - (bestF pf (fl (gB bs (i : Int))) (fl (gB bs (j : Int))) n (n * x)).2.1) = gradeF ru se (upD M n) (upD D n) := by
                unfold gradeM
                rw [show (bestF pf (fl (gB bs (i : Int))) (fl (gB bs (j : Int))) n (n * x)).2.1 + (n - (bestF pf (fl (gB bs (i : Int))) (fl (gB bs (j : Int))) n (n * x)).2.1) = n by omega, hMq, hDq]
              have hpr1 := prod_in (n := n) (p := pf (gradeF ru se (upD M n) (upD D n)).toNat) (N := 30) (M := 2000) ⟨by omega, by omega⟩ (hpf _ (by omega))
              have hpr2 := hpr1
              rw [← hgm] at hpr2
              refine j_iload 5 C dL_isBlended_210 rfl rfl ?_
              refine j_aload_n 1 C dL_isBlended_212 rfl rfl rfl ?_
              refine j_bipush C dL_isBlended_213 rfl (by decide) ?_
              refine j_iload 12 C dL_isBlended_215 rfl rfl ?_
              refine j_iadd C dL_isBlended_217 rfl ?_
              refine j_iald C dL_isBlended_218 rfl h9a ⟨by omega, by omega⟩ (by omega) ((congrArg G98 (show (70 + (gradeF ru se (upD M n) (upD D n))).toNat = 70 + (gradeF ru se (upD M n) (upD D n)).toNat by omega)).trans (hH98.2.2.2.2.2 _ (by omega) (by omega))) ?_
              refine j_imul C dL_isBlended_219 rfl ?_
              refine j_icmp_ne (tgt := 227) C dL_isBlended_220 rfl rfl ⟨by omega, by omega⟩ ⟨by omega, by omega⟩ (fun cc106 => ?_) (fun cc106 => ?_)
              · exact absurd cc106 (fun q => q (by rw [hgm]))
              · refine j_iconst C dL_isBlended_223 rfl ?_
                refine j_goto (tgt := 228) C dL_isBlended_224 rfl ?_
                exact j_zret C E dL_isBlended_228 rfl (by omega) (by omega) ⟨rfl, tg', ad', _, _, _, _, _, _, _, _, _, _, hA9, hR9, ⟨h9a, hN98, by rw [List.length_append, hdF_fu]; exact hH98⟩, h9m, ⟨hta9, htm9⟩, by rw [apB_len]; omega⟩
        · refine j_aload_n 0 C dL_isBlended_54 rfl rfl rfl ?_
          refine j_iload_n 3 C dL_isBlended_55 rfl rfl rfl ?_
          refine j_iload 4 C dL_isBlended_56 rfl rfl ?_
          refine j_iload 5 C dL_isBlended_58 rfl rfl ?_
          refine j_iload 6 C dL_isBlended_60 rfl rfl ?_
          refine j_callSH (st' := []) (As := [.ref (ad 0), vi ((i : Int)), vi ((j : Int)), vi (n), vi (x)]) C dL_isBlended_62 rfl m_L_163 rfl rfl (W_sellBlendB3 (kL κ) hfl (kD κ) (kc κ) τ2 tg ad bs ru se pf hd ca evs ln hX5 i hi j hj hij n x ⟨by omega, by omega⟩ ⟨by omega, by omega⟩ ⟨by omega, by omega⟩ ⟨by omega, by omega⟩ hfd (by omega)) rfl (by omega) (by omega) (by omega) (fun _ _ hx => hx.elim) (fun v108 τ107 hp109 => ?_)
          obtain ⟨rfl, hkB⟩ := hp109
          show J κ τ107 [(0, .ref (ad 0)), (1, .ref a), (2, .ref m), (3, vi ((i : Int))), (4, vi ((j : Int))), (5, vi (n)), (6, vi (x)), (7, vi ((bestF pf (fl (gB bs (i : Int))) (fl (gB bs (j : Int))) n (n * x)).2.1))] 65 [vi ((-900004))] _ _
          have hkC : Keep σ τ107 (fun _ => False) := hkS.tr hkB
          refine j_iload 7 C dL_isBlended_65 rfl rfl ?_
          refine j_if_ge (tgt := 75) C dL_isBlended_67 rfl rfl ⟨by omega, by omega⟩ (fun cc110 => ?_) (fun cc110 => ?_)
          · refine j_ldc (z := (-900004)) C dL_isBlended_75 rfl kc_L_84 ?_
            refine j_icmp_ne (tgt := 84) C dL_isBlended_77 rfl rfl ⟨by omega, by omega⟩ ⟨by omega, by omega⟩ (fun cc111 => absurd cc111 (by decide)) (fun _ => ?_)
            refine j_iconst C dL_isBlended_80 rfl ?_
            refine j_goto (tgt := 85) C dL_isBlended_81 rfl ?_
            exact j_zret C E dL_isBlended_85 rfl (by omega) (by omega) ⟨rfl, tg, ad, bs, ru, se, pf, hd, ca, evs, ln, g, gm, rfl, hX0.keep hkC (fun _ _ z => z.elim), ⟨hkC _ _ hA (fun z => z), hNt, hH⟩, hkC _ _ hM (fun z => z), ⟨hta, htm⟩, by omega⟩
          · exact absurd cc110 (by omega)
    · rw [if_neg hfd]
      show J κ τ2 [(0, .ref (ad 0)), (1, .ref a), (2, .ref m), (3, vi ((i : Int))), (4, vi ((j : Int))), (5, vi (n)), (6, vi (x))] 39 [vi (-1)] _ _
      refine j_istore (lv' := [(0, .ref (ad 0)), (1, .ref a), (2, .ref m), (3, vi ((i : Int))), (4, vi ((j : Int))), (5, vi (n)), (6, vi (x)), (7, vi (-1))]) [1, 2, 3, 4, 5, 6, 7, 0] C dL_isBlended_39 rfl rfl rfl ?_
      refine j_iload 7 C dL_isBlended_41 rfl rfl ?_
      refine j_if_lt (tgt := 54) C dL_isBlended_43 rfl rfl ⟨by omega, by omega⟩ (fun _ => ?_) (fun cc112 => absurd cc112 (by decide))
      refine j_aload_n 0 C dL_isBlended_54 rfl rfl rfl ?_
      refine j_iload_n 3 C dL_isBlended_55 rfl rfl rfl ?_
      refine j_iload 4 C dL_isBlended_56 rfl rfl ?_
      refine j_iload 5 C dL_isBlended_58 rfl rfl ?_
      refine j_iload 6 C dL_isBlended_60 rfl rfl ?_
      refine j_callSH (st' := []) (As := [.ref (ad 0), vi ((i : Int)), vi ((j : Int)), vi (n), vi (x)]) C dL_isBlended_62 rfl m_L_163 rfl rfl (W_sellBlendB2 (kL κ) hfl (kD κ) (kc κ) τ2 tg ad bs ru se pf hd ca evs ln hX5 i hi j hj hij n x ⟨by omega, by omega⟩ ⟨by omega, by omega⟩ ⟨by omega, by omega⟩ ⟨by omega, by omega⟩ hfd) rfl (by omega) (by omega) (by omega) (fun _ _ hx => hx.elim) (fun v114 τ113 hp115 => ?_)
      obtain ⟨rfl, hkB⟩ := hp115
      show J κ τ113 [(0, .ref (ad 0)), (1, .ref a), (2, .ref m), (3, vi ((i : Int))), (4, vi ((j : Int))), (5, vi (n)), (6, vi (x)), (7, vi (-1))] 65 [vi ((-900003))] _ _
      have hkC : Keep σ τ113 (fun _ => False) := hkS.tr hkB
      refine j_iload 7 C dL_isBlended_65 rfl rfl ?_
      refine j_if_ge (tgt := 75) C dL_isBlended_67 rfl rfl ⟨by omega, by omega⟩ (fun cc116 => absurd cc116 (by decide)) (fun _ => ?_)
      refine j_ldc (z := (-900003)) C dL_isBlended_70 rfl kc_L_44 ?_
      refine j_goto (tgt := 77) C dL_isBlended_72 rfl ?_
      refine j_icmp_ne (tgt := 84) C dL_isBlended_77 rfl rfl ⟨by omega, by omega⟩ ⟨by omega, by omega⟩ (fun cc117 => absurd cc117 (by decide)) (fun _ => ?_)
      refine j_iconst C dL_isBlended_80 rfl ?_
      refine j_goto (tgt := 85) C dL_isBlended_81 rfl ?_
      exact j_zret C E dL_isBlended_85 rfl (by omega) (by omega) ⟨rfl, tg, ad, bs, ru, se, pf, hd, ca, evs, ln, g, gm, rfl, hX0.keep hkC (fun _ _ z => z.elim), ⟨hkC _ _ hA (fun z => z), hNt, hH⟩, hkC _ _ hM (fun z => z), ⟨hta, htm⟩, by omega⟩
  · refine j_aload_n 0 C dL_isBlended_6 rfl rfl rfl ?_
    refine j_iload_n 3 C dL_isBlended_7 rfl rfl rfl ?_
    refine j_iload 4 C dL_isBlended_8 rfl rfl ?_
    refine j_iload 5 C dL_isBlended_10 rfl rfl ?_
    refine j_iload 6 C dL_isBlended_12 rfl rfl ?_
    refine j_callSH (st' := []) (As := [.ref (ad 0), vi ((i : Int)), vi ((j : Int)), vi (n), vi (x)]) C dL_isBlended_14 rfl m_L_163 rfl rfl (W_sellBlendB1 (kL κ) hfl (kD κ) (kc κ) σ tg ad bs ru se pf hd ca evs ln hX0 i hi j hj n x ⟨by omega, by omega⟩ ⟨by omega, by omega⟩ (by omega)) rfl (by omega) (by omega) (by omega) (fun _ _ hx => hx.elim) (fun v119 τ118 hp120 => ?_)
    obtain ⟨rfl, hs9⟩ := hp120
    replace hs9 := hs9.symm
    subst hs9
    show J κ σ [(0, .ref (ad 0)), (1, .ref a), (2, .ref m), (3, vi ((i : Int))), (4, vi ((j : Int))), (5, vi (n)), (6, vi (x))] 17 [vi ((-900002))] _ _
    refine j_ldc (z := (-900002)) C dL_isBlended_17 rfl kc_L_20 ?_
    refine j_icmp_ne (tgt := 26) C dL_isBlended_19 rfl rfl ⟨by omega, by omega⟩ ⟨by omega, by omega⟩ (fun cc121 => absurd cc121 (by decide)) (fun _ => ?_)
    refine j_iconst C dL_isBlended_22 rfl ?_
    refine j_goto (tgt := 27) C dL_isBlended_23 rfl ?_
    exact j_zret C E dL_isBlended_27 rfl (by omega) (by omega) ⟨rfl, tg, ad, bs, ru, se, pf, hd, ca, evs, ln, g, gm, rfl, hX0, ⟨hA, hNt, hH⟩, hM, ⟨hta, htm⟩, by omega⟩
