/-! the law's own: isMoved, isBlended -/
theorem wf_ge : ∀ {l : List Ly}, lysOk l → tot l ≤ sumL wf l
  | [], _ => Int.le_refl _
  | x :: l, h => by
    obtain ⟨⟨a1, a2⟩, ⟨b1, b2⟩, -⟩ := h x List.mem_cons_self
    have ih := wf_ge (l := l) (fun y hy => h y (List.mem_cons_of_mem _ hy))
    have m2 : x.1 * 1 ≤ x.1 * x.2.1 := Int.mul_le_mul_of_nonneg_left (by omega) (by omega)
    unfold tot at ih ⊢
    simp only [sumL, wf] at ih ⊢
    omega
theorem NetL.cnt {g : Nat → Int} {bs : List Bn} (h : NetL g bs) {j : Nat} (hj : j < bs.length) {z : Int} (hz : z = 30 + (j : Int)) : g z.toNat = ((gB bs (j : Int)).2.2.length : Int) := by
  rw [show z.toNat = 30 + j by omega, (h.2.2.1 j hj).2.1.1.1, fl_len]
theorem updN_a {tg : Nat → Nat} {r x a : Nat} (h : a ≠ r) (ha : 1000 ≤ tg a) : 1000 ≤ updN tg r x a := by rw [updN_n h]; exact ha
set_option maxHeartbeats 8000000 in
set_option maxRecDepth 20000 in
theorem c_isMoved (l : Launch) (hfl : l.stackTraces = false) (D : va_G) (cy : Nat → Nat) (σ : Wd) (tg ad : Nat → Nat) (bs : List Bn) (ru : Nat → Int × Int) (se : Int) (pf : Nat → Int) (hd : Hd) (ca : Int) (evs : List Evt) (ln : List Int) (g gm : Nat → Int) (a m : Nat) (hX0 : RX cy σ tg ad bs ru se pf hd ca evs ln) (hA : has σ a (iA cy 2700 g)) (hNt : NetL g bs) (hH : NetH g ru se pf evs.length hd.2.2.2.1 (totB bs)) (hM : has σ m (lA cy 2 gm)) (hta : 1000 ≤ tg a) (htm : 1000 ≤ tg m) (i : Nat) (hi : i < bs.length) (j : Nat) (hj : j < bs.length) (n : Int) (hn : 1 ≤ n ∧ n ≤ 70) : Ct l yL_isMoved cL_isMoved 7 (some .boolean) 9 3 260 D cy [.ref (ad 0), .ref a, vi ((i : Int)), vi ((j : Int)), vi (n)] σ (fun v σ' => v = some (vi 1) ∧ LI cy σ' (ad 0) a m 1) noX := by
  refine ct_start (by decide +kernel) hfl rfl (fun κ e1 e2 e3 C E NH => ?_)
  subst e1 e2 e3
  have C : Cx κ cL_isMoved 7 RL "isMoved" 9 := C
  obtain ⟨-, -, -, -, hc, hs⟩ := id E
  show J κ σ [(0, .ref (ad 0)), (1, .ref a), (2, vi ((i : Int))), (3, vi ((j : Int))), (4, vi (n))] 0 [] 0 0
  have hO := hX0.ok
  have h6 := hO.1
  have hBk := hO.2.1
  have hlb := hO.2.2.1
  have hpf := hO.2.2.2.2.1
  have hTb := totB_in hBk
  obtain ⟨hRu, h2, h3, h4, h5, hPr⟩ := id hH
  have hma : m ≠ a := hM.nk hA rfl
  have kp0 : Keep σ σ (fun y => y = a ∨ y = m) := Keep.rf
  have dm0 : σ.1 = σ.1 := rfl
  have hmemi := gB_mem (bs := bs) (i := (i : Int)) (by omega) (by omega)
  obtain ⟨hcapi, hoki, htci⟩ := hBk _ hmemi
  have hlli := len_lenB hmemi
  have ht0i := tot_0 hoki
  have hcni := (hNt.2.2.1 i hi).1.1
  have hmemj := gB_mem (bs := bs) (i := (j : Int)) (by omega) (by omega)
  obtain ⟨hcapj, hokj, htcj⟩ := hBk _ hmemj
  have hllj := len_lenB hmemj
  have ht0j := tot_0 hokj
  have hcnj := (hNt.2.2.1 j hj).1.1
  refine j_iload_n 2 C dL_isMoved_0 rfl rfl rfl ?_
  refine j_iload_n 3 C dL_isMoved_1 rfl rfl rfl ?_
  refine j_icmp_ne (tgt := 24) C dL_isMoved_2 rfl rfl ⟨by omega, by omega⟩ ⟨by omega, by omega⟩ (fun cc1 => ?_) (fun cc1 => ?_)
  · refine j_aload_n 1 C dL_isMoved_24 rfl rfl rfl ?_
    refine j_iload_n 2 C dL_isMoved_25 rfl rfl rfl ?_
    refine j_callS (st' := []) (As := [.ref a, vi ((i : Int))]) C dL_isMoved_26 rfl m_L_113 rfl rfl (c_within (kL κ) hfl (kD κ) (kc κ) σ a g hA bs hNt i (by omega)) rfl (by omega) (by omega) (by omega) (fun _ _ hx => hx.elim) (fun v3 τ2 hp4 => ?_)
    obtain ⟨rfl, hs9⟩ := hp4
    replace hs9 := hs9.symm
    subst hs9
    show J κ σ [(0, .ref (ad 0)), (1, .ref a), (2, vi ((i : Int))), (3, vi ((j : Int))), (4, vi (n))] 29 [vi ((tot (gB bs (i : Int)).2.2))] _ _
    refine j_iload 4 C dL_isMoved_29 rfl rfl ?_
    refine j_icmp_lt (tgt := 59) C dL_isMoved_31 rfl rfl ⟨by omega, by omega⟩ ⟨by omega, by omega⟩ (fun cc5 => ?_) (fun cc5 => ?_)
    · refine j_aload_n 0 C dL_isMoved_59 rfl rfl rfl ?_
      refine j_iload_n 2 C dL_isMoved_60 rfl rfl rfl ?_
      refine j_iload_n 3 C dL_isMoved_61 rfl rfl rfl ?_
      refine j_iload 4 C dL_isMoved_62 rfl rfl ?_
      refine j_callSH (st' := []) (As := [.ref (ad 0), vi ((i : Int)), vi ((j : Int)), vi (n)]) C dL_isMoved_64 rfl m_L_169 rfl rfl (W_transferB2 (kL κ) hfl (kD κ) (kc κ) σ tg ad bs ru se pf hd ca evs ln hX0 i hi j hj n ⟨by omega, by omega⟩ ⟨by omega, by omega, by omega⟩ (by omega)) rfl (by omega) (by omega) (by omega) (fun _ _ hx => hx.elim) (fun v7 τ6 hp8 => ?_)
      obtain ⟨rfl, hs9⟩ := hp8
      replace hs9 := hs9.symm
      subst hs9
      show J κ σ [(0, .ref (ad 0)), (1, .ref a), (2, vi ((i : Int))), (3, vi ((j : Int))), (4, vi (n))] 67 [vi ((-900003))] _ _
      refine j_ldc (z := (-900003)) C dL_isMoved_67 rfl kc_L_44 ?_
      refine j_icmp_ne (tgt := 76) C dL_isMoved_69 rfl rfl ⟨by omega, by omega⟩ ⟨by omega, by omega⟩ (fun cc9 => absurd cc9 (by decide)) (fun _ => ?_)
      refine j_iconst C dL_isMoved_72 rfl ?_
      refine j_goto (tgt := 77) C dL_isMoved_73 rfl ?_
      exact j_zret C E dL_isMoved_77 rfl (by omega) (by omega) ⟨rfl, tg, ad, bs, ru, se, pf, hd, ca, evs, ln, g, gm, rfl, hX0, ⟨hA, hNt, hH⟩, hM, ⟨hta, htm⟩, by omega⟩
    · refine j_aload_n 1 C dL_isMoved_34 rfl rfl rfl ?_
      refine j_iload_n 3 C dL_isMoved_35 rfl rfl rfl ?_
      refine j_callS (st' := []) (As := [.ref a, vi ((j : Int))]) C dL_isMoved_36 rfl m_L_113 rfl rfl (c_within (kL κ) hfl (kD κ) (kc κ) σ a g hA bs hNt j (by omega)) rfl (by omega) (by omega) (by omega) (fun _ _ hx => hx.elim) (fun v11 τ10 hp12 => ?_)
      obtain ⟨rfl, hs9⟩ := hp12
      replace hs9 := hs9.symm
      subst hs9
      show J κ σ [(0, .ref (ad 0)), (1, .ref a), (2, vi ((i : Int))), (3, vi ((j : Int))), (4, vi (n))] 39 [vi ((tot (gB bs (j : Int)).2.2))] _ _
      refine j_iload 4 C dL_isMoved_39 rfl rfl ?_
      refine j_iadd C dL_isMoved_41 rfl ?_
      refine j_aload_n 1 C dL_isMoved_42 rfl rfl rfl ?_
      refine j_bipush C dL_isMoved_43 rfl (by decide) ?_
      refine j_iload_n 3 C dL_isMoved_45 rfl rfl rfl ?_
      refine j_iadd C dL_isMoved_46 rfl ?_
      refine j_iald C dL_isMoved_47 rfl hA ⟨by omega, by omega⟩ (by omega) ((congrArg g (show (10 + (j : Int)).toNat = 10 + j by omega)).trans hcnj) ?_
      refine j_icmp_gt (tgt := 59) C dL_isMoved_48 rfl rfl ⟨by omega, by omega⟩ ⟨by omega, by omega⟩ (fun cc13 => ?_) (fun cc13 => ?_)
      · refine j_aload_n 0 C dL_isMoved_59 rfl rfl rfl ?_
        refine j_iload_n 2 C dL_isMoved_60 rfl rfl rfl ?_
        refine j_iload_n 3 C dL_isMoved_61 rfl rfl rfl ?_
        refine j_iload 4 C dL_isMoved_62 rfl rfl ?_
        refine j_callSH (st' := []) (As := [.ref (ad 0), vi ((i : Int)), vi ((j : Int)), vi (n)]) C dL_isMoved_64 rfl m_L_169 rfl rfl (W_transferB2 (kL κ) hfl (kD κ) (kc κ) σ tg ad bs ru se pf hd ca evs ln hX0 i hi j hj n ⟨by omega, by omega⟩ ⟨by omega, by omega, by omega⟩ (by omega)) rfl (by omega) (by omega) (by omega) (fun _ _ hx => hx.elim) (fun v15 τ14 hp16 => ?_)
        obtain ⟨rfl, hs9⟩ := hp16
        replace hs9 := hs9.symm
        subst hs9
        show J κ σ [(0, .ref (ad 0)), (1, .ref a), (2, vi ((i : Int))), (3, vi ((j : Int))), (4, vi (n))] 67 [vi ((-900003))] _ _
        refine j_ldc (z := (-900003)) C dL_isMoved_67 rfl kc_L_44 ?_
        refine j_icmp_ne (tgt := 76) C dL_isMoved_69 rfl rfl ⟨by omega, by omega⟩ ⟨by omega, by omega⟩ (fun cc17 => absurd cc17 (by decide)) (fun _ => ?_)
        refine j_iconst C dL_isMoved_72 rfl ?_
        refine j_goto (tgt := 77) C dL_isMoved_73 rfl ?_
        exact j_zret C E dL_isMoved_77 rfl (by omega) (by omega) ⟨rfl, tg, ad, bs, ru, se, pf, hd, ca, evs, ln, g, gm, rfl, hX0, ⟨hA, hNt, hH⟩, hM, ⟨hta, htm⟩, by omega⟩
      · refine j_aload_n 1 C dL_isMoved_51 rfl rfl rfl ?_
        refine j_iconst C dL_isMoved_52 rfl ?_
        refine j_iald C dL_isMoved_53 rfl hA ⟨by omega, by omega⟩ (by omega) h2 ?_
        refine j_bipush C dL_isMoved_54 rfl (by decide) ?_
        refine j_icmp_ne (tgt := 78) C dL_isMoved_56 rfl rfl ⟨by omega, by omega⟩ ⟨by omega, by omega⟩ (fun cc18 => ?_) (fun cc18 => ?_)
        · refine j_aload_n 1 C dL_isMoved_78 rfl rfl rfl ?_
          refine j_bipush C dL_isMoved_79 rfl (by decide) ?_
          refine j_iload_n 3 C dL_isMoved_81 rfl rfl rfl ?_
          refine j_iadd C dL_isMoved_82 rfl ?_
          refine j_iald C dL_isMoved_83 rfl hA ⟨by omega, by omega⟩ (by omega) ((congrArg g (show (30 + (j : Int)).toNat = 30 + j by omega)).trans ((hNt.2.2.1 j hj).2.1.1.1.trans (by rw [fl_len]))) ?_
          refine j_istore (lv' := [(0, .ref (ad 0)), (1, .ref a), (2, vi ((i : Int))), (3, vi ((j : Int))), (4, vi (n)), (5, vi (((gB bs (j : Int)).2.2.length : Int)))]) [1, 2, 3, 4, 5, 0] C dL_isMoved_84 rfl rfl rfl ?_
          refine j_aload_n 1 C dL_isMoved_86 rfl rfl rfl ?_
          refine j_iload_n 2 C dL_isMoved_87 rfl rfl rfl ?_
          refine j_iload 4 C dL_isMoved_88 rfl rfl ?_
          refine j_iload_n 3 C dL_isMoved_90 rfl rfl rfl ?_
          have hij : i ≠ j := by omega
          obtain ⟨hev1, hev2, hev3⟩ := trans_ev hO (by omega) hi hj hij (n := n) ⟨by omega, by omega⟩ (by omega)
          have hl80 := (hev1.2.2.2.2.2.1 rfl).2
          rw [List.length_append] at hl80
          have hl90 : (gB bs (j : Int)).2.2.length + (takeL n (fl (gB bs (i : Int)))).length ≤ 90 := Nat.le_trans hl80 (by decide)
          refine j_callS (st' := []) (As := [.ref a, vi ((i : Int)), vi (n), vi ((j : Int))]) C dL_isMoved_91 rfl m_L_124 rfl rfl (c_outTo (kL κ) hfl (kD κ) (kc κ) σ a g hA bs hNt pf hPr i hi n ⟨by omega, by omega, by omega⟩ j hj hij hl90) rfl (by omega) (by omega) (by omega) (fun _ _ hx => hx.elim) (fun v21 τ20 hp22 => ?_)
          obtain ⟨r19, s19, G19, rfl, hr19, ⟨e019, e119, e219⟩, hG19, hN19, hS19, hrn19, hk19, hd19⟩ := hp22
          show J κ τ20 [(0, .ref (ad 0)), (1, .ref a), (2, vi ((i : Int))), (3, vi ((j : Int))), (4, vi (n)), (5, vi (((gB bs (j : Int)).2.2.length : Int)))] 94 [.ref r19] _ _
          have hnw19 : r19 ∉ σ.1 := fun z => hrn19 ((fun _ hy => hy) _ z)
          have hra19 : r19 ≠ a := fun e => hnw19 (by rw [e]; exact hA.1)
          have hrm19 : m ≠ r19 := fun e => hnw19 (by rw [← e]; exact hM.1)
          have hkk19 := kp0.tr (hk19.mono (fun _ z => Or.inl z))
          have hmm19 : ∀ y, y ∈ σ.1 → y ∈ τ20.1 := fun y hy => by rw [hd19]; exact List.mem_append_left _ ((fun _ hy => hy) y hy)
          have hqm19 := hk19 _ _ hM hma
          have hNX : NetL G19 (apB (gradeF ru se) bs (116, (i : Int), (j : Int), n, 0, 0, 0)) := by
            rw [hev2]
            exact hN19
          have hto : lysOk (takeL n (fl (gB bs (i : Int)))) := take_ok _ _ (fl_ok hoki)
          have hwg := wf_ge hto
          have htf : tot (fl (gB bs (i : Int))) = tot (gB bs (i : Int)).2.2 := sum_fl _ _
          have htt := take_tot (fl (gB bs (i : Int))) n (fl_ok hoki) (by omega) (by omega)
          have hsi := (sums_in hpf (fl_ok hoki) (by omega) n).2
          refine j_astore (lv' := [(0, .ref (ad 0)), (1, .ref a), (2, vi ((i : Int))), (3, vi ((j : Int))), (4, vi (n)), (5, vi (((gB bs (j : Int)).2.2.length : Int))), (6, .ref r19)]) [1, 2, 3, 4, 5, 6, 0] C dL_isMoved_94 rfl rfl rfl ?_
          refine j_aload_n 1 C dL_isMoved_96 rfl rfl rfl ?_
          refine j_bipush C dL_isMoved_97 rfl (by decide) ?_
          have dmX : τ20.1 = τ20.1 := rfl
          have hHn23 := hH.same hS19
          refine j_callS (st' := []) (As := [.ref a, vi (116)]) C dL_isMoved_99 rfl m_L_142 rfl rfl (c_note (kL κ) hfl (kD κ) (kc κ) τ20 a G19 hG19 (apB (gradeF ru se) bs (116, (i : Int), (j : Int), n, 0, 0, 0)) hNX hev3.2.1 evs.length hHn23.2.1 (by omega) hHn23.2.2.1 ⟨by rw [hHn23.2.2.2.2.1]; omega, by rw [hHn23.2.2.2.2.1]; omega⟩ 116) rfl (by omega) (by omega) (by omega) (fun _ _ hx => hx.elim) (fun v25 τ24 hp26 => ?_)
          obtain ⟨rfl, G23, hG23, ho23, hv23, hk23, hd23⟩ := hp26
          show J κ τ24 [(0, .ref (ad 0)), (1, .ref a), (2, vi ((i : Int))), (3, vi ((j : Int))), (4, vi (n)), (5, vi (((gB bs (j : Int)).2.2.length : Int))), (6, .ref r19)] 102 [] _ _
          have hkk23 := hkk19.tr (hk23.mono (fun _ z => Or.inl z))
          have hdd23 := hd23.trans (dmX)
          have hqr1923 := hk23 _ _ hr19 hra19
          have hqm23 := hk23 _ _ hqm19 hma
          have hN23 : NetL G23 (apB (gradeF ru se) bs (116, (i : Int), (j : Int), n, 0, 0, 0)) := hNX.cong2 (fun q h1 h2 => ho23 q h2 (by omega) (by omega) (by omega))
          have hH23 := hHn23.note ho23 hv23
          have hmn23 : ∀ y, y ∈ σ.1 → y ∈ τ24.1 := fun y hy => by rw [hd23]; exact hmm19 y hy
          refine j_aload_n 0 C dL_isMoved_102 rfl rfl rfl ?_
          refine j_iload_n 2 C dL_isMoved_103 rfl rfl rfl ?_
          refine j_iload_n 3 C dL_isMoved_104 rfl rfl rfl ?_
          refine j_iload 4 C dL_isMoved_105 rfl rfl ?_
          obtain ⟨tg2, htg2⟩ : ∃ f : Nat → Nat, (updN tg r19 4000) = f := ⟨_, rfl⟩
          have hT2 : ∀ y, y ∈ σ.1 → tg2 y = tg y := fun y hy => by rw [← htg2, updN_n (fun e => hnw19 (by rw [← e]; exact hy))]
          have htr0 : 1000 ≤ tg2 r19 := by rw [← htg2]; unfold updN; repeat (first | omega | split)
          have hta2 : 1000 ≤ tg2 a := by rw [hT2 a hA.1]; exact hta
          have htm2 : 1000 ≤ tg2 m := by rw [hT2 m hM.1]; exact htm
          have hX27 := (hX0.retag hT2 (fun _ _ => rfl)).keep hkk23 (fun y _ z => z.elim (fun z => by rw [z]; exact hta2) (fun z => by rw [z]; exact htm2))
          refine j_callSH (st' := []) (As := [.ref (ad 0), vi ((i : Int)), vi ((j : Int)), vi (n)]) C dL_isMoved_107 rfl m_L_169 rfl rfl (W_transfer (kL κ) hfl (kD κ) (kc κ) τ24 tg2 ad bs ru se pf hd ca evs ln hX27 i hi j hj hij n ⟨by omega, by omega⟩ ⟨by omega, by omega⟩ (by omega) (by omega) (by omega)) rfl (by omega) (by omega) (by omega) (fun _ _ hx => hx.elim) (fun v29 τ28 hp30 => ?_)
          obtain ⟨rfl, tg', ad', hR9, hT9, hA9, hK9, hM9⟩ := hp30
          show J κ τ28 [(0, .ref (ad 0)), (1, .ref a), (2, vi ((i : Int))), (3, vi ((j : Int))), (4, vi (n)), (5, vi (((gB bs (j : Int)).2.2.length : Int))), (6, .ref r19)] 110 [vi ((((gB (apB (gradeF ru se) bs (116, (i : Int), (j : Int), n, 0, 0, 0)) (j : Int)).2.2.length : Int) - ((gB bs (j : Int)).2.2.length : Int)))] _ _
          have h9a := hK9 _ _ hG23 (fun z => by have z1 : tg2 a < 1000 := z; omega)
          have h9r19 := hK9 _ _ hqr1923 (fun z => by have z1 : tg2 r19 < 1000 := z; omega)
          have h9m := hK9 _ _ hqm23 (fun z => by have z1 : tg2 m < 1000 := z; omega)
          have hta9 : 1000 ≤ tg' a := by rw [hT9 a hG23.1]; exact hta2
          have htm9 : 1000 ≤ tg' m := by rw [hT9 m hqm23.1]; exact htm2
          have hl9j : (gB (apB (gradeF ru se) bs (116, (i : Int), (j : Int), n, 0, 0, 0)) (j : Int)).2.2.length ≤ 90 := (hN23.2.2.1 j (by rw [apB_len]; omega)).2.1.2
          refine j_aload_n 1 C dL_isMoved_110 rfl rfl rfl ?_
          refine j_bipush C dL_isMoved_111 rfl (by decide) ?_
          refine j_iload_n 3 C dL_isMoved_113 rfl rfl rfl ?_
          refine j_iadd C dL_isMoved_114 rfl ?_
          refine j_iald C dL_isMoved_115 rfl h9a ⟨by omega, by omega⟩ (by omega) (hN23.cnt (j := j) (by rw [apB_len]; omega) (z := 30 + (j : Int)) (by omega)) ?_
          refine j_iload 5 C dL_isMoved_116 rfl rfl ?_
          refine j_isub C dL_isMoved_118 rfl ?_
          refine j_icmp_ne (tgt := 133) C dL_isMoved_119 rfl rfl ⟨by omega, by omega⟩ ⟨by omega, by omega⟩ (fun cc31 => ?_) (fun cc31 => ?_)
          · exact absurd cc31 (fun q => q rfl)
          · refine j_aload 6 C dL_isMoved_122 rfl rfl ?_
            refine j_iconst C dL_isMoved_124 rfl ?_
            refine j_iald C dL_isMoved_125 rfl h9r19 ⟨by omega, by omega⟩ (by omega) e119 ?_
            refine j_if_le (tgt := 133) C dL_isMoved_126 rfl rfl ⟨by omega, by omega⟩ (fun cc32 => ?_) (fun cc32 => ?_)
            · exact absurd cc32 (by omega)
            · refine j_iconst C dL_isMoved_129 rfl ?_
              refine j_goto (tgt := 134) C dL_isMoved_130 rfl ?_
              exact j_zret C E dL_isMoved_134 rfl (by omega) (by omega) ⟨rfl, tg', ad', _, _, _, _, _, _, _, _, _, _, hA9, hR9, ⟨h9a, hN23, by rw [List.length_append, hdF_fu]; exact hH23⟩, h9m, ⟨hta9, htm9⟩, by rw [apB_len]; omega⟩
        · refine j_aload_n 0 C dL_isMoved_59 rfl rfl rfl ?_
          refine j_iload_n 2 C dL_isMoved_60 rfl rfl rfl ?_
          refine j_iload_n 3 C dL_isMoved_61 rfl rfl rfl ?_
          refine j_iload 4 C dL_isMoved_62 rfl rfl ?_
          refine j_callSH (st' := []) (As := [.ref (ad 0), vi ((i : Int)), vi ((j : Int)), vi (n)]) C dL_isMoved_64 rfl m_L_169 rfl rfl (W_transferB2 (kL κ) hfl (kD κ) (kc κ) σ tg ad bs ru se pf hd ca evs ln hX0 i hi j hj n ⟨by omega, by omega⟩ ⟨by omega, by omega, by omega⟩ (by omega)) rfl (by omega) (by omega) (by omega) (fun _ _ hx => hx.elim) (fun v34 τ33 hp35 => ?_)
          obtain ⟨rfl, hs9⟩ := hp35
          replace hs9 := hs9.symm
          subst hs9
          show J κ σ [(0, .ref (ad 0)), (1, .ref a), (2, vi ((i : Int))), (3, vi ((j : Int))), (4, vi (n))] 67 [vi ((-900003))] _ _
          refine j_ldc (z := (-900003)) C dL_isMoved_67 rfl kc_L_44 ?_
          refine j_icmp_ne (tgt := 76) C dL_isMoved_69 rfl rfl ⟨by omega, by omega⟩ ⟨by omega, by omega⟩ (fun cc36 => absurd cc36 (by decide)) (fun _ => ?_)
          refine j_iconst C dL_isMoved_72 rfl ?_
          refine j_goto (tgt := 77) C dL_isMoved_73 rfl ?_
          exact j_zret C E dL_isMoved_77 rfl (by omega) (by omega) ⟨rfl, tg, ad, bs, ru, se, pf, hd, ca, evs, ln, g, gm, rfl, hX0, ⟨hA, hNt, hH⟩, hM, ⟨hta, htm⟩, by omega⟩
  · refine j_aload_n 0 C dL_isMoved_5 rfl rfl rfl ?_
    refine j_iload_n 2 C dL_isMoved_6 rfl rfl rfl ?_
    refine j_iload_n 3 C dL_isMoved_7 rfl rfl rfl ?_
    refine j_iload 4 C dL_isMoved_8 rfl rfl ?_
    refine j_callSH (st' := []) (As := [.ref (ad 0), vi ((i : Int)), vi ((j : Int)), vi (n)]) C dL_isMoved_10 rfl m_L_169 rfl rfl (W_transferB1 (kL κ) hfl (kD κ) (kc κ) σ tg ad bs ru se pf hd ca evs ln hX0 i hi j hj n ⟨by omega, by omega⟩ (by omega)) rfl (by omega) (by omega) (by omega) (fun _ _ hx => hx.elim) (fun v38 τ37 hp39 => ?_)
    obtain ⟨rfl, hs9⟩ := hp39
    replace hs9 := hs9.symm
    subst hs9
    show J κ σ [(0, .ref (ad 0)), (1, .ref a), (2, vi ((i : Int))), (3, vi ((j : Int))), (4, vi (n))] 13 [vi ((-900002))] _ _
    refine j_ldc (z := (-900002)) C dL_isMoved_13 rfl kc_L_20 ?_
    refine j_icmp_ne (tgt := 22) C dL_isMoved_15 rfl rfl ⟨by omega, by omega⟩ ⟨by omega, by omega⟩ (fun cc40 => absurd cc40 (by decide)) (fun _ => ?_)
    refine j_iconst C dL_isMoved_18 rfl ?_
    refine j_goto (tgt := 23) C dL_isMoved_19 rfl ?_
    exact j_zret C E dL_isMoved_23 rfl (by omega) (by omega) ⟨rfl, tg, ad, bs, ru, se, pf, hd, ca, evs, ln, g, gm, rfl, hX0, ⟨hA, hNt, hH⟩, hM, ⟨hta, htm⟩, by omega⟩
