/-! the law's own: out -/
theorem fl_ne {b : Bn} (h : 1 ≤ tot b.2.2) : ∃ (x : Ly) (r : List Ly), fl b = x :: r := by
  cases hf : fl b with
  | nil =>
    have e := sum_fl (fun x => x.1) b
    rw [hf] at e
    unfold tot at h
    simp only [sumL] at e
    omega
  | cons x r => exact ⟨x, r, rfl⟩
theorem Rows.h0 {g : Nat → Int} {b : Nat} {x : Ly} {l : List Ly} (h : Rows g b (x :: l)) {z : Int} (hz : z = 260 + 400 * (b : Int)) : g z.toNat = x.1 := (h.k0 (k := 0) (by rw [List.length_cons]; omega) (z := z) (by omega)).trans rfl
theorem Rows.h1 {g : Nat → Int} {b : Nat} {x : Ly} {l : List Ly} (h : Rows g b (x :: l)) {z : Int} (hz : z = 260 + 400 * (b : Int) + 1) : g z.toNat = x.2.1 := (h.k1 (k := 0) (by rw [List.length_cons]; omega) (z := z) (by omega)).trans rfl
theorem Rows.h2 {g : Nat → Int} {b : Nat} {x : Ly} {l : List Ly} (h : Rows g b (x :: l)) {z : Int} (hz : z = 260 + 400 * (b : Int) + 2) : g z.toNat = x.2.2.1 := (h.k2 (k := 0) (by rw [List.length_cons]; omega) (z := z) (by omega)).trans rfl
theorem Rows.h3 {g : Nat → Int} {b : Nat} {x : Ly} {l : List Ly} (h : Rows g b (x :: l)) {z : Int} (hz : z = 260 + 400 * (b : Int) + 3) : g z.toNat = x.2.2.2 := (h.k3 (k := 0) (by rw [List.length_cons]; omega) (z := z) (by omega)).trans rfl
theorem outB_com {bs : List Bn} {i j : Nat} (hi : i < bs.length) (hj : j < bs.length) (hij : i ≠ j) (l : List Ly) (n : Int) : outB (setL bs (j : Int) l) (i : Int) n = setL (outB bs (i : Int) n) (j : Int) l := by
  have e := gB_set (bs := bs) (l := l) (i := (j : Int)) (j := (i : Int)) (by omega) (by omega) (by omega)
  rw [if_neg (by omega)] at e
  unfold outB
  rw [e, setL_com (by omega) (by omega) (by omega) (by omega) (by omega)]
theorem setL_self {bs : List Bn} {i : Nat} (hi : i < bs.length) : setL bs (i : Int) (gB bs (i : Int)).2.2 = bs := by
  have h := outB_00 hi (Int.le_refl 0)
  unfold outB at h
  rw [dropL_0 (Int.le_refl 0), ofl_fl] at h
  exact h
theorem outX_0 {bs : List Bn} {i j : Nat} (hi : i < bs.length) (hj : j < bs.length) {n : Int} (hn : n ≤ 0) : outX bs i n j = bs := by
  unfold outX
  rw [outB_00 hi hn, takeL_0 hn, List.append_nil, setL_self hj]
theorem gB_two {bs : List Bn} {i j : Nat} (hi : i < bs.length) (hj : j < bs.length) (hij : i ≠ j) (a b : List Ly) : gB (setL (setL bs (j : Int) a) (i : Int) b) (i : Int) = ((gB bs (i : Int)).1, (gB bs (i : Int)).2.1, b) ∧ gB (setL (setL bs (j : Int) a) (i : Int) b) (j : Int) = ((gB bs (j : Int)).1, (gB bs (j : Int)).2.1, a) := by
  have e1 := gB_set (bs := setL bs (j : Int) a) (l := b) (i := (i : Int)) (j := (i : Int)) (by omega) (by rw [setL_len]; omega) (by omega)
  have e2 := gB_set (bs := setL bs (j : Int) a) (l := b) (i := (i : Int)) (j := (j : Int)) (by omega) (by rw [setL_len]; omega) (by omega)
  have e3 := gB_set (bs := bs) (l := a) (i := (j : Int)) (j := (i : Int)) (by omega) (by omega) (by omega)
  have e4 := gB_set (bs := bs) (l := a) (i := (j : Int)) (j := (j : Int)) (by omega) (by omega) (by omega)
  rw [if_pos rfl] at e1 e4
  rw [if_neg (by omega)] at e2 e3
  exact ⟨by rw [e1, e3], by rw [e2, e4]⟩
theorem outX_step {bs : List Bn} {i j : Nat} (hi : i < bs.length) (hj : j < bs.length) (hij : i ≠ j) {n : Int} (hn : 1 ≤ n) {x : Ly} {r : List Ly} (hf : fl (gB bs (i : Int)) = x :: r) : outX (setL (setL bs (j : Int) ((gB bs (j : Int)).2.2 ++ [(min n x.1, x.2)])) (i : Int) (ofl (gB bs (i : Int)).2.1 (restL n x r))) i (n - min n x.1) j = outX bs i n j := by
  obtain ⟨e1, e2⟩ := gB_two hi hj hij ((gB bs (j : Int)).2.2 ++ [(min n x.1, x.2)]) (ofl (gB bs (i : Int)).2.1 (restL n x r))
  have e3 : setL (setL bs (j : Int) ((gB bs (j : Int)).2.2 ++ [(min n x.1, x.2)])) (i : Int) (ofl (gB bs (i : Int)).2.1 (restL n x r)) = setL (setL bs (i : Int) (ofl (gB bs (i : Int)).2.1 (restL n x r))) (j : Int) ((gB bs (j : Int)).2.2 ++ [(min n x.1, x.2)]) := setL_com (by omega) (by omega) (by omega) (by omega) (by omega)
  unfold outX
  rw [e1, e2, e3, outB_com (by rw [setL_len]; exact hi) (by rw [setL_len]; exact hj) hij, outB_step hi hn hf, setL_setL (by omega) (by rw [outB_len]; omega), fl_ofl, hf]
  show setL (outB bs (i : Int) n) (j : Int) ((gB bs (j : Int)).2.2 ++ [(min n x.1, x.2)] ++ takeL (n - min n x.1) (restL n x r)) = _
  rw [List.append_assoc, ← take_step hn]
  rfl
theorem part_min {a b p : Int} (h : p = a ∧ a < b ∨ p = b ∧ b ≤ a) : p = min a b := by omega
set_option maxHeartbeats 8000000 in
set_option maxRecDepth 20000 in
theorem c_out0 (l : Launch) (hfl : l.stackTraces = false) (D : va_G) (cy : Nat → Nat) (σ : Wd) (a : Nat) (g : Nat → Int) (hA : has σ a (iA cy 2700 g)) (bs : List Bn) (hNt : NetL g bs) (pf : Nat → Int) (hPr : ∀ k : Nat, 1 ≤ k → k ≤ 4 → g (70 + k) = pf k) (i : Nat) (hi : i < bs.length) (n : Int) (hn : 0 ≤ n ∧ n ≤ tot (gB bs (i : Int)).2.2 ∧ n ≤ 1000000) : Ct l yL_out cL_out 8 (some (.array .int)) 2 1 3 D cy [.ref a, vi ((i : Int)), vi (n), vi ((-1))] σ (fun v σ' => ∃ (r : Nat) (s G : Nat → Int), v = some (.ref r) ∧ has σ' r (iA cy 3 s) ∧ (s 0 = sumL (cf pf) (takeL n (fl (gB bs (i : Int)))) ∧ s 1 = sumL wf (takeL n (fl (gB bs (i : Int)))) ∧ s 2 = sumL df (takeL n (fl (gB bs (i : Int))))) ∧ has σ' a (iA cy 2700 G) ∧ NetL G (outB bs (i : Int) n) ∧ SameH g G ∧ r ∉ σ.1 ∧ Keep σ σ' (fun y => y = a) ∧ σ'.1 = σ.1 ++ [r]) noX := by
  refine ct_start (by decide +kernel) hfl rfl (fun κ e1 e2 e3 C E NH => ?_)
  subst e1 e2 e3
  have C : Cx κ cL_out 8 RL "out" 2 := C
  obtain ⟨-, -, -, -, hc, hs⟩ := id E
  show J κ σ [(0, .ref a), (1, vi ((i : Int))), (2, vi (n)), (3, vi ((-1)))] 0 [] 0 0
  have h6 := hNt.2.1
  have kpn : Keep σ σ (fun _ => False) := Keep.rf
  have dmn : σ.1 = σ.1 := rfl
  refine j_iconst C dL_out_0 rfl ?_
  refine j_newI C dL_out_1 rfl aw_int ⟨by omega, by omega⟩ (by omega) (by omega) (k' := 1) (n' := 3) (by first | rfl | omega) (by first | rfl | omega) (fun r τ1 nq3 ee2 => ?_)
  have u4 := hA.old' ee2 nq3
  have u5 : has τ1 r (iA (kc κ) 3 (fun _ => 0)) := has.fresh' ee2
  have kp6 := kpn.new ee2 nq3
  have dm7 := (dom_new ee2).trans (congrArg (· ++ [r]) dmn)
  have hrn : r ∉ σ.1 := nq3
  refine j_astore (lv' := [(0, .ref a), (1, vi ((i : Int))), (2, vi (n)), (3, vi ((-1))), (4, .ref r)]) [1, 2, 3, 4, 0] C dL_out_3 rfl rfl rfl ?_
  refine j_iload_n 2 C dL_out_5 rfl rfl rfl ?_
  refine j_istore (lv' := [(0, .ref a), (1, vi ((i : Int))), (2, vi (n)), (3, vi ((-1))), (4, .ref r), (5, vi (n))]) [1, 2, 3, 4, 5, 0] C dL_out_6 rfl rfl rfl ?_
  have hra : r ≠ a := fun e => hrn (by rw [e]; exact hA.1)
  have lp : ∀ (N : Nat) (left : Int) (σ1 : Wd) (G : Nat → Int) (s : Nat → Int) (bs1 : List Bn), has σ1 a (iA (kc κ) 2700 G) → has σ1 r (iA (kc κ) 3 s) → NetL G bs1 → bs1.length = bs.length → 0 ≤ left ∧ left ≤ tot (gB bs1 (i : Int)).2.2 ∧ left ≤ 1000000 → outB bs1 (i : Int) left = outB bs (i : Int) n → s 0 + sumL (cf pf) (takeL left (fl (gB bs1 (i : Int)))) = sumL (cf pf) (takeL n (fl (gB bs (i : Int)))) → s 1 + sumL wf (takeL left (fl (gB bs1 (i : Int)))) = sumL wf (takeL n (fl (gB bs (i : Int)))) → s 2 + sumL df (takeL left (fl (gB bs1 (i : Int)))) = sumL df (takeL n (fl (gB bs (i : Int)))) → SameH g G → Keep τ1 σ1 (fun y => y = a ∨ y = r) → σ1.1 = τ1.1 → left.toNat < N → J κ σ1 [(0, .ref a), (1, vi ((i : Int))), (2, vi (n)), (3, vi ((-1))), (4, .ref r), (5, vi (left))] 8 [] 1 3 := by
    intro N
    induction N with
    | zero => intro left σ1 G s bs1 hG hS hN1 hb1 hlf hfin hs0 hs1 hs2 hsm hk1 hd1 hN; exact absurd hN (Nat.not_lt_zero _)
    | succ N ih =>
      intro left σ1 G s bs1 hG hS hN1 hb1 hlf hfin hs0 hs1 hs2 hsm hk1 hd1 hN
      refine j_iload 5 C dL_out_8 rfl rfl ?_
      refine j_if_le (tgt := 154) C dL_out_10 rfl rfl ⟨by omega, by omega⟩ (fun cc8 => ?_) (fun cc8 => ?_)
      · have hf9 : outB bs1 (i : Int) left = bs1 := outB_00 (by omega) (by omega)
        rw [hf9] at hfin
        rw [takeL_0 (by omega)] at hs0
        rw [takeL_0 (by omega)] at hs1
        rw [takeL_0 (by omega)] at hs2
        refine j_aload 4 C dL_out_154 rfl rfl ?_
        exact j_aret C E dL_out_156 (Or.inr ⟨_, rfl⟩) (by omega) (by omega) ⟨r, s, G, rfl, hS, ⟨(by have e9 : s 0 + 0 = _ := hs0; rw [← e9, Int.add_zero]), (by have e9 : s 1 + 0 = _ := hs1; rw [← e9, Int.add_zero]), (by have e9 : s 2 + 0 = _ := hs2; rw [← e9, Int.add_zero])⟩, hG, (by rw [← hfin]; exact hN1), hsm, hrn, (kp6.mono (fun _ z => z.elim)).tr2 hk1 (fun y z => z.elim Or.inl (fun z => Or.inr (by rw [z]; exact hrn))), hd1.trans dm7⟩
      · obtain ⟨x, rr, hf⟩ := fl_ne (b := gB bs1 (i : Int)) (by omega)
        obtain ⟨⟨hcp, hmz⟩, ⟨hR, hl90⟩, hok⟩ := hN1.2.2.1 i (by omega)
        have hle := fl_len (gB bs1 (i : Int))
        have htf := sum_fl (fun x => x.1) (gB bs1 (i : Int))
        have hfo := fl_ok hok
        rw [hf] at hR hle htf hfo
        rw [List.length_cons] at hle
        have hxo := hfo x List.mem_cons_self
        obtain ⟨⟨hx1, hx2⟩, hx3, hx4, hx5, hx6⟩ := id hxo
        have htt : tot (x :: rr) = tot (gB bs1 (i : Int)).2.2 := htf
        rw [hf] at hs0
        rw [hf] at hs1
        rw [hf] at hs2
        have hpr : G (70 + x.2.2.2.toNat) = pf x.2.2.2.toNat := (hsm _ (by omega) (by omega)).trans (hPr _ (by omega) (by omega))
        refine j_iload_n 1 C dL_out_13 rfl rfl rfl ?_
        refine j_iconst C dL_out_14 rfl ?_
        refine j_callS (st' := []) (As := [vi ((i : Int)), vi (0)]) C dL_out_15 rfl m_L_102 rfl rfl (c_at (kL κ) hfl (kD κ) (kc κ) σ1 (i : Int) 0) rfl (by omega) (by omega) (by omega) (fun _ _ hx => hx.elim) (fun v10 τ9 hp11 => ?_)
        obtain ⟨rfl, hs9⟩ := hp11
        replace hs9 := hs9.symm
        subst hs9
        show J κ σ1 [(0, .ref a), (1, vi ((i : Int))), (2, vi (n)), (3, vi ((-1))), (4, .ref r), (5, vi (left))] 18 [vi ((260 + 400 * (i : Int) + 4 * 0))] _ _
        refine j_istore (lv' := [(0, .ref a), (1, vi ((i : Int))), (2, vi (n)), (3, vi ((-1))), (4, .ref r), (5, vi (left)), (6, vi ((260 + 400 * (i : Int) + 4 * 0)))]) [1, 2, 3, 4, 5, 6, 0] C dL_out_18 rfl rfl rfl ?_
        have main : ∀ part : Int, part = min left x.1 → J κ σ1 [(0, .ref a), (1, vi ((i : Int))), (2, vi (n)), (3, vi ((-1))), (4, .ref r), (5, vi (left)), (6, vi ((260 + 400 * (i : Int) + 4 * 0)))] 38 [vi part] 1 3 := by
          intro part hpart
          have hpa : 1 ≤ part ∧ part ≤ left ∧ part ≤ x.1 := by omega
          refine j_istore (lv' := [(0, .ref a), (1, vi ((i : Int))), (2, vi (n)), (3, vi ((-1))), (4, .ref r), (5, vi (left)), (6, vi ((260 + 400 * (i : Int) + 4 * 0))), (7, vi (part))]) [1, 2, 3, 4, 5, 6, 7, 0] C dL_out_38 rfl rfl rfl ?_
          refine j_aload 4 C dL_out_40 rfl rfl ?_
          refine j_iconst C dL_out_42 rfl ?_
          refine j_dup2 C dL_out_43 rfl rfl rfl ?_
          obtain ⟨y12, hy12⟩ : ∃ y : Int, s 0 = y := ⟨_, rfl⟩
          refine j_iald C dL_out_44 rfl hS ⟨by omega, by omega⟩ (by omega) hy12 ?_
          refine j_iload 7 C dL_out_45 rfl rfl ?_
          refine j_aload_n 0 C dL_out_47 rfl rfl rfl ?_
          refine j_bipush C dL_out_48 rfl (by decide) ?_
          refine j_aload_n 0 C dL_out_50 rfl rfl rfl ?_
          refine j_iload 6 C dL_out_51 rfl rfl ?_
          refine j_iconst C dL_out_53 rfl ?_
          refine j_iadd C dL_out_54 rfl ?_
          refine j_iald C dL_out_55 rfl hG ⟨by omega, by omega⟩ (by omega) (hR.h3 (z := (260 + 400 * (i : Int) + 4 * 0) + 3) (by omega)) ?_
          refine j_iadd C dL_out_56 rfl ?_
          refine j_iald C dL_out_57 rfl hG ⟨by omega, by omega⟩ (by omega) ((congrArg G (show (70 + x.2.2.2).toNat = 70 + x.2.2.2.toNat by omega)).trans hpr) ?_
          refine j_imul C dL_out_58 rfl ?_
          refine j_iadd C dL_out_59 rfl ?_
          refine j_iast C dL_out_60 rfl hS ⟨by omega, by omega⟩ (by omega) (fun τ13 ee14 => ?_)
          have u15 := hG.ne' ee14 (hA.apart nq3)
          have u16 : has τ13 r (iA (kc κ) 3 (ups s 0 (y12 + (part * (pf x.2.2.2.toNat))))) := hS.self' ee14
          have kp17 := hk1.put ee14 (Or.inr rfl)
          have dm18 := (dom_put ee14).trans hd1
          refine j_aload 4 C dL_out_61 rfl rfl ?_
          refine j_iconst C dL_out_63 rfl ?_
          refine j_dup2 C dL_out_64 rfl rfl rfl ?_
          obtain ⟨y19, hy19⟩ : ∃ y : Int, (ups s 0 (y12 + (part * (pf x.2.2.2.toNat)))) 1 = y := ⟨_, rfl⟩
          refine j_iald C dL_out_65 rfl u16 ⟨by omega, by omega⟩ (by omega) hy19 ?_
          refine j_iload 7 C dL_out_66 rfl rfl ?_
          refine j_aload_n 0 C dL_out_68 rfl rfl rfl ?_
          refine j_iload 6 C dL_out_69 rfl rfl ?_
          refine j_iconst C dL_out_71 rfl ?_
          refine j_iadd C dL_out_72 rfl ?_
          refine j_iald C dL_out_73 rfl u15 ⟨by omega, by omega⟩ (by omega) (hR.h1 (z := (260 + 400 * (i : Int) + 4 * 0) + 1) (by omega)) ?_
          refine j_imul C dL_out_74 rfl ?_
          refine j_iadd C dL_out_75 rfl ?_
          refine j_iast C dL_out_76 rfl u16 ⟨by omega, by omega⟩ (by omega) (fun τ20 ee21 => ?_)
          have u22 := u15.ne' ee21 (hA.apart nq3)
          have u23 : has τ20 r (iA (kc κ) 3 (ups (ups s 0 (y12 + (part * (pf x.2.2.2.toNat)))) 1 (y19 + (part * x.2.1)))) := u16.self' ee21
          have kp24 := kp17.put ee21 (Or.inr rfl)
          have dm25 := (dom_put ee21).trans dm18
          refine j_aload 4 C dL_out_77 rfl rfl ?_
          refine j_iconst C dL_out_79 rfl ?_
          refine j_dup2 C dL_out_80 rfl rfl rfl ?_
          obtain ⟨y26, hy26⟩ : ∃ y : Int, (ups (ups s 0 (y12 + (part * (pf x.2.2.2.toNat)))) 1 (y19 + (part * x.2.1))) 2 = y := ⟨_, rfl⟩
          refine j_iald C dL_out_81 rfl u23 ⟨by omega, by omega⟩ (by omega) hy26 ?_
          refine j_iload 7 C dL_out_82 rfl rfl ?_
          refine j_aload_n 0 C dL_out_84 rfl rfl rfl ?_
          refine j_iload 6 C dL_out_85 rfl rfl ?_
          refine j_iconst C dL_out_87 rfl ?_
          refine j_iadd C dL_out_88 rfl ?_
          refine j_iald C dL_out_89 rfl u22 ⟨by omega, by omega⟩ (by omega) (hR.h2 (z := (260 + 400 * (i : Int) + 4 * 0) + 2) (by omega)) ?_
          refine j_imul C dL_out_90 rfl ?_
          refine j_iadd C dL_out_91 rfl ?_
          refine j_iast C dL_out_92 rfl u23 ⟨by omega, by omega⟩ (by omega) (fun τ27 ee28 => ?_)
          have u29 := u22.ne' ee28 (hA.apart nq3)
          have u30 : has τ27 r (iA (kc κ) 3 (ups (ups (ups s 0 (y12 + (part * (pf x.2.2.2.toNat)))) 1 (y19 + (part * x.2.1))) 2 (y26 + (part * x.2.2.1)))) := u23.self' ee28
          have kp31 := kp24.put ee28 (Or.inr rfl)
          have dm32 := (dom_put ee28).trans dm25
          obtain ⟨s3, hs3⟩ : ∃ f : Nat → Int, (ups (ups (ups s 0 (y12 + (part * (pf x.2.2.2.toNat)))) 1 (y19 + (part * x.2.1))) 2 (y26 + (part * x.2.2.1))) = f := ⟨_, rfl⟩
          have hSS := u30
          rw [hs3] at hSS
          have hv0 : s3 0 = s 0 + part * pf x.2.2.2.toNat := by
            have e9 := hy12
            rw [← hs3, ups_n (by decide), ups_n (by decide), ups_s, ← e9]
          have hv1 : s3 1 = s 1 + part * x.2.1 := by
            have e9 := hy19
            rw [ups_n (by decide)] at e9
            rw [← hs3, ups_n (by decide), ups_s, ← e9]
          have hv2 : s3 2 = s 2 + part * x.2.2.1 := by
            have e9 := hy26
            rw [ups_n (by decide), ups_n (by decide)] at e9
            rw [← hs3, ups_s, ← e9]
          have ht0 : s3 0 + sumL (cf pf) (takeL (left - part) (restL left x rr)) = sumL (cf pf) (takeL n (fl (gB bs (i : Int)))) := by
            have e9 := take_sum (f := (cf pf)) (lin_c pf) (n := left) (x := x) (r := rr) (by omega)
            have e8 : (cf pf) (min left x.1, x.2) = part * pf x.2.2.2.toNat := by rw [← hpart]; rfl
            rw [e8, ← hpart] at e9
            rw [hv0, ← hs0, ← e9]
            omega
          have ht1 : s3 1 + sumL wf (takeL (left - part) (restL left x rr)) = sumL wf (takeL n (fl (gB bs (i : Int)))) := by
            have e9 := take_sum (f := wf) lin_w (n := left) (x := x) (r := rr) (by omega)
            have e8 : wf (min left x.1, x.2) = part * x.2.1 := by rw [← hpart]; rfl
            rw [e8, ← hpart] at e9
            rw [hv1, ← hs1, ← e9]
            omega
          have ht2 : s3 2 + sumL df (takeL (left - part) (restL left x rr)) = sumL df (takeL n (fl (gB bs (i : Int)))) := by
            have e9 := take_sum (f := df) lin_d (n := left) (x := x) (r := rr) (by omega)
            have e8 : df (min left x.1, x.2) = part * x.2.2.1 := by rw [← hpart]; rfl
            rw [e8, ← hpart] at e9
            rw [hv2, ← hs2, ← e9]
            omega
          have hro := restL_ok (n := left) (by omega) hfo
          have hrl := restL_len left x rr
          have hrt := restL_tot (n := left) (x := x) (r := rr) (by omega)
          rw [← hpart, htt] at hrt
          obtain ⟨bs2, hbs2⟩ : ∃ b, bs1 = b := ⟨_, rfl⟩
          refine j_iload_n 3 C dL_out_93 rfl rfl rfl ?_
          refine j_if_lt (tgt := 122) C dL_out_94 rfl rfl ⟨by omega, by omega⟩ (fun _ => ?_) (fun cq => absurd cq (by decide))
          refine j_aload_n 0 C dL_out_122 rfl rfl rfl ?_
          refine j_iload 6 C dL_out_123 rfl rfl ?_
          refine j_dup2 C dL_out_125 rfl rfl rfl ?_
          refine j_iald C dL_out_126 rfl u29 ⟨by omega, by omega⟩ (by omega) (hR.h0 (z := (260 + 400 * (i : Int) + 4 * 0)) (by omega)) ?_
          refine j_iload 7 C dL_out_127 rfl rfl ?_
          refine j_isub C dL_out_129 rfl ?_
          refine j_iast C dL_out_130 rfl u29 ⟨by omega, by omega⟩ (by omega) (fun τ33 ee34 => ?_)
          have u35 : has τ33 a (iA (kc κ) 2700 (ups G (260 + 400 * (i : Int) + 4 * 0).toNat (x.1 - part))) := u29.self' ee34
          have u36 := hSS.ne' ee34 hra
          have kp37 := kp31.put ee34 (Or.inl rfl)
          have dm38 := (dom_put ee34).trans dm32
          obtain ⟨G3, hG3⟩ : ∃ f : Nat → Int, (ups G (260 + 400 * (i : Int) + 4 * 0).toNat (x.1 - part)) = f := ⟨_, rfl⟩
          have hAA := u35
          rw [hG3] at hAA
          have h3a : G3 (260 + 400 * i) = x.1 - part := by rw [← hG3]; exact ups_u (by omega)
          have h3o : ∀ q : Nat, q ≠ 260 + 400 * i → G3 q = G q := fun q hq => by rw [← hG3]; exact ups_n (by omega)
          refine j_iload 5 C dL_out_131 rfl rfl ?_
          refine j_iload 7 C dL_out_133 rfl rfl ?_
          refine j_isub C dL_out_135 rfl ?_
          refine j_istore (lv' := [(0, .ref a), (1, vi ((i : Int))), (2, vi (n)), (3, vi ((-1))), (4, .ref r), (5, vi (left - part)), (6, vi ((260 + 400 * (i : Int) + 4 * 0))), (7, vi (part))]) [1, 2, 3, 4, 5, 0, 6, 7] C dL_out_136 rfl rfl rfl ?_
          refine j_aload_n 0 C dL_out_138 rfl rfl rfl ?_
          refine j_iload 6 C dL_out_139 rfl rfl ?_
          refine j_iald C dL_out_141 rfl hAA ⟨by omega, by omega⟩ (by omega) ((congrArg G3 (show ((260 + 400 * (i : Int) + 4 * 0)).toNat = 260 + 400 * i by omega)).trans h3a) ?_
          have ei := gB_set (bs := bs1) (l := ofl (gB bs1 (i : Int)).2.1 (restL left x rr)) (i := (i : Int)) (j := (i : Int)) (by omega) (by omega) (by omega)
          rw [if_pos rfl] at ei
          obtain ⟨bsN, hbN⟩ : ∃ b, (setL bs1 (i : Int) (ofl (gB bs1 (i : Int)).2.1 (restL left x rr))) = b := ⟨_, rfl⟩
          rw [hbN] at ei
          have hfN : outB bsN (i : Int) (left - part) = outB bs (i : Int) n := by rw [← hbN, hpart, outB_step (by omega) (by omega) hf]; exact hfin
          have heN : fl (gB bsN (i : Int)) = restL left x rr := by rw [ei]; exact fl_ofl _ _ _
          have hlN : bsN.length = bs.length := by rw [← hbN, setL_len]; exact hb1
          have htN : tot (gB bsN (i : Int)).2.2 = tot (restL left x rr) := by rw [ei]; exact sum_ofl _ _ _
          have hgi : (gB bs1 (i : Int)) = gB bs1 (i : Int) := rfl
          refine j_if_ne (tgt := 151) C dL_out_142 rfl rfl ⟨by omega, by omega⟩ (fun cc39 => ?_) (fun cc39 => ?_)
          · have hlt : left < x.1 := by omega
            have hpl : part = left := by omega
            have hrs : restL left x rr = (x.1 - left, x.2) :: rr := if_pos hlt
            refine j_goto (tgt := 8) C dL_out_151 rfl ?_
            have hN4 : NetL G3 bsN := by
              rw [← hbN]
              refine hN1.set (by omega) ?_ (by rw [len_oflN]; omega) (ofl_ok hro) ?_
              · rw [hgi, fl_ofl]
                rw [hrs]
                refine Rows.put (u := []) (g := G) hR (h3o _ (by omega)) ?_ (fun k hk hk0 => rowN_cong (fun c hc => h3o _ (by have : k ≠ 0 := hk0; omega)))
                have e4 := hR.2 0 (by rw [List.length_cons]; omega)
                rw [lyAt_0] at e4
                unfold rowN at e4 ⊢
                show (G3 (260 + 400 * i), G3 (260 + 400 * i + 1), G3 (260 + 400 * i + 2), G3 (260 + 400 * i + 3)) = _
                rw [h3a, hpl, h3o _ (by omega), h3o _ (by omega), h3o _ (by omega)]
                exact congrArg (fun y : Ly => (x.1 - left, y.2)) e4
              · exact fun q hq1 hq2 => h3o q (by omega)
            have hO4 : Oth G G3 i := by
              exact fun q hq1 hq2 => h3o q (by omega)
            rw [← heN] at ht0 ht1 ht2
            refine j_locals (lv' := [(0, .ref a), (1, vi ((i : Int))), (2, vi (n)), (3, vi ((-1))), (4, .ref r), (5, vi (left - part))]) [0, 1, 2, 3, 4, 5] rfl ?_
            exact ih (left - part) τ33 G3 s3 bsN hAA u36 hN4 hlN ⟨by omega, by rw [htN, hrt]; omega, by omega⟩ hfN ht0 ht1 ht2 (hsm.tr (hO4.same (by omega))) kp37 dm38 (by omega)
          · have hpx : part = x.1 := by omega
            have hrs : restL left x rr = rr := if_neg (by omega)
            refine j_aload_n 0 C dL_out_145 rfl rfl rfl ?_
            refine j_iload_n 1 C dL_out_146 rfl rfl rfl ?_
            refine j_iconst C dL_out_147 rfl ?_
            have h3n : G3 (30 + i) = (rr.length : Int) + 1 := by rw [h3o _ (by omega), hR.1, List.length_cons]; omega
            refine j_callS (st' := []) (As := [.ref a, vi ((i : Int)), vi (0)]) C dL_out_148 rfl m_L_109 rfl rfl (c_dropFirst (kL κ) hfl (kD κ) (kc κ) τ33 a G3 hAA i (by omega) rr.length 0 h3n ⟨by omega, by omega⟩) rfl (by omega) (by omega) (by omega) (fun _ _ hx => hx.elim) (fun v41 τ40 hp42 => ?_)
            obtain ⟨rfl, hG4, hk4, hd4⟩ := hp42
            obtain ⟨G4, hg4⟩ : ∃ f : Nat → Int, drp (260 + 400 * i + 4 * 0) (260 + 400 * i + 4 * rr.length) (ups G3 (30 + i) (rr.length : Int)) = f := ⟨_, rfl⟩
            rw [hg4] at hG4
            have hS4 := hk4 _ _ u36 hra
            have hk5 := kp37.tr (hk4.mono (fun _ z => Or.inl z))
            have hd5 := hd4.trans (dm38)
            show J κ τ40 [(0, .ref a), (1, vi ((i : Int))), (2, vi (n)), (3, vi ((-1))), (4, .ref r), (5, vi (left - part)), (6, vi ((260 + 400 * (i : Int) + 4 * 0))), (7, vi (part))] 151 [] _ _
            refine j_goto (tgt := 8) C dL_out_151 rfl ?_
            have hN4 : NetL G4 bsN := by
              rw [← hbN]
              refine hN1.set (by omega) ?_ (by rw [len_oflN]; omega) (ofl_ok hro) ?_
              · rw [hgi, fl_ofl]
                rw [hrs]
                refine Rows.drop (u := []) (x := x) (g := G) hR ?_ (fun k hk => absurd hk (Nat.not_lt_zero _)) (fun k hk => rowN_cong (fun c hc => ?_))
                · rw [← hg4]; unfold drp; rw [if_neg (by omega), ups_s]; exact (Int.zero_add _).symm
                · show G4 (260 + 400 * i + 4 * (0 + k) + c) = _
                  rw [← hg4]
                  unfold drp
                  rw [if_pos (by omega), ups_n (by omega), show 260 + 400 * i + 4 * (0 + k) + c + 4 = 260 + 400 * i + 4 * (0 + k + 1) + c by omega]
                  exact h3o _ (by omega)
              · exact fun q hq1 hq2 => by rw [← hg4]; unfold drp; rw [if_neg (by omega), ups_n (by omega)]; exact h3o q (by omega)
            have hO4 : Oth G G4 i := by
              exact fun q hq1 hq2 => by rw [← hg4]; unfold drp; rw [if_neg (by omega), ups_n (by omega)]; exact h3o q (by omega)
            rw [← heN] at ht0 ht1 ht2
            refine j_locals (lv' := [(0, .ref a), (1, vi ((i : Int))), (2, vi (n)), (3, vi ((-1))), (4, .ref r), (5, vi (left - part))]) [0, 1, 2, 3, 4, 5] rfl ?_
            exact ih (left - part) τ40 G4 s3 bsN hG4 hS4 hN4 hlN ⟨by omega, by rw [htN, hrt]; omega, by omega⟩ hfN ht0 ht1 ht2 (hsm.tr (hO4.same (by omega))) hk5 hd5 (by omega)
        refine j_iload 5 C dL_out_20 rfl rfl ?_
        refine j_aload_n 0 C dL_out_22 rfl rfl rfl ?_
        refine j_iload 6 C dL_out_23 rfl rfl ?_
        refine j_iald C dL_out_25 rfl hG ⟨by omega, by omega⟩ (by omega) (hR.h0 (z := (260 + 400 * (i : Int) + 4 * 0)) (by omega)) ?_
        refine j_icmp_ge (tgt := 34) C dL_out_26 rfl rfl ⟨by omega, by omega⟩ ⟨by omega, by omega⟩ (fun cc43 => ?_) (fun cc43 => ?_)
        · refine j_aload_n 0 C dL_out_34 rfl rfl rfl ?_
          refine j_iload 6 C dL_out_35 rfl rfl ?_
          refine j_iald C dL_out_37 rfl hG ⟨by omega, by omega⟩ (by omega) (hR.h0 (z := (260 + 400 * (i : Int) + 4 * 0)) (by omega)) ?_
          exact main x.1 (part_min (Or.inr ⟨rfl, by omega⟩))
        · refine j_iload 5 C dL_out_29 rfl rfl ?_
          refine j_goto (tgt := 38) C dL_out_31 rfl ?_
          exact main left (part_min (Or.inl ⟨rfl, by omega⟩))
  exact lp _ n τ1 g (fun _ => 0) bs u4 u5 hNt rfl hn rfl (by show (0 : Int) + _ = _; rw [Int.zero_add]) (by show (0 : Int) + _ = _; rw [Int.zero_add]) (by show (0 : Int) + _ = _; rw [Int.zero_add]) SameH.rf Keep.rf rfl (Nat.lt_succ_self _)
set_option maxHeartbeats 8000000 in
set_option maxRecDepth 20000 in
theorem c_outTo (l : Launch) (hfl : l.stackTraces = false) (D : va_G) (cy : Nat → Nat) (σ : Wd) (a : Nat) (g : Nat → Int) (hA : has σ a (iA cy 2700 g)) (bs : List Bn) (hNt : NetL g bs) (pf : Nat → Int) (hPr : ∀ k : Nat, 1 ≤ k → k ≤ 4 → g (70 + k) = pf k) (i : Nat) (hi : i < bs.length) (n : Int) (hn : 0 ≤ n ∧ n ≤ tot (gB bs (i : Int)).2.2 ∧ n ≤ 1000000) (j : Nat) (hj : j < bs.length) (hij : i ≠ j) (hj90 : (gB bs (j : Int)).2.2.length + (takeL n (fl (gB bs (i : Int)))).length ≤ 90) : Ct l yL_out cL_out 8 (some (.array .int)) 2 1 3 D cy [.ref a, vi ((i : Int)), vi (n), vi ((j : Int))] σ (fun v σ' => ∃ (r : Nat) (s G : Nat → Int), v = some (.ref r) ∧ has σ' r (iA cy 3 s) ∧ (s 0 = sumL (cf pf) (takeL n (fl (gB bs (i : Int)))) ∧ s 1 = sumL wf (takeL n (fl (gB bs (i : Int)))) ∧ s 2 = sumL df (takeL n (fl (gB bs (i : Int))))) ∧ has σ' a (iA cy 2700 G) ∧ NetL G (outX bs i n j) ∧ SameH g G ∧ r ∉ σ.1 ∧ Keep σ σ' (fun y => y = a) ∧ σ'.1 = σ.1 ++ [r]) noX := by
  refine ct_start (by decide +kernel) hfl rfl (fun κ e1 e2 e3 C E NH => ?_)
  subst e1 e2 e3
  have C : Cx κ cL_out 8 RL "out" 2 := C
  obtain ⟨-, -, -, -, hc, hs⟩ := id E
  show J κ σ [(0, .ref a), (1, vi ((i : Int))), (2, vi (n)), (3, vi ((j : Int)))] 0 [] 0 0
  have h6 := hNt.2.1
  have kpn : Keep σ σ (fun _ => False) := Keep.rf
  have dmn : σ.1 = σ.1 := rfl
  refine j_iconst C dL_out_0 rfl ?_
  refine j_newI C dL_out_1 rfl aw_int ⟨by omega, by omega⟩ (by omega) (by omega) (k' := 1) (n' := 3) (by first | rfl | omega) (by first | rfl | omega) (fun r τ1 nq3 ee2 => ?_)
  have u4 := hA.old' ee2 nq3
  have u5 : has τ1 r (iA (kc κ) 3 (fun _ => 0)) := has.fresh' ee2
  have kp6 := kpn.new ee2 nq3
  have dm7 := (dom_new ee2).trans (congrArg (· ++ [r]) dmn)
  have hrn : r ∉ σ.1 := nq3
  refine j_astore (lv' := [(0, .ref a), (1, vi ((i : Int))), (2, vi (n)), (3, vi ((j : Int))), (4, .ref r)]) [1, 2, 3, 4, 0] C dL_out_3 rfl rfl rfl ?_
  refine j_iload_n 2 C dL_out_5 rfl rfl rfl ?_
  refine j_istore (lv' := [(0, .ref a), (1, vi ((i : Int))), (2, vi (n)), (3, vi ((j : Int))), (4, .ref r), (5, vi (n))]) [1, 2, 3, 4, 5, 0] C dL_out_6 rfl rfl rfl ?_
  have hra : r ≠ a := fun e => hrn (by rw [e]; exact hA.1)
  have lp : ∀ (N : Nat) (left : Int) (σ1 : Wd) (G : Nat → Int) (s : Nat → Int) (bs1 : List Bn), has σ1 a (iA (kc κ) 2700 G) → has σ1 r (iA (kc κ) 3 s) → NetL G bs1 → bs1.length = bs.length → 0 ≤ left ∧ left ≤ tot (gB bs1 (i : Int)).2.2 ∧ left ≤ 1000000 → outX bs1 i left j = outX bs i n j → s 0 + sumL (cf pf) (takeL left (fl (gB bs1 (i : Int)))) = sumL (cf pf) (takeL n (fl (gB bs (i : Int)))) → s 1 + sumL wf (takeL left (fl (gB bs1 (i : Int)))) = sumL wf (takeL n (fl (gB bs (i : Int)))) → s 2 + sumL df (takeL left (fl (gB bs1 (i : Int)))) = sumL df (takeL n (fl (gB bs (i : Int)))) → (gB bs1 (j : Int)).2.2.length + (takeL left (fl (gB bs1 (i : Int)))).length ≤ 90 → SameH g G → Keep τ1 σ1 (fun y => y = a ∨ y = r) → σ1.1 = τ1.1 → left.toNat < N → J κ σ1 [(0, .ref a), (1, vi ((i : Int))), (2, vi (n)), (3, vi ((j : Int))), (4, .ref r), (5, vi (left))] 8 [] 1 3 := by
    intro N
    induction N with
    | zero => intro left σ1 G s bs1 hG hS hN1 hb1 hlf hfin hs0 hs1 hs2 hj90 hsm hk1 hd1 hN; exact absurd hN (Nat.not_lt_zero _)
    | succ N ih =>
      intro left σ1 G s bs1 hG hS hN1 hb1 hlf hfin hs0 hs1 hs2 hj90 hsm hk1 hd1 hN
      refine j_iload 5 C dL_out_8 rfl rfl ?_
      refine j_if_le (tgt := 154) C dL_out_10 rfl rfl ⟨by omega, by omega⟩ (fun cc8 => ?_) (fun cc8 => ?_)
      · have hf9 : outX bs1 i left j = bs1 := outX_0 (by omega) (by omega) (by omega)
        rw [hf9] at hfin
        rw [takeL_0 (by omega)] at hs0
        rw [takeL_0 (by omega)] at hs1
        rw [takeL_0 (by omega)] at hs2
        refine j_aload 4 C dL_out_154 rfl rfl ?_
        exact j_aret C E dL_out_156 (Or.inr ⟨_, rfl⟩) (by omega) (by omega) ⟨r, s, G, rfl, hS, ⟨(by have e9 : s 0 + 0 = _ := hs0; rw [← e9, Int.add_zero]), (by have e9 : s 1 + 0 = _ := hs1; rw [← e9, Int.add_zero]), (by have e9 : s 2 + 0 = _ := hs2; rw [← e9, Int.add_zero])⟩, hG, (by rw [← hfin]; exact hN1), hsm, hrn, (kp6.mono (fun _ z => z.elim)).tr2 hk1 (fun y z => z.elim Or.inl (fun z => Or.inr (by rw [z]; exact hrn))), hd1.trans dm7⟩
      · obtain ⟨x, rr, hf⟩ := fl_ne (b := gB bs1 (i : Int)) (by omega)
        obtain ⟨⟨hcp, hmz⟩, ⟨hR, hl90⟩, hok⟩ := hN1.2.2.1 i (by omega)
        have hle := fl_len (gB bs1 (i : Int))
        have htf := sum_fl (fun x => x.1) (gB bs1 (i : Int))
        have hfo := fl_ok hok
        rw [hf] at hR hle htf hfo
        rw [List.length_cons] at hle
        have hxo := hfo x List.mem_cons_self
        obtain ⟨⟨hx1, hx2⟩, hx3, hx4, hx5, hx6⟩ := id hxo
        have htt : tot (x :: rr) = tot (gB bs1 (i : Int)).2.2 := htf
        rw [hf] at hs0
        rw [hf] at hs1
        rw [hf] at hs2
        rw [hf] at hj90
        have hpr : G (70 + x.2.2.2.toNat) = pf x.2.2.2.toNat := (hsm _ (by omega) (by omega)).trans (hPr _ (by omega) (by omega))
        refine j_iload_n 1 C dL_out_13 rfl rfl rfl ?_
        refine j_iconst C dL_out_14 rfl ?_
        refine j_callS (st' := []) (As := [vi ((i : Int)), vi (0)]) C dL_out_15 rfl m_L_102 rfl rfl (c_at (kL κ) hfl (kD κ) (kc κ) σ1 (i : Int) 0) rfl (by omega) (by omega) (by omega) (fun _ _ hx => hx.elim) (fun v10 τ9 hp11 => ?_)
        obtain ⟨rfl, hs9⟩ := hp11
        replace hs9 := hs9.symm
        subst hs9
        show J κ σ1 [(0, .ref a), (1, vi ((i : Int))), (2, vi (n)), (3, vi ((j : Int))), (4, .ref r), (5, vi (left))] 18 [vi ((260 + 400 * (i : Int) + 4 * 0))] _ _
        refine j_istore (lv' := [(0, .ref a), (1, vi ((i : Int))), (2, vi (n)), (3, vi ((j : Int))), (4, .ref r), (5, vi (left)), (6, vi ((260 + 400 * (i : Int) + 4 * 0)))]) [1, 2, 3, 4, 5, 6, 0] C dL_out_18 rfl rfl rfl ?_
        have main : ∀ part : Int, part = min left x.1 → J κ σ1 [(0, .ref a), (1, vi ((i : Int))), (2, vi (n)), (3, vi ((j : Int))), (4, .ref r), (5, vi (left)), (6, vi ((260 + 400 * (i : Int) + 4 * 0)))] 38 [vi part] 1 3 := by
          intro part hpart
          have hpa : 1 ≤ part ∧ part ≤ left ∧ part ≤ x.1 := by omega
          refine j_istore (lv' := [(0, .ref a), (1, vi ((i : Int))), (2, vi (n)), (3, vi ((j : Int))), (4, .ref r), (5, vi (left)), (6, vi ((260 + 400 * (i : Int) + 4 * 0))), (7, vi (part))]) [1, 2, 3, 4, 5, 6, 7, 0] C dL_out_38 rfl rfl rfl ?_
          refine j_aload 4 C dL_out_40 rfl rfl ?_
          refine j_iconst C dL_out_42 rfl ?_
          refine j_dup2 C dL_out_43 rfl rfl rfl ?_
          obtain ⟨y12, hy12⟩ : ∃ y : Int, s 0 = y := ⟨_, rfl⟩
          refine j_iald C dL_out_44 rfl hS ⟨by omega, by omega⟩ (by omega) hy12 ?_
          refine j_iload 7 C dL_out_45 rfl rfl ?_
          refine j_aload_n 0 C dL_out_47 rfl rfl rfl ?_
          refine j_bipush C dL_out_48 rfl (by decide) ?_
          refine j_aload_n 0 C dL_out_50 rfl rfl rfl ?_
          refine j_iload 6 C dL_out_51 rfl rfl ?_
          refine j_iconst C dL_out_53 rfl ?_
          refine j_iadd C dL_out_54 rfl ?_
          refine j_iald C dL_out_55 rfl hG ⟨by omega, by omega⟩ (by omega) (hR.h3 (z := (260 + 400 * (i : Int) + 4 * 0) + 3) (by omega)) ?_
          refine j_iadd C dL_out_56 rfl ?_
          refine j_iald C dL_out_57 rfl hG ⟨by omega, by omega⟩ (by omega) ((congrArg G (show (70 + x.2.2.2).toNat = 70 + x.2.2.2.toNat by omega)).trans hpr) ?_
          refine j_imul C dL_out_58 rfl ?_
          refine j_iadd C dL_out_59 rfl ?_
          refine j_iast C dL_out_60 rfl hS ⟨by omega, by omega⟩ (by omega) (fun τ13 ee14 => ?_)
          have u15 := hG.ne' ee14 (hA.apart nq3)
          have u16 : has τ13 r (iA (kc κ) 3 (ups s 0 (y12 + (part * (pf x.2.2.2.toNat))))) := hS.self' ee14
          have kp17 := hk1.put ee14 (Or.inr rfl)
          have dm18 := (dom_put ee14).trans hd1
          refine j_aload 4 C dL_out_61 rfl rfl ?_
          refine j_iconst C dL_out_63 rfl ?_
          refine j_dup2 C dL_out_64 rfl rfl rfl ?_
          obtain ⟨y19, hy19⟩ : ∃ y : Int, (ups s 0 (y12 + (part * (pf x.2.2.2.toNat)))) 1 = y := ⟨_, rfl⟩
          refine j_iald C dL_out_65 rfl u16 ⟨by omega, by omega⟩ (by omega) hy19 ?_
          refine j_iload 7 C dL_out_66 rfl rfl ?_
          refine j_aload_n 0 C dL_out_68 rfl rfl rfl ?_
          refine j_iload 6 C dL_out_69 rfl rfl ?_
          refine j_iconst C dL_out_71 rfl ?_
          refine j_iadd C dL_out_72 rfl ?_
          refine j_iald C dL_out_73 rfl u15 ⟨by omega, by omega⟩ (by omega) (hR.h1 (z := (260 + 400 * (i : Int) + 4 * 0) + 1) (by omega)) ?_
          refine j_imul C dL_out_74 rfl ?_
          refine j_iadd C dL_out_75 rfl ?_
          refine j_iast C dL_out_76 rfl u16 ⟨by omega, by omega⟩ (by omega) (fun τ20 ee21 => ?_)
          have u22 := u15.ne' ee21 (hA.apart nq3)
          have u23 : has τ20 r (iA (kc κ) 3 (ups (ups s 0 (y12 + (part * (pf x.2.2.2.toNat)))) 1 (y19 + (part * x.2.1)))) := u16.self' ee21
          have kp24 := kp17.put ee21 (Or.inr rfl)
          have dm25 := (dom_put ee21).trans dm18
          refine j_aload 4 C dL_out_77 rfl rfl ?_
          refine j_iconst C dL_out_79 rfl ?_
          refine j_dup2 C dL_out_80 rfl rfl rfl ?_
          obtain ⟨y26, hy26⟩ : ∃ y : Int, (ups (ups s 0 (y12 + (part * (pf x.2.2.2.toNat)))) 1 (y19 + (part * x.2.1))) 2 = y := ⟨_, rfl⟩
          refine j_iald C dL_out_81 rfl u23 ⟨by omega, by omega⟩ (by omega) hy26 ?_
          refine j_iload 7 C dL_out_82 rfl rfl ?_
          refine j_aload_n 0 C dL_out_84 rfl rfl rfl ?_
          refine j_iload 6 C dL_out_85 rfl rfl ?_
          refine j_iconst C dL_out_87 rfl ?_
          refine j_iadd C dL_out_88 rfl ?_
          refine j_iald C dL_out_89 rfl u22 ⟨by omega, by omega⟩ (by omega) (hR.h2 (z := (260 + 400 * (i : Int) + 4 * 0) + 2) (by omega)) ?_
          refine j_imul C dL_out_90 rfl ?_
          refine j_iadd C dL_out_91 rfl ?_
          refine j_iast C dL_out_92 rfl u23 ⟨by omega, by omega⟩ (by omega) (fun τ27 ee28 => ?_)
          have u29 := u22.ne' ee28 (hA.apart nq3)
          have u30 : has τ27 r (iA (kc κ) 3 (ups (ups (ups s 0 (y12 + (part * (pf x.2.2.2.toNat)))) 1 (y19 + (part * x.2.1))) 2 (y26 + (part * x.2.2.1)))) := u23.self' ee28
          have kp31 := kp24.put ee28 (Or.inr rfl)
          have dm32 := (dom_put ee28).trans dm25
          obtain ⟨s3, hs3⟩ : ∃ f : Nat → Int, (ups (ups (ups s 0 (y12 + (part * (pf x.2.2.2.toNat)))) 1 (y19 + (part * x.2.1))) 2 (y26 + (part * x.2.2.1))) = f := ⟨_, rfl⟩
          have hSS := u30
          rw [hs3] at hSS
          have hv0 : s3 0 = s 0 + part * pf x.2.2.2.toNat := by
            have e9 := hy12
            rw [← hs3, ups_n (by decide), ups_n (by decide), ups_s, ← e9]
          have hv1 : s3 1 = s 1 + part * x.2.1 := by
            have e9 := hy19
            rw [ups_n (by decide)] at e9
            rw [← hs3, ups_n (by decide), ups_s, ← e9]
          have hv2 : s3 2 = s 2 + part * x.2.2.1 := by
            have e9 := hy26
            rw [ups_n (by decide), ups_n (by decide)] at e9
            rw [← hs3, ups_s, ← e9]
          have ht0 : s3 0 + sumL (cf pf) (takeL (left - part) (restL left x rr)) = sumL (cf pf) (takeL n (fl (gB bs (i : Int)))) := by
            have e9 := take_sum (f := (cf pf)) (lin_c pf) (n := left) (x := x) (r := rr) (by omega)
            have e8 : (cf pf) (min left x.1, x.2) = part * pf x.2.2.2.toNat := by rw [← hpart]; rfl
            rw [e8, ← hpart] at e9
            rw [hv0, ← hs0, ← e9]
            omega
          have ht1 : s3 1 + sumL wf (takeL (left - part) (restL left x rr)) = sumL wf (takeL n (fl (gB bs (i : Int)))) := by
            have e9 := take_sum (f := wf) lin_w (n := left) (x := x) (r := rr) (by omega)
            have e8 : wf (min left x.1, x.2) = part * x.2.1 := by rw [← hpart]; rfl
            rw [e8, ← hpart] at e9
            rw [hv1, ← hs1, ← e9]
            omega
          have ht2 : s3 2 + sumL df (takeL (left - part) (restL left x rr)) = sumL df (takeL n (fl (gB bs (i : Int)))) := by
            have e9 := take_sum (f := df) lin_d (n := left) (x := x) (r := rr) (by omega)
            have e8 : df (min left x.1, x.2) = part * x.2.2.1 := by rw [← hpart]; rfl
            rw [e8, ← hpart] at e9
            rw [hv2, ← hs2, ← e9]
            omega
          have hro := restL_ok (n := left) (by omega) hfo
          have hrl := restL_len left x rr
          have hrt := restL_tot (n := left) (x := x) (r := rr) (by omega)
          rw [← hpart, htt] at hrt
          refine j_iload_n 3 C dL_out_93 rfl rfl rfl ?_
          refine j_if_lt (tgt := 122) C dL_out_94 rfl rfl ⟨by omega, by omega⟩ (fun cc33 => ?_) (fun cc33 => ?_)
          · exact absurd cc33 (by omega)
          · refine j_aload_n 0 C dL_out_97 rfl rfl rfl ?_
            refine j_iload_n 3 C dL_out_98 rfl rfl rfl ?_
            refine j_iload 7 C dL_out_99 rfl rfl ?_
            refine j_aload_n 0 C dL_out_101 rfl rfl rfl ?_
            refine j_iload 6 C dL_out_102 rfl rfl ?_
            refine j_iconst C dL_out_104 rfl ?_
            refine j_iadd C dL_out_105 rfl ?_
            refine j_iald C dL_out_106 rfl u29 ⟨by omega, by omega⟩ (by omega) (hR.h1 (z := (260 + 400 * (i : Int) + 4 * 0) + 1) (by omega)) ?_
            refine j_aload_n 0 C dL_out_107 rfl rfl rfl ?_
            refine j_iload 6 C dL_out_108 rfl rfl ?_
            refine j_iconst C dL_out_110 rfl ?_
            refine j_iadd C dL_out_111 rfl ?_
            refine j_iald C dL_out_112 rfl u29 ⟨by omega, by omega⟩ (by omega) (hR.h2 (z := (260 + 400 * (i : Int) + 4 * 0) + 2) (by omega)) ?_
            refine j_aload_n 0 C dL_out_113 rfl rfl rfl ?_
            refine j_iload 6 C dL_out_114 rfl rfl ?_
            refine j_iconst C dL_out_116 rfl ?_
            refine j_iadd C dL_out_117 rfl ?_
            refine j_iald C dL_out_118 rfl u29 ⟨by omega, by omega⟩ (by omega) (hR.h3 (z := (260 + 400 * (i : Int) + 4 * 0) + 3) (by omega)) ?_
            have htk : (takeL (left - part) (restL left x rr)).length + 1 = (takeL left (x :: rr)).length := by
              rw [← take_step (by omega), hpart, restL]
              rfl
            refine j_callS (st' := []) (As := [.ref a, vi ((j : Int)), vi (part), vi (x.2.1), vi (x.2.2.1), vi (x.2.2.2)]) C dL_out_119 rfl m_L_105 rfl rfl (c_come (kL κ) hfl (kD κ) (kc κ) τ27 a G u29 bs1 hN1 j (by omega) (by omega) part x.2.1 x.2.2.1 x.2.2.2 ⟨⟨by omega, by omega⟩, hx3, hx4, hx5, hx6⟩) rfl (by omega) (by omega) (by omega) (fun _ _ hx => hx.elim) (fun v35 τ34 hp36 => ?_)
            obtain ⟨rfl, G2, hG2, hN2, hO2, hk2, hd2⟩ := hp36
            have hx9 : (part, x.2.1, x.2.2.1, x.2.2.2) = (min left x.1, x.2) := by rw [← hpart]
            rw [hx9] at hN2
            have hS2 := hk2 _ _ hSS hra
            have hk3 := kp31.tr (hk2.mono (fun _ z => Or.inl z))
            have hd3 := hd2.trans (dm32)
            show J κ τ34 [(0, .ref a), (1, vi ((i : Int))), (2, vi (n)), (3, vi ((j : Int))), (4, .ref r), (5, vi (left)), (6, vi ((260 + 400 * (i : Int) + 4 * 0))), (7, vi (part))] 122 [] _ _
            have eij := gB_set (bs := bs1) (l := (gB bs1 (j : Int)).2.2 ++ [(min left x.1, x.2)]) (i := (j : Int)) (j := (i : Int)) (by omega) (by omega) (by omega)
            rw [if_neg (by omega)] at eij
            have hR2 := (hN2.2.2.1 i (by rw [setL_len]; omega)).2.1.1
            rw [eij, hf] at hR2
            refine j_aload_n 0 C dL_out_122 rfl rfl rfl ?_
            refine j_iload 6 C dL_out_123 rfl rfl ?_
            refine j_dup2 C dL_out_125 rfl rfl rfl ?_
            refine j_iald C dL_out_126 rfl hG2 ⟨by omega, by omega⟩ (by omega) (hR2.h0 (z := (260 + 400 * (i : Int) + 4 * 0)) (by omega)) ?_
            refine j_iload 7 C dL_out_127 rfl rfl ?_
            refine j_isub C dL_out_129 rfl ?_
            refine j_iast C dL_out_130 rfl hG2 ⟨by omega, by omega⟩ (by omega) (fun τ37 ee38 => ?_)
            have u39 : has τ37 a (iA (kc κ) 2700 (ups G2 (260 + 400 * (i : Int) + 4 * 0).toNat (x.1 - part))) := hG2.self' ee38
            have u40 := hS2.ne' ee38 hra
            have kp41 := hk3.put ee38 (Or.inl rfl)
            have dm42 := (dom_put ee38).trans hd3
            obtain ⟨G3, hG3⟩ : ∃ f : Nat → Int, (ups G2 (260 + 400 * (i : Int) + 4 * 0).toNat (x.1 - part)) = f := ⟨_, rfl⟩
            have hAA := u39
            rw [hG3] at hAA
            have h3a : G3 (260 + 400 * i) = x.1 - part := by rw [← hG3]; exact ups_u (by omega)
            have h3o : ∀ q : Nat, q ≠ 260 + 400 * i → G3 q = G2 q := fun q hq => by rw [← hG3]; exact ups_n (by omega)
            refine j_iload 5 C dL_out_131 rfl rfl ?_
            refine j_iload 7 C dL_out_133 rfl rfl ?_
            refine j_isub C dL_out_135 rfl ?_
            refine j_istore (lv' := [(0, .ref a), (1, vi ((i : Int))), (2, vi (n)), (3, vi ((j : Int))), (4, .ref r), (5, vi (left - part)), (6, vi ((260 + 400 * (i : Int) + 4 * 0))), (7, vi (part))]) [1, 2, 3, 4, 5, 0, 6, 7] C dL_out_136 rfl rfl rfl ?_
            refine j_aload_n 0 C dL_out_138 rfl rfl rfl ?_
            refine j_iload 6 C dL_out_139 rfl rfl ?_
            refine j_iald C dL_out_141 rfl hAA ⟨by omega, by omega⟩ (by omega) ((congrArg G3 (show ((260 + 400 * (i : Int) + 4 * 0)).toNat = 260 + 400 * i by omega)).trans h3a) ?_
            obtain ⟨ei, ej⟩ := gB_two (bs := bs1) (i := i) (j := j) (by omega) (by omega) hij ((gB bs1 (j : Int)).2.2 ++ [(min left x.1, x.2)]) (ofl (gB bs1 (i : Int)).2.1 (restL left x rr))
            obtain ⟨bsN, hbN⟩ : ∃ b, (setL (setL bs1 (j : Int) ((gB bs1 (j : Int)).2.2 ++ [(min left x.1, x.2)])) (i : Int) (ofl (gB bs1 (i : Int)).2.1 (restL left x rr))) = b := ⟨_, rfl⟩
            rw [hbN] at ei ej
            have hfN : outX bsN i (left - part) j = outX bs i n j := by rw [← hbN, hpart, outX_step (by omega) (by omega) hij (by omega) hf]; exact hfin
            have heN : fl (gB bsN (i : Int)) = restL left x rr := by rw [ei]; exact fl_ofl _ _ _
            have hlN : bsN.length = bs.length := by rw [← hbN, setL_len, setL_len]; exact hb1
            have htN : tot (gB bsN (i : Int)).2.2 = tot (restL left x rr) := by rw [ei]; exact sum_ofl _ _ _
            have hjN : (gB bsN (j : Int)).2.2.length + (takeL (left - part) (fl (gB bsN (i : Int)))).length ≤ 90 := by
              rw [ej, heN]
              show ((gB bs1 (j : Int)).2.2 ++ [(min left x.1, x.2)]).length + _ ≤ 90
              rw [List.length_append]
              show _ + 1 + _ ≤ 90
              omega
            have hgi : (gB (setL bs1 (j : Int) ((gB bs1 (j : Int)).2.2 ++ [(min left x.1, x.2)])) (i : Int)) = gB bs1 (i : Int) := eij
            refine j_if_ne (tgt := 151) C dL_out_142 rfl rfl ⟨by omega, by omega⟩ (fun cc43 => ?_) (fun cc43 => ?_)
            · have hlt : left < x.1 := by omega
              have hpl : part = left := by omega
              have hrs : restL left x rr = (x.1 - left, x.2) :: rr := if_pos hlt
              refine j_goto (tgt := 8) C dL_out_151 rfl ?_
              have hN4 : NetL G3 bsN := by
                rw [← hbN]
                refine hN2.set (by rw [setL_len]; omega) ?_ (by rw [len_oflN]; omega) (ofl_ok hro) ?_
                · rw [hgi, fl_ofl]
                  rw [hrs]
                  refine Rows.put (u := []) (g := G2) hR2 (h3o _ (by omega)) ?_ (fun k hk hk0 => rowN_cong (fun c hc => h3o _ (by have : k ≠ 0 := hk0; omega)))
                  have e4 := hR2.2 0 (by rw [List.length_cons]; omega)
                  rw [lyAt_0] at e4
                  unfold rowN at e4 ⊢
                  show (G3 (260 + 400 * i), G3 (260 + 400 * i + 1), G3 (260 + 400 * i + 2), G3 (260 + 400 * i + 3)) = _
                  rw [h3a, hpl, h3o _ (by omega), h3o _ (by omega), h3o _ (by omega)]
                  exact congrArg (fun y : Ly => (x.1 - left, y.2)) e4
                · exact fun q hq1 hq2 => h3o q (by omega)
              have hO4 : Oth G2 G3 i := by
                exact fun q hq1 hq2 => h3o q (by omega)
              rw [← heN] at ht0 ht1 ht2
              refine j_locals (lv' := [(0, .ref a), (1, vi ((i : Int))), (2, vi (n)), (3, vi ((j : Int))), (4, .ref r), (5, vi (left - part))]) [0, 1, 2, 3, 4, 5] rfl ?_
              exact ih (left - part) τ37 G3 s3 bsN hAA u40 hN4 hlN ⟨by omega, by rw [htN, hrt]; omega, by omega⟩ hfN ht0 ht1 ht2 hjN ((hsm.tr (hO2.same (by omega))).tr (hO4.same (by omega))) kp41 dm42 (by omega)
            · have hpx : part = x.1 := by omega
              have hrs : restL left x rr = rr := if_neg (by omega)
              refine j_aload_n 0 C dL_out_145 rfl rfl rfl ?_
              refine j_iload_n 1 C dL_out_146 rfl rfl rfl ?_
              refine j_iconst C dL_out_147 rfl ?_
              have h3n : G3 (30 + i) = (rr.length : Int) + 1 := by rw [h3o _ (by omega), hR2.1, List.length_cons]; omega
              refine j_callS (st' := []) (As := [.ref a, vi ((i : Int)), vi (0)]) C dL_out_148 rfl m_L_109 rfl rfl (c_dropFirst (kL κ) hfl (kD κ) (kc κ) τ37 a G3 hAA i (by omega) rr.length 0 h3n ⟨by omega, by omega⟩) rfl (by omega) (by omega) (by omega) (fun _ _ hx => hx.elim) (fun v45 τ44 hp46 => ?_)
              obtain ⟨rfl, hG4, hk4, hd4⟩ := hp46
              obtain ⟨G4, hg4⟩ : ∃ f : Nat → Int, drp (260 + 400 * i + 4 * 0) (260 + 400 * i + 4 * rr.length) (ups G3 (30 + i) (rr.length : Int)) = f := ⟨_, rfl⟩
              rw [hg4] at hG4
              have hS4 := hk4 _ _ u40 hra
              have hk5 := kp41.tr (hk4.mono (fun _ z => Or.inl z))
              have hd5 := hd4.trans (dm42)
              show J κ τ44 [(0, .ref a), (1, vi ((i : Int))), (2, vi (n)), (3, vi ((j : Int))), (4, .ref r), (5, vi (left - part)), (6, vi ((260 + 400 * (i : Int) + 4 * 0))), (7, vi (part))] 151 [] _ _
              refine j_goto (tgt := 8) C dL_out_151 rfl ?_
              have hN4 : NetL G4 bsN := by
                rw [← hbN]
                refine hN2.set (by rw [setL_len]; omega) ?_ (by rw [len_oflN]; omega) (ofl_ok hro) ?_
                · rw [hgi, fl_ofl]
                  rw [hrs]
                  refine Rows.drop (u := []) (x := x) (g := G2) hR2 ?_ (fun k hk => absurd hk (Nat.not_lt_zero _)) (fun k hk => rowN_cong (fun c hc => ?_))
                  · rw [← hg4]; unfold drp; rw [if_neg (by omega), ups_s]; exact (Int.zero_add _).symm
                  · show G4 (260 + 400 * i + 4 * (0 + k) + c) = _
                    rw [← hg4]
                    unfold drp
                    rw [if_pos (by omega), ups_n (by omega), show 260 + 400 * i + 4 * (0 + k) + c + 4 = 260 + 400 * i + 4 * (0 + k + 1) + c by omega]
                    exact h3o _ (by omega)
                · exact fun q hq1 hq2 => by rw [← hg4]; unfold drp; rw [if_neg (by omega), ups_n (by omega)]; exact h3o q (by omega)
              have hO4 : Oth G2 G4 i := by
                exact fun q hq1 hq2 => by rw [← hg4]; unfold drp; rw [if_neg (by omega), ups_n (by omega)]; exact h3o q (by omega)
              rw [← heN] at ht0 ht1 ht2
              refine j_locals (lv' := [(0, .ref a), (1, vi ((i : Int))), (2, vi (n)), (3, vi ((j : Int))), (4, .ref r), (5, vi (left - part))]) [0, 1, 2, 3, 4, 5] rfl ?_
              exact ih (left - part) τ44 G4 s3 bsN hG4 hS4 hN4 hlN ⟨by omega, by rw [htN, hrt]; omega, by omega⟩ hfN ht0 ht1 ht2 hjN ((hsm.tr (hO2.same (by omega))).tr (hO4.same (by omega))) hk5 hd5 (by omega)
        refine j_iload 5 C dL_out_20 rfl rfl ?_
        refine j_aload_n 0 C dL_out_22 rfl rfl rfl ?_
        refine j_iload 6 C dL_out_23 rfl rfl ?_
        refine j_iald C dL_out_25 rfl hG ⟨by omega, by omega⟩ (by omega) (hR.h0 (z := (260 + 400 * (i : Int) + 4 * 0)) (by omega)) ?_
        refine j_icmp_ge (tgt := 34) C dL_out_26 rfl rfl ⟨by omega, by omega⟩ ⟨by omega, by omega⟩ (fun cc47 => ?_) (fun cc47 => ?_)
        · refine j_aload_n 0 C dL_out_34 rfl rfl rfl ?_
          refine j_iload 6 C dL_out_35 rfl rfl ?_
          refine j_iald C dL_out_37 rfl hG ⟨by omega, by omega⟩ (by omega) (hR.h0 (z := (260 + 400 * (i : Int) + 4 * 0)) (by omega)) ?_
          exact main x.1 (part_min (Or.inr ⟨rfl, by omega⟩))
        · refine j_iload 5 C dL_out_29 rfl rfl ?_
          refine j_goto (tgt := 38) C dL_out_31 rfl ?_
          exact main left (part_min (Or.inl ⟨rfl, by omega⟩))
  exact lp _ n τ1 g (fun _ => 0) bs u4 u5 hNt rfl hn rfl (by show (0 : Int) + _ = _; rw [Int.zero_add]) (by show (0 : Int) + _ = _; rw [Int.zero_add]) (by show (0 : Int) + _ = _; rw [Int.zero_add]) hj90 SameH.rf Keep.rf rfl (Nat.lt_succ_self _)
