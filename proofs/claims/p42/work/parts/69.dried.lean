/-! the law's own: isDried -/
/-- .. but within the array alone -/
def OthL (g G : Nat → Int) (i : Nat) : Prop := ∀ q : Nat, q < 2700 → q ≠ 30 + i → ¬ (260 + 400 * i ≤ q ∧ q < 624 + 400 * i) → G q = g q
theorem lyAt_m (u t : List Ly) (x : Ly) : lyAt (u ++ x :: t) (u.length : Int) = x := (lyAt_r (a := u) (b := x :: t) (k := u.length) (j := 0) rfl).trans (lyAt_0 x t)
theorem Rows.m0 {g : Nat → Int} {b : Nat} {u t : List Ly} {x : Ly} (h : Rows g b (u ++ x :: t)) {z : Int} (hz : z = 260 + 400 * (b : Int) + 4 * (u.length : Int)) : g z.toNat = x.1 := (h.k0 (k := u.length) (by rw [List.length_append, List.length_cons]; omega) (z := z) hz).trans (by rw [lyAt_m])
theorem Rows.m1 {g : Nat → Int} {b : Nat} {u t : List Ly} {x : Ly} (h : Rows g b (u ++ x :: t)) {z : Int} (hz : z = 260 + 400 * (b : Int) + 4 * (u.length : Int) + 1) : g z.toNat = x.2.1 := (h.k1 (k := u.length) (by rw [List.length_append, List.length_cons]; omega) (z := z) hz).trans (by rw [lyAt_m])
theorem Rows.m2 {g : Nat → Int} {b : Nat} {u t : List Ly} {x : Ly} (h : Rows g b (u ++ x :: t)) {z : Int} (hz : z = 260 + 400 * (b : Int) + 4 * (u.length : Int) + 2) : g z.toNat = x.2.2.1 := (h.k2 (k := u.length) (by rw [List.length_append, List.length_cons]; omega) (z := z) hz).trans (by rw [lyAt_m])
/-- a row is written anew but for its third place -/
theorem Rows.put3 {g G : Nat → Int} {b : Nat} {u t : List Ly} {x : Ly} {p q r : Int} (h : Rows g b (u ++ x :: t)) (hn : G (30 + b) = g (30 + b)) (h0 : G (260 + 400 * b + 4 * u.length) = p) (h1 : G (260 + 400 * b + 4 * u.length + 1) = q) (h3 : G (260 + 400 * b + 4 * u.length + 3) = r) (ho : ∀ z : Nat, z ≠ 30 + b → z ≠ 260 + 400 * b + 4 * u.length → z ≠ 260 + 400 * b + 4 * u.length + 1 → z ≠ 260 + 400 * b + 4 * u.length + 3 → G z = g z) : Rows G b (u ++ (p, q, x.2.2.1, r) :: t) := by
  refine h.put hn (rowN_4 h0 h1 ?_ h3) (fun k hk hk0 => rowN_cong (fun c hc => ho _ (by omega) (by omega) (by omega) (by omega)))
  rw [ho _ (by omega) (by omega) (by omega) (by omega)]
  have e := h.m2 (z := 260 + 400 * (b : Int) + 4 * (u.length : Int) + 2) rfl
  rw [show (260 + 400 * (b : Int) + 4 * (u.length : Int) + 2).toNat = 260 + 400 * b + 4 * u.length + 2 by omega] at e
  exact e
theorem dry1_rev (gr : Int → Int → Int) (w : Int) (x : Ly) : (dry1 gr w x).reverse = dry1 gr w x := by
  unfold dry1
  split
  · split <;> rfl
  · rfl
theorem dryL_rev (gr : Int → Int → Int) (w : Int) : ∀ l : List Ly, (dryL gr w l).reverse = dryL gr w l.reverse
  | [] => rfl
  | x :: l => by
    rw [List.reverse_cons, dryL_app, ← dryL_rev gr w l]
    show (dryL gr w ([x] ++ l)).reverse = _
    rw [dryL_app, List.reverse_append]
    congr 1
    show (dry1 gr w x ++ []).reverse = dry1 gr w x ++ []
    rw [List.append_nil, dry1_rev]
theorem fl_dry (gr : Int → Int → Int) (w c : Int) (m : Bool) (l : List Ly) : fl (c, m, dryL gr w l) = dryL gr w (fl (c, m, l)) := by
  unfold fl
  cases m
  · exact dryL_rev gr w l
  · rfl
theorem dryL_dry {gr : Int → Int → Int} {w : Int} {x : Ly} {l : List Ly} (h : w < x.2.1) : dryL gr w (x :: l) = if dryN w x < 1 then dryL gr w l else (dryN w x, w, x.2.2.1, gr w x.2.2.1) :: dryL gr w l := by
  show dry1 gr w x ++ _ = _
  unfold dry1
  rw [if_pos h]
  split <;> rfl
theorem dryL_not {gr : Int → Int → Int} {w : Int} {x : Ly} {l : List Ly} (h : ¬ w < x.2.1) : dryL gr w (x :: l) = x :: dryL gr w l := by
  show dry1 gr w x ++ _ = _
  unfold dry1
  rw [if_neg h]
  rfl
/-- is a layer wetter than w? -/
def wetI (w : Int) (l : List Ly) : Int := if sumL (wetF w) l = 0 then 0 else 1
theorem wetF_0 {w : Int} {l : List Ly} (h : lysOk l) : 0 ≤ sumL (wetF w) l := sumL_0 (fun x hx => by have := (h x hx).1; unfold wetF; split <;> omega)
theorem dryC_inN {w : Int} (hw : 100 ≤ w ∧ w ≤ 199) : ∀ {l : List Ly}, lysOk l → 0 ≤ sumL (dryC w) l ∧ sumL (dryC w) l ≤ 20 * tot l
  | [], _ => by simp [sumL, tot]
  | x :: l, h => by
    obtain ⟨⟨a1, a2⟩, ⟨b1, b2⟩, -⟩ := h x List.mem_cons_self
    have ih := dryC_inN hw (l := l) (fun y hy => h y (List.mem_cons_of_mem _ hy))
    have e : 0 ≤ dryC w x ∧ dryC w x ≤ 20 * x.1 := by
      unfold dryC
      split
      · have m2 : x.1 * (x.2.1 - w) ≤ x.1 * 200 := Int.mul_le_mul_of_nonneg_left (by omega) (by omega)
        have m1 : 0 ≤ x.1 * (x.2.1 - w) := Int.mul_nonneg (by omega) (by omega)
        omega
      · omega
    unfold tot at ih ⊢
    simp only [sumL] at ih ⊢
    omega
set_option maxHeartbeats 16000000 in
set_option maxRecDepth 20000 in
theorem c_isDried (l : Launch) (hfl : l.stackTraces = false) (D : va_G) (cy : Nat → Nat) (σ : Wd) (tg ad : Nat → Nat) (bs : List Bn) (ru : Nat → Int × Int) (se : Int) (pf : Nat → Int) (hd : Hd) (ca : Int) (evs : List Evt) (ln : List Int) (g gm : Nat → Int) (a m : Nat) (hX0 : RX cy σ tg ad bs ru se pf hd ca evs ln) (hA : has σ a (iA cy 2700 g)) (hNt : NetL g bs) (hH : NetH g ru se pf evs.length hd.2.2.2.1 (totB bs)) (hM : has σ m (lA cy 2 gm)) (hta : 1000 ≤ tg a) (htm : 1000 ≤ tg m) (i : Nat) (hi : i < bs.length) (w : Int) (hw : 100 ≤ w ∧ w ≤ 199) : Ct l yL_isDried cL_isDried 12 (some .boolean) 9 3 2957 D cy [.ref (ad 0), .ref a, .ref m, vi ((i : Int)), vi (w)] σ (fun v σ' => v = some (vi 1) ∧ LI cy σ' (ad 0) a m 1) noX := by
  refine ct_start (by decide +kernel) hfl rfl (fun κ e1 e2 e3 C E NH => ?_)
  subst e1 e2 e3
  have C : Cx κ cL_isDried 12 RL "isDried" 9 := C
  obtain ⟨-, -, -, -, hc, hs⟩ := id E
  show J κ σ [(0, .ref (ad 0)), (1, .ref a), (2, .ref m), (3, vi ((i : Int))), (4, vi (w))] 0 [] 0 0
  have hO := hX0.ok
  have h6 := hO.1
  have hBk := hO.2.1
  have hlb := hO.2.2.1
  have hpf := hO.2.2.2.2.1
  have hTb := totB_in hBk
  obtain ⟨hRu, h2, h3, h4, h5, hPr⟩ := id hH
  have hma : m ≠ a := hM.nk hA rfl
  have kp0 : Keep σ σ (fun y => y = a ∨ y = m) := Keep.rf
  have dm0 : σ.1 = σ.1 := rfl
  have hmemi := gB_mem (bs := bs) (i := (i : Int)) (by omega) (by omega)
  obtain ⟨hcapi, hoki, htci⟩ := hBk _ hmemi
  have hlli := len_lenB hmemi
  have ht0i := tot_0 hoki
  have hcni := (hNt.2.2.1 i hi).1.1
  have hw80 : 80 ≤ w ∧ w ≤ 300 := by omega
  obtain ⟨L, hL⟩ : ∃ l, fl (gB bs (i : Int)) = l := ⟨_, rfl⟩
  have hR := (hNt.2.2.1 i hi).2.1.1
  have hle := fl_len (gB bs (i : Int))
  have hokL := fl_ok hoki
  have htL := sum_fl (fun x => x.1) (gB bs (i : Int))
  rw [hL] at hR hle hokL htL
  have htL2 : tot L = tot (gB bs (i : Int)).2.2 := htL
  have hl80 : L.length ≤ 80 := by omega
  refine j_iconst C dL_isDried_0 rfl ?_
  refine j_istore (lv' := [(0, .ref (ad 0)), (1, .ref a), (2, .ref m), (3, vi ((i : Int))), (4, vi (w)), (5, vi (0))]) [1, 2, 3, 4, 5, 0] C dL_isDried_1 rfl rfl rfl ?_
  refine j_iconst C dL_isDried_3 rfl ?_
  refine j_istore (lv' := [(0, .ref (ad 0)), (1, .ref a), (2, .ref m), (3, vi ((i : Int))), (4, vi (w)), (5, vi (0)), (6, vi (0))]) [1, 2, 3, 4, 5, 6, 0] C dL_isDried_4 rfl rfl rfl ?_
  refine j_iconst C dL_isDried_6 rfl ?_
  refine j_istore (lv' := [(0, .ref (ad 0)), (1, .ref a), (2, .ref m), (3, vi ((i : Int))), (4, vi (w)), (5, vi (0)), (6, vi (0)), (7, vi (0))]) [1, 2, 3, 4, 5, 6, 7, 0] C dL_isDried_7 rfl rfl rfl ?_
  refine j_aload_n 1 C dL_isDried_9 rfl rfl rfl ?_
  refine j_callS (st' := []) (As := [.ref a]) C dL_isDried_10 rfl m_L_120 rfl rfl (c_copied (kL κ) hfl (kD κ) (kc κ) σ a g hA) rfl (by omega) (by omega) (by omega) (fun _ _ hx => hx.elim) (fun v2 τ1 hp3 => ?_)
  obtain ⟨q, Q, rfl, hQ, hQe, hqn, hkq, hdq⟩ := hp3
  show J κ τ1 [(0, .ref (ad 0)), (1, .ref a), (2, .ref m), (3, vi ((i : Int))), (4, vi (w)), (5, vi (0)), (6, vi (0)), (7, vi (0))] 13 [.ref q] _ _
  have hqa : q ≠ a := fun e => hqn (by rw [e]; exact hA.1)
  have hqm : m ≠ q := fun e => hqn (by rw [← e]; exact hM.1)
  have hAq := hkq _ _ hA (fun z => z)
  have hMq := hkq _ _ hM (fun z => z)
  refine j_astore (lv' := [(0, .ref (ad 0)), (1, .ref a), (2, .ref m), (3, vi ((i : Int))), (4, vi (w)), (5, vi (0)), (6, vi (0)), (7, vi (0)), (8, .ref q)]) [1, 2, 3, 4, 5, 6, 7, 8, 0] C dL_isDried_13 rfl rfl rfl ?_
  refine j_aload_n 1 C dL_isDried_15 rfl rfl rfl ?_
  refine j_bipush C dL_isDried_16 rfl (by decide) ?_
  refine j_iload_n 3 C dL_isDried_18 rfl rfl rfl ?_
  refine j_iadd C dL_isDried_19 rfl ?_
  refine j_iald C dL_isDried_20 rfl hAq ⟨by omega, by omega⟩ (by omega) ((congrArg g (show (30 + (i : Int)).toNat = 30 + i by omega)).trans hR.1) ?_
  refine j_iconst C dL_isDried_21 rfl ?_
  refine j_isub C dL_isDried_22 rfl ?_
  refine j_istore (lv' := [(0, .ref (ad 0)), (1, .ref a), (2, .ref m), (3, vi ((i : Int))), (4, vi (w)), (5, vi (0)), (6, vi (0)), (7, vi (0)), (8, .ref q), (9, vi ((L.length : Int) - 1))]) [1, 2, 3, 4, 5, 6, 7, 8, 9, 0] C dL_isDried_23 rfl rfl rfl ?_
  have tail : ∀ (σ1 : Wd) (Q1 : Nat → Int), has σ1 a (iA (kc κ) 2700 g) → has σ1 m (lA (kc κ) 2 gm) → has σ1 q (iA (kc κ) 2700 Q1) → Rows Q1 i ([] ++ dryL (gradeF ru se) w L) → OthL g Q1 i → Keep τ1 σ1 (fun y => y = q) → σ1.1 = τ1.1 → J κ σ1 [(0, .ref (ad 0)), (1, .ref a), (2, .ref m), (3, vi ((i : Int))), (4, vi (w)), (5, vi ((tot L - tot (dryL (gradeF ru se) w L)))), (6, vi ((sumL (dryC w) L))), (7, vi ((wetI w L))), (8, .ref q)] 164 [] 1 2700 := by
    intro σ1 Q1 hA1 hM1 hQ1 hRQ hOQ hk1 hd1
    have hRD : Rows Q1 i (dryL (gradeF ru se) w L) := hRQ
    have hkA : Keep σ σ1 (fun _ => False) := hkq.tr2 hk1 (fun y z => Or.inr (by rw [show y = q from z]; exact hqn))
    have hcL : sumL (dryC w) L = sumL (dryC w) (gB bs (i : Int)).2.2 := by rw [← hL]; exact sum_fl _ _
    have hwL : sumL (wetF w) L = sumL (wetF w) (gB bs (i : Int)).2.2 := by rw [← hL]; exact sum_fl _ _
    have hwI : (sumL (wetF w) L = 0 ∧ wetI w L = 0) ∨ (¬ sumL (wetF w) L = 0 ∧ wetI w L = 1) := by unfold wetI; by_cases e : sumL (wetF w) L = 0 <;> simp [e]
    have hci := dryC_inN hw hokL
    have hdt := dryL_tot (gradeF ru se) hw80 hokL
    have hdk := dryL_ok (gradeF_in ru se) hw80 hokL
    have hd0 := tot_0 hdk
    have hdl := dryL_len (gradeF ru se) w L
    have hXs := hX0.keep hkA (fun _ _ z => z.elim)
    refine j_aload_n 0 C dL_isDried_164 rfl rfl rfl ?_
    refine j_iload_n 3 C dL_isDried_165 rfl rfl rfl ?_
    refine j_iload 4 C dL_isDried_166 rfl rfl ?_
    refine j_callSH (st' := []) (As := [.ref (ad 0), vi ((i : Int)), vi (w)]) C dL_isDried_168 rfl m_L_158 rfl rfl (W_dryingCost (kL κ) hfl (kD κ) (kc κ) σ1 tg ad bs ru se pf hd ca evs ln hXs i hi w ⟨by omega, by omega⟩ ⟨by omega, by omega⟩) rfl (by omega) (by omega) (by omega) (fun _ _ hx => hx.elim) (fun v5 τ4 hp6 => ?_)
    obtain ⟨rfl, hs9⟩ := hp6
    replace hs9 := hs9.symm
    subst hs9
    show J κ σ1 [(0, .ref (ad 0)), (1, .ref a), (2, .ref m), (3, vi ((i : Int))), (4, vi (w)), (5, vi ((tot L - tot (dryL (gradeF ru se) w L)))), (6, vi ((sumL (dryC w) L))), (7, vi ((wetI w L))), (8, .ref q)] 171 [vi ((sumL (dryC w) (gB bs (i : Int)).2.2))] _ _
    rw [← hcL]
    refine j_iload 6 C dL_isDried_171 rfl rfl ?_
    refine j_icmp_eq (tgt := 178) C dL_isDried_173 rfl rfl ⟨by omega, by omega⟩ ⟨by omega, by omega⟩ (fun cc7 => ?_) (fun cc7 => ?_)
    · refine j_iload 7 C dL_isDried_178 rfl rfl ?_
      refine j_if_eq (tgt := 191) C dL_isDried_180 rfl rfl ⟨by omega, by omega⟩ (fun cc8 => ?_) (fun cc8 => ?_)
      · refine j_aload_n 0 C dL_isDried_191 rfl rfl rfl ?_
        refine j_iload_n 3 C dL_isDried_192 rfl rfl rfl ?_
        refine j_iload 4 C dL_isDried_193 rfl rfl ?_
        refine j_callSH (st' := []) (As := [.ref (ad 0), vi ((i : Int)), vi (w)]) C dL_isDried_195 rfl m_L_161 rfl rfl (W_dryB2 (kL κ) hfl (kD κ) (kc κ) σ1 tg ad bs ru se pf hd ca evs ln hXs i hi w ⟨by omega, by omega⟩ ⟨by omega, by omega⟩ (by omega)) rfl (by omega) (by omega) (by omega) (fun _ _ hx => hx.elim) (fun v10 τ9 hp11 => ?_)
        obtain ⟨rfl, hs9⟩ := hp11
        replace hs9 := hs9.symm
        subst hs9
        show J κ σ1 [(0, .ref (ad 0)), (1, .ref a), (2, .ref m), (3, vi ((i : Int))), (4, vi (w)), (5, vi ((tot L - tot (dryL (gradeF ru se) w L)))), (6, vi ((sumL (dryC w) L))), (7, vi ((wetI w L))), (8, .ref q)] 198 [vi ((-900003))] _ _
        refine j_ldc (z := (-900003)) C dL_isDried_198 rfl kc_L_44 ?_
        refine j_icmp_ne (tgt := 207) C dL_isDried_200 rfl rfl ⟨by omega, by omega⟩ ⟨by omega, by omega⟩ (fun cc12 => absurd cc12 (by decide)) (fun _ => ?_)
        refine j_iconst C dL_isDried_203 rfl ?_
        refine j_goto (tgt := 208) C dL_isDried_204 rfl ?_
        exact j_zret C E dL_isDried_208 rfl (by omega) (by omega) ⟨rfl, tg, ad, bs, ru, se, pf, hd, ca, evs, ln, g, gm, rfl, hXs, ⟨hA1, hNt, hH⟩, hM1, ⟨hta, htm⟩, by omega⟩
      · refine j_aload_n 1 C dL_isDried_183 rfl rfl rfl ?_
        refine j_iconst C dL_isDried_184 rfl ?_
        refine j_iald C dL_isDried_185 rfl hA1 ⟨by omega, by omega⟩ (by omega) h2 ?_
        refine j_bipush C dL_isDried_186 rfl (by decide) ?_
        refine j_icmp_ne (tgt := 209) C dL_isDried_188 rfl rfl ⟨by omega, by omega⟩ ⟨by omega, by omega⟩ (fun cc13 => ?_) (fun cc13 => ?_)
        · obtain ⟨hev1, hev2, hev3⟩ := dry_ev (ru := ru) (se := se) (pf := pf) (hd := hd) (ln := ln) hO (by omega) hi (x := w) hw80
          refine j_iconst C dL_isDried_209 rfl ?_
          refine j_istore (lv' := [(0, .ref (ad 0)), (1, .ref a), (2, .ref m), (3, vi ((i : Int))), (4, vi (w)), (5, vi ((tot L - tot (dryL (gradeF ru se) w L)))), (6, vi ((sumL (dryC w) L))), (7, vi ((wetI w L))), (8, .ref q), (9, vi (0))]) [1, 2, 3, 4, 5, 6, 7, 8, 9, 0] C dL_isDried_210 rfl rfl rfl ?_
          have cp : ∀ (N : Nat) (k : Nat) (σ2 : Wd) (G : Nat → Int), has σ2 a (iA (kc κ) 2700 G) → has σ2 m (lA (kc κ) 2 gm) → has σ2 q (iA (kc κ) 2700 Q1) → (∀ z : Nat, z < k → G z = Q1 z) → (∀ z : Nat, k ≤ z → G z = g z) → k ≤ 2700 → Keep σ1 σ2 (fun y => y = a) → σ2.1 = σ1.1 → (2701 - k) < N → J κ σ2 [(0, .ref (ad 0)), (1, .ref a), (2, .ref m), (3, vi ((i : Int))), (4, vi (w)), (5, vi ((tot L - tot (dryL (gradeF ru se) w L)))), (6, vi ((sumL (dryC w) L))), (7, vi ((wetI w L))), (8, .ref q), (9, vi ((k : Int)))] 212 [] 1 2700 := by
            intro N3
            induction N3 with
            | zero => intro k σ2 G hA2 hM2 hQ2 hGl hGh hk hk2 hd2 hN3; exact absurd hN3 (Nat.not_lt_zero _)
            | succ N3 ih3 =>
              intro k σ2 G hA2 hM2 hQ2 hGl hGh hk hk2 hd2 hN3
              refine j_iload 9 C dL_isDried_212 rfl rfl ?_
              refine j_aload_n 1 C dL_isDried_214 rfl rfl rfl ?_
              refine j_alen (i := 2) C dL_isDried_215 rfl rfl hA2 ?_
              refine j_icmp_ge (tgt := 234) C dL_isDried_216 rfl rfl ⟨by omega, by omega⟩ ⟨by omega, by omega⟩ (fun cc14 => ?_) (fun cc14 => ?_)
              · have hG : ∀ z : Nat, z < 2700 → G z = Q1 z := fun z hz => hGl z (by omega)
                refine j_locals (lv' := [(0, .ref (ad 0)), (1, .ref a), (2, .ref m), (3, vi ((i : Int))), (4, vi (w)), (5, vi ((tot L - tot (dryL (gradeF ru se) w L)))), (6, vi ((sumL (dryC w) L))), (7, vi ((wetI w L))), (8, .ref q)]) [0, 1, 2, 3, 4, 5, 6, 7, 8] rfl ?_
                have hNG : NetL G (apB (gradeF ru se) bs (100, (i : Int), (i : Int), 0, 0, w, 0)) := by
                  rw [hev2]
                  refine hNt.set hi ?_ (by have := dryL_len (gradeF ru se) w (gB bs (i : Int)).2.2; omega) (dryL_ok (gradeF_in ru se) hw80 hoki) (fun z a1 a2 => ?_)
                  · rw [fl_dry]
                    show Rows G i (dryL (gradeF ru se) w (fl (gB bs (i : Int))))
                    rw [hL]
                    exact hRD.cong (hG _ (by omega)) (fun z a1 a2 => hG z (by omega))
                  · by_cases hz : z < 2700
                    · exact (hG z hz).trans (hOQ z hz a1 a2)
                    · exact hGh z (by omega)
                have hSG : SameH g G := fun z a1 a2 => (hG z (by omega)).trans (hOQ z (by omega) (by omega) (by omega))
                have hHG := hH.same hSG
                have hkT : Keep σ σ2 (fun y => y = a ∨ y = m) := (hkA.mono (fun _ z => z.elim)).tr (hk2.mono (fun _ z => Or.inl z))
                refine j_aload_n 2 C dL_isDried_234 rfl rfl rfl ?_
                refine j_iconst C dL_isDried_235 rfl ?_
                refine j_dup2 C dL_isDried_236 rfl rfl rfl ?_
                refine j_laldE C dL_isDried_237 rfl hM2 ⟨by omega, by omega⟩ (by omega) (fun y15 => ?_)
                refine j_iload 6 C dL_isDried_238 rfl rfl ?_
                refine j_i2lE C dL_isDried_240 rfl (fun y16 => ?_)
                refine j_lsub C dL_isDried_241 rfl ?_
                refine j_last C dL_isDried_242 rfl hM2 ⟨by omega, by omega⟩ (by omega) (fun τ17 ee18 => ?_)
                have u19 := hA2.ne' ee18 (Ne.symm hma)
                have u20 : has τ17 m (lA (kc κ) 2 (ups gm 1 (y15 - y16))) := hM2.self' ee18
                have u21 := hQ2.ne' ee18 (Ne.symm hqm)
                have kp22 := hkT.put ee18 (Or.inr rfl)
                refine j_aload_n 1 C dL_isDried_243 rfl rfl rfl ?_
                refine j_bipush C dL_isDried_244 rfl (by decide) ?_
                have dmX : τ17.1 = τ17.1 := rfl
                have hHn23 := hHG
                refine j_callS (st' := []) (As := [.ref a, vi (100)]) C dL_isDried_246 rfl m_L_142 rfl rfl (c_note (kL κ) hfl (kD κ) (kc κ) τ17 a G u19 (apB (gradeF ru se) bs (100, (i : Int), (i : Int), 0, 0, w, 0)) hNG hev3.2.1 evs.length hHn23.2.1 (by omega) hHn23.2.2.1 ⟨by rw [hHn23.2.2.2.2.1]; omega, by rw [hHn23.2.2.2.2.1]; omega⟩ 100) rfl (by omega) (by omega) (by omega) (fun _ _ hx => hx.elim) (fun v25 τ24 hp26 => ?_)
                obtain ⟨rfl, G23, hG23, ho23, hv23, hk23, hd23⟩ := hp26
                show J κ τ24 [(0, .ref (ad 0)), (1, .ref a), (2, .ref m), (3, vi ((i : Int))), (4, vi (w)), (5, vi ((tot L - tot (dryL (gradeF ru se) w L)))), (6, vi ((sumL (dryC w) L))), (7, vi ((wetI w L))), (8, .ref q)] 249 [] _ _
                have hkk23 := kp22.tr (hk23.mono (fun _ z => Or.inl z))
                have hdd23 := hd23.trans (dmX)
                have hqm23 := hk23 _ _ u20 hma
                have hN23 : NetL G23 (apB (gradeF ru se) bs (100, (i : Int), (i : Int), 0, 0, w, 0)) := hNG.cong2 (fun q h1 h2 => ho23 q h2 (by omega) (by omega) (by omega))
                have hH23 := hHn23.note ho23 hv23
                refine j_aload_n 0 C dL_isDried_249 rfl rfl rfl ?_
                refine j_iload_n 3 C dL_isDried_250 rfl rfl rfl ?_
                refine j_iload 4 C dL_isDried_251 rfl rfl ?_
                obtain ⟨tg2, htg2⟩ : ∃ f : Nat → Nat, tg = f := ⟨_, rfl⟩
                have hta2 : 1000 ≤ tg2 a := by rw [← htg2]; exact hta
                have htm2 : 1000 ≤ tg2 m := by rw [← htg2]; exact htm
                have hX27 := hX0.keep hkk23 (fun y _ z => z.elim (fun z => by rw [z]; exact hta) (fun z => by rw [z]; exact htm))
                rw [htg2] at hX27
                refine j_callSH (st' := []) (As := [.ref (ad 0), vi ((i : Int)), vi (w)]) C dL_isDried_253 rfl m_L_161 rfl rfl (W_dry (kL κ) hfl (kD κ) (kc κ) τ24 tg2 ad bs ru se pf hd ca evs ln hX27 i hi w ⟨by omega, by omega⟩ ⟨by omega, by omega⟩ (by omega) (by omega)) rfl (by omega) (by omega) (by omega) (fun _ _ hx => hx.elim) (fun v29 τ28 hp30 => ?_)
                obtain ⟨rfl, tg', ad', hR9, hT9, hA9, hK9, hM9⟩ := hp30
                show J κ τ28 [(0, .ref (ad 0)), (1, .ref a), (2, .ref m), (3, vi ((i : Int))), (4, vi (w)), (5, vi ((tot L - tot (dryL (gradeF ru se) w L)))), (6, vi ((sumL (dryC w) L))), (7, vi ((wetI w L))), (8, .ref q)] 256 [vi ((tot (gB bs (i : Int)).2.2 - tot (gB (apB (gradeF ru se) bs (100, (i : Int), (i : Int), 0, 0, w, 0)) (i : Int)).2.2))] _ _
                have h9a := hK9 _ _ hG23 (fun z => by have z1 : tg2 a < 1000 := z; omega)
                have h9m := hK9 _ _ hqm23 (fun z => by have z1 : tg2 m < 1000 := z; omega)
                have hta9 : 1000 ≤ tg' a := by rw [hT9 a hG23.1]; exact hta2
                have htm9 : 1000 ≤ tg' m := by rw [hT9 m hqm23.1]; exact htm2
                have hde : tot (gB (apB (gradeF ru se) bs (100, (i : Int), (i : Int), 0, 0, w, 0)) (i : Int)).2.2 = tot (dryL (gradeF ru se) w L) := by
                  have e1 := gB_set (bs := bs) (l := dryL (gradeF ru se) w (gB bs (i : Int)).2.2) (i := (i : Int)) (j := (i : Int)) (by omega) (by omega) (by omega)
                  rw [if_pos rfl] at e1
                  rw [hev2, e1]
                  have e2 := sum_fl (fun x => x.1) ((gB bs (i : Int)).1, (gB bs (i : Int)).2.1, dryL (gradeF ru se) w (gB bs (i : Int)).2.2)
                  rw [fl_dry] at e2
                  rw [← hL]
                  exact e2.symm
                refine j_iload 5 C dL_isDried_256 rfl rfl ?_
                refine j_icmp_ne (tgt := 265) C dL_isDried_258 rfl rfl ⟨by omega, by omega⟩ ⟨by omega, by omega⟩ (fun cc31 => ?_) (fun cc31 => ?_)
                · exact absurd cc31 (by omega)
                · refine j_iconst C dL_isDried_261 rfl ?_
                  refine j_goto (tgt := 266) C dL_isDried_262 rfl ?_
                  exact j_zret C E dL_isDried_266 rfl (by omega) (by omega) ⟨rfl, tg', ad', _, _, _, _, _, _, _, _, _, _, hA9, hR9, ⟨h9a, hN23, by rw [List.length_append, hdF_fu]; exact hH23⟩, h9m, ⟨hta9, htm9⟩, by rw [apB_len]; omega⟩
              · refine j_aload_n 1 C dL_isDried_219 rfl rfl rfl ?_
                refine j_iload 9 C dL_isDried_220 rfl rfl ?_
                refine j_aload 8 C dL_isDried_222 rfl rfl ?_
                refine j_iload 9 C dL_isDried_224 rfl rfl ?_
                obtain ⟨y32, hy32⟩ : ∃ y : Int, Q1 (k : Int).toNat = y := ⟨_, rfl⟩
                refine j_iald C dL_isDried_226 rfl hQ2 ⟨by omega, by omega⟩ (by omega) hy32 ?_
                refine j_iast C dL_isDried_227 rfl hA2 ⟨by omega, by omega⟩ (by omega) (fun τ33 ee34 => ?_)
                have u35 : has τ33 a (iA (kc κ) 2700 (ups G (k : Int).toNat y32)) := hA2.self' ee34
                have u36 := hM2.ne' ee34 hma
                have u37 := hQ2.ne' ee34 hqa
                have kp38 := hk2.put ee34 rfl
                have dm39 := (dom_put ee34).trans hd2
                refine j_iinc (y := (k : Int) + 1) (lv' := [(0, .ref (ad 0)), (1, .ref a), (2, .ref m), (3, vi ((i : Int))), (4, vi (w)), (5, vi ((tot L - tot (dryL (gradeF ru se) w L)))), (6, vi ((sumL (dryC w) L))), (7, vi ((wetI w L))), (8, .ref q), (9, vi ((k : Int) + 1))]) 9 [1, 2, 3, 4, 5, 6, 7, 8, 9, 0] C dL_isDried_228 rfl rfl rfl rfl rfl ?_
                refine j_goto (tgt := 212) C dL_isDried_231 rfl ?_
                refine ih3 (k + 1) τ33 _ u35 u36 u37 (fun z hz => ?_) (fun z hz => ?_) (by omega) kp38 dm39 (by omega)
                · unfold ups
                  by_cases e : z = (k : Int).toNat
                  · rw [if_pos e, ← hy32, e]
                  · rw [if_neg e]
                    exact hGl z (by omega)
                · rw [ups_n (by omega)]
                  exact hGh z (by omega)
          exact cp _ 0 σ1 g hA1 hM1 hQ1 (fun z hz => absurd hz (Nat.not_lt_zero _)) (fun z _ => rfl) (by omega) Keep.rf rfl (Nat.lt_succ_self _)
        · refine j_aload_n 0 C dL_isDried_191 rfl rfl rfl ?_
          refine j_iload_n 3 C dL_isDried_192 rfl rfl rfl ?_
          refine j_iload 4 C dL_isDried_193 rfl rfl ?_
          refine j_callSH (st' := []) (As := [.ref (ad 0), vi ((i : Int)), vi (w)]) C dL_isDried_195 rfl m_L_161 rfl rfl (W_dryB2 (kL κ) hfl (kD κ) (kc κ) σ1 tg ad bs ru se pf hd ca evs ln hXs i hi w ⟨by omega, by omega⟩ ⟨by omega, by omega⟩ (by omega)) rfl (by omega) (by omega) (by omega) (fun _ _ hx => hx.elim) (fun v41 τ40 hp42 => ?_)
          obtain ⟨rfl, hs9⟩ := hp42
          replace hs9 := hs9.symm
          subst hs9
          show J κ σ1 [(0, .ref (ad 0)), (1, .ref a), (2, .ref m), (3, vi ((i : Int))), (4, vi (w)), (5, vi ((tot L - tot (dryL (gradeF ru se) w L)))), (6, vi ((sumL (dryC w) L))), (7, vi ((wetI w L))), (8, .ref q)] 198 [vi ((-900003))] _ _
          refine j_ldc (z := (-900003)) C dL_isDried_198 rfl kc_L_44 ?_
          refine j_icmp_ne (tgt := 207) C dL_isDried_200 rfl rfl ⟨by omega, by omega⟩ ⟨by omega, by omega⟩ (fun cc43 => absurd cc43 (by decide)) (fun _ => ?_)
          refine j_iconst C dL_isDried_203 rfl ?_
          refine j_goto (tgt := 208) C dL_isDried_204 rfl ?_
          exact j_zret C E dL_isDried_208 rfl (by omega) (by omega) ⟨rfl, tg, ad, bs, ru, se, pf, hd, ca, evs, ln, g, gm, rfl, hXs, ⟨hA1, hNt, hH⟩, hM1, ⟨hta, htm⟩, by omega⟩
    · exact absurd cc7 (fun q => q rfl)
  have lp : ∀ (N : Nat) (u : List Ly) (D : List Ly) (σ1 : Wd) (Q1 : Nat → Int), L = u ++ D → has σ1 a (iA (kc κ) 2700 g) → has σ1 m (lA (kc κ) 2 gm) → has σ1 q (iA (kc κ) 2700 Q1) → Rows Q1 i (u ++ dryL (gradeF ru se) w D) → OthL g Q1 i → Keep τ1 σ1 (fun y => y = q) → σ1.1 = τ1.1 → u.length < N → J κ σ1 [(0, .ref (ad 0)), (1, .ref a), (2, .ref m), (3, vi ((i : Int))), (4, vi (w)), (5, vi ((tot D - tot (dryL (gradeF ru se) w D)))), (6, vi ((sumL (dryC w) D))), (7, vi ((wetI w D))), (8, .ref q), (9, vi (((u.length : Int) - 1)))] 25 [] 1 2700 := by
    intro N
    induction N with
    | zero => intro u D σ1 Q1 hLu hA1 hM1 hQ1 hRQ hOQ hk1 hd1 hN; exact absurd hN (Nat.not_lt_zero _)
    | succ N ih =>
      intro u D σ1 Q1 hLu hA1 hM1 hQ1 hRQ hOQ hk1 hd1 hN
      have hlu : u.length ≤ 80 := by have := congrArg List.length hLu; rw [List.length_append] at this; omega
      have hDu : D.length ≤ 80 := by have := congrArg List.length hLu; rw [List.length_append] at this; omega
      have hokD : lysOk D := fun y hy => hokL y (by rw [hLu]; exact List.mem_append_right _ hy)
      refine j_iload 9 C dL_isDried_25 rfl rfl ?_
      refine j_if_lt (tgt := 164) C dL_isDried_27 rfl rfl ⟨by omega, by omega⟩ (fun cc44 => ?_) (fun cc44 => ?_)
      · have hu0 : u = [] := List.eq_nil_of_length_eq_zero (by omega)
        subst hu0
        have hLD : L = D := hLu
        subst hLD
        refine j_locals (lv' := [(0, .ref (ad 0)), (1, .ref a), (2, .ref m), (3, vi ((i : Int))), (4, vi (w)), (5, vi ((tot L - tot (dryL (gradeF ru se) w L)))), (6, vi ((sumL (dryC w) L))), (7, vi ((wetI w L))), (8, .ref q)]) [0, 1, 2, 3, 4, 5, 6, 7, 8] rfl ?_
        exact tail σ1 Q1 hA1 hM1 hQ1 hRQ hOQ hk1 hd1
      · obtain ⟨u, x, rfl⟩ : ∃ (v : List Ly) (x : Ly), u = v ++ [x] := by
          rcases List.eq_nil_or_concat u with e | ⟨v, x, e⟩
          · rw [e] at cc44
            exact absurd cc44 (by decide)
          · exact ⟨v, x, by rw [e, List.concat_eq_append]⟩
        have hlx : ((u ++ [x]).length : Int) = (u.length : Int) + 1 := by rw [List.length_append]; rfl
        have hLx : L = u ++ x :: D := by rw [hLu, List.append_assoc]; rfl
        have hul : u.length + (D.length + 1) = L.length := by rw [hLx, List.length_append, List.length_cons]
        have hxo := hokL x (by rw [hLx]; exact List.mem_append_right _ List.mem_cons_self)
        obtain ⟨⟨hx1, hx2⟩, ⟨hx3, hx4⟩, ⟨hx5, hx6⟩, hx7, hx8⟩ := id hxo
        have hRx := hR
        rw [hLx] at hRx
        have hRQx : Rows Q1 i (u ++ x :: dryL (gradeF ru se) w D) := by have e := hRQ; rw [List.append_assoc] at e; exact e
        refine j_locals (lv' := [(0, .ref (ad 0)), (1, .ref a), (2, .ref m), (3, vi ((i : Int))), (4, vi (w)), (5, vi ((tot D - tot (dryL (gradeF ru se) w D)))), (6, vi ((sumL (dryC w) D))), (7, vi ((wetI w D))), (8, .ref q), (9, vi ((u.length : Int)))]) [0, 1, 2, 3, 4, 5, 6, 7, 8, 9] (by rw [hlx, show (u.length : Int) + 1 - 1 = (u.length : Int) by omega]; rfl) ?_
        have hwf0 := wetF_0 (w := w) hokD
        have htc : tot (x :: D) = x.1 + tot D := rfl
        have hcc9 : sumL (dryC w) (x :: D) = dryC w x + sumL (dryC w) D := rfl
        have hww : sumL (wetF w) (x :: D) = wetF w x + sumL (wetF w) D := rfl
        refine j_iload_n 3 C dL_isDried_30 rfl rfl rfl ?_
        refine j_iload 9 C dL_isDried_31 rfl rfl ?_
        refine j_callS (st' := []) (As := [vi ((i : Int)), vi ((u.length : Int))]) C dL_isDried_33 rfl m_L_102 rfl rfl (c_at (kL κ) hfl (kD κ) (kc κ) σ1 (i : Int) (u.length : Int)) rfl (by omega) (by omega) (by omega) (fun _ _ hx => hx.elim) (fun v46 τ45 hp47 => ?_)
        obtain ⟨rfl, hs9⟩ := hp47
        replace hs9 := hs9.symm
        subst hs9
        show J κ σ1 [(0, .ref (ad 0)), (1, .ref a), (2, .ref m), (3, vi ((i : Int))), (4, vi (w)), (5, vi ((tot D - tot (dryL (gradeF ru se) w D)))), (6, vi ((sumL (dryC w) D))), (7, vi ((wetI w D))), (8, .ref q), (9, vi ((u.length : Int)))] 36 [vi ((260 + 400 * (i : Int) + 4 * (u.length : Int)))] _ _
        refine j_istore (lv' := [(0, .ref (ad 0)), (1, .ref a), (2, .ref m), (3, vi ((i : Int))), (4, vi (w)), (5, vi ((tot D - tot (dryL (gradeF ru se) w D)))), (6, vi ((sumL (dryC w) D))), (7, vi ((wetI w D))), (8, .ref q), (9, vi ((u.length : Int))), (10, vi ((260 + 400 * (i : Int) + 4 * (u.length : Int))))]) [1, 2, 3, 4, 5, 6, 7, 8, 9, 10, 0] C dL_isDried_36 rfl rfl rfl ?_
        refine j_aload_n 1 C dL_isDried_38 rfl rfl rfl ?_
        refine j_iload 10 C dL_isDried_39 rfl rfl ?_
        refine j_iconst C dL_isDried_41 rfl ?_
        refine j_iadd C dL_isDried_42 rfl ?_
        refine j_iald C dL_isDried_43 rfl hA1 ⟨by omega, by omega⟩ (by omega) (hRx.m1 (z := (260 + 400 * (i : Int) + 4 * (u.length : Int)) + 1) rfl) ?_
        refine j_iload 4 C dL_isDried_44 rfl rfl ?_
        refine j_icmp_le (tgt := 158) C dL_isDried_46 rfl rfl ⟨by omega, by omega⟩ ⟨by omega, by omega⟩ (fun cc48 => ?_) (fun cc48 => ?_)
        · have hnw : ¬ w < x.2.1 := by omega
          have hdn := dryL_not (gr := (gradeF ru se)) (l := D) hnw
          have hq0 : dryC w x = 0 := if_neg (by omega)
          have hq1 : wetF w x = 0 := if_neg hnw
          have f1 : tot (x :: D) - tot (dryL (gradeF ru se) w (x :: D)) = tot D - tot (dryL (gradeF ru se) w D) := by rw [hdn, htc, show tot (x :: dryL (gradeF ru se) w D) = x.1 + tot (dryL (gradeF ru se) w D) from rfl]; omega
          have f2 : sumL (dryC w) (x :: D) = sumL (dryC w) D := by omega
          have f3 : wetI w (x :: D) = wetI w D := by unfold wetI; rw [hww, hq1, Int.zero_add]
          have hRN : Rows Q1 i (u ++ dryL (gradeF ru se) w (x :: D)) := by rw [hdn]; exact hRQx
          refine j_iinc (y := (u.length : Int) + (-1)) (lv' := [(0, .ref (ad 0)), (1, .ref a), (2, .ref m), (3, vi ((i : Int))), (4, vi (w)), (5, vi ((tot D - tot (dryL (gradeF ru se) w D)))), (6, vi ((sumL (dryC w) D))), (7, vi ((wetI w D))), (8, .ref q), (9, vi ((u.length : Int) + (-1))), (10, vi ((260 + 400 * (i : Int) + 4 * (u.length : Int))))]) 9 [1, 2, 3, 4, 5, 6, 7, 8, 9, 0, 10] C dL_isDried_158 rfl rfl rfl rfl rfl ?_
          refine j_goto (tgt := 25) C dL_isDried_161 rfl ?_
          refine j_locals (lv' := [(0, .ref (ad 0)), (1, .ref a), (2, .ref m), (3, vi ((i : Int))), (4, vi (w)), (5, vi ((tot D - tot (dryL (gradeF ru se) w D)))), (6, vi ((sumL (dryC w) D))), (7, vi ((wetI w D))), (8, .ref q), (9, vi ((u.length : Int) + (-1)))]) [0, 1, 2, 3, 4, 5, 6, 7, 8, 9] rfl ?_
          refine j_locals (lv' := [(0, .ref (ad 0)), (1, .ref a), (2, .ref m), (3, vi ((i : Int))), (4, vi (w)), (5, vi ((tot (x :: D) - tot (dryL (gradeF ru se) w (x :: D))))), (6, vi ((sumL (dryC w) (x :: D)))), (7, vi ((wetI w (x :: D)))), (8, .ref q), (9, vi (((u.length : Int) - 1)))]) [0, 1, 2, 3, 4, 5, 6, 7, 8, 9] (by rw [f1, f2, f3, show (u.length : Int) + (-1) = (u.length : Int) - 1 by omega]; rfl) ?_
          exact ih u (x :: D) σ1 Q1 hLx hA1 hM1 hQ1 hRN hOQ hk1 hd1 (by rw [List.length_append] at hN; have h9 : u.length + 1 < N + 1 := hN; omega)
        · have hyw : w < x.2.1 := by omega
          have hdn := dryN_in hxo hw80 hyw
          have hpc := prod_in (n := x.1) (p := x.2.1 - w) (N := 2000) (M := 220) ⟨by omega, by omega⟩ ⟨by omega, by omega⟩
          refine j_aload_n 1 C dL_isDried_49 rfl rfl rfl ?_
          refine j_iload 10 C dL_isDried_50 rfl rfl ?_
          refine j_iald C dL_isDried_52 rfl hA1 ⟨by omega, by omega⟩ (by omega) (hRx.m0 (z := (260 + 400 * (i : Int) + 4 * (u.length : Int))) rfl) ?_
          refine j_sipush C dL_isDried_53 rfl (by decide) ?_
          refine j_aload_n 1 C dL_isDried_56 rfl rfl rfl ?_
          refine j_iload 10 C dL_isDried_57 rfl rfl ?_
          refine j_iconst C dL_isDried_59 rfl ?_
          refine j_iadd C dL_isDried_60 rfl ?_
          refine j_iald C dL_isDried_61 rfl hA1 ⟨by omega, by omega⟩ (by omega) (hRx.m1 (z := (260 + 400 * (i : Int) + 4 * (u.length : Int)) + 1) rfl) ?_
          refine j_isub C dL_isDried_62 rfl ?_
          refine j_imul C dL_isDried_63 rfl ?_
          refine j_sipush C dL_isDried_64 rfl (by decide) ?_
          refine j_iload 4 C dL_isDried_67 rfl rfl ?_
          refine j_isub C dL_isDried_69 rfl ?_
          refine j_idiv C dL_isDried_70 rfl ⟨hdn.2.2.1, by omega⟩ ⟨by omega, by omega⟩ ?_
          obtain ⟨kp, hkp⟩ : ∃ z : Int, dryN w x = z := ⟨_, rfl⟩
          rw [hkp] at hdn
          refine j_eq_st (st' := [vi (kp)]) (by rw [← hkp]; rfl) ?_
          refine j_istore (lv' := [(0, .ref (ad 0)), (1, .ref a), (2, .ref m), (3, vi ((i : Int))), (4, vi (w)), (5, vi ((tot D - tot (dryL (gradeF ru se) w D)))), (6, vi ((sumL (dryC w) D))), (7, vi ((wetI w D))), (8, .ref q), (9, vi ((u.length : Int))), (10, vi ((260 + 400 * (i : Int) + 4 * (u.length : Int)))), (11, vi (kp))]) [1, 2, 3, 4, 5, 6, 7, 8, 9, 10, 11, 0] C dL_isDried_71 rfl rfl rfl ?_
          refine j_iconst C dL_isDried_73 rfl ?_
          refine j_istore (lv' := [(0, .ref (ad 0)), (1, .ref a), (2, .ref m), (3, vi ((i : Int))), (4, vi (w)), (5, vi ((tot D - tot (dryL (gradeF ru se) w D)))), (6, vi ((sumL (dryC w) D))), (7, vi (1)), (8, .ref q), (9, vi ((u.length : Int))), (10, vi ((260 + 400 * (i : Int) + 4 * (u.length : Int)))), (11, vi (kp))]) [1, 2, 3, 4, 5, 6, 7, 0, 8, 9, 10, 11] C dL_isDried_74 rfl rfl rfl ?_
          refine j_iload 5 C dL_isDried_76 rfl rfl ?_
          refine j_aload_n 1 C dL_isDried_78 rfl rfl rfl ?_
          refine j_iload 10 C dL_isDried_79 rfl rfl ?_
          refine j_iald C dL_isDried_81 rfl hA1 ⟨by omega, by omega⟩ (by omega) (hRx.m0 (z := (260 + 400 * (i : Int) + 4 * (u.length : Int))) rfl) ?_
          refine j_iload 11 C dL_isDried_82 rfl rfl ?_
          refine j_isub C dL_isDried_84 rfl ?_
          refine j_iadd C dL_isDried_85 rfl ?_
          refine j_istore (lv' := [(0, .ref (ad 0)), (1, .ref a), (2, .ref m), (3, vi ((i : Int))), (4, vi (w)), (5, vi ((tot D - tot (dryL (gradeF ru se) w D)) + (x.1 - kp))), (6, vi ((sumL (dryC w) D))), (7, vi (1)), (8, .ref q), (9, vi ((u.length : Int))), (10, vi ((260 + 400 * (i : Int) + 4 * (u.length : Int)))), (11, vi (kp))]) [1, 2, 3, 4, 5, 0, 6, 7, 8, 9, 10, 11] C dL_isDried_86 rfl rfl rfl ?_
          refine j_iload 6 C dL_isDried_88 rfl rfl ?_
          refine j_aload_n 1 C dL_isDried_90 rfl rfl rfl ?_
          refine j_iload 10 C dL_isDried_91 rfl rfl ?_
          refine j_iald C dL_isDried_93 rfl hA1 ⟨by omega, by omega⟩ (by omega) (hRx.m0 (z := (260 + 400 * (i : Int) + 4 * (u.length : Int))) rfl) ?_
          refine j_aload_n 1 C dL_isDried_94 rfl rfl rfl ?_
          refine j_iload 10 C dL_isDried_95 rfl rfl ?_
          refine j_iconst C dL_isDried_97 rfl ?_
          refine j_iadd C dL_isDried_98 rfl ?_
          refine j_iald C dL_isDried_99 rfl hA1 ⟨by omega, by omega⟩ (by omega) (hRx.m1 (z := (260 + 400 * (i : Int) + 4 * (u.length : Int)) + 1) rfl) ?_
          refine j_iload 4 C dL_isDried_100 rfl rfl ?_
          refine j_isub C dL_isDried_102 rfl ?_
          refine j_imul C dL_isDried_103 rfl ?_
          refine j_bipush C dL_isDried_104 rfl (by decide) ?_
          refine j_idiv C dL_isDried_106 rfl ⟨by omega, by omega⟩ ⟨by omega, by omega⟩ ?_
          refine j_iadd C dL_isDried_107 rfl ?_
          refine j_istore (lv' := [(0, .ref (ad 0)), (1, .ref a), (2, .ref m), (3, vi ((i : Int))), (4, vi (w)), (5, vi ((tot D - tot (dryL (gradeF ru se) w D)) + (x.1 - kp))), (6, vi ((sumL (dryC w) D) + ((x.1 * (x.2.1 - w)) / 10))), (7, vi (1)), (8, .ref q), (9, vi ((u.length : Int))), (10, vi ((260 + 400 * (i : Int) + 4 * (u.length : Int)))), (11, vi (kp))]) [1, 2, 3, 4, 5, 6, 0, 7, 8, 9, 10, 11] C dL_isDried_108 rfl rfl rfl ?_
          refine j_aload 8 C dL_isDried_110 rfl rfl ?_
          refine j_iload 10 C dL_isDried_112 rfl rfl ?_
          refine j_iload 11 C dL_isDried_114 rfl rfl ?_
          refine j_iast C dL_isDried_116 rfl hQ1 ⟨by omega, by omega⟩ (by omega) (fun τ49 ee50 => ?_)
          have u51 := hA1.ne' ee50 (Ne.symm hqa)
          have u52 := hM1.ne' ee50 hqm
          have u53 : has τ49 q (iA (kc κ) 2700 (ups Q1 (260 + 400 * (i : Int) + 4 * (u.length : Int)).toNat kp)) := hQ1.self' ee50
          have kp54 := hk1.put ee50 rfl
          have dm55 := (dom_put ee50).trans hd1
          refine j_aload 8 C dL_isDried_117 rfl rfl ?_
          refine j_iload 10 C dL_isDried_119 rfl rfl ?_
          refine j_iconst C dL_isDried_121 rfl ?_
          refine j_iadd C dL_isDried_122 rfl ?_
          refine j_iload 4 C dL_isDried_123 rfl rfl ?_
          refine j_iast C dL_isDried_125 rfl u53 ⟨by omega, by omega⟩ (by omega) (fun τ56 ee57 => ?_)
          have u58 := u51.ne' ee57 (Ne.symm hqa)
          have u59 := u52.ne' ee57 hqm
          have u60 : has τ56 q (iA (kc κ) 2700 (ups (ups Q1 (260 + 400 * (i : Int) + 4 * (u.length : Int)).toNat kp) ((260 + 400 * (i : Int) + 4 * (u.length : Int)) + 1).toNat w)) := u53.self' ee57
          have kp61 := kp54.put ee57 rfl
          have dm62 := (dom_put ee57).trans dm55
          refine j_aload 8 C dL_isDried_126 rfl rfl ?_
          refine j_iload 10 C dL_isDried_128 rfl rfl ?_
          refine j_iconst C dL_isDried_130 rfl ?_
          refine j_iadd C dL_isDried_131 rfl ?_
          refine j_aload_n 1 C dL_isDried_132 rfl rfl rfl ?_
          refine j_iload 4 C dL_isDried_133 rfl rfl ?_
          refine j_aload_n 1 C dL_isDried_135 rfl rfl rfl ?_
          refine j_iload 10 C dL_isDried_136 rfl rfl ?_
          refine j_iconst C dL_isDried_138 rfl ?_
          refine j_iadd C dL_isDried_139 rfl ?_
          refine j_iald C dL_isDried_140 rfl u58 ⟨by omega, by omega⟩ (by omega) (hRx.m2 (z := (260 + 400 * (i : Int) + 4 * (u.length : Int)) + 2) rfl) ?_
          refine j_callS (st' := [vi ((260 + 400 * (i : Int) + 4 * (u.length : Int)) + 3), .ref q]) (As := [.ref a, vi (w), vi (x.2.2.1)]) C dL_isDried_141 rfl m_L_139 rfl rfl (c_graded (kL κ) hfl (kD κ) (kc κ) τ56 a g u58 ru se hRu w x.2.2.1 ⟨by omega, by omega⟩ ⟨by omega, by omega⟩) rfl (by omega) (by omega) (by omega) (fun _ _ hx => hx.elim) (fun v64 τ63 hp65 => ?_)
          obtain ⟨rfl, hs9⟩ := hp65
          replace hs9 := hs9.symm
          subst hs9
          show J κ τ56 [(0, .ref (ad 0)), (1, .ref a), (2, .ref m), (3, vi ((i : Int))), (4, vi (w)), (5, vi ((tot D - tot (dryL (gradeF ru se) w D)) + (x.1 - kp))), (6, vi ((sumL (dryC w) D) + ((x.1 * (x.2.1 - w)) / 10))), (7, vi (1)), (8, .ref q), (9, vi ((u.length : Int))), (10, vi ((260 + 400 * (i : Int) + 4 * (u.length : Int)))), (11, vi (kp))] 144 [vi ((gradeF ru se w x.2.2.1)), vi ((260 + 400 * (i : Int) + 4 * (u.length : Int)) + 3), .ref q] _ _
          refine j_iast C dL_isDried_144 rfl u60 ⟨by omega, by omega⟩ (by omega) (fun τ66 ee67 => ?_)
          have u68 := u58.ne' ee67 (Ne.symm hqa)
          have u69 := u59.ne' ee67 hqm
          have u70 : has τ66 q (iA (kc κ) 2700 (ups (ups (ups Q1 (260 + 400 * (i : Int) + 4 * (u.length : Int)).toNat kp) ((260 + 400 * (i : Int) + 4 * (u.length : Int)) + 1).toNat w) ((260 + 400 * (i : Int) + 4 * (u.length : Int)) + 3).toNat (gradeF ru se w x.2.2.1))) := u60.self' ee67
          have kp71 := kp61.put ee67 rfl
          have dm72 := (dom_put ee67).trans dm62
          refine j_iload 11 C dL_isDried_145 rfl rfl ?_
          obtain ⟨Q2, hQ2⟩ : ∃ f : Nat → Int, (ups (ups (ups Q1 (260 + 400 * (i : Int) + 4 * (u.length : Int)).toNat kp) ((260 + 400 * (i : Int) + 4 * (u.length : Int)) + 1).toNat w) ((260 + 400 * (i : Int) + 4 * (u.length : Int)) + 3).toNat (gradeF ru se w x.2.2.1)) = f := ⟨_, rfl⟩
          have hQQ := u70
          rw [hQ2] at hQQ
          have q0 : Q2 (260 + 400 * i + 4 * u.length) = kp := by rw [← hQ2, ups_n (by omega), ups_n (by omega)]; exact ups_u (by omega)
          have q1 : Q2 (260 + 400 * i + 4 * u.length + 1) = w := by rw [← hQ2, ups_n (by omega)]; exact ups_u (by omega)
          have q3 : Q2 (260 + 400 * i + 4 * u.length + 3) = gradeF ru se w x.2.2.1 := by rw [← hQ2]; exact ups_u (by omega)
          have qo : ∀ z : Nat, z ≠ 260 + 400 * i + 4 * u.length → z ≠ 260 + 400 * i + 4 * u.length + 1 → z ≠ 260 + 400 * i + 4 * u.length + 3 → Q2 z = Q1 z := fun z a1 a2 a3 => by rw [← hQ2, ups_n (by omega), ups_n (by omega), ups_n (by omega)]
          have hR2 := hRQx.put3 (G := Q2) (qo _ (by omega) (by omega) (by omega)) q0 q1 q3 (fun z _ a1 a2 a3 => qo z a1 a2 a3)
          have hO2 : OthL g Q2 i := fun z a0 a1 a2 => (qo z (by omega) (by omega) (by omega)).trans (hOQ z a0 a1 a2)
          have hdd := dryL_dry (gr := (gradeF ru se)) (l := D) hyw
          rw [hkp] at hdd
          have hq0 : dryC w x = x.1 * (x.2.1 - w) / 10 := if_pos (by omega)
          have hq1 : wetF w x = x.1 := if_pos hyw
          have f2 : sumL (dryC w) (x :: D) = sumL (dryC w) D + x.1 * (x.2.1 - w) / 10 := by omega
          have f3 : wetI w (x :: D) = 1 := by unfold wetI; rw [if_neg (by omega)]
          refine j_if_ne (tgt := 158) C dL_isDried_147 rfl rfl ⟨by omega, by omega⟩ (fun cc73 => ?_) (fun cc73 => ?_)
          · rw [if_neg (by omega)] at hdd
            have f1 : tot (x :: D) - tot (dryL (gradeF ru se) w (x :: D)) = tot D - tot (dryL (gradeF ru se) w D) + (x.1 - kp) := by rw [hdd, htc, show tot ((kp, w, x.2.2.1, gradeF ru se w x.2.2.1) :: dryL (gradeF ru se) w D) = kp + tot (dryL (gradeF ru se) w D) from rfl]; omega
            have hRN : Rows Q2 i (u ++ dryL (gradeF ru se) w (x :: D)) := by rw [hdd]; exact hR2
            refine j_locals (lv' := [(0, .ref (ad 0)), (1, .ref a), (2, .ref m), (3, vi ((i : Int))), (4, vi (w)), (5, vi ((tot D - tot (dryL (gradeF ru se) w D)) + (x.1 - kp))), (6, vi ((sumL (dryC w) D) + ((x.1 * (x.2.1 - w)) / 10))), (7, vi (1)), (8, .ref q), (9, vi ((u.length : Int)))]) [0, 1, 2, 3, 4, 5, 6, 7, 8, 9] rfl ?_
            refine j_iinc (y := (u.length : Int) + (-1)) (lv' := [(0, .ref (ad 0)), (1, .ref a), (2, .ref m), (3, vi ((i : Int))), (4, vi (w)), (5, vi ((tot D - tot (dryL (gradeF ru se) w D)) + (x.1 - kp))), (6, vi ((sumL (dryC w) D) + ((x.1 * (x.2.1 - w)) / 10))), (7, vi (1)), (8, .ref q), (9, vi ((u.length : Int) + (-1)))]) 9 [1, 2, 3, 4, 5, 6, 7, 8, 9, 0] C dL_isDried_158 rfl rfl rfl rfl rfl ?_
            refine j_goto (tgt := 25) C dL_isDried_161 rfl ?_
            refine j_locals (lv' := [(0, .ref (ad 0)), (1, .ref a), (2, .ref m), (3, vi ((i : Int))), (4, vi (w)), (5, vi ((tot (x :: D) - tot (dryL (gradeF ru se) w (x :: D))))), (6, vi ((sumL (dryC w) (x :: D)))), (7, vi ((wetI w (x :: D)))), (8, .ref q), (9, vi (((u.length : Int) - 1)))]) [0, 1, 2, 3, 4, 5, 6, 7, 8, 9] (by rw [f1, f2, f3, show (u.length : Int) + (-1) = (u.length : Int) - 1 by omega]; rfl) ?_
            exact ih u (x :: D) τ66 Q2 hLx u68 u69 hQQ hRN hO2 kp71 dm72 (by rw [List.length_append] at hN; have h9 : u.length + 1 < N + 1 := hN; omega)
          · rw [if_pos (by omega)] at hdd
            have f1 : tot (x :: D) - tot (dryL (gradeF ru se) w (x :: D)) = tot D - tot (dryL (gradeF ru se) w D) + (x.1 - kp) := by rw [hdd, htc]; omega
            refine j_aload 8 C dL_isDried_150 rfl rfl ?_
            refine j_iload_n 3 C dL_isDried_152 rfl rfl rfl ?_
            refine j_iload 9 C dL_isDried_153 rfl rfl ?_
            have hdl := dryL_len (gradeF ru se) w D
            have hn2 : Q2 (30 + i) = ((u.length + (dryL (gradeF ru se) w D).length : Nat) : Int) + 1 := by rw [hR2.1, List.length_append, List.length_cons]; omega
            refine j_callS (st' := []) (As := [.ref q, vi ((i : Int)), vi ((u.length : Int))]) C dL_isDried_155 rfl m_L_109 rfl rfl (c_dropFirst (kL κ) hfl (kD κ) (kc κ) τ66 q Q2 hQQ i (by omega) (u.length + (dryL (gradeF ru se) w D).length) u.length hn2 ⟨by omega, by omega⟩) rfl (by omega) (by omega) (by omega) (fun _ _ hx => hx.elim) (fun v75 τ74 hp76 => ?_)
            obtain ⟨rfl, hQ4, hk4, hd4⟩ := hp76
            obtain ⟨Q3, hq3⟩ : ∃ f : Nat → Int, drp (260 + 400 * i + 4 * u.length) (260 + 400 * i + 4 * (u.length + (dryL (gradeF ru se) w D).length)) (ups Q2 (30 + i) ((u.length + (dryL (gradeF ru se) w D).length : Nat) : Int)) = f := ⟨_, rfl⟩
            rw [hq3] at hQ4
            have hA4 := hk4 _ _ u68 (Ne.symm hqa)
            have hM4 := hk4 _ _ u69 hqm
            have hk5 := kp71.tr hk4
            have hd5 := hd4.trans (dm72)
            show J κ τ74 [(0, .ref (ad 0)), (1, .ref a), (2, .ref m), (3, vi ((i : Int))), (4, vi (w)), (5, vi ((tot D - tot (dryL (gradeF ru se) w D)) + (x.1 - kp))), (6, vi ((sumL (dryC w) D) + ((x.1 * (x.2.1 - w)) / 10))), (7, vi (1)), (8, .ref q), (9, vi ((u.length : Int))), (10, vi ((260 + 400 * (i : Int) + 4 * (u.length : Int)))), (11, vi (kp))] 158 [] _ _
            have hRN : Rows Q3 i (u ++ dryL (gradeF ru se) w (x :: D)) := by
              rw [hdd]
              refine Rows.drop hR2 ?_ (fun k hk => rowN_cong (fun c hc => ?_)) (fun k hk => rowN_cong (fun c hc => ?_))
              · rw [← hq3]; unfold drp; rw [if_neg (by omega), ups_s]; omega
              · rw [← hq3]; unfold drp; rw [if_neg (by omega), ups_n (by omega)]
              · rw [← hq3]; unfold drp; rw [if_pos (by omega), ups_n (by omega), show 260 + 400 * i + 4 * (u.length + k) + c + 4 = 260 + 400 * i + 4 * (u.length + k + 1) + c by omega]
            have hO3 : OthL g Q3 i := fun z a0 a1 a2 => by rw [← hq3]; unfold drp; rw [if_neg (by omega), ups_n (by omega)]; exact hO2 z a0 a1 a2
            refine j_locals (lv' := [(0, .ref (ad 0)), (1, .ref a), (2, .ref m), (3, vi ((i : Int))), (4, vi (w)), (5, vi ((tot D - tot (dryL (gradeF ru se) w D)) + (x.1 - kp))), (6, vi ((sumL (dryC w) D) + ((x.1 * (x.2.1 - w)) / 10))), (7, vi (1)), (8, .ref q), (9, vi ((u.length : Int)))]) [0, 1, 2, 3, 4, 5, 6, 7, 8, 9] rfl ?_
            refine j_iinc (y := (u.length : Int) + (-1)) (lv' := [(0, .ref (ad 0)), (1, .ref a), (2, .ref m), (3, vi ((i : Int))), (4, vi (w)), (5, vi ((tot D - tot (dryL (gradeF ru se) w D)) + (x.1 - kp))), (6, vi ((sumL (dryC w) D) + ((x.1 * (x.2.1 - w)) / 10))), (7, vi (1)), (8, .ref q), (9, vi ((u.length : Int) + (-1)))]) 9 [1, 2, 3, 4, 5, 6, 7, 8, 9, 0] C dL_isDried_158 rfl rfl rfl rfl rfl ?_
            refine j_goto (tgt := 25) C dL_isDried_161 rfl ?_
            refine j_locals (lv' := [(0, .ref (ad 0)), (1, .ref a), (2, .ref m), (3, vi ((i : Int))), (4, vi (w)), (5, vi ((tot (x :: D) - tot (dryL (gradeF ru se) w (x :: D))))), (6, vi ((sumL (dryC w) (x :: D)))), (7, vi ((wetI w (x :: D)))), (8, .ref q), (9, vi (((u.length : Int) - 1)))]) [0, 1, 2, 3, 4, 5, 6, 7, 8, 9] (by rw [f1, f2, f3, show (u.length : Int) + (-1) = (u.length : Int) - 1 by omega]; rfl) ?_
            exact ih u (x :: D) τ74 Q3 hLx hA4 hM4 hQ4 hRN hO3 hk5 hd5 (by rw [List.length_append] at hN; have h9 : u.length + 1 < N + 1 := hN; omega)
  refine j_locals (lv' := [(0, .ref (ad 0)), (1, .ref a), (2, .ref m), (3, vi ((i : Int))), (4, vi (w)), (5, vi ((tot [] - tot (dryL (gradeF ru se) w [])))), (6, vi ((sumL (dryC w) []))), (7, vi ((wetI w []))), (8, .ref q), (9, vi (((L.length : Int) - 1)))]) [0, 1, 2, 3, 4, 5, 6, 7, 8, 9] (by rw [show tot [] - tot (dryL (gradeF ru se) w []) = 0 from rfl, show wetI w [] = 0 from rfl]; rfl) ?_
  exact lp _ L [] τ1 Q (List.append_nil L).symm hAq hMq hQ (by show Rows Q i (L ++ []); rw [List.append_nil]; exact hR.cong (hQe _ (by omega)) (fun z a1 a2 => hQe z (by omega))) (fun z a0 a1 a2 => hQe z a0) Keep.rf rfl (Nat.lt_succ_self _)
