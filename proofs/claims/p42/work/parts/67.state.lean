/-! the law's own: what holds between two deeds; isBin, isLoaded, isMoved -/
/-- the head of the net -/
def NetH (g : Nat → Int) (ru : Nat → Int × Int) (se : Int) (pf : Nat → Int) (ne : Nat) (fu ow : Int) : Prop := RuN g ru se ∧ g 2 = (ne : Int) ∧ (0 ≤ g 3 ∧ g 3 ≤ (ne : Int)) ∧ g 4 = fu ∧ g 5 = ow ∧ ∀ k : Nat, 1 ≤ k → k ≤ 4 → g (70 + k) = pf k
/-- what holds between two deeds: the elevator at o, the net at a, the money at m, at least lo bins -/
def LI (cy : Nat → Nat) (σ : Wd) (o a m lo : Nat) : Prop := ∃ (tg ad : Nat → Nat) (bs : List Bn) (ru : Nat → Int × Int) (se : Int) (pf : Nat → Int) (hd : Hd) (ca : Int) (evs : List Evt) (ln : List Int) (g gm : Nat → Int), ad 0 = o ∧ RX cy σ tg ad bs ru se pf hd ca evs ln ∧ (has σ a (iA cy 2700 g) ∧ NetL g bs ∧ NetH g ru se pf evs.length hd.2.2.2.1 (totB bs)) ∧ has σ m (lA cy 2 gm) ∧ (1000 ≤ tg a ∧ 1000 ≤ tg m) ∧ lo ≤ bs.length
theorem RuN.cong {g G : Nat → Int} {ru : Nat → Int × Int} {se : Int} (h : RuN g ru se) (hG : ∀ q : Nat, (q = 1 ∨ (40 ≤ q ∧ q < 64)) → G q = g q) : RuN G ru se := ⟨(hG 1 (by omega)).trans h.1, h.2.1, fun i hi => ⟨⟨(hG _ (by omega)).trans (h.2.2 i hi).1.1, (hG _ (by omega)).trans (h.2.2 i hi).1.2⟩, (h.2.2 i hi).2⟩⟩
theorem NetH.same {g G : Nat → Int} {ru : Nat → Int × Int} {se : Int} {pf : Nat → Int} {ne : Nat} {fu ow : Int} (h : NetH g ru se pf ne fu ow) (hG : SameH g G) : NetH G ru se pf ne fu ow := by
  obtain ⟨h1, h2, h3, h4, h5, h6⟩ := h
  refine ⟨h1.cong (fun q hq => hG q (by omega) (by omega)), (hG 2 (by omega) (by omega)).trans h2, ?_, (hG 4 (by omega) (by omega)).trans h4, (hG 5 (by omega) (by omega)).trans h5, fun k a b => (hG _ (by omega) (by omega)).trans (h6 k a b)⟩
  rw [hG 3 (by omega) (by omega)]
  exact h3
theorem NetH.note {g G : Nat → Int} {ru : Nat → Int × Int} {se : Int} {pf : Nat → Int} {ne : Nat} {fu ow ow' : Int} (h : NetH g ru se pf ne fu ow) (hG : ∀ q : Nat, q ≠ 2 → q ≠ 3 → q ≠ 5 → ¬ (80 ≤ q ∧ q < 260) → G q = g q) (hn : G 2 = (ne : Int) + 1 ∧ (0 ≤ G 3 ∧ G 3 ≤ (ne : Int) + 1) ∧ G 5 = ow') : NetH G ru se pf (ne + 1) fu ow' := by
  obtain ⟨h1, h2, h3, h4, h5, h6⟩ := h
  exact ⟨h1.cong (fun q hq => hG q (by omega) (by omega) (by omega) (by omega)), by rw [hn.1]; rfl, ⟨hn.2.1.1, by have := hn.2.1.2; omega⟩, (hG 4 (by omega) (by omega) (by omega) (by omega)).trans h4, hn.2.2, fun k a b => (hG _ (by omega) (by omega) (by omega) (by omega)).trans (h6 k a b)⟩
theorem hdF_fu (hd : Hd) (x : Int) : (hdF hd x).2.2.2.1 = hd.2.2.2.1 := by unfold hdF; split <;> rfl
theorem gB_last (bs : List Bn) (x : Bn) : gB (bs ++ [x]) (bs.length : Int) = x := by
  unfold gB
  rw [Int.toNat_natCast, List.getD_eq_getElem?_getD, List.getElem?_append_right (Nat.le_refl _), Nat.sub_self]
  rfl
theorem NetL.snoc {g G : Nat → Int} {bs : List Bn} {c : Int} {b : Bool} (h : NetL g bs) (h6 : bs.length < 6) (h0 : G 0 = (bs.length : Int) + 1) (hc : G (10 + bs.length) = c) (hb : G (20 + bs.length) = b01 b) (ho : ∀ q : Nat, q ≠ 0 → q ≠ 10 + bs.length → q ≠ 20 + bs.length → G q = g q) : NetL G (bs ++ [(c, b, [])]) := by
  obtain ⟨-, -, h1, hz⟩ := h
  refine ⟨by rw [List.length_append]; exact h0, by rw [List.length_append]; show _ + 1 ≤ 6; omega, fun q hq => ?_, fun q q1 q2 => ?_⟩
  · rw [List.length_append] at hq
    have hq' : q < bs.length + 1 := hq
    by_cases e : q < bs.length
    · rw [gB_snoc (i := (q : Int)) (by omega) (by omega)]
      obtain ⟨⟨a1, a2⟩, ⟨a3, a4⟩, a5⟩ := h1 q e
      exact ⟨⟨(ho _ (by omega) (by omega) (by omega)).trans a1, (ho _ (by omega) (by omega) (by omega)).trans a2⟩, ⟨a3.cong (ho _ (by omega) (by omega) (by omega)) (fun z z1 z2 => ho z (by omega) (by omega) (by omega)), a4⟩, a5⟩
    · have e2 : q = bs.length := by omega
      subst e2
      rw [gB_last]
      have hf : fl (c, b, []) = [] := by cases b <;> rfl
      refine ⟨⟨hc, hb⟩, ⟨?_, Nat.zero_le _⟩, fun y hy => absurd hy List.not_mem_nil⟩
      rw [hf]
      exact ⟨(ho _ (by omega) (by omega) (by omega)).trans (hz _ (Nat.le_refl _) h6), fun k hk => absurd hk (Nat.not_lt_zero _)⟩
  · rw [List.length_append] at q1
    have q3 : bs.length + 1 ≤ q := q1
    exact (ho _ (by omega) (by omega) (by omega)).trans (hz q (by omega) q2)
theorem RX.ok {cy : Nat → Nat} {σ : Wd} {tg ad : Nat → Nat} {bs : List Bn} {ru : Nat → Int × Int} {se : Int} {pf : Nat → Int} {hd : Hd} {ca : Int} {evs : List Evt} {ln : List Int} (h : RX cy σ tg ad bs ru se pf hd ca evs ln) : Ok bs ru se pf hd evs ln := h.2.2.2.2.2
theorem LI.mono {cy : Nat → Nat} {σ : Wd} {o a m lo lo' : Nat} (h : LI cy σ o a m lo) (hl : lo' ≤ lo) : LI cy σ o a m lo' := by
  obtain ⟨tg, ad, bs, ru, se, pf, hd, ca, evs, ln, g, gm, h1, h2, h3, h4, h5, h6⟩ := h
  exact ⟨tg, ad, bs, ru, se, pf, hd, ca, evs, ln, g, gm, h1, h2, h3, h4, h5, by omega⟩
theorem lyOk_mk {n x f g : Int} (h1 : 1 ≤ n ∧ n ≤ 2000) (h2 : 80 ≤ x ∧ x ≤ 300) (h3 : 0 ≤ f ∧ f ≤ 100) (h4 : 1 ≤ g ∧ g ≤ 4) : lyOk (n, x, f, g) := ⟨h1, h2, h3, h4⟩
theorem prod_in {n p N M : Int} (hn : 0 ≤ n ∧ n ≤ N) (hp : 0 ≤ p ∧ p ≤ M) : 0 ≤ n * p ∧ n * p ≤ N * M := ⟨Int.mul_nonneg hn.1 hp.1, Int.le_trans (Int.mul_le_mul_of_nonneg_left hp.2 hn.1) (Int.mul_le_mul_of_nonneg_right hn.2 (Int.le_trans hp.1 hp.2))⟩
set_option maxHeartbeats 8000000 in
set_option maxRecDepth 20000 in
theorem c_isBin (l : Launch) (hfl : l.stackTraces = false) (D : va_G) (cy : Nat → Nat) (σ : Wd) (o a m lo : Nat) (hI : LI cy σ o a m lo) (c : Int) (hcc : 1 ≤ c ∧ c ≤ 5000) (b : Bool) : Ct l yL_isBin cL_isBin 4 (some .boolean) 9 12 1158 D cy [.ref o, .ref a, vi (c), vi (b01 b)] σ (fun v σ' => v = some (vi 1) ∧ LI cy σ' o a m 1) noX := by
  refine ct_start (by decide +kernel) hfl rfl (fun κ e1 e2 e3 C E NH => ?_)
  subst e1 e2 e3
  have C : Cx κ cL_isBin 4 RL "isBin" 9 := C
  obtain ⟨-, -, -, -, hc, hs⟩ := id E
  show J κ σ [(0, .ref o), (1, .ref a), (2, vi (c)), (3, vi (b01 b))] 0 [] 0 0
  have hb01 : 0 ≤ b01 b ∧ b01 b ≤ 1 := by cases b <;> decide
  obtain ⟨tg, ad, bs, ru, se, pf, hd, ca, evs, ln, g, gm, ho, hX0, ⟨hA, hNt, hH⟩, hM, ⟨hta, htm⟩, hlo⟩ := hI
  subst ho
  have hO := hX0.ok
  have h6 := hO.1
  have hBk := hO.2.1
  have hlb := hO.2.2.1
  have hpf := hO.2.2.2.2.1
  have hTb := totB_in hBk
  obtain ⟨hRu, h2, h3, h4, h5, hPr⟩ := id hH
  have hma : m ≠ a := hM.nk hA rfl
  show J κ σ [(0, .ref (ad 0)), (1, .ref a), (2, vi (c)), (3, vi (b01 b))] 0 [] 0 0
  have kp0 : Keep σ σ (fun y => y = a ∨ y = m) := Keep.rf
  have dm0 : σ.1 = σ.1 := rfl
  refine j_aload_n 1 C dL_isBin_0 rfl rfl rfl ?_
  refine j_iconst C dL_isBin_1 rfl ?_
  refine j_iald C dL_isBin_2 rfl hA ⟨by omega, by omega⟩ (by omega) hNt.1 ?_
  refine j_bipush C dL_isBin_3 rfl (by decide) ?_
  refine j_icmp_ne (tgt := 25) C dL_isBin_5 rfl rfl ⟨by omega, by omega⟩ ⟨by omega, by omega⟩ (fun cc1 => ?_) (fun cc1 => ?_)
  · refine j_aload_n 1 C dL_isBin_25 rfl rfl rfl ?_
    refine j_bipush C dL_isBin_26 rfl (by decide) ?_
    refine j_aload_n 1 C dL_isBin_28 rfl rfl rfl ?_
    refine j_iconst C dL_isBin_29 rfl ?_
    refine j_iald C dL_isBin_30 rfl hA ⟨by omega, by omega⟩ (by omega) hNt.1 ?_
    refine j_iadd C dL_isBin_31 rfl ?_
    refine j_iload_n 2 C dL_isBin_32 rfl rfl rfl ?_
    refine j_iast C dL_isBin_33 rfl hA ⟨by omega, by omega⟩ (by omega) (fun τ2 ee3 => ?_)
    have u4 : has τ2 a (iA (kc κ) 2700 (ups g (10 + (bs.length : Int)).toNat c)) := hA.self' ee3
    have u5 := hM.ne' ee3 hma
    have kp6 := kp0.put ee3 (Or.inl rfl)
    have dm7 := (dom_put ee3).trans dm0
    refine j_aload_n 1 C dL_isBin_34 rfl rfl rfl ?_
    refine j_bipush C dL_isBin_35 rfl (by decide) ?_
    refine j_aload_n 1 C dL_isBin_37 rfl rfl rfl ?_
    refine j_iconst C dL_isBin_38 rfl ?_
    refine j_iald C dL_isBin_39 rfl u4 ⟨by omega, by omega⟩ (by omega) ((ups_n (by omega)).trans hNt.1) ?_
    refine j_iadd C dL_isBin_40 rfl ?_
    refine j_iload_n 3 C dL_isBin_41 rfl rfl rfl ?_
    refine j_if_eq (tgt := 49) C dL_isBin_42 rfl rfl ⟨by omega, by omega⟩ (fun cc8 => ?_) (fun cc8 => ?_)
    · refine j_iconst C dL_isBin_49 rfl ?_
      refine j_iast C dL_isBin_50 rfl u4 ⟨by omega, by omega⟩ (by omega) (fun τ9 ee10 => ?_)
      have u11 : has τ9 a (iA (kc κ) 2700 (ups (ups g (10 + (bs.length : Int)).toNat c) (20 + (bs.length : Int)).toNat 0)) := u4.self' ee10
      have u12 := u5.ne' ee10 hma
      have kp13 := kp6.put ee10 (Or.inl rfl)
      have dm14 := (dom_put ee10).trans dm7
      refine j_aload_n 1 C dL_isBin_51 rfl rfl rfl ?_
      refine j_iconst C dL_isBin_52 rfl ?_
      refine j_dup2 C dL_isBin_53 rfl rfl rfl ?_
      refine j_iald C dL_isBin_54 rfl u11 ⟨by omega, by omega⟩ (by omega) ((ups_n (by omega)).trans ((ups_n (by omega)).trans hNt.1)) ?_
      refine j_iconst C dL_isBin_55 rfl ?_
      refine j_iadd C dL_isBin_56 rfl ?_
      refine j_iast C dL_isBin_57 rfl u11 ⟨by omega, by omega⟩ (by omega) (fun τ15 ee16 => ?_)
      have u17 : has τ15 a (iA (kc κ) 2700 (ups (ups (ups g (10 + (bs.length : Int)).toNat c) (20 + (bs.length : Int)).toNat 0) 0 ((bs.length : Int) + 1))) := u11.self' ee16
      have u18 := u12.ne' ee16 hma
      have kp19 := kp13.put ee16 (Or.inl rfl)
      have dm20 := (dom_put ee16).trans dm14
      refine j_aload_n 0 C dL_isBin_58 rfl rfl rfl ?_
      refine j_iload_n 2 C dL_isBin_59 rfl rfl rfl ?_
      refine j_iload_n 3 C dL_isBin_60 rfl rfl rfl ?_
      obtain ⟨G1, hG1⟩ : ∃ f : Nat → Int, (ups (ups (ups g (10 + (bs.length : Int)).toNat c) (20 + (bs.length : Int)).toNat 0) 0 ((bs.length : Int) + 1)) = f := ⟨_, rfl⟩
      have hAA := u17
      rw [hG1] at hAA
      have hlt6 : bs.length < 6 := by omega
      have g0 : G1 0 = (bs.length : Int) + 1 := by rw [← hG1]; exact ups_u (by omega)
      have g1 : G1 (10 + bs.length) = c := by rw [← hG1, ups_n (by omega), ups_n (by omega)]; exact ups_u (by omega)
      have g2 : G1 (20 + bs.length) = b01 b := by rw [← hG1, ups_n (by omega), ups_u (by omega)]; omega
      have go : ∀ q : Nat, q ≠ 0 → q ≠ 10 + bs.length → q ≠ 20 + bs.length → G1 q = g q := fun q x y z => by rw [← hG1, ups_n (by omega), ups_n (by omega), ups_n (by omega)]
      have hN1 := hNt.snoc (c := c) (b := b) hlt6 g0 g1 g2 go
      have hH1 : NetH G1 ru se pf evs.length hd.2.2.2.1 (totB (bs ++ [(c, b, [])])) := by
        have e9 : totB (bs ++ [(c, b, [])]) = totB bs := by rw [totB_app]; simp [totB, tot, sumL]
        rw [e9]
        exact ⟨hRu.cong (fun q hq => go q (by omega) (by omega) (by omega)), (go 2 (by omega) (by omega) (by omega)).trans h2, by rw [go 3 (by omega) (by omega) (by omega)]; exact h3, (go 4 (by omega) (by omega) (by omega)).trans h4, (go 5 (by omega) (by omega) (by omega)).trans h5, fun k x y => (go _ (by omega) (by omega) (by omega)).trans (hPr k x y)⟩
      have hX21 := hX0.keep kp19 (fun y _ z => z.elim (fun z => by rw [z]; exact hta) (fun z => by rw [z]; exact htm))
      refine j_callSH (st' := []) (As := [.ref (ad 0), vi (c), vi (b01 b)]) C dL_isBin_61 rfl m_L_146 rfl rfl (W_addBin (kL κ) hfl (kD κ) (kc κ) τ15 tg ad bs ru se pf hd ca evs ln hX21 c ⟨by omega, by omega⟩ b hcc hlt6) rfl (by omega) (by omega) (by omega) (fun _ _ hx => hx.elim) (fun v23 τ22 hp24 => ?_)
      obtain ⟨rfl, tg', ad', hR9, hT9, hA9, hK9, hM9⟩ := hp24
      show J κ τ22 [(0, .ref (ad 0)), (1, .ref a), (2, vi (c)), (3, vi (b01 b))] 64 [vi ((bs.length : Int))] _ _
      have ha9 := hK9 _ _ hAA (fun z => by have z1 : tg a < 1000 := z; omega)
      have hm9 := hK9 _ _ u18 (fun z => by have z1 : tg m < 1000 := z; omega)
      have hta9 : 1000 ≤ tg' a := by rw [hT9 a hAA.1]; exact hta
      have htm9 : 1000 ≤ tg' m := by rw [hT9 m u18.1]; exact htm
      refine j_aload_n 1 C dL_isBin_64 rfl rfl rfl ?_
      refine j_iconst C dL_isBin_65 rfl ?_
      refine j_iald C dL_isBin_66 rfl ha9 ⟨by omega, by omega⟩ (by omega) g0 ?_
      refine j_iconst C dL_isBin_67 rfl ?_
      refine j_isub C dL_isBin_68 rfl ?_
      refine j_icmp_ne (tgt := 76) C dL_isBin_69 rfl rfl ⟨by omega, by omega⟩ ⟨by omega, by omega⟩ (fun cc25 => ?_) (fun cc25 => ?_)
      · exact absurd cc25 (by omega)
      · refine j_iconst C dL_isBin_72 rfl ?_
        refine j_goto (tgt := 77) C dL_isBin_73 rfl ?_
        exact j_zret C E dL_isBin_77 rfl (by omega) (by omega) ⟨rfl, tg', ad', _, _, _, _, _, _, _, _, _, _, hA9, hR9, ⟨ha9, hN1, hH1⟩, hm9, ⟨hta9, htm9⟩, by rw [List.length_append]; show 1 ≤ _ + 1; omega⟩
    · refine j_iconst C dL_isBin_45 rfl ?_
      refine j_goto (tgt := 50) C dL_isBin_46 rfl ?_
      refine j_iast C dL_isBin_50 rfl u4 ⟨by omega, by omega⟩ (by omega) (fun τ26 ee27 => ?_)
      have u28 : has τ26 a (iA (kc κ) 2700 (ups (ups g (10 + (bs.length : Int)).toNat c) (20 + (bs.length : Int)).toNat 1)) := u4.self' ee27
      have u29 := u5.ne' ee27 hma
      have kp30 := kp6.put ee27 (Or.inl rfl)
      have dm31 := (dom_put ee27).trans dm7
      refine j_aload_n 1 C dL_isBin_51 rfl rfl rfl ?_
      refine j_iconst C dL_isBin_52 rfl ?_
      refine j_dup2 C dL_isBin_53 rfl rfl rfl ?_
      refine j_iald C dL_isBin_54 rfl u28 ⟨by omega, by omega⟩ (by omega) ((ups_n (by omega)).trans ((ups_n (by omega)).trans hNt.1)) ?_
      refine j_iconst C dL_isBin_55 rfl ?_
      refine j_iadd C dL_isBin_56 rfl ?_
      refine j_iast C dL_isBin_57 rfl u28 ⟨by omega, by omega⟩ (by omega) (fun τ32 ee33 => ?_)
      have u34 : has τ32 a (iA (kc κ) 2700 (ups (ups (ups g (10 + (bs.length : Int)).toNat c) (20 + (bs.length : Int)).toNat 1) 0 ((bs.length : Int) + 1))) := u28.self' ee33
      have u35 := u29.ne' ee33 hma
      have kp36 := kp30.put ee33 (Or.inl rfl)
      have dm37 := (dom_put ee33).trans dm31
      refine j_aload_n 0 C dL_isBin_58 rfl rfl rfl ?_
      refine j_iload_n 2 C dL_isBin_59 rfl rfl rfl ?_
      refine j_iload_n 3 C dL_isBin_60 rfl rfl rfl ?_
      obtain ⟨G1, hG1⟩ : ∃ f : Nat → Int, (ups (ups (ups g (10 + (bs.length : Int)).toNat c) (20 + (bs.length : Int)).toNat 1) 0 ((bs.length : Int) + 1)) = f := ⟨_, rfl⟩
      have hAA := u34
      rw [hG1] at hAA
      have hlt6 : bs.length < 6 := by omega
      have g0 : G1 0 = (bs.length : Int) + 1 := by rw [← hG1]; exact ups_u (by omega)
      have g1 : G1 (10 + bs.length) = c := by rw [← hG1, ups_n (by omega), ups_n (by omega)]; exact ups_u (by omega)
      have g2 : G1 (20 + bs.length) = b01 b := by rw [← hG1, ups_n (by omega), ups_u (by omega)]; omega
      have go : ∀ q : Nat, q ≠ 0 → q ≠ 10 + bs.length → q ≠ 20 + bs.length → G1 q = g q := fun q x y z => by rw [← hG1, ups_n (by omega), ups_n (by omega), ups_n (by omega)]
      have hN1 := hNt.snoc (c := c) (b := b) hlt6 g0 g1 g2 go
      have hH1 : NetH G1 ru se pf evs.length hd.2.2.2.1 (totB (bs ++ [(c, b, [])])) := by
        have e9 : totB (bs ++ [(c, b, [])]) = totB bs := by rw [totB_app]; simp [totB, tot, sumL]
        rw [e9]
        exact ⟨hRu.cong (fun q hq => go q (by omega) (by omega) (by omega)), (go 2 (by omega) (by omega) (by omega)).trans h2, by rw [go 3 (by omega) (by omega) (by omega)]; exact h3, (go 4 (by omega) (by omega) (by omega)).trans h4, (go 5 (by omega) (by omega) (by omega)).trans h5, fun k x y => (go _ (by omega) (by omega) (by omega)).trans (hPr k x y)⟩
      have hX38 := hX0.keep kp36 (fun y _ z => z.elim (fun z => by rw [z]; exact hta) (fun z => by rw [z]; exact htm))
      refine j_callSH (st' := []) (As := [.ref (ad 0), vi (c), vi (b01 b)]) C dL_isBin_61 rfl m_L_146 rfl rfl (W_addBin (kL κ) hfl (kD κ) (kc κ) τ32 tg ad bs ru se pf hd ca evs ln hX38 c ⟨by omega, by omega⟩ b hcc hlt6) rfl (by omega) (by omega) (by omega) (fun _ _ hx => hx.elim) (fun v40 τ39 hp41 => ?_)
      obtain ⟨rfl, tg', ad', hR9, hT9, hA9, hK9, hM9⟩ := hp41
      show J κ τ39 [(0, .ref (ad 0)), (1, .ref a), (2, vi (c)), (3, vi (b01 b))] 64 [vi ((bs.length : Int))] _ _
      have ha9 := hK9 _ _ hAA (fun z => by have z1 : tg a < 1000 := z; omega)
      have hm9 := hK9 _ _ u35 (fun z => by have z1 : tg m < 1000 := z; omega)
      have hta9 : 1000 ≤ tg' a := by rw [hT9 a hAA.1]; exact hta
      have htm9 : 1000 ≤ tg' m := by rw [hT9 m u35.1]; exact htm
      refine j_aload_n 1 C dL_isBin_64 rfl rfl rfl ?_
      refine j_iconst C dL_isBin_65 rfl ?_
      refine j_iald C dL_isBin_66 rfl ha9 ⟨by omega, by omega⟩ (by omega) g0 ?_
      refine j_iconst C dL_isBin_67 rfl ?_
      refine j_isub C dL_isBin_68 rfl ?_
      refine j_icmp_ne (tgt := 76) C dL_isBin_69 rfl rfl ⟨by omega, by omega⟩ ⟨by omega, by omega⟩ (fun cc42 => ?_) (fun cc42 => ?_)
      · exact absurd cc42 (by omega)
      · refine j_iconst C dL_isBin_72 rfl ?_
        refine j_goto (tgt := 77) C dL_isBin_73 rfl ?_
        exact j_zret C E dL_isBin_77 rfl (by omega) (by omega) ⟨rfl, tg', ad', _, _, _, _, _, _, _, _, _, _, hA9, hR9, ⟨ha9, hN1, hH1⟩, hm9, ⟨hta9, htm9⟩, by rw [List.length_append]; show 1 ≤ _ + 1; omega⟩
  · refine j_aload_n 0 C dL_isBin_8 rfl rfl rfl ?_
    refine j_iload_n 2 C dL_isBin_9 rfl rfl rfl ?_
    refine j_iload_n 3 C dL_isBin_10 rfl rfl rfl ?_
    refine j_callSH (st' := []) (As := [.ref (ad 0), vi (c), vi (b01 b)]) C dL_isBin_11 rfl m_L_146 rfl rfl (W_addBinB2 (kL κ) hfl (kD κ) (kc κ) σ tg ad bs ru se pf hd ca evs ln hX0 c ⟨by omega, by omega⟩ b hcc (by omega)) rfl (by omega) (by omega) (by omega) (fun _ _ hx => hx.elim) (fun v44 τ43 hp45 => ?_)
    obtain ⟨rfl, hs9⟩ := hp45
    replace hs9 := hs9.symm
    subst hs9
    show J κ σ [(0, .ref (ad 0)), (1, .ref a), (2, vi (c)), (3, vi (b01 b))] 14 [vi ((-900002))] _ _
    refine j_ldc (z := (-900002)) C dL_isBin_14 rfl kc_L_20 ?_
    refine j_icmp_ne (tgt := 23) C dL_isBin_16 rfl rfl ⟨by omega, by omega⟩ ⟨by omega, by omega⟩ (fun cc46 => absurd cc46 (by decide)) (fun _ => ?_)
    refine j_iconst C dL_isBin_19 rfl ?_
    refine j_goto (tgt := 24) C dL_isBin_20 rfl ?_
    exact j_zret C E dL_isBin_24 rfl (by omega) (by omega) ⟨rfl, tg, ad, bs, ru, se, pf, hd, ca, evs, ln, g, gm, rfl, hX0, ⟨hA, hNt, hH⟩, hM, ⟨hta, htm⟩, by omega⟩
set_option maxHeartbeats 8000000 in
set_option maxRecDepth 20000 in
theorem c_isLoaded (l : Launch) (hfl : l.stackTraces = false) (D : va_G) (cy : Nat → Nat) (σ : Wd) (o a m lo : Nat) (hI : LI cy σ o a m lo) (hlo1 : 1 ≤ lo) (i : Int) (hi : 0 ≤ i ∧ i ≤ 900) : Ct l yL_isLoaded cL_isLoaded 10 (some .boolean) 9 2 257 D cy [.ref o, .ref a, .ref m, .ref (cy 9), vi (i)] σ (fun v σ' => v = some (vi 1) ∧ LI cy σ' o a m 1) noX := by
  refine ct_start (by decide +kernel) hfl rfl (fun κ e1 e2 e3 C E NH => ?_)
  subst e1 e2 e3
  have C : Cx κ cL_isLoaded 10 RL "isLoaded" 9 := C
  obtain ⟨-, -, -, -, hc, hs⟩ := id E
  show J κ σ [(0, .ref o), (1, .ref a), (2, .ref m), (3, .ref (kc κ 9)), (4, vi (i))] 0 [] 0 0
  obtain ⟨tg, ad, bs, ru, se, pf, hd, ca, evs, ln, g, gm, ho, hX0, ⟨hA, hNt, hH⟩, hM, ⟨hta, htm⟩, hlo⟩ := hI
  subst ho
  have hO := hX0.ok
  have h6 := hO.1
  have hBk := hO.2.1
  have hlb := hO.2.2.1
  have hpf := hO.2.2.2.2.1
  have hTb := totB_in hBk
  obtain ⟨hRu, h2, h3, h4, h5, hPr⟩ := id hH
  have hma : m ≠ a := hM.nk hA rfl
  show J κ σ [(0, .ref (ad 0)), (1, .ref a), (2, .ref m), (3, .ref (kc κ 9)), (4, vi (i))] 0 [] 0 0
  have kp0 : Keep σ σ (fun y => y = a ∨ y = m) := Keep.rf
  have dm0 : σ.1 = σ.1 := rfl
  refine j_aload_n 3 C dL_isLoaded_0 rfl rfl rfl ?_
  refine j_iload 4 C dL_isLoaded_1 rfl rfl ?_
  refine j_aload_n 1 C dL_isLoaded_3 rfl rfl rfl ?_
  refine j_iconst C dL_isLoaded_4 rfl ?_
  refine j_iald C dL_isLoaded_5 rfl hA ⟨by omega, by omega⟩ (by omega) hNt.1 ?_
  refine j_callS (st' := []) (As := [.ref (kc κ 9), vi (i), vi ((bs.length : Int))]) C dL_isLoaded_6 rfl m_L_132 rfl rfl (c_in (kL κ) hfl (kD κ) (kc κ) σ i (bs.length : Int) ⟨by omega, by omega⟩ ⟨by omega, by omega⟩) rfl (by omega) (by omega) (by omega) (fun _ _ hx => hx.elim) (fun v3 τ2 hp4 => ?_)
  obtain ⟨z1, rfl, hz1, hs9⟩ := hp4
  replace hs9 := hs9.symm
  subst hs9
  show J κ σ [(0, .ref (ad 0)), (1, .ref a), (2, .ref m), (3, .ref (kc κ 9)), (4, vi (i))] 9 [vi (z1)] _ _
  refine j_istore (lv' := [(0, .ref (ad 0)), (1, .ref a), (2, .ref m), (3, .ref (kc κ 9)), (4, vi (i)), (5, vi (z1))]) [1, 2, 3, 4, 5, 0] C dL_isLoaded_9 rfl rfl rfl ?_
  refine j_iconst C dL_isLoaded_11 rfl ?_
  refine j_aload_n 3 C dL_isLoaded_12 rfl rfl rfl ?_
  refine j_iload 4 C dL_isLoaded_13 rfl rfl ?_
  refine j_iconst C dL_isLoaded_15 rfl ?_
  refine j_iadd C dL_isLoaded_16 rfl ?_
  refine j_bipush C dL_isLoaded_17 rfl (by decide) ?_
  refine j_callS (st' := [vi (1)]) (As := [.ref (kc κ 9), vi (i + 1), vi (60)]) C dL_isLoaded_19 rfl m_L_132 rfl rfl (c_in (kL κ) hfl (kD κ) (kc κ) σ (i + 1) 60 ⟨by omega, by omega⟩ ⟨by omega, by omega⟩) rfl (by omega) (by omega) (by omega) (fun _ _ hx => hx.elim) (fun v7 τ6 hp8 => ?_)
  obtain ⟨z5, rfl, hz5, hs9⟩ := hp8
  replace hs9 := hs9.symm
  subst hs9
  show J κ σ [(0, .ref (ad 0)), (1, .ref a), (2, .ref m), (3, .ref (kc κ 9)), (4, vi (i)), (5, vi (z1))] 22 [vi (z5), vi (1)] _ _
  refine j_iadd C dL_isLoaded_22 rfl ?_
  refine j_istore (lv' := [(0, .ref (ad 0)), (1, .ref a), (2, .ref m), (3, .ref (kc κ 9)), (4, vi (i)), (5, vi (z1)), (6, vi (1 + z5))]) [1, 2, 3, 4, 5, 6, 0] C dL_isLoaded_23 rfl rfl rfl ?_
  refine j_bipush C dL_isLoaded_25 rfl (by decide) ?_
  refine j_aload_n 3 C dL_isLoaded_27 rfl rfl rfl ?_
  refine j_iload 4 C dL_isLoaded_28 rfl rfl ?_
  refine j_iconst C dL_isLoaded_30 rfl ?_
  refine j_iadd C dL_isLoaded_31 rfl ?_
  refine j_bipush C dL_isLoaded_32 rfl (by decide) ?_
  refine j_callS (st' := [vi (100)]) (As := [.ref (kc κ 9), vi (i + 2), vi (120)]) C dL_isLoaded_34 rfl m_L_132 rfl rfl (c_in (kL κ) hfl (kD κ) (kc κ) σ (i + 2) 120 ⟨by omega, by omega⟩ ⟨by omega, by omega⟩) rfl (by omega) (by omega) (by omega) (fun _ _ hx => hx.elim) (fun v11 τ10 hp12 => ?_)
  obtain ⟨z9, rfl, hz9, hs9⟩ := hp12
  replace hs9 := hs9.symm
  subst hs9
  show J κ σ [(0, .ref (ad 0)), (1, .ref a), (2, .ref m), (3, .ref (kc κ 9)), (4, vi (i)), (5, vi (z1)), (6, vi (1 + z5))] 37 [vi (z9), vi (100)] _ _
  refine j_iadd C dL_isLoaded_37 rfl ?_
  refine j_istore (lv' := [(0, .ref (ad 0)), (1, .ref a), (2, .ref m), (3, .ref (kc κ 9)), (4, vi (i)), (5, vi (z1)), (6, vi (1 + z5)), (7, vi (100 + z9))]) [1, 2, 3, 4, 5, 6, 7, 0] C dL_isLoaded_38 rfl rfl rfl ?_
  refine j_aload_n 3 C dL_isLoaded_40 rfl rfl rfl ?_
  refine j_iload 4 C dL_isLoaded_41 rfl rfl ?_
  refine j_iconst C dL_isLoaded_43 rfl ?_
  refine j_iadd C dL_isLoaded_44 rfl ?_
  refine j_bipush C dL_isLoaded_45 rfl (by decide) ?_
  refine j_callS (st' := []) (As := [.ref (kc κ 9), vi (i + 3), vi (50)]) C dL_isLoaded_47 rfl m_L_132 rfl rfl (c_in (kL κ) hfl (kD κ) (kc κ) σ (i + 3) 50 ⟨by omega, by omega⟩ ⟨by omega, by omega⟩) rfl (by omega) (by omega) (by omega) (fun _ _ hx => hx.elim) (fun v15 τ14 hp16 => ?_)
  obtain ⟨z13, rfl, hz13, hs9⟩ := hp16
  replace hs9 := hs9.symm
  subst hs9
  show J κ σ [(0, .ref (ad 0)), (1, .ref a), (2, .ref m), (3, .ref (kc κ 9)), (4, vi (i)), (5, vi (z1)), (6, vi (1 + z5)), (7, vi (100 + z9))] 50 [vi (z13)] _ _
  refine j_istore (lv' := [(0, .ref (ad 0)), (1, .ref a), (2, .ref m), (3, .ref (kc κ 9)), (4, vi (i)), (5, vi (z1)), (6, vi (1 + z5)), (7, vi (100 + z9)), (8, vi (z13))]) [1, 2, 3, 4, 5, 6, 7, 8, 0] C dL_isLoaded_50 rfl rfl rfl ?_
  obtain ⟨b, hb, rfl⟩ : ∃ b : Nat, b < bs.length ∧ z1 = (b : Int) := ⟨z1.toNat, by omega, by omega⟩
  have hmemb := gB_mem (bs := bs) (i := (b : Int)) (by omega) (by omega)
  obtain ⟨hcapb, hokb, htcb⟩ := hBk _ hmemb
  have hllb := len_lenB hmemb
  have ht0b := tot_0 hokb
  have hcnb := (hNt.2.2.1 b hb).1.1
  obtain ⟨n, hn9⟩ : ∃ y : Int, y = 1 + z5 := ⟨_, rfl⟩
  obtain ⟨x, hx9⟩ : ∃ y : Int, y = 100 + z9 := ⟨_, rfl⟩
  obtain ⟨f, hf9⟩ : ∃ y : Int, y = z13 := ⟨_, rfl⟩
  refine j_locals (lv' := [(0, .ref (ad 0)), (1, .ref a), (2, .ref m), (3, .ref (kc κ 9)), (4, vi (i)), (5, vi ((b : Int))), (6, vi (n)), (7, vi (x)), (8, vi (f))]) [0, 1, 2, 3, 4, 5, 6, 7, 8] (by rw [hn9, hx9, hf9]; rfl) ?_
  have hnr : 1 ≤ n ∧ n ≤ 60 := by omega
  have hxr : 100 ≤ x ∧ x ≤ 219 := by omega
  have hfr : 0 ≤ f ∧ f ≤ 49 := by omega
  have hgr := gradeF_in ru se x f
  refine j_aload_n 1 C dL_isLoaded_52 rfl rfl rfl ?_
  refine j_iload 5 C dL_isLoaded_53 rfl rfl ?_
  refine j_callS (st' := []) (As := [.ref a, vi ((b : Int))]) C dL_isLoaded_55 rfl m_L_113 rfl rfl (c_within (kL κ) hfl (kD κ) (kc κ) σ a g hA bs hNt b (by omega)) rfl (by omega) (by omega) (by omega) (fun _ _ hx => hx.elim) (fun v18 τ17 hp19 => ?_)
  obtain ⟨rfl, hs9⟩ := hp19
  replace hs9 := hs9.symm
  subst hs9
  show J κ σ [(0, .ref (ad 0)), (1, .ref a), (2, .ref m), (3, .ref (kc κ 9)), (4, vi (i)), (5, vi ((b : Int))), (6, vi (n)), (7, vi (x)), (8, vi (f))] 58 [vi ((tot (gB bs (b : Int)).2.2))] _ _
  refine j_iload 6 C dL_isLoaded_58 rfl rfl ?_
  refine j_iadd C dL_isLoaded_60 rfl ?_
  refine j_aload_n 1 C dL_isLoaded_61 rfl rfl rfl ?_
  refine j_bipush C dL_isLoaded_62 rfl (by decide) ?_
  refine j_iload 5 C dL_isLoaded_64 rfl rfl ?_
  refine j_iadd C dL_isLoaded_66 rfl ?_
  refine j_iald C dL_isLoaded_67 rfl hA ⟨by omega, by omega⟩ (by omega) ((congrArg g (show (10 + (b : Int)).toNat = 10 + b by omega)).trans hcnb) ?_
  refine j_icmp_gt (tgt := 79) C dL_isLoaded_68 rfl rfl ⟨by omega, by omega⟩ ⟨by omega, by omega⟩ (fun cc20 => ?_) (fun cc20 => ?_)
  · refine j_aload_n 0 C dL_isLoaded_79 rfl rfl rfl ?_
    refine j_iload 5 C dL_isLoaded_80 rfl rfl ?_
    refine j_iload 6 C dL_isLoaded_82 rfl rfl ?_
    refine j_iload 7 C dL_isLoaded_84 rfl rfl ?_
    refine j_iload 8 C dL_isLoaded_86 rfl rfl ?_
    refine j_callSH (st' := []) (As := [.ref (ad 0), vi ((b : Int)), vi (n), vi (x), vi (f)]) C dL_isLoaded_88 rfl m_L_136 rfl rfl (W_loadB2 (kL κ) hfl (kD κ) (kc κ) σ tg ad bs ru se pf hd ca evs ln hX0 b hb n x f ⟨by omega, by omega⟩ ⟨by omega, by omega⟩ ⟨by omega, by omega⟩ ⟨⟨by omega, by omega⟩, ⟨by omega, by omega⟩, by omega, by omega⟩ (by omega)) rfl (by omega) (by omega) (by omega) (fun _ _ hx => hx.elim) (fun v22 τ21 hp23 => ?_)
    obtain ⟨rfl, hs9⟩ := hp23
    replace hs9 := hs9.symm
    subst hs9
    show J κ σ [(0, .ref (ad 0)), (1, .ref a), (2, .ref m), (3, .ref (kc κ 9)), (4, vi (i)), (5, vi ((b : Int))), (6, vi (n)), (7, vi (x)), (8, vi (f))] 91 [vi ((-900003))] _ _
    refine j_ldc (z := (-900003)) C dL_isLoaded_91 rfl kc_L_44 ?_
    refine j_icmp_ne (tgt := 100) C dL_isLoaded_93 rfl rfl ⟨by omega, by omega⟩ ⟨by omega, by omega⟩ (fun cc24 => absurd cc24 (by decide)) (fun _ => ?_)
    refine j_iconst C dL_isLoaded_96 rfl ?_
    refine j_goto (tgt := 101) C dL_isLoaded_97 rfl ?_
    exact j_zret C E dL_isLoaded_101 rfl (by omega) (by omega) ⟨rfl, tg, ad, bs, ru, se, pf, hd, ca, evs, ln, g, gm, rfl, hX0, ⟨hA, hNt, hH⟩, hM, ⟨hta, htm⟩, by omega⟩
  · refine j_aload_n 1 C dL_isLoaded_71 rfl rfl rfl ?_
    refine j_iconst C dL_isLoaded_72 rfl ?_
    refine j_iald C dL_isLoaded_73 rfl hA ⟨by omega, by omega⟩ (by omega) h2 ?_
    refine j_bipush C dL_isLoaded_74 rfl (by decide) ?_
    refine j_icmp_ne (tgt := 102) C dL_isLoaded_76 rfl rfl ⟨by omega, by omega⟩ ⟨by omega, by omega⟩ (fun cc25 => ?_) (fun cc25 => ?_)
    · refine j_aload_n 1 C dL_isLoaded_102 rfl rfl rfl ?_
      refine j_iload 7 C dL_isLoaded_103 rfl rfl ?_
      refine j_iload 8 C dL_isLoaded_105 rfl rfl ?_
      refine j_callS (st' := []) (As := [.ref a, vi (x), vi (f)]) C dL_isLoaded_107 rfl m_L_139 rfl rfl (c_graded (kL κ) hfl (kD κ) (kc κ) σ a g hA ru se hRu x f ⟨by omega, by omega⟩ ⟨by omega, by omega⟩) rfl (by omega) (by omega) (by omega) (fun _ _ hx => hx.elim) (fun v27 τ26 hp28 => ?_)
      obtain ⟨rfl, hs9⟩ := hp28
      replace hs9 := hs9.symm
      subst hs9
      show J κ σ [(0, .ref (ad 0)), (1, .ref a), (2, .ref m), (3, .ref (kc κ 9)), (4, vi (i)), (5, vi ((b : Int))), (6, vi (n)), (7, vi (x)), (8, vi (f))] 110 [vi ((gradeF ru se x f))] _ _
      refine j_istore (lv' := [(0, .ref (ad 0)), (1, .ref a), (2, .ref m), (3, .ref (kc κ 9)), (4, vi (i)), (5, vi ((b : Int))), (6, vi (n)), (7, vi (x)), (8, vi (f)), (9, vi ((gradeF ru se x f)))]) [1, 2, 3, 4, 5, 6, 7, 8, 9, 0] C dL_isLoaded_110 rfl rfl rfl ?_
      refine j_aload_n 1 C dL_isLoaded_112 rfl rfl rfl ?_
      refine j_iload 5 C dL_isLoaded_113 rfl rfl ?_
      refine j_iload 6 C dL_isLoaded_115 rfl rfl ?_
      refine j_iload 7 C dL_isLoaded_117 rfl rfl ?_
      refine j_iload 8 C dL_isLoaded_119 rfl rfl ?_
      refine j_iload 9 C dL_isLoaded_121 rfl rfl ?_
      obtain ⟨hev1, hev2, hev3⟩ := load_ev hO (by omega) hb (n := n) (x := x) (f := f) ⟨by omega, by omega⟩ ⟨by omega, by omega⟩ ⟨by omega, by omega⟩ (by omega)
      refine j_callS (st' := []) (As := [.ref a, vi ((b : Int)), vi (n), vi (x), vi (f), vi ((gradeF ru se x f))]) C dL_isLoaded_123 rfl m_L_105 rfl rfl (c_come (kL κ) hfl (kD κ) (kc κ) σ a g hA bs hNt b (by omega) (by omega) n x f (gradeF ru se x f) (lyOk_mk ⟨by omega, by omega⟩ ⟨by omega, by omega⟩ ⟨by omega, by omega⟩ hgr)) rfl (by omega) (by omega) (by omega) (fun _ _ hx => hx.elim) (fun v31 τ30 hp32 => ?_)
      obtain ⟨rfl, G29, hG29, hN29, hO29, hk29, hd29⟩ := hp32
      show J κ τ30 [(0, .ref (ad 0)), (1, .ref a), (2, .ref m), (3, .ref (kc κ 9)), (4, vi (i)), (5, vi ((b : Int))), (6, vi (n)), (7, vi (x)), (8, vi (f)), (9, vi ((gradeF ru se x f)))] 126 [] _ _
      have hm29 := hk29 _ _ hM hma
      have hkk29 := kp0.tr (hk29.mono (fun _ z => Or.inl z))
      have hdd29 := hd29.trans (dm0)
      have hS29 := hO29.same (by omega)
      rw [← hev2] at hN29
      have hH1 := hH.same hS29
      have hP1 := hH1.2.2.2.2.2
      refine j_aload_n 2 C dL_isLoaded_126 rfl rfl rfl ?_
      refine j_iconst C dL_isLoaded_127 rfl ?_
      refine j_dup2 C dL_isLoaded_128 rfl rfl rfl ?_
      refine j_laldE C dL_isLoaded_129 rfl hm29 ⟨by omega, by omega⟩ (by omega) (fun y33 => ?_)
      refine j_iload 6 C dL_isLoaded_130 rfl rfl ?_
      refine j_aload_n 1 C dL_isLoaded_132 rfl rfl rfl ?_
      refine j_bipush C dL_isLoaded_133 rfl (by decide) ?_
      refine j_iload 9 C dL_isLoaded_135 rfl rfl ?_
      refine j_iadd C dL_isLoaded_137 rfl ?_
      refine j_iald C dL_isLoaded_138 rfl hG29 ⟨by omega, by omega⟩ (by omega) ((congrArg G29 (show (70 + (gradeF ru se x f)).toNat = 70 + (gradeF ru se x f).toNat by omega)).trans (hP1 _ (by omega) (by omega))) ?_
      refine j_imul C dL_isLoaded_139 rfl ?_
      refine j_i2lE C dL_isLoaded_140 rfl (fun y34 => ?_)
      refine j_lsub C dL_isLoaded_141 rfl ?_
      refine j_last C dL_isLoaded_142 rfl hm29 ⟨by omega, by omega⟩ (by omega) (fun τ35 ee36 => ?_)
      have u37 := hG29.ne' ee36 (Ne.symm hma)
      have u38 : has τ35 m (lA (kc κ) 2 (ups gm 1 (y33 - y34))) := hm29.self' ee36
      have kp39 := hkk29.put ee36 (Or.inr rfl)
      have dm40 := (dom_put ee36).trans hdd29
      refine j_aload_n 1 C dL_isLoaded_143 rfl rfl rfl ?_
      refine j_bipush C dL_isLoaded_144 rfl (by decide) ?_
      have hHn41 := hH1
      refine j_callS (st' := []) (As := [.ref a, vi (108)]) C dL_isLoaded_146 rfl m_L_142 rfl rfl (c_note (kL κ) hfl (kD κ) (kc κ) τ35 a G29 u37 (apB (gradeF ru se) bs (108, (b : Int), (b : Int), n, 0, x, f)) hN29 hev3.2.1 evs.length hHn41.2.1 (by omega) hHn41.2.2.1 ⟨by rw [hHn41.2.2.2.2.1]; omega, by rw [hHn41.2.2.2.2.1]; omega⟩ 108) rfl (by omega) (by omega) (by omega) (fun _ _ hx => hx.elim) (fun v43 τ42 hp44 => ?_)
      obtain ⟨rfl, G41, hG41, ho41, hv41, hk41, hd41⟩ := hp44
      show J κ τ42 [(0, .ref (ad 0)), (1, .ref a), (2, .ref m), (3, .ref (kc κ 9)), (4, vi (i)), (5, vi ((b : Int))), (6, vi (n)), (7, vi (x)), (8, vi (f)), (9, vi ((gradeF ru se x f)))] 149 [] _ _
      have hkk41 := kp39.tr (hk41.mono (fun _ z => Or.inl z))
      have hdd41 := hd41.trans (dm40)
      have hqm41 := hk41 _ _ u38 hma
      have hN41 : NetL G41 (apB (gradeF ru se) bs (108, (b : Int), (b : Int), n, 0, x, f)) := hN29.cong2 (fun q h1 h2 => ho41 q h2 (by omega) (by omega) (by omega))
      have hH41 := hHn41.note ho41 hv41
      refine j_aload_n 0 C dL_isLoaded_149 rfl rfl rfl ?_
      refine j_iload 5 C dL_isLoaded_150 rfl rfl ?_
      refine j_iload 6 C dL_isLoaded_152 rfl rfl ?_
      refine j_iload 7 C dL_isLoaded_154 rfl rfl ?_
      refine j_iload 8 C dL_isLoaded_156 rfl rfl ?_
      have hX45 := hX0.keep hkk41 (fun y _ z => z.elim (fun z => by rw [z]; exact hta) (fun z => by rw [z]; exact htm))
      refine j_callSH (st' := []) (As := [.ref (ad 0), vi ((b : Int)), vi (n), vi (x), vi (f)]) C dL_isLoaded_158 rfl m_L_136 rfl rfl (W_load (kL κ) hfl (kD κ) (kc κ) τ42 tg ad bs ru se pf hd ca evs ln hX45 b hb n x f ⟨by omega, by omega⟩ ⟨by omega, by omega⟩ ⟨by omega, by omega⟩ ⟨by omega, by omega⟩ ⟨by omega, by omega⟩ ⟨by omega, by omega⟩ (by omega) (by omega)) rfl (by omega) (by omega) (by omega) (fun _ _ hx => hx.elim) (fun v47 τ46 hp48 => ?_)
      obtain ⟨rfl, tg', ad', hR9, hT9, hA9, hK9, hM9⟩ := hp48
      show J κ τ46 [(0, .ref (ad 0)), (1, .ref a), (2, .ref m), (3, .ref (kc κ 9)), (4, vi (i)), (5, vi ((b : Int))), (6, vi (n)), (7, vi (x)), (8, vi (f)), (9, vi ((gradeF ru se x f)))] 161 [vi ((gradeF ru se x f))] _ _
      have ha9 := hK9 _ _ hG41 (fun z => by have z1 : tg a < 1000 := z; omega)
      have hm9 := hK9 _ _ hqm41 (fun z => by have z1 : tg m < 1000 := z; omega)
      have hta9 : 1000 ≤ tg' a := by rw [hT9 a hG41.1]; exact hta
      have htm9 : 1000 ≤ tg' m := by rw [hT9 m hqm41.1]; exact htm
      refine j_iload 9 C dL_isLoaded_161 rfl rfl ?_
      refine j_icmp_ne (tgt := 170) C dL_isLoaded_163 rfl rfl ⟨by omega, by omega⟩ ⟨by omega, by omega⟩ (fun cc49 => ?_) (fun cc49 => ?_)
      · exact absurd cc49 (fun q => q rfl)
      · refine j_iconst C dL_isLoaded_166 rfl ?_
        refine j_goto (tgt := 171) C dL_isLoaded_167 rfl ?_
        exact j_zret C E dL_isLoaded_171 rfl (by omega) (by omega) ⟨rfl, tg', ad', _, _, _, _, _, _, _, _, _, _, hA9, hR9, ⟨ha9, hN41, by rw [List.length_append, hdF_fu]; exact hH41⟩, hm9, ⟨hta9, htm9⟩, by rw [apB_len]; omega⟩
    · refine j_aload_n 0 C dL_isLoaded_79 rfl rfl rfl ?_
      refine j_iload 5 C dL_isLoaded_80 rfl rfl ?_
      refine j_iload 6 C dL_isLoaded_82 rfl rfl ?_
      refine j_iload 7 C dL_isLoaded_84 rfl rfl ?_
      refine j_iload 8 C dL_isLoaded_86 rfl rfl ?_
      refine j_callSH (st' := []) (As := [.ref (ad 0), vi ((b : Int)), vi (n), vi (x), vi (f)]) C dL_isLoaded_88 rfl m_L_136 rfl rfl (W_loadB2 (kL κ) hfl (kD κ) (kc κ) σ tg ad bs ru se pf hd ca evs ln hX0 b hb n x f ⟨by omega, by omega⟩ ⟨by omega, by omega⟩ ⟨by omega, by omega⟩ ⟨⟨by omega, by omega⟩, ⟨by omega, by omega⟩, by omega, by omega⟩ (by omega)) rfl (by omega) (by omega) (by omega) (fun _ _ hx => hx.elim) (fun v51 τ50 hp52 => ?_)
      obtain ⟨rfl, hs9⟩ := hp52
      replace hs9 := hs9.symm
      subst hs9
      show J κ σ [(0, .ref (ad 0)), (1, .ref a), (2, .ref m), (3, .ref (kc κ 9)), (4, vi (i)), (5, vi ((b : Int))), (6, vi (n)), (7, vi (x)), (8, vi (f))] 91 [vi ((-900003))] _ _
      refine j_ldc (z := (-900003)) C dL_isLoaded_91 rfl kc_L_44 ?_
      refine j_icmp_ne (tgt := 100) C dL_isLoaded_93 rfl rfl ⟨by omega, by omega⟩ ⟨by omega, by omega⟩ (fun cc53 => absurd cc53 (by decide)) (fun _ => ?_)
      refine j_iconst C dL_isLoaded_96 rfl ?_
      refine j_goto (tgt := 101) C dL_isLoaded_97 rfl ?_
      exact j_zret C E dL_isLoaded_101 rfl (by omega) (by omega) ⟨rfl, tg, ad, bs, ru, se, pf, hd, ca, evs, ln, g, gm, rfl, hX0, ⟨hA, hNt, hH⟩, hM, ⟨hta, htm⟩, by omega⟩
