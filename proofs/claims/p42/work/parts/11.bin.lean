/-! JDK: floorMod. Rules.gradeNow. Bin -/
def G4 (g1 g2 g3 g4 : Nat → Int) : Nat → Ly := fun s => (g1 s, g2 s, g3 s, g4 s)
/-- a bin's object and its four arrays -/
def BinC (cy : Nat → Nat) (σ : Wd) (h q1 q2 q3 q4 : Nat) (cap : Int) (mf : Bool) (old cnt tt : Int) (g1 g2 g3 g4 : Nat → Int) : Prop :=
  has σ h (.inr (0, [vi cap, vi (b01 mf), .ref q1, .ref q2, .ref q3, .ref q4, vi old, vi cnt, vi tt])) ∧ (has σ q1 (iA cy 80 g1) ∧ has σ q2 (iA cy 80 g2) ∧ has σ q3 (iA cy 80 g3) ∧ has σ q4 (iA cy 80 g4)) ∧ (q1 ≠ q2 ∧ q1 ≠ q3 ∧ q1 ≠ q4 ∧ q2 ≠ q3 ∧ q2 ≠ q4 ∧ q3 ≠ q4)
abbrev inB (h q1 q2 q3 q4 : Nat) : Nat → Prop := fun a => a = h ∨ a = q1 ∨ a = q2 ∨ a = q3 ∨ a = q4
theorem BinC.keep {cy : Nat → Nat} {σ σ' : Wd} {h q1 q2 q3 q4 : Nat} {cap : Int} {mf : Bool} {old cnt tt : Int} {g1 g2 g3 g4 : Nat → Int} {F : Nat → Prop} (hB : BinC cy σ h q1 q2 q3 q4 cap mf old cnt tt g1 g2 g3 g4) (hk : Keep σ σ' F) (hF : ∀ a, inB h q1 q2 q3 q4 a → ¬ F a) : BinC cy σ' h q1 q2 q3 q4 cap mf old cnt tt g1 g2 g3 g4 := by
  obtain ⟨hh, ⟨h1, h2, h3, h4⟩, hne⟩ := hB
  exact ⟨hk _ _ hh (hF _ (Or.inl rfl)), ⟨hk _ _ h1 (hF _ (Or.inr (Or.inl rfl))), hk _ _ h2 (hF _ (Or.inr (Or.inr (Or.inl rfl)))), hk _ _ h3 (hF _ (Or.inr (Or.inr (Or.inr (Or.inl rfl))))), hk _ _ h4 (hF _ (Or.inr (Or.inr (Or.inr (Or.inr rfl)))))⟩, hne⟩
/-- .. and what it is -/
def BinR (cy : Nat → Nat) (σ : Wd) (h q1 q2 q3 q4 : Nat) (b : Bn) : Prop := ∃ (old : Int) (g1 g2 g3 g4 : Nat → Int), BinC cy σ h q1 q2 q3 q4 b.1 b.2.1 old (b.2.2.length : Int) (tot b.2.2) g1 g2 g3 g4 ∧ (0 ≤ old ∧ old < 80) ∧ b.2.2.length ≤ 80 ∧ b.2.2 = ringL (G4 g1 g2 g3 g4) old b.2.2.length ∧ lysOk b.2.2
theorem BinR.keep {cy : Nat → Nat} {σ σ' : Wd} {h q1 q2 q3 q4 : Nat} {b : Bn} {F : Nat → Prop} (hB : BinR cy σ h q1 q2 q3 q4 b) (hk : Keep σ σ' F) (hF : ∀ a, inB h q1 q2 q3 q4 a → ¬ F a) : BinR cy σ' h q1 q2 q3 q4 b := by
  obtain ⟨old, g1, g2, g3, g4, hC, hr⟩ := hB
  exact ⟨old, g1, g2, g3, g4, hC.keep hk hF, hr⟩
theorem BinR.of {cy : Nat → Nat} {σ : Wd} {h q1 q2 q3 q4 : Nat} {cap : Int} {mf : Bool} {old cnt tt : Int} {g1 g2 g3 g4 : Nat → Int} {l : List Ly} (hC : BinC cy σ h q1 q2 q3 q4 cap mf old cnt tt g1 g2 g3 g4) (h1 : cnt = (l.length : Int)) (h2 : tt = tot l) (ho : 0 ≤ old ∧ old < 80) (hn : l.length ≤ 80) (hl : l = ringL (G4 g1 g2 g3 g4) old l.length) (hok : lysOk l) : BinR cy σ h q1 q2 q3 q4 (cap, mf, l) := by
  subst h1 h2
  exact ⟨old, g1, g2, g3, g4, hC, ho, hn, hl, hok⟩
theorem G4_ups (g1 g2 g3 g4 : Nat → Int) (k : Nat) (a b c d : Int) (s : Nat) : G4 (ups g1 k a) (ups g2 k b) (ups g3 k c) (ups g4 k d) s = if s = k then (a, b, c, d) else G4 g1 g2 g3 g4 s := by
  unfold G4 ups
  by_cases h : s = k <;> simp [h]
/-- a ring's slots are apart -/
theorem ring_slot {old : Int} {i j : Int} (hi : 0 ≤ i ∧ i < 80) (hj : 0 ≤ j ∧ j < 80) (hne : i ≠ j) : ((old + i) % 80).toNat ≠ ((old + j) % 80).toNat := by omega
theorem ring_add {g1 g2 g3 g4 : Nat → Int} {old : Int} {l : List Ly} (hl : l = ringL (G4 g1 g2 g3 g4) old l.length) (hn : l.length < 80) (a b c d : Int) : l ++ [(a, b, c, d)] = ringL (G4 (ups g1 ((old + (l.length : Int)) % 80).toNat a) (ups g2 ((old + (l.length : Int)) % 80).toNat b) (ups g3 ((old + (l.length : Int)) % 80).toNat c) (ups g4 ((old + (l.length : Int)) % 80).toNat d)) old (l ++ [(a, b, c, d)]).length := by
  rw [List.length_append, show [(a, b, c, d)].length = 1 from rfl, ring_succ, G4_ups, if_pos rfl]
  have h : ringL (G4 g1 g2 g3 g4) old l.length = ringL (G4 (ups g1 ((old + (l.length : Int)) % 80).toNat a) (ups g2 ((old + (l.length : Int)) % 80).toNat b) (ups g3 ((old + (l.length : Int)) % 80).toNat c) (ups g4 ((old + (l.length : Int)) % 80).toNat d)) old l.length := ring_cong (fun i hi => by
    rw [G4_ups, if_neg (ring_slot ⟨by omega, by omega⟩ ⟨by omega, by omega⟩ (by omega))])
  rw [← h, ← hl]
set_option maxHeartbeats 4000000 in
set_option maxRecDepth 20000 in
theorem c_floorMod (l : Launch) (hfl : l.stackTraces = false) (D : va_G) (cy : Nat → Nat) (σ : Wd) (a b : Int) (ha : 0 ≤ a ∧ a < 2147483648) (hb : 0 < b ∧ b < 2147483648) : Ct l yJ9_floorMod_7cf53 cJ9_floorMod_7cf53 3 (some .int) 0 0 0 D cy [vi (a), vi (b)] σ (fun v σ' => v = some (vi (a % b)) ∧ σ' = σ) noX := by
  refine ct_start (by decide +kernel) hfl rfl (fun κ e1 e2 e3 C E NH => ?_)
  subst e1 e2 e3
  have C : Cx κ cJ9_floorMod_7cf53 3 RJ9 "floorMod" 0 := C
  obtain ⟨-, -, -, -, hc, hs⟩ := id E
  show J κ σ [(0, vi (a)), (1, vi (b))] 0 [] 0 0
  refine j_iload_n 0 C dJ9_floorMod_7cf53_0 rfl rfl rfl ?_
  refine j_iload_n 1 C dJ9_floorMod_7cf53_1 rfl rfl rfl ?_
  refine j_irem C dJ9_floorMod_7cf53_2 rfl ha hb ?_
  refine j_istore_n (lv' := [(0, vi (a)), (1, vi (b)), (2, vi (a % b))]) [1, 2, 0] C dJ9_floorMod_7cf53_3 rfl rfl rfl rfl ?_
  refine j_iload_n 0 C dJ9_floorMod_7cf53_4 rfl rfl rfl ?_
  refine j_iload_n 1 C dJ9_floorMod_7cf53_5 rfl rfl rfl ?_
  refine j_ixor C dJ9_floorMod_7cf53_6 rfl ha ⟨by omega, by omega⟩ (fun c hc9 => ?_)
  refine j_if_ge (tgt := 18) C dJ9_floorMod_7cf53_7 rfl rfl ⟨by omega, by omega⟩ (fun cc1 => ?_) (fun cc1 => ?_)
  · refine j_iload_n 2 C dJ9_floorMod_7cf53_18 rfl rfl rfl ?_
    exact j_iret C E dJ9_floorMod_7cf53_19 (by omega) (by omega) ⟨rfl, rfl⟩
  · exact absurd cc1 (by omega)
/-- the rules: three rows a season -/
def RuleR (cy : Nat → Nat) (σ : Wd) (h m f : Nat) (ru : Nat → Int × Int) (se : Int) : Prop := has σ h (.inr (5, [.ref m, .ref f, vi se])) ∧ has σ m (iA cy 12 (fun i => (ru i).1)) ∧ has σ f (iA cy 12 (fun i => (ru i).2)) ∧ m ≠ f ∧ (0 ≤ se ∧ se ≤ 3) ∧ (∀ i, i < 12 → (80 ≤ (ru i).1 ∧ (ru i).1 ≤ 300) ∧ (0 ≤ (ru i).2 ∧ (ru i).2 ≤ 100))
theorem RuleR.keep {cy : Nat → Nat} {σ σ' : Wd} {h m f : Nat} {ru : Nat → Int × Int} {se : Int} {F : Nat → Prop} (hR : RuleR cy σ h m f ru se) (hk : Keep σ σ' F) (hF : ¬ F h ∧ ¬ F m ∧ ¬ F f) : RuleR cy σ' h m f ru se := by
  obtain ⟨h1, h2, h3, hr⟩ := hR
  exact ⟨hk _ _ h1 hF.1, hk _ _ h2 hF.2.1, hk _ _ h3 hF.2.2, hr⟩
def rAt (ru : Nat → Int × Int) (se g : Int) : Int × Int := ru (se * 3 + g - 1).toNat
/-- the grade of grain by the rules of the season -/
def gradeF (ru : Nat → Int × Int) (se x y : Int) : Int := if x ≤ (rAt ru se 1).1 ∧ y ≤ (rAt ru se 1).2 then 1 else if x ≤ (rAt ru se 2).1 ∧ y ≤ (rAt ru se 2).2 then 2 else if x ≤ (rAt ru se 3).1 ∧ y ≤ (rAt ru se 3).2 then 3 else 4
theorem gradeF_in (ru : Nat → Int × Int) (se x y : Int) : 1 ≤ gradeF ru se x y ∧ gradeF ru se x y ≤ 4 := by
  unfold gradeF
  split
  · omega
  · split
    · omega
    · split <;> omega
set_option maxHeartbeats 4000000 in
set_option maxRecDepth 20000 in
theorem c_gradeNow (l : Launch) (hfl : l.stackTraces = false) (D : va_G) (cy : Nat → Nat) (σ : Wd) (h m f : Nat) (ru : Nat → Int × Int) (se x y : Int) (hR : RuleR cy σ h m f ru se) (hx : -2147483648 ≤ x ∧ x < 2147483648) (hy : -2147483648 ≤ y ∧ y < 2147483648) : Ct l yX5_gradeNow cX5_gradeNow 6 (some .int) 0 0 0 D cy [.ref h, vi (x), vi (y)] σ (fun v σ' => v = some (vi (gradeF ru se x y)) ∧ σ' = σ) noX := by
  refine ct_start (by decide +kernel) hfl rfl (fun κ e1 e2 e3 C E NH => ?_)
  subst e1 e2 e3
  have C : Cx κ cX5_gradeNow 6 RX5 "gradeNow" 0 := C
  obtain ⟨-, -, -, -, hc, hs⟩ := id E
  show J κ σ [(0, .ref h), (1, vi (x)), (2, vi (y))] 0 [] 0 0
  obtain ⟨hh, hm9, hf9, hmf, hse, hru⟩ := hR
  refine j_aload_n 0 C dX5_gradeNow_0 rfl rfl rfl ?_
  refine j_get C dX5_gradeNow_1 rfl fg_X5_18 hh rfl ?_
  refine j_iconst C dX5_gradeNow_4 rfl ?_
  refine j_imul C dX5_gradeNow_5 rfl ?_
  refine j_istore_n (lv' := [(0, .ref h), (1, vi (x)), (2, vi (y)), (3, vi (se * 3))]) [1, 2, 3, 0] C dX5_gradeNow_6 rfl rfl rfl rfl ?_
  refine j_iconst C dX5_gradeNow_7 rfl ?_
  refine j_istore (lv' := [(0, .ref h), (1, vi (x)), (2, vi (y)), (3, vi (se * 3)), (4, vi (1))]) [1, 2, 3, 4, 0] C dX5_gradeNow_8 rfl rfl rfl ?_
  refine j_iload 4 C dX5_gradeNow_10 rfl rfl ?_
  refine j_iconst C dX5_gradeNow_12 rfl ?_
  refine j_icmp_gt (tgt := 70) C dX5_gradeNow_13 rfl rfl ⟨by omega, by omega⟩ ⟨by omega, by omega⟩ (fun cc1 => ?_) (fun cc1 => ?_)
  · exact absurd cc1 (by omega)
  · refine j_iload_n 3 C dX5_gradeNow_16 rfl rfl rfl ?_
    refine j_iload 4 C dX5_gradeNow_17 rfl rfl ?_
    refine j_iadd C dX5_gradeNow_19 rfl ?_
    refine j_iconst C dX5_gradeNow_20 rfl ?_
    refine j_isub C dX5_gradeNow_21 rfl ?_
    refine j_istore (lv' := [(0, .ref h), (1, vi (x)), (2, vi (y)), (3, vi (se * 3)), (4, vi (1)), (5, vi (((se * 3) + 1) - 1))]) [1, 2, 3, 4, 5, 0] C dX5_gradeNow_22 rfl rfl rfl ?_
    refine j_iload 5 C dX5_gradeNow_24 rfl rfl ?_
    refine j_if_lt (tgt := 64) C dX5_gradeNow_26 rfl rfl ⟨by omega, by omega⟩ (fun cc2 => ?_) (fun cc2 => ?_)
    · exact absurd cc2 (by omega)
    · refine j_iload 5 C dX5_gradeNow_29 rfl rfl ?_
      refine j_aload_n 0 C dX5_gradeNow_31 rfl rfl rfl ?_
      refine j_get C dX5_gradeNow_32 rfl fg_X5_9 hh rfl ?_
      refine j_alen (i := 2) C dX5_gradeNow_35 rfl rfl hm9 ?_
      refine j_icmp_ge (tgt := 64) C dX5_gradeNow_36 rfl rfl ⟨by omega, by omega⟩ ⟨by omega, by omega⟩ (fun cc3 => ?_) (fun cc3 => ?_)
      · exact absurd cc3 (by omega)
      · refine j_iload_n 1 C dX5_gradeNow_39 rfl rfl rfl ?_
        refine j_aload_n 0 C dX5_gradeNow_40 rfl rfl rfl ?_
        refine j_get C dX5_gradeNow_41 rfl fg_X5_9 hh rfl ?_
        refine j_iload 5 C dX5_gradeNow_44 rfl rfl ?_
        obtain ⟨y4, hy4⟩ : ∃ y : Int, (fun i => (ru i).1) (((se * 3) + 1) - 1).toNat = y := ⟨_, rfl⟩
        have ry4 := (hru (((se * 3) + 1) - 1).toNat (by omega)).1
        rw [show (ru (((se * 3) + 1) - 1).toNat).1 = y4 from hy4] at ry4
        refine j_iald C dX5_gradeNow_46 rfl hm9 ⟨by omega, by omega⟩ (by omega) hy4 ?_
        refine j_icmp_gt (tgt := 64) C dX5_gradeNow_47 rfl rfl ⟨by omega, by omega⟩ ⟨by omega, by omega⟩ (fun cc5 => ?_) (fun cc5 => ?_)
        · have hno1 : ¬ (x ≤ (rAt ru se 1).1 ∧ y ≤ (rAt ru se 1).2) := fun q => absurd q.1 (by rw [show (rAt ru se 1).1 = y4 from hy4]; exact Int.not_le.mpr cc5)
          refine j_iinc (y := 2) (lv' := [(0, .ref h), (1, vi (x)), (2, vi (y)), (3, vi (se * 3)), (4, vi (2)), (5, vi (((se * 3) + 1) - 1))]) 4 [1, 2, 3, 4, 0, 5] C dX5_gradeNow_64 rfl rfl rfl rfl rfl ?_
          refine j_goto (tgt := 10) C dX5_gradeNow_67 rfl ?_
          refine j_iload 4 C dX5_gradeNow_10 rfl rfl ?_
          refine j_iconst C dX5_gradeNow_12 rfl ?_
          refine j_icmp_gt (tgt := 70) C dX5_gradeNow_13 rfl rfl ⟨by omega, by omega⟩ ⟨by omega, by omega⟩ (fun cc6 => ?_) (fun cc6 => ?_)
          · exact absurd cc6 (by omega)
          · refine j_iload_n 3 C dX5_gradeNow_16 rfl rfl rfl ?_
            refine j_iload 4 C dX5_gradeNow_17 rfl rfl ?_
            refine j_iadd C dX5_gradeNow_19 rfl ?_
            refine j_iconst C dX5_gradeNow_20 rfl ?_
            refine j_isub C dX5_gradeNow_21 rfl ?_
            refine j_istore (lv' := [(0, .ref h), (1, vi (x)), (2, vi (y)), (3, vi (se * 3)), (4, vi (2)), (5, vi (((se * 3) + 2) - 1))]) [1, 2, 3, 4, 5, 0] C dX5_gradeNow_22 rfl rfl rfl ?_
            refine j_iload 5 C dX5_gradeNow_24 rfl rfl ?_
            refine j_if_lt (tgt := 64) C dX5_gradeNow_26 rfl rfl ⟨by omega, by omega⟩ (fun cc7 => ?_) (fun cc7 => ?_)
            · exact absurd cc7 (by omega)
            · refine j_iload 5 C dX5_gradeNow_29 rfl rfl ?_
              refine j_aload_n 0 C dX5_gradeNow_31 rfl rfl rfl ?_
              refine j_get C dX5_gradeNow_32 rfl fg_X5_9 hh rfl ?_
              refine j_alen (i := 2) C dX5_gradeNow_35 rfl rfl hm9 ?_
              refine j_icmp_ge (tgt := 64) C dX5_gradeNow_36 rfl rfl ⟨by omega, by omega⟩ ⟨by omega, by omega⟩ (fun cc8 => ?_) (fun cc8 => ?_)
              · exact absurd cc8 (by omega)
              · refine j_iload_n 1 C dX5_gradeNow_39 rfl rfl rfl ?_
                refine j_aload_n 0 C dX5_gradeNow_40 rfl rfl rfl ?_
                refine j_get C dX5_gradeNow_41 rfl fg_X5_9 hh rfl ?_
                refine j_iload 5 C dX5_gradeNow_44 rfl rfl ?_
                obtain ⟨y9, hy9⟩ : ∃ y : Int, (fun i => (ru i).1) (((se * 3) + 2) - 1).toNat = y := ⟨_, rfl⟩
                have ry9 := (hru (((se * 3) + 2) - 1).toNat (by omega)).1
                rw [show (ru (((se * 3) + 2) - 1).toNat).1 = y9 from hy9] at ry9
                refine j_iald C dX5_gradeNow_46 rfl hm9 ⟨by omega, by omega⟩ (by omega) hy9 ?_
                refine j_icmp_gt (tgt := 64) C dX5_gradeNow_47 rfl rfl ⟨by omega, by omega⟩ ⟨by omega, by omega⟩ (fun cc10 => ?_) (fun cc10 => ?_)
                · have hno2 : ¬ (x ≤ (rAt ru se 2).1 ∧ y ≤ (rAt ru se 2).2) := fun q => absurd q.1 (by rw [show (rAt ru se 2).1 = y9 from hy9]; exact Int.not_le.mpr cc10)
                  refine j_iinc (y := 3) (lv' := [(0, .ref h), (1, vi (x)), (2, vi (y)), (3, vi (se * 3)), (4, vi (3)), (5, vi (((se * 3) + 2) - 1))]) 4 [1, 2, 3, 4, 0, 5] C dX5_gradeNow_64 rfl rfl rfl rfl rfl ?_
                  refine j_goto (tgt := 10) C dX5_gradeNow_67 rfl ?_
                  refine j_iload 4 C dX5_gradeNow_10 rfl rfl ?_
                  refine j_iconst C dX5_gradeNow_12 rfl ?_
                  refine j_icmp_gt (tgt := 70) C dX5_gradeNow_13 rfl rfl ⟨by omega, by omega⟩ ⟨by omega, by omega⟩ (fun cc11 => ?_) (fun cc11 => ?_)
                  · exact absurd cc11 (by omega)
                  · refine j_iload_n 3 C dX5_gradeNow_16 rfl rfl rfl ?_
                    refine j_iload 4 C dX5_gradeNow_17 rfl rfl ?_
                    refine j_iadd C dX5_gradeNow_19 rfl ?_
                    refine j_iconst C dX5_gradeNow_20 rfl ?_
                    refine j_isub C dX5_gradeNow_21 rfl ?_
                    refine j_istore (lv' := [(0, .ref h), (1, vi (x)), (2, vi (y)), (3, vi (se * 3)), (4, vi (3)), (5, vi (((se * 3) + 3) - 1))]) [1, 2, 3, 4, 5, 0] C dX5_gradeNow_22 rfl rfl rfl ?_
                    refine j_iload 5 C dX5_gradeNow_24 rfl rfl ?_
                    refine j_if_lt (tgt := 64) C dX5_gradeNow_26 rfl rfl ⟨by omega, by omega⟩ (fun cc12 => ?_) (fun cc12 => ?_)
                    · exact absurd cc12 (by omega)
                    · refine j_iload 5 C dX5_gradeNow_29 rfl rfl ?_
                      refine j_aload_n 0 C dX5_gradeNow_31 rfl rfl rfl ?_
                      refine j_get C dX5_gradeNow_32 rfl fg_X5_9 hh rfl ?_
                      refine j_alen (i := 2) C dX5_gradeNow_35 rfl rfl hm9 ?_
                      refine j_icmp_ge (tgt := 64) C dX5_gradeNow_36 rfl rfl ⟨by omega, by omega⟩ ⟨by omega, by omega⟩ (fun cc13 => ?_) (fun cc13 => ?_)
                      · exact absurd cc13 (by omega)
                      · refine j_iload_n 1 C dX5_gradeNow_39 rfl rfl rfl ?_
                        refine j_aload_n 0 C dX5_gradeNow_40 rfl rfl rfl ?_
                        refine j_get C dX5_gradeNow_41 rfl fg_X5_9 hh rfl ?_
                        refine j_iload 5 C dX5_gradeNow_44 rfl rfl ?_
                        obtain ⟨y14, hy14⟩ : ∃ y : Int, (fun i => (ru i).1) (((se * 3) + 3) - 1).toNat = y := ⟨_, rfl⟩
                        have ry14 := (hru (((se * 3) + 3) - 1).toNat (by omega)).1
                        rw [show (ru (((se * 3) + 3) - 1).toNat).1 = y14 from hy14] at ry14
                        refine j_iald C dX5_gradeNow_46 rfl hm9 ⟨by omega, by omega⟩ (by omega) hy14 ?_
                        refine j_icmp_gt (tgt := 64) C dX5_gradeNow_47 rfl rfl ⟨by omega, by omega⟩ ⟨by omega, by omega⟩ (fun cc15 => ?_) (fun cc15 => ?_)
                        · have hno3 : ¬ (x ≤ (rAt ru se 3).1 ∧ y ≤ (rAt ru se 3).2) := fun q => absurd q.1 (by rw [show (rAt ru se 3).1 = y14 from hy14]; exact Int.not_le.mpr cc15)
                          refine j_iinc (y := 4) (lv' := [(0, .ref h), (1, vi (x)), (2, vi (y)), (3, vi (se * 3)), (4, vi (4)), (5, vi (((se * 3) + 3) - 1))]) 4 [1, 2, 3, 4, 0, 5] C dX5_gradeNow_64 rfl rfl rfl rfl rfl ?_
                          refine j_goto (tgt := 10) C dX5_gradeNow_67 rfl ?_
                          refine j_iload 4 C dX5_gradeNow_10 rfl rfl ?_
                          refine j_iconst C dX5_gradeNow_12 rfl ?_
                          refine j_icmp_gt (tgt := 70) C dX5_gradeNow_13 rfl rfl ⟨by omega, by omega⟩ ⟨by omega, by omega⟩ (fun cc16 => ?_) (fun cc16 => ?_)
                          · refine j_iconst C dX5_gradeNow_70 rfl ?_
                            exact j_iret C E dX5_gradeNow_71 (by omega) (by omega) ⟨congrArg some (congrArg vi (by unfold gradeF; rw [if_neg hno1, if_neg hno2, if_neg hno3])), rfl⟩
                          · exact absurd cc16 (by omega)
                        · refine j_iload_n 2 C dX5_gradeNow_50 rfl rfl rfl ?_
                          refine j_aload_n 0 C dX5_gradeNow_51 rfl rfl rfl ?_
                          refine j_get C dX5_gradeNow_52 rfl fg_X5_15 hh rfl ?_
                          refine j_iload 5 C dX5_gradeNow_55 rfl rfl ?_
                          obtain ⟨y17, hy17⟩ : ∃ y : Int, (fun i => (ru i).2) (((se * 3) + 3) - 1).toNat = y := ⟨_, rfl⟩
                          have ry17 := (hru (((se * 3) + 3) - 1).toNat (by omega)).2
                          rw [show (ru (((se * 3) + 3) - 1).toNat).2 = y17 from hy17] at ry17
                          refine j_iald C dX5_gradeNow_57 rfl hf9 ⟨by omega, by omega⟩ (by omega) hy17 ?_
                          refine j_icmp_gt (tgt := 64) C dX5_gradeNow_58 rfl rfl ⟨by omega, by omega⟩ ⟨by omega, by omega⟩ (fun cc18 => ?_) (fun cc18 => ?_)
                          · have hno3 : ¬ (x ≤ (rAt ru se 3).1 ∧ y ≤ (rAt ru se 3).2) := fun q => absurd q.2 (by rw [show (rAt ru se 3).2 = y17 from hy17]; exact Int.not_le.mpr cc18)
                            refine j_iinc (y := 4) (lv' := [(0, .ref h), (1, vi (x)), (2, vi (y)), (3, vi (se * 3)), (4, vi (4)), (5, vi (((se * 3) + 3) - 1))]) 4 [1, 2, 3, 4, 0, 5] C dX5_gradeNow_64 rfl rfl rfl rfl rfl ?_
                            refine j_goto (tgt := 10) C dX5_gradeNow_67 rfl ?_
                            refine j_iload 4 C dX5_gradeNow_10 rfl rfl ?_
                            refine j_iconst C dX5_gradeNow_12 rfl ?_
                            refine j_icmp_gt (tgt := 70) C dX5_gradeNow_13 rfl rfl ⟨by omega, by omega⟩ ⟨by omega, by omega⟩ (fun cc19 => ?_) (fun cc19 => ?_)
                            · refine j_iconst C dX5_gradeNow_70 rfl ?_
                              exact j_iret C E dX5_gradeNow_71 (by omega) (by omega) ⟨congrArg some (congrArg vi (by unfold gradeF; rw [if_neg hno1, if_neg hno2, if_neg hno3])), rfl⟩
                            · exact absurd cc19 (by omega)
                          · refine j_iload 4 C dX5_gradeNow_61 rfl rfl ?_
                            exact j_iret C E dX5_gradeNow_63 (by omega) (by omega) ⟨congrArg some (congrArg vi (by unfold gradeF; rw [if_neg hno1, if_neg hno2, if_pos ⟨by rw [show (rAt ru se 3).1 = y14 from hy14]; exact cc15, by rw [show (rAt ru se 3).2 = y17 from hy17]; exact cc18⟩])), rfl⟩
                · refine j_iload_n 2 C dX5_gradeNow_50 rfl rfl rfl ?_
                  refine j_aload_n 0 C dX5_gradeNow_51 rfl rfl rfl ?_
                  refine j_get C dX5_gradeNow_52 rfl fg_X5_15 hh rfl ?_
                  refine j_iload 5 C dX5_gradeNow_55 rfl rfl ?_
                  obtain ⟨y20, hy20⟩ : ∃ y : Int, (fun i => (ru i).2) (((se * 3) + 2) - 1).toNat = y := ⟨_, rfl⟩
                  have ry20 := (hru (((se * 3) + 2) - 1).toNat (by omega)).2
                  rw [show (ru (((se * 3) + 2) - 1).toNat).2 = y20 from hy20] at ry20
                  refine j_iald C dX5_gradeNow_57 rfl hf9 ⟨by omega, by omega⟩ (by omega) hy20 ?_
                  refine j_icmp_gt (tgt := 64) C dX5_gradeNow_58 rfl rfl ⟨by omega, by omega⟩ ⟨by omega, by omega⟩ (fun cc21 => ?_) (fun cc21 => ?_)
                  · have hno2 : ¬ (x ≤ (rAt ru se 2).1 ∧ y ≤ (rAt ru se 2).2) := fun q => absurd q.2 (by rw [show (rAt ru se 2).2 = y20 from hy20]; exact Int.not_le.mpr cc21)
                    refine j_iinc (y := 3) (lv' := [(0, .ref h), (1, vi (x)), (2, vi (y)), (3, vi (se * 3)), (4, vi (3)), (5, vi (((se * 3) + 2) - 1))]) 4 [1, 2, 3, 4, 0, 5] C dX5_gradeNow_64 rfl rfl rfl rfl rfl ?_
                    refine j_goto (tgt := 10) C dX5_gradeNow_67 rfl ?_
                    refine j_iload 4 C dX5_gradeNow_10 rfl rfl ?_
                    refine j_iconst C dX5_gradeNow_12 rfl ?_
                    refine j_icmp_gt (tgt := 70) C dX5_gradeNow_13 rfl rfl ⟨by omega, by omega⟩ ⟨by omega, by omega⟩ (fun cc22 => ?_) (fun cc22 => ?_)
                    · exact absurd cc22 (by omega)
                    · refine j_iload_n 3 C dX5_gradeNow_16 rfl rfl rfl ?_
                      refine j_iload 4 C dX5_gradeNow_17 rfl rfl ?_
                      refine j_iadd C dX5_gradeNow_19 rfl ?_
                      refine j_iconst C dX5_gradeNow_20 rfl ?_
                      refine j_isub C dX5_gradeNow_21 rfl ?_
                      refine j_istore (lv' := [(0, .ref h), (1, vi (x)), (2, vi (y)), (3, vi (se * 3)), (4, vi (3)), (5, vi (((se * 3) + 3) - 1))]) [1, 2, 3, 4, 5, 0] C dX5_gradeNow_22 rfl rfl rfl ?_
                      refine j_iload 5 C dX5_gradeNow_24 rfl rfl ?_
                      refine j_if_lt (tgt := 64) C dX5_gradeNow_26 rfl rfl ⟨by omega, by omega⟩ (fun cc23 => ?_) (fun cc23 => ?_)
                      · exact absurd cc23 (by omega)
                      · refine j_iload 5 C dX5_gradeNow_29 rfl rfl ?_
                        refine j_aload_n 0 C dX5_gradeNow_31 rfl rfl rfl ?_
                        refine j_get C dX5_gradeNow_32 rfl fg_X5_9 hh rfl ?_
                        refine j_alen (i := 2) C dX5_gradeNow_35 rfl rfl hm9 ?_
                        refine j_icmp_ge (tgt := 64) C dX5_gradeNow_36 rfl rfl ⟨by omega, by omega⟩ ⟨by omega, by omega⟩ (fun cc24 => ?_) (fun cc24 => ?_)
                        · exact absurd cc24 (by omega)
                        · refine j_iload_n 1 C dX5_gradeNow_39 rfl rfl rfl ?_
                          refine j_aload_n 0 C dX5_gradeNow_40 rfl rfl rfl ?_
                          refine j_get C dX5_gradeNow_41 rfl fg_X5_9 hh rfl ?_
                          refine j_iload 5 C dX5_gradeNow_44 rfl rfl ?_
                          obtain ⟨y25, hy25⟩ : ∃ y : Int, (fun i => (ru i).1) (((se * 3) + 3) - 1).toNat = y := ⟨_, rfl⟩
                          have ry25 := (hru (((se * 3) + 3) - 1).toNat (by omega)).1
                          rw [show (ru (((se * 3) + 3) - 1).toNat).1 = y25 from hy25] at ry25
                          refine j_iald C dX5_gradeNow_46 rfl hm9 ⟨by omega, by omega⟩ (by omega) hy25 ?_
                          refine j_icmp_gt (tgt := 64) C dX5_gradeNow_47 rfl rfl ⟨by omega, by omega⟩ ⟨by omega, by omega⟩ (fun cc26 => ?_) (fun cc26 => ?_)
                          · have hno3 : ¬ (x ≤ (rAt ru se 3).1 ∧ y ≤ (rAt ru se 3).2) := fun q => absurd q.1 (by rw [show (rAt ru se 3).1 = y25 from hy25]; exact Int.not_le.mpr cc26)
                            refine j_iinc (y := 4) (lv' := [(0, .ref h), (1, vi (x)), (2, vi (y)), (3, vi (se * 3)), (4, vi (4)), (5, vi (((se * 3) + 3) - 1))]) 4 [1, 2, 3, 4, 0, 5] C dX5_gradeNow_64 rfl rfl rfl rfl rfl ?_
                            refine j_goto (tgt := 10) C dX5_gradeNow_67 rfl ?_
                            refine j_iload 4 C dX5_gradeNow_10 rfl rfl ?_
                            refine j_iconst C dX5_gradeNow_12 rfl ?_
                            refine j_icmp_gt (tgt := 70) C dX5_gradeNow_13 rfl rfl ⟨by omega, by omega⟩ ⟨by omega, by omega⟩ (fun cc27 => ?_) (fun cc27 => ?_)
                            · refine j_iconst C dX5_gradeNow_70 rfl ?_
                              exact j_iret C E dX5_gradeNow_71 (by omega) (by omega) ⟨congrArg some (congrArg vi (by unfold gradeF; rw [if_neg hno1, if_neg hno2, if_neg hno3])), rfl⟩
                            · exact absurd cc27 (by omega)
                          · refine j_iload_n 2 C dX5_gradeNow_50 rfl rfl rfl ?_
                            refine j_aload_n 0 C dX5_gradeNow_51 rfl rfl rfl ?_
                            refine j_get C dX5_gradeNow_52 rfl fg_X5_15 hh rfl ?_
                            refine j_iload 5 C dX5_gradeNow_55 rfl rfl ?_
                            obtain ⟨y28, hy28⟩ : ∃ y : Int, (fun i => (ru i).2) (((se * 3) + 3) - 1).toNat = y := ⟨_, rfl⟩
                            have ry28 := (hru (((se * 3) + 3) - 1).toNat (by omega)).2
                            rw [show (ru (((se * 3) + 3) - 1).toNat).2 = y28 from hy28] at ry28
                            refine j_iald C dX5_gradeNow_57 rfl hf9 ⟨by omega, by omega⟩ (by omega) hy28 ?_
                            refine j_icmp_gt (tgt := 64) C dX5_gradeNow_58 rfl rfl ⟨by omega, by omega⟩ ⟨by omega, by omega⟩ (fun cc29 => ?_) (fun cc29 => ?_)
                            · have hno3 : ¬ (x ≤ (rAt ru se 3).1 ∧ y ≤ (rAt ru se 3).2) := fun q => absurd q.2 (by rw [show (rAt ru se 3).2 = y28 from hy28]; exact Int.not_le.mpr cc29)
                              refine j_iinc (y := 4) (lv' := [(0, .ref h), (1, vi (x)), (2, vi (y)), (3, vi (se * 3)), (4, vi (4)), (5, vi (((se * 3) + 3) - 1))]) 4 [1, 2, 3, 4, 0, 5] C dX5_gradeNow_64 rfl rfl rfl rfl rfl ?_
                              refine j_goto (tgt := 10) C dX5_gradeNow_67 rfl ?_
                              refine j_iload 4 C dX5_gradeNow_10 rfl rfl ?_
                              refine j_iconst C dX5_gradeNow_12 rfl ?_
                              refine j_icmp_gt (tgt := 70) C dX5_gradeNow_13 rfl rfl ⟨by omega, by omega⟩ ⟨by omega, by omega⟩ (fun cc30 => ?_) (fun cc30 => ?_)
                              · refine j_iconst C dX5_gradeNow_70 rfl ?_
                                exact j_iret C E dX5_gradeNow_71 (by omega) (by omega) ⟨congrArg some (congrArg vi (by unfold gradeF; rw [if_neg hno1, if_neg hno2, if_neg hno3])), rfl⟩
                              · exact absurd cc30 (by omega)
                            · refine j_iload 4 C dX5_gradeNow_61 rfl rfl ?_
                              exact j_iret C E dX5_gradeNow_63 (by omega) (by omega) ⟨congrArg some (congrArg vi (by unfold gradeF; rw [if_neg hno1, if_neg hno2, if_pos ⟨by rw [show (rAt ru se 3).1 = y25 from hy25]; exact cc26, by rw [show (rAt ru se 3).2 = y28 from hy28]; exact cc29⟩])), rfl⟩
                  · refine j_iload 4 C dX5_gradeNow_61 rfl rfl ?_
                    exact j_iret C E dX5_gradeNow_63 (by omega) (by omega) ⟨congrArg some (congrArg vi (by unfold gradeF; rw [if_neg hno1, if_pos ⟨by rw [show (rAt ru se 2).1 = y9 from hy9]; exact cc10, by rw [show (rAt ru se 2).2 = y20 from hy20]; exact cc21⟩])), rfl⟩
        · refine j_iload_n 2 C dX5_gradeNow_50 rfl rfl rfl ?_
          refine j_aload_n 0 C dX5_gradeNow_51 rfl rfl rfl ?_
          refine j_get C dX5_gradeNow_52 rfl fg_X5_15 hh rfl ?_
          refine j_iload 5 C dX5_gradeNow_55 rfl rfl ?_
          obtain ⟨y31, hy31⟩ : ∃ y : Int, (fun i => (ru i).2) (((se * 3) + 1) - 1).toNat = y := ⟨_, rfl⟩
          have ry31 := (hru (((se * 3) + 1) - 1).toNat (by omega)).2
          rw [show (ru (((se * 3) + 1) - 1).toNat).2 = y31 from hy31] at ry31
          refine j_iald C dX5_gradeNow_57 rfl hf9 ⟨by omega, by omega⟩ (by omega) hy31 ?_
          refine j_icmp_gt (tgt := 64) C dX5_gradeNow_58 rfl rfl ⟨by omega, by omega⟩ ⟨by omega, by omega⟩ (fun cc32 => ?_) (fun cc32 => ?_)
          · have hno1 : ¬ (x ≤ (rAt ru se 1).1 ∧ y ≤ (rAt ru se 1).2) := fun q => absurd q.2 (by rw [show (rAt ru se 1).2 = y31 from hy31]; exact Int.not_le.mpr cc32)
            refine j_iinc (y := 2) (lv' := [(0, .ref h), (1, vi (x)), (2, vi (y)), (3, vi (se * 3)), (4, vi (2)), (5, vi (((se * 3) + 1) - 1))]) 4 [1, 2, 3, 4, 0, 5] C dX5_gradeNow_64 rfl rfl rfl rfl rfl ?_
            refine j_goto (tgt := 10) C dX5_gradeNow_67 rfl ?_
            refine j_iload 4 C dX5_gradeNow_10 rfl rfl ?_
            refine j_iconst C dX5_gradeNow_12 rfl ?_
            refine j_icmp_gt (tgt := 70) C dX5_gradeNow_13 rfl rfl ⟨by omega, by omega⟩ ⟨by omega, by omega⟩ (fun cc33 => ?_) (fun cc33 => ?_)
            · exact absurd cc33 (by omega)
            · refine j_iload_n 3 C dX5_gradeNow_16 rfl rfl rfl ?_
              refine j_iload 4 C dX5_gradeNow_17 rfl rfl ?_
              refine j_iadd C dX5_gradeNow_19 rfl ?_
              refine j_iconst C dX5_gradeNow_20 rfl ?_
              refine j_isub C dX5_gradeNow_21 rfl ?_
              refine j_istore (lv' := [(0, .ref h), (1, vi (x)), (2, vi (y)), (3, vi (se * 3)), (4, vi (2)), (5, vi (((se * 3) + 2) - 1))]) [1, 2, 3, 4, 5, 0] C dX5_gradeNow_22 rfl rfl rfl ?_
              refine j_iload 5 C dX5_gradeNow_24 rfl rfl ?_
              refine j_if_lt (tgt := 64) C dX5_gradeNow_26 rfl rfl ⟨by omega, by omega⟩ (fun cc34 => ?_) (fun cc34 => ?_)
              · exact absurd cc34 (by omega)
              · refine j_iload 5 C dX5_gradeNow_29 rfl rfl ?_
                refine j_aload_n 0 C dX5_gradeNow_31 rfl rfl rfl ?_
                refine j_get C dX5_gradeNow_32 rfl fg_X5_9 hh rfl ?_
                refine j_alen (i := 2) C dX5_gradeNow_35 rfl rfl hm9 ?_
                refine j_icmp_ge (tgt := 64) C dX5_gradeNow_36 rfl rfl ⟨by omega, by omega⟩ ⟨by omega, by omega⟩ (fun cc35 => ?_) (fun cc35 => ?_)
                · exact absurd cc35 (by omega)
                · refine j_iload_n 1 C dX5_gradeNow_39 rfl rfl rfl ?_
                  refine j_aload_n 0 C dX5_gradeNow_40 rfl rfl rfl ?_
                  refine j_get C dX5_gradeNow_41 rfl fg_X5_9 hh rfl ?_
                  refine j_iload 5 C dX5_gradeNow_44 rfl rfl ?_
                  obtain ⟨y36, hy36⟩ : ∃ y : Int, (fun i => (ru i).1) (((se * 3) + 2) - 1).toNat = y := ⟨_, rfl⟩
                  have ry36 := (hru (((se * 3) + 2) - 1).toNat (by omega)).1
                  rw [show (ru (((se * 3) + 2) - 1).toNat).1 = y36 from hy36] at ry36
                  refine j_iald C dX5_gradeNow_46 rfl hm9 ⟨by omega, by omega⟩ (by omega) hy36 ?_
                  refine j_icmp_gt (tgt := 64) C dX5_gradeNow_47 rfl rfl ⟨by omega, by omega⟩ ⟨by omega, by omega⟩ (fun cc37 => ?_) (fun cc37 => ?_)
                  · have hno2 : ¬ (x ≤ (rAt ru se 2).1 ∧ y ≤ (rAt ru se 2).2) := fun q => absurd q.1 (by rw [show (rAt ru se 2).1 = y36 from hy36]; exact Int.not_le.mpr cc37)
                    refine j_iinc (y := 3) (lv' := [(0, .ref h), (1, vi (x)), (2, vi (y)), (3, vi (se * 3)), (4, vi (3)), (5, vi (((se * 3) + 2) - 1))]) 4 [1, 2, 3, 4, 0, 5] C dX5_gradeNow_64 rfl rfl rfl rfl rfl ?_
                    refine j_goto (tgt := 10) C dX5_gradeNow_67 rfl ?_
                    refine j_iload 4 C dX5_gradeNow_10 rfl rfl ?_
                    refine j_iconst C dX5_gradeNow_12 rfl ?_
                    refine j_icmp_gt (tgt := 70) C dX5_gradeNow_13 rfl rfl ⟨by omega, by omega⟩ ⟨by omega, by omega⟩ (fun cc38 => ?_) (fun cc38 => ?_)
                    · exact absurd cc38 (by omega)
                    · refine j_iload_n 3 C dX5_gradeNow_16 rfl rfl rfl ?_
                      refine j_iload 4 C dX5_gradeNow_17 rfl rfl ?_
                      refine j_iadd C dX5_gradeNow_19 rfl ?_
                      refine j_iconst C dX5_gradeNow_20 rfl ?_
                      refine j_isub C dX5_gradeNow_21 rfl ?_
                      refine j_istore (lv' := [(0, .ref h), (1, vi (x)), (2, vi (y)), (3, vi (se * 3)), (4, vi (3)), (5, vi (((se * 3) + 3) - 1))]) [1, 2, 3, 4, 5, 0] C dX5_gradeNow_22 rfl rfl rfl ?_
                      refine j_iload 5 C dX5_gradeNow_24 rfl rfl ?_
                      refine j_if_lt (tgt := 64) C dX5_gradeNow_26 rfl rfl ⟨by omega, by omega⟩ (fun cc39 => ?_) (fun cc39 => ?_)
                      · exact absurd cc39 (by omega)
                      · refine j_iload 5 C dX5_gradeNow_29 rfl rfl ?_
                        refine j_aload_n 0 C dX5_gradeNow_31 rfl rfl rfl ?_
                        refine j_get C dX5_gradeNow_32 rfl fg_X5_9 hh rfl ?_
                        refine j_alen (i := 2) C dX5_gradeNow_35 rfl rfl hm9 ?_
                        refine j_icmp_ge (tgt := 64) C dX5_gradeNow_36 rfl rfl ⟨by omega, by omega⟩ ⟨by omega, by omega⟩ (fun cc40 => ?_) (fun cc40 => ?_)
                        · exact absurd cc40 (by omega)
                        · refine j_iload_n 1 C dX5_gradeNow_39 rfl rfl rfl ?_
                          refine j_aload_n 0 C dX5_gradeNow_40 rfl rfl rfl ?_
                          refine j_get C dX5_gradeNow_41 rfl fg_X5_9 hh rfl ?_
                          refine j_iload 5 C dX5_gradeNow_44 rfl rfl ?_
                          obtain ⟨y41, hy41⟩ : ∃ y : Int, (fun i => (ru i).1) (((se * 3) + 3) - 1).toNat = y := ⟨_, rfl⟩
                          have ry41 := (hru (((se * 3) + 3) - 1).toNat (by omega)).1
                          rw [show (ru (((se * 3) + 3) - 1).toNat).1 = y41 from hy41] at ry41
                          refine j_iald C dX5_gradeNow_46 rfl hm9 ⟨by omega, by omega⟩ (by omega) hy41 ?_
                          refine j_icmp_gt (tgt := 64) C dX5_gradeNow_47 rfl rfl ⟨by omega, by omega⟩ ⟨by omega, by omega⟩ (fun cc42 => ?_) (fun cc42 => ?_)
                          · have hno3 : ¬ (x ≤ (rAt ru se 3).1 ∧ y ≤ (rAt ru se 3).2) := fun q => absurd q.1 (by rw [show (rAt ru se 3).1 = y41 from hy41]; exact Int.not_le.mpr cc42)
                            refine j_iinc (y := 4) (lv' := [(0, .ref h), (1, vi (x)), (2, vi (y)), (3, vi (se * 3)), (4, vi (4)), (5, vi (((se * 3) + 3) - 1))]) 4 [1, 2, 3, 4, 0, 5] C dX5_gradeNow_64 rfl rfl rfl rfl rfl ?_
                            refine j_goto (tgt := 10) C dX5_gradeNow_67 rfl ?_
                            refine j_iload 4 C dX5_gradeNow_10 rfl rfl ?_
                            refine j_iconst C dX5_gradeNow_12 rfl ?_
                            refine j_icmp_gt (tgt := 70) C dX5_gradeNow_13 rfl rfl ⟨by omega, by omega⟩ ⟨by omega, by omega⟩ (fun cc43 => ?_) (fun cc43 => ?_)
                            · refine j_iconst C dX5_gradeNow_70 rfl ?_
                              exact j_iret C E dX5_gradeNow_71 (by omega) (by omega) ⟨congrArg some (congrArg vi (by unfold gradeF; rw [if_neg hno1, if_neg hno2, if_neg hno3])), rfl⟩
                            · exact absurd cc43 (by omega)
                          · refine j_iload_n 2 C dX5_gradeNow_50 rfl rfl rfl ?_
                            refine j_aload_n 0 C dX5_gradeNow_51 rfl rfl rfl ?_
                            refine j_get C dX5_gradeNow_52 rfl fg_X5_15 hh rfl ?_
                            refine j_iload 5 C dX5_gradeNow_55 rfl rfl ?_
                            obtain ⟨y44, hy44⟩ : ∃ y : Int, (fun i => (ru i).2) (((se * 3) + 3) - 1).toNat = y := ⟨_, rfl⟩
                            have ry44 := (hru (((se * 3) + 3) - 1).toNat (by omega)).2
                            rw [show (ru (((se * 3) + 3) - 1).toNat).2 = y44 from hy44] at ry44
                            refine j_iald C dX5_gradeNow_57 rfl hf9 ⟨by omega, by omega⟩ (by omega) hy44 ?_
                            refine j_icmp_gt (tgt := 64) C dX5_gradeNow_58 rfl rfl ⟨by omega, by omega⟩ ⟨by omega, by omega⟩ (fun cc45 => ?_) (fun cc45 => ?_)
                            · have hno3 : ¬ (x ≤ (rAt ru se 3).1 ∧ y ≤ (rAt ru se 3).2) := fun q => absurd q.2 (by rw [show (rAt ru se 3).2 = y44 from hy44]; exact Int.not_le.mpr cc45)
                              refine j_iinc (y := 4) (lv' := [(0, .ref h), (1, vi (x)), (2, vi (y)), (3, vi (se * 3)), (4, vi (4)), (5, vi (((se * 3) + 3) - 1))]) 4 [1, 2, 3, 4, 0, 5] C dX5_gradeNow_64 rfl rfl rfl rfl rfl ?_
                              refine j_goto (tgt := 10) C dX5_gradeNow_67 rfl ?_
                              refine j_iload 4 C dX5_gradeNow_10 rfl rfl ?_
                              refine j_iconst C dX5_gradeNow_12 rfl ?_
                              refine j_icmp_gt (tgt := 70) C dX5_gradeNow_13 rfl rfl ⟨by omega, by omega⟩ ⟨by omega, by omega⟩ (fun cc46 => ?_) (fun cc46 => ?_)
                              · refine j_iconst C dX5_gradeNow_70 rfl ?_
                                exact j_iret C E dX5_gradeNow_71 (by omega) (by omega) ⟨congrArg some (congrArg vi (by unfold gradeF; rw [if_neg hno1, if_neg hno2, if_neg hno3])), rfl⟩
                              · exact absurd cc46 (by omega)
                            · refine j_iload 4 C dX5_gradeNow_61 rfl rfl ?_
                              exact j_iret C E dX5_gradeNow_63 (by omega) (by omega) ⟨congrArg some (congrArg vi (by unfold gradeF; rw [if_neg hno1, if_neg hno2, if_pos ⟨by rw [show (rAt ru se 3).1 = y41 from hy41]; exact cc42, by rw [show (rAt ru se 3).2 = y44 from hy44]; exact cc45⟩])), rfl⟩
                  · refine j_iload_n 2 C dX5_gradeNow_50 rfl rfl rfl ?_
                    refine j_aload_n 0 C dX5_gradeNow_51 rfl rfl rfl ?_
                    refine j_get C dX5_gradeNow_52 rfl fg_X5_15 hh rfl ?_
                    refine j_iload 5 C dX5_gradeNow_55 rfl rfl ?_
                    obtain ⟨y47, hy47⟩ : ∃ y : Int, (fun i => (ru i).2) (((se * 3) + 2) - 1).toNat = y := ⟨_, rfl⟩
                    have ry47 := (hru (((se * 3) + 2) - 1).toNat (by omega)).2
                    rw [show (ru (((se * 3) + 2) - 1).toNat).2 = y47 from hy47] at ry47
                    refine j_iald C dX5_gradeNow_57 rfl hf9 ⟨by omega, by omega⟩ (by omega) hy47 ?_
                    refine j_icmp_gt (tgt := 64) C dX5_gradeNow_58 rfl rfl ⟨by omega, by omega⟩ ⟨by omega, by omega⟩ (fun cc48 => ?_) (fun cc48 => ?_)
                    · have hno2 : ¬ (x ≤ (rAt ru se 2).1 ∧ y ≤ (rAt ru se 2).2) := fun q => absurd q.2 (by rw [show (rAt ru se 2).2 = y47 from hy47]; exact Int.not_le.mpr cc48)
                      refine j_iinc (y := 3) (lv' := [(0, .ref h), (1, vi (x)), (2, vi (y)), (3, vi (se * 3)), (4, vi (3)), (5, vi (((se * 3) + 2) - 1))]) 4 [1, 2, 3, 4, 0, 5] C dX5_gradeNow_64 rfl rfl rfl rfl rfl ?_
                      refine j_goto (tgt := 10) C dX5_gradeNow_67 rfl ?_
                      refine j_iload 4 C dX5_gradeNow_10 rfl rfl ?_
                      refine j_iconst C dX5_gradeNow_12 rfl ?_
                      refine j_icmp_gt (tgt := 70) C dX5_gradeNow_13 rfl rfl ⟨by omega, by omega⟩ ⟨by omega, by omega⟩ (fun cc49 => ?_) (fun cc49 => ?_)
                      · exact absurd cc49 (by omega)
                      · refine j_iload_n 3 C dX5_gradeNow_16 rfl rfl rfl ?_
                        refine j_iload 4 C dX5_gradeNow_17 rfl rfl ?_
                        refine j_iadd C dX5_gradeNow_19 rfl ?_
                        refine j_iconst C dX5_gradeNow_20 rfl ?_
                        refine j_isub C dX5_gradeNow_21 rfl ?_
                        refine j_istore (lv' := [(0, .ref h), (1, vi (x)), (2, vi (y)), (3, vi (se * 3)), (4, vi (3)), (5, vi (((se * 3) + 3) - 1))]) [1, 2, 3, 4, 5, 0] C dX5_gradeNow_22 rfl rfl rfl ?_
                        refine j_iload 5 C dX5_gradeNow_24 rfl rfl ?_
                        refine j_if_lt (tgt := 64) C dX5_gradeNow_26 rfl rfl ⟨by omega, by omega⟩ (fun cc50 => ?_) (fun cc50 => ?_)
                        · exact absurd cc50 (by omega)
                        · refine j_iload 5 C dX5_gradeNow_29 rfl rfl ?_
                          refine j_aload_n 0 C dX5_gradeNow_31 rfl rfl rfl ?_
                          refine j_get C dX5_gradeNow_32 rfl fg_X5_9 hh rfl ?_
                          refine j_alen (i := 2) C dX5_gradeNow_35 rfl rfl hm9 ?_
                          refine j_icmp_ge (tgt := 64) C dX5_gradeNow_36 rfl rfl ⟨by omega, by omega⟩ ⟨by omega, by omega⟩ (fun cc51 => ?_) (fun cc51 => ?_)
                          · exact absurd cc51 (by omega)
                          · refine j_iload_n 1 C dX5_gradeNow_39 rfl rfl rfl ?_
                            refine j_aload_n 0 C dX5_gradeNow_40 rfl rfl rfl ?_
                            refine j_get C dX5_gradeNow_41 rfl fg_X5_9 hh rfl ?_
                            refine j_iload 5 C dX5_gradeNow_44 rfl rfl ?_
                            obtain ⟨y52, hy52⟩ : ∃ y : Int, (fun i => (ru i).1) (((se * 3) + 3) - 1).toNat = y := ⟨_, rfl⟩
                            have ry52 := (hru (((se * 3) + 3) - 1).toNat (by omega)).1
                            rw [show (ru (((se * 3) + 3) - 1).toNat).1 = y52 from hy52] at ry52
                            refine j_iald C dX5_gradeNow_46 rfl hm9 ⟨by omega, by omega⟩ (by omega) hy52 ?_
                            refine j_icmp_gt (tgt := 64) C dX5_gradeNow_47 rfl rfl ⟨by omega, by omega⟩ ⟨by omega, by omega⟩ (fun cc53 => ?_) (fun cc53 => ?_)
                            · have hno3 : ¬ (x ≤ (rAt ru se 3).1 ∧ y ≤ (rAt ru se 3).2) := fun q => absurd q.1 (by rw [show (rAt ru se 3).1 = y52 from hy52]; exact Int.not_le.mpr cc53)
                              refine j_iinc (y := 4) (lv' := [(0, .ref h), (1, vi (x)), (2, vi (y)), (3, vi (se * 3)), (4, vi (4)), (5, vi (((se * 3) + 3) - 1))]) 4 [1, 2, 3, 4, 0, 5] C dX5_gradeNow_64 rfl rfl rfl rfl rfl ?_
                              refine j_goto (tgt := 10) C dX5_gradeNow_67 rfl ?_
                              refine j_iload 4 C dX5_gradeNow_10 rfl rfl ?_
                              refine j_iconst C dX5_gradeNow_12 rfl ?_
                              refine j_icmp_gt (tgt := 70) C dX5_gradeNow_13 rfl rfl ⟨by omega, by omega⟩ ⟨by omega, by omega⟩ (fun cc54 => ?_) (fun cc54 => ?_)
                              · refine j_iconst C dX5_gradeNow_70 rfl ?_
                                exact j_iret C E dX5_gradeNow_71 (by omega) (by omega) ⟨congrArg some (congrArg vi (by unfold gradeF; rw [if_neg hno1, if_neg hno2, if_neg hno3])), rfl⟩
                              · exact absurd cc54 (by omega)
                            · refine j_iload_n 2 C dX5_gradeNow_50 rfl rfl rfl ?_
                              refine j_aload_n 0 C dX5_gradeNow_51 rfl rfl rfl ?_
                              refine j_get C dX5_gradeNow_52 rfl fg_X5_15 hh rfl ?_
                              refine j_iload 5 C dX5_gradeNow_55 rfl rfl ?_
                              obtain ⟨y55, hy55⟩ : ∃ y : Int, (fun i => (ru i).2) (((se * 3) + 3) - 1).toNat = y := ⟨_, rfl⟩
                              have ry55 := (hru (((se * 3) + 3) - 1).toNat (by omega)).2
                              rw [show (ru (((se * 3) + 3) - 1).toNat).2 = y55 from hy55] at ry55
                              refine j_iald C dX5_gradeNow_57 rfl hf9 ⟨by omega, by omega⟩ (by omega) hy55 ?_
                              refine j_icmp_gt (tgt := 64) C dX5_gradeNow_58 rfl rfl ⟨by omega, by omega⟩ ⟨by omega, by omega⟩ (fun cc56 => ?_) (fun cc56 => ?_)
                              · have hno3 : ¬ (x ≤ (rAt ru se 3).1 ∧ y ≤ (rAt ru se 3).2) := fun q => absurd q.2 (by rw [show (rAt ru se 3).2 = y55 from hy55]; exact Int.not_le.mpr cc56)
                                refine j_iinc (y := 4) (lv' := [(0, .ref h), (1, vi (x)), (2, vi (y)), (3, vi (se * 3)), (4, vi (4)), (5, vi (((se * 3) + 3) - 1))]) 4 [1, 2, 3, 4, 0, 5] C dX5_gradeNow_64 rfl rfl rfl rfl rfl ?_
                                refine j_goto (tgt := 10) C dX5_gradeNow_67 rfl ?_
                                refine j_iload 4 C dX5_gradeNow_10 rfl rfl ?_
                                refine j_iconst C dX5_gradeNow_12 rfl ?_
                                refine j_icmp_gt (tgt := 70) C dX5_gradeNow_13 rfl rfl ⟨by omega, by omega⟩ ⟨by omega, by omega⟩ (fun cc57 => ?_) (fun cc57 => ?_)
                                · refine j_iconst C dX5_gradeNow_70 rfl ?_
                                  exact j_iret C E dX5_gradeNow_71 (by omega) (by omega) ⟨congrArg some (congrArg vi (by unfold gradeF; rw [if_neg hno1, if_neg hno2, if_neg hno3])), rfl⟩
                                · exact absurd cc57 (by omega)
                              · refine j_iload 4 C dX5_gradeNow_61 rfl rfl ?_
                                exact j_iret C E dX5_gradeNow_63 (by omega) (by omega) ⟨congrArg some (congrArg vi (by unfold gradeF; rw [if_neg hno1, if_neg hno2, if_pos ⟨by rw [show (rAt ru se 3).1 = y52 from hy52]; exact cc53, by rw [show (rAt ru se 3).2 = y55 from hy55]; exact cc56⟩])), rfl⟩
                    · refine j_iload 4 C dX5_gradeNow_61 rfl rfl ?_
                      exact j_iret C E dX5_gradeNow_63 (by omega) (by omega) ⟨congrArg some (congrArg vi (by unfold gradeF; rw [if_neg hno1, if_pos ⟨by rw [show (rAt ru se 2).1 = y36 from hy36]; exact cc37, by rw [show (rAt ru se 2).2 = y47 from hy47]; exact cc48⟩])), rfl⟩
          · refine j_iload 4 C dX5_gradeNow_61 rfl rfl ?_
            exact j_iret C E dX5_gradeNow_63 (by omega) (by omega) ⟨congrArg some (congrArg vi (by unfold gradeF; rw [if_pos ⟨by rw [show (rAt ru se 1).1 = y4 from hy4]; exact cc5, by rw [show (rAt ru se 1).2 = y31 from hy31]; exact cc32⟩])), rfl⟩
set_option maxHeartbeats 4000000 in
set_option maxRecDepth 20000 in
theorem c_slotAt (l : Launch) (hfl : l.stackTraces = false) (D : va_G) (cy : Nat → Nat) (σ : Wd) (h q1 q2 q3 q4 : Nat) (cap : Int) (mf : Bool) (old cnt tt i : Int) (hh : has σ h (.inr (0, [vi (cap), vi (b01 mf), .ref q1, .ref q2, .ref q3, .ref q4, vi (old), vi (cnt), vi (tt)]))) (ho : 0 ≤ old ∧ old < 80) (hi : 0 ≤ i ∧ i < cnt) (hcn : cnt ≤ 80) : Ct l yX0_slotAt cX0_slotAt 2 (some .int) 1 0 0 D cy [.ref h, vi (i)] σ (fun v σ' => v = some (vi (slotI mf old cnt i)) ∧ σ' = σ) noX := by
  refine ct_start (by decide +kernel) hfl rfl (fun κ e1 e2 e3 C E NH => ?_)
  subst e1 e2 e3
  have C : Cx κ cX0_slotAt 2 RX0 "slotAt" 1 := C
  obtain ⟨-, -, -, -, hc, hs⟩ := id E
  show J κ σ [(0, .ref h), (1, vi (i))] 0 [] 0 0
  refine j_aload_n 0 C dX0_slotAt_0 rfl rfl rfl ?_
  refine j_get C dX0_slotAt_1 rfl fg_X0_37 hh rfl ?_
  refine j_if_eq (tgt := 16) C dX0_slotAt_4 rfl rfl ⟨by unfold b01; split <;> decide, by unfold b01; split <;> decide⟩ (fun cc1 => ?_) (fun cc1 => ?_)
  · refine j_aload_n 0 C dX0_slotAt_16 rfl rfl rfl ?_
    refine j_get C dX0_slotAt_17 rfl fg_X0_24 hh rfl ?_
    refine j_aload_n 0 C dX0_slotAt_20 rfl rfl rfl ?_
    refine j_get C dX0_slotAt_21 rfl fg_X0_28 hh rfl ?_
    refine j_iadd C dX0_slotAt_24 rfl ?_
    refine j_iconst C dX0_slotAt_25 rfl ?_
    refine j_isub C dX0_slotAt_26 rfl ?_
    refine j_iload_n 1 C dX0_slotAt_27 rfl rfl rfl ?_
    refine j_isub C dX0_slotAt_28 rfl ?_
    refine j_bipush C dX0_slotAt_29 rfl (by decide) ?_
    refine j_callS (st' := []) (As := [vi (((old + cnt) - 1) - i), vi (80)]) C dX0_slotAt_31 rfl m_X0_41 rfl rfl (c_floorMod (kL κ) hfl (kD κ) (kc κ) σ (((old + cnt) - 1) - i) 80 ⟨by omega, by omega⟩ ⟨by omega, by omega⟩) rfl (by omega) (by omega) (by omega) (fun _ _ hx => hx.elim) (fun v3 τ2 hp4 => ?_)
    obtain ⟨rfl, rfl⟩ := hp4
    show J κ τ2 [(0, .ref h), (1, vi (i))] 34 [vi ((((old + cnt) - 1) - i) % 80)] _ _
    exact j_iret C E dX0_slotAt_34 (by omega) (by omega) ⟨by rcases b01_in mf with ⟨e9, rfl⟩ | ⟨e9, rfl⟩ <;> first | rfl | exact absurd e9 cc1 | (exfalso; omega), rfl⟩
  · refine j_aload_n 0 C dX0_slotAt_7 rfl rfl rfl ?_
    refine j_get C dX0_slotAt_8 rfl fg_X0_24 hh rfl ?_
    refine j_iload_n 1 C dX0_slotAt_11 rfl rfl rfl ?_
    refine j_iadd C dX0_slotAt_12 rfl ?_
    refine j_goto (tgt := 29) C dX0_slotAt_13 rfl ?_
    refine j_bipush C dX0_slotAt_29 rfl (by decide) ?_
    refine j_callS (st' := []) (As := [vi (old + i), vi (80)]) C dX0_slotAt_31 rfl m_X0_41 rfl rfl (c_floorMod (kL κ) hfl (kD κ) (kc κ) σ (old + i) 80 ⟨by omega, by omega⟩ ⟨by omega, by omega⟩) rfl (by omega) (by omega) (by omega) (fun _ _ hx => hx.elim) (fun v6 τ5 hp7 => ?_)
    obtain ⟨rfl, rfl⟩ := hp7
    show J κ τ5 [(0, .ref h), (1, vi (i))] 34 [vi ((old + i) % 80)] _ _
    exact j_iret C E dX0_slotAt_34 (by omega) (by omega) ⟨by rcases b01_in mf with ⟨e9, rfl⟩ | ⟨e9, rfl⟩ <;> first | rfl | exact absurd e9 cc1 | (exfalso; omega), rfl⟩
set_option maxHeartbeats 4000000 in
set_option maxRecDepth 20000 in
theorem c_slotFromOldest (l : Launch) (hfl : l.stackTraces = false) (D : va_G) (cy : Nat → Nat) (σ : Wd) (h q1 q2 q3 q4 : Nat) (cap : Int) (mf : Bool) (old cnt tt i : Int) (hh : has σ h (.inr (0, [vi (cap), vi (b01 mf), .ref q1, .ref q2, .ref q3, .ref q4, vi (old), vi (cnt), vi (tt)]))) (ho : 0 ≤ old ∧ old < 80) (hi : 0 ≤ i ∧ i ≤ 80) : Ct l yX0_slotFromOldest cX0_slotFromOldest 2 (some .int) 1 0 0 D cy [.ref h, vi (i)] σ (fun v σ' => v = some (vi ((old + i) % 80)) ∧ σ' = σ) noX := by
  refine ct_start (by decide +kernel) hfl rfl (fun κ e1 e2 e3 C E NH => ?_)
  subst e1 e2 e3
  have C : Cx κ cX0_slotFromOldest 2 RX0 "slotFromOldest" 1 := C
  obtain ⟨-, -, -, -, hc, hs⟩ := id E
  show J κ σ [(0, .ref h), (1, vi (i))] 0 [] 0 0
  refine j_aload_n 0 C dX0_slotFromOldest_0 rfl rfl rfl ?_
  refine j_get C dX0_slotFromOldest_1 rfl fg_X0_24 hh rfl ?_
  refine j_iload_n 1 C dX0_slotFromOldest_4 rfl rfl rfl ?_
  refine j_iadd C dX0_slotFromOldest_5 rfl ?_
  refine j_bipush C dX0_slotFromOldest_6 rfl (by decide) ?_
  refine j_callS (st' := []) (As := [vi (old + i), vi (80)]) C dX0_slotFromOldest_8 rfl m_X0_41 rfl rfl (c_floorMod (kL κ) hfl (kD κ) (kc κ) σ (old + i) 80 ⟨by omega, by omega⟩ ⟨by omega, by omega⟩) rfl (by omega) (by omega) (by omega) (fun _ _ hx => hx.elim) (fun v2 τ1 hp3 => ?_)
  obtain ⟨rfl, rfl⟩ := hp3
  show J κ τ1 [(0, .ref h), (1, vi (i))] 11 [vi ((old + i) % 80)] _ _
  exact j_iret C E dX0_slotFromOldest_11 (by omega) (by omega) ⟨rfl, rfl⟩
set_option maxHeartbeats 4000000 in
set_option maxRecDepth 20000 in
theorem c_bushelsAt (l : Launch) (hfl : l.stackTraces = false) (D : va_G) (cy : Nat → Nat) (σ : Wd) (h q1 q2 q3 q4 : Nat) (cap : Int) (mf : Bool) (ly : List Ly) (hB : BinR cy σ h q1 q2 q3 q4 (cap, mf, ly)) (i : Int) (hi : 0 ≤ i ∧ i < (ly.length : Int)) : Ct l yX0_bushelsAt cX0_bushelsAt 2 (some .int) 2 0 0 D cy [.ref h, vi (i)] σ (fun v σ' => v = some (vi ((lyAt (fl (cap, mf, ly)) i).1)) ∧ σ' = σ) noX := by
  refine ct_start (by decide +kernel) hfl rfl (fun κ e1 e2 e3 C E NH => ?_)
  subst e1 e2 e3
  have C : Cx κ cX0_bushelsAt 2 RX0 "bushelsAt" 2 := C
  obtain ⟨-, -, -, -, hc, hs⟩ := id E
  show J κ σ [(0, .ref h), (1, vi (i))] 0 [] 0 0
  obtain ⟨old, g1, g2, g3, g4, ⟨hh, ⟨h1, h2, h3, h4⟩, hne⟩, ho, hcn, hly, hok⟩ := hB
  dsimp only at hh ho hcn hly hok
  refine j_aload_n 0 C dX0_bushelsAt_0 rfl rfl rfl ?_
  refine j_get C dX0_bushelsAt_1 rfl fg_X0_9 hh rfl ?_
  refine j_aload_n 0 C dX0_bushelsAt_4 rfl rfl rfl ?_
  refine j_iload_n 1 C dX0_bushelsAt_5 rfl rfl rfl ?_
  refine j_callV (st' := [.ref q1]) (As := [vi (i)]) C dX0_bushelsAt_6 rfl m_X0_47 hh rfl rfl rfl (c_slotAt (kL κ) hfl (kD κ) (kc κ) σ h q1 q2 q3 q4 cap mf old ly.length (tot ly) i hh ho hi (by omega)) rfl (by omega) (by omega) (by omega) (fun _ _ hx => hx.elim) (fun v2 τ1 hp3 => ?_)
  obtain ⟨rfl, rfl⟩ := hp3
  show J κ τ1 [(0, .ref h), (1, vi (i))] 9 [vi (slotI mf old ly.length i), .ref q1] _ _
  have hsl := slotI_in mf old ly.length i
  obtain ⟨y4, hy4⟩ : ∃ y : Int, g1 (slotI mf old ly.length i).toNat = y := ⟨_, rfl⟩
  refine j_iald C dX0_bushelsAt_9 rfl h1 ⟨by omega, by omega⟩ (by omega) hy4 ?_
  exact j_iret C E dX0_bushelsAt_10 (by omega) (by omega) ⟨congrArg some (congrArg vi (by rw [ring_fl hly hi.1 hi.2]; exact hy4.symm)), rfl⟩
set_option maxHeartbeats 4000000 in
set_option maxRecDepth 20000 in
theorem c_moistureAt (l : Launch) (hfl : l.stackTraces = false) (D : va_G) (cy : Nat → Nat) (σ : Wd) (h q1 q2 q3 q4 : Nat) (cap : Int) (mf : Bool) (ly : List Ly) (hB : BinR cy σ h q1 q2 q3 q4 (cap, mf, ly)) (i : Int) (hi : 0 ≤ i ∧ i < (ly.length : Int)) : Ct l yX0_moistureAt cX0_moistureAt 2 (some .int) 2 0 0 D cy [.ref h, vi (i)] σ (fun v σ' => v = some (vi ((lyAt (fl (cap, mf, ly)) i).2.1)) ∧ σ' = σ) noX := by
  refine ct_start (by decide +kernel) hfl rfl (fun κ e1 e2 e3 C E NH => ?_)
  subst e1 e2 e3
  have C : Cx κ cX0_moistureAt 2 RX0 "moistureAt" 2 := C
  obtain ⟨-, -, -, -, hc, hs⟩ := id E
  show J κ σ [(0, .ref h), (1, vi (i))] 0 [] 0 0
  obtain ⟨old, g1, g2, g3, g4, ⟨hh, ⟨h1, h2, h3, h4⟩, hne⟩, ho, hcn, hly, hok⟩ := hB
  dsimp only at hh ho hcn hly hok
  refine j_aload_n 0 C dX0_moistureAt_0 rfl rfl rfl ?_
  refine j_get C dX0_moistureAt_1 rfl fg_X0_15 hh rfl ?_
  refine j_aload_n 0 C dX0_moistureAt_4 rfl rfl rfl ?_
  refine j_iload_n 1 C dX0_moistureAt_5 rfl rfl rfl ?_
  refine j_callV (st' := [.ref q2]) (As := [vi (i)]) C dX0_moistureAt_6 rfl m_X0_47 hh rfl rfl rfl (c_slotAt (kL κ) hfl (kD κ) (kc κ) σ h q1 q2 q3 q4 cap mf old ly.length (tot ly) i hh ho hi (by omega)) rfl (by omega) (by omega) (by omega) (fun _ _ hx => hx.elim) (fun v2 τ1 hp3 => ?_)
  obtain ⟨rfl, rfl⟩ := hp3
  show J κ τ1 [(0, .ref h), (1, vi (i))] 9 [vi (slotI mf old ly.length i), .ref q2] _ _
  have hsl := slotI_in mf old ly.length i
  obtain ⟨y4, hy4⟩ : ∃ y : Int, g2 (slotI mf old ly.length i).toNat = y := ⟨_, rfl⟩
  refine j_iald C dX0_moistureAt_9 rfl h2 ⟨by omega, by omega⟩ (by omega) hy4 ?_
  exact j_iret C E dX0_moistureAt_10 (by omega) (by omega) ⟨congrArg some (congrArg vi (by rw [ring_fl hly hi.1 hi.2]; exact hy4.symm)), rfl⟩
set_option maxHeartbeats 4000000 in
set_option maxRecDepth 20000 in
theorem c_foreignAt (l : Launch) (hfl : l.stackTraces = false) (D : va_G) (cy : Nat → Nat) (σ : Wd) (h q1 q2 q3 q4 : Nat) (cap : Int) (mf : Bool) (ly : List Ly) (hB : BinR cy σ h q1 q2 q3 q4 (cap, mf, ly)) (i : Int) (hi : 0 ≤ i ∧ i < (ly.length : Int)) : Ct l yX0_foreignAt cX0_foreignAt 2 (some .int) 2 0 0 D cy [.ref h, vi (i)] σ (fun v σ' => v = some (vi ((lyAt (fl (cap, mf, ly)) i).2.2.1)) ∧ σ' = σ) noX := by
  refine ct_start (by decide +kernel) hfl rfl (fun κ e1 e2 e3 C E NH => ?_)
  subst e1 e2 e3
  have C : Cx κ cX0_foreignAt 2 RX0 "foreignAt" 2 := C
  obtain ⟨-, -, -, -, hc, hs⟩ := id E
  show J κ σ [(0, .ref h), (1, vi (i))] 0 [] 0 0
  obtain ⟨old, g1, g2, g3, g4, ⟨hh, ⟨h1, h2, h3, h4⟩, hne⟩, ho, hcn, hly, hok⟩ := hB
  dsimp only at hh ho hcn hly hok
  refine j_aload_n 0 C dX0_foreignAt_0 rfl rfl rfl ?_
  refine j_get C dX0_foreignAt_1 rfl fg_X0_18 hh rfl ?_
  refine j_aload_n 0 C dX0_foreignAt_4 rfl rfl rfl ?_
  refine j_iload_n 1 C dX0_foreignAt_5 rfl rfl rfl ?_
  refine j_callV (st' := [.ref q3]) (As := [vi (i)]) C dX0_foreignAt_6 rfl m_X0_47 hh rfl rfl rfl (c_slotAt (kL κ) hfl (kD κ) (kc κ) σ h q1 q2 q3 q4 cap mf old ly.length (tot ly) i hh ho hi (by omega)) rfl (by omega) (by omega) (by omega) (fun _ _ hx => hx.elim) (fun v2 τ1 hp3 => ?_)
  obtain ⟨rfl, rfl⟩ := hp3
  show J κ τ1 [(0, .ref h), (1, vi (i))] 9 [vi (slotI mf old ly.length i), .ref q3] _ _
  have hsl := slotI_in mf old ly.length i
  obtain ⟨y4, hy4⟩ : ∃ y : Int, g3 (slotI mf old ly.length i).toNat = y := ⟨_, rfl⟩
  refine j_iald C dX0_foreignAt_9 rfl h3 ⟨by omega, by omega⟩ (by omega) hy4 ?_
  exact j_iret C E dX0_foreignAt_10 (by omega) (by omega) ⟨congrArg some (congrArg vi (by rw [ring_fl hly hi.1 hi.2]; exact hy4.symm)), rfl⟩
set_option maxHeartbeats 4000000 in
set_option maxRecDepth 20000 in
theorem c_gradeAt (l : Launch) (hfl : l.stackTraces = false) (D : va_G) (cy : Nat → Nat) (σ : Wd) (h q1 q2 q3 q4 : Nat) (cap : Int) (mf : Bool) (ly : List Ly) (hB : BinR cy σ h q1 q2 q3 q4 (cap, mf, ly)) (i : Int) (hi : 0 ≤ i ∧ i < (ly.length : Int)) : Ct l yX0_gradeAt cX0_gradeAt 2 (some .int) 2 0 0 D cy [.ref h, vi (i)] σ (fun v σ' => v = some (vi ((lyAt (fl (cap, mf, ly)) i).2.2.2)) ∧ σ' = σ) noX := by
  refine ct_start (by decide +kernel) hfl rfl (fun κ e1 e2 e3 C E NH => ?_)
  subst e1 e2 e3
  have C : Cx κ cX0_gradeAt 2 RX0 "gradeAt" 2 := C
  obtain ⟨-, -, -, -, hc, hs⟩ := id E
  show J κ σ [(0, .ref h), (1, vi (i))] 0 [] 0 0
  obtain ⟨old, g1, g2, g3, g4, ⟨hh, ⟨h1, h2, h3, h4⟩, hne⟩, ho, hcn, hly, hok⟩ := hB
  dsimp only at hh ho hcn hly hok
  refine j_aload_n 0 C dX0_gradeAt_0 rfl rfl rfl ?_
  refine j_get C dX0_gradeAt_1 rfl fg_X0_21 hh rfl ?_
  refine j_aload_n 0 C dX0_gradeAt_4 rfl rfl rfl ?_
  refine j_iload_n 1 C dX0_gradeAt_5 rfl rfl rfl ?_
  refine j_callV (st' := [.ref q4]) (As := [vi (i)]) C dX0_gradeAt_6 rfl m_X0_47 hh rfl rfl rfl (c_slotAt (kL κ) hfl (kD κ) (kc κ) σ h q1 q2 q3 q4 cap mf old ly.length (tot ly) i hh ho hi (by omega)) rfl (by omega) (by omega) (by omega) (fun _ _ hx => hx.elim) (fun v2 τ1 hp3 => ?_)
  obtain ⟨rfl, rfl⟩ := hp3
  show J κ τ1 [(0, .ref h), (1, vi (i))] 9 [vi (slotI mf old ly.length i), .ref q4] _ _
  have hsl := slotI_in mf old ly.length i
  obtain ⟨y4, hy4⟩ : ∃ y : Int, g4 (slotI mf old ly.length i).toNat = y := ⟨_, rfl⟩
  refine j_iald C dX0_gradeAt_9 rfl h4 ⟨by omega, by omega⟩ (by omega) hy4 ?_
  exact j_iret C E dX0_gradeAt_10 (by omega) (by omega) ⟨congrArg some (congrArg vi (by rw [ring_fl hly hi.1 hi.2]; exact hy4.symm)), rfl⟩
set_option maxHeartbeats 4000000 in
set_option maxRecDepth 20000 in
theorem c_clear (l : Launch) (hfl : l.stackTraces = false) (D : va_G) (cy : Nat → Nat) (σ : Wd) (h q1 q2 q3 q4 : Nat) (cap : Int) (mf : Bool) (ly : List Ly) (hB : BinR cy σ h q1 q2 q3 q4 (cap, mf, ly)) : Ct l yX0_clear cX0_clear 1 none 0 0 0 D cy [.ref h] σ (fun v σ' => v = none ∧ BinR cy σ' h q1 q2 q3 q4 (cap, mf, []) ∧ Keep σ σ' (inB h q1 q2 q3 q4) ∧ σ'.1 = σ.1) noX := by
  refine ct_start (by decide +kernel) hfl rfl (fun κ e1 e2 e3 C E NH => ?_)
  subst e1 e2 e3
  have C : Cx κ cX0_clear 1 RX0 "clear" 0 := C
  obtain ⟨-, -, -, -, hc, hs⟩ := id E
  show J κ σ [(0, .ref h)] 0 [] 0 0
  obtain ⟨old, g1, g2, g3, g4, ⟨hh, ⟨h1, h2, h3, h4⟩, hne⟩, ho, hcn, hly, hok⟩ := hB
  dsimp only at hh ho hcn hly hok
  have kp0 : Keep σ σ (inB h q1 q2 q3 q4) := Keep.rf
  have dm0 : σ.1 = σ.1 := rfl
  refine j_aload_n 0 C dX0_clear_0 rfl rfl rfl ?_
  refine j_iconst C dX0_clear_1 rfl ?_
  refine j_put (fs' := [vi (cap), vi (b01 mf), .ref q1, .ref q2, .ref q3, .ref q4, vi (0), vi ((ly.length : Int)), vi (tot ly)]) C dX0_clear_2 rfl fa_X0_24 hh rfl rfl rfl rfl (fun τ1 ee2 => ?_)
  have u3 : has τ1 h (.inr (0, [vi (cap), vi (b01 mf), .ref q1, .ref q2, .ref q3, .ref q4, vi (0), vi ((ly.length : Int)), vi (tot ly)])) := hh.self' ee2
  have u4 := h1.ne' ee2 (h1.nk hh rfl)
  have u5 := h2.ne' ee2 (h2.nk hh rfl)
  have u6 := h3.ne' ee2 (h3.nk hh rfl)
  have u7 := h4.ne' ee2 (h4.nk hh rfl)
  have kp8 := kp0.put ee2 (Or.inl rfl)
  have dm9 := (dom_put ee2).trans dm0
  refine j_aload_n 0 C dX0_clear_5 rfl rfl rfl ?_
  refine j_iconst C dX0_clear_6 rfl ?_
  refine j_put (fs' := [vi (cap), vi (b01 mf), .ref q1, .ref q2, .ref q3, .ref q4, vi (0), vi (0), vi (tot ly)]) C dX0_clear_7 rfl fa_X0_28 u3 rfl rfl rfl rfl (fun τ10 ee11 => ?_)
  have u12 : has τ10 h (.inr (0, [vi (cap), vi (b01 mf), .ref q1, .ref q2, .ref q3, .ref q4, vi (0), vi (0), vi (tot ly)])) := u3.self' ee11
  have u13 := u4.ne' ee11 (u4.nk u3 rfl)
  have u14 := u5.ne' ee11 (u5.nk u3 rfl)
  have u15 := u6.ne' ee11 (u6.nk u3 rfl)
  have u16 := u7.ne' ee11 (u7.nk u3 rfl)
  have kp17 := kp8.put ee11 (Or.inl rfl)
  have dm18 := (dom_put ee11).trans dm9
  refine j_aload_n 0 C dX0_clear_10 rfl rfl rfl ?_
  refine j_iconst C dX0_clear_11 rfl ?_
  refine j_put (fs' := [vi (cap), vi (b01 mf), .ref q1, .ref q2, .ref q3, .ref q4, vi (0), vi (0), vi (0)]) C dX0_clear_12 rfl fa_X0_31 u12 rfl rfl rfl rfl (fun τ19 ee20 => ?_)
  have u21 : has τ19 h (.inr (0, [vi (cap), vi (b01 mf), .ref q1, .ref q2, .ref q3, .ref q4, vi (0), vi (0), vi (0)])) := u12.self' ee20
  have u22 := u13.ne' ee20 (u13.nk u12 rfl)
  have u23 := u14.ne' ee20 (u14.nk u12 rfl)
  have u24 := u15.ne' ee20 (u15.nk u12 rfl)
  have u25 := u16.ne' ee20 (u16.nk u12 rfl)
  have kp26 := kp17.put ee20 (Or.inl rfl)
  have dm27 := (dom_put ee20).trans dm18
  exact j_vret C E dX0_clear_15 (by omega) (by omega) ⟨rfl, BinR.of ⟨u21, ⟨u22, u23, u24, u25⟩, hne⟩ rfl rfl ⟨by omega, by omega⟩ (by decide) rfl (fun x hx => nomatch hx), kp26, dm27⟩
