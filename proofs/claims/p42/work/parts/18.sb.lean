/-! JDK: StringBuilder -/
theorem b7 {P : Int → Prop} (h : ∀ n : Fin 128, P (n.val : Int)) {x : Int} (hx : 0 ≤ x ∧ x < 128) : P x := by
  have := h ⟨x.toNat, by omega⟩
  rwa [show (((⟨x.toNat, by omega⟩ : Fin 128).val : Nat) : Int) = x by show ((x.toNat : Nat) : Int) = x; omega] at this
theorem z_nb {x : Int} (hx : 0 ≤ x ∧ x < 128) : vp_nar .byte (Int32.ofInt x) = Int32.ofInt x := b7 (P := fun x => vp_nar .byte (Int32.ofInt x) = Int32.ofInt x) (by decide) hx
theorem z_i2b {x : Int} (hx : 0 ≤ x ∧ x < 128) : (Int32.ofInt x).toInt8.toInt32 = Int32.ofInt x := b7 (P := fun x => (Int32.ofInt x).toInt8.toInt32 = Int32.ofInt x) (by decide) hx
theorem z_255 {x : Int} (hx : 0 ≤ x ∧ x < 128) : Int32.ofInt x &&& Int32.ofInt 255 = Int32.ofInt x := b7 (P := fun x => Int32.ofInt x &&& Int32.ofInt 255 = Int32.ofInt x) (by decide) hx
theorem z_i2c {x : Int} (hx : 0 ≤ x ∧ x < 128) : ((Int32.ofInt x).toUInt32 % 65536).toInt32 = Int32.ofInt x := b7 (P := fun x => ((Int32.ofInt x).toUInt32 % 65536).toInt32 = Int32.ofInt x) (by decide) hx
theorem z_fb {x : Int} (hx : 0 ≤ x ∧ x < 128) : fits .byte (vi x) = true := b7 (P := fun x => fits .byte (vi x) = true) (by decide) hx
theorem z_divn {a b : Int} (ha : 0 ≤ a ∧ a < 2147483648) (hb : 0 < b ∧ b < 2147483648) : Int32.ofInt (-a) / Int32.ofInt b = Int32.ofInt (-(a / b)) := by
  have e1 := z_toInt (z := -a) ⟨by omega, by omega⟩
  have e2 := z_toInt (z := b) ⟨by omega, by omega⟩
  have h1 : 0 ≤ a / b := Int.ediv_nonneg ha.1 (by omega)
  have h2 : a / b ≤ a := Int.ediv_le_self _ ha.1
  rw [← Int32.toInt_inj, Int32.toInt_div_of_ne_right _ _ (fun h => by
    have h3 := congrArg Int32.toInt h
    rw [e2] at h3
    have h4 : (-1 : Int32).toInt = -1 := by decide
    omega), e1, e2, z_toInt ⟨by omega, by omega⟩, Int.neg_tdiv, Int.tdiv_eq_ediv_of_nonneg ha.1]
theorem j_idivn {κ : Kx} {cc : ByteArray} {nL : Nat} {own nm : String} {lev : Nat} {σ : Wd} {lv : List (Nat × Value)} {pc pc' : Nat} {st : List Value} {k n : Nat} {a b : Int} (C : Cx κ cc nL own nm lev) (hd : decode cc pc = .ok (.idiv, 1)) (hp : pc + 1 = pc') (ha : 0 ≤ a ∧ a < 2147483648) (hb9 : 0 < b ∧ b < 2147483648) (kk : J κ σ lv pc' (vi (-(a / b)) :: st) k n) : J κ σ lv pc (vi b :: vi (-a) :: st) k n := by
  obtain ⟨⟨hx, hb, hmx, hkn⟩, ⟨hown, -, -, -⟩, hG, hK, -⟩ := C
  subst hp
  intro H locs ls hl hP hD hS
  refine lv_idiv hx hb hd (fun q => by rw [← z_0, z_eq ⟨by omega, hb9.2⟩ ⟨by omega, by omega⟩] at q; omega) ?_
  have h := kk H locs ls hl hP hD hS
  unfold vi at h
  rw [← z_divn ha hb9] at h
  exact h
/-- what a text needs: places, cells, slots -/
def capF (cap : Nat) (le : Int) : Nat := if le ≤ (cap : Int) then cap else 2 * cap + 2
def gC (cap : Nat) (le : Int) : Nat := if le ≤ (cap : Int) then 0 else 1
def gS (cap : Nat) (le : Int) : Nat := if le ≤ (cap : Int) then 0 else 2 * cap + 2
theorem capF_le {cap : Nat} {le : Int} (h : le ≤ 2 * cap + 2) : le ≤ (capF cap le : Int) ∧ cap ≤ capF cap le := by
  unfold capF
  by_cases hc : le ≤ (cap : Int)
  · rw [if_pos hc]; omega
  · rw [if_neg hc]; omega
theorem z_nc {x : Int} (hx : 0 ≤ x ∧ x < 128) : narrow .char (vi x) = vi x := b7 (P := fun x => narrow .char (vi x) = vi x) (by decide) hx
def SbC (cy : Nat → Nat) (σ : Wd) (a d cap : Nat) (ml n : Int) (g : Nat → Int) : Prop := has σ a (.inr (8, [.ref d, vi 0, vi ml, vi n])) ∧ has σ d (bA cy cap g) ∧ (16 ≤ cap ∧ cap ≤ 4000) ∧ ∀ i, i < cap → 0 ≤ g i ∧ g i < 128
/-- a text that is being built: at a, its places at d -/
def SbR (cy : Nat → Nat) (σ : Wd) (a d cap : Nat) (cs : List Int) : Prop := ∃ (ml : Int) (g : Nat → Int), SbC cy σ a d cap ml (cs.length : Int) g ∧ cs.length ≤ cap ∧ ∀ i, i < cs.length → g i = cs.getD i 0
theorem SbR.keep {cy : Nat → Nat} {σ σ' : Wd} {a d cap : Nat} {cs : List Int} {F : Nat → Prop} (h : SbR cy σ a d cap cs) (hk : Keep σ σ' F) (hF : ¬ F a ∧ ¬ F d) : SbR cy σ' a d cap cs := by
  obtain ⟨ml, g, ⟨h1, h2, h3⟩, h4⟩ := h
  exact ⟨ml, g, ⟨hk _ _ h1 hF.1, hk _ _ h2 hF.2, h3⟩, h4⟩
theorem SbR.ch {cy : Nat → Nat} {σ : Wd} {a d cap : Nat} {cs : List Int} (h : SbR cy σ a d cap cs) {i : Nat} (hi : i < cs.length) : 0 ≤ cs.getD i 0 ∧ cs.getD i 0 < 128 := by
  obtain ⟨ml, g, ⟨h1, h2, h3, h4⟩, h5, h6⟩ := h
  rw [← h6 i hi]
  exact h4 i (by omega)
/-- digits -/
def sz (n : Int) : Int := if n < 10 then 1 else if n < 100 then 2 else if n < 1000 then 3 else 4
def dg (n : Int) : List Int := if n < 10 then [48 + n] else if n < 100 then [48 + n / 10, 48 + n % 10] else if n < 1000 then [48 + n / 100, 48 + n / 10 % 10, 48 + n % 10] else [48 + n / 1000, 48 + n / 100 % 10, 48 + n / 10 % 10, 48 + n % 10]
theorem sz_in (n : Int) : (1 ≤ sz n ∧ sz n ≤ 4) ∧ (10 ≤ n → 2 ≤ sz n) ∧ (100 ≤ n → 3 ≤ sz n) ∧ (1000 ≤ n → 4 ≤ sz n) := by
  unfold sz
  by_cases h1 : n < 10
  · rw [if_pos h1]; omega
  · rw [if_neg h1]
    by_cases h2 : n < 100
    · rw [if_pos h2]; omega
    · rw [if_neg h2]
      by_cases h3 : n < 1000
      · rw [if_pos h3]; omega
      · rw [if_neg h3]; omega
theorem dg_len (n : Int) : ((dg n).length : Int) = sz n := by
  unfold dg sz
  split
  · rfl
  · split
    · rfl
    · split <;> rfl
theorem dg_in {n : Int} (h : 0 ≤ n ∧ n ≤ 9999) : ∀ c ∈ dg n, 48 ≤ c ∧ c < 58 := by
  intro c hc
  unfold dg at hc
  split at hc
  · simp at hc; omega
  · split at hc
    · simp at hc; omega
    · split at hc
      · simp at hc; omega
      · simp at hc; omega
theorem dg_next {n : Int} (h : 10 ≤ n ∧ n ≤ 9999) : dg n = dg (n / 10) ++ [48 + n % 10] := by
  unfold dg
  rw [if_neg (by omega)]
  by_cases h1 : n < 100
  · rw [if_pos h1, if_pos (by omega)]; rfl
  · rw [if_neg h1, if_neg (show ¬ n / 10 < 10 by omega)]
    by_cases h2 : n < 1000
    · rw [if_pos h2, if_pos (show n / 10 < 100 by omega), show n / 10 / 10 = n / 100 by omega]; rfl
    · rw [if_neg h2, if_neg (show ¬ n / 10 < 100 by omega), if_pos (by omega), show n / 10 / 100 = n / 1000 by omega, show n / 10 / 10 % 10 = n / 100 % 10 by omega]; rfl
/-- the digits stand behind place s -/
def DgAt (g g' : Nat → Int) (cap : Nat) (s : Int) (n : Int) : Prop := (∀ i : Nat, (i : Int) < s → g' i = g i) ∧ (∀ j : Nat, j < (dg n).length → g' (s.toNat + j) = (dg n).getD j 0) ∧ ∀ i, i < cap → 0 ≤ g' i ∧ g' i < 128
theorem ups_in {g : Nat → Int} {cap k : Nat} {x : Int} (h : ∀ i, i < cap → 0 ≤ g i ∧ g i < 128) (hx : 0 ≤ x ∧ x < 128) : ∀ i, i < cap → 0 ≤ ups g k x i ∧ ups g k x i < 128 := by
  intro i hi
  unfold ups
  split
  · exact hx
  · exact h i hi
set_option maxHeartbeats 4000000 in
set_option maxRecDepth 20000 in
theorem c_isLatin1 (l : Launch) (hfl : l.stackTraces = false) (D : va_G) (cy : Nat → Nat) (σ : Wd) (a d cap : Nat) (ml n : Int) (g : Nat → Int) (hS : SbC cy σ a d cap ml n g) : Ct l yJ5_isLatin1_aae02 cJ5_isLatin1_aae02 1 (some .boolean) 0 0 0 D cy [.ref a] σ (fun v σ' => v = some (vi 1) ∧ σ' = σ) noX := by
  refine ct_start (by decide +kernel) hfl rfl (fun κ e1 e2 e3 C E NH => ?_)
  subst e1 e2 e3
  have C : Cx κ cJ5_isLatin1_aae02 1 RJ5 "isLatin1" 0 := C
  obtain ⟨-, -, -, -, hc, hs⟩ := id E
  show J κ σ [(0, .ref a)] 0 [] 0 0
  obtain ⟨hh, hd, hcp, hb7⟩ := hS
  refine j_gets (v := vi (1)) C dJ5_isLatin1_aae02_0 rfl gs_J5_18 C.go.2.1.1 ?_
  refine j_if_eq (tgt := 17) C dJ5_isLatin1_aae02_3 rfl rfl ⟨by omega, by omega⟩ (fun cc1 => ?_) (fun cc1 => ?_)
  · exact absurd cc1 (by decide)
  · refine j_aload_n 0 C dJ5_isLatin1_aae02_6 rfl rfl rfl ?_
    refine j_get C dJ5_isLatin1_aae02_7 rfl fg_J5_22 hh rfl ?_
    refine j_if_ne (tgt := 17) C dJ5_isLatin1_aae02_10 rfl rfl ⟨by omega, by omega⟩ (fun cc2 => ?_) (fun cc2 => ?_)
    · exact absurd rfl cc2
    · refine j_iconst C dJ5_isLatin1_aae02_13 rfl ?_
      refine j_goto (tgt := 18) C dJ5_isLatin1_aae02_14 rfl ?_
      exact j_zret C E dJ5_isLatin1_aae02_18 rfl (by omega) (by omega) ⟨rfl, rfl⟩
set_option maxHeartbeats 4000000 in
set_option maxRecDepth 20000 in
theorem c_canEncode (l : Launch) (hfl : l.stackTraces = false) (D : va_G) (cy : Nat → Nat) (σ : Wd) (c : Int) (hc : 0 ≤ c ∧ c < 128) : Ct l yJ1_canEncode_fc78d cJ1_canEncode_fc78d 1 (some .boolean) 0 0 0 D cy [vi (c)] σ (fun v σ' => v = some (vi 1) ∧ σ' = σ) noX := by
  refine ct_start (by decide +kernel) hfl rfl (fun κ e1 e2 e3 C E NH => ?_)
  subst e1 e2 e3
  have C : Cx κ cJ1_canEncode_fc78d 1 RJ1 "canEncode" 0 := C
  obtain ⟨-, -, -, -, hc, hs⟩ := id E
  show J κ σ [(0, vi (c))] 0 [] 0 0
  refine j_iload_n 0 C dJ1_canEncode_fc78d_0 rfl rfl rfl ?_
  refine j_sipush C dJ1_canEncode_fc78d_1 rfl (by decide) ?_
  refine j_icmp_gt (tgt := 11) C dJ1_canEncode_fc78d_4 rfl rfl ⟨by omega, by omega⟩ ⟨by omega, by omega⟩ (fun cc1 => ?_) (fun cc1 => ?_)
  · exact absurd cc1 (by omega)
  · refine j_iconst C dJ1_canEncode_fc78d_7 rfl ?_
    refine j_goto (tgt := 12) C dJ1_canEncode_fc78d_8 rfl ?_
    exact j_zret C E dJ1_canEncode_fc78d_12 rfl (by omega) (by omega) ⟨rfl, rfl⟩
set_option maxHeartbeats 4000000 in
set_option maxRecDepth 20000 in
theorem c_copyOfB (l : Launch) (hfl : l.stackTraces = false) (D : va_G) (cy : Nat → Nat) (σ : Wd) (a n0 n1 : Nat) (g : Nat → Int) (hh : has σ a (bA cy n0 g)) (hn : n0 < n1 ∧ n1 ≤ 10000) (hb7 : ∀ i, i < n0 → 0 ≤ g i ∧ g i < 128) : Ct l yJ7_copyOf_9075b cJ7_copyOf_9075b 3 (some (.array .byte)) 0 1 n1 D cy [.ref a, vi ((n1 : Int))] σ (fun v σ' => ∃ q : Nat, v = some (.ref q) ∧ has σ' q (bA cy n1 (va_cpy g (fun _ => 0) 0 0 n0)) ∧ q ∉ σ.1 ∧ Keep σ σ' (fun _ => False) ∧ σ'.1 = σ.1 ++ [q]) noX := by
  refine ct_start (by decide +kernel) hfl rfl (fun κ e1 e2 e3 C E NH => ?_)
  subst e1 e2 e3
  have C : Cx κ cJ7_copyOf_9075b 3 RJ7 "copyOf" 0 := C
  obtain ⟨-, -, -, -, hc, hs⟩ := id E
  show J κ σ [(0, .ref a), (1, vi ((n1 : Int)))] 0 [] 0 0
  have kp0 : Keep σ σ (fun _ => False) := Keep.rf
  have dm0 : σ.1 = σ.1 := rfl
  refine j_iload_n 1 C dJ7_copyOf_9075b_0 rfl rfl rfl ?_
  refine j_aload_n 0 C dJ7_copyOf_9075b_1 rfl rfl rfl ?_
  refine j_alen (i := 0) C dJ7_copyOf_9075b_2 rfl rfl hh ?_
  refine j_icmp_ne (tgt := 14) C dJ7_copyOf_9075b_3 rfl rfl ⟨by omega, by omega⟩ ⟨by omega, by omega⟩ (fun cc1 => ?_) (fun cc1 => ?_)
  · refine j_iload_n 1 C dJ7_copyOf_9075b_14 rfl rfl rfl ?_
    refine j_newB C dJ7_copyOf_9075b_15 rfl aw_byte ⟨by omega, by omega⟩ (by omega) (by omega) (k' := 1) (n' := (n1 : Int).toNat) (by first | rfl | omega) (by first | rfl | omega) (fun q τ2 nq4 ee3 => ?_)
    have u5 := hh.old' ee3 nq4
    have u6 : has τ2 q (bA (kc κ) (n1 : Int).toNat (fun _ => 0)) := has.fresh' ee3
    have kp7 := kp0.new ee3 nq4
    have dm8 := (dom_new ee3).trans (congrArg (· ++ [q]) dm0)
    have nnq : q ∉ σ.1 := nq4
    refine j_astore_n (lv' := [(0, .ref a), (1, vi ((n1 : Int))), (2, .ref q)]) [1, 2, 0] C dJ7_copyOf_9075b_17 rfl rfl rfl rfl ?_
    refine j_aload_n 0 C dJ7_copyOf_9075b_18 rfl rfl rfl ?_
    refine j_iconst C dJ7_copyOf_9075b_19 rfl ?_
    refine j_aload_n 2 C dJ7_copyOf_9075b_20 rfl rfl rfl ?_
    refine j_iconst C dJ7_copyOf_9075b_21 rfl ?_
    refine j_aload_n 0 C dJ7_copyOf_9075b_22 rfl rfl rfl ?_
    refine j_alen (i := 0) C dJ7_copyOf_9075b_23 rfl rfl u5 ?_
    refine j_iload_n 1 C dJ7_copyOf_9075b_24 rfl rfl rfl ?_
    refine j_min (z := (n0 : Int)) C dJ7_copyOf_9075b_25 rfl mm_J7_304 ms_min mi_math mc_min (Nat.le_of_ble_eq_true rfl) (by omega) (by omega) ⟨by omega, by omega⟩ ⟨by omega, by omega⟩ (by omega) ?_
    refine j_copyB C dJ7_copyOf_9075b_28 rfl ac_J7_150 ac_na ac_st ac_in u5 u6 ⟨by omega, by omega, by omega⟩ ⟨by omega, by omega⟩ ⟨by omega, by omega⟩ (fun i hi => z_fb (by rw [show (0 : Int).toNat + i = i by simp]; exact hb7 i (by omega))) (Nat.le_of_ble_eq_true rfl) (fun τ9 ee10 => ?_)
    have u11 := u5.ne' ee10 (hh.apart nq4)
    have u12 : has τ9 q (bA (kc κ) (n1 : Int).toNat (va_cpy g (fun _ => 0) 0 0 n0)) := u6.self' ee10
    refine j_aload_n 2 C dJ7_copyOf_9075b_31 rfl rfl rfl ?_
    exact j_aret C E dJ7_copyOf_9075b_32 (Or.inr ⟨_, rfl⟩) (by omega) (by omega) ⟨q, rfl, u12, nnq, kp7.tr2 (Keep.put (F := fun x => x = q) Keep.rf ee10 rfl) (fun x z => Or.inr (by rw [z]; exact nnq)), (dom_put ee10).trans dm8⟩
  · exact absurd cc1 (by omega)
set_option maxHeartbeats 4000000 in
set_option maxRecDepth 20000 in
theorem c_newCapacity (l : Launch) (hfl : l.stackTraces = false) (D : va_G) (cy : Nat → Nat) (σ : Wd) (a d cap : Nat) (ml n : Int) (g : Nat → Int) (hS : SbC cy σ a d cap ml n g) (le : Int) (hl : (cap : Int) < le ∧ le ≤ 2 * cap + 2) : Ct l yJ5_newCapacity_0f7a4 cJ5_newCapacity_0f7a4 6 (some .int) 1 0 0 D cy [.ref a, vi (le)] σ (fun v σ' => v = some (vi ((2 * cap + 2 : Nat) : Int)) ∧ σ' = σ) noX := by
  refine ct_start (by decide +kernel) hfl rfl (fun κ e1 e2 e3 C E NH => ?_)
  subst e1 e2 e3
  have C : Cx κ cJ5_newCapacity_0f7a4 6 RJ5 "newCapacity" 1 := C
  obtain ⟨-, -, -, -, hc, hs⟩ := id E
  show J κ σ [(0, .ref a), (1, vi (le))] 0 [] 0 0
  obtain ⟨hh, hd, hcp, hb7⟩ := hS
  refine j_aload_n 0 C dJ5_newCapacity_0f7a4_0 rfl rfl rfl ?_
  refine j_get C dJ5_newCapacity_0f7a4_1 rfl fg_J5_15 hh rfl ?_
  refine j_alen (i := 0) C dJ5_newCapacity_0f7a4_4 rfl rfl hd ?_
  refine j_istore_n (lv' := [(0, .ref a), (1, vi (le)), (2, vi ((cap : Nat)))]) [1, 2, 0] C dJ5_newCapacity_0f7a4_5 rfl rfl rfl rfl ?_
  refine j_iload_n 1 C dJ5_newCapacity_0f7a4_6 rfl rfl rfl ?_
  refine j_aload_n 0 C dJ5_newCapacity_0f7a4_7 rfl rfl rfl ?_
  refine j_get C dJ5_newCapacity_0f7a4_8 rfl fg_J5_22 hh rfl ?_
  refine j_ishl (z := le) C dJ5_newCapacity_0f7a4_11 rfl (z_shl0 le) ?_
  refine j_istore_n (lv' := [(0, .ref a), (1, vi (le)), (2, vi ((cap : Nat))), (3, vi (le))]) [1, 2, 3, 0] C dJ5_newCapacity_0f7a4_12 rfl rfl rfl rfl ?_
  refine j_iload_n 3 C dJ5_newCapacity_0f7a4_13 rfl rfl rfl ?_
  refine j_iload_n 2 C dJ5_newCapacity_0f7a4_14 rfl rfl rfl ?_
  refine j_isub C dJ5_newCapacity_0f7a4_15 rfl ?_
  refine j_istore (lv' := [(0, .ref a), (1, vi (le)), (2, vi ((cap : Nat))), (3, vi (le)), (4, vi (le - (cap : Nat)))]) [1, 2, 3, 4, 0] C dJ5_newCapacity_0f7a4_16 rfl rfl rfl ?_
  refine j_iload_n 2 C dJ5_newCapacity_0f7a4_18 rfl rfl rfl ?_
  refine j_iload 4 C dJ5_newCapacity_0f7a4_19 rfl rfl ?_
  refine j_iload_n 2 C dJ5_newCapacity_0f7a4_21 rfl rfl rfl ?_
  refine j_iconst C dJ5_newCapacity_0f7a4_22 rfl ?_
  refine j_aload_n 0 C dJ5_newCapacity_0f7a4_23 rfl rfl rfl ?_
  refine j_get C dJ5_newCapacity_0f7a4_24 rfl fg_J5_22 hh rfl ?_
  refine j_ishl (z := 2) C dJ5_newCapacity_0f7a4_27 rfl (z_shl0 2) ?_
  refine j_iadd C dJ5_newCapacity_0f7a4_28 rfl ?_
  refine j_callS (st' := []) (As := [vi ((cap : Nat)), vi (le - (cap : Nat)), vi ((cap : Nat) + 2)]) C dJ5_newCapacity_0f7a4_29 rfl m_J5_114 rfl rfl (c_newLength (kL κ) hfl (kD κ) (kc κ) σ cap (le - (cap : Nat)) ((cap : Nat) + 2) ⟨by omega, by omega⟩ ⟨by omega, by omega⟩ ⟨by omega, by omega⟩) rfl (by omega) (by omega) (by omega) (fun _ _ hx => hx.elim) (fun v2 τ1 hp3 => ?_)
  obtain ⟨rfl, hs9⟩ := hp3
  replace hs9 := hs9.symm
  subst hs9
  rw [show (cap : Int) + max (le - (cap : Nat)) ((cap : Nat) + 2) = ((2 * cap + 2 : Nat) : Int) by omega]
  show J κ σ [(0, .ref a), (1, vi (le)), (2, vi ((cap : Nat))), (3, vi (le)), (4, vi (le - (cap : Nat)))] 32 [vi ((2 * cap + 2 : Nat))] _ _
  refine j_istore (lv' := [(0, .ref a), (1, vi (le)), (2, vi ((cap : Nat))), (3, vi (le)), (4, vi (le - (cap : Nat))), (5, vi ((2 * cap + 2 : Nat)))]) [1, 2, 3, 4, 5, 0] C dJ5_newCapacity_0f7a4_32 rfl rfl rfl ?_
  refine j_iload 5 C dJ5_newCapacity_0f7a4_34 rfl rfl ?_
  refine j_ldc (z := 2147483647) C dJ5_newCapacity_0f7a4_36 rfl kc_J5_39 ?_
  refine j_icmp_ne (tgt := 51) C dJ5_newCapacity_0f7a4_38 rfl rfl ⟨by omega, by omega⟩ ⟨by omega, by omega⟩ (fun cc4 => ?_) (fun cc4 => ?_)
  · refine j_iload 5 C dJ5_newCapacity_0f7a4_51 rfl rfl ?_
    refine j_aload_n 0 C dJ5_newCapacity_0f7a4_53 rfl rfl rfl ?_
    refine j_get C dJ5_newCapacity_0f7a4_54 rfl fg_J5_22 hh rfl ?_
    refine j_ishr (z := (2 * cap + 2 : Nat)) C dJ5_newCapacity_0f7a4_57 rfl (z_shr0 _) ?_
    exact j_iret C E dJ5_newCapacity_0f7a4_58 (by omega) (by omega) ⟨rfl, rfl⟩
  · exact absurd cc4 (by omega)
set_option maxHeartbeats 4000000 in
set_option maxRecDepth 20000 in
theorem c_ensure (l : Launch) (hfl : l.stackTraces = false) (D : va_G) (cy : Nat → Nat) (σ : Wd) (a d cap : Nat) (ml n : Int) (g : Nat → Int) (hS : SbC cy σ a d cap ml n g) (le : Int) (hl : 0 ≤ le ∧ le ≤ 2 * cap + 2 ∧ le ≤ 1999) : Ct l yJ5_ensureCapacityInternal_d00df cJ5_ensureCapacityInternal_d00df 3 none 2 (gC cap le) (gS cap le) D cy [.ref a, vi (le)] σ (fun v σ' => v = none ∧ ∃ (d' : Nat) (g' : Nat → Int), SbC cy σ' a d' (capF cap le) ml n g' ∧ (∀ i, i < cap → g' i = g i) ∧ ((d' = d ∧ σ'.1 = σ.1) ∨ (d' ∉ σ.1 ∧ σ'.1 = σ.1 ++ [d'])) ∧ Keep σ σ' (fun x => x = a)) noX := by
  refine ct_start (by decide +kernel) hfl rfl (fun κ e1 e2 e3 C E NH => ?_)
  subst e1 e2 e3
  have C : Cx κ cJ5_ensureCapacityInternal_d00df 3 RJ5 "ensureCapacityInternal" 2 := C
  obtain ⟨-, -, -, -, hc, hs⟩ := id E
  show J κ σ [(0, .ref a), (1, vi (le))] 0 [] 0 0
  have hS9 := hS
  obtain ⟨hh, hd, hcp, hb7⟩ := hS
  have kp0 : Keep σ σ (fun x => x = a) := Keep.rf
  have dm0 : σ.1 = σ.1 := rfl
  refine j_aload_n 0 C dJ5_ensureCapacityInternal_d00df_0 rfl rfl rfl ?_
  refine j_get C dJ5_ensureCapacityInternal_d00df_1 rfl fg_J5_15 hh rfl ?_
  refine j_alen (i := 0) C dJ5_ensureCapacityInternal_d00df_4 rfl rfl hd ?_
  refine j_aload_n 0 C dJ5_ensureCapacityInternal_d00df_5 rfl rfl rfl ?_
  refine j_get C dJ5_ensureCapacityInternal_d00df_6 rfl fg_J5_22 hh rfl ?_
  refine j_ishr (z := (cap : Nat)) C dJ5_ensureCapacityInternal_d00df_9 rfl (z_shr0 _) ?_
  refine j_istore_n (lv' := [(0, .ref a), (1, vi (le)), (2, vi ((cap : Nat)))]) [1, 2, 0] C dJ5_ensureCapacityInternal_d00df_10 rfl rfl rfl rfl ?_
  refine j_iload_n 1 C dJ5_ensureCapacityInternal_d00df_11 rfl rfl rfl ?_
  refine j_iload_n 2 C dJ5_ensureCapacityInternal_d00df_12 rfl rfl rfl ?_
  refine j_isub C dJ5_ensureCapacityInternal_d00df_13 rfl ?_
  refine j_if_le (tgt := 38) C dJ5_ensureCapacityInternal_d00df_14 rfl rfl ⟨by omega, by omega⟩ (fun cc1 => ?_) (fun cc1 => ?_)
  · have e1 : capF cap le = cap := if_pos (by omega)
    exact j_vret C E dJ5_ensureCapacityInternal_d00df_38 (by omega) (by omega) ⟨rfl, d, g, (by rw [e1]; exact hS9), (fun _ _ => rfl), Or.inl ⟨rfl, rfl⟩, Keep.rf⟩
  · have e1 : capF cap le = 2 * cap + 2 := if_neg (by omega)
    have e2 : gC cap le = 1 := if_neg (by omega)
    have e3 : gS cap le = 2 * cap + 2 := if_neg (by omega)
    refine j_aload_n 0 C dJ5_ensureCapacityInternal_d00df_17 rfl rfl rfl ?_
    refine j_aload_n 0 C dJ5_ensureCapacityInternal_d00df_18 rfl rfl rfl ?_
    refine j_get C dJ5_ensureCapacityInternal_d00df_19 rfl fg_J5_15 hh rfl ?_
    refine j_aload_n 0 C dJ5_ensureCapacityInternal_d00df_22 rfl rfl rfl ?_
    refine j_iload_n 1 C dJ5_ensureCapacityInternal_d00df_23 rfl rfl rfl ?_
    refine j_callV (st' := [.ref d, .ref a]) (As := [vi (le)]) C dJ5_ensureCapacityInternal_d00df_24 rfl m_J5_104 hh rfl rfl rfl (c_newCapacity (kL κ) hfl (kD κ) (kc κ) σ a d cap ml n g hS9 le ⟨by omega, by omega⟩) rfl (by omega) (by omega) (by omega) (fun _ _ hx => hx.elim) (fun v3 τ2 hp4 => ?_)
    obtain ⟨rfl, hs9⟩ := hp4
    replace hs9 := hs9.symm
    subst hs9
    show J κ σ [(0, .ref a), (1, vi (le)), (2, vi ((cap : Nat)))] 27 [vi ((2 * cap + 2 : Nat)), .ref d, .ref a] _ _
    refine j_aload_n 0 C dJ5_ensureCapacityInternal_d00df_27 rfl rfl rfl ?_
    refine j_get C dJ5_ensureCapacityInternal_d00df_28 rfl fg_J5_22 hh rfl ?_
    refine j_ishl (z := (2 * cap + 2 : Nat)) C dJ5_ensureCapacityInternal_d00df_31 rfl (z_shl0 _) ?_
    refine j_callS (st' := [.ref a]) (As := [.ref d, vi ((2 * cap + 2 : Nat))]) C dJ5_ensureCapacityInternal_d00df_32 rfl m_J5_108 rfl rfl (c_copyOfB (kL κ) hfl (kD κ) (kc κ) σ d cap (2 * cap + 2) g hd ⟨by omega, by omega⟩ hb7) rfl (by omega) (by omega) (by omega) (fun _ _ hx => hx.elim) (fun v6 τ5 hp7 => ?_)
    obtain ⟨q, rfl, hq1, hq2, hq3, hq4⟩ := hp7
    have kp7 : Keep σ τ5 (fun x => x = a) := hq3.mono (fun _ z => z.elim)
    have hh2 := hq3 _ _ hh (fun z => z)
    show J κ τ5 [(0, .ref a), (1, vi (le)), (2, vi ((cap : Nat)))] 35 [.ref q, .ref a] (0 + 1) (0 + (2 * cap + 2))
    have hb72 : ∀ i, i < 2 * cap + 2 → 0 ≤ va_cpy g (fun _ => 0) 0 0 cap i ∧ va_cpy g (fun _ => 0) 0 0 cap i < 128 := by
      intro i hi
      unfold va_cpy
      by_cases hz : 0 ≤ i ∧ i < 0 + cap
      · rw [if_pos hz, Nat.zero_add, Nat.sub_zero]; exact hb7 i (by omega)
      · rw [if_neg hz]; exact ⟨Int.le_refl 0, (by decide : (0 : Int) < 128)⟩
    refine j_put (fs' := [.ref q, vi (0), vi (ml), vi (n)]) C dJ5_ensureCapacityInternal_d00df_35 rfl fa_J5_15 hh2 rfl rfl rfl rfl (fun τ8 ee9 => ?_)
    have u10 : has τ8 a (.inr (8, [.ref q, vi (0), vi (ml), vi (n)])) := hh2.self' ee9
    have u11 := hq1.ne' ee9 (hq1.nk hh2 rfl)
    have kp12 := kp7.put ee9 rfl
    have dm13 := (dom_put ee9).trans hq4
    exact j_vret C E dJ5_ensureCapacityInternal_d00df_38 (by omega) (by omega) ⟨rfl, q, _, ⟨u10, (by rw [e1]; exact u11), (by rw [e1]; omega), (by rw [e1]; exact hb72)⟩, (fun i hi => by unfold va_cpy; rw [if_pos ⟨Nat.zero_le _, by omega⟩]; simp), Or.inr ⟨hq2, dm13⟩, kp12⟩
set_option maxHeartbeats 4000000 in
set_option maxRecDepth 20000 in
theorem c_length5 (l : Launch) (hfl : l.stackTraces = false) (D : va_G) (cy : Nat → Nat) (σ : Wd) (a d cap : Nat) (cs : List Int) (hR : SbR cy σ a d cap cs) : Ct l yJ5_length_8abf5 cJ5_length_8abf5 1 (some .int) 0 0 0 D cy [.ref a] σ (fun v σ' => v = some (vi (cs.length : Int)) ∧ σ' = σ) noX := by
  refine ct_start (by decide +kernel) hfl rfl (fun κ e1 e2 e3 C E NH => ?_)
  subst e1 e2 e3
  have C : Cx κ cJ5_length_8abf5 1 RJ5 "length" 0 := C
  obtain ⟨-, -, -, -, hc, hs⟩ := id E
  show J κ σ [(0, .ref a)] 0 [] 0 0
  obtain ⟨ml, g, hS, hn, hg⟩ := hR
  obtain ⟨hh, hd, hcp, hb7⟩ := hS
  refine j_aload_n 0 C dJ5_length_8abf5_0 rfl rfl rfl ?_
  refine j_get C dJ5_length_8abf5_1 rfl fg_J5_79 hh rfl ?_
  exact j_iret C E dJ5_length_8abf5_4 (by omega) (by omega) ⟨rfl, rfl⟩
set_option maxHeartbeats 4000000 in
set_option maxRecDepth 20000 in
theorem c_sbLength (l : Launch) (hfl : l.stackTraces = false) (D : va_G) (cy : Nat → Nat) (σ : Wd) (a d cap : Nat) (cs : List Int) (hR : SbR cy σ a d cap cs) : Ct l yJ4_length_8abf5 cJ4_length_8abf5 1 (some .int) 1 0 0 D cy [.ref a] σ (fun v σ' => v = some (vi (cs.length : Int)) ∧ σ' = σ) noX := by
  refine ct_start (by decide +kernel) hfl rfl (fun κ e1 e2 e3 C E NH => ?_)
  subst e1 e2 e3
  have C : Cx κ cJ4_length_8abf5 1 RJ4 "length" 1 := C
  obtain ⟨-, -, -, -, hc, hs⟩ := id E
  show J κ σ [(0, .ref a)] 0 [] 0 0
  obtain ⟨ml9, g9, hS9, -⟩ := id hR
  obtain ⟨hh9, -⟩ := hS9
  refine j_aload_n 0 C dJ4_length_8abf5_0 rfl rfl rfl ?_
  refine j_callU (st' := []) (As := []) C dJ4_length_8abf5_1 rfl m_J4_343 hh9 rfl rfl rfl (c_length5 (kL κ) hfl (kD κ) (kc κ) σ a d cap cs hR) rfl (by omega) (by omega) (by omega) (fun _ _ hx => hx.elim) (fun v2 τ1 hp3 => ?_)
  obtain ⟨rfl, hs9⟩ := hp3
  replace hs9 := hs9.symm
  subst hs9
  show J κ σ [(0, .ref a)] 4 [vi ((cs.length : Int))] _ _
  exact j_iret C E dJ4_length_8abf5_4 (by omega) (by omega) ⟨rfl, rfl⟩
set_option maxHeartbeats 4000000 in
set_option maxRecDepth 20000 in
theorem c_strCheck (l : Launch) (hfl : l.stackTraces = false) (D : va_G) (cy : Nat → Nat) (σ : Wd) (i n : Int) (hi : 0 ≤ i ∧ i < n) (hn : n < 2147483648) : Ct l yJ0_checkIndex_df160 cJ0_checkIndex_df160 2 none 1 0 0 D cy [vi (i), vi (n)] σ (fun v σ' => v = none ∧ σ' = σ) noX := by
  refine ct_start (by decide +kernel) hfl rfl (fun κ e1 e2 e3 C E NH => ?_)
  subst e1 e2 e3
  have C : Cx κ cJ0_checkIndex_df160 2 RJ0 "checkIndex" 1 := C
  obtain ⟨-, -, -, -, hc, hs⟩ := id E
  show J κ σ [(0, vi (i)), (1, vi (n))] 0 [] 0 0
  refine j_iload_n 0 C dJ0_checkIndex_df160_0 rfl rfl rfl ?_
  refine j_iload_n 1 C dJ0_checkIndex_df160_1 rfl rfl rfl ?_
  rcases C.go.2.2.2.2.2.2.1 with hz | ⟨z9, hz⟩
  · refine j_gets (v := .null) C dJ0_checkIndex_df160_2 rfl gs_J0_1053 hz ?_
    refine j_callS (st' := []) (As := [vi (i), vi (n), .null]) C dJ0_checkIndex_df160_5 rfl m_J0_1059 rfl rfl (c_checkIndex3 (kL κ) hfl (kD κ) (kc κ) σ i n hi hn) rfl (by omega) (by omega) (by omega) (fun _ _ hx => hx.elim) (fun v2 τ1 hp3 => ?_)
    obtain ⟨rfl, hs9⟩ := hp3
    replace hs9 := hs9.symm
    subst hs9
    show J κ σ [(0, vi (i)), (1, vi (n))] 8 [vi (i)] _ _
    refine j_pop C dJ0_checkIndex_df160_8 rfl rfl ?_
    exact j_vret C E dJ0_checkIndex_df160_9 (by omega) (by omega) ⟨rfl, rfl⟩
  · refine j_gets (v := .ref z9) C dJ0_checkIndex_df160_2 rfl gs_J0_1053 hz ?_
    refine j_callS (st' := []) (As := [vi (i), vi (n), .ref z9]) C dJ0_checkIndex_df160_5 rfl m_J0_1059 rfl rfl (c_checkIndex3r (kL κ) hfl (kD κ) (kc κ) σ i n hi hn z9) rfl (by omega) (by omega) (by omega) (fun _ _ hx => hx.elim) (fun v5 τ4 hp6 => ?_)
    obtain ⟨rfl, hs9⟩ := hp6
    replace hs9 := hs9.symm
    subst hs9
    show J κ σ [(0, vi (i)), (1, vi (n))] 8 [vi (i)] _ _
    refine j_pop C dJ0_checkIndex_df160_8 rfl rfl ?_
    exact j_vret C E dJ0_checkIndex_df160_9 (by omega) (by omega) ⟨rfl, rfl⟩
set_option maxHeartbeats 4000000 in
set_option maxRecDepth 20000 in
theorem c_charAt5 (l : Launch) (hfl : l.stackTraces = false) (D : va_G) (cy : Nat → Nat) (σ : Wd) (a d cap : Nat) (cs : List Int) (hR : SbR cy σ a d cap cs) (i : Int) (hi : 0 ≤ i ∧ i < (cs.length : Int)) : Ct l yJ5_charAt_5068e cJ5_charAt_5068e 5 (some .char) 2 0 0 D cy [.ref a, vi (i)] σ (fun v σ' => v = some (vi (cs.getD i.toNat 0)) ∧ σ' = σ) noX := by
  refine ct_start (by decide +kernel) hfl rfl (fun κ e1 e2 e3 C E NH => ?_)
  subst e1 e2 e3
  have C : Cx κ cJ5_charAt_5068e 5 RJ5 "charAt" 2 := C
  obtain ⟨-, -, -, -, hc, hs⟩ := id E
  show J κ σ [(0, .ref a), (1, vi (i))] 0 [] 0 0
  obtain ⟨ml, g, hS, hn, hg⟩ := hR
  obtain ⟨hh, hd, hcp, hb7⟩ := hS
  have hgi := hg i.toNat (by omega)
  have hbi := hb7 i.toNat (by omega)
  rw [hgi] at hbi
  obtain ⟨c, hc9⟩ : ∃ z : Int, cs.getD i.toNat 0 = z := ⟨_, rfl⟩
  rw [hc9] at hgi hbi E
  refine j_aload_n 0 C dJ5_charAt_5068e_0 rfl rfl rfl ?_
  refine j_get C dJ5_charAt_5068e_1 rfl fg_J5_22 hh rfl ?_
  refine j_istore_n (lv' := [(0, .ref a), (1, vi (i)), (2, vi (0))]) [1, 2, 0] C dJ5_charAt_5068e_4 rfl rfl rfl rfl ?_
  refine j_aload_n 0 C dJ5_charAt_5068e_5 rfl rfl rfl ?_
  refine j_get C dJ5_charAt_5068e_6 rfl fg_J5_15 hh rfl ?_
  refine j_astore_n (lv' := [(0, .ref a), (1, vi (i)), (2, vi (0)), (3, .ref d)]) [1, 2, 3, 0] C dJ5_charAt_5068e_9 rfl rfl rfl rfl ?_
  refine j_aload_n 0 C dJ5_charAt_5068e_10 rfl rfl rfl ?_
  refine j_get C dJ5_charAt_5068e_11 rfl fg_J5_79 hh rfl ?_
  refine j_aload_n 3 C dJ5_charAt_5068e_14 rfl rfl rfl ?_
  refine j_alen (i := 0) C dJ5_charAt_5068e_15 rfl rfl hd ?_
  refine j_iload_n 2 C dJ5_charAt_5068e_16 rfl rfl rfl ?_
  refine j_ishr (z := (cap : Nat)) C dJ5_charAt_5068e_17 rfl (z_shr0 _) ?_
  refine j_min (z := (cs.length : Int)) C dJ5_charAt_5068e_18 rfl mm_J5_138 ms_min mi_math mc_min (Nat.le_of_ble_eq_true rfl) (by omega) (by omega) ⟨by omega, by omega⟩ ⟨by omega, by omega⟩ (by omega) ?_
  refine j_istore (lv' := [(0, .ref a), (1, vi (i)), (2, vi (0)), (3, .ref d), (4, vi ((cs.length : Int)))]) [1, 2, 3, 4, 0] C dJ5_charAt_5068e_21 rfl rfl rfl ?_
  refine j_iload_n 1 C dJ5_charAt_5068e_23 rfl rfl rfl ?_
  refine j_iload 4 C dJ5_charAt_5068e_24 rfl rfl ?_
  refine j_callS (st' := []) (As := [vi (i), vi ((cs.length : Int))]) C dJ5_charAt_5068e_26 rfl m_J5_144 rfl rfl (c_strCheck (kL κ) hfl (kD κ) (kc κ) σ i cs.length ⟨by omega, by omega⟩ (by omega)) rfl (by omega) (by omega) (by omega) (fun _ _ hx => hx.elim) (fun v2 τ1 hp3 => ?_)
  obtain ⟨rfl, hs9⟩ := hp3
  replace hs9 := hs9.symm
  subst hs9
  show J κ σ [(0, .ref a), (1, vi (i)), (2, vi (0)), (3, .ref d), (4, vi ((cs.length : Int)))] 29 [] _ _
  refine j_iload_n 2 C dJ5_charAt_5068e_29 rfl rfl rfl ?_
  refine j_if_ne (tgt := 42) C dJ5_charAt_5068e_30 rfl rfl ⟨by omega, by omega⟩ (fun cc4 => ?_) (fun cc4 => ?_)
  · exact absurd rfl cc4
  · refine j_aload_n 3 C dJ5_charAt_5068e_33 rfl rfl rfl ?_
    refine j_iload_n 1 C dJ5_charAt_5068e_34 rfl rfl rfl ?_
    refine j_bald C dJ5_charAt_5068e_35 rfl hd ⟨by omega, by omega⟩ (by omega) hgi ?_
    refine j_sipush C dJ5_charAt_5068e_36 rfl (by decide) ?_
    refine j_iand (z := c) C dJ5_charAt_5068e_39 rfl (z_255 hbi) ?_
    refine j_i2c (z := c) C dJ5_charAt_5068e_40 rfl (z_i2c hbi) ?_
    exact j_zret C E dJ5_charAt_5068e_41 (z_nc hbi) (by omega) (by omega) ⟨rfl, rfl⟩
set_option maxHeartbeats 4000000 in
set_option maxRecDepth 20000 in
theorem c_charAt (l : Launch) (hfl : l.stackTraces = false) (D : va_G) (cy : Nat → Nat) (σ : Wd) (a d cap : Nat) (cs : List Int) (hR : SbR cy σ a d cap cs) (i : Int) (hi : 0 ≤ i ∧ i < (cs.length : Int)) : Ct l yJ4_charAt_5068e cJ4_charAt_5068e 2 (some .char) 3 0 0 D cy [.ref a, vi (i)] σ (fun v σ' => v = some (vi (cs.getD i.toNat 0)) ∧ σ' = σ) noX := by
  refine ct_start (by decide +kernel) hfl rfl (fun κ e1 e2 e3 C E NH => ?_)
  subst e1 e2 e3
  have C : Cx κ cJ4_charAt_5068e 2 RJ4 "charAt" 3 := C
  obtain ⟨-, -, -, -, hc, hs⟩ := id E
  show J κ σ [(0, .ref a), (1, vi (i))] 0 [] 0 0
  obtain ⟨ml9, g9, hS9, -⟩ := id hR
  obtain ⟨hh9, -⟩ := hS9
  refine j_aload_n 0 C dJ4_charAt_5068e_0 rfl rfl rfl ?_
  refine j_iload_n 1 C dJ4_charAt_5068e_1 rfl rfl rfl ?_
  refine j_callU (st' := []) (As := [vi (i)]) C dJ4_charAt_5068e_2 rfl m_J4_329 hh9 rfl rfl rfl (c_charAt5 (kL κ) hfl (kD κ) (kc κ) σ a d cap cs hR i hi) rfl (by omega) (by omega) (by omega) (fun _ _ hx => hx.elim) (fun v2 τ1 hp3 => ?_)
  obtain ⟨rfl, hs9⟩ := hp3
  replace hs9 := hs9.symm
  subst hs9
  show J κ σ [(0, .ref a), (1, vi (i))] 5 [vi (cs.getD i.toNat 0)] _ _
  exact j_zret C E dJ4_charAt_5068e_5 (z_nc (hR.ch (by omega))) (by omega) (by omega) ⟨rfl, rfl⟩
set_option maxHeartbeats 4000000 in
set_option maxRecDepth 20000 in
theorem c_ensure0 (l : Launch) (hfl : l.stackTraces = false) (D : va_G) (cy : Nat → Nat) (σ : Wd) (a d cap : Nat) (ml n : Int) (g : Nat → Int) (hS : SbC cy σ a d cap ml n g) : Ct l yJ5_ensureCapacityInternal_d00df cJ5_ensureCapacityInternal_d00df 3 none 2 0 0 D cy [.ref a, vi (0)] σ (fun v σ' => v = none ∧ σ' = σ) noX := by
  refine ct_start (by decide +kernel) hfl rfl (fun κ e1 e2 e3 C E NH => ?_)
  subst e1 e2 e3
  have C : Cx κ cJ5_ensureCapacityInternal_d00df 3 RJ5 "ensureCapacityInternal" 2 := C
  obtain ⟨-, -, -, -, hc, hs⟩ := id E
  show J κ σ [(0, .ref a), (1, vi (0))] 0 [] 0 0
  obtain ⟨hh, hd, hcp, hb7⟩ := hS
  refine j_aload_n 0 C dJ5_ensureCapacityInternal_d00df_0 rfl rfl rfl ?_
  refine j_get C dJ5_ensureCapacityInternal_d00df_1 rfl fg_J5_15 hh rfl ?_
  refine j_alen (i := 0) C dJ5_ensureCapacityInternal_d00df_4 rfl rfl hd ?_
  refine j_aload_n 0 C dJ5_ensureCapacityInternal_d00df_5 rfl rfl rfl ?_
  refine j_get C dJ5_ensureCapacityInternal_d00df_6 rfl fg_J5_22 hh rfl ?_
  refine j_ishr (z := (cap : Nat)) C dJ5_ensureCapacityInternal_d00df_9 rfl (z_shr0 _) ?_
  refine j_istore_n (lv' := [(0, .ref a), (1, vi (0)), (2, vi ((cap : Nat)))]) [1, 2, 0] C dJ5_ensureCapacityInternal_d00df_10 rfl rfl rfl rfl ?_
  refine j_iload_n 1 C dJ5_ensureCapacityInternal_d00df_11 rfl rfl rfl ?_
  refine j_iload_n 2 C dJ5_ensureCapacityInternal_d00df_12 rfl rfl rfl ?_
  refine j_isub C dJ5_ensureCapacityInternal_d00df_13 rfl ?_
  refine j_if_le (tgt := 38) C dJ5_ensureCapacityInternal_d00df_14 rfl rfl ⟨by omega, by omega⟩ (fun cc1 => ?_) (fun cc1 => ?_)
  · exact j_vret C E dJ5_ensureCapacityInternal_d00df_38 (by omega) (by omega) ⟨rfl, rfl⟩
  · exact absurd cc1 (by omega)
set_option maxHeartbeats 4000000 in
set_option maxRecDepth 20000 in
theorem c_setLength5 (l : Launch) (hfl : l.stackTraces = false) (D : va_G) (cy : Nat → Nat) (σ : Wd) (a d cap : Nat) (cs : List Int) (hR : SbR cy σ a d cap cs) : Ct l yJ5_setLength_d00df cJ5_setLength_d00df 2 none 3 0 0 D cy [.ref a, vi (0)] σ (fun v σ' => v = none ∧ SbR cy σ' a d cap [] ∧ Keep σ σ' (fun x => x = a) ∧ σ'.1 = σ.1) noX := by
  refine ct_start (by decide +kernel) hfl rfl (fun κ e1 e2 e3 C E NH => ?_)
  subst e1 e2 e3
  have C : Cx κ cJ5_setLength_d00df 2 RJ5 "setLength" 3 := C
  obtain ⟨-, -, -, -, hc, hs⟩ := id E
  show J κ σ [(0, .ref a), (1, vi (0))] 0 [] 0 0
  obtain ⟨ml, g, hS, hn, hg⟩ := id hR
  have hS9 := hS
  obtain ⟨hh, hd, hcp, hb7⟩ := hS
  have e1 : capF cap 0 = cap := if_pos (by omega)
  have e2 : gC cap 0 = 0 := if_pos (by omega)
  have e3 : gS cap 0 = 0 := if_pos (by omega)
  refine j_iload_n 1 C dJ5_setLength_d00df_0 rfl rfl rfl ?_
  refine j_if_ge (tgt := 13) C dJ5_setLength_d00df_1 rfl rfl ⟨by omega, by omega⟩ (fun cc1 => ?_) (fun cc1 => ?_)
  · refine j_aload_n 0 C dJ5_setLength_d00df_13 rfl rfl rfl ?_
    refine j_iload_n 1 C dJ5_setLength_d00df_14 rfl rfl rfl ?_
    refine j_callV (st' := []) (As := [vi (0)]) C dJ5_setLength_d00df_15 rfl m_J5_100 hh rfl rfl rfl (c_ensure0 (kL κ) hfl (kD κ) (kc κ) σ a d cap ml cs.length g hS9) rfl (by omega) (by omega) (by omega) (fun _ _ hx => hx.elim) (fun v3 τ2 hp4 => ?_)
    obtain ⟨rfl, hs9⟩ := hp4
    replace hs9 := hs9.symm
    subst hs9
    show J κ σ [(0, .ref a), (1, vi (0))] 18 [] 0 0
    have kp0 : Keep σ σ (fun x => x = a) := Keep.rf
    have dm0 : σ.1 = σ.1 := rfl
    refine j_aload_n 0 C dJ5_setLength_d00df_18 rfl rfl rfl ?_
    refine j_get C dJ5_setLength_d00df_19 rfl fg_J5_79 hh rfl ?_
    refine j_iload_n 1 C dJ5_setLength_d00df_22 rfl rfl rfl ?_
    refine j_icmp_ge (tgt := 63) C dJ5_setLength_d00df_23 rfl rfl ⟨by omega, by omega⟩ ⟨by omega, by omega⟩ (fun cc5 => ?_) (fun cc5 => ?_)
    · refine j_aload_n 0 C dJ5_setLength_d00df_63 rfl rfl rfl ?_
      refine j_get C dJ5_setLength_d00df_64 rfl fg_J5_79 hh rfl ?_
      refine j_iload_n 1 C dJ5_setLength_d00df_67 rfl rfl rfl ?_
      refine j_icmp_le (tgt := 76) C dJ5_setLength_d00df_68 rfl rfl ⟨by omega, by omega⟩ ⟨by omega, by omega⟩ (fun cc6 => ?_) (fun cc6 => ?_)
      · refine j_aload_n 0 C dJ5_setLength_d00df_76 rfl rfl rfl ?_
        refine j_iload_n 1 C dJ5_setLength_d00df_77 rfl rfl rfl ?_
        refine j_put (fs' := [.ref d, vi (0), vi (ml), vi (0)]) C dJ5_setLength_d00df_78 rfl fa_J5_79 hh rfl rfl rfl rfl (fun τ7 ee8 => ?_)
        have u9 : has τ7 a (.inr (8, [.ref d, vi (0), vi (ml), vi (0)])) := hh.self' ee8
        have u10 := hd.ne' ee8 (hd.nk hh rfl)
        have kp11 := kp0.put ee8 rfl
        have dm12 := (dom_put ee8).trans dm0
        exact j_vret C E dJ5_setLength_d00df_81 (by omega) (by omega) ⟨rfl, ⟨_, g, ⟨u9, u10, hcp, hb7⟩, Nat.zero_le _, fun i hi => absurd hi (Nat.not_lt_zero _)⟩, kp11, dm12⟩
      · refine j_aload_n 0 C dJ5_setLength_d00df_71 rfl rfl rfl ?_
        refine j_iconst C dJ5_setLength_d00df_72 rfl ?_
        refine j_put (fs' := [.ref d, vi (0), vi (1), vi ((cs.length : Int))]) C dJ5_setLength_d00df_73 rfl fa_J5_73 hh rfl rfl rfl rfl (fun τ13 ee14 => ?_)
        have u15 : has τ13 a (.inr (8, [.ref d, vi (0), vi (1), vi ((cs.length : Int))])) := hh.self' ee14
        have u16 := hd.ne' ee14 (hd.nk hh rfl)
        have kp17 := kp0.put ee14 rfl
        have dm18 := (dom_put ee14).trans dm0
        refine j_aload_n 0 C dJ5_setLength_d00df_76 rfl rfl rfl ?_
        refine j_iload_n 1 C dJ5_setLength_d00df_77 rfl rfl rfl ?_
        refine j_put (fs' := [.ref d, vi (0), vi (1), vi (0)]) C dJ5_setLength_d00df_78 rfl fa_J5_79 u15 rfl rfl rfl rfl (fun τ19 ee20 => ?_)
        have u21 : has τ19 a (.inr (8, [.ref d, vi (0), vi (1), vi (0)])) := u15.self' ee20
        have u22 := u16.ne' ee20 (u16.nk u15 rfl)
        have kp23 := kp17.put ee20 rfl
        have dm24 := (dom_put ee20).trans dm18
        exact j_vret C E dJ5_setLength_d00df_81 (by omega) (by omega) ⟨rfl, ⟨_, g, ⟨u21, u22, hcp, hb7⟩, Nat.zero_le _, fun i hi => absurd hi (Nat.not_lt_zero _)⟩, kp23, dm24⟩
    · exact absurd cc5 (by omega)
  · exact absurd cc1 (by decide)
set_option maxHeartbeats 4000000 in
set_option maxRecDepth 20000 in
theorem c_setLength (l : Launch) (hfl : l.stackTraces = false) (D : va_G) (cy : Nat → Nat) (σ : Wd) (a d cap : Nat) (cs : List Int) (hR : SbR cy σ a d cap cs) : Ct l yJ4_setLength_d00df cJ4_setLength_d00df 2 none 4 0 0 D cy [.ref a, vi (0)] σ (fun v σ' => v = none ∧ SbR cy σ' a d cap [] ∧ Keep σ σ' (fun x => x = a) ∧ σ'.1 = σ.1) noX := by
  refine ct_start (by decide +kernel) hfl rfl (fun κ e1 e2 e3 C E NH => ?_)
  subst e1 e2 e3
  have C : Cx κ cJ4_setLength_d00df 2 RJ4 "setLength" 4 := C
  obtain ⟨-, -, -, -, hc, hs⟩ := id E
  show J κ σ [(0, .ref a), (1, vi (0))] 0 [] 0 0
  obtain ⟨ml9, g9, hS9, -⟩ := id hR
  obtain ⟨hh9, -⟩ := hS9
  refine j_aload_n 0 C dJ4_setLength_d00df_0 rfl rfl rfl ?_
  refine j_iload_n 1 C dJ4_setLength_d00df_1 rfl rfl rfl ?_
  refine j_callU (st' := []) (As := [vi (0)]) C dJ4_setLength_d00df_2 rfl m_J4_333 hh9 rfl rfl rfl (c_setLength5 (kL κ) hfl (kD κ) (kc κ) σ a d cap cs hR) rfl (by omega) (by omega) (by omega) (fun _ _ hx => hx.elim) (fun v2 τ1 hp3 => ?_)
  obtain ⟨rfl, h9⟩ := hp3
  show J κ τ1 [(0, .ref a), (1, vi (0))] 5 [] _ _
  exact j_vret C E dJ4_setLength_d00df_5 (by omega) (by omega) ⟨rfl, h9⟩
theorem getD_app {cs ds : List Int} {g g' : Nat → Int} (hg : ∀ i, i < cs.length → g i = cs.getD i 0) (h1 : ∀ i, i < cs.length → g' i = g i) (h2 : ∀ j, j < ds.length → g' (cs.length + j) = ds.getD j 0) : ∀ i, i < (cs ++ ds).length → g' i = (cs ++ ds).getD i 0 := by
  intro i hi
  rw [List.length_append] at hi
  rw [List.getD_eq_getElem?_getD]
  by_cases h : i < cs.length
  · rw [List.getElem?_append_left h, ← List.getD_eq_getElem?_getD, h1 i h, hg i h]
  · rw [List.getElem?_append_right (by omega), ← List.getD_eq_getElem?_getD, ← h2 (i - cs.length) (by omega), show cs.length + (i - cs.length) = i by omega]
set_option maxHeartbeats 4000000 in
set_option maxRecDepth 20000 in
theorem c_append5c (l : Launch) (hfl : l.stackTraces = false) (D : va_G) (cy : Nat → Nat) (σ : Wd) (a d cap : Nat) (cs : List Int) (hR : SbR cy σ a d cap cs) (c : Int) (hc9 : 0 ≤ c ∧ c < 128) (hle : cs.length ≤ 1900) : Ct l yJ5_append_3fe6f cJ5_append_3fe6f 2 (some (.object "java/lang/AbstractStringBuilder")) 3 (gC cap ((cs.length : Int) + 1)) (gS cap ((cs.length : Int) + 1)) D cy [.ref a, vi (c)] σ (fun v σ' => v = some (.ref a) ∧ ∃ d' : Nat, SbR cy σ' a d' (capF cap ((cs.length : Int) + 1)) (cs ++ [c]) ∧ ((d' = d ∧ σ'.1 = σ.1) ∨ (d' ∉ σ.1 ∧ σ'.1 = σ.1 ++ [d'])) ∧ Keep σ σ' (fun x => x = a ∨ x = d)) noX := by
  refine ct_start (by decide +kernel) hfl rfl (fun κ e1 e2 e3 C E NH => ?_)
  subst e1 e2 e3
  have C : Cx κ cJ5_append_3fe6f 2 RJ5 "append" 3 := C
  obtain ⟨-, -, -, -, hc, hs⟩ := id E
  show J κ σ [(0, .ref a), (1, vi (c))] 0 [] 0 0
  obtain ⟨ml, g, hS, hn, hg⟩ := id hR
  have hS9 := hS
  obtain ⟨hh, hd, hcp, hb7⟩ := hS
  refine j_aload_n 0 C dJ5_append_3fe6f_0 rfl rfl rfl ?_
  refine j_aload_n 0 C dJ5_append_3fe6f_1 rfl rfl rfl ?_
  refine j_get C dJ5_append_3fe6f_2 rfl fg_J5_79 hh rfl ?_
  refine j_iconst C dJ5_append_3fe6f_5 rfl ?_
  refine j_iadd C dJ5_append_3fe6f_6 rfl ?_
  refine j_callV (st' := []) (As := [vi ((cs.length : Int) + 1)]) C dJ5_append_3fe6f_7 rfl m_J5_100 hh rfl rfl rfl (c_ensure (kL κ) hfl (kD κ) (kc κ) σ a d cap ml cs.length g hS9 ((cs.length : Int) + 1) ⟨by omega, by omega, by omega⟩) rfl (by omega) (by omega) (by omega) (fun _ _ hx => hx.elim) (fun v2 τ1 hp3 => ?_)
  obtain ⟨rfl, d', g', hS1, hgg, hdd, hk1⟩ := hp3
  show J κ τ1 [(0, .ref a), (1, vi (c))] 10 [] (0 + gC cap ((cs.length : Int) + 1)) (0 + gS cap ((cs.length : Int) + 1))
  have hcl : ((cs.length : Int) + 1) ≤ (capF cap ((cs.length : Int) + 1) : Int) ∧ cap ≤ capF cap ((cs.length : Int) + 1) := capF_le (by omega)
  obtain ⟨cap1, hcap1⟩ : ∃ z, capF cap ((cs.length : Int) + 1) = z := ⟨_, rfl⟩
  rw [hcap1] at hS1 hcl E
  have hS2 := hS1
  obtain ⟨hh1, hd1, hcp1, hb71⟩ := hS1
  have kp0 : Keep τ1 τ1 (fun x => x = a ∨ x = d') := Keep.rf
  have dm0 : τ1.1 = τ1.1 := rfl
  refine j_aload_n 0 C dJ5_append_3fe6f_10 rfl rfl rfl ?_
  refine j_callV (st' := []) (As := []) C dJ5_append_3fe6f_11 rfl m_J5_83 hh1 rfl rfl rfl (c_isLatin1 (kL κ) hfl (kD κ) (kc κ) τ1 a d' cap1 ml cs.length g' hS2) rfl (by omega) (by omega) (by omega) (fun _ _ hx => hx.elim) (fun v5 τ4 hp6 => ?_)
  obtain ⟨rfl, hs9⟩ := hp6
  replace hs9 := hs9.symm
  subst hs9
  show J κ τ1 [(0, .ref a), (1, vi (c))] 14 [vi (1)] _ _
  refine j_if_eq (tgt := 45) C dJ5_append_3fe6f_14 rfl rfl ⟨by omega, by omega⟩ (fun cc7 => ?_) (fun cc7 => ?_)
  · exact absurd cc7 (by decide)
  · refine j_iload_n 1 C dJ5_append_3fe6f_17 rfl rfl rfl ?_
    refine j_callS (st' := []) (As := [vi (c)]) C dJ5_append_3fe6f_18 rfl m_J5_191 rfl rfl (c_canEncode (kL κ) hfl (kD κ) (kc κ) τ1 c hc9) rfl (by omega) (by omega) (by omega) (fun _ _ hx => hx.elim) (fun v9 τ8 hp10 => ?_)
    obtain ⟨rfl, hs9⟩ := hp10
    replace hs9 := hs9.symm
    subst hs9
    show J κ τ1 [(0, .ref a), (1, vi (c))] 21 [vi (1)] _ _
    refine j_if_eq (tgt := 45) C dJ5_append_3fe6f_21 rfl rfl ⟨by omega, by omega⟩ (fun cc11 => ?_) (fun cc11 => ?_)
    · exact absurd cc11 (by decide)
    · refine j_aload_n 0 C dJ5_append_3fe6f_24 rfl rfl rfl ?_
      refine j_get C dJ5_append_3fe6f_25 rfl fg_J5_15 hh1 rfl ?_
      refine j_aload_n 0 C dJ5_append_3fe6f_28 rfl rfl rfl ?_
      refine j_dup C dJ5_append_3fe6f_29 rfl rfl ?_
      refine j_get C dJ5_append_3fe6f_30 rfl fg_J5_79 hh1 rfl ?_
      refine j_dup_x1 C dJ5_append_3fe6f_33 rfl rfl rfl ?_
      refine j_iconst C dJ5_append_3fe6f_34 rfl ?_
      refine j_iadd C dJ5_append_3fe6f_35 rfl ?_
      refine j_put (fs' := [.ref d', vi (0), vi (ml), vi ((cs.length : Int) + 1)]) C dJ5_append_3fe6f_36 rfl fa_J5_79 hh1 rfl rfl rfl rfl (fun τ12 ee13 => ?_)
      have u14 : has τ12 a (.inr (8, [.ref d', vi (0), vi (ml), vi ((cs.length : Int) + 1)])) := hh1.self' ee13
      have u15 := hd1.ne' ee13 (hd1.nk hh1 rfl)
      have kp16 := kp0.put ee13 (Or.inl rfl)
      have dm17 := (dom_put ee13).trans dm0
      refine j_iload_n 1 C dJ5_append_3fe6f_39 rfl rfl rfl ?_
      refine j_i2b (z := c) C dJ5_append_3fe6f_40 rfl (z_i2b hc9) ?_
      refine j_bast C dJ5_append_3fe6f_41 rfl u15 ⟨by omega, by omega⟩ (by omega) (z_nb hc9) (fun τ18 ee19 => ?_)
      have u20 := u14.ne' ee19 (u14.nk u15 rfl)
      have u21 : has τ18 d' (bA (kc κ) cap1 (ups g' (cs.length : Int).toNat c)) := u15.self' ee19
      have kp22 := kp16.put ee19 (Or.inr rfl)
      have dm23 := (dom_put ee19).trans dm17
      refine j_goto (tgt := 75) C dJ5_append_3fe6f_42 rfl ?_
      refine j_aload_n 0 C dJ5_append_3fe6f_75 rfl rfl rfl ?_
      have hl1 : [c].length = 1 := rfl
      exact j_aret C E dJ5_append_3fe6f_76 (Or.inl ⟨_, rfl⟩) (by omega) (by omega) ⟨rfl, d', ⟨ml, _, ⟨by rw [List.length_append]; exact u20, u21, hcp1, ups_in hb71 hc9⟩, by rw [List.length_append]; omega, getD_app hg (fun i hi => (ups_n (by omega)).trans (hgg i (by omega))) (fun j hj => by have hj0 : j = 0 := (by simpa using hj); subst hj0; exact ups_s)⟩, hdd.elim (fun z => Or.inl ⟨z.1, dm23.trans z.2⟩) (fun z => Or.inr ⟨z.1, dm23.trans z.2⟩), (hk1.mono (fun x z => Or.inl z)).tr2 kp22 (fun x z => z.elim (fun z => Or.inl (Or.inl z)) (fun z => hdd.elim (fun y => Or.inl (Or.inr (z.trans y.1))) (fun y => Or.inr (by rw [z]; exact y.1))))⟩
set_option maxHeartbeats 4000000 in
set_option maxRecDepth 20000 in
theorem c_appendC (l : Launch) (hfl : l.stackTraces = false) (D : va_G) (cy : Nat → Nat) (σ : Wd) (a d cap : Nat) (cs : List Int) (hR : SbR cy σ a d cap cs) (c : Int) (hc9 : 0 ≤ c ∧ c < 128) (hle : cs.length ≤ 1900) : Ct l yJ4_append_cf468 cJ4_append_cf468 2 (some (.object "java/lang/StringBuilder")) 4 (gC cap ((cs.length : Int) + 1)) (gS cap ((cs.length : Int) + 1)) D cy [.ref a, vi (c)] σ (fun v σ' => v = some (.ref a) ∧ ∃ d' : Nat, SbR cy σ' a d' (capF cap ((cs.length : Int) + 1)) (cs ++ [c]) ∧ ((d' = d ∧ σ'.1 = σ.1) ∨ (d' ∉ σ.1 ∧ σ'.1 = σ.1 ++ [d'])) ∧ Keep σ σ' (fun x => x = a ∨ x = d)) noX := by
  refine ct_start (by decide +kernel) hfl rfl (fun κ e1 e2 e3 C E NH => ?_)
  subst e1 e2 e3
  have C : Cx κ cJ4_append_cf468 2 RJ4 "append" 4 := C
  obtain ⟨-, -, -, -, hc, hs⟩ := id E
  show J κ σ [(0, .ref a), (1, vi (c))] 0 [] 0 0
  obtain ⟨ml9, g9, hS9, -⟩ := id hR
  obtain ⟨hh9, -⟩ := hS9
  refine j_aload_n 0 C dJ4_append_cf468_0 rfl rfl rfl ?_
  refine j_iload_n 1 C dJ4_append_cf468_1 rfl rfl rfl ?_
  refine j_callU (st' := []) (As := [vi (c)]) C dJ4_append_cf468_2 rfl m_J4_50 hh9 rfl rfl rfl (c_append5c (kL κ) hfl (kD κ) (kc κ) σ a d cap cs hR c hc9 hle) rfl (by omega) (by omega) (by omega) (fun _ _ hx => hx.elim) (fun v2 τ1 hp3 => ?_)
  obtain ⟨rfl, h9⟩ := hp3
  show J κ τ1 [(0, .ref a), (1, vi (c))] 5 [.ref a] (0 + gC cap ((cs.length : Int) + 1)) (0 + gS cap ((cs.length : Int) + 1))
  refine j_pop C dJ4_append_cf468_5 rfl rfl ?_
  refine j_aload_n 0 C dJ4_append_cf468_6 rfl rfl rfl ?_
  exact j_aret C E dJ4_append_cf468_7 (Or.inl ⟨_, rfl⟩) (by omega) (by omega) ⟨rfl, h9⟩
set_option maxHeartbeats 4000000 in
set_option maxRecDepth 20000 in
theorem c_stringSize (l : Launch) (hfl : l.stackTraces = false) (D : va_G) (cy : Nat → Nat) (σ : Wd) (n : Int) (hn : 0 ≤ n ∧ n ≤ 9999) : Ct l yJ6_stringSize_0f7a4 cJ6_stringSize_0f7a4 4 (some .int) 0 0 0 D cy [vi (n)] σ (fun v σ' => v = some (vi (sz n)) ∧ σ' = σ) noX := by
  refine ct_start (by decide +kernel) hfl rfl (fun κ e1 e2 e3 C E NH => ?_)
  subst e1 e2 e3
  have C : Cx κ cJ6_stringSize_0f7a4 4 RJ6 "stringSize" 0 := C
  obtain ⟨-, -, -, -, hc, hs⟩ := id E
  show J κ σ [(0, vi (n))] 0 [] 0 0
  refine j_iconst C dJ6_stringSize_0f7a4_0 rfl ?_
  refine j_istore_n (lv' := [(0, vi (n)), (1, vi (1))]) [1, 0] C dJ6_stringSize_0f7a4_1 rfl rfl rfl rfl ?_
  refine j_iload_n 0 C dJ6_stringSize_0f7a4_2 rfl rfl rfl ?_
  refine j_if_lt (tgt := 11) C dJ6_stringSize_0f7a4_3 rfl rfl ⟨by omega, by omega⟩ (fun cc1 => ?_) (fun cc1 => ?_)
  · exact absurd cc1 (by omega)
  · refine j_iconst C dJ6_stringSize_0f7a4_6 rfl ?_
    refine j_istore_n (lv' := [(0, vi (n)), (1, vi (0))]) [1, 0] C dJ6_stringSize_0f7a4_7 rfl rfl rfl rfl ?_
    refine j_iload_n 0 C dJ6_stringSize_0f7a4_8 rfl rfl rfl ?_
    refine j_ineg C dJ6_stringSize_0f7a4_9 rfl ?_
    refine j_istore_n (lv' := [(0, vi (-n)), (1, vi (0))]) [0, 1] C dJ6_stringSize_0f7a4_10 rfl rfl rfl rfl ?_
    refine j_bipush C dJ6_stringSize_0f7a4_11 rfl (by decide) ?_
    refine j_istore_n (lv' := [(0, vi (-n)), (1, vi (0)), (2, vi (-10))]) [1, 2, 0] C dJ6_stringSize_0f7a4_13 rfl rfl rfl rfl ?_
    refine j_iconst C dJ6_stringSize_0f7a4_14 rfl ?_
    refine j_istore_n (lv' := [(0, vi (-n)), (1, vi (0)), (2, vi (-10)), (3, vi (1))]) [1, 2, 3, 0] C dJ6_stringSize_0f7a4_15 rfl rfl rfl rfl ?_
    refine j_iload_n 3 C dJ6_stringSize_0f7a4_16 rfl rfl rfl ?_
    refine j_bipush C dJ6_stringSize_0f7a4_17 rfl (by decide) ?_
    refine j_icmp_ge (tgt := 42) C dJ6_stringSize_0f7a4_19 rfl rfl ⟨by omega, by omega⟩ ⟨by omega, by omega⟩ (fun cc2 => ?_) (fun cc2 => ?_)
    · exact absurd cc2 (by decide)
    · refine j_iload_n 0 C dJ6_stringSize_0f7a4_22 rfl rfl rfl ?_
      refine j_iload_n 2 C dJ6_stringSize_0f7a4_23 rfl rfl rfl ?_
      refine j_icmp_le (tgt := 31) C dJ6_stringSize_0f7a4_24 rfl rfl ⟨by omega, by omega⟩ ⟨by omega, by omega⟩ (fun cc3 => ?_) (fun cc3 => ?_)
      · refine j_bipush C dJ6_stringSize_0f7a4_31 rfl (by decide) ?_
        refine j_iload_n 2 C dJ6_stringSize_0f7a4_33 rfl rfl rfl ?_
        refine j_imul C dJ6_stringSize_0f7a4_34 rfl ?_
        refine j_istore_n (lv' := [(0, vi (-n)), (1, vi (0)), (2, vi (10 * (-10))), (3, vi (1))]) [1, 2, 0, 3] C dJ6_stringSize_0f7a4_35 rfl rfl rfl rfl ?_
        refine j_iinc (y := 2) (lv' := [(0, vi (-n)), (1, vi (0)), (2, vi (10 * (-10))), (3, vi (2))]) 3 [1, 2, 3, 0] C dJ6_stringSize_0f7a4_36 rfl rfl rfl rfl rfl ?_
        refine j_goto (tgt := 16) C dJ6_stringSize_0f7a4_39 rfl ?_
        refine j_iload_n 3 C dJ6_stringSize_0f7a4_16 rfl rfl rfl ?_
        refine j_bipush C dJ6_stringSize_0f7a4_17 rfl (by decide) ?_
        refine j_icmp_ge (tgt := 42) C dJ6_stringSize_0f7a4_19 rfl rfl ⟨by omega, by omega⟩ ⟨by omega, by omega⟩ (fun cc4 => ?_) (fun cc4 => ?_)
        · exact absurd cc4 (by decide)
        · refine j_iload_n 0 C dJ6_stringSize_0f7a4_22 rfl rfl rfl ?_
          refine j_iload_n 2 C dJ6_stringSize_0f7a4_23 rfl rfl rfl ?_
          refine j_icmp_le (tgt := 31) C dJ6_stringSize_0f7a4_24 rfl rfl ⟨by omega, by omega⟩ ⟨by omega, by omega⟩ (fun cc5 => ?_) (fun cc5 => ?_)
          · refine j_bipush C dJ6_stringSize_0f7a4_31 rfl (by decide) ?_
            refine j_iload_n 2 C dJ6_stringSize_0f7a4_33 rfl rfl rfl ?_
            refine j_imul C dJ6_stringSize_0f7a4_34 rfl ?_
            refine j_istore_n (lv' := [(0, vi (-n)), (1, vi (0)), (2, vi (10 * (10 * (-10)))), (3, vi (2))]) [1, 2, 0, 3] C dJ6_stringSize_0f7a4_35 rfl rfl rfl rfl ?_
            refine j_iinc (y := 3) (lv' := [(0, vi (-n)), (1, vi (0)), (2, vi (10 * (10 * (-10)))), (3, vi (3))]) 3 [1, 2, 3, 0] C dJ6_stringSize_0f7a4_36 rfl rfl rfl rfl rfl ?_
            refine j_goto (tgt := 16) C dJ6_stringSize_0f7a4_39 rfl ?_
            refine j_iload_n 3 C dJ6_stringSize_0f7a4_16 rfl rfl rfl ?_
            refine j_bipush C dJ6_stringSize_0f7a4_17 rfl (by decide) ?_
            refine j_icmp_ge (tgt := 42) C dJ6_stringSize_0f7a4_19 rfl rfl ⟨by omega, by omega⟩ ⟨by omega, by omega⟩ (fun cc6 => ?_) (fun cc6 => ?_)
            · exact absurd cc6 (by decide)
            · refine j_iload_n 0 C dJ6_stringSize_0f7a4_22 rfl rfl rfl ?_
              refine j_iload_n 2 C dJ6_stringSize_0f7a4_23 rfl rfl rfl ?_
              refine j_icmp_le (tgt := 31) C dJ6_stringSize_0f7a4_24 rfl rfl ⟨by omega, by omega⟩ ⟨by omega, by omega⟩ (fun cc7 => ?_) (fun cc7 => ?_)
              · refine j_bipush C dJ6_stringSize_0f7a4_31 rfl (by decide) ?_
                refine j_iload_n 2 C dJ6_stringSize_0f7a4_33 rfl rfl rfl ?_
                refine j_imul C dJ6_stringSize_0f7a4_34 rfl ?_
                refine j_istore_n (lv' := [(0, vi (-n)), (1, vi (0)), (2, vi (10 * (10 * (10 * (-10))))), (3, vi (3))]) [1, 2, 0, 3] C dJ6_stringSize_0f7a4_35 rfl rfl rfl rfl ?_
                refine j_iinc (y := 4) (lv' := [(0, vi (-n)), (1, vi (0)), (2, vi (10 * (10 * (10 * (-10))))), (3, vi (4))]) 3 [1, 2, 3, 0] C dJ6_stringSize_0f7a4_36 rfl rfl rfl rfl rfl ?_
                refine j_goto (tgt := 16) C dJ6_stringSize_0f7a4_39 rfl ?_
                refine j_iload_n 3 C dJ6_stringSize_0f7a4_16 rfl rfl rfl ?_
                refine j_bipush C dJ6_stringSize_0f7a4_17 rfl (by decide) ?_
                refine j_icmp_ge (tgt := 42) C dJ6_stringSize_0f7a4_19 rfl rfl ⟨by omega, by omega⟩ ⟨by omega, by omega⟩ (fun cc8 => ?_) (fun cc8 => ?_)
                · exact absurd cc8 (by decide)
                · refine j_iload_n 0 C dJ6_stringSize_0f7a4_22 rfl rfl rfl ?_
                  refine j_iload_n 2 C dJ6_stringSize_0f7a4_23 rfl rfl rfl ?_
                  refine j_icmp_le (tgt := 31) C dJ6_stringSize_0f7a4_24 rfl rfl ⟨by omega, by omega⟩ ⟨by omega, by omega⟩ (fun cc9 => ?_) (fun cc9 => ?_)
                  · exact absurd cc9 (by omega)
                  · refine j_iload_n 3 C dJ6_stringSize_0f7a4_27 rfl rfl rfl ?_
                    refine j_iload_n 1 C dJ6_stringSize_0f7a4_28 rfl rfl rfl ?_
                    refine j_iadd C dJ6_stringSize_0f7a4_29 rfl ?_
                    exact j_iret C E dJ6_stringSize_0f7a4_30 (by omega) (by omega) ⟨congrArg some (congrArg vi (by unfold sz; rw [if_neg (by omega), if_neg (by omega), if_neg (by omega)]; rfl)), rfl⟩
              · refine j_iload_n 3 C dJ6_stringSize_0f7a4_27 rfl rfl rfl ?_
                refine j_iload_n 1 C dJ6_stringSize_0f7a4_28 rfl rfl rfl ?_
                refine j_iadd C dJ6_stringSize_0f7a4_29 rfl ?_
                exact j_iret C E dJ6_stringSize_0f7a4_30 (by omega) (by omega) ⟨congrArg some (congrArg vi (by unfold sz; rw [if_neg (by omega), if_neg (by omega), if_pos (by omega)]; rfl)), rfl⟩
          · refine j_iload_n 3 C dJ6_stringSize_0f7a4_27 rfl rfl rfl ?_
            refine j_iload_n 1 C dJ6_stringSize_0f7a4_28 rfl rfl rfl ?_
            refine j_iadd C dJ6_stringSize_0f7a4_29 rfl ?_
            exact j_iret C E dJ6_stringSize_0f7a4_30 (by omega) (by omega) ⟨congrArg some (congrArg vi (by unfold sz; rw [if_neg (by omega), if_pos (by omega)]; rfl)), rfl⟩
      · refine j_iload_n 3 C dJ6_stringSize_0f7a4_27 rfl rfl rfl ?_
        refine j_iload_n 1 C dJ6_stringSize_0f7a4_28 rfl rfl rfl ?_
        refine j_iadd C dJ6_stringSize_0f7a4_29 rfl ?_
        exact j_iret C E dJ6_stringSize_0f7a4_30 (by omega) (by omega) ⟨congrArg some (congrArg vi (by unfold sz; rw [if_pos (by omega)]; rfl)), rfl⟩
set_option maxHeartbeats 8000000 in
set_option maxRecDepth 20000 in
theorem c_getChars (l : Launch) (hfl : l.stackTraces = false) (D : va_G) (cy : Nat → Nat) (σ : Wd) (n ix : Int) (d cap : Nat) (g : Nat → Int) (hd : has σ d (bA cy cap g)) (hb7 : ∀ i, i < cap → 0 ≤ g i ∧ g i < 128) (hn : 0 ≤ n ∧ n ≤ 9999) (hix : sz n ≤ ix ∧ ix ≤ (cap : Int)) (hcap : cap ≤ 10000) : Ct l yJ6_getChars_ba4f3 cJ6_getChars_ba4f3 7 (some .int) 0 0 0 D cy [vi (n), vi (ix), .ref d] σ (fun v σ' => v = some (vi (ix - sz n)) ∧ ∃ g' : Nat → Int, has σ' d (bA cy cap g') ∧ DgAt g g' cap (ix - sz n) n ∧ Keep σ σ' (fun x => x = d) ∧ σ'.1 = σ.1) noX := by
  refine ct_start (by decide +kernel) hfl rfl (fun κ e1 e2 e3 C E NH => ?_)
  subst e1 e2 e3
  have C : Cx κ cJ6_getChars_ba4f3 7 RJ6 "getChars" 0 := C
  obtain ⟨-, -, -, -, hc, hs⟩ := id E
  show J κ σ [(0, vi (n)), (1, vi (ix)), (2, .ref d)] 0 [] 0 0
  obtain ⟨t1, t2, ⟨hz1, ht1⟩, hz2, ht2⟩ := C.go.2.2.1
  have kp0 : Keep σ σ (fun x => x = d) := Keep.rf
  have dm0 : σ.1 = σ.1 := rfl
  have hszn := sz_in n
  refine j_iload_n 1 C dJ6_getChars_ba4f3_0 rfl rfl rfl ?_
  refine j_istore (lv' := [(0, vi (n)), (1, vi (ix)), (2, .ref d), (5, vi (ix))]) [1, 2, 3, 0] C dJ6_getChars_ba4f3_1 rfl rfl rfl ?_
  refine j_iload_n 0 C dJ6_getChars_ba4f3_3 rfl rfl rfl ?_
  refine j_if_ge (tgt := 11) C dJ6_getChars_ba4f3_4 rfl rfl ⟨by omega, by omega⟩ (fun cc1 => ?_) (fun cc1 => ?_)
  · refine j_iconst C dJ6_getChars_ba4f3_11 rfl ?_
    refine j_istore (lv' := [(0, vi (n)), (1, vi (ix)), (2, .ref d), (5, vi (ix)), (6, vi (0))]) [1, 2, 3, 4, 0] C dJ6_getChars_ba4f3_12 rfl rfl rfl ?_
    refine j_iload 4 C dJ6_getChars_ba4f3_14 rfl rfl ?_
    refine j_if_ne (tgt := 22) C dJ6_getChars_ba4f3_16 rfl rfl ⟨by omega, by omega⟩ (fun cc2 => ?_) (fun cc2 => ?_)
    · exact absurd rfl cc2
    · refine j_iload_n 0 C dJ6_getChars_ba4f3_19 rfl rfl rfl ?_
      refine j_ineg C dJ6_getChars_ba4f3_20 rfl ?_
      refine j_istore_n (lv' := [(0, vi (-n)), (1, vi (ix)), (2, .ref d), (5, vi (ix)), (6, vi (0))]) [0, 1, 2, 3, 4] C dJ6_getChars_ba4f3_21 rfl rfl rfl rfl ?_
      refine j_iload_n 0 C dJ6_getChars_ba4f3_22 rfl rfl rfl ?_
      refine j_bipush C dJ6_getChars_ba4f3_23 rfl (by decide) ?_
      refine j_icmp_gt (tgt := 72) C dJ6_getChars_ba4f3_25 rfl rfl ⟨by omega, by omega⟩ ⟨by omega, by omega⟩ (fun cc3 => ?_) (fun cc3 => ?_)
      · refine j_aload_n 2 C dJ6_getChars_ba4f3_72 rfl rfl rfl ?_
        refine j_iinc (y := ix + (-1)) (lv' := [(0, vi (-n)), (1, vi (ix)), (2, .ref d), (5, vi (ix + (-1))), (6, vi (0))]) 3 [1, 2, 3, 0, 4] C dJ6_getChars_ba4f3_73 rfl rfl rfl rfl rfl ?_
        refine j_iload 3 C dJ6_getChars_ba4f3_76 rfl rfl ?_
        refine j_gets (v := .ref t1) C dJ6_getChars_ba4f3_78 rfl gs_J6_83 hz1 ?_
        refine j_iload_n 0 C dJ6_getChars_ba4f3_81 rfl rfl rfl ?_
        refine j_ineg C dJ6_getChars_ba4f3_82 rfl ?_
        refine j_tbald C dJ6_getChars_ba4f3_83 rfl ht1 ⟨by omega, by omega⟩ (by omega) (show vi (48 + ((-(-n)).toNat % 10 : Nat)) = vi (48 + n % 10) from congrArg vi (by omega)) ?_
        refine j_bast C dJ6_getChars_ba4f3_84 rfl hd ⟨by omega, by omega⟩ (by omega) (z_nb ⟨by omega, by omega⟩) (fun τ4 ee5 => ?_)
        have u6 : has τ4 d (bA (kc κ) cap (ups g (ix + (-1)).toNat (48 + n % 10))) := hd.self' ee5
        have kp7 := kp0.put ee5 rfl
        have dm8 := (dom_put ee5).trans dm0
        refine j_iload_n 0 C dJ6_getChars_ba4f3_85 rfl rfl rfl ?_
        refine j_bipush C dJ6_getChars_ba4f3_86 rfl (by decide) ?_
        refine j_icmp_ge (tgt := 104) C dJ6_getChars_ba4f3_88 rfl rfl ⟨by omega, by omega⟩ ⟨by omega, by omega⟩ (fun cc9 => ?_) (fun cc9 => ?_)
        · refine j_iload 4 C dJ6_getChars_ba4f3_104 rfl rfl ?_
          refine j_if_eq (tgt := 118) C dJ6_getChars_ba4f3_106 rfl rfl ⟨by omega, by omega⟩ (fun cc10 => ?_) (fun cc10 => ?_)
          · refine j_iload 3 C dJ6_getChars_ba4f3_118 rfl rfl ?_
            have hsz : sz n = 1 := by unfold sz; rw [if_pos (by omega)]
            rw [hsz] at hix
            have hdg : dg n = [48 + n] := by unfold dg; rw [if_pos (by omega)]
            have hDg : DgAt g (ups g (ix + (-1)).toNat (48 + n % 10)) cap (ix - sz n) n := by
              rw [hsz]; refine ⟨fun i hi => by unfold ups; rw [if_neg (by omega)], fun j hj => ?_, ups_in (hb7) ⟨by omega, by omega⟩⟩
              rw [hdg] at hj ⊢
              have hj4 : j = 0 := by simp at hj; omega
              rcases hj4 with rfl
              · unfold ups; rw [if_pos (by omega)]; simp; try omega
            exact j_iret C E dJ6_getChars_ba4f3_120 (by omega) (by omega) ⟨congrArg some (congrArg vi (show _ = ix - sz n by rw [hsz]; omega)), _, u6, hDg, kp7, dm8⟩
          · exact absurd cc10 (by decide)
        · refine j_aload_n 2 C dJ6_getChars_ba4f3_91 rfl rfl rfl ?_
          refine j_iinc (y := ix + (-1) + (-1)) (lv' := [(0, vi (-n)), (1, vi (ix)), (2, .ref d), (5, vi (ix + (-1) + (-1))), (6, vi (0))]) 3 [1, 2, 3, 0, 4] C dJ6_getChars_ba4f3_92 rfl rfl rfl rfl rfl ?_
          refine j_iload 3 C dJ6_getChars_ba4f3_95 rfl rfl ?_
          refine j_gets (v := .ref t2) C dJ6_getChars_ba4f3_97 rfl gs_J6_87 hz2 ?_
          refine j_iload_n 0 C dJ6_getChars_ba4f3_100 rfl rfl rfl ?_
          refine j_ineg C dJ6_getChars_ba4f3_101 rfl ?_
          refine j_tbald C dJ6_getChars_ba4f3_102 rfl ht2 ⟨by omega, by omega⟩ (by omega) (show vi (48 + ((-(-n)).toNat / 10 : Nat)) = vi (48 + n / 10) from congrArg vi (by omega)) ?_
          refine j_bast C dJ6_getChars_ba4f3_103 rfl u6 ⟨by omega, by omega⟩ (by omega) (z_nb ⟨by omega, by omega⟩) (fun τ11 ee12 => ?_)
          have u13 : has τ11 d (bA (kc κ) cap (ups (ups g (ix + (-1)).toNat (48 + n % 10)) (ix + (-1) + (-1)).toNat (48 + n / 10))) := u6.self' ee12
          have kp14 := kp7.put ee12 rfl
          have dm15 := (dom_put ee12).trans dm8
          refine j_iload 4 C dJ6_getChars_ba4f3_104 rfl rfl ?_
          refine j_if_eq (tgt := 118) C dJ6_getChars_ba4f3_106 rfl rfl ⟨by omega, by omega⟩ (fun cc16 => ?_) (fun cc16 => ?_)
          · refine j_iload 3 C dJ6_getChars_ba4f3_118 rfl rfl ?_
            have hsz : sz n = 2 := by unfold sz; rw [if_neg (by omega), if_pos (by omega)]
            rw [hsz] at hix
            have hdg : dg n = [48 + n / 10, 48 + n % 10] := by unfold dg; rw [if_neg (by omega), if_pos (by omega)]
            have hDg : DgAt g (ups (ups g (ix + (-1)).toNat (48 + n % 10)) (ix + (-1) + (-1)).toNat (48 + n / 10)) cap (ix - sz n) n := by
              rw [hsz]; refine ⟨fun i hi => by unfold ups; rw [if_neg (by omega), if_neg (by omega)], fun j hj => ?_, ups_in (ups_in (hb7) ⟨by omega, by omega⟩) ⟨by omega, by omega⟩⟩
              rw [hdg] at hj ⊢
              have hj4 : j = 0 ∨ j = 1 := by simp at hj; omega
              rcases hj4 with rfl | rfl
              · unfold ups; rw [if_pos (by omega)]; simp; try omega
              · unfold ups; rw [if_neg (by omega), if_pos (by omega)]; simp; try omega
            exact j_iret C E dJ6_getChars_ba4f3_120 (by omega) (by omega) ⟨congrArg some (congrArg vi (show _ = ix - sz n by rw [hsz]; omega)), _, u13, hDg, kp14, dm15⟩
          · exact absurd cc16 (by decide)
      · refine j_iload_n 0 C dJ6_getChars_ba4f3_28 rfl rfl rfl ?_
        refine j_bipush C dJ6_getChars_ba4f3_29 rfl (by decide) ?_
        refine j_idivn C dJ6_getChars_ba4f3_31 rfl ⟨by omega, by omega⟩ ⟨by omega, by omega⟩ ?_
        refine j_istore_n (lv' := [(0, vi (-n)), (1, vi (ix)), (2, .ref d), (5, vi (ix)), (6, vi (0)), (3, vi (-(n / 100)))]) [1, 2, 3, 4, 5, 0] C dJ6_getChars_ba4f3_32 rfl rfl rfl rfl ?_
        refine j_iload_n 5 C dJ6_getChars_ba4f3_33 rfl rfl rfl ?_
        refine j_bipush C dJ6_getChars_ba4f3_34 rfl (by decide) ?_
        refine j_imul C dJ6_getChars_ba4f3_36 rfl ?_
        refine j_iload_n 0 C dJ6_getChars_ba4f3_37 rfl rfl rfl ?_
        refine j_isub C dJ6_getChars_ba4f3_38 rfl ?_
        rw [show ((-(n / 100)) * 100) - (-n) = n % 100 by omega]
        refine j_istore (lv' := [(0, vi (-n)), (1, vi (ix)), (2, .ref d), (5, vi (ix)), (6, vi (0)), (3, vi (-(n / 100))), (4, vi (n % 100))]) [1, 2, 3, 4, 5, 6, 0] C dJ6_getChars_ba4f3_39 rfl rfl rfl ?_
        refine j_iload_n 5 C dJ6_getChars_ba4f3_41 rfl rfl rfl ?_
        refine j_istore_n (lv' := [(0, vi (-(n / 100))), (1, vi (ix)), (2, .ref d), (5, vi (ix)), (6, vi (0)), (3, vi (-(n / 100))), (4, vi (n % 100))]) [0, 1, 2, 3, 4, 5, 6] C dJ6_getChars_ba4f3_42 rfl rfl rfl rfl ?_
        refine j_aload_n 2 C dJ6_getChars_ba4f3_43 rfl rfl rfl ?_
        refine j_iinc (y := ix + (-1)) (lv' := [(0, vi (-(n / 100))), (1, vi (ix)), (2, .ref d), (5, vi (ix + (-1))), (6, vi (0)), (3, vi (-(n / 100))), (4, vi (n % 100))]) 3 [1, 2, 3, 0, 4, 5, 6] C dJ6_getChars_ba4f3_44 rfl rfl rfl rfl rfl ?_
        refine j_iload 3 C dJ6_getChars_ba4f3_47 rfl rfl ?_
        refine j_gets (v := .ref t1) C dJ6_getChars_ba4f3_49 rfl gs_J6_83 hz1 ?_
        refine j_iload 6 C dJ6_getChars_ba4f3_52 rfl rfl ?_
        refine j_tbald C dJ6_getChars_ba4f3_54 rfl ht1 ⟨by omega, by omega⟩ (by omega) (show vi (48 + ((n % 100).toNat % 10 : Nat)) = vi (48 + n % 10) from congrArg vi (by omega)) ?_
        refine j_bast C dJ6_getChars_ba4f3_55 rfl hd ⟨by omega, by omega⟩ (by omega) (z_nb ⟨by omega, by omega⟩) (fun τ17 ee18 => ?_)
        have u19 : has τ17 d (bA (kc κ) cap (ups g (ix + (-1)).toNat (48 + n % 10))) := hd.self' ee18
        have kp20 := kp0.put ee18 rfl
        have dm21 := (dom_put ee18).trans dm0
        refine j_aload_n 2 C dJ6_getChars_ba4f3_56 rfl rfl rfl ?_
        refine j_iinc (y := ix + (-1) + (-1)) (lv' := [(0, vi (-(n / 100))), (1, vi (ix)), (2, .ref d), (5, vi (ix + (-1) + (-1))), (6, vi (0)), (3, vi (-(n / 100))), (4, vi (n % 100))]) 3 [1, 2, 3, 0, 4, 5, 6] C dJ6_getChars_ba4f3_57 rfl rfl rfl rfl rfl ?_
        refine j_iload 3 C dJ6_getChars_ba4f3_60 rfl rfl ?_
        refine j_gets (v := .ref t2) C dJ6_getChars_ba4f3_62 rfl gs_J6_87 hz2 ?_
        refine j_iload 6 C dJ6_getChars_ba4f3_65 rfl rfl ?_
        refine j_tbald C dJ6_getChars_ba4f3_67 rfl ht2 ⟨by omega, by omega⟩ (by omega) (show vi (48 + ((n % 100).toNat / 10 : Nat)) = vi (48 + n / 10 % 10) from congrArg vi (by omega)) ?_
        refine j_bast C dJ6_getChars_ba4f3_68 rfl u19 ⟨by omega, by omega⟩ (by omega) (z_nb ⟨by omega, by omega⟩) (fun τ22 ee23 => ?_)
        have u24 : has τ22 d (bA (kc κ) cap (ups (ups g (ix + (-1)).toNat (48 + n % 10)) (ix + (-1) + (-1)).toNat (48 + n / 10 % 10))) := u19.self' ee23
        have kp25 := kp20.put ee23 rfl
        have dm26 := (dom_put ee23).trans dm21
        refine j_goto (tgt := 22) C dJ6_getChars_ba4f3_69 rfl ?_
        refine j_iload_n 0 C dJ6_getChars_ba4f3_22 rfl rfl rfl ?_
        refine j_bipush C dJ6_getChars_ba4f3_23 rfl (by decide) ?_
        refine j_icmp_gt (tgt := 72) C dJ6_getChars_ba4f3_25 rfl rfl ⟨by omega, by omega⟩ ⟨by omega, by omega⟩ (fun cc27 => ?_) (fun cc27 => ?_)
        · refine j_aload_n 2 C dJ6_getChars_ba4f3_72 rfl rfl rfl ?_
          refine j_iinc (y := ix + (-1) + (-1) + (-1)) (lv' := [(0, vi (-(n / 100))), (1, vi (ix)), (2, .ref d), (5, vi (ix + (-1) + (-1) + (-1))), (6, vi (0)), (3, vi (-(n / 100))), (4, vi (n % 100))]) 3 [1, 2, 3, 0, 4, 5, 6] C dJ6_getChars_ba4f3_73 rfl rfl rfl rfl rfl ?_
          refine j_iload 3 C dJ6_getChars_ba4f3_76 rfl rfl ?_
          refine j_gets (v := .ref t1) C dJ6_getChars_ba4f3_78 rfl gs_J6_83 hz1 ?_
          refine j_iload_n 0 C dJ6_getChars_ba4f3_81 rfl rfl rfl ?_
          refine j_ineg C dJ6_getChars_ba4f3_82 rfl ?_
          refine j_tbald C dJ6_getChars_ba4f3_83 rfl ht1 ⟨by omega, by omega⟩ (by omega) (show vi (48 + ((-(-(n / 100))).toNat % 10 : Nat)) = vi (48 + (n / 100) % 10) from congrArg vi (by omega)) ?_
          refine j_bast C dJ6_getChars_ba4f3_84 rfl u24 ⟨by omega, by omega⟩ (by omega) (z_nb ⟨by omega, by omega⟩) (fun τ28 ee29 => ?_)
          have u30 : has τ28 d (bA (kc κ) cap (ups (ups (ups g (ix + (-1)).toNat (48 + n % 10)) (ix + (-1) + (-1)).toNat (48 + n / 10 % 10)) (ix + (-1) + (-1) + (-1)).toNat (48 + (n / 100) % 10))) := u24.self' ee29
          have kp31 := kp25.put ee29 rfl
          have dm32 := (dom_put ee29).trans dm26
          refine j_iload_n 0 C dJ6_getChars_ba4f3_85 rfl rfl rfl ?_
          refine j_bipush C dJ6_getChars_ba4f3_86 rfl (by decide) ?_
          refine j_icmp_ge (tgt := 104) C dJ6_getChars_ba4f3_88 rfl rfl ⟨by omega, by omega⟩ ⟨by omega, by omega⟩ (fun cc33 => ?_) (fun cc33 => ?_)
          · refine j_iload 4 C dJ6_getChars_ba4f3_104 rfl rfl ?_
            refine j_if_eq (tgt := 118) C dJ6_getChars_ba4f3_106 rfl rfl ⟨by omega, by omega⟩ (fun cc34 => ?_) (fun cc34 => ?_)
            · refine j_iload 3 C dJ6_getChars_ba4f3_118 rfl rfl ?_
              have hsz : sz n = 3 := by unfold sz; rw [if_neg (by omega), if_neg (by omega), if_pos (by omega)]
              rw [hsz] at hix
              have hdg : dg n = [48 + n / 100, 48 + n / 10 % 10, 48 + n % 10] := by unfold dg; rw [if_neg (by omega), if_neg (by omega), if_pos (by omega)]
              have hDg : DgAt g (ups (ups (ups g (ix + (-1)).toNat (48 + n % 10)) (ix + (-1) + (-1)).toNat (48 + n / 10 % 10)) (ix + (-1) + (-1) + (-1)).toNat (48 + (n / 100) % 10)) cap (ix - sz n) n := by
                rw [hsz]; refine ⟨fun i hi => by unfold ups; rw [if_neg (by omega), if_neg (by omega), if_neg (by omega)], fun j hj => ?_, ups_in (ups_in (ups_in (hb7) ⟨by omega, by omega⟩) ⟨by omega, by omega⟩) ⟨by omega, by omega⟩⟩
                rw [hdg] at hj ⊢
                have hj4 : j = 0 ∨ j = 1 ∨ j = 2 := by simp at hj; omega
                rcases hj4 with rfl | rfl | rfl
                · unfold ups; rw [if_pos (by omega)]; simp; try omega
                · unfold ups; rw [if_neg (by omega), if_pos (by omega)]; simp; try omega
                · unfold ups; rw [if_neg (by omega), if_neg (by omega), if_pos (by omega)]; simp; try omega
              exact j_iret C E dJ6_getChars_ba4f3_120 (by omega) (by omega) ⟨congrArg some (congrArg vi (show _ = ix - sz n by rw [hsz]; omega)), _, u30, hDg, kp31, dm32⟩
            · exact absurd cc34 (by decide)
          · refine j_aload_n 2 C dJ6_getChars_ba4f3_91 rfl rfl rfl ?_
            refine j_iinc (y := ix + (-1) + (-1) + (-1) + (-1)) (lv' := [(0, vi (-(n / 100))), (1, vi (ix)), (2, .ref d), (5, vi (ix + (-1) + (-1) + (-1) + (-1))), (6, vi (0)), (3, vi (-(n / 100))), (4, vi (n % 100))]) 3 [1, 2, 3, 0, 4, 5, 6] C dJ6_getChars_ba4f3_92 rfl rfl rfl rfl rfl ?_
            refine j_iload 3 C dJ6_getChars_ba4f3_95 rfl rfl ?_
            refine j_gets (v := .ref t2) C dJ6_getChars_ba4f3_97 rfl gs_J6_87 hz2 ?_
            refine j_iload_n 0 C dJ6_getChars_ba4f3_100 rfl rfl rfl ?_
            refine j_ineg C dJ6_getChars_ba4f3_101 rfl ?_
            refine j_tbald C dJ6_getChars_ba4f3_102 rfl ht2 ⟨by omega, by omega⟩ (by omega) (show vi (48 + ((-(-(n / 100))).toNat / 10 : Nat)) = vi (48 + (n / 100) / 10) from congrArg vi (by omega)) ?_
            refine j_bast C dJ6_getChars_ba4f3_103 rfl u30 ⟨by omega, by omega⟩ (by omega) (z_nb ⟨by omega, by omega⟩) (fun τ35 ee36 => ?_)
            have u37 : has τ35 d (bA (kc κ) cap (ups (ups (ups (ups g (ix + (-1)).toNat (48 + n % 10)) (ix + (-1) + (-1)).toNat (48 + n / 10 % 10)) (ix + (-1) + (-1) + (-1)).toNat (48 + (n / 100) % 10)) (ix + (-1) + (-1) + (-1) + (-1)).toNat (48 + (n / 100) / 10))) := u30.self' ee36
            have kp38 := kp31.put ee36 rfl
            have dm39 := (dom_put ee36).trans dm32
            refine j_iload 4 C dJ6_getChars_ba4f3_104 rfl rfl ?_
            refine j_if_eq (tgt := 118) C dJ6_getChars_ba4f3_106 rfl rfl ⟨by omega, by omega⟩ (fun cc40 => ?_) (fun cc40 => ?_)
            · refine j_iload 3 C dJ6_getChars_ba4f3_118 rfl rfl ?_
              have hsz : sz n = 4 := by unfold sz; rw [if_neg (by omega), if_neg (by omega), if_neg (by omega)]
              rw [hsz] at hix
              have hdg : dg n = [48 + n / 1000, 48 + n / 100 % 10, 48 + n / 10 % 10, 48 + n % 10] := by unfold dg; rw [if_neg (by omega), if_neg (by omega), if_neg (by omega)]
              have hDg : DgAt g (ups (ups (ups (ups g (ix + (-1)).toNat (48 + n % 10)) (ix + (-1) + (-1)).toNat (48 + n / 10 % 10)) (ix + (-1) + (-1) + (-1)).toNat (48 + (n / 100) % 10)) (ix + (-1) + (-1) + (-1) + (-1)).toNat (48 + (n / 100) / 10)) cap (ix - sz n) n := by
                rw [hsz]; refine ⟨fun i hi => by unfold ups; rw [if_neg (by omega), if_neg (by omega), if_neg (by omega), if_neg (by omega)], fun j hj => ?_, ups_in (ups_in (ups_in (ups_in (hb7) ⟨by omega, by omega⟩) ⟨by omega, by omega⟩) ⟨by omega, by omega⟩) ⟨by omega, by omega⟩⟩
                rw [hdg] at hj ⊢
                have hj4 : j = 0 ∨ j = 1 ∨ j = 2 ∨ j = 3 := by simp at hj; omega
                rcases hj4 with rfl | rfl | rfl | rfl
                · unfold ups; rw [if_pos (by omega)]; simp; try omega
                · unfold ups; rw [if_neg (by omega), if_pos (by omega)]; simp; try omega
                · unfold ups; rw [if_neg (by omega), if_neg (by omega), if_pos (by omega)]; simp; try omega
                · unfold ups; rw [if_neg (by omega), if_neg (by omega), if_neg (by omega), if_pos (by omega)]; simp; try omega
              exact j_iret C E dJ6_getChars_ba4f3_120 (by omega) (by omega) ⟨congrArg some (congrArg vi (show _ = ix - sz n by rw [hsz]; omega)), _, u37, hDg, kp38, dm39⟩
            · exact absurd cc40 (by decide)
        · exact absurd cc27 (by omega)
  · exact absurd cc1 (by omega)
set_option maxHeartbeats 4000000 in
set_option maxRecDepth 20000 in
theorem c_append5i (l : Launch) (hfl : l.stackTraces = false) (D : va_G) (cy : Nat → Nat) (σ : Wd) (a d cap : Nat) (cs : List Int) (hR : SbR cy σ a d cap cs) (n : Int) (hn9 : 0 ≤ n ∧ n ≤ 9999) (hle : cs.length ≤ 1900) : Ct l yJ5_append_c97b9 cJ5_append_c97b9 4 (some (.object "java/lang/AbstractStringBuilder")) 3 (gC cap ((cs.length : Int) + sz n)) (gS cap ((cs.length : Int) + sz n)) D cy [.ref a, vi (n)] σ (fun v σ' => v = some (.ref a) ∧ ∃ d' : Nat, SbR cy σ' a d' (capF cap ((cs.length : Int) + sz n)) (cs ++ dg n) ∧ ((d' = d ∧ σ'.1 = σ.1) ∨ (d' ∉ σ.1 ∧ σ'.1 = σ.1 ++ [d'])) ∧ Keep σ σ' (fun x => x = a ∨ x = d)) noX := by
  refine ct_start (by decide +kernel) hfl rfl (fun κ e1 e2 e3 C E NH => ?_)
  subst e1 e2 e3
  have C : Cx κ cJ5_append_c97b9 4 RJ5 "append" 3 := C
  obtain ⟨-, -, -, -, hc, hs⟩ := id E
  show J κ σ [(0, .ref a), (1, vi (n))] 0 [] 0 0
  obtain ⟨ml, g, hS, hn, hg⟩ := id hR
  have hS9 := hS
  obtain ⟨hh, hd, hcp, hb7⟩ := hS
  have hsz := sz_in n
  have hdl := dg_len n
  refine j_aload_n 0 C dJ5_append_c97b9_0 rfl rfl rfl ?_
  refine j_get C dJ5_append_c97b9_1 rfl fg_J5_79 hh rfl ?_
  refine j_istore_n (lv' := [(0, .ref a), (1, vi (n)), (2, vi ((cs.length : Int)))]) [1, 2, 0] C dJ5_append_c97b9_4 rfl rfl rfl rfl ?_
  refine j_iload_n 2 C dJ5_append_c97b9_5 rfl rfl rfl ?_
  refine j_iload_n 1 C dJ5_append_c97b9_6 rfl rfl rfl ?_
  refine j_callS (st' := [vi ((cs.length : Int))]) (As := [vi (n)]) C dJ5_append_c97b9_7 rfl m_J5_245 rfl rfl (c_stringSize (kL κ) hfl (kD κ) (kc κ) σ n hn9) rfl (by omega) (by omega) (by omega) (fun _ _ hx => hx.elim) (fun v2 τ1 hp3 => ?_)
  obtain ⟨rfl, hs9⟩ := hp3
  replace hs9 := hs9.symm
  subst hs9
  show J κ σ [(0, .ref a), (1, vi (n)), (2, vi ((cs.length : Int)))] 10 [vi (sz n), vi ((cs.length : Int))] _ _
  refine j_iadd C dJ5_append_c97b9_10 rfl ?_
  refine j_istore_n (lv' := [(0, .ref a), (1, vi (n)), (2, vi ((cs.length : Int))), (3, vi ((cs.length : Int) + (sz n)))]) [1, 2, 3, 0] C dJ5_append_c97b9_11 rfl rfl rfl rfl ?_
  refine j_aload_n 0 C dJ5_append_c97b9_12 rfl rfl rfl ?_
  refine j_iload_n 3 C dJ5_append_c97b9_13 rfl rfl rfl ?_
  refine j_callV (st' := []) (As := [vi ((cs.length : Int) + (sz n))]) C dJ5_append_c97b9_14 rfl m_J5_100 hh rfl rfl rfl (c_ensure (kL κ) hfl (kD κ) (kc κ) σ a d cap ml cs.length g hS9 ((cs.length : Int) + sz n) ⟨by omega, by omega, by omega⟩) rfl (by omega) (by omega) (by omega) (fun _ _ hx => hx.elim) (fun v5 τ4 hp6 => ?_)
  obtain ⟨rfl, d', g', hS1, hgg, hdd, hk1⟩ := hp6
  show J κ τ4 [(0, .ref a), (1, vi (n)), (2, vi ((cs.length : Int))), (3, vi ((cs.length : Int) + (sz n)))] 17 [] (0 + gC cap ((cs.length : Int) + sz n)) (0 + gS cap ((cs.length : Int) + sz n))
  have hcl : ((cs.length : Int) + sz n) ≤ (capF cap ((cs.length : Int) + sz n) : Int) ∧ cap ≤ capF cap ((cs.length : Int) + sz n) := capF_le (by omega)
  obtain ⟨cap1, hcap1⟩ : ∃ z, capF cap ((cs.length : Int) + sz n) = z := ⟨_, rfl⟩
  rw [hcap1] at hS1 hcl E
  have hS2 := hS1
  obtain ⟨hh1, hd1, hcp1, hb71⟩ := hS1
  have kp0 : Keep τ4 τ4 (fun x => x = a ∨ x = d') := Keep.rf
  have dm0 : τ4.1 = τ4.1 := rfl
  refine j_aload_n 0 C dJ5_append_c97b9_17 rfl rfl rfl ?_
  refine j_callV (st' := []) (As := []) C dJ5_append_c97b9_18 rfl m_J5_83 hh1 rfl rfl rfl (c_isLatin1 (kL κ) hfl (kD κ) (kc κ) τ4 a d' cap1 ml cs.length g' hS2) rfl (by omega) (by omega) (by omega) (fun _ _ hx => hx.elim) (fun v8 τ7 hp9 => ?_)
  obtain ⟨rfl, hs9⟩ := hp9
  replace hs9 := hs9.symm
  subst hs9
  show J κ τ4 [(0, .ref a), (1, vi (n)), (2, vi ((cs.length : Int))), (3, vi ((cs.length : Int) + (sz n)))] 21 [vi (1)] _ _
  refine j_if_eq (tgt := 37) C dJ5_append_c97b9_21 rfl rfl ⟨by omega, by omega⟩ (fun cc10 => ?_) (fun cc10 => ?_)
  · exact absurd cc10 (by decide)
  · refine j_iload_n 1 C dJ5_append_c97b9_24 rfl rfl rfl ?_
    refine j_iload_n 3 C dJ5_append_c97b9_25 rfl rfl rfl ?_
    refine j_aload_n 0 C dJ5_append_c97b9_26 rfl rfl rfl ?_
    refine j_get C dJ5_append_c97b9_27 rfl fg_J5_15 hh1 rfl ?_
    refine j_callS (st' := []) (As := [vi (n), vi ((cs.length : Int) + (sz n)), .ref d']) C dJ5_append_c97b9_30 rfl m_J5_248 rfl rfl (c_getChars (kL κ) hfl (kD κ) (kc κ) τ4 n ((cs.length : Int) + sz n) d' cap1 g' hd1 hb71 hn9 ⟨by omega, by omega⟩ (by omega)) rfl (by omega) (by omega) (by omega) (fun _ _ hx => hx.elim) (fun v12 τ11 hp13 => ?_)
    obtain ⟨rfl, g2, hd2, hD2, hk2, hm2⟩ := hp13
    have hh2 := hk2 _ _ hh1 (hh1.nk hd1 rfl)
    have kp5 : Keep τ4 τ11 (fun x => x = a ∨ x = d') := hk2.mono (fun _ z => Or.inr z)
    show J κ τ11 [(0, .ref a), (1, vi (n)), (2, vi ((cs.length : Int))), (3, vi ((cs.length : Int) + (sz n)))] 33 [vi (((cs.length : Int) + sz n - sz n))] (0 + gC cap ((cs.length : Int) + sz n)) (0 + gS cap ((cs.length : Int) + sz n))
    refine j_pop C dJ5_append_c97b9_33 rfl rfl ?_
    refine j_goto (tgt := 48) C dJ5_append_c97b9_34 rfl ?_
    refine j_aload_n 0 C dJ5_append_c97b9_48 rfl rfl rfl ?_
    refine j_iload_n 3 C dJ5_append_c97b9_49 rfl rfl rfl ?_
    refine j_put (fs' := [.ref d', vi (0), vi (ml), vi ((cs.length : Int) + (sz n))]) C dJ5_append_c97b9_50 rfl fa_J5_79 hh2 rfl rfl rfl rfl (fun τ14 ee15 => ?_)
    have u16 : has τ14 a (.inr (8, [.ref d', vi (0), vi (ml), vi ((cs.length : Int) + (sz n))])) := hh2.self' ee15
    have u17 := hd2.ne' ee15 (hd2.nk hh2 rfl)
    have kp18 := kp5.put ee15 (Or.inl rfl)
    have dm19 := (dom_put ee15).trans hm2
    refine j_aload_n 0 C dJ5_append_c97b9_53 rfl rfl rfl ?_
    obtain ⟨hD3, hD4, hD5⟩ := hD2
    exact j_aret C E dJ5_append_c97b9_54 (Or.inl ⟨_, rfl⟩) (by omega) (by omega) ⟨rfl, d', ⟨ml, _, ⟨by rw [show (((cs ++ dg n).length : Nat) : Int) = (cs.length : Int) + sz n by rw [List.length_append]; omega]; exact u16, u17, hcp1, hD5⟩, by rw [List.length_append]; omega, getD_app hg (fun i hi => (hD3 i (by omega)).trans (hgg i (by omega))) (fun j hj => by have h9 := hD4 j hj; rw [show ((cs.length : Int) + sz n - sz n).toNat = cs.length by omega] at h9; exact h9)⟩, hdd.elim (fun z => Or.inl ⟨z.1, dm19.trans z.2⟩) (fun z => Or.inr ⟨z.1, dm19.trans z.2⟩), (hk1.mono (fun x z => Or.inl z)).tr2 kp18 (fun x z => z.elim (fun z => Or.inl (Or.inl z)) (fun z => hdd.elim (fun y => Or.inl (Or.inr (z.trans y.1))) (fun y => Or.inr (by rw [z]; exact y.1))))⟩
set_option maxHeartbeats 4000000 in
set_option maxRecDepth 20000 in
theorem c_appendI (l : Launch) (hfl : l.stackTraces = false) (D : va_G) (cy : Nat → Nat) (σ : Wd) (a d cap : Nat) (cs : List Int) (hR : SbR cy σ a d cap cs) (n : Int) (hn9 : 0 ≤ n ∧ n ≤ 9999) (hle : cs.length ≤ 1900) : Ct l yJ4_append_bf812 cJ4_append_bf812 2 (some (.object "java/lang/StringBuilder")) 4 (gC cap ((cs.length : Int) + sz n)) (gS cap ((cs.length : Int) + sz n)) D cy [.ref a, vi (n)] σ (fun v σ' => v = some (.ref a) ∧ ∃ d' : Nat, SbR cy σ' a d' (capF cap ((cs.length : Int) + sz n)) (cs ++ dg n) ∧ ((d' = d ∧ σ'.1 = σ.1) ∨ (d' ∉ σ.1 ∧ σ'.1 = σ.1 ++ [d'])) ∧ Keep σ σ' (fun x => x = a ∨ x = d)) noX := by
  refine ct_start (by decide +kernel) hfl rfl (fun κ e1 e2 e3 C E NH => ?_)
  subst e1 e2 e3
  have C : Cx κ cJ4_append_bf812 2 RJ4 "append" 4 := C
  obtain ⟨-, -, -, -, hc, hs⟩ := id E
  show J κ σ [(0, .ref a), (1, vi (n))] 0 [] 0 0
  obtain ⟨ml9, g9, hS9, -⟩ := id hR
  obtain ⟨hh9, -⟩ := hS9
  refine j_aload_n 0 C dJ4_append_bf812_0 rfl rfl rfl ?_
  refine j_iload_n 1 C dJ4_append_bf812_1 rfl rfl rfl ?_
  refine j_callU (st' := []) (As := [vi (n)]) C dJ4_append_bf812_2 rfl m_J4_53 hh9 rfl rfl rfl (c_append5i (kL κ) hfl (kD κ) (kc κ) σ a d cap cs hR n hn9 hle) rfl (by omega) (by omega) (by omega) (fun _ _ hx => hx.elim) (fun v2 τ1 hp3 => ?_)
  obtain ⟨rfl, h9⟩ := hp3
  show J κ τ1 [(0, .ref a), (1, vi (n))] 5 [.ref a] (0 + gC cap ((cs.length : Int) + sz n)) (0 + gS cap ((cs.length : Int) + sz n))
  refine j_pop C dJ4_append_bf812_5 rfl rfl ?_
  refine j_aload_n 0 C dJ4_append_bf812_6 rfl rfl rfl ?_
  exact j_aret C E dJ4_append_bf812_7 (Or.inl ⟨_, rfl⟩) (by omega) (by omega) ⟨rfl, h9⟩
set_option maxHeartbeats 4000000 in
set_option maxRecDepth 20000 in
theorem c_sbInit5 (l : Launch) (hfl : l.stackTraces = false) (D : va_G) (cy : Nat → Nat) (σ : Wd) (a : Nat) (hh : has σ a (.inr (8, [.null, vi 0, vi 0, vi 0]))) : Ct l yJ5_init_d00df cJ5_init_d00df 2 none 0 1 16 D cy [.ref a, vi (16)] σ (fun v σ' => v = none ∧ ∃ d : Nat, SbR cy σ' a d 16 [] ∧ d ∉ σ.1 ∧ Keep σ σ' (fun x => x = a) ∧ σ'.1 = σ.1 ++ [d]) noX := by
  refine ct_start (by decide +kernel) hfl rfl (fun κ e1 e2 e3 C E NH => ?_)
  subst e1 e2 e3
  have C : Cx κ cJ5_init_d00df 2 RJ5 "<init>" 0 := C
  obtain ⟨-, -, -, -, hc, hs⟩ := id E
  show J κ σ [(0, .ref a), (1, vi (16))] 0 [] 0 0
  have kp0 : Keep σ σ (fun x => x = a) := Keep.rf
  have dm0 : σ.1 = σ.1 := rfl
  refine j_aload_n 0 C dJ5_init_d00df_0 rfl rfl rfl ?_
  refine j_objInit C dJ5_init_d00df_1 rfl oi_J5_3 oi_in oi_co (Nat.le_of_ble_eq_true rfl) ?_
  refine j_gets (v := vi (1)) C dJ5_init_d00df_4 rfl gs_J5_18 C.go.2.1.1 ?_
  refine j_if_eq (tgt := 25) C dJ5_init_d00df_7 rfl rfl ⟨by omega, by omega⟩ (fun cc1 => ?_) (fun cc1 => ?_)
  · exact absurd cc1 (by decide)
  · refine j_aload_n 0 C dJ5_init_d00df_10 rfl rfl rfl ?_
    refine j_iload_n 1 C dJ5_init_d00df_11 rfl rfl rfl ?_
    refine j_newB C dJ5_init_d00df_12 rfl aw_byte ⟨by omega, by omega⟩ (by omega) (by omega) (k' := 1) (n' := 16) (by first | rfl | omega) (by first | rfl | omega) (fun d τ2 nq4 ee3 => ?_)
    have u5 := hh.old' ee3 nq4
    have u6 : has τ2 d (bA (kc κ) 16 (fun _ => 0)) := has.fresh' ee3
    have kp7 := kp0.new ee3 nq4
    have dm8 := (dom_new ee3).trans (congrArg (· ++ [d]) dm0)
    have nnd : d ∉ σ.1 := fun z => nq4 (by rw [dm0]; exact z)
    refine j_put (fs' := [.ref d, vi (0), vi (0), vi (0)]) C dJ5_init_d00df_14 rfl fa_J5_15 u5 rfl rfl rfl rfl (fun τ9 ee10 => ?_)
    have u11 : has τ9 a (.inr (8, [.ref d, vi (0), vi (0), vi (0)])) := u5.self' ee10
    have u12 := u6.ne' ee10 (Ne.symm (hh.apart nq4))
    have kp13 := kp7.put ee10 rfl
    have dm14 := (dom_put ee10).trans dm8
    refine j_aload_n 0 C dJ5_init_d00df_17 rfl rfl rfl ?_
    refine j_iconst C dJ5_init_d00df_18 rfl ?_
    refine j_put (fs' := [.ref d, vi (0), vi (0), vi (0)]) C dJ5_init_d00df_19 rfl fa_J5_22 u11 rfl rfl rfl rfl (fun τ15 ee16 => ?_)
    have u17 : has τ15 a (.inr (8, [.ref d, vi (0), vi (0), vi (0)])) := u11.self' ee16
    have u18 := u12.ne' ee16 (Ne.symm (hh.apart nq4))
    have kp19 := kp13.put ee16 rfl
    have dm20 := (dom_put ee16).trans dm14
    refine j_goto (tgt := 38) C dJ5_init_d00df_22 rfl ?_
    exact j_vret C E dJ5_init_d00df_38 (by omega) (by omega) ⟨rfl, d, ⟨0, _, ⟨u17, u18, ⟨by decide, by decide⟩, fun i hi => ⟨by decide, by decide⟩⟩, Nat.zero_le _, fun i hi => absurd hi (Nat.not_lt_zero _)⟩, nnd, kp19, dm20⟩
set_option maxHeartbeats 4000000 in
set_option maxRecDepth 20000 in
theorem c_sbInit (l : Launch) (hfl : l.stackTraces = false) (D : va_G) (cy : Nat → Nat) (σ : Wd) (a : Nat) (hh : has σ a (.inr (8, [.null, vi 0, vi 0, vi 0]))) : Ct l yJ4_init_da8c8 cJ4_init_da8c8 1 none 1 1 16 D cy [.ref a] σ (fun v σ' => v = none ∧ ∃ d : Nat, SbR cy σ' a d 16 [] ∧ d ∉ σ.1 ∧ Keep σ σ' (fun x => x = a) ∧ σ'.1 = σ.1 ++ [d]) noX := by
  refine ct_start (by decide +kernel) hfl rfl (fun κ e1 e2 e3 C E NH => ?_)
  subst e1 e2 e3
  have C : Cx κ cJ4_init_da8c8 1 RJ4 "<init>" 1 := C
  obtain ⟨-, -, -, -, hc, hs⟩ := id E
  show J κ σ [(0, .ref a)] 0 [] 0 0
  refine j_aload_n 0 C dJ4_init_da8c8_0 rfl rfl rfl ?_
  refine j_bipush C dJ4_init_da8c8_1 rfl (by decide) ?_
  refine j_callI (st' := []) (As := [vi (16)]) C dJ4_init_da8c8_3 rfl m_J4_1 rfl rfl (c_sbInit5 (kL κ) hfl (kD κ) (kc κ) σ a hh) rfl (by omega) (by omega) (by omega) (fun _ _ hx => hx.elim) (fun v2 τ1 hp3 => ?_)
  obtain ⟨rfl, h9⟩ := hp3
  show J κ τ1 [(0, .ref a)] 6 [] 1 16
  exact j_vret C E dJ4_init_da8c8_6 (by omega) (by omega) ⟨rfl, h9⟩
