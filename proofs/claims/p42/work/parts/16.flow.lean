/-! Flow: going along the bushels of a bin -/
def Lin (f : Ly → Int) : Prop := ∀ (a b : Int) (y : Int × Int × Int), f (a + b, y) = f (a, y) + f (b, y)
theorem Lin.z {f : Ly → Int} (h : Lin f) (y : Int × Int × Int) : f (0, y) = 0 := by
  have h1 := h 0 0 y
  rw [Int.add_zero] at h1
  omega
def cf (pf : Nat → Int) : Ly → Int := fun x => x.1 * pf x.2.2.2.toNat
def wf : Ly → Int := fun x => x.1 * x.2.1
def df : Ly → Int := fun x => x.1 * x.2.2.1
theorem lin_n : Lin (fun x => x.1) := fun _ _ _ => rfl
theorem lin_c (pf : Nat → Int) : Lin (cf pf) := fun a b y => Int.add_mul a b _
theorem lin_w : Lin wf := fun a b y => Int.add_mul a b _
theorem lin_d : Lin df := fun a b y => Int.add_mul a b _
/-- a sum over i layers, and u bushels of the next one -/
def S (f : Ly → Int) (L : List Ly) (i u : Int) : Int := sumL f (L.take i.toNat) + f (u, (lyAt L i).2)
theorem take_S {f : Ly → Int} (hf : Lin f) : ∀ (L : List Ly) (i : Nat) (u : Int), lysOk L → i ≤ L.length → 0 ≤ u → (i < L.length → u < (L.getD i (0, 0, 0, 0)).1) → (i = L.length → u = 0) → sumL f (takeL (sumL (fun x => x.1) (L.take i) + u) L) = sumL f (L.take i) + f (u, (L.getD i (0, 0, 0, 0)).2)
  | [], i, u, _, hi, _, _, he => by
    have hi0 : i = 0 := by simpa using hi
    subst hi0
    rw [he rfl]
    simp [takeL, sumL, hf.z]
  | x :: l, 0, u, hok, _, hu, hlt, _ => by
    have h1 : u < x.1 := hlt (by simp)
    simp only [List.take_zero, sumL, Int.zero_add]
    rw [takeL]
    by_cases h0 : u ≤ 0
    · rw [if_pos h0, show u = 0 by omega]
      simp [sumL, hf.z]
    · rw [if_neg h0, if_pos h1]
      simp [sumL]
  | x :: l, i + 1, u, hok, hi, hu, hlt, he => by
    have hx := (hok x List.mem_cons_self).1
    have hol : lysOk l := fun y hy => hok y (List.mem_cons_of_mem _ hy)
    have ih := take_S hf l i u hol (by simpa using hi) hu (fun h => by simpa using hlt (by simpa using h)) (fun h => he (by simp [h]))
    have h0 : 0 ≤ sumL (fun x => x.1) (l.take i) := sumL_0 (fun y hy => by have := (hol y (List.mem_of_mem_take hy)).1; omega)
    rw [List.take_succ_cons]
    simp only [sumL]
    rw [takeL, if_neg (by omega), if_neg (by omega), show x.1 + sumL (fun x => x.1) (l.take i) + u - x.1 = sumL (fun x => x.1) (l.take i) + u by omega]
    simp only [sumL, List.getD_cons_succ]
    omega
def FPos (L : List Ly) (i u k : Int) : Prop := (0 ≤ i ∧ i ≤ (L.length : Int)) ∧ 0 ≤ u ∧ (i < (L.length : Int) → u < (lyAt L i).1) ∧ (i = (L.length : Int) → u = 0) ∧ S (fun x => x.1) L i u = k
theorem S_take {f : Ly → Int} (hf : Lin f) {L : List Ly} {i u k : Int} (hok : lysOk L) (h : FPos L i u k) : sumL f (takeL k L) = S f L i u := by
  obtain ⟨⟨h1, h2⟩, h3, h4, h5, h6⟩ := h
  subst h6
  exact take_S hf L i.toNat u hok (by omega) h3 (fun q => h4 (by omega)) (fun q => h5 (by omega))
theorem S_add {f : Ly → Int} (hf : Lin f) (L : List Ly) (i u p : Int) : S f L i (u + p) = S f L i u + f (p, (lyAt L i).2) := by
  unfold S
  rw [hf]
  omega
theorem S_next {f : Ly → Int} (hf : Lin f) {L : List Ly} {i : Int} (h0 : 0 ≤ i) (h1 : i < (L.length : Int)) : S f L i (lyAt L i).1 = S f L (i + 1) 0 := by
  unfold S
  rw [sum_take f h0 h1, hf.z]
  show _ + f (lyAt L i) = _
  omega
theorem take_le (L : List Ly) (h : lysOk L) (n : Nat) : sumL (fun x => x.1) (L.take n) ≤ tot L := by
  have h1 := sumL_app (fun x : Ly => x.1) (L.take n) (L.drop n)
  rw [List.take_append_drop] at h1
  have h2 : 0 ≤ sumL (fun x => x.1) (L.drop n) := sumL_0 (fun y hy => by have := (h y (List.mem_of_mem_drop hy)).1; omega)
  unfold tot
  omega
theorem FPos.in {L : List Ly} {i u k : Int} (hok : lysOk L) (h : FPos L i u k) : 0 ≤ k ∧ k ≤ tot L ∧ (i = (L.length : Int) → k = tot L) ∧ (k = 0 → i = 0 ∧ u = 0) ∧ u ≤ 2000 := by
  obtain ⟨⟨h1, h2⟩, h3, h4, h5, h6⟩ := h
  have a0 : 0 ≤ sumL (fun x => x.1) (L.take i.toNat) := sumL_0 (fun y hy => by have := (hok y (List.mem_of_mem_take hy)).1; omega)
  have al := tot_len (l := L.take i.toNat) (fun y hy => hok y (List.mem_of_mem_take hy))
  rw [List.length_take] at al
  unfold tot at al
  unfold S at h6
  dsimp only at h6
  rcases Int.lt_or_eq_of_le h2 with q | q
  · have hx := (lyAt_ok hok h1 q).1
    have h9 := take_le L hok (i + 1).toNat
    rw [sum_take _ h1 q] at h9
    have := h4 q
    exact ⟨by omega, by omega, by omega, fun z => ⟨by omega, by omega⟩, by omega⟩
  · have := h5 q
    have h9 := take_le L hok i.toNat
    have h8 : sumL (fun x => x.1) (L.take i.toNat) = tot L := sum_take_all _ (by omega)
    exact ⟨by omega, by omega, fun _ => by omega, fun z => ⟨by omega, by omega⟩, by omega⟩
def FlS (σ : Wd) (a b p : Nat) (pf : Nat → Int) (L : List Ly) (i u : Int) : Prop := has σ a (.inr (3, [.ref b, .ref p, vi i, vi u, vi (S (cf pf) L i u), vi (S wf L i u), vi (S df L i u)]))
/-- a flow that has gone along k bushels -/
def FlowR (σ : Wd) (a b p : Nat) (pf : Nat → Int) (L : List Ly) (k : Int) : Prop := ∃ i u : Int, has σ a (.inr (3, [.ref b, .ref p, vi i, vi u, vi (sumL (cf pf) (takeL k L)), vi (sumL wf (takeL k L)), vi (sumL df (takeL k L))])) ∧ FPos L i u k
theorem FlowR.s {σ : Wd} {a b p : Nat} {pf : Nat → Int} {L : List Ly} {k : Int} (hok : lysOk L) (h : FlowR σ a b p pf L k) : ∃ i u : Int, FlS σ a b p pf L i u ∧ FPos L i u k := by
  obtain ⟨i, u, h, hp⟩ := h
  rw [S_take (lin_c pf) hok hp, S_take lin_w hok hp, S_take lin_d hok hp] at h
  exact ⟨i, u, h, hp⟩
theorem FlS.r {σ : Wd} {a b p : Nat} {pf : Nat → Int} {L : List Ly} {i u k : Int} (hok : lysOk L) (h : FlS σ a b p pf L i u) (hp : FPos L i u k) : FlowR σ a b p pf L k := by
  refine ⟨i, u, ?_, hp⟩
  rw [S_take (lin_c pf) hok hp, S_take lin_w hok hp, S_take lin_d hok hp]
  exact h
theorem FlowR.keep {σ σ' : Wd} {a b p : Nat} {pf : Nat → Int} {L : List Ly} {k : Int} {F : Nat → Prop} (h : FlowR σ a b p pf L k) (hk : Keep σ σ' F) (hF : ¬ F a) : FlowR σ' a b p pf L k := by
  obtain ⟨i, u, h, hp⟩ := h
  exact ⟨i, u, hk _ _ h hF, hp⟩
theorem FPos.zero {L : List Ly} (hok : lysOk L) : FPos L 0 0 0 := by
  refine ⟨⟨by omega, by omega⟩, by omega, fun h => ?_, fun _ => rfl, rfl⟩
  have := (lyAt_ok hok (i := 0) (by omega) h).1
  omega
theorem BinR.nk {cy : Nat → Nat} {σ : Wd} {h q1 q2 q3 q4 : Nat} {b : Bn} {a ci : Nat} {fs : List Value} (hB : BinR cy σ h q1 q2 q3 q4 b) (ha : has σ a (.inr (ci, fs))) (h0 : (0 == ci) = false) (h1 : (100 == ci) = false) : ∀ x, inB h q1 q2 q3 q4 x → ¬ x = a := by
  obtain ⟨old, g1, g2, g3, g4, ⟨c1, ⟨c2, c3, c4, c5⟩, -⟩, -⟩ := hB
  intro x hx
  rcases hx with rfl | rfl | rfl | rfl | rfl
  · exact c1.nk ha h0
  · exact c2.nk ha h1
  · exact c3.nk ha h1
  · exact c4.nk ha h1
  · exact c5.nk ha h1

set_option maxHeartbeats 4000000 in
set_option maxRecDepth 20000 in
theorem c_flowInit (l : Launch) (hfl : l.stackTraces = false) (D : va_G) (cy : Nat → Nat) (σ : Wd) (h q1 q2 q3 q4 : Nat) (cap : Int) (mf : Bool) (ly : List Ly) (hB : BinR cy σ h q1 q2 q3 q4 (cap, mf, ly)) (a p : Nat) (pf : Nat → Int) (hp : has σ p (iA cy 5 pf)) (hh9 : has σ a (.inr (3, [.null, .null, vi 0, vi 0, vi 0, vi 0, vi 0]))) : Ct l yX3_init cX3_init 3 none 0 0 0 D cy [.ref a, .ref h, .ref p] σ (fun v σ' => v = none ∧ FlowR σ' a h p pf (fl (cap, mf, ly)) 0 ∧ Keep σ σ' (fun x => x = a) ∧ σ'.1 = σ.1) noX := by
  refine ct_start (by decide +kernel) hfl rfl (fun κ e1 e2 e3 C E NH => ?_)
  subst e1 e2 e3
  have C : Cx κ cX3_init 3 RX3 "<init>" 0 := C
  obtain ⟨-, -, -, -, hc, hs⟩ := id E
  show J κ σ [(0, .ref a), (1, .ref h), (2, .ref p)] 0 [] 0 0
  have hB9 := hB
  obtain ⟨old, g1, g2, g3, g4, ⟨hh, ⟨h1, h2, h3, h4⟩, hne⟩, ho, hcn, hly, hok⟩ := hB
  dsimp only at hh ho hcn hly hok
  have kp0 : Keep σ σ (fun x => x = a) := Keep.rf
  have dm0 : σ.1 = σ.1 := rfl
  refine j_aload_n 0 C dX3_init_0 rfl rfl rfl ?_
  refine j_objInit C dX3_init_1 rfl oi_X3_1 oi_in oi_co (Nat.le_of_ble_eq_true rfl) ?_
  refine j_aload_n 0 C dX3_init_4 rfl rfl rfl ?_
  refine j_iconst C dX3_init_5 rfl ?_
  refine j_put (fs' := [.null, .null, vi (0), vi (0), vi (0), vi (0), vi (0)]) C dX3_init_6 rfl fa_X3_7 hh9 rfl rfl rfl rfl (fun τ1 ee2 => ?_)
  have u3 := hh.ne' ee2 (hh.nk hh9 rfl)
  have u4 : has τ1 a (.inr (3, [.null, .null, vi (0), vi (0), vi (0), vi (0), vi (0)])) := hh9.self' ee2
  have u5 := hp.ne' ee2 (hp.nk hh9 rfl)
  have kp6 := kp0.put ee2 rfl
  have dm7 := (dom_put ee2).trans dm0
  refine j_aload_n 0 C dX3_init_9 rfl rfl rfl ?_
  refine j_iconst C dX3_init_10 rfl ?_
  refine j_put (fs' := [.null, .null, vi (0), vi (0), vi (0), vi (0), vi (0)]) C dX3_init_11 rfl fa_X3_13 u4 rfl rfl rfl rfl (fun τ8 ee9 => ?_)
  have u10 := u3.ne' ee9 (u3.nk u4 rfl)
  have u11 : has τ8 a (.inr (3, [.null, .null, vi (0), vi (0), vi (0), vi (0), vi (0)])) := u4.self' ee9
  have u12 := u5.ne' ee9 (u5.nk u4 rfl)
  have kp13 := kp6.put ee9 rfl
  have dm14 := (dom_put ee9).trans dm7
  refine j_aload_n 0 C dX3_init_14 rfl rfl rfl ?_
  refine j_iconst C dX3_init_15 rfl ?_
  refine j_put (fs' := [.null, .null, vi (0), vi (0), vi (0), vi (0), vi (0)]) C dX3_init_16 rfl fa_X3_16 u11 rfl rfl rfl rfl (fun τ15 ee16 => ?_)
  have u17 := u10.ne' ee16 (u10.nk u11 rfl)
  have u18 : has τ15 a (.inr (3, [.null, .null, vi (0), vi (0), vi (0), vi (0), vi (0)])) := u11.self' ee16
  have u19 := u12.ne' ee16 (u12.nk u11 rfl)
  have kp20 := kp13.put ee16 rfl
  have dm21 := (dom_put ee16).trans dm14
  refine j_aload_n 0 C dX3_init_19 rfl rfl rfl ?_
  refine j_iconst C dX3_init_20 rfl ?_
  refine j_put (fs' := [.null, .null, vi (0), vi (0), vi (0), vi (0), vi (0)]) C dX3_init_21 rfl fa_X3_19 u18 rfl rfl rfl rfl (fun τ22 ee23 => ?_)
  have u24 := u17.ne' ee23 (u17.nk u18 rfl)
  have u25 : has τ22 a (.inr (3, [.null, .null, vi (0), vi (0), vi (0), vi (0), vi (0)])) := u18.self' ee23
  have u26 := u19.ne' ee23 (u19.nk u18 rfl)
  have kp27 := kp20.put ee23 rfl
  have dm28 := (dom_put ee23).trans dm21
  refine j_aload_n 0 C dX3_init_24 rfl rfl rfl ?_
  refine j_iconst C dX3_init_25 rfl ?_
  refine j_put (fs' := [.null, .null, vi (0), vi (0), vi (0), vi (0), vi (0)]) C dX3_init_26 rfl fa_X3_22 u25 rfl rfl rfl rfl (fun τ29 ee30 => ?_)
  have u31 := u24.ne' ee30 (u24.nk u25 rfl)
  have u32 : has τ29 a (.inr (3, [.null, .null, vi (0), vi (0), vi (0), vi (0), vi (0)])) := u25.self' ee30
  have u33 := u26.ne' ee30 (u26.nk u25 rfl)
  have kp34 := kp27.put ee30 rfl
  have dm35 := (dom_put ee30).trans dm28
  refine j_aload_n 0 C dX3_init_29 rfl rfl rfl ?_
  refine j_aload_n 1 C dX3_init_30 rfl rfl rfl ?_
  refine j_putF (fs' := [.ref h, .null, vi (0), vi (0), vi (0), vi (0), vi (0)]) C dX3_init_31 rfl fa_X3_25 u32 rfl rfl rfl rfl (fun τ36 ee37 => ?_)
  have u38 := u31.ne' ee37 (u31.nk u32 rfl)
  have u39 : has τ36 a (.inr (3, [.ref h, .null, vi (0), vi (0), vi (0), vi (0), vi (0)])) := u32.self' ee37
  have u40 := u33.ne' ee37 (u33.nk u32 rfl)
  have kp41 := kp34.put ee37 rfl
  have dm42 := (dom_put ee37).trans dm35
  refine j_aload_n 0 C dX3_init_34 rfl rfl rfl ?_
  refine j_aload_n 2 C dX3_init_35 rfl rfl rfl ?_
  refine j_putF (fs' := [.ref h, .ref p, vi (0), vi (0), vi (0), vi (0), vi (0)]) C dX3_init_36 rfl fa_X3_29 u39 rfl rfl rfl rfl (fun τ43 ee44 => ?_)
  have u45 := u38.ne' ee44 (u38.nk u39 rfl)
  have u46 : has τ43 a (.inr (3, [.ref h, .ref p, vi (0), vi (0), vi (0), vi (0), vi (0)])) := u39.self' ee44
  have u47 := u40.ne' ee44 (u40.nk u39 rfl)
  have kp48 := kp41.put ee44 rfl
  have dm49 := (dom_put ee44).trans dm42
  exact j_vret C E dX3_init_39 (by omega) (by omega) ⟨rfl, ⟨0, 0, (by rw [takeL_0 (Int.le_refl 0)]; exact u46), FPos.zero (fl_ok (b := (cap, mf, ly)) hok)⟩, kp48, dm49⟩
set_option maxHeartbeats 4000000 in
set_option maxRecDepth 20000 in
theorem c_reckon (l : Launch) (hfl : l.stackTraces = false) (D : va_G) (cy : Nat → Nat) (σ : Wd) (h q1 q2 q3 q4 : Nat) (cap : Int) (mf : Bool) (ly : List Ly) (hB : BinR cy σ h q1 q2 q3 q4 (cap, mf, ly)) (a p : Nat) (pf : Nat → Int) (i u c w d n : Int) (hp : has σ p (iA cy 5 pf)) (hh9 : has σ a (.inr (3, [.ref h, .ref p, vi i, vi u, vi c, vi w, vi d]))) (hi : 0 ≤ i ∧ i < (ly.length : Int)) : Ct l yX3_reckon cX3_reckon 4 none 2 0 0 D cy [.ref a, vi (n)] σ (fun v σ' => v = none ∧ has σ' a (.inr (3, [.ref h, .ref p, vi i, vi (u + n), vi (c + n * pf (lyAt (fl (cap, mf, ly)) i).2.2.2.toNat), vi (w + n * (lyAt (fl (cap, mf, ly)) i).2.1), vi (d + n * (lyAt (fl (cap, mf, ly)) i).2.2.1)])) ∧ Keep σ σ' (fun x => x = a) ∧ σ'.1 = σ.1) noX := by
  refine ct_start (by decide +kernel) hfl rfl (fun κ e1 e2 e3 C E NH => ?_)
  subst e1 e2 e3
  have C : Cx κ cX3_reckon 4 RX3 "reckon" 2 := C
  obtain ⟨-, -, -, -, hc, hs⟩ := id E
  show J κ σ [(0, .ref a), (1, vi (n))] 0 [] 0 0
  have hB9 := hB
  obtain ⟨old, g1, g2, g3, g4, ⟨hh, ⟨h1, h2, h3, h4⟩, hne⟩, ho, hcn, hly, hok⟩ := hB
  dsimp only at hh ho hcn hly hok
  have kp0 : Keep σ σ (fun x => x = a) := Keep.rf
  have dm0 : σ.1 = σ.1 := rfl
  have hx := lyAt_ok (fl_ok (b := (cap, mf, ly)) hok) (i := i) hi.1 (by rw [fl_len]; exact hi.2)
  have hrg := ring_fl (c := cap) (m := mf) hly hi.1 hi.2
  have hsl := slotI_in mf old ly.length i
  obtain ⟨x, hx9⟩ : ∃ x, lyAt (fl (cap, mf, ly)) i = x := ⟨_, rfl⟩
  rw [hx9] at hx hrg E
  obtain ⟨⟨hx1, hx2⟩, ⟨hx3, hx4⟩, ⟨hx5, hx6⟩, hx7, hx8⟩ := hx
  refine j_aload_n 0 C dX3_reckon_0 rfl rfl rfl ?_
  refine j_get C dX3_reckon_1 rfl fg_X3_25 hh9 rfl ?_
  refine j_aload_n 0 C dX3_reckon_4 rfl rfl rfl ?_
  refine j_get C dX3_reckon_5 rfl fg_X3_7 hh9 rfl ?_
  refine j_callV (st' := []) (As := [vi (i)]) C dX3_reckon_8 rfl m_X3_52 hh rfl rfl rfl (c_slotAt (kL κ) hfl (kD κ) (kc κ) σ h q1 q2 q3 q4 cap mf old ly.length (tot ly) i hh ho hi (by omega)) rfl (by omega) (by omega) (by omega) (fun _ _ hx => hx.elim) (fun v2 τ1 hp3 => ?_)
  obtain ⟨rfl, rfl⟩ := hp3
  show J κ τ1 [(0, .ref a), (1, vi (n))] 11 [vi (slotI mf old ly.length i)] _ _
  obtain ⟨sl, hsl9⟩ : ∃ z : Int, slotI mf old ly.length i = z := ⟨_, rfl⟩
  rw [hsl9] at hsl hrg ⊢
  refine j_istore_n (lv' := [(0, .ref a), (1, vi (n)), (2, vi (sl))]) [1, 2, 0] C dX3_reckon_11 rfl rfl rfl rfl ?_
  refine j_aload_n 0 C dX3_reckon_12 rfl rfl rfl ?_
  refine j_get C dX3_reckon_13 rfl fg_X3_25 hh9 rfl ?_
  refine j_get C dX3_reckon_16 rfl fg_X3_55 hh rfl ?_
  refine j_iload_n 2 C dX3_reckon_19 rfl rfl rfl ?_
  obtain ⟨y4, hy4⟩ : ∃ y : Int, g4 sl.toNat = y := ⟨_, rfl⟩
  have ry4 : y4 = x.2.2.2 := hy4.symm.trans (congrArg (fun x : Ly => x.2.2.2) hrg).symm
  refine j_iald C dX3_reckon_20 rfl h4 ⟨by omega, by omega⟩ (by omega) hy4 ?_
  refine j_istore_n (lv' := [(0, .ref a), (1, vi (n)), (2, vi (sl)), (3, vi (y4))]) [1, 2, 3, 0] C dX3_reckon_21 rfl rfl rfl rfl ?_
  refine j_aload_n 0 C dX3_reckon_22 rfl rfl rfl ?_
  refine j_dup C dX3_reckon_23 rfl rfl ?_
  refine j_get C dX3_reckon_24 rfl fg_X3_13 hh9 rfl ?_
  refine j_iload_n 1 C dX3_reckon_27 rfl rfl rfl ?_
  refine j_iadd C dX3_reckon_28 rfl ?_
  refine j_put (fs' := [.ref h, .ref p, vi (i), vi (u + n), vi (c), vi (w), vi (d)]) C dX3_reckon_29 rfl fa_X3_13 hh9 rfl rfl rfl rfl (fun τ5 ee6 => ?_)
  have u7 := hh.ne' ee6 (hh.nk hh9 rfl)
  have u8 := h2.ne' ee6 (h2.nk hh9 rfl)
  have u9 := h3.ne' ee6 (h3.nk hh9 rfl)
  have u10 := h4.ne' ee6 (h4.nk hh9 rfl)
  have u11 : has τ5 a (.inr (3, [.ref h, .ref p, vi (i), vi (u + n), vi (c), vi (w), vi (d)])) := hh9.self' ee6
  have u12 := hp.ne' ee6 (hp.nk hh9 rfl)
  have kp13 := kp0.put ee6 rfl
  have dm14 := (dom_put ee6).trans dm0
  refine j_aload_n 0 C dX3_reckon_32 rfl rfl rfl ?_
  refine j_dup C dX3_reckon_33 rfl rfl ?_
  refine j_get C dX3_reckon_34 rfl fg_X3_16 u11 rfl ?_
  refine j_iload_n 3 C dX3_reckon_37 rfl rfl rfl ?_
  refine j_if_lt (tgt := 61) C dX3_reckon_38 rfl rfl ⟨by omega, by omega⟩ (fun cc15 => ?_) (fun cc15 => ?_)
  · exact absurd cc15 (by omega)
  · refine j_iload_n 3 C dX3_reckon_41 rfl rfl rfl ?_
    refine j_aload_n 0 C dX3_reckon_42 rfl rfl rfl ?_
    refine j_get C dX3_reckon_43 rfl fg_X3_29 u11 rfl ?_
    refine j_alen (i := 2) C dX3_reckon_46 rfl rfl u12 ?_
    refine j_icmp_ge (tgt := 61) C dX3_reckon_47 rfl rfl ⟨by omega, by omega⟩ ⟨by omega, by omega⟩ (fun cc16 => ?_) (fun cc16 => ?_)
    · exact absurd cc16 (by omega)
    · refine j_iload_n 1 C dX3_reckon_50 rfl rfl rfl ?_
      refine j_aload_n 0 C dX3_reckon_51 rfl rfl rfl ?_
      refine j_get C dX3_reckon_52 rfl fg_X3_29 u11 rfl ?_
      refine j_iload_n 3 C dX3_reckon_55 rfl rfl rfl ?_
      obtain ⟨y17, hy17⟩ : ∃ y : Int, pf y4.toNat = y := ⟨_, rfl⟩
      refine j_iald C dX3_reckon_56 rfl u12 ⟨by omega, by omega⟩ (by omega) hy17 ?_
      refine j_imul C dX3_reckon_57 rfl ?_
      refine j_goto (tgt := 62) C dX3_reckon_58 rfl ?_
      refine j_iadd C dX3_reckon_62 rfl ?_
      refine j_put (fs' := [.ref h, .ref p, vi (i), vi (u + n), vi (c + (n * y17)), vi (w), vi (d)]) C dX3_reckon_63 rfl fa_X3_16 u11 rfl rfl rfl rfl (fun τ18 ee19 => ?_)
      have u20 := u7.ne' ee19 (u7.nk u11 rfl)
      have u21 := u8.ne' ee19 (u8.nk u11 rfl)
      have u22 := u9.ne' ee19 (u9.nk u11 rfl)
      have u23 := u10.ne' ee19 (u10.nk u11 rfl)
      have u24 : has τ18 a (.inr (3, [.ref h, .ref p, vi (i), vi (u + n), vi (c + (n * y17)), vi (w), vi (d)])) := u11.self' ee19
      have u25 := u12.ne' ee19 (hp.nk hh9 rfl)
      have kp26 := kp13.put ee19 rfl
      have dm27 := (dom_put ee19).trans dm14
      refine j_aload_n 0 C dX3_reckon_66 rfl rfl rfl ?_
      refine j_dup C dX3_reckon_67 rfl rfl ?_
      refine j_get C dX3_reckon_68 rfl fg_X3_19 u24 rfl ?_
      refine j_iload_n 1 C dX3_reckon_71 rfl rfl rfl ?_
      refine j_aload_n 0 C dX3_reckon_72 rfl rfl rfl ?_
      refine j_get C dX3_reckon_73 rfl fg_X3_25 u24 rfl ?_
      refine j_get C dX3_reckon_76 rfl fg_X3_58 u20 rfl ?_
      refine j_iload_n 2 C dX3_reckon_79 rfl rfl rfl ?_
      obtain ⟨y28, hy28⟩ : ∃ y : Int, g2 sl.toNat = y := ⟨_, rfl⟩
      have ry28 : y28 = x.2.1 := hy28.symm.trans (congrArg (fun x : Ly => x.2.1) hrg).symm
      refine j_iald C dX3_reckon_80 rfl u21 ⟨by omega, by omega⟩ (by omega) hy28 ?_
      refine j_imul C dX3_reckon_81 rfl ?_
      refine j_iadd C dX3_reckon_82 rfl ?_
      refine j_put (fs' := [.ref h, .ref p, vi (i), vi (u + n), vi (c + (n * y17)), vi (w + (n * y28)), vi (d)]) C dX3_reckon_83 rfl fa_X3_19 u24 rfl rfl rfl rfl (fun τ29 ee30 => ?_)
      have u31 := u20.ne' ee30 (u20.nk u24 rfl)
      have u32 := u21.ne' ee30 (u21.nk u24 rfl)
      have u33 := u22.ne' ee30 (u22.nk u24 rfl)
      have u34 := u23.ne' ee30 (u23.nk u24 rfl)
      have u35 : has τ29 a (.inr (3, [.ref h, .ref p, vi (i), vi (u + n), vi (c + (n * y17)), vi (w + (n * y28)), vi (d)])) := u24.self' ee30
      have u36 := u25.ne' ee30 (hp.nk hh9 rfl)
      have kp37 := kp26.put ee30 rfl
      have dm38 := (dom_put ee30).trans dm27
      refine j_aload_n 0 C dX3_reckon_86 rfl rfl rfl ?_
      refine j_dup C dX3_reckon_87 rfl rfl ?_
      refine j_get C dX3_reckon_88 rfl fg_X3_22 u35 rfl ?_
      refine j_iload_n 1 C dX3_reckon_91 rfl rfl rfl ?_
      refine j_aload_n 0 C dX3_reckon_92 rfl rfl rfl ?_
      refine j_get C dX3_reckon_93 rfl fg_X3_25 u35 rfl ?_
      refine j_get C dX3_reckon_96 rfl fg_X3_61 u31 rfl ?_
      refine j_iload_n 2 C dX3_reckon_99 rfl rfl rfl ?_
      obtain ⟨y39, hy39⟩ : ∃ y : Int, g3 sl.toNat = y := ⟨_, rfl⟩
      have ry39 : y39 = x.2.2.1 := hy39.symm.trans (congrArg (fun x : Ly => x.2.2.1) hrg).symm
      refine j_iald C dX3_reckon_100 rfl u33 ⟨by omega, by omega⟩ (by omega) hy39 ?_
      refine j_imul C dX3_reckon_101 rfl ?_
      refine j_iadd C dX3_reckon_102 rfl ?_
      refine j_put (fs' := [.ref h, .ref p, vi (i), vi (u + n), vi (c + (n * y17)), vi (w + (n * y28)), vi (d + (n * y39))]) C dX3_reckon_103 rfl fa_X3_22 u35 rfl rfl rfl rfl (fun τ40 ee41 => ?_)
      have u42 := u31.ne' ee41 (u31.nk u35 rfl)
      have u43 := u32.ne' ee41 (u32.nk u35 rfl)
      have u44 := u33.ne' ee41 (u33.nk u35 rfl)
      have u45 := u34.ne' ee41 (u34.nk u35 rfl)
      have u46 : has τ40 a (.inr (3, [.ref h, .ref p, vi (i), vi (u + n), vi (c + (n * y17)), vi (w + (n * y28)), vi (d + (n * y39))])) := u35.self' ee41
      have u47 := u36.ne' ee41 (hp.nk hh9 rfl)
      have kp48 := kp37.put ee41 rfl
      have dm49 := (dom_put ee41).trans dm38
      exact j_vret C E dX3_reckon_106 (by omega) (by omega) ⟨rfl, (by rw [← ry39, ← ry28, ← ry4, hy17]; exact u46), kp48, dm49⟩
set_option maxHeartbeats 4000000 in
set_option maxRecDepth 20000 in
theorem c_goOn (l : Launch) (hfl : l.stackTraces = false) (D : va_G) (cy : Nat → Nat) (σ : Wd) (h q1 q2 q3 q4 : Nat) (cap : Int) (mf : Bool) (ly : List Ly) (hB : BinR cy σ h q1 q2 q3 q4 (cap, mf, ly)) (a p : Nat) (pf : Nat → Int) (k n : Int) (hp : has σ p (iA cy 5 pf)) (hF : FlowR σ a h p pf (fl (cap, mf, ly)) k) (hn : 0 ≤ n ∧ n ≤ 1000000) : Ct l yX3_goOn cX3_goOn 5 none 3 0 0 D cy [.ref a, vi (n)] σ (fun v σ' => v = none ∧ FlowR σ' a h p pf (fl (cap, mf, ly)) (min (k + n) (tot ly)) ∧ Keep σ σ' (fun x => x = a) ∧ σ'.1 = σ.1) noX := by
  refine ct_start (by decide +kernel) hfl rfl (fun κ e1 e2 e3 C E NH => ?_)
  subst e1 e2 e3
  have C : Cx κ cX3_goOn 5 RX3 "goOn" 3 := C
  obtain ⟨-, -, -, -, hc, hs⟩ := id E
  show J κ σ [(0, .ref a), (1, vi (n))] 0 [] 0 0
  obtain ⟨L, hL⟩ : ∃ L, fl (cap, mf, ly) = L := ⟨_, rfl⟩
  rw [hL] at hF E
  have hlL : L.length = ly.length := by rw [← hL, fl_len]
  have htL : tot L = tot ly := by rw [← hL]; exact sum_fl _ (cap, mf, ly)
  obtain ⟨old9, g19, g29, g39, g49, hC9, ho9, hcn9, hly9, hok9⟩ := id hB
  dsimp only at hC9 hcn9 hly9 hok9
  have hok : lysOk L := by rw [← hL]; exact fl_ok (b := (cap, mf, ly)) hok9
  have htm := tot_max hok9
  have ht0 := tot_0 hok9
  obtain ⟨i0, u0, hS0, hP0⟩ := hF.s hok
  have hP0i := hP0.in hok
  have kp0 : Keep σ σ (fun x => x = a) := Keep.rf
  have dm0 : σ.1 = σ.1 := rfl
  refine j_iload_n 1 C dX3_goOn_0 rfl rfl rfl ?_
  refine j_istore_n (lv' := [(0, .ref a), (1, vi (n)), (2, vi (n))]) [1, 2, 0] C dX3_goOn_1 rfl rfl rfl rfl ?_
  have lp : ∀ (N : Nat) (i : Int) (u : Int) (k1 : Int) (σ1 : Wd) (r : Int), FlS σ1 a h p pf L i u → FPos L i u k1 → 0 ≤ r ∧ r ≤ 1000000 → k1 + r = k + n → Keep σ σ1 (fun x => x = a) → σ1.1 = σ.1 → (81 - i).toNat < N → J κ σ1 [(0, .ref a), (1, vi (n)), (2, vi (r))] 2 [] 0 0 := by
    intro N
    induction N with
    | zero => intro i u k1 σ1 r hS1 hP1 hr hkr hk1 hd1 hN; exact absurd hN (Nat.not_lt_zero _)
    | succ N ih =>
      intro i u k1 σ1 r hS1 hP1 hr hkr hk1 hd1 hN
      have hPi := hP1.in hok
      have hB1 := hB.keep hk1 (fun x hx => BinR.nk hB hS0 rfl rfl x hx)
      have hp1 := hk1 _ _ hp (hp.nk hS0 rfl)
      obtain ⟨old8, g18, g28, g38, g48, ⟨hh8, -, -⟩, -⟩ := id hB1
      dsimp only at hh8
      obtain ⟨⟨p1, p2⟩, p3, p4, p5, p6⟩ := id hP1
      refine j_iload_n 2 C dX3_goOn_2 rfl rfl rfl ?_
      refine j_if_le (tgt := 80) C dX3_goOn_3 rfl rfl ⟨by omega, by omega⟩ (fun cc1 => ?_) (fun cc1 => ?_)
      · exact j_vret C E dX3_goOn_80 (by omega) (by omega) ⟨rfl, (by rw [show min (k + n) (tot ly) = k1 by omega]; exact hS1.r hok hP1), hk1, hd1⟩
      · refine j_aload_n 0 C dX3_goOn_6 rfl rfl rfl ?_
        refine j_get C dX3_goOn_7 rfl fg_X3_7 hS1 rfl ?_
        refine j_aload_n 0 C dX3_goOn_10 rfl rfl rfl ?_
        refine j_get C dX3_goOn_11 rfl fg_X3_25 hS1 rfl ?_
        refine j_get C dX3_goOn_14 rfl fg_X3_33 hh8 rfl ?_
        refine j_icmp_ge (tgt := 80) C dX3_goOn_17 rfl rfl ⟨by omega, by omega⟩ ⟨by omega, by omega⟩ (fun cc2 => ?_) (fun cc2 => ?_)
        · exact j_vret C E dX3_goOn_80 (by omega) (by omega) ⟨rfl, (by have e9 := hPi.2.2.1 (by omega); rw [show min (k + n) (tot ly) = k1 by omega]; exact hS1.r hok hP1), hk1, hd1⟩
        · have hx := lyAt_ok hok (i := i) p1 (by omega)
          have hlt := p4 (by omega)
          have hnx := fun (f : Ly → Int) (hf : Lin f) => S_next hf (L := L) (i := i) p1 (by omega)
          have hrk9 := fun n : Int => True.intro
          refine j_aload_n 0 C dX3_goOn_20 rfl rfl rfl ?_
          refine j_get C dX3_goOn_21 rfl fg_X3_25 hS1 rfl ?_
          refine j_aload_n 0 C dX3_goOn_24 rfl rfl rfl ?_
          refine j_get C dX3_goOn_25 rfl fg_X3_7 hS1 rfl ?_
          refine j_callV (st' := []) (As := [vi (i)]) C dX3_goOn_28 rfl m_X3_38 hh8 rfl rfl rfl (c_bushelsAt (kL κ) hfl (kD κ) (kc κ) σ1 h q1 q2 q3 q4 cap mf ly hB1 i ⟨by omega, by omega⟩) rfl (by omega) (by omega) (by omega) (fun _ _ hx => hx.elim) (fun v4 τ3 hp5 => ?_)
          obtain ⟨rfl, rfl⟩ := hp5
          show J κ τ3 [(0, .ref a), (1, vi (n)), (2, vi (r))] 31 [vi ((lyAt (fl (cap, mf, ly)) i).1)] _ _
          rw [hL]
          have hadd := fun (f : Ly → Int) (hf : Lin f) (p : Int) => S_add hf L i u p
          obtain ⟨x, hx9⟩ : ∃ x, lyAt L i = x := ⟨_, rfl⟩
          rw [hx9] at hx hlt ⊢
          simp only [hx9] at hnx hadd
          obtain ⟨⟨hx1, hx2⟩, hx0⟩ := hx
          refine j_aload_n 0 C dX3_goOn_31 rfl rfl rfl ?_
          refine j_get C dX3_goOn_32 rfl fg_X3_13 hS1 rfl ?_
          refine j_isub C dX3_goOn_35 rfl ?_
          refine j_istore_n (lv' := [(0, .ref a), (1, vi (n)), (2, vi (r)), (3, vi (x.1 - u))]) [1, 2, 3, 0] C dX3_goOn_36 rfl rfl rfl rfl ?_
          refine j_iload_n 2 C dX3_goOn_37 rfl rfl rfl ?_
          refine j_iload_n 3 C dX3_goOn_38 rfl rfl rfl ?_
          obtain ⟨pt, hpt⟩ : ∃ z : Int, min r (x.1 - u) = z := ⟨_, rfl⟩
          refine j_min (z := pt) C dX3_goOn_39 rfl mm_X3_42 ms_min mi_math mc_min (by decide) (by omega) (by omega) ⟨by omega, by omega⟩ ⟨by omega, by omega⟩ hpt ?_
          refine j_istore (lv' := [(0, .ref a), (1, vi (n)), (2, vi (r)), (3, vi (x.1 - u)), (4, vi (pt))]) [1, 2, 3, 4, 0] C dX3_goOn_42 rfl rfl rfl ?_
          refine j_aload_n 0 C dX3_goOn_44 rfl rfl rfl ?_
          refine j_iload 4 C dX3_goOn_45 rfl rfl ?_
          refine j_callV (st' := []) (As := [vi (pt)]) C dX3_goOn_47 rfl m_X3_48 hS1 rfl rfl rfl (c_reckon (kL κ) hfl (kD κ) (kc κ) τ3 h q1 q2 q3 q4 cap mf ly hB1 a p pf i u _ _ _ pt hp1 hS1 ⟨by omega, by omega⟩) rfl (by omega) (by omega) (by omega) (fun _ _ hx => hx.elim) (fun v7 τ6 hp8 => ?_)
          obtain ⟨rfl, hR1, hR2, hR3⟩ := hp8
          show J κ τ6 [(0, .ref a), (1, vi (n)), (2, vi (r)), (3, vi (x.1 - u)), (4, vi (pt))] 50 [] _ _
          rw [hL, hx9] at hR1
          have hR4 : FlS τ6 a h p pf L i (u + pt) := by unfold FlS; rw [hadd _ (lin_c pf), hadd _ lin_w, hadd _ lin_d]; exact hR1
          have hn4 := hadd _ lin_n pt
          dsimp only at hn4
          have hB2 := hB1.keep hR2 (fun x hx => BinR.nk hB1 hS1 rfl rfl x hx)
          have kp9 := hk1.tr hR2
          have dm9 := hR3.trans hd1
          refine j_iload_n 2 C dX3_goOn_50 rfl rfl rfl ?_
          refine j_iload 4 C dX3_goOn_51 rfl rfl ?_
          refine j_isub C dX3_goOn_53 rfl ?_
          refine j_istore_n (lv' := [(0, .ref a), (1, vi (n)), (2, vi (r - pt)), (3, vi (x.1 - u)), (4, vi (pt))]) [1, 2, 0, 3, 4] C dX3_goOn_54 rfl rfl rfl rfl ?_
          refine j_iload 4 C dX3_goOn_55 rfl rfl ?_
          refine j_iload_n 3 C dX3_goOn_57 rfl rfl rfl ?_
          refine j_icmp_ge (tgt := 62) C dX3_goOn_58 rfl rfl ⟨by omega, by omega⟩ ⟨by omega, by omega⟩ (fun cc9 => ?_) (fun cc9 => ?_)
          · have hup : u + pt = x.1 := by omega
            rw [hup] at hR4 hn4
            unfold FlS at hR4
            rw [hnx _ (lin_c pf), hnx _ lin_w, hnx _ lin_d] at hR4
            rw [hnx _ lin_n] at hn4
            refine j_aload_n 0 C dX3_goOn_62 rfl rfl rfl ?_
            refine j_iconst C dX3_goOn_63 rfl ?_
            refine j_put (fs' := [.ref h, .ref p, vi (i), vi (0), vi (S (cf pf) L (i + 1) 0), vi (S wf L (i + 1) 0), vi (S df L (i + 1) 0)]) C dX3_goOn_64 rfl fa_X3_13 hR4 rfl rfl rfl rfl (fun τ10 ee11 => ?_)
            have u12 : has τ10 a (.inr (3, [.ref h, .ref p, vi (i), vi (0), vi (S (cf pf) L (i + 1) 0), vi (S wf L (i + 1) 0), vi (S df L (i + 1) 0)])) := hR4.self' ee11
            have kp13 := kp9.put ee11 rfl
            have dm14 := (dom_put ee11).trans dm9
            refine j_aload_n 0 C dX3_goOn_67 rfl rfl rfl ?_
            refine j_dup C dX3_goOn_68 rfl rfl ?_
            refine j_get C dX3_goOn_69 rfl fg_X3_7 u12 rfl ?_
            refine j_iconst C dX3_goOn_72 rfl ?_
            refine j_iadd C dX3_goOn_73 rfl ?_
            refine j_put (fs' := [.ref h, .ref p, vi (i + 1), vi (0), vi (S (cf pf) L (i + 1) 0), vi (S wf L (i + 1) 0), vi (S df L (i + 1) 0)]) C dX3_goOn_74 rfl fa_X3_7 u12 rfl rfl rfl rfl (fun τ15 ee16 => ?_)
            have u17 : has τ15 a (.inr (3, [.ref h, .ref p, vi (i + 1), vi (0), vi (S (cf pf) L (i + 1) 0), vi (S wf L (i + 1) 0), vi (S df L (i + 1) 0)])) := u12.self' ee16
            have kp18 := kp13.put ee16 rfl
            have dm19 := (dom_put ee16).trans dm14
            refine j_goto (tgt := 2) C dX3_goOn_77 rfl ?_
            refine j_locals (lv' := [(0, .ref a), (1, vi (n)), (2, vi (r - pt))]) [0, 1, 2] rfl ?_
            refine ih (i + 1) 0 (k1 + pt) τ15 (r - pt) u17 ⟨⟨by omega, by omega⟩, by omega, fun q => ?_, fun _ => rfl, by rw [hn4]; omega⟩ ⟨by omega, by omega⟩ (by omega) kp18 dm19 (by omega)
            have := (lyAt_ok hok (i := i + 1) (by omega) q).1; omega
          · have hP2 : FPos L i (u + pt) (k1 + pt) := ⟨⟨p1, p2⟩, by omega, fun _ => by rw [hx9]; omega, fun _ => by omega, by rw [hn4]; omega⟩
            have hPi2 := hP2.in hok
            exact j_vret C E dX3_goOn_61 (by omega) (by omega) ⟨rfl, (by rw [show min (k + n) (tot ly) = k1 + pt by omega]; exact hR4.r hok hP2), kp9, dm9⟩
  exact lp _ i0 u0 k σ n hS0 hP0 hn rfl Keep.rf rfl (Nat.lt_succ_self _)
set_option maxHeartbeats 4000000 in
set_option maxRecDepth 20000 in
theorem c_goBack (l : Launch) (hfl : l.stackTraces = false) (D : va_G) (cy : Nat → Nat) (σ : Wd) (h q1 q2 q3 q4 : Nat) (cap : Int) (mf : Bool) (ly : List Ly) (hB : BinR cy σ h q1 q2 q3 q4 (cap, mf, ly)) (a p : Nat) (pf : Nat → Int) (k : Int) (hp : has σ p (iA cy 5 pf)) (hF : FlowR σ a h p pf (fl (cap, mf, ly)) k) : Ct l yX3_goBack cX3_goBack 5 none 3 0 0 D cy [.ref a, vi (1)] σ (fun v σ' => v = none ∧ FlowR σ' a h p pf (fl (cap, mf, ly)) (max (k - 1) 0) ∧ Keep σ σ' (fun x => x = a) ∧ σ'.1 = σ.1) noX := by
  refine ct_start (by decide +kernel) hfl rfl (fun κ e1 e2 e3 C E NH => ?_)
  subst e1 e2 e3
  have C : Cx κ cX3_goBack 5 RX3 "goBack" 3 := C
  obtain ⟨-, -, -, -, hc, hs⟩ := id E
  show J κ σ [(0, .ref a), (1, vi (1))] 0 [] 0 0
  obtain ⟨L, hL⟩ : ∃ L, fl (cap, mf, ly) = L := ⟨_, rfl⟩
  rw [hL] at hF E
  have hlL : L.length = ly.length := by rw [← hL, fl_len]
  have htL : tot L = tot ly := by rw [← hL]; exact sum_fl _ (cap, mf, ly)
  obtain ⟨old9, g19, g29, g39, g49, hC9, ho9, hcn9, hly9, hok9⟩ := id hB
  dsimp only at hC9 hcn9 hly9 hok9
  have hok : lysOk L := by rw [← hL]; exact fl_ok (b := (cap, mf, ly)) hok9
  have htm := tot_max hok9
  have ht0 := tot_0 hok9
  obtain ⟨i0, u0, hS0, hP0⟩ := hF.s hok
  have hP0i := hP0.in hok
  have hB1 := hB
  obtain ⟨old8, g18, g28, g38, g48, ⟨hh8, -, -⟩, -⟩ := id hB1
  dsimp only at hh8
  obtain ⟨⟨p1, p2⟩, p3, p4, p5, p6⟩ := id hP0
  have kp0 : Keep σ σ (fun x => x = a) := Keep.rf
  have dm0 : σ.1 = σ.1 := rfl
  refine j_iload_n 1 C dX3_goBack_0 rfl rfl rfl ?_
  refine j_istore_n (lv' := [(0, .ref a), (1, vi (1)), (2, vi (1))]) [1, 2, 0] C dX3_goBack_1 rfl rfl rfl rfl ?_
  refine j_aload_n 0 C dX3_goBack_2 rfl rfl rfl ?_
  refine j_get C dX3_goBack_3 rfl fg_X3_25 hS0 rfl ?_
  refine j_get C dX3_goBack_6 rfl fg_X3_33 hh8 rfl ?_
  refine j_istore_n (lv' := [(0, .ref a), (1, vi (1)), (2, vi (1)), (3, vi ((ly.length : Int)))]) [1, 2, 3, 0] C dX3_goBack_9 rfl rfl rfl rfl ?_
  refine j_iload_n 3 C dX3_goBack_10 rfl rfl rfl ?_
  refine j_if_le (tgt := 86) C dX3_goBack_11 rfl rfl ⟨by omega, by omega⟩ (fun cc1 => ?_) (fun cc1 => ?_)
  · have hk0 := hP0i.2.2.1 (by omega)
    have hti : tot ly = 0 := by have hl0 : ly = [] := List.eq_nil_of_length_eq_zero (by omega); rw [hl0]; rfl
    exact j_vret C E dX3_goBack_86 (by omega) (by omega) ⟨rfl, (by rw [show max (k - 1) 0 = k by omega]; exact hF), kp0, dm0⟩
  · refine j_iload_n 2 C dX3_goBack_14 rfl rfl rfl ?_
    refine j_if_le (tgt := 86) C dX3_goBack_15 rfl rfl ⟨by omega, by omega⟩ (fun cc2 => ?_) (fun cc2 => ?_)
    · exact absurd cc2 (by decide)
    · refine j_aload_n 0 C dX3_goBack_18 rfl rfl rfl ?_
      refine j_get C dX3_goBack_19 rfl fg_X3_13 hS0 rfl ?_
      refine j_if_ne (tgt := 58) C dX3_goBack_22 rfl rfl ⟨by omega, by omega⟩ (fun cc3 => ?_) (fun cc3 => ?_)
      · have hp2 := hp
        have hlt := p4 (by omega)
        have hnz : 1 ≤ k := by have h9 := hP0i.2.2.2.1; omega
        have hx := lyAt_ok hok (i := i0) p1 (by omega)
        obtain ⟨⟨hx1, hx2⟩, hx0⟩ := hx
        refine j_iload_n 2 C dX3_goBack_58 rfl rfl rfl ?_
        refine j_aload_n 0 C dX3_goBack_59 rfl rfl rfl ?_
        refine j_get C dX3_goBack_60 rfl fg_X3_13 hS0 rfl ?_
        refine j_min (z := 1) C dX3_goBack_63 rfl mm_X3_42 ms_min mi_math mc_min (by decide) (by omega) (by omega) ⟨by omega, by omega⟩ ⟨by omega, by omega⟩ (by omega) ?_
        refine j_istore (lv' := [(0, .ref a), (1, vi (1)), (2, vi (1)), (3, vi ((ly.length : Int))), (4, vi (1))]) [1, 2, 3, 4, 0] C dX3_goBack_66 rfl rfl rfl ?_
        refine j_aload_n 0 C dX3_goBack_68 rfl rfl rfl ?_
        refine j_iload 4 C dX3_goBack_69 rfl rfl ?_
        refine j_ineg C dX3_goBack_71 rfl ?_
        refine j_callV (st' := []) (As := [vi (-1)]) C dX3_goBack_72 rfl m_X3_48 hS0 rfl rfl rfl (c_reckon (kL κ) hfl (kD κ) (kc κ) σ h q1 q2 q3 q4 cap mf ly hB1 a p pf i0 u0 _ _ _ (-1) hp2 hS0 ⟨by omega, by omega⟩) rfl (by omega) (by omega) (by omega) (fun _ _ hx => hx.elim) (fun v5 τ4 hp6 => ?_)
        obtain ⟨rfl, hR1, hR2, hR3⟩ := hp6
        show J κ τ4 [(0, .ref a), (1, vi (1)), (2, vi (1)), (3, vi ((ly.length : Int))), (4, vi (1))] 75 [] _ _
        rw [hL] at hR1
        have hR4 : FlS τ4 a h p pf L (i0) (u0 + -1) := by unfold FlS; rw [S_add (lin_c pf), S_add lin_w, S_add lin_d]; exact hR1
        have hn4 := S_add lin_n L (i0) (u0) (-1)
        dsimp only at hn4
        have kp9 := kp0.tr hR2
        have dm9 := hR3.trans dm0
        refine j_iload_n 2 C dX3_goBack_75 rfl rfl rfl ?_
        refine j_iload 4 C dX3_goBack_76 rfl rfl ?_
        refine j_isub C dX3_goBack_78 rfl ?_
        refine j_istore_n (lv' := [(0, .ref a), (1, vi (1)), (2, vi (1 - 1)), (3, vi ((ly.length : Int))), (4, vi (1))]) [1, 2, 0, 3, 4] C dX3_goBack_79 rfl rfl rfl rfl ?_
        refine j_iinc (y := (ly.length : Int) + (-1)) (lv' := [(0, .ref a), (1, vi (1)), (2, vi (1 - 1)), (3, vi ((ly.length : Int) + (-1))), (4, vi (1))]) 3 [1, 2, 3, 0, 4] C dX3_goBack_80 rfl rfl rfl rfl rfl ?_
        refine j_goto (tgt := 10) C dX3_goBack_83 rfl ?_
        refine j_iload_n 3 C dX3_goBack_10 rfl rfl rfl ?_
        refine j_if_le (tgt := 86) C dX3_goBack_11 rfl rfl ⟨by omega, by omega⟩ (fun cc7 => ?_) (fun cc7 => ?_)
        · exact j_vret C E dX3_goBack_86 (by omega) (by omega) ⟨rfl, (by refine hR4.r hok ⟨⟨by omega, by omega⟩, by omega, fun _ => by omega, fun _ => by omega, ?_⟩; rw [hn4]; omega), kp9, dm9⟩
        · refine j_iload_n 2 C dX3_goBack_14 rfl rfl rfl ?_
          refine j_if_le (tgt := 86) C dX3_goBack_15 rfl rfl ⟨by omega, by omega⟩ (fun cc8 => ?_) (fun cc8 => ?_)
          · exact j_vret C E dX3_goBack_86 (by omega) (by omega) ⟨rfl, (by refine hR4.r hok ⟨⟨by omega, by omega⟩, by omega, fun _ => by omega, fun _ => by omega, ?_⟩; rw [hn4]; omega), kp9, dm9⟩
          · exact absurd cc8 (by decide)
      · have hu0 : u0 = 0 := by omega
        subst hu0
        refine j_aload_n 0 C dX3_goBack_25 rfl rfl rfl ?_
        refine j_get C dX3_goBack_26 rfl fg_X3_7 hS0 rfl ?_
        refine j_if_ne (tgt := 33) C dX3_goBack_29 rfl rfl ⟨by omega, by omega⟩ (fun cc9 => ?_) (fun cc9 => ?_)
        · have hnx := fun (f : Ly → Int) (hf : Lin f) => S_next hf (L := L) (i := i0 - 1) (by omega) (by omega)
          rw [show i0 - 1 + 1 = i0 by omega] at hnx
          have hx := lyAt_ok hok (i := i0 - 1) (by omega) (by omega)
          refine j_aload_n 0 C dX3_goBack_33 rfl rfl rfl ?_
          refine j_dup C dX3_goBack_34 rfl rfl ?_
          refine j_get C dX3_goBack_35 rfl fg_X3_7 hS0 rfl ?_
          refine j_iconst C dX3_goBack_38 rfl ?_
          refine j_isub C dX3_goBack_39 rfl ?_
          refine j_put (fs' := [.ref h, .ref p, vi (i0 - 1), vi (0), vi (S (cf pf) L i0 0), vi (S wf L i0 0), vi (S df L i0 0)]) C dX3_goBack_40 rfl fa_X3_7 hS0 rfl rfl rfl rfl (fun τ10 ee11 => ?_)
          have u12 : has τ10 a (.inr (3, [.ref h, .ref p, vi (i0 - 1), vi (0), vi (S (cf pf) L i0 0), vi (S wf L i0 0), vi (S df L i0 0)])) := hS0.self' ee11
          have u13 := hh8.ne' ee11 (hh8.nk hS0 rfl)
          have kp14 := kp0.put ee11 rfl
          have dm15 := (dom_put ee11).trans dm0
          refine j_aload_n 0 C dX3_goBack_43 rfl rfl rfl ?_
          refine j_aload_n 0 C dX3_goBack_44 rfl rfl rfl ?_
          refine j_get C dX3_goBack_45 rfl fg_X3_25 u12 rfl ?_
          refine j_aload_n 0 C dX3_goBack_48 rfl rfl rfl ?_
          refine j_get C dX3_goBack_49 rfl fg_X3_7 u12 rfl ?_
          have hB2 := hB1.keep kp14 (fun x hx => BinR.nk hB1 hS0 rfl rfl x hx)
          refine j_callV (st' := [.ref a]) (As := [vi (i0 - 1)]) C dX3_goBack_52 rfl m_X3_38 u13 rfl rfl rfl (c_bushelsAt (kL κ) hfl (kD κ) (kc κ) τ10 h q1 q2 q3 q4 cap mf ly hB2 (i0 - 1) ⟨by omega, by omega⟩) rfl (by omega) (by omega) (by omega) (fun _ _ hx => hx.elim) (fun v17 τ16 hp18 => ?_)
          obtain ⟨rfl, rfl⟩ := hp18
          show J κ τ16 [(0, .ref a), (1, vi (1)), (2, vi (1)), (3, vi ((ly.length : Int)))] 55 [vi ((lyAt (fl (cap, mf, ly)) (i0 - 1)).1), .ref a] _ _
          rw [hL]
          obtain ⟨⟨hx1, hx2⟩, hx0⟩ := hx
          refine j_put (fs' := [.ref h, .ref p, vi (i0 - 1), vi ((lyAt L (i0 - 1)).1), vi (S (cf pf) L i0 0), vi (S wf L i0 0), vi (S df L i0 0)]) C dX3_goBack_55 rfl fa_X3_13 u12 rfl rfl rfl rfl (fun τ19 ee20 => ?_)
          have u21 : has τ19 a (.inr (3, [.ref h, .ref p, vi (i0 - 1), vi ((lyAt L (i0 - 1)).1), vi (S (cf pf) L i0 0), vi (S wf L i0 0), vi (S df L i0 0)])) := u12.self' ee20
          have u22 := u13.ne' ee20 (u13.nk u12 rfl)
          have kp23 := kp14.put ee20 rfl
          have dm24 := (dom_put ee20).trans dm15
          have hS5 := u21
          rw [← hnx _ (lin_c pf), ← hnx _ lin_w, ← hnx _ lin_d] at hS5
          rw [← hnx _ lin_n] at p6
          have h9 := hP0i.2.2.2.1
          have hnz : 1 ≤ k := by omega
          have hB3 := hB1.keep kp23 (fun x hx => BinR.nk hB1 hS0 rfl rfl x hx)
          have hp2 := kp23 _ _ hp (hp.nk hS0 rfl)
          refine j_iload_n 2 C dX3_goBack_58 rfl rfl rfl ?_
          refine j_aload_n 0 C dX3_goBack_59 rfl rfl rfl ?_
          refine j_get C dX3_goBack_60 rfl fg_X3_13 hS5 rfl ?_
          refine j_min (z := 1) C dX3_goBack_63 rfl mm_X3_42 ms_min mi_math mc_min (by decide) (by omega) (by omega) ⟨by omega, by omega⟩ ⟨by omega, by omega⟩ (by omega) ?_
          refine j_istore (lv' := [(0, .ref a), (1, vi (1)), (2, vi (1)), (3, vi ((ly.length : Int))), (4, vi (1))]) [1, 2, 3, 4, 0] C dX3_goBack_66 rfl rfl rfl ?_
          refine j_aload_n 0 C dX3_goBack_68 rfl rfl rfl ?_
          refine j_iload 4 C dX3_goBack_69 rfl rfl ?_
          refine j_ineg C dX3_goBack_71 rfl ?_
          refine j_callV (st' := []) (As := [vi (-1)]) C dX3_goBack_72 rfl m_X3_48 hS5 rfl rfl rfl (c_reckon (kL κ) hfl (kD κ) (kc κ) τ19 h q1 q2 q3 q4 cap mf ly hB3 a p pf (i0 - 1) ((lyAt L (i0 - 1)).1) _ _ _ (-1) hp2 hS5 ⟨by omega, by omega⟩) rfl (by omega) (by omega) (by omega) (fun _ _ hx => hx.elim) (fun v26 τ25 hp27 => ?_)
          obtain ⟨rfl, hR1, hR2, hR3⟩ := hp27
          show J κ τ25 [(0, .ref a), (1, vi (1)), (2, vi (1)), (3, vi ((ly.length : Int))), (4, vi (1))] 75 [] _ _
          rw [hL] at hR1
          have hR4 : FlS τ25 a h p pf L (i0 - 1) ((lyAt L (i0 - 1)).1 + -1) := by unfold FlS; rw [S_add (lin_c pf), S_add lin_w, S_add lin_d]; exact hR1
          have hn4 := S_add lin_n L (i0 - 1) ((lyAt L (i0 - 1)).1) (-1)
          dsimp only at hn4
          have kp9 := kp23.tr hR2
          have dm9 := hR3.trans dm24
          refine j_iload_n 2 C dX3_goBack_75 rfl rfl rfl ?_
          refine j_iload 4 C dX3_goBack_76 rfl rfl ?_
          refine j_isub C dX3_goBack_78 rfl ?_
          refine j_istore_n (lv' := [(0, .ref a), (1, vi (1)), (2, vi (1 - 1)), (3, vi ((ly.length : Int))), (4, vi (1))]) [1, 2, 0, 3, 4] C dX3_goBack_79 rfl rfl rfl rfl ?_
          refine j_iinc (y := (ly.length : Int) + (-1)) (lv' := [(0, .ref a), (1, vi (1)), (2, vi (1 - 1)), (3, vi ((ly.length : Int) + (-1))), (4, vi (1))]) 3 [1, 2, 3, 0, 4] C dX3_goBack_80 rfl rfl rfl rfl rfl ?_
          refine j_goto (tgt := 10) C dX3_goBack_83 rfl ?_
          refine j_iload_n 3 C dX3_goBack_10 rfl rfl rfl ?_
          refine j_if_le (tgt := 86) C dX3_goBack_11 rfl rfl ⟨by omega, by omega⟩ (fun cc28 => ?_) (fun cc28 => ?_)
          · exact j_vret C E dX3_goBack_86 (by omega) (by omega) ⟨rfl, (by refine hR4.r hok ⟨⟨by omega, by omega⟩, by omega, fun _ => by omega, fun _ => by omega, ?_⟩; rw [hn4]; omega), kp9, dm9⟩
          · refine j_iload_n 2 C dX3_goBack_14 rfl rfl rfl ?_
            refine j_if_le (tgt := 86) C dX3_goBack_15 rfl rfl ⟨by omega, by omega⟩ (fun cc29 => ?_) (fun cc29 => ?_)
            · exact j_vret C E dX3_goBack_86 (by omega) (by omega) ⟨rfl, (by refine hR4.r hok ⟨⟨by omega, by omega⟩, by omega, fun _ => by omega, fun _ => by omega, ?_⟩; rw [hn4]; omega), kp9, dm9⟩
            · exact absurd cc29 (by decide)
        · have hi0 : i0 = 0 := by omega
          subst hi0
          have hk0 : k = 0 := p6.symm
          exact j_vret C E dX3_goBack_32 (by omega) (by omega) ⟨rfl, (by rw [show max (k - 1) 0 = k by omega]; exact hF), kp0, dm0⟩
