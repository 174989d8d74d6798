/-! Bin: what changes it, sums over it -/
/-- what 'add' leaves -/
def AddP (cy : Nat → Nat) (σ σ' : Wd) (h q1 q2 q3 q4 : Nat) (cap : Int) (mf : Bool) (old cnt tt : Int) (g1 g2 g3 g4 : Nat → Int) (n x f g : Int) : Prop :=
  BinC cy σ' h q1 q2 q3 q4 cap mf old (cnt + 1) (tt + n) (ups g1 ((old + cnt) % 80).toNat n) (ups g2 ((old + cnt) % 80).toNat x) (ups g3 ((old + cnt) % 80).toNat f) (ups g4 ((old + cnt) % 80).toNat g) ∧ Keep σ σ' (inB h q1 q2 q3 q4) ∧ σ'.1 = σ.1
set_option maxHeartbeats 4000000 in
set_option maxRecDepth 20000 in
theorem c_add (l : Launch) (hfl : l.stackTraces = false) (D : va_G) (cy : Nat → Nat) (σ : Wd) (h q1 q2 q3 q4 : Nat) (cap : Int) (mf : Bool) (old cnt tt : Int) (g1 g2 g3 g4 : Nat → Int) (hC : BinC cy σ h q1 q2 q3 q4 cap mf old cnt tt g1 g2 g3 g4) (ho : 0 ≤ old ∧ old < 80) (hcn : 0 ≤ cnt ∧ cnt < 80) (n x f g : Int) (hn : 1 ≤ n) (hnr : -2147483648 ≤ n ∧ n < 2147483648) : Ct l yX0_add cX0_add 6 none 2 0 0 D cy [.ref h, vi (n), vi (x), vi (f), vi (g)] σ (fun v σ' => v = none ∧ AddP cy σ σ' h q1 q2 q3 q4 cap mf old cnt tt g1 g2 g3 g4 n x f g) noX := by
  refine ct_start (by decide +kernel) hfl rfl (fun κ e1 e2 e3 C E NH => ?_)
  subst e1 e2 e3
  have C : Cx κ cX0_add 6 RX0 "add" 2 := C
  obtain ⟨-, -, -, -, hc, hs⟩ := id E
  show J κ σ [(0, .ref h), (1, vi (n)), (2, vi (x)), (3, vi (f)), (4, vi (g))] 0 [] 0 0
  obtain ⟨hh, ⟨h1, h2, h3, h4⟩, hne⟩ := hC
  have kp0 : Keep σ σ (inB h q1 q2 q3 q4) := Keep.rf
  have dm0 : σ.1 = σ.1 := rfl
  refine j_iload_n 1 C dX0_add_0 rfl rfl rfl ?_
  refine j_iconst C dX0_add_1 rfl ?_
  refine j_icmp_lt (tgt := 14) C dX0_add_2 rfl rfl ⟨by omega, by omega⟩ ⟨by omega, by omega⟩ (fun cc1 => ?_) (fun cc1 => ?_)
  · exact absurd hn (by omega)
  · refine j_aload_n 0 C dX0_add_5 rfl rfl rfl ?_
    refine j_get C dX0_add_6 rfl fg_X0_28 hh rfl ?_
    refine j_bipush C dX0_add_9 rfl (by decide) ?_
    refine j_icmp_lt (tgt := 15) C dX0_add_11 rfl rfl ⟨by omega, by omega⟩ ⟨by omega, by omega⟩ (fun cc2 => ?_) (fun cc2 => ?_)
    · refine j_aload_n 0 C dX0_add_15 rfl rfl rfl ?_
      refine j_aload_n 0 C dX0_add_16 rfl rfl rfl ?_
      refine j_get C dX0_add_17 rfl fg_X0_28 hh rfl ?_
      refine j_callV (st' := []) (As := [vi (cnt)]) C dX0_add_20 rfl m_X0_51 hh rfl rfl rfl (c_slotFromOldest (kL κ) hfl (kD κ) (kc κ) σ h q1 q2 q3 q4 cap mf old cnt tt cnt hh ho ⟨by omega, by omega⟩) rfl (by omega) (by omega) (by omega) (fun _ _ hx => hx.elim) (fun v4 τ3 hp5 => ?_)
      obtain ⟨rfl, rfl⟩ := hp5
      show J κ τ3 [(0, .ref h), (1, vi (n)), (2, vi (x)), (3, vi (f)), (4, vi (g))] 23 [vi ((old + cnt) % 80)] _ _
      refine j_istore (lv' := [(0, .ref h), (1, vi (n)), (2, vi (x)), (3, vi (f)), (4, vi (g)), (5, vi ((old + cnt) % 80))]) [1, 2, 3, 4, 5, 0] C dX0_add_23 rfl rfl rfl ?_
      refine j_aload_n 0 C dX0_add_25 rfl rfl rfl ?_
      refine j_get C dX0_add_26 rfl fg_X0_9 hh rfl ?_
      refine j_iload 5 C dX0_add_29 rfl rfl ?_
      refine j_iload_n 1 C dX0_add_31 rfl rfl rfl ?_
      refine j_iast C dX0_add_32 rfl h1 ⟨by omega, by omega⟩ (by omega) (fun τ6 ee7 => ?_)
      have u8 := hh.ne' ee7 (hh.nk h1 rfl)
      have u9 : has τ6 q1 (iA (kc κ) 80 (ups g1 ((old + cnt) % 80).toNat n)) := h1.self' ee7
      have u10 := h2.ne' ee7 (Ne.symm hne.1)
      have u11 := h3.ne' ee7 (Ne.symm hne.2.1)
      have u12 := h4.ne' ee7 (Ne.symm hne.2.2.1)
      have kp13 := kp0.put ee7 (Or.inr (Or.inl rfl))
      have dm14 := (dom_put ee7).trans dm0
      refine j_aload_n 0 C dX0_add_33 rfl rfl rfl ?_
      refine j_get C dX0_add_34 rfl fg_X0_15 u8 rfl ?_
      refine j_iload 5 C dX0_add_37 rfl rfl ?_
      refine j_iload_n 2 C dX0_add_39 rfl rfl rfl ?_
      refine j_iast C dX0_add_40 rfl u10 ⟨by omega, by omega⟩ (by omega) (fun τ15 ee16 => ?_)
      have u17 := u8.ne' ee16 (u8.nk u10 rfl)
      have u18 := u9.ne' ee16 hne.1
      have u19 : has τ15 q2 (iA (kc κ) 80 (ups g2 ((old + cnt) % 80).toNat x)) := u10.self' ee16
      have u20 := u11.ne' ee16 (Ne.symm hne.2.2.2.1)
      have u21 := u12.ne' ee16 (Ne.symm hne.2.2.2.2.1)
      have kp22 := kp13.put ee16 (Or.inr (Or.inr (Or.inl rfl)))
      have dm23 := (dom_put ee16).trans dm14
      refine j_aload_n 0 C dX0_add_41 rfl rfl rfl ?_
      refine j_get C dX0_add_42 rfl fg_X0_18 u17 rfl ?_
      refine j_iload 5 C dX0_add_45 rfl rfl ?_
      refine j_iload_n 3 C dX0_add_47 rfl rfl rfl ?_
      refine j_iast C dX0_add_48 rfl u20 ⟨by omega, by omega⟩ (by omega) (fun τ24 ee25 => ?_)
      have u26 := u17.ne' ee25 (u17.nk u20 rfl)
      have u27 := u18.ne' ee25 hne.2.1
      have u28 := u19.ne' ee25 hne.2.2.2.1
      have u29 : has τ24 q3 (iA (kc κ) 80 (ups g3 ((old + cnt) % 80).toNat f)) := u20.self' ee25
      have u30 := u21.ne' ee25 (Ne.symm hne.2.2.2.2.2)
      have kp31 := kp22.put ee25 (Or.inr (Or.inr (Or.inr (Or.inl rfl))))
      have dm32 := (dom_put ee25).trans dm23
      refine j_aload_n 0 C dX0_add_49 rfl rfl rfl ?_
      refine j_get C dX0_add_50 rfl fg_X0_21 u26 rfl ?_
      refine j_iload 5 C dX0_add_53 rfl rfl ?_
      refine j_iload 4 C dX0_add_55 rfl rfl ?_
      refine j_iast C dX0_add_57 rfl u30 ⟨by omega, by omega⟩ (by omega) (fun τ33 ee34 => ?_)
      have u35 := u26.ne' ee34 (u26.nk u30 rfl)
      have u36 := u27.ne' ee34 hne.2.2.1
      have u37 := u28.ne' ee34 hne.2.2.2.2.1
      have u38 := u29.ne' ee34 hne.2.2.2.2.2
      have u39 : has τ33 q4 (iA (kc κ) 80 (ups g4 ((old + cnt) % 80).toNat g)) := u30.self' ee34
      have kp40 := kp31.put ee34 (Or.inr (Or.inr (Or.inr (Or.inr rfl))))
      have dm41 := (dom_put ee34).trans dm32
      refine j_aload_n 0 C dX0_add_58 rfl rfl rfl ?_
      refine j_dup C dX0_add_59 rfl rfl ?_
      refine j_get C dX0_add_60 rfl fg_X0_28 u35 rfl ?_
      refine j_iconst C dX0_add_63 rfl ?_
      refine j_iadd C dX0_add_64 rfl ?_
      refine j_put (fs' := [vi (cap), vi (b01 mf), .ref q1, .ref q2, .ref q3, .ref q4, vi (old), vi (cnt + 1), vi (tt)]) C dX0_add_65 rfl fa_X0_28 u35 rfl rfl rfl rfl (fun τ42 ee43 => ?_)
      have u44 : has τ42 h (.inr (0, [vi (cap), vi (b01 mf), .ref q1, .ref q2, .ref q3, .ref q4, vi (old), vi (cnt + 1), vi (tt)])) := u35.self' ee43
      have u45 := u36.ne' ee43 (u36.nk u35 rfl)
      have u46 := u37.ne' ee43 (u37.nk u35 rfl)
      have u47 := u38.ne' ee43 (u38.nk u35 rfl)
      have u48 := u39.ne' ee43 (u39.nk u35 rfl)
      have kp49 := kp40.put ee43 (Or.inl rfl)
      have dm50 := (dom_put ee43).trans dm41
      refine j_aload_n 0 C dX0_add_68 rfl rfl rfl ?_
      refine j_dup C dX0_add_69 rfl rfl ?_
      refine j_get C dX0_add_70 rfl fg_X0_31 u44 rfl ?_
      refine j_iload_n 1 C dX0_add_73 rfl rfl rfl ?_
      refine j_iadd C dX0_add_74 rfl ?_
      refine j_put (fs' := [vi (cap), vi (b01 mf), .ref q1, .ref q2, .ref q3, .ref q4, vi (old), vi (cnt + 1), vi (tt + n)]) C dX0_add_75 rfl fa_X0_31 u44 rfl rfl rfl rfl (fun τ51 ee52 => ?_)
      have u53 : has τ51 h (.inr (0, [vi (cap), vi (b01 mf), .ref q1, .ref q2, .ref q3, .ref q4, vi (old), vi (cnt + 1), vi (tt + n)])) := u44.self' ee52
      have u54 := u45.ne' ee52 (u45.nk u44 rfl)
      have u55 := u46.ne' ee52 (u46.nk u44 rfl)
      have u56 := u47.ne' ee52 (u47.nk u44 rfl)
      have u57 := u48.ne' ee52 (u48.nk u44 rfl)
      have kp58 := kp49.put ee52 (Or.inl rfl)
      have dm59 := (dom_put ee52).trans dm50
      exact j_vret C E dX0_add_78 (by omega) (by omega) ⟨rfl, ⟨u53, ⟨u54, u55, u56, u57⟩, hne⟩, kp58, dm59⟩
    · exact absurd hcn (by omega)
set_option maxHeartbeats 4000000 in
set_option maxRecDepth 20000 in
theorem c_add0 (l : Launch) (hfl : l.stackTraces = false) (D : va_G) (cy : Nat → Nat) (σ : Wd) (h : Nat) (n x f g : Int) (hn : n < 1) (hnr : -2147483648 ≤ n ∧ n < 2147483648) : Ct l yX0_add cX0_add 6 none 2 0 0 D cy [.ref h, vi (n), vi (x), vi (f), vi (g)] σ (fun v σ' => v = none ∧ σ' = σ) noX := by
  refine ct_start (by decide +kernel) hfl rfl (fun κ e1 e2 e3 C E NH => ?_)
  subst e1 e2 e3
  have C : Cx κ cX0_add 6 RX0 "add" 2 := C
  obtain ⟨-, -, -, -, hc, hs⟩ := id E
  show J κ σ [(0, .ref h), (1, vi (n)), (2, vi (x)), (3, vi (f)), (4, vi (g))] 0 [] 0 0
  refine j_iload_n 1 C dX0_add_0 rfl rfl rfl ?_
  refine j_iconst C dX0_add_1 rfl ?_
  refine j_icmp_lt (tgt := 14) C dX0_add_2 rfl rfl ⟨by omega, by omega⟩ ⟨by omega, by omega⟩ (fun cc1 => ?_) (fun cc1 => ?_)
  · exact j_vret C E dX0_add_14 (by omega) (by omega) ⟨rfl, rfl⟩
  · exact absurd hn (by omega)
theorem AddP.R {cy : Nat → Nat} {σ σ' : Wd} {h q1 q2 q3 q4 : Nat} {cap : Int} {mf : Bool} {old : Int} {g1 g2 g3 g4 : Nat → Int} {l : List Ly} {n x f g : Int} (hA : AddP cy σ σ' h q1 q2 q3 q4 cap mf old (l.length : Int) (tot l) g1 g2 g3 g4 n x f g) (ho : 0 ≤ old ∧ old < 80) (hn : l.length < 80) (hl : l = ringL (G4 g1 g2 g3 g4) old l.length) (hok : lysOk l) (hx : lyOk (n, x, f, g)) : BinR cy σ' h q1 q2 q3 q4 (cap, mf, l ++ [(n, x, f, g)]) := by
  refine BinR.of hA.1 (by rw [List.length_append]; rfl) ?_ ho (by rw [List.length_append]; exact hn) (ring_add hl hn n x f g) ?_
  · unfold tot
    rw [sumL_app]
    simp [sumL]
  · intro y hy
    rcases List.mem_append.mp hy with hy | hy
    · exact hok y hy
    · cases List.mem_singleton.mp hy
      exact hx
/-- the first layer of a flow, taken in part or whole -/
theorem ring_take {g1 g2 g3 g4 : Nat → Int} {old : Int} {mf : Bool} {cap : Int} {l : List Ly} {x : Ly} {r : List Ly} (ho : 0 ≤ old ∧ old < 80) (hn : l.length ≤ 80) (hl : l = ringL (G4 g1 g2 g3 g4) old l.length) (hf : fl (cap, mf, l) = x :: r) (p : Int) : ofl mf ((x.1 - p, x.2) :: r) = ringL (G4 (ups g1 (slotI mf old l.length 0).toNat (x.1 - p)) g2 g3 g4) old l.length ∧ ofl mf r = ringL (G4 (ups g1 (slotI mf old l.length 0).toNat (x.1 - p)) g2 g3 g4) (if mf then (old + 1) % 80 else old) (l.length - 1) := by
  have hlen : l.length = r.length + 1 := by
    have := congrArg List.length hf
    rw [fl_len] at this
    simpa using this
  have hx : lyAt (fl (cap, mf, l)) 0 = x := by rw [hf]; rfl
  rw [ring_fl hl (by omega) (by omega)] at hx
  have hsl := slotI_in mf old l.length 0
  cases mf
  · simp only [fl, Bool.false_eq_true, if_false] at hf
    have hl2 : l = r.reverse ++ [x] := by
      have := congrArg List.reverse hf
      rw [List.reverse_reverse, List.reverse_cons] at this
      exact this
    have hs : slotI false old l.length 0 = (old + (r.length : Int)) % 80 := by
      unfold slotI
      simp only [Bool.false_eq_true, if_false]
      rw [hlen]
      omega
    rw [hs] at hx ⊢
    have hr : r.reverse = ringL (G4 g1 g2 g3 g4) old r.length := by
      have h9 := hl
      rw [hlen, ring_succ] at h9
      rw [hl2] at h9
      exact (List.append_inj h9 (by rw [List.length_reverse, ringL_len])).1
    have hc : ringL (G4 g1 g2 g3 g4) old r.length = ringL (G4 (ups g1 ((old + (r.length : Int)) % 80).toNat (x.1 - p)) g2 g3 g4) old r.length := ring_cong (fun i hi => by
      unfold G4
      rw [ups_n (by omega)])
    refine ⟨?_, ?_⟩
    · rw [hlen, ring_succ, ← hc, ← hr]
      unfold ofl G4
      rw [ups_s]
      simp only [Bool.false_eq_true, if_false, List.reverse_cons]
      rw [← hx]
      rfl
    · rw [hlen, Nat.add_sub_cancel]
      unfold ofl
      simp only [Bool.false_eq_true, if_false]
      rw [← hc, hr]
  · simp only [fl, if_true] at hf
    have hs : slotI true old l.length 0 = old := by
      unfold slotI
      simp only [if_true]
      omega
    rw [hs] at hx ⊢
    have hcons : ∀ (G : Nat → Ly), ringL G old (r.length + 1) = G old.toNat :: ringL G ((old + 1) % 80) r.length := by
      intro G
      unfold ringL
      rw [List.range_succ_eq_map, List.map_cons, List.map_map]
      congr 1
      · show G ((old + ((0 : Nat) : Int)) % 80).toNat = G old.toNat
        rw [show ((old + ((0 : Nat) : Int)) % 80).toNat = old.toNat by omega]
      · apply List.map_congr_left
        intro i hi
        have := List.mem_range.mp hi
        show G _ = G _
        congr 2
        show (old + ((i + 1 : Nat) : Int)) % 80 = ((old + 1) % 80 + (i : Int)) % 80
        omega
    have hr : r = ringL (G4 g1 g2 g3 g4) ((old + 1) % 80) r.length := by
      have h9 := hl
      rw [hlen, hcons] at h9
      rw [hf] at h9
      exact (List.cons.inj h9).2
    have hc : ringL (G4 g1 g2 g3 g4) ((old + 1) % 80) r.length = ringL (G4 (ups g1 old.toNat (x.1 - p)) g2 g3 g4) ((old + 1) % 80) r.length := ring_cong (fun i hi => by
      unfold G4
      rw [ups_n (by omega)])
    refine ⟨?_, ?_⟩
    · rw [hlen, hcons, ← hc, ← hr]
      unfold ofl G4
      rw [ups_s]
      simp only [if_true]
      rw [← hx]
      rfl
    · rw [hlen, Nat.add_sub_cancel]
      unfold ofl
      simp only [if_true]
      rw [← hc, ← hr]
theorem flow_tot {cap : Int} {mf : Bool} {l : List Ly} {x : Ly} {r : List Ly} (hf : fl (cap, mf, l) = x :: r) : tot l = x.1 + tot r ∧ l.length = r.length + 1 := by
  refine ⟨?_, ?_⟩
  · have h := sum_fl (fun x => x.1) (cap, mf, l)
    rw [hf] at h
    simp only [sumL] at h
    simp only [tot]
    omega
  · have := congrArg List.length hf
    rw [fl_len] at this
    simpa using this
theorem tot_ofl (m : Bool) (l : List Ly) : tot (ofl m l) = tot l := sum_ofl _ m l
theorem len_ofl (m : Bool) (l : List Ly) : (ofl m l).length = l.length := by unfold ofl; split <;> simp
set_option maxHeartbeats 4000000 in
set_option maxRecDepth 20000 in
theorem c_takeOfNext (l : Launch) (hfl : l.stackTraces = false) (D : va_G) (cy : Nat → Nat) (σ : Wd) (h q1 q2 q3 q4 : Nat) (cap : Int) (mf : Bool) (ly : List Ly) (hB : BinR cy σ h q1 q2 q3 q4 (cap, mf, ly)) (x : Ly) (r : List Ly) (hf : fl (cap, mf, ly) = x :: r) (wt : Int) (hwt : 1 ≤ wt ∧ wt ≤ 1000000) : Ct l yX0_takeOfNext cX0_takeOfNext 4 (some .int) 2 0 0 D cy [.ref h, vi (wt)] σ (fun v σ' => v = some (vi (min wt x.1)) ∧ BinR cy σ' h q1 q2 q3 q4 (cap, mf, ofl mf (if wt < x.1 then (x.1 - wt, x.2) :: r else r)) ∧ Keep σ σ' (fun a => a = h ∨ a = q1) ∧ σ'.1 = σ.1) noX := by
  refine ct_start (by decide +kernel) hfl rfl (fun κ e1 e2 e3 C E NH => ?_)
  subst e1 e2 e3
  have C : Cx κ cX0_takeOfNext 4 RX0 "takeOfNext" 2 := C
  obtain ⟨-, -, -, -, hc, hs⟩ := id E
  show J κ σ [(0, .ref h), (1, vi (wt))] 0 [] 0 0
  obtain ⟨old, g1, g2, g3, g4, ⟨hh, ⟨h1, h2, h3, h4⟩, hne⟩, ho, hcn, hly, hok⟩ := hB
  dsimp only at hh ho hcn hly hok
  have hft := flow_tot hf
  have hx := fl_ok hok x (by rw [hf]; exact List.mem_cons_self)
  have hsl := slotI_in mf old ly.length 0
  have hxs : lyAt (fl (cap, mf, ly)) 0 = x := by rw [hf]; rfl
  rw [ring_fl hly (by omega) (by omega)] at hxs
  have hgx : g1 (slotI mf old ly.length 0).toNat = x.1 := by rw [← hxs]; rfl
  obtain ⟨⟨hx1, hx2⟩, hx3⟩ := hx
  have hrt := ring_take ho hcn hly hf (min wt x.1)
  have kp0 : Keep σ σ (fun a => a = h ∨ a = q1) := Keep.rf
  have dm0 : σ.1 = σ.1 := rfl
  refine j_aload_n 0 C dX0_takeOfNext_0 rfl rfl rfl ?_
  refine j_iconst C dX0_takeOfNext_1 rfl ?_
  refine j_callV (st' := []) (As := [vi (0)]) C dX0_takeOfNext_2 rfl m_X0_47 hh rfl rfl rfl (c_slotAt (kL κ) hfl (kD κ) (kc κ) σ h q1 q2 q3 q4 cap mf old ly.length (tot ly) 0 hh ho ⟨by omega, by omega⟩ (by omega)) rfl (by omega) (by omega) (by omega) (fun _ _ hx => hx.elim) (fun v2 τ1 hp3 => ?_)
  obtain ⟨rfl, rfl⟩ := hp3
  show J κ τ1 [(0, .ref h), (1, vi (wt))] 5 [vi (slotI mf old ly.length 0)] _ _
  obtain ⟨sl, hsl9⟩ : ∃ z : Int, slotI mf old ly.length 0 = z := ⟨_, rfl⟩
  rw [hsl9] at hsl hgx hrt ⊢
  refine j_istore_n (lv' := [(0, .ref h), (1, vi (wt)), (2, vi (sl))]) [1, 2, 0] C dX0_takeOfNext_5 rfl rfl rfl rfl ?_
  refine j_iload_n 1 C dX0_takeOfNext_6 rfl rfl rfl ?_
  refine j_aload_n 0 C dX0_takeOfNext_7 rfl rfl rfl ?_
  refine j_get C dX0_takeOfNext_8 rfl fg_X0_9 hh rfl ?_
  refine j_iload_n 2 C dX0_takeOfNext_11 rfl rfl rfl ?_
  obtain ⟨y4, hy4⟩ : ∃ y : Int, g1 sl.toNat = y := ⟨_, rfl⟩
  have ry4 : y4 = x.1 := hy4.symm.trans hgx
  refine j_iald C dX0_takeOfNext_12 rfl h1 ⟨by omega, by omega⟩ (by omega) hy4 ?_
  refine j_min (z := min wt x.1) C dX0_takeOfNext_13 rfl mm_X0_54 ms_min mi_math mc_min (by decide) (by omega) (by omega) ⟨by omega, by omega⟩ ⟨by omega, by omega⟩ (by rw [ry4]) ?_
  obtain ⟨pt, hpt⟩ : ∃ z : Int, min wt x.1 = z := ⟨_, rfl⟩
  rw [hpt] at hrt ⊢
  refine j_istore_n (lv' := [(0, .ref h), (1, vi (wt)), (2, vi (sl)), (3, vi (pt))]) [1, 2, 3, 0] C dX0_takeOfNext_16 rfl rfl rfl rfl ?_
  refine j_aload_n 0 C dX0_takeOfNext_17 rfl rfl rfl ?_
  refine j_get C dX0_takeOfNext_18 rfl fg_X0_9 hh rfl ?_
  refine j_iload_n 2 C dX0_takeOfNext_21 rfl rfl rfl ?_
  refine j_dup2 C dX0_takeOfNext_22 rfl rfl rfl ?_
  obtain ⟨y5, hy5⟩ : ∃ y : Int, g1 sl.toNat = y := ⟨_, rfl⟩
  refine j_iald C dX0_takeOfNext_23 rfl h1 ⟨by omega, by omega⟩ (by omega) hy5 ?_
  refine j_iload_n 3 C dX0_takeOfNext_24 rfl rfl rfl ?_
  refine j_isub C dX0_takeOfNext_25 rfl ?_
  refine j_iast C dX0_takeOfNext_26 rfl h1 ⟨by omega, by omega⟩ (by omega) (fun τ6 ee7 => ?_)
  have u8 := hh.ne' ee7 (hh.nk h1 rfl)
  have u9 : has τ6 q1 (iA (kc κ) 80 (ups g1 sl.toNat (y5 - pt))) := h1.self' ee7
  have u10 := h2.ne' ee7 (Ne.symm hne.1)
  have u11 := h3.ne' ee7 (Ne.symm hne.2.1)
  have u12 := h4.ne' ee7 (Ne.symm hne.2.2.1)
  have kp13 := kp0.put ee7 (Or.inr rfl)
  have dm14 := (dom_put ee7).trans dm0
  refine j_aload_n 0 C dX0_takeOfNext_27 rfl rfl rfl ?_
  refine j_dup C dX0_takeOfNext_28 rfl rfl ?_
  refine j_get C dX0_takeOfNext_29 rfl fg_X0_31 u8 rfl ?_
  refine j_iload_n 3 C dX0_takeOfNext_32 rfl rfl rfl ?_
  refine j_isub C dX0_takeOfNext_33 rfl ?_
  refine j_put (fs' := [vi (cap), vi (b01 mf), .ref q1, .ref q2, .ref q3, .ref q4, vi (old), vi ((ly.length : Int)), vi ((tot ly) - pt)]) C dX0_takeOfNext_34 rfl fa_X0_31 u8 rfl rfl rfl rfl (fun τ15 ee16 => ?_)
  have u17 : has τ15 h (.inr (0, [vi (cap), vi (b01 mf), .ref q1, .ref q2, .ref q3, .ref q4, vi (old), vi ((ly.length : Int)), vi ((tot ly) - pt)])) := u8.self' ee16
  have u18 := u9.ne' ee16 (u9.nk u8 rfl)
  have u19 := u10.ne' ee16 (u10.nk u8 rfl)
  have u20 := u11.ne' ee16 (u11.nk u8 rfl)
  have u21 := u12.ne' ee16 (u12.nk u8 rfl)
  have kp22 := kp13.put ee16 (Or.inl rfl)
  have dm23 := (dom_put ee16).trans dm14
  refine j_aload_n 0 C dX0_takeOfNext_37 rfl rfl rfl ?_
  refine j_get C dX0_takeOfNext_38 rfl fg_X0_9 u17 rfl ?_
  refine j_iload_n 2 C dX0_takeOfNext_41 rfl rfl rfl ?_
  obtain ⟨y24, hy24⟩ : ∃ y : Int, (ups g1 sl.toNat (y5 - pt)) sl.toNat = y := ⟨_, rfl⟩
  have ry24 : y24 = x.1 - pt := by rw [← hy24]; exact (ups_s).trans (by omega)
  refine j_iald C dX0_takeOfNext_42 rfl u18 ⟨by omega, by omega⟩ (by omega) hy24 ?_
  refine j_if_ne (tgt := 79) C dX0_takeOfNext_43 rfl rfl ⟨by omega, by omega⟩ (fun cc25 => ?_) (fun cc25 => ?_)
  · have hgG : ringL (G4 (ups g1 sl.toNat (x.1 - pt)) g2 g3 g4) old ly.length = ringL (G4 (ups g1 sl.toNat (y5 - pt)) g2 g3 g4) old ly.length := by rw [show x.1 - pt = y5 - pt from by omega]
    refine j_iload_n 3 C dX0_takeOfNext_79 rfl rfl rfl ?_
    have hlt : wt < x.1 := by omega
    exact j_iret C E dX0_takeOfNext_80 (by omega) (by omega) ⟨congrArg some (congrArg vi hpt.symm), (by rw [if_pos hlt]; exact BinR.of (cnt := (ly.length : Int)) (tt := tot ly - pt) ⟨u17, ⟨u18, u19, u20, u21⟩, hne⟩ (by rw [len_ofl, List.length_cons]; omega) (by rw [tot_ofl]; simp only [tot, sumL] at hft ⊢; omega) ho (by rw [len_ofl, List.length_cons]; omega) (by rw [len_ofl, List.length_cons, ← hft.2]; rw [show x.1 - wt = x.1 - pt by omega]; rw [hrt.1]; exact hgG) (ofl_ok (fun z hz => (List.mem_cons.mp hz).elim (fun e => by rw [e]; exact ⟨⟨by omega, by omega⟩, hx3⟩) (fun hz => fl_ok hok z (by rw [hf]; exact List.mem_cons_of_mem _ hz))))), kp22, dm23⟩
  · refine j_aload_n 0 C dX0_takeOfNext_46 rfl rfl rfl ?_
    refine j_aload_n 0 C dX0_takeOfNext_47 rfl rfl rfl ?_
    refine j_get C dX0_takeOfNext_48 rfl fg_X0_37 u17 rfl ?_
    refine j_if_eq (tgt := 62) C dX0_takeOfNext_51 rfl rfl ⟨by unfold b01; split <;> decide, by unfold b01; split <;> decide⟩ (fun cc26 => ?_) (fun cc26 => ?_)
    · refine j_aload_n 0 C dX0_takeOfNext_62 rfl rfl rfl ?_
      refine j_get C dX0_takeOfNext_63 rfl fg_X0_24 u17 rfl ?_
      refine j_put (fs' := [vi (cap), vi (b01 mf), .ref q1, .ref q2, .ref q3, .ref q4, vi (old), vi ((ly.length : Int)), vi ((tot ly) - pt)]) C dX0_takeOfNext_66 rfl fa_X0_24 u17 rfl rfl rfl rfl (fun τ27 ee28 => ?_)
      have u29 : has τ27 h (.inr (0, [vi (cap), vi (b01 mf), .ref q1, .ref q2, .ref q3, .ref q4, vi (old), vi ((ly.length : Int)), vi ((tot ly) - pt)])) := u17.self' ee28
      have u30 := u18.ne' ee28 (u18.nk u17 rfl)
      have u31 := u19.ne' ee28 (u19.nk u17 rfl)
      have u32 := u20.ne' ee28 (u20.nk u17 rfl)
      have u33 := u21.ne' ee28 (u21.nk u17 rfl)
      have kp34 := kp22.put ee28 (Or.inl rfl)
      have dm35 := (dom_put ee28).trans dm23
      refine j_aload_n 0 C dX0_takeOfNext_69 rfl rfl rfl ?_
      refine j_dup C dX0_takeOfNext_70 rfl rfl ?_
      refine j_get C dX0_takeOfNext_71 rfl fg_X0_28 u29 rfl ?_
      refine j_iconst C dX0_takeOfNext_74 rfl ?_
      refine j_isub C dX0_takeOfNext_75 rfl ?_
      refine j_put (fs' := [vi (cap), vi (b01 mf), .ref q1, .ref q2, .ref q3, .ref q4, vi (old), vi ((ly.length : Int) - 1), vi ((tot ly) - pt)]) C dX0_takeOfNext_76 rfl fa_X0_28 u29 rfl rfl rfl rfl (fun τ36 ee37 => ?_)
      have u38 : has τ36 h (.inr (0, [vi (cap), vi (b01 mf), .ref q1, .ref q2, .ref q3, .ref q4, vi (old), vi ((ly.length : Int) - 1), vi ((tot ly) - pt)])) := u29.self' ee37
      have u39 := u30.ne' ee37 (u30.nk u29 rfl)
      have u40 := u31.ne' ee37 (u31.nk u29 rfl)
      have u41 := u32.ne' ee37 (u32.nk u29 rfl)
      have u42 := u33.ne' ee37 (u33.nk u29 rfl)
      have kp43 := kp34.put ee37 (Or.inl rfl)
      have dm44 := (dom_put ee37).trans dm35
      refine j_iload_n 3 C dX0_takeOfNext_79 rfl rfl rfl ?_
      have hmf : mf = false := by rcases b01_in mf with ⟨e9, h9⟩ | ⟨e9, h9⟩ <;> first | exact h9 | exact absurd e9 cc26 | (exfalso; omega)
      have hgG : ringL (G4 (ups g1 sl.toNat (x.1 - pt)) g2 g3 g4) (if mf then (old + 1) % 80 else old) (ly.length - 1) = ringL (G4 (ups g1 sl.toNat (y5 - pt)) g2 g3 g4) old (ly.length - 1) := by rw [show x.1 - pt = y5 - pt from by omega, hmf]; rfl
      have hlt : ¬ wt < x.1 := by omega
      exact j_iret C E dX0_takeOfNext_80 (by omega) (by omega) ⟨congrArg some (congrArg vi hpt.symm), (by rw [if_neg hlt]; exact BinR.of (cnt := (ly.length : Int) - 1) (tt := tot ly - pt) ⟨u38, ⟨u39, u40, u41, u42⟩, hne⟩ (by rw [len_ofl]; omega) (by rw [tot_ofl]; omega) (by first | exact ho | exact ⟨by omega, by omega⟩) (by rw [len_ofl]; omega) (by rw [len_ofl, show r.length = ly.length - 1 by omega]; rw [hrt.2]; exact hgG) (ofl_ok (fun z hz => fl_ok hok z (by rw [hf]; exact List.mem_cons_of_mem _ hz)))), kp43, dm44⟩
    · refine j_aload_n 0 C dX0_takeOfNext_54 rfl rfl rfl ?_
      refine j_iconst C dX0_takeOfNext_55 rfl ?_
      refine j_callV (st' := [.ref h]) (As := [vi (1)]) C dX0_takeOfNext_56 rfl m_X0_51 u17 rfl rfl rfl (c_slotFromOldest (kL κ) hfl (kD κ) (kc κ) τ15 h q1 q2 q3 q4 cap mf old ly.length (tot ly - pt) 1 u17 ho ⟨by omega, by omega⟩) rfl (by omega) (by omega) (by omega) (fun _ _ hx => hx.elim) (fun v46 τ45 hp47 => ?_)
      obtain ⟨rfl, rfl⟩ := hp47
      show J κ τ45 [(0, .ref h), (1, vi (wt)), (2, vi (sl)), (3, vi (pt))] 59 [vi ((old + 1) % 80), .ref h] _ _
      have hmf : mf = true := by rcases b01_in mf with ⟨e9, h9⟩ | ⟨e9, h9⟩ <;> first | exact h9 | exact absurd e9 cc26 | (exfalso; omega)
      have hgG : ringL (G4 (ups g1 sl.toNat (x.1 - pt)) g2 g3 g4) (if mf then (old + 1) % 80 else old) (ly.length - 1) = ringL (G4 (ups g1 sl.toNat (y5 - pt)) g2 g3 g4) ((old + 1) % 80) (ly.length - 1) := by rw [show x.1 - pt = y5 - pt from by omega, hmf]; rfl
      refine j_goto (tgt := 66) C dX0_takeOfNext_59 rfl ?_
      refine j_put (fs' := [vi (cap), vi (b01 mf), .ref q1, .ref q2, .ref q3, .ref q4, vi ((old + 1) % 80), vi ((ly.length : Int)), vi ((tot ly) - pt)]) C dX0_takeOfNext_66 rfl fa_X0_24 u17 rfl rfl rfl rfl (fun τ48 ee49 => ?_)
      have u50 : has τ48 h (.inr (0, [vi (cap), vi (b01 mf), .ref q1, .ref q2, .ref q3, .ref q4, vi ((old + 1) % 80), vi ((ly.length : Int)), vi ((tot ly) - pt)])) := u17.self' ee49
      have u51 := u18.ne' ee49 (u18.nk u17 rfl)
      have u52 := u19.ne' ee49 (u19.nk u17 rfl)
      have u53 := u20.ne' ee49 (u20.nk u17 rfl)
      have u54 := u21.ne' ee49 (u21.nk u17 rfl)
      have kp55 := kp22.put ee49 (Or.inl rfl)
      have dm56 := (dom_put ee49).trans dm23
      refine j_aload_n 0 C dX0_takeOfNext_69 rfl rfl rfl ?_
      refine j_dup C dX0_takeOfNext_70 rfl rfl ?_
      refine j_get C dX0_takeOfNext_71 rfl fg_X0_28 u50 rfl ?_
      refine j_iconst C dX0_takeOfNext_74 rfl ?_
      refine j_isub C dX0_takeOfNext_75 rfl ?_
      refine j_put (fs' := [vi (cap), vi (b01 mf), .ref q1, .ref q2, .ref q3, .ref q4, vi ((old + 1) % 80), vi ((ly.length : Int) - 1), vi ((tot ly) - pt)]) C dX0_takeOfNext_76 rfl fa_X0_28 u50 rfl rfl rfl rfl (fun τ57 ee58 => ?_)
      have u59 : has τ57 h (.inr (0, [vi (cap), vi (b01 mf), .ref q1, .ref q2, .ref q3, .ref q4, vi ((old + 1) % 80), vi ((ly.length : Int) - 1), vi ((tot ly) - pt)])) := u50.self' ee58
      have u60 := u51.ne' ee58 (u51.nk u50 rfl)
      have u61 := u52.ne' ee58 (u52.nk u50 rfl)
      have u62 := u53.ne' ee58 (u53.nk u50 rfl)
      have u63 := u54.ne' ee58 (u54.nk u50 rfl)
      have kp64 := kp55.put ee58 (Or.inl rfl)
      have dm65 := (dom_put ee58).trans dm56
      refine j_iload_n 3 C dX0_takeOfNext_79 rfl rfl rfl ?_
      have hlt : ¬ wt < x.1 := by omega
      exact j_iret C E dX0_takeOfNext_80 (by omega) (by omega) ⟨congrArg some (congrArg vi hpt.symm), (by rw [if_neg hlt]; exact BinR.of (cnt := (ly.length : Int) - 1) (tt := tot ly - pt) ⟨u59, ⟨u60, u61, u62, u63⟩, hne⟩ (by rw [len_ofl]; omega) (by rw [tot_ofl]; omega) (by first | exact ho | exact ⟨by omega, by omega⟩) (by rw [len_ofl]; omega) (by rw [len_ofl, show r.length = ly.length - 1 by omega]; rw [hrt.2]; exact hgG) (ofl_ok (fun z hz => fl_ok hok z (by rw [hf]; exact List.mem_cons_of_mem _ hz)))), kp64, dm65⟩
