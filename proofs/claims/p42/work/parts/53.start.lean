/-! the start of GrainElevator -/
def pfI : Nat → Int := ups (ups (ups (ups (ups (fun _ => 0) 0 0) 1 500) 2 480) 3 450) 4 380
def gpI : Nat → Int := ups (ups (ups (ups (fun _ => 0) 0 500) 1 480) 2 450) 3 380
abbrev hd0 : Hd := (fun _ => 0, 0, 0, 500, 0)
theorem nd_app : ∀ {A B : List Nat}, (A ++ B).Nodup → B.Nodup ∧ ∀ a ∈ A, a ∉ B
  | [], B, h => ⟨h, fun a ha => absurd ha List.not_mem_nil⟩
  | x :: A, B, h => by
    have h' : (x :: (A ++ B)).Nodup := h
    obtain ⟨h1, h2⟩ := List.nodup_cons.mp h'
    obtain ⟨h3, h4⟩ := nd_app h2
    refine ⟨h3, fun a ha => ?_⟩
    rcases List.mem_cons.mp ha with rfl | ha
    · exact fun hb => h1 (List.mem_append_right _ hb)
    · exact h4 a ha
def ixN : List Nat → Nat → Nat
  | [], _ => 0
  | x :: l, y => if y = x then 0 else ixN l y + 1
theorem ixN_at : ∀ {L : List Nat} {i a : Nat}, L.Nodup → L[i]? = some a → ixN L a = i
  | [], i, a, _, h => by simp at h
  | x :: l, 0, a, _, h => by
    have e : x = a := by simpa using h
    rw [ixN, if_pos e.symm]
  | x :: l, i + 1, a, hn, h => by
    obtain ⟨h1, h2⟩ := List.nodup_cons.mp hn
    have h3 : l[i]? = some a := by simpa using h
    have h4 : a ≠ x := fun e => h1 (by rw [← e]; exact List.mem_of_getElem? h3)
    rw [ixN, if_neg h4, ixN_at h2 h3]
theorem tag_at {L : List Nat} (hn : L.Nodup) (T : List Nat) {i a d : Nat} (h : L[i]? = some a) : T.getD (ixN L a) d = T.getD i d := by rw [ixN_at hn h]
theorem ixN_out : ∀ {L : List Nat} {a : Nat}, a ∉ L → ixN L a = L.length
  | [], _, _ => rfl
  | x :: l, a, h => by
    rw [ixN, if_neg (fun e => h (by rw [e]; exact List.mem_cons_self)), ixN_out (fun z => h (List.mem_cons_of_mem _ z))]
    rfl
theorem j_nd {κ : Kx} {σ : Wd} {lv : List (Nat × Value)} {pc : Nat} {st : List Value} {k n : Nat} (kk : σ.1.Nodup → J κ σ lv pc st k n) : J κ σ lv pc st k n := fun H locs ls hl hP hD hS => kk (wl_D.mp hD).1 H locs ls hl hP hD hS
theorem Ok.nil : Ok [] ruI 0 pfI hd0 [] [] := ⟨by decide, fun b hb => absurd hb List.not_mem_nil, ⟨by decide, by decide⟩, ⟨⟨by decide, by decide⟩, rfl, by decide, by decide⟩, by decide, by decide, Rep.nil []⟩
set_option maxHeartbeats 16000000 in
set_option maxRecDepth 20000 in
theorem c_xInit (l : Launch) (hfl : l.stackTraces = false) (D : va_G) (cy : Nat → Nat) (σ : Wd) (h : Nat) (hh : has σ h (.inr (6, [.null, .null, .null, .null, .null, .null, .null, vl 0]))) : Ct l yX6_init cX6_init 1 none 3 20 200 D cy [.ref h] σ (fun v σ' => v = none ∧ ∃ tg ad : Nat → Nat, ad 0 = h ∧ RX cy σ' tg ad [] ruI 0 pfI hd0 0 [] [] ∧ Keep σ σ' (fun y => y = h) ∧ (∀ y, y ∈ σ.1 → y ∈ σ'.1) ∧ ∀ y, y ∈ σ.1 → y ≠ h → 1000 ≤ tg y) noX := by
  refine ct_start (by decide +kernel) hfl rfl (fun κ e1 e2 e3 C E NH => ?_)
  subst e1 e2 e3
  have C : Cx κ cX6_init 1 RX6 "<init>" 3 := C
  obtain ⟨-, -, -, -, hc, hs⟩ := id E
  show J κ σ [(0, .ref h)] 0 [] 0 0
  have dm0 : σ.1 = σ.1 := rfl
  have tkA : Keep σ σ (fun y => y = h) := Keep.rf
  have tmA : ∀ y, y ∈ σ.1 → y ∈ σ.1 := fun _ hy => hy
  refine j_aload_n 0 C dX6_init_0 rfl rfl rfl ?_
  refine j_objInit C dX6_init_1 rfl oi_X6_3 oi_in oi_co (Nat.le_of_ble_eq_true rfl) ?_
  refine j_aload_n 0 C dX6_init_4 rfl rfl rfl ?_
  refine j_new C dX6_init_5 rfl na_X6_9 (by omega) (by omega) (k' := 1) (n' := 3) (by first | rfl | omega) (by first | rfl | omega) (fun l1 τ1 nq3 ee2 => ?_)
  have u4 := hh.old' ee2 nq3
  have u5 : has τ1 l1 (.inr (9, [vi (0), .null, vi (0)])) := has.fresh' ee2
  have dm6 := (dom_new ee2).trans (congrArg (· ++ [l1]) dm0)
  have na_l1_A := fun hy => nq3 (tmA l1 hy)
  have tkA7 := tkA.new ee2 nq3
  have tmA8 := fun y hy => (by rw [dom_new ee2]; exact List.mem_append_left _ (tmA y hy) : y ∈ τ1.1)
  refine j_dup C dX6_init_8 rfl rfl ?_
  refine j_callI (st' := [.ref l1, .ref h]) (As := []) C dX6_init_9 rfl m_X6_11 rfl rfl (c_listInit (kL κ) hfl (kD κ) (kc κ) τ1 l1 u5) rfl (by omega) (by omega) (by omega) (fun _ _ hx => hx.elim) (fun v10 τ9 hp11 => ?_)
  obtain ⟨rfl, hlB, hkB, hdB⟩ := hp11
  show J κ τ9 [(0, .ref h)] 12 [.ref l1, .ref h] _ _
  have u12 := hkB _ _ u4 (fun z => (hh.apart nq3) z)
  have tkA13 := tkA7.tr2 hkB (fun y z => Or.inr (fun hy => na_l1_A (by rw [← (show y = l1 from z)]; exact hy)))
  have tmA14 := fun y hy => (by rw [hdB]; exact (tmA8 y hy) : y ∈ τ9.1)
  have dm15 := hdB.trans (dm6)
  show J κ τ9 [(0, .ref h)] 12 [.ref l1, .ref h] 1 3
  have tkB : Keep τ9 τ9 (fun y => y = h) := Keep.rf
  have tmB : ∀ y, y ∈ τ9.1 → y ∈ τ9.1 := fun _ hy => hy
  refine j_putF (fs' := [.ref l1, .null, .null, .null, .null, .null, .null, vl (0)]) C dX6_init_12 rfl fa_X6_12 u12 rfl rfl rfl rfl (fun τ16 ee17 => ?_)
  have u18 : has τ16 h (.inr (6, [.ref l1, .null, .null, .null, .null, .null, .null, vl (0)])) := u12.self' ee17
  have dm19 := (dom_put ee17).trans dm15
  have tkA20 := tkA13.put ee17 rfl
  have tmA21 := fun y hy => (by rw [dom_put ee17]; exact tmA14 y hy : y ∈ τ16.1)
  have tkB22 := tkB.put ee17 rfl
  have tmB23 := fun y hy => (by rw [dom_put ee17]; exact tmB y hy : y ∈ τ16.1)
  refine j_aload_n 0 C dX6_init_15 rfl rfl rfl ?_
  refine j_new C dX6_init_16 rfl na_X6_9 (by omega) (by omega) (k' := 2) (n' := 6) (by first | rfl | omega) (by first | rfl | omega) (fun l3 τ24 nq26 ee25 => ?_)
  have u27 := u18.old' ee25 nq26
  have u28 : has τ24 l3 (.inr (9, [vi (0), .null, vi (0)])) := has.fresh' ee25
  have dm29 := (dom_new ee25).trans (congrArg (· ++ [l3]) dm19)
  have na_l3_A := fun hy => nq26 (tmA21 l3 hy)
  have na_l3_B := fun hy => nq26 (tmB23 l3 hy)
  have tkA30 := tkA20.new ee25 nq26
  have tmA31 := fun y hy => (by rw [dom_new ee25]; exact List.mem_append_left _ (tmA21 y hy) : y ∈ τ24.1)
  have tkB32 := tkB22.new ee25 nq26
  have tmB33 := fun y hy => (by rw [dom_new ee25]; exact List.mem_append_left _ (tmB23 y hy) : y ∈ τ24.1)
  refine j_dup C dX6_init_19 rfl rfl ?_
  refine j_callI (st' := [.ref l3, .ref h]) (As := []) C dX6_init_20 rfl m_X6_11 rfl rfl (c_listInit (kL κ) hfl (kD κ) (kc κ) τ24 l3 u28) rfl (by omega) (by omega) (by omega) (fun _ _ hx => hx.elim) (fun v35 τ34 hp36 => ?_)
  obtain ⟨rfl, hlC, hkC, hdC⟩ := hp36
  show J κ τ34 [(0, .ref h)] 23 [.ref l3, .ref h] _ _
  have u37 := hkC _ _ u27 (fun z => (u18.apart nq26) z)
  have tkA38 := tkA30.tr2 hkC (fun y z => Or.inr (fun hy => na_l3_A (by rw [← (show y = l3 from z)]; exact hy)))
  have tmA39 := fun y hy => (by rw [hdC]; exact (tmA31 y hy) : y ∈ τ34.1)
  have tkB40 := tkB32.tr2 hkC (fun y z => Or.inr (fun hy => na_l3_B (by rw [← (show y = l3 from z)]; exact hy)))
  have tmB41 := fun y hy => (by rw [hdC]; exact (tmB33 y hy) : y ∈ τ34.1)
  have dm42 := hdC.trans (dm29)
  show J κ τ34 [(0, .ref h)] 23 [.ref l3, .ref h] 2 6
  have tkC : Keep τ34 τ34 (fun y => y = h) := Keep.rf
  have tmC : ∀ y, y ∈ τ34.1 → y ∈ τ34.1 := fun _ hy => hy
  refine j_putF (fs' := [.ref l1, .ref l3, .null, .null, .null, .null, .null, vl (0)]) C dX6_init_23 rfl fa_X6_16 u37 rfl rfl rfl rfl (fun τ43 ee44 => ?_)
  have u45 : has τ43 h (.inr (6, [.ref l1, .ref l3, .null, .null, .null, .null, .null, vl (0)])) := u37.self' ee44
  have dm46 := (dom_put ee44).trans dm42
  have tkA47 := tkA38.put ee44 rfl
  have tmA48 := fun y hy => (by rw [dom_put ee44]; exact tmA39 y hy : y ∈ τ43.1)
  have tkB49 := tkB40.put ee44 rfl
  have tmB50 := fun y hy => (by rw [dom_put ee44]; exact tmB41 y hy : y ∈ τ43.1)
  have tkC51 := tkC.put ee44 rfl
  have tmC52 := fun y hy => (by rw [dom_put ee44]; exact tmC y hy : y ∈ τ43.1)
  refine j_aload_n 0 C dX6_init_26 rfl rfl rfl ?_
  refine j_new C dX6_init_27 rfl na_X6_9 (by omega) (by omega) (k' := 3) (n' := 9) (by first | rfl | omega) (by first | rfl | omega) (fun l5 τ53 nq55 ee54 => ?_)
  have u56 := u45.old' ee54 nq55
  have u57 : has τ53 l5 (.inr (9, [vi (0), .null, vi (0)])) := has.fresh' ee54
  have dm58 := (dom_new ee54).trans (congrArg (· ++ [l5]) dm46)
  have na_l5_A := fun hy => nq55 (tmA48 l5 hy)
  have na_l5_B := fun hy => nq55 (tmB50 l5 hy)
  have na_l5_C := fun hy => nq55 (tmC52 l5 hy)
  have tkA59 := tkA47.new ee54 nq55
  have tmA60 := fun y hy => (by rw [dom_new ee54]; exact List.mem_append_left _ (tmA48 y hy) : y ∈ τ53.1)
  have tkB61 := tkB49.new ee54 nq55
  have tmB62 := fun y hy => (by rw [dom_new ee54]; exact List.mem_append_left _ (tmB50 y hy) : y ∈ τ53.1)
  have tkC63 := tkC51.new ee54 nq55
  have tmC64 := fun y hy => (by rw [dom_new ee54]; exact List.mem_append_left _ (tmC52 y hy) : y ∈ τ53.1)
  refine j_dup C dX6_init_30 rfl rfl ?_
  refine j_callI (st' := [.ref l5, .ref h]) (As := []) C dX6_init_31 rfl m_X6_11 rfl rfl (c_listInit (kL κ) hfl (kD κ) (kc κ) τ53 l5 u57) rfl (by omega) (by omega) (by omega) (fun _ _ hx => hx.elim) (fun v66 τ65 hp67 => ?_)
  obtain ⟨rfl, hlD, hkD, hdD⟩ := hp67
  show J κ τ65 [(0, .ref h)] 34 [.ref l5, .ref h] _ _
  have u68 := hkD _ _ u56 (fun z => (u45.apart nq55) z)
  have tkA69 := tkA59.tr2 hkD (fun y z => Or.inr (fun hy => na_l5_A (by rw [← (show y = l5 from z)]; exact hy)))
  have tmA70 := fun y hy => (by rw [hdD]; exact (tmA60 y hy) : y ∈ τ65.1)
  have tkB71 := tkB61.tr2 hkD (fun y z => Or.inr (fun hy => na_l5_B (by rw [← (show y = l5 from z)]; exact hy)))
  have tmB72 := fun y hy => (by rw [hdD]; exact (tmB62 y hy) : y ∈ τ65.1)
  have tkC73 := tkC63.tr2 hkD (fun y z => Or.inr (fun hy => na_l5_C (by rw [← (show y = l5 from z)]; exact hy)))
  have tmC74 := fun y hy => (by rw [hdD]; exact (tmC64 y hy) : y ∈ τ65.1)
  have dm75 := hdD.trans (dm58)
  show J κ τ65 [(0, .ref h)] 34 [.ref l5, .ref h] 3 9
  have tkD : Keep τ65 τ65 (fun y => y = h) := Keep.rf
  have tmD : ∀ y, y ∈ τ65.1 → y ∈ τ65.1 := fun _ hy => hy
  refine j_putF (fs' := [.ref l1, .ref l3, .ref l5, .null, .null, .null, .null, vl (0)]) C dX6_init_34 rfl fa_X6_19 u68 rfl rfl rfl rfl (fun τ76 ee77 => ?_)
  have u78 : has τ76 h (.inr (6, [.ref l1, .ref l3, .ref l5, .null, .null, .null, .null, vl (0)])) := u68.self' ee77
  have dm79 := (dom_put ee77).trans dm75
  have tkA80 := tkA69.put ee77 rfl
  have tmA81 := fun y hy => (by rw [dom_put ee77]; exact tmA70 y hy : y ∈ τ76.1)
  have tkB82 := tkB71.put ee77 rfl
  have tmB83 := fun y hy => (by rw [dom_put ee77]; exact tmB72 y hy : y ∈ τ76.1)
  have tkC84 := tkC73.put ee77 rfl
  have tmC85 := fun y hy => (by rw [dom_put ee77]; exact tmC74 y hy : y ∈ τ76.1)
  have tkD86 := tkD.put ee77 rfl
  have tmD87 := fun y hy => (by rw [dom_put ee77]; exact tmD y hy : y ∈ τ76.1)
  refine j_aload_n 0 C dX6_init_37 rfl rfl rfl ?_
  refine j_new C dX6_init_38 rfl na_X6_22 (by omega) (by omega) (k' := 4) (n' := 12) (by first | rfl | omega) (by first | rfl | omega) (fun r7 τ88 nq90 ee89 => ?_)
  have u91 := u78.old' ee89 nq90
  have u92 : has τ88 r7 (.inr (5, [.null, .null, vi (0)])) := has.fresh' ee89
  have dm93 := (dom_new ee89).trans (congrArg (· ++ [r7]) dm79)
  have na_r7_A := fun hy => nq90 (tmA81 r7 hy)
  have na_r7_B := fun hy => nq90 (tmB83 r7 hy)
  have na_r7_C := fun hy => nq90 (tmC85 r7 hy)
  have na_r7_D := fun hy => nq90 (tmD87 r7 hy)
  have tkA94 := tkA80.new ee89 nq90
  have tmA95 := fun y hy => (by rw [dom_new ee89]; exact List.mem_append_left _ (tmA81 y hy) : y ∈ τ88.1)
  have tkB96 := tkB82.new ee89 nq90
  have tmB97 := fun y hy => (by rw [dom_new ee89]; exact List.mem_append_left _ (tmB83 y hy) : y ∈ τ88.1)
  have tkC98 := tkC84.new ee89 nq90
  have tmC99 := fun y hy => (by rw [dom_new ee89]; exact List.mem_append_left _ (tmC85 y hy) : y ∈ τ88.1)
  have tkD100 := tkD86.new ee89 nq90
  have tmD101 := fun y hy => (by rw [dom_new ee89]; exact List.mem_append_left _ (tmD87 y hy) : y ∈ τ88.1)
  refine j_dup C dX6_init_41 rfl rfl ?_
  refine j_callI (st' := [.ref r7, .ref h]) (As := []) C dX6_init_42 rfl m_X6_24 rfl rfl (c_rulesInit (kL κ) hfl (kD κ) (kc κ) τ88 r7 u92) rfl (by omega) (by omega) (by omega) (fun _ _ hx => hx.elim) (fun v103 τ102 hp104 => ?_)
  obtain ⟨rfl, m8, f9, hR, hm8, hf9, hkR, hdR⟩ := hp104
  show J κ τ102 [(0, .ref h)] 45 [.ref r7, .ref h] _ _
  have u105 := hkR _ _ u91 (fun z => (u78.apart nq90) z)
  have tkA106 := tkA94.tr2 hkR (fun y z => Or.inr (fun hy => na_r7_A (by rw [← (show y = r7 from z)]; exact hy)))
  have tmA107 := fun y hy => (by rw [hdR]; exact List.mem_append_left _ (tmA95 y hy) : y ∈ τ102.1)
  have tkB108 := tkB96.tr2 hkR (fun y z => Or.inr (fun hy => na_r7_B (by rw [← (show y = r7 from z)]; exact hy)))
  have tmB109 := fun y hy => (by rw [hdR]; exact List.mem_append_left _ (tmB97 y hy) : y ∈ τ102.1)
  have tkC110 := tkC98.tr2 hkR (fun y z => Or.inr (fun hy => na_r7_C (by rw [← (show y = r7 from z)]; exact hy)))
  have tmC111 := fun y hy => (by rw [hdR]; exact List.mem_append_left _ (tmC99 y hy) : y ∈ τ102.1)
  have tkD112 := tkD100.tr2 hkR (fun y z => Or.inr (fun hy => na_r7_D (by rw [← (show y = r7 from z)]; exact hy)))
  have tmD113 := fun y hy => (by rw [hdR]; exact List.mem_append_left _ (tmD101 y hy) : y ∈ τ102.1)
  have dm114 := hdR.trans (congrArg (· ++ [m8, f9]) dm93)
  show J κ τ102 [(0, .ref h)] 45 [.ref r7, .ref h] 6 36
  have tkR : Keep τ102 τ102 (fun y => y = h) := Keep.rf
  have tmR : ∀ y, y ∈ τ102.1 → y ∈ τ102.1 := fun _ hy => hy
  refine j_putF (fs' := [.ref l1, .ref l3, .ref l5, .ref r7, .null, .null, .null, vl (0)]) C dX6_init_45 rfl fa_X6_25 u105 rfl rfl rfl rfl (fun τ115 ee116 => ?_)
  have u117 : has τ115 h (.inr (6, [.ref l1, .ref l3, .ref l5, .ref r7, .null, .null, .null, vl (0)])) := u105.self' ee116
  have dm118 := (dom_put ee116).trans dm114
  have tkA119 := tkA106.put ee116 rfl
  have tmA120 := fun y hy => (by rw [dom_put ee116]; exact tmA107 y hy : y ∈ τ115.1)
  have tkB121 := tkB108.put ee116 rfl
  have tmB122 := fun y hy => (by rw [dom_put ee116]; exact tmB109 y hy : y ∈ τ115.1)
  have tkC123 := tkC110.put ee116 rfl
  have tmC124 := fun y hy => (by rw [dom_put ee116]; exact tmC111 y hy : y ∈ τ115.1)
  have tkD125 := tkD112.put ee116 rfl
  have tmD126 := fun y hy => (by rw [dom_put ee116]; exact tmD113 y hy : y ∈ τ115.1)
  have tkR127 := tkR.put ee116 rfl
  have tmR128 := fun y hy => (by rw [dom_put ee116]; exact tmR y hy : y ∈ τ115.1)
  refine j_aload_n 0 C dX6_init_48 rfl rfl rfl ?_
  refine j_iconst C dX6_init_49 rfl ?_
  refine j_newI C dX6_init_50 rfl aw_int ⟨by omega, by omega⟩ (by omega) (by omega) (k' := 7) (n' := 41) (by first | rfl | omega) (by first | rfl | omega) (fun p10 τ129 nq131 ee130 => ?_)
  have u132 := u117.old' ee130 nq131
  have u133 : has τ129 p10 (iA (kc κ) 5 (fun _ => 0)) := has.fresh' ee130
  have dm134 := (dom_new ee130).trans (congrArg (· ++ [p10]) dm118)
  have na_p10_A := fun hy => nq131 (tmA120 p10 hy)
  have na_p10_B := fun hy => nq131 (tmB122 p10 hy)
  have na_p10_C := fun hy => nq131 (tmC124 p10 hy)
  have na_p10_D := fun hy => nq131 (tmD126 p10 hy)
  have na_p10_R := fun hy => nq131 (tmR128 p10 hy)
  have tkA135 := tkA119.new ee130 nq131
  have tmA136 := fun y hy => (by rw [dom_new ee130]; exact List.mem_append_left _ (tmA120 y hy) : y ∈ τ129.1)
  have tkB137 := tkB121.new ee130 nq131
  have tmB138 := fun y hy => (by rw [dom_new ee130]; exact List.mem_append_left _ (tmB122 y hy) : y ∈ τ129.1)
  have tkC139 := tkC123.new ee130 nq131
  have tmC140 := fun y hy => (by rw [dom_new ee130]; exact List.mem_append_left _ (tmC124 y hy) : y ∈ τ129.1)
  have tkD141 := tkD125.new ee130 nq131
  have tmD142 := fun y hy => (by rw [dom_new ee130]; exact List.mem_append_left _ (tmD126 y hy) : y ∈ τ129.1)
  have tkR143 := tkR127.new ee130 nq131
  have tmR144 := fun y hy => (by rw [dom_new ee130]; exact List.mem_append_left _ (tmR128 y hy) : y ∈ τ129.1)
  refine j_dup C dX6_init_52 rfl rfl ?_
  refine j_iconst C dX6_init_53 rfl ?_
  refine j_iconst C dX6_init_54 rfl ?_
  refine j_iast C dX6_init_55 rfl u133 ⟨by omega, by omega⟩ (by omega) (fun τ145 ee146 => ?_)
  have u147 := u132.ne' ee146 (u117.apart nq131)
  have u148 : has τ145 p10 (iA (kc κ) 5 (ups (fun _ => 0) 0 0)) := u133.self' ee146
  have dm149 := (dom_put ee146).trans dm134
  have tkA150 := tkA135.tr2 ((Keep.rf : Keep _ _ (fun y => y = p10)).put ee146 rfl) (fun y z => Or.inr (fun hy => na_p10_A (by rw [← (show y = p10 from z)]; exact hy)))
  have tmA151 := fun y hy => (by rw [dom_put ee146]; exact tmA136 y hy : y ∈ τ145.1)
  have tkB152 := tkB137.tr2 ((Keep.rf : Keep _ _ (fun y => y = p10)).put ee146 rfl) (fun y z => Or.inr (fun hy => na_p10_B (by rw [← (show y = p10 from z)]; exact hy)))
  have tmB153 := fun y hy => (by rw [dom_put ee146]; exact tmB138 y hy : y ∈ τ145.1)
  have tkC154 := tkC139.tr2 ((Keep.rf : Keep _ _ (fun y => y = p10)).put ee146 rfl) (fun y z => Or.inr (fun hy => na_p10_C (by rw [← (show y = p10 from z)]; exact hy)))
  have tmC155 := fun y hy => (by rw [dom_put ee146]; exact tmC140 y hy : y ∈ τ145.1)
  have tkD156 := tkD141.tr2 ((Keep.rf : Keep _ _ (fun y => y = p10)).put ee146 rfl) (fun y z => Or.inr (fun hy => na_p10_D (by rw [← (show y = p10 from z)]; exact hy)))
  have tmD157 := fun y hy => (by rw [dom_put ee146]; exact tmD142 y hy : y ∈ τ145.1)
  have tkR158 := tkR143.tr2 ((Keep.rf : Keep _ _ (fun y => y = p10)).put ee146 rfl) (fun y z => Or.inr (fun hy => na_p10_R (by rw [← (show y = p10 from z)]; exact hy)))
  have tmR159 := fun y hy => (by rw [dom_put ee146]; exact tmR144 y hy : y ∈ τ145.1)
  refine j_dup C dX6_init_56 rfl rfl ?_
  refine j_iconst C dX6_init_57 rfl ?_
  refine j_sipush C dX6_init_58 rfl (by decide) ?_
  refine j_iast C dX6_init_61 rfl u148 ⟨by omega, by omega⟩ (by omega) (fun τ160 ee161 => ?_)
  have u162 := u147.ne' ee161 (u117.apart nq131)
  have u163 : has τ160 p10 (iA (kc κ) 5 (ups (ups (fun _ => 0) 0 0) 1 500)) := u148.self' ee161
  have dm164 := (dom_put ee161).trans dm149
  have tkA165 := tkA150.tr2 ((Keep.rf : Keep _ _ (fun y => y = p10)).put ee161 rfl) (fun y z => Or.inr (fun hy => na_p10_A (by rw [← (show y = p10 from z)]; exact hy)))
  have tmA166 := fun y hy => (by rw [dom_put ee161]; exact tmA151 y hy : y ∈ τ160.1)
  have tkB167 := tkB152.tr2 ((Keep.rf : Keep _ _ (fun y => y = p10)).put ee161 rfl) (fun y z => Or.inr (fun hy => na_p10_B (by rw [← (show y = p10 from z)]; exact hy)))
  have tmB168 := fun y hy => (by rw [dom_put ee161]; exact tmB153 y hy : y ∈ τ160.1)
  have tkC169 := tkC154.tr2 ((Keep.rf : Keep _ _ (fun y => y = p10)).put ee161 rfl) (fun y z => Or.inr (fun hy => na_p10_C (by rw [← (show y = p10 from z)]; exact hy)))
  have tmC170 := fun y hy => (by rw [dom_put ee161]; exact tmC155 y hy : y ∈ τ160.1)
  have tkD171 := tkD156.tr2 ((Keep.rf : Keep _ _ (fun y => y = p10)).put ee161 rfl) (fun y z => Or.inr (fun hy => na_p10_D (by rw [← (show y = p10 from z)]; exact hy)))
  have tmD172 := fun y hy => (by rw [dom_put ee161]; exact tmD157 y hy : y ∈ τ160.1)
  have tkR173 := tkR158.tr2 ((Keep.rf : Keep _ _ (fun y => y = p10)).put ee161 rfl) (fun y z => Or.inr (fun hy => na_p10_R (by rw [← (show y = p10 from z)]; exact hy)))
  have tmR174 := fun y hy => (by rw [dom_put ee161]; exact tmR159 y hy : y ∈ τ160.1)
  refine j_dup C dX6_init_62 rfl rfl ?_
  refine j_iconst C dX6_init_63 rfl ?_
  refine j_sipush C dX6_init_64 rfl (by decide) ?_
  refine j_iast C dX6_init_67 rfl u163 ⟨by omega, by omega⟩ (by omega) (fun τ175 ee176 => ?_)
  have u177 := u162.ne' ee176 (u117.apart nq131)
  have u178 : has τ175 p10 (iA (kc κ) 5 (ups (ups (ups (fun _ => 0) 0 0) 1 500) 2 480)) := u163.self' ee176
  have dm179 := (dom_put ee176).trans dm164
  have tkA180 := tkA165.tr2 ((Keep.rf : Keep _ _ (fun y => y = p10)).put ee176 rfl) (fun y z => Or.inr (fun hy => na_p10_A (by rw [← (show y = p10 from z)]; exact hy)))
  have tmA181 := fun y hy => (by rw [dom_put ee176]; exact tmA166 y hy : y ∈ τ175.1)
  have tkB182 := tkB167.tr2 ((Keep.rf : Keep _ _ (fun y => y = p10)).put ee176 rfl) (fun y z => Or.inr (fun hy => na_p10_B (by rw [← (show y = p10 from z)]; exact hy)))
  have tmB183 := fun y hy => (by rw [dom_put ee176]; exact tmB168 y hy : y ∈ τ175.1)
  have tkC184 := tkC169.tr2 ((Keep.rf : Keep _ _ (fun y => y = p10)).put ee176 rfl) (fun y z => Or.inr (fun hy => na_p10_C (by rw [← (show y = p10 from z)]; exact hy)))
  have tmC185 := fun y hy => (by rw [dom_put ee176]; exact tmC170 y hy : y ∈ τ175.1)
  have tkD186 := tkD171.tr2 ((Keep.rf : Keep _ _ (fun y => y = p10)).put ee176 rfl) (fun y z => Or.inr (fun hy => na_p10_D (by rw [← (show y = p10 from z)]; exact hy)))
  have tmD187 := fun y hy => (by rw [dom_put ee176]; exact tmD172 y hy : y ∈ τ175.1)
  have tkR188 := tkR173.tr2 ((Keep.rf : Keep _ _ (fun y => y = p10)).put ee176 rfl) (fun y z => Or.inr (fun hy => na_p10_R (by rw [← (show y = p10 from z)]; exact hy)))
  have tmR189 := fun y hy => (by rw [dom_put ee176]; exact tmR174 y hy : y ∈ τ175.1)
  refine j_dup C dX6_init_68 rfl rfl ?_
  refine j_iconst C dX6_init_69 rfl ?_
  refine j_sipush C dX6_init_70 rfl (by decide) ?_
  refine j_iast C dX6_init_73 rfl u178 ⟨by omega, by omega⟩ (by omega) (fun τ190 ee191 => ?_)
  have u192 := u177.ne' ee191 (u117.apart nq131)
  have u193 : has τ190 p10 (iA (kc κ) 5 (ups (ups (ups (ups (fun _ => 0) 0 0) 1 500) 2 480) 3 450)) := u178.self' ee191
  have dm194 := (dom_put ee191).trans dm179
  have tkA195 := tkA180.tr2 ((Keep.rf : Keep _ _ (fun y => y = p10)).put ee191 rfl) (fun y z => Or.inr (fun hy => na_p10_A (by rw [← (show y = p10 from z)]; exact hy)))
  have tmA196 := fun y hy => (by rw [dom_put ee191]; exact tmA181 y hy : y ∈ τ190.1)
  have tkB197 := tkB182.tr2 ((Keep.rf : Keep _ _ (fun y => y = p10)).put ee191 rfl) (fun y z => Or.inr (fun hy => na_p10_B (by rw [← (show y = p10 from z)]; exact hy)))
  have tmB198 := fun y hy => (by rw [dom_put ee191]; exact tmB183 y hy : y ∈ τ190.1)
  have tkC199 := tkC184.tr2 ((Keep.rf : Keep _ _ (fun y => y = p10)).put ee191 rfl) (fun y z => Or.inr (fun hy => na_p10_C (by rw [← (show y = p10 from z)]; exact hy)))
  have tmC200 := fun y hy => (by rw [dom_put ee191]; exact tmC185 y hy : y ∈ τ190.1)
  have tkD201 := tkD186.tr2 ((Keep.rf : Keep _ _ (fun y => y = p10)).put ee191 rfl) (fun y z => Or.inr (fun hy => na_p10_D (by rw [← (show y = p10 from z)]; exact hy)))
  have tmD202 := fun y hy => (by rw [dom_put ee191]; exact tmD187 y hy : y ∈ τ190.1)
  have tkR203 := tkR188.tr2 ((Keep.rf : Keep _ _ (fun y => y = p10)).put ee191 rfl) (fun y z => Or.inr (fun hy => na_p10_R (by rw [← (show y = p10 from z)]; exact hy)))
  have tmR204 := fun y hy => (by rw [dom_put ee191]; exact tmR189 y hy : y ∈ τ190.1)
  refine j_dup C dX6_init_74 rfl rfl ?_
  refine j_iconst C dX6_init_75 rfl ?_
  refine j_sipush C dX6_init_76 rfl (by decide) ?_
  refine j_iast C dX6_init_79 rfl u193 ⟨by omega, by omega⟩ (by omega) (fun τ205 ee206 => ?_)
  have u207 := u192.ne' ee206 (u117.apart nq131)
  have u208 : has τ205 p10 (iA (kc κ) 5 (ups (ups (ups (ups (ups (fun _ => 0) 0 0) 1 500) 2 480) 3 450) 4 380)) := u193.self' ee206
  have dm209 := (dom_put ee206).trans dm194
  have tkA210 := tkA195.tr2 ((Keep.rf : Keep _ _ (fun y => y = p10)).put ee206 rfl) (fun y z => Or.inr (fun hy => na_p10_A (by rw [← (show y = p10 from z)]; exact hy)))
  have tmA211 := fun y hy => (by rw [dom_put ee206]; exact tmA196 y hy : y ∈ τ205.1)
  have tkB212 := tkB197.tr2 ((Keep.rf : Keep _ _ (fun y => y = p10)).put ee206 rfl) (fun y z => Or.inr (fun hy => na_p10_B (by rw [← (show y = p10 from z)]; exact hy)))
  have tmB213 := fun y hy => (by rw [dom_put ee206]; exact tmB198 y hy : y ∈ τ205.1)
  have tkC214 := tkC199.tr2 ((Keep.rf : Keep _ _ (fun y => y = p10)).put ee206 rfl) (fun y z => Or.inr (fun hy => na_p10_C (by rw [← (show y = p10 from z)]; exact hy)))
  have tmC215 := fun y hy => (by rw [dom_put ee206]; exact tmC200 y hy : y ∈ τ205.1)
  have tkD216 := tkD201.tr2 ((Keep.rf : Keep _ _ (fun y => y = p10)).put ee206 rfl) (fun y z => Or.inr (fun hy => na_p10_D (by rw [← (show y = p10 from z)]; exact hy)))
  have tmD217 := fun y hy => (by rw [dom_put ee206]; exact tmD202 y hy : y ∈ τ205.1)
  have tkR218 := tkR203.tr2 ((Keep.rf : Keep _ _ (fun y => y = p10)).put ee206 rfl) (fun y z => Or.inr (fun hy => na_p10_R (by rw [← (show y = p10 from z)]; exact hy)))
  have tmR219 := fun y hy => (by rw [dom_put ee206]; exact tmR204 y hy : y ∈ τ205.1)
  refine j_putF (fs' := [.ref l1, .ref l3, .ref l5, .ref r7, .ref p10, .null, .null, vl (0)]) C dX6_init_80 rfl fa_X6_29 u207 rfl rfl rfl rfl (fun τ220 ee221 => ?_)
  have u222 : has τ220 h (.inr (6, [.ref l1, .ref l3, .ref l5, .ref r7, .ref p10, .null, .null, vl (0)])) := u207.self' ee221
  have u223 := u208.ne' ee221 (Ne.symm (u117.apart nq131))
  have dm224 := (dom_put ee221).trans dm209
  have tkA225 := tkA210.put ee221 rfl
  have tmA226 := fun y hy => (by rw [dom_put ee221]; exact tmA211 y hy : y ∈ τ220.1)
  have tkB227 := tkB212.put ee221 rfl
  have tmB228 := fun y hy => (by rw [dom_put ee221]; exact tmB213 y hy : y ∈ τ220.1)
  have tkC229 := tkC214.put ee221 rfl
  have tmC230 := fun y hy => (by rw [dom_put ee221]; exact tmC215 y hy : y ∈ τ220.1)
  have tkD231 := tkD216.put ee221 rfl
  have tmD232 := fun y hy => (by rw [dom_put ee221]; exact tmD217 y hy : y ∈ τ220.1)
  have tkR233 := tkR218.put ee221 rfl
  have tmR234 := fun y hy => (by rw [dom_put ee221]; exact tmR219 y hy : y ∈ τ220.1)
  refine j_aload_n 0 C dX6_init_83 rfl rfl rfl ?_
  refine j_new C dX6_init_84 rfl na_X6_33 (by omega) (by omega) (k' := 8) (n' := 46) (by first | rfl | omega) (by first | rfl | omega) (fun h11 τ235 nq237 ee236 => ?_)
  have u238 := u222.old' ee236 nq237
  have u239 := u223.old' ee236 nq237
  have u240 : has τ235 h11 (.inr (4, [.null, vi (0), vi (0), vi (0), vl (0)])) := has.fresh' ee236
  have dm241 := (dom_new ee236).trans (congrArg (· ++ [h11]) dm224)
  have na_h11_A := fun hy => nq237 (tmA226 h11 hy)
  have na_h11_B := fun hy => nq237 (tmB228 h11 hy)
  have na_h11_C := fun hy => nq237 (tmC230 h11 hy)
  have na_h11_D := fun hy => nq237 (tmD232 h11 hy)
  have na_h11_R := fun hy => nq237 (tmR234 h11 hy)
  have tkA242 := tkA225.new ee236 nq237
  have tmA243 := fun y hy => (by rw [dom_new ee236]; exact List.mem_append_left _ (tmA226 y hy) : y ∈ τ235.1)
  have tkB244 := tkB227.new ee236 nq237
  have tmB245 := fun y hy => (by rw [dom_new ee236]; exact List.mem_append_left _ (tmB228 y hy) : y ∈ τ235.1)
  have tkC246 := tkC229.new ee236 nq237
  have tmC247 := fun y hy => (by rw [dom_new ee236]; exact List.mem_append_left _ (tmC230 y hy) : y ∈ τ235.1)
  have tkD248 := tkD231.new ee236 nq237
  have tmD249 := fun y hy => (by rw [dom_new ee236]; exact List.mem_append_left _ (tmD232 y hy) : y ∈ τ235.1)
  have tkR250 := tkR233.new ee236 nq237
  have tmR251 := fun y hy => (by rw [dom_new ee236]; exact List.mem_append_left _ (tmR234 y hy) : y ∈ τ235.1)
  refine j_dup C dX6_init_87 rfl rfl ?_
  refine j_callN (st' := [.ref h11, .ref h]) (As := []) C dX6_init_88 rfl m_X6_35 rfl rfl (c_hedgeInit (kL κ) hfl (kD κ) (kc κ) τ235 h11 u240) rfl (by omega) (by omega) (by omega) (fun _ _ hx => hx.elim) (fun v253 τ252 hp254 => ?_)
  obtain ⟨rfl, t12, hH, ht12, hkH, hdH⟩ := hp254
  show J κ τ252 [(0, .ref h)] 91 [.ref h11, .ref h] _ _
  have u255 := hkH _ _ u238 (fun z => (u222.apart nq237) z)
  have u256 := hkH _ _ u239 (fun z => (u223.apart nq237) z)
  have tkA257 := tkA242.tr2 hkH (fun y z => Or.inr (fun hy => na_h11_A (by rw [← (show y = h11 from z)]; exact hy)))
  have tmA258 := fun y hy => (by rw [hdH]; exact List.mem_append_left _ (tmA243 y hy) : y ∈ τ252.1)
  have tkB259 := tkB244.tr2 hkH (fun y z => Or.inr (fun hy => na_h11_B (by rw [← (show y = h11 from z)]; exact hy)))
  have tmB260 := fun y hy => (by rw [hdH]; exact List.mem_append_left _ (tmB245 y hy) : y ∈ τ252.1)
  have tkC261 := tkC246.tr2 hkH (fun y z => Or.inr (fun hy => na_h11_C (by rw [← (show y = h11 from z)]; exact hy)))
  have tmC262 := fun y hy => (by rw [hdH]; exact List.mem_append_left _ (tmC247 y hy) : y ∈ τ252.1)
  have tkD263 := tkD248.tr2 hkH (fun y z => Or.inr (fun hy => na_h11_D (by rw [← (show y = h11 from z)]; exact hy)))
  have tmD264 := fun y hy => (by rw [hdH]; exact List.mem_append_left _ (tmD249 y hy) : y ∈ τ252.1)
  have tkR265 := tkR250.tr2 hkH (fun y z => Or.inr (fun hy => na_h11_R (by rw [← (show y = h11 from z)]; exact hy)))
  have tmR266 := fun y hy => (by rw [hdH]; exact List.mem_append_left _ (tmR251 y hy) : y ∈ τ252.1)
  have dm267 := hdH.trans (congrArg (· ++ [t12]) dm241)
  show J κ τ252 [(0, .ref h)] 91 [.ref h11, .ref h] 9 126
  have tkH : Keep τ252 τ252 (fun y => y = h) := Keep.rf
  have tmH : ∀ y, y ∈ τ252.1 → y ∈ τ252.1 := fun _ hy => hy
  refine j_putF (fs' := [.ref l1, .ref l3, .ref l5, .ref r7, .ref p10, .ref h11, .null, vl (0)]) C dX6_init_91 rfl fa_X6_36 u255 rfl rfl rfl rfl (fun τ268 ee269 => ?_)
  have u270 : has τ268 h (.inr (6, [.ref l1, .ref l3, .ref l5, .ref r7, .ref p10, .ref h11, .null, vl (0)])) := u255.self' ee269
  have u271 := u256.ne' ee269 (Ne.symm (u117.apart nq131))
  have dm272 := (dom_put ee269).trans dm267
  have tkA273 := tkA257.put ee269 rfl
  have tmA274 := fun y hy => (by rw [dom_put ee269]; exact tmA258 y hy : y ∈ τ268.1)
  have tkB275 := tkB259.put ee269 rfl
  have tmB276 := fun y hy => (by rw [dom_put ee269]; exact tmB260 y hy : y ∈ τ268.1)
  have tkC277 := tkC261.put ee269 rfl
  have tmC278 := fun y hy => (by rw [dom_put ee269]; exact tmC262 y hy : y ∈ τ268.1)
  have tkD279 := tkD263.put ee269 rfl
  have tmD280 := fun y hy => (by rw [dom_put ee269]; exact tmD264 y hy : y ∈ τ268.1)
  have tkR281 := tkR265.put ee269 rfl
  have tmR282 := fun y hy => (by rw [dom_put ee269]; exact tmR266 y hy : y ∈ τ268.1)
  have tkH283 := tkH.put ee269 rfl
  have tmH284 := fun y hy => (by rw [dom_put ee269]; exact tmH y hy : y ∈ τ268.1)
  refine j_aload_n 0 C dX6_init_94 rfl rfl rfl ?_
  refine j_new C dX6_init_95 rfl na_X6_40 (by omega) (by omega) (k' := 10) (n' := 130) (by first | rfl | omega) (by first | rfl | omega) (fun s13 τ285 nq287 ee286 => ?_)
  have u288 := u270.old' ee286 nq287
  have u289 := u271.old' ee286 nq287
  have u290 : has τ285 s13 (.inr (8, [.null, vi (0), vi (0), vi (0)])) := has.fresh' ee286
  have dm291 := (dom_new ee286).trans (congrArg (· ++ [s13]) dm272)
  have na_s13_A := fun hy => nq287 (tmA274 s13 hy)
  have na_s13_B := fun hy => nq287 (tmB276 s13 hy)
  have na_s13_C := fun hy => nq287 (tmC278 s13 hy)
  have na_s13_D := fun hy => nq287 (tmD280 s13 hy)
  have na_s13_R := fun hy => nq287 (tmR282 s13 hy)
  have na_s13_H := fun hy => nq287 (tmH284 s13 hy)
  have tkA292 := tkA273.new ee286 nq287
  have tmA293 := fun y hy => (by rw [dom_new ee286]; exact List.mem_append_left _ (tmA274 y hy) : y ∈ τ285.1)
  have tkB294 := tkB275.new ee286 nq287
  have tmB295 := fun y hy => (by rw [dom_new ee286]; exact List.mem_append_left _ (tmB276 y hy) : y ∈ τ285.1)
  have tkC296 := tkC277.new ee286 nq287
  have tmC297 := fun y hy => (by rw [dom_new ee286]; exact List.mem_append_left _ (tmC278 y hy) : y ∈ τ285.1)
  have tkD298 := tkD279.new ee286 nq287
  have tmD299 := fun y hy => (by rw [dom_new ee286]; exact List.mem_append_left _ (tmD280 y hy) : y ∈ τ285.1)
  have tkR300 := tkR281.new ee286 nq287
  have tmR301 := fun y hy => (by rw [dom_new ee286]; exact List.mem_append_left _ (tmR282 y hy) : y ∈ τ285.1)
  have tkH302 := tkH283.new ee286 nq287
  have tmH303 := fun y hy => (by rw [dom_new ee286]; exact List.mem_append_left _ (tmH284 y hy) : y ∈ τ285.1)
  refine j_dup C dX6_init_98 rfl rfl ?_
  refine j_callI (st' := [.ref s13, .ref h]) (As := []) C dX6_init_99 rfl m_X6_42 rfl rfl (c_sbInit (kL κ) hfl (kD κ) (kc κ) τ285 s13 u290) rfl (by omega) (by omega) (by omega) (fun _ _ hx => hx.elim) (fun v305 τ304 hp306 => ?_)
  obtain ⟨rfl, b14, hS, hb14, hkS, hdS⟩ := hp306
  show J κ τ304 [(0, .ref h)] 102 [.ref s13, .ref h] _ _
  have u307 := hkS _ _ u288 (fun z => (u270.apart nq287) z)
  have u308 := hkS _ _ u289 (fun z => (u271.apart nq287) z)
  have tkA309 := tkA292.tr2 hkS (fun y z => Or.inr (fun hy => na_s13_A (by rw [← (show y = s13 from z)]; exact hy)))
  have tmA310 := fun y hy => (by rw [hdS]; exact List.mem_append_left _ (tmA293 y hy) : y ∈ τ304.1)
  have tkB311 := tkB294.tr2 hkS (fun y z => Or.inr (fun hy => na_s13_B (by rw [← (show y = s13 from z)]; exact hy)))
  have tmB312 := fun y hy => (by rw [hdS]; exact List.mem_append_left _ (tmB295 y hy) : y ∈ τ304.1)
  have tkC313 := tkC296.tr2 hkS (fun y z => Or.inr (fun hy => na_s13_C (by rw [← (show y = s13 from z)]; exact hy)))
  have tmC314 := fun y hy => (by rw [hdS]; exact List.mem_append_left _ (tmC297 y hy) : y ∈ τ304.1)
  have tkD315 := tkD298.tr2 hkS (fun y z => Or.inr (fun hy => na_s13_D (by rw [← (show y = s13 from z)]; exact hy)))
  have tmD316 := fun y hy => (by rw [hdS]; exact List.mem_append_left _ (tmD299 y hy) : y ∈ τ304.1)
  have tkR317 := tkR300.tr2 hkS (fun y z => Or.inr (fun hy => na_s13_R (by rw [← (show y = s13 from z)]; exact hy)))
  have tmR318 := fun y hy => (by rw [hdS]; exact List.mem_append_left _ (tmR301 y hy) : y ∈ τ304.1)
  have tkH319 := tkH302.tr2 hkS (fun y z => Or.inr (fun hy => na_s13_H (by rw [← (show y = s13 from z)]; exact hy)))
  have tmH320 := fun y hy => (by rw [hdS]; exact List.mem_append_left _ (tmH303 y hy) : y ∈ τ304.1)
  have dm321 := hdS.trans (congrArg (· ++ [b14]) dm291)
  show J κ τ304 [(0, .ref h)] 102 [.ref s13, .ref h] 11 146
  have tkS : Keep τ304 τ304 (fun y => y = h) := Keep.rf
  have tmS : ∀ y, y ∈ τ304.1 → y ∈ τ304.1 := fun _ hy => hy
  refine j_putF (fs' := [.ref l1, .ref l3, .ref l5, .ref r7, .ref p10, .ref h11, .ref s13, vl (0)]) C dX6_init_102 rfl fa_X6_43 u307 rfl rfl rfl rfl (fun τ322 ee323 => ?_)
  have u324 : has τ322 h (.inr (6, [.ref l1, .ref l3, .ref l5, .ref r7, .ref p10, .ref h11, .ref s13, vl (0)])) := u307.self' ee323
  have u325 := u308.ne' ee323 (Ne.symm (u117.apart nq131))
  have dm326 := (dom_put ee323).trans dm321
  have tkA327 := tkA309.put ee323 rfl
  have tmA328 := fun y hy => (by rw [dom_put ee323]; exact tmA310 y hy : y ∈ τ322.1)
  have tkB329 := tkB311.put ee323 rfl
  have tmB330 := fun y hy => (by rw [dom_put ee323]; exact tmB312 y hy : y ∈ τ322.1)
  have tkC331 := tkC313.put ee323 rfl
  have tmC332 := fun y hy => (by rw [dom_put ee323]; exact tmC314 y hy : y ∈ τ322.1)
  have tkD333 := tkD315.put ee323 rfl
  have tmD334 := fun y hy => (by rw [dom_put ee323]; exact tmD316 y hy : y ∈ τ322.1)
  have tkR335 := tkR317.put ee323 rfl
  have tmR336 := fun y hy => (by rw [dom_put ee323]; exact tmR318 y hy : y ∈ τ322.1)
  have tkH337 := tkH319.put ee323 rfl
  have tmH338 := fun y hy => (by rw [dom_put ee323]; exact tmH320 y hy : y ∈ τ322.1)
  have tkS339 := tkS.put ee323 rfl
  have tmS340 := fun y hy => (by rw [dom_put ee323]; exact tmS y hy : y ∈ τ322.1)
  refine j_aload_n 0 C dX6_init_105 rfl rfl rfl ?_
  refine j_lconst (z := 0) C dX6_init_106 rfl rfl ?_
  refine j_put (fs' := [.ref l1, .ref l3, .ref l5, .ref r7, .ref p10, .ref h11, .ref s13, vl (0)]) C dX6_init_107 rfl fa_X6_47 u324 rfl rfl rfl rfl (fun τ341 ee342 => ?_)
  have u343 : has τ341 h (.inr (6, [.ref l1, .ref l3, .ref l5, .ref r7, .ref p10, .ref h11, .ref s13, vl (0)])) := u324.self' ee342
  have u344 := u325.ne' ee342 (Ne.symm (u117.apart nq131))
  have dm345 := (dom_put ee342).trans dm326
  have tkA346 := tkA327.put ee342 rfl
  have tmA347 := fun y hy => (by rw [dom_put ee342]; exact tmA328 y hy : y ∈ τ341.1)
  have tkB348 := tkB329.put ee342 rfl
  have tmB349 := fun y hy => (by rw [dom_put ee342]; exact tmB330 y hy : y ∈ τ341.1)
  have tkC350 := tkC331.put ee342 rfl
  have tmC351 := fun y hy => (by rw [dom_put ee342]; exact tmC332 y hy : y ∈ τ341.1)
  have tkD352 := tkD333.put ee342 rfl
  have tmD353 := fun y hy => (by rw [dom_put ee342]; exact tmD334 y hy : y ∈ τ341.1)
  have tkR354 := tkR335.put ee342 rfl
  have tmR355 := fun y hy => (by rw [dom_put ee342]; exact tmR336 y hy : y ∈ τ341.1)
  have tkH356 := tkH337.put ee342 rfl
  have tmH357 := fun y hy => (by rw [dom_put ee342]; exact tmH338 y hy : y ∈ τ341.1)
  have tkS358 := tkS339.put ee342 rfl
  have tmS359 := fun y hy => (by rw [dom_put ee342]; exact tmS340 y hy : y ∈ τ341.1)
  refine j_nd (fun hnd => ?_)
  have hdom : τ341.1 = σ.1 ++ [l1, l3, l5, r7, m8, f9, p10, h11, t12, s13, b14] := dm345.trans (by simp)
  rw [hdom] at hnd
  obtain ⟨hn1, hn2⟩ := nd_app hnd
  have hN : (h :: [l1, l3, l5, r7, m8, f9, p10, h11, t12, s13, b14]).Nodup := List.nodup_cons.mpr ⟨hn2 h hh.1, hn1⟩
  obtain ⟨tg, htg⟩ : ∃ f : Nat → Nat, (fun y => ([0, 1, 3, 5, 7, 8, 9, 10, 11, 12, 13, 14] : List Nat).getD (ixN (h :: [l1, l3, l5, r7, m8, f9, p10, h11, t12, s13, b14]) y) 4999) = f := ⟨_, rfl⟩
  have t_h : tg h = 0 := by rw [← htg]; exact tag_at hN [0, 1, 3, 5, 7, 8, 9, 10, 11, 12, 13, 14] (i := 0) (d := 4999) rfl
  have t_l1 : tg l1 = 1 := by rw [← htg]; exact tag_at hN [0, 1, 3, 5, 7, 8, 9, 10, 11, 12, 13, 14] (i := 1) (d := 4999) rfl
  have t_l3 : tg l3 = 3 := by rw [← htg]; exact tag_at hN [0, 1, 3, 5, 7, 8, 9, 10, 11, 12, 13, 14] (i := 2) (d := 4999) rfl
  have t_l5 : tg l5 = 5 := by rw [← htg]; exact tag_at hN [0, 1, 3, 5, 7, 8, 9, 10, 11, 12, 13, 14] (i := 3) (d := 4999) rfl
  have t_r7 : tg r7 = 7 := by rw [← htg]; exact tag_at hN [0, 1, 3, 5, 7, 8, 9, 10, 11, 12, 13, 14] (i := 4) (d := 4999) rfl
  have t_m8 : tg m8 = 8 := by rw [← htg]; exact tag_at hN [0, 1, 3, 5, 7, 8, 9, 10, 11, 12, 13, 14] (i := 5) (d := 4999) rfl
  have t_f9 : tg f9 = 9 := by rw [← htg]; exact tag_at hN [0, 1, 3, 5, 7, 8, 9, 10, 11, 12, 13, 14] (i := 6) (d := 4999) rfl
  have t_p10 : tg p10 = 10 := by rw [← htg]; exact tag_at hN [0, 1, 3, 5, 7, 8, 9, 10, 11, 12, 13, 14] (i := 7) (d := 4999) rfl
  have t_h11 : tg h11 = 11 := by rw [← htg]; exact tag_at hN [0, 1, 3, 5, 7, 8, 9, 10, 11, 12, 13, 14] (i := 8) (d := 4999) rfl
  have t_t12 : tg t12 = 12 := by rw [← htg]; exact tag_at hN [0, 1, 3, 5, 7, 8, 9, 10, 11, 12, 13, 14] (i := 9) (d := 4999) rfl
  have t_s13 : tg s13 = 13 := by rw [← htg]; exact tag_at hN [0, 1, 3, 5, 7, 8, 9, 10, 11, 12, 13, 14] (i := 10) (d := 4999) rfl
  have t_b14 : tg b14 = 14 := by rw [← htg]; exact tag_at hN [0, 1, 3, 5, 7, 8, 9, 10, 11, 12, 13, 14] (i := 11) (d := 4999) rfl
  obtain ⟨ad, had⟩ : ∃ f : Nat → Nat, (fun k => ([h, l1, kc κ 7, l3, kc κ 7, l5, kc κ 7, r7, m8, f9, p10, h11, t12, s13, b14] : List Nat).getD k 0) = f := ⟨_, rfl⟩
  have a0 : ad 0 = h := by rw [← had]; rfl
  have a1 : ad 1 = l1 := by rw [← had]; rfl
  have a2 : ad 2 = kc κ 7 := by rw [← had]; rfl
  have a3 : ad 3 = l3 := by rw [← had]; rfl
  have a4 : ad 4 = kc κ 7 := by rw [← had]; rfl
  have a5 : ad 5 = l5 := by rw [← had]; rfl
  have a6 : ad 6 = kc κ 7 := by rw [← had]; rfl
  have a7 : ad 7 = r7 := by rw [← had]; rfl
  have a8 : ad 8 = m8 := by rw [← had]; rfl
  have a9 : ad 9 = f9 := by rw [← had]; rfl
  have a10 : ad 10 = p10 := by rw [← had]; rfl
  have a11 : ad 11 = h11 := by rw [← had]; rfl
  have a12 : ad 12 = t12 := by rw [← had]; rfl
  have a13 : ad 13 = s13 := by rw [← had]; rfl
  have a14 : ad 14 = b14 := by rw [← had]; rfl
  have hlB2 := hlB.keep tkB348 ⟨fun z => absurd hN (by rw [z]; simp), fun _ => ⟨rfl, rfl⟩⟩
  have hlC2 := hlC.keep tkC350 ⟨fun z => absurd hN (by rw [z]; simp), fun _ => ⟨rfl, rfl⟩⟩
  have hlD2 := hlD.keep tkD352 ⟨fun z => absurd hN (by rw [z]; simp), fun _ => ⟨rfl, rfl⟩⟩
  have hR2 := hR.keep tkR354 ⟨(fun z => absurd hN (by rw [show r7 = h from z]; simp)), (fun z => absurd hN (by rw [show m8 = h from z]; simp)), (fun z => absurd hN (by rw [show f9 = h from z]; simp))⟩
  have hH2 := hH.keep tkH356 ⟨(fun z => absurd hN (by rw [show h11 = h from z]; simp)), (fun z => absurd hN (by rw [show t12 = h from z]; simp))⟩
  have hS2 := hS.keep tkS358 ⟨(fun z => absurd hN (by rw [show s13 = h from z]; simp)), (fun z => absurd hN (by rw [show b14 = h from z]; simp))⟩
  have hX : RX (kc κ) τ341 tg ad [] ruI 0 pfI hd0 0 [] [] := ⟨⟨by unfold xV; rw [a0, a1, a3, a5, a7, a10, a11, a13]; exact u343, by rw [a0]; exact t_h⟩, ⟨⟨by rw [a1, a2]; exact hlB2, by rw [a1]; exact t_l1, Or.inl ⟨a2, rfl⟩⟩, by decide, fun i hi => absurd hi (Nat.not_lt_zero _)⟩, ⟨[], ⟨⟨by rw [a3, a4]; exact hlC2, by rw [a3]; exact t_l3, Or.inl ⟨a4, rfl⟩⟩, by decide, fun i hi => absurd hi (Nat.not_lt_zero _)⟩, rfl⟩, ⟨⟨by rw [a5, a6]; exact hlD2, by rw [a5]; exact t_l5, Or.inl ⟨a6, rfl⟩⟩, fun j e he => absurd he (by simp)⟩, ⟨⟨by rw [a7, a8, a9]; exact hR2, by rw [a7]; exact t_r7, by rw [a8]; exact t_m8, by rw [a9]; exact t_f9⟩, ⟨by rw [a10]; exact u344, by rw [a10]; exact t_p10⟩, ⟨by rw [a11, a12]; exact hH2, by rw [a11]; exact t_h11, by rw [a12]; exact t_t12⟩, 16, by rw [a13, a14]; exact hS2, by rw [a13]; exact t_s13, by rw [a14]; exact t_b14⟩, Ok.nil⟩
  have hfar : ∀ y, y ∈ σ.1 → y ≠ h → 1000 ≤ tg y := fun y hy hyh => by rw [← htg]; show 1000 ≤ ([0, 1, 3, 5, 7, 8, 9, 10, 11, 12, 13, 14] : List Nat).getD (ixN (h :: [l1, l3, l5, r7, m8, f9, p10, h11, t12, s13, b14]) y) 4999; rw [ixN_out (fun z => (List.mem_cons.mp z).elim hyh (hn2 y hy))]; exact (by decide : (1000 : Nat) ≤ 4999)
  exact j_vret C E dX6_init_110 (by omega) (by omega) ⟨rfl, tg, ad, a0, hX, tkA346, tmA347, hfar⟩
