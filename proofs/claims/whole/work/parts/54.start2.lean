/-! the start of GrainElevatorModel -/
def grI : Nat → Int := (ups (ups (ups (ups (ups (ups (ups (ups (ups (ups (ups (ups (ups (ups (ups (ups (ups (ups (ups (ups (ups (ups (ups (ups (fun _ => 0) 0 140) 1 20) 2 155) 3 30) 4 175) 5 40) 6 140) 7 20) 8 155) 9 30) 10 175) 11 40) 12 140) 13 20) 14 155) 15 30) 16 175) 17 40) 18 140) 19 20) 20 155) 21 30) 22 175) 23 40)
theorem RuM_I : RuM ruI 0 grI := ⟨by decide, by decide +kernel⟩
theorem PrM_I : PrM pfI gpI := by
  intro i hi
  rcases (show i = 0 ∨ i = 1 ∨ i = 2 ∨ i = 3 by omega) with rfl | rfl | rfl | rfl <;> rfl
theorem nth_in {h : Nat} {L : List Nat} {k : Nat} (h1 : 1 ≤ k) (h2 : k < L.length + 1) : (h :: L).getD k 0 ∈ L := by
  obtain ⟨j, rfl⟩ : ∃ j, k = j + 1 := ⟨k - 1, by omega⟩
  rw [List.getD_cons_succ, List.getD_eq_getElem?_getD, List.getElem?_eq_getElem (by omega)]
  exact List.getElem_mem _
set_option maxHeartbeats 16000000 in
set_option maxRecDepth 20000 in
theorem c_mInit (l : Launch) (hfl : l.stackTraces = false) (D : va_G) (cy : Nat → Nat) (σ : Wd) (h : Nat) (hh : has σ h (.inr (7, [.null, .null, .null, .null, .null, .null, .null, .null, .null, .null, .null, .null, vi 0, vi 0, vi 0, vi 0, vi 0, vi 0, vi 0, vi 0, vi 0, vi 0, vi 0, vl 0, vl 0]))) : Ct l yX7_init cX7_init 2 none 3 12 4000 D cy [.ref h] σ (fun v σ' => v = none ∧ ∃ am : Nat → Nat, am 0 = h ∧ RM cy σ' am [] ruI 0 pfI hd0 0 [] [] (0, 0, 0) 0 ∧ (∀ k : Nat, 1 ≤ k → k < 13 → am k ∉ σ.1) ∧ Keep σ σ' (fun y => y = h) ∧ ∀ y, y ∈ σ.1 → y ∈ σ'.1) noX := by
  refine ct_start (by decide +kernel) hfl rfl (fun κ e1 e2 e3 C E NH => ?_)
  subst e1 e2 e3
  have C : Cx κ cX7_init 2 RX7 "<init>" 3 := C
  obtain ⟨-, -, -, -, hc, hs⟩ := id E
  show J κ σ [(0, .ref h)] 0 [] 0 0
  have dm0 : σ.1 = σ.1 := rfl
  have kp0 : Keep σ σ (fun y => y = h) := Keep.rf
  refine j_aload_n 0 C dX7_init_0 rfl rfl rfl ?_
  refine j_objInit C dX7_init_1 rfl oi_X7_1 oi_in oi_co (Nat.le_of_ble_eq_true rfl) ?_
  refine j_aload_n 0 C dX7_init_4 rfl rfl rfl ?_
  refine j_bipush C dX7_init_5 rfl (by decide) ?_
  refine j_newI C dX7_init_7 rfl aw_int ⟨by omega, by omega⟩ (by omega) (by omega) (k' := 1) (n' := 6) (by first | rfl | omega) (by first | rfl | omega) (fun a1 τ1 nq3 ee2 => ?_)
  have u4 := hh.old' ee2 nq3
  have u5 : has τ1 a1 (iA (kc κ) 6 (fun _ => 0)) := has.fresh' ee2
  have kp6 := kp0.new ee2 nq3
  have dm7 := (dom_new ee2).trans (congrArg (· ++ [a1]) dm0)
  have nna1 : a1 ∉ σ.1 := fun z => nq3 (by rw [dm0]; first | exact z | simp [z])
  refine j_putF (fs' := [.ref a1, .null, .null, .null, .null, .null, .null, .null, .null, .null, .null, .null, vi (0), vi (0), vi (0), vi (0), vi (0), vi (0), vi (0), vi (0), vi (0), vi (0), vi (0), vl (0), vl (0)]) C dX7_init_9 rfl fa_X7_9 u4 rfl rfl rfl rfl (fun τ8 ee9 => ?_)
  have u10 : has τ8 h (.inr (7, [.ref a1, .null, .null, .null, .null, .null, .null, .null, .null, .null, .null, .null, vi (0), vi (0), vi (0), vi (0), vi (0), vi (0), vi (0), vi (0), vi (0), vi (0), vi (0), vl (0), vl (0)])) := u4.self' ee9
  have u11 := u5.ne' ee9 (Ne.symm (hh.apart nq3))
  have kp12 := kp6.put ee9 rfl
  have dm13 := (dom_put ee9).trans dm7
  refine j_aload_n 0 C dX7_init_12 rfl rfl rfl ?_
  refine j_bipush C dX7_init_13 rfl (by decide) ?_
  refine j_newI C dX7_init_15 rfl aw_int ⟨by omega, by omega⟩ (by omega) (by omega) (k' := 2) (n' := 12) (by first | rfl | omega) (by first | rfl | omega) (fun a2 τ14 nq16 ee15 => ?_)
  have u17 := u10.old' ee15 nq16
  have u18 := u11.old' ee15 nq16
  have u19 : has τ14 a2 (iA (kc κ) 6 (fun _ => 0)) := has.fresh' ee15
  have kp20 := kp12.new ee15 nq16
  have dm21 := (dom_new ee15).trans (congrArg (· ++ [a2]) dm13)
  have nna2 : a2 ∉ σ.1 := fun z => nq16 (by rw [dm13]; first | exact z | simp [z])
  refine j_putF (fs' := [.ref a1, .ref a2, .null, .null, .null, .null, .null, .null, .null, .null, .null, .null, vi (0), vi (0), vi (0), vi (0), vi (0), vi (0), vi (0), vi (0), vi (0), vi (0), vi (0), vl (0), vl (0)]) C dX7_init_17 rfl fa_X7_13 u17 rfl rfl rfl rfl (fun τ22 ee23 => ?_)
  have u24 : has τ22 h (.inr (7, [.ref a1, .ref a2, .null, .null, .null, .null, .null, .null, .null, .null, .null, .null, vi (0), vi (0), vi (0), vi (0), vi (0), vi (0), vi (0), vi (0), vi (0), vi (0), vi (0), vl (0), vl (0)])) := u17.self' ee23
  have u25 := u18.ne' ee23 (Ne.symm (hh.apart nq3))
  have u26 := u19.ne' ee23 (Ne.symm (u10.apart nq16))
  have kp27 := kp20.put ee23 rfl
  have dm28 := (dom_put ee23).trans dm21
  refine j_aload_n 0 C dX7_init_20 rfl rfl rfl ?_
  refine j_bipush C dX7_init_21 rfl (by decide) ?_
  refine j_newI C dX7_init_23 rfl aw_int ⟨by omega, by omega⟩ (by omega) (by omega) (k' := 3) (n' := 36) (by first | rfl | omega) (by first | rfl | omega) (fun a3 τ29 nq31 ee30 => ?_)
  have u32 := u24.old' ee30 nq31
  have u33 := u25.old' ee30 nq31
  have u34 := u26.old' ee30 nq31
  have u35 : has τ29 a3 (iA (kc κ) 24 (fun _ => 0)) := has.fresh' ee30
  have kp36 := kp27.new ee30 nq31
  have dm37 := (dom_new ee30).trans (congrArg (· ++ [a3]) dm28)
  have nna3 : a3 ∉ σ.1 := fun z => nq31 (by rw [dm28]; first | exact z | simp [z])
  refine j_putF (fs' := [.ref a1, .ref a2, .ref a3, .null, .null, .null, .null, .null, .null, .null, .null, .null, vi (0), vi (0), vi (0), vi (0), vi (0), vi (0), vi (0), vi (0), vi (0), vi (0), vi (0), vl (0), vl (0)]) C dX7_init_25 rfl fa_X7_16 u32 rfl rfl rfl rfl (fun τ38 ee39 => ?_)
  have u40 : has τ38 h (.inr (7, [.ref a1, .ref a2, .ref a3, .null, .null, .null, .null, .null, .null, .null, .null, .null, vi (0), vi (0), vi (0), vi (0), vi (0), vi (0), vi (0), vi (0), vi (0), vi (0), vi (0), vl (0), vl (0)])) := u32.self' ee39
  have u41 := u33.ne' ee39 (Ne.symm (hh.apart nq3))
  have u42 := u34.ne' ee39 (Ne.symm (u10.apart nq16))
  have u43 := u35.ne' ee39 (Ne.symm (u24.apart nq31))
  have kp44 := kp36.put ee39 rfl
  have dm45 := (dom_put ee39).trans dm37
  refine j_aload_n 0 C dX7_init_28 rfl rfl rfl ?_
  refine j_iconst C dX7_init_29 rfl ?_
  refine j_newI C dX7_init_30 rfl aw_int ⟨by omega, by omega⟩ (by omega) (by omega) (k' := 4) (n' := 40) (by first | rfl | omega) (by first | rfl | omega) (fun a4 τ46 nq48 ee47 => ?_)
  have u49 := u40.old' ee47 nq48
  have u50 := u41.old' ee47 nq48
  have u51 := u42.old' ee47 nq48
  have u52 := u43.old' ee47 nq48
  have u53 : has τ46 a4 (iA (kc κ) 4 (fun _ => 0)) := has.fresh' ee47
  have kp54 := kp44.new ee47 nq48
  have dm55 := (dom_new ee47).trans (congrArg (· ++ [a4]) dm45)
  have nna4 : a4 ∉ σ.1 := fun z => nq48 (by rw [dm45]; first | exact z | simp [z])
  refine j_dup C dX7_init_32 rfl rfl ?_
  refine j_iconst C dX7_init_33 rfl ?_
  refine j_sipush C dX7_init_34 rfl (by decide) ?_
  refine j_iast C dX7_init_37 rfl u53 ⟨by omega, by omega⟩ (by omega) (fun τ56 ee57 => ?_)
  have u58 := u49.ne' ee57 (u40.apart nq48)
  have u59 := u50.ne' ee57 (u41.apart nq48)
  have u60 := u51.ne' ee57 (u42.apart nq48)
  have u61 := u52.ne' ee57 (u43.apart nq48)
  have u62 : has τ56 a4 (iA (kc κ) 4 (ups (fun _ => 0) 0 500)) := u53.self' ee57
  have dm63 := (dom_put ee57).trans dm55
  have kp64 := kp54.tr2 ((Keep.rf : Keep _ _ (fun y => y = a4)).put ee57 rfl) (fun y z => Or.inr (by rw [show y = a4 from z]; exact nna4))
  refine j_dup C dX7_init_38 rfl rfl ?_
  refine j_iconst C dX7_init_39 rfl ?_
  refine j_sipush C dX7_init_40 rfl (by decide) ?_
  refine j_iast C dX7_init_43 rfl u62 ⟨by omega, by omega⟩ (by omega) (fun τ65 ee66 => ?_)
  have u67 := u58.ne' ee66 (u40.apart nq48)
  have u68 := u59.ne' ee66 (u41.apart nq48)
  have u69 := u60.ne' ee66 (u42.apart nq48)
  have u70 := u61.ne' ee66 (u43.apart nq48)
  have u71 : has τ65 a4 (iA (kc κ) 4 (ups (ups (fun _ => 0) 0 500) 1 480)) := u62.self' ee66
  have dm72 := (dom_put ee66).trans dm63
  have kp73 := kp64.tr2 ((Keep.rf : Keep _ _ (fun y => y = a4)).put ee66 rfl) (fun y z => Or.inr (by rw [show y = a4 from z]; exact nna4))
  refine j_dup C dX7_init_44 rfl rfl ?_
  refine j_iconst C dX7_init_45 rfl ?_
  refine j_sipush C dX7_init_46 rfl (by decide) ?_
  refine j_iast C dX7_init_49 rfl u71 ⟨by omega, by omega⟩ (by omega) (fun τ74 ee75 => ?_)
  have u76 := u67.ne' ee75 (u40.apart nq48)
  have u77 := u68.ne' ee75 (u41.apart nq48)
  have u78 := u69.ne' ee75 (u42.apart nq48)
  have u79 := u70.ne' ee75 (u43.apart nq48)
  have u80 : has τ74 a4 (iA (kc κ) 4 (ups (ups (ups (fun _ => 0) 0 500) 1 480) 2 450)) := u71.self' ee75
  have dm81 := (dom_put ee75).trans dm72
  have kp82 := kp73.tr2 ((Keep.rf : Keep _ _ (fun y => y = a4)).put ee75 rfl) (fun y z => Or.inr (by rw [show y = a4 from z]; exact nna4))
  refine j_dup C dX7_init_50 rfl rfl ?_
  refine j_iconst C dX7_init_51 rfl ?_
  refine j_sipush C dX7_init_52 rfl (by decide) ?_
  refine j_iast C dX7_init_55 rfl u80 ⟨by omega, by omega⟩ (by omega) (fun τ83 ee84 => ?_)
  have u85 := u76.ne' ee84 (u40.apart nq48)
  have u86 := u77.ne' ee84 (u41.apart nq48)
  have u87 := u78.ne' ee84 (u42.apart nq48)
  have u88 := u79.ne' ee84 (u43.apart nq48)
  have u89 : has τ83 a4 (iA (kc κ) 4 (ups (ups (ups (ups (fun _ => 0) 0 500) 1 480) 2 450) 3 380)) := u80.self' ee84
  have dm90 := (dom_put ee84).trans dm81
  have kp91 := kp82.tr2 ((Keep.rf : Keep _ _ (fun y => y = a4)).put ee84 rfl) (fun y z => Or.inr (by rw [show y = a4 from z]; exact nna4))
  refine j_putF (fs' := [.ref a1, .ref a2, .ref a3, .ref a4, .null, .null, .null, .null, .null, .null, .null, .null, vi (0), vi (0), vi (0), vi (0), vi (0), vi (0), vi (0), vi (0), vi (0), vi (0), vi (0), vl (0), vl (0)]) C dX7_init_56 rfl fa_X7_19 u85 rfl rfl rfl rfl (fun τ92 ee93 => ?_)
  have u94 : has τ92 h (.inr (7, [.ref a1, .ref a2, .ref a3, .ref a4, .null, .null, .null, .null, .null, .null, .null, .null, vi (0), vi (0), vi (0), vi (0), vi (0), vi (0), vi (0), vi (0), vi (0), vi (0), vi (0), vl (0), vl (0)])) := u85.self' ee93
  have u95 := u86.ne' ee93 (Ne.symm (hh.apart nq3))
  have u96 := u87.ne' ee93 (Ne.symm (u10.apart nq16))
  have u97 := u88.ne' ee93 (Ne.symm (u24.apart nq31))
  have u98 := u89.ne' ee93 (Ne.symm (u40.apart nq48))
  have kp99 := kp91.put ee93 rfl
  have dm100 := (dom_put ee93).trans dm90
  refine j_aload_n 0 C dX7_init_59 rfl rfl rfl ?_
  refine j_sipush C dX7_init_60 rfl (by decide) ?_
  refine j_newI C dX7_init_63 rfl aw_int ⟨by omega, by omega⟩ (by omega) (by omega) (k' := 5) (n' := 580) (by first | rfl | omega) (by first | rfl | omega) (fun a5 τ101 nq103 ee102 => ?_)
  have u104 := u94.old' ee102 nq103
  have u105 := u95.old' ee102 nq103
  have u106 := u96.old' ee102 nq103
  have u107 := u97.old' ee102 nq103
  have u108 := u98.old' ee102 nq103
  have u109 : has τ101 a5 (iA (kc κ) 540 (fun _ => 0)) := has.fresh' ee102
  have kp110 := kp99.new ee102 nq103
  have dm111 := (dom_new ee102).trans (congrArg (· ++ [a5]) dm100)
  have nna5 : a5 ∉ σ.1 := fun z => nq103 (by rw [dm100]; first | exact z | simp [z])
  refine j_putF (fs' := [.ref a1, .ref a2, .ref a3, .ref a4, .ref a5, .null, .null, .null, .null, .null, .null, .null, vi (0), vi (0), vi (0), vi (0), vi (0), vi (0), vi (0), vi (0), vi (0), vi (0), vi (0), vl (0), vl (0)]) C dX7_init_65 rfl fa_X7_22 u104 rfl rfl rfl rfl (fun τ112 ee113 => ?_)
  have u114 : has τ112 h (.inr (7, [.ref a1, .ref a2, .ref a3, .ref a4, .ref a5, .null, .null, .null, .null, .null, .null, .null, vi (0), vi (0), vi (0), vi (0), vi (0), vi (0), vi (0), vi (0), vi (0), vi (0), vi (0), vl (0), vl (0)])) := u104.self' ee113
  have u115 := u105.ne' ee113 (Ne.symm (hh.apart nq3))
  have u116 := u106.ne' ee113 (Ne.symm (u10.apart nq16))
  have u117 := u107.ne' ee113 (Ne.symm (u24.apart nq31))
  have u118 := u108.ne' ee113 (Ne.symm (u40.apart nq48))
  have u119 := u109.ne' ee113 (Ne.symm (u94.apart nq103))
  have kp120 := kp110.put ee113 rfl
  have dm121 := (dom_put ee113).trans dm111
  refine j_aload_n 0 C dX7_init_68 rfl rfl rfl ?_
  refine j_sipush C dX7_init_69 rfl (by decide) ?_
  refine j_newI C dX7_init_72 rfl aw_int ⟨by omega, by omega⟩ (by omega) (by omega) (k' := 6) (n' := 1120) (by first | rfl | omega) (by first | rfl | omega) (fun a6 τ122 nq124 ee123 => ?_)
  have u125 := u114.old' ee123 nq124
  have u126 := u115.old' ee123 nq124
  have u127 := u116.old' ee123 nq124
  have u128 := u117.old' ee123 nq124
  have u129 := u118.old' ee123 nq124
  have u130 := u119.old' ee123 nq124
  have u131 : has τ122 a6 (iA (kc κ) 540 (fun _ => 0)) := has.fresh' ee123
  have kp132 := kp120.new ee123 nq124
  have dm133 := (dom_new ee123).trans (congrArg (· ++ [a6]) dm121)
  have nna6 : a6 ∉ σ.1 := fun z => nq124 (by rw [dm121]; first | exact z | simp [z])
  refine j_putF (fs' := [.ref a1, .ref a2, .ref a3, .ref a4, .ref a5, .ref a6, .null, .null, .null, .null, .null, .null, vi (0), vi (0), vi (0), vi (0), vi (0), vi (0), vi (0), vi (0), vi (0), vi (0), vi (0), vl (0), vl (0)]) C dX7_init_74 rfl fa_X7_25 u125 rfl rfl rfl rfl (fun τ134 ee135 => ?_)
  have u136 : has τ134 h (.inr (7, [.ref a1, .ref a2, .ref a3, .ref a4, .ref a5, .ref a6, .null, .null, .null, .null, .null, .null, vi (0), vi (0), vi (0), vi (0), vi (0), vi (0), vi (0), vi (0), vi (0), vi (0), vi (0), vl (0), vl (0)])) := u125.self' ee135
  have u137 := u126.ne' ee135 (Ne.symm (hh.apart nq3))
  have u138 := u127.ne' ee135 (Ne.symm (u10.apart nq16))
  have u139 := u128.ne' ee135 (Ne.symm (u24.apart nq31))
  have u140 := u129.ne' ee135 (Ne.symm (u40.apart nq48))
  have u141 := u130.ne' ee135 (Ne.symm (u94.apart nq103))
  have u142 := u131.ne' ee135 (Ne.symm (u114.apart nq124))
  have kp143 := kp132.put ee135 rfl
  have dm144 := (dom_put ee135).trans dm133
  refine j_aload_n 0 C dX7_init_77 rfl rfl rfl ?_
  refine j_sipush C dX7_init_78 rfl (by decide) ?_
  refine j_newI C dX7_init_81 rfl aw_int ⟨by omega, by omega⟩ (by omega) (by omega) (k' := 7) (n' := 1660) (by first | rfl | omega) (by first | rfl | omega) (fun a7 τ145 nq147 ee146 => ?_)
  have u148 := u136.old' ee146 nq147
  have u149 := u137.old' ee146 nq147
  have u150 := u138.old' ee146 nq147
  have u151 := u139.old' ee146 nq147
  have u152 := u140.old' ee146 nq147
  have u153 := u141.old' ee146 nq147
  have u154 := u142.old' ee146 nq147
  have u155 : has τ145 a7 (iA (kc κ) 540 (fun _ => 0)) := has.fresh' ee146
  have kp156 := kp143.new ee146 nq147
  have dm157 := (dom_new ee146).trans (congrArg (· ++ [a7]) dm144)
  have nna7 : a7 ∉ σ.1 := fun z => nq147 (by rw [dm144]; first | exact z | simp [z])
  refine j_putF (fs' := [.ref a1, .ref a2, .ref a3, .ref a4, .ref a5, .ref a6, .ref a7, .null, .null, .null, .null, .null, vi (0), vi (0), vi (0), vi (0), vi (0), vi (0), vi (0), vi (0), vi (0), vi (0), vi (0), vl (0), vl (0)]) C dX7_init_83 rfl fa_X7_28 u148 rfl rfl rfl rfl (fun τ158 ee159 => ?_)
  have u160 : has τ158 h (.inr (7, [.ref a1, .ref a2, .ref a3, .ref a4, .ref a5, .ref a6, .ref a7, .null, .null, .null, .null, .null, vi (0), vi (0), vi (0), vi (0), vi (0), vi (0), vi (0), vi (0), vi (0), vi (0), vi (0), vl (0), vl (0)])) := u148.self' ee159
  have u161 := u149.ne' ee159 (Ne.symm (hh.apart nq3))
  have u162 := u150.ne' ee159 (Ne.symm (u10.apart nq16))
  have u163 := u151.ne' ee159 (Ne.symm (u24.apart nq31))
  have u164 := u152.ne' ee159 (Ne.symm (u40.apart nq48))
  have u165 := u153.ne' ee159 (Ne.symm (u94.apart nq103))
  have u166 := u154.ne' ee159 (Ne.symm (u114.apart nq124))
  have u167 := u155.ne' ee159 (Ne.symm (u136.apart nq147))
  have kp168 := kp156.put ee159 rfl
  have dm169 := (dom_put ee159).trans dm157
  refine j_aload_n 0 C dX7_init_86 rfl rfl rfl ?_
  refine j_sipush C dX7_init_87 rfl (by decide) ?_
  refine j_newI C dX7_init_90 rfl aw_int ⟨by omega, by omega⟩ (by omega) (by omega) (k' := 8) (n' := 2200) (by first | rfl | omega) (by first | rfl | omega) (fun a8 τ170 nq172 ee171 => ?_)
  have u173 := u160.old' ee171 nq172
  have u174 := u161.old' ee171 nq172
  have u175 := u162.old' ee171 nq172
  have u176 := u163.old' ee171 nq172
  have u177 := u164.old' ee171 nq172
  have u178 := u165.old' ee171 nq172
  have u179 := u166.old' ee171 nq172
  have u180 := u167.old' ee171 nq172
  have u181 : has τ170 a8 (iA (kc κ) 540 (fun _ => 0)) := has.fresh' ee171
  have kp182 := kp168.new ee171 nq172
  have dm183 := (dom_new ee171).trans (congrArg (· ++ [a8]) dm169)
  have nna8 : a8 ∉ σ.1 := fun z => nq172 (by rw [dm169]; first | exact z | simp [z])
  refine j_putF (fs' := [.ref a1, .ref a2, .ref a3, .ref a4, .ref a5, .ref a6, .ref a7, .ref a8, .null, .null, .null, .null, vi (0), vi (0), vi (0), vi (0), vi (0), vi (0), vi (0), vi (0), vi (0), vi (0), vi (0), vl (0), vl (0)]) C dX7_init_92 rfl fa_X7_31 u173 rfl rfl rfl rfl (fun τ184 ee185 => ?_)
  have u186 : has τ184 h (.inr (7, [.ref a1, .ref a2, .ref a3, .ref a4, .ref a5, .ref a6, .ref a7, .ref a8, .null, .null, .null, .null, vi (0), vi (0), vi (0), vi (0), vi (0), vi (0), vi (0), vi (0), vi (0), vi (0), vi (0), vl (0), vl (0)])) := u173.self' ee185
  have u187 := u174.ne' ee185 (Ne.symm (hh.apart nq3))
  have u188 := u175.ne' ee185 (Ne.symm (u10.apart nq16))
  have u189 := u176.ne' ee185 (Ne.symm (u24.apart nq31))
  have u190 := u177.ne' ee185 (Ne.symm (u40.apart nq48))
  have u191 := u178.ne' ee185 (Ne.symm (u94.apart nq103))
  have u192 := u179.ne' ee185 (Ne.symm (u114.apart nq124))
  have u193 := u180.ne' ee185 (Ne.symm (u136.apart nq147))
  have u194 := u181.ne' ee185 (Ne.symm (u160.apart nq172))
  have kp195 := kp182.put ee185 rfl
  have dm196 := (dom_put ee185).trans dm183
  refine j_aload_n 0 C dX7_init_95 rfl rfl rfl ?_
  refine j_bipush C dX7_init_96 rfl (by decide) ?_
  refine j_newI C dX7_init_98 rfl aw_int ⟨by omega, by omega⟩ (by omega) (by omega) (k' := 9) (n' := 2280) (by first | rfl | omega) (by first | rfl | omega) (fun a9 τ197 nq199 ee198 => ?_)
  have u200 := u186.old' ee198 nq199
  have u201 := u187.old' ee198 nq199
  have u202 := u188.old' ee198 nq199
  have u203 := u189.old' ee198 nq199
  have u204 := u190.old' ee198 nq199
  have u205 := u191.old' ee198 nq199
  have u206 := u192.old' ee198 nq199
  have u207 := u193.old' ee198 nq199
  have u208 := u194.old' ee198 nq199
  have u209 : has τ197 a9 (iA (kc κ) 80 (fun _ => 0)) := has.fresh' ee198
  have kp210 := kp195.new ee198 nq199
  have dm211 := (dom_new ee198).trans (congrArg (· ++ [a9]) dm196)
  have nna9 : a9 ∉ σ.1 := fun z => nq199 (by rw [dm196]; first | exact z | simp [z])
  refine j_putF (fs' := [.ref a1, .ref a2, .ref a3, .ref a4, .ref a5, .ref a6, .ref a7, .ref a8, .ref a9, .null, .null, .null, vi (0), vi (0), vi (0), vi (0), vi (0), vi (0), vi (0), vi (0), vi (0), vi (0), vi (0), vl (0), vl (0)]) C dX7_init_100 rfl fa_X7_34 u200 rfl rfl rfl rfl (fun τ212 ee213 => ?_)
  have u214 : has τ212 h (.inr (7, [.ref a1, .ref a2, .ref a3, .ref a4, .ref a5, .ref a6, .ref a7, .ref a8, .ref a9, .null, .null, .null, vi (0), vi (0), vi (0), vi (0), vi (0), vi (0), vi (0), vi (0), vi (0), vi (0), vi (0), vl (0), vl (0)])) := u200.self' ee213
  have u215 := u201.ne' ee213 (Ne.symm (hh.apart nq3))
  have u216 := u202.ne' ee213 (Ne.symm (u10.apart nq16))
  have u217 := u203.ne' ee213 (Ne.symm (u24.apart nq31))
  have u218 := u204.ne' ee213 (Ne.symm (u40.apart nq48))
  have u219 := u205.ne' ee213 (Ne.symm (u94.apart nq103))
  have u220 := u206.ne' ee213 (Ne.symm (u114.apart nq124))
  have u221 := u207.ne' ee213 (Ne.symm (u136.apart nq147))
  have u222 := u208.ne' ee213 (Ne.symm (u160.apart nq172))
  have u223 := u209.ne' ee213 (Ne.symm (u186.apart nq199))
  have kp224 := kp210.put ee213 rfl
  have dm225 := (dom_put ee213).trans dm211
  refine j_aload_n 0 C dX7_init_103 rfl rfl rfl ?_
  refine j_bipush C dX7_init_104 rfl (by decide) ?_
  refine j_newZ C dX7_init_106 rfl aw_boolean ⟨by omega, by omega⟩ (by omega) (by omega) (k' := 10) (n' := 2286) (by first | rfl | omega) (by first | rfl | omega) (fun a10 τ226 nq228 ee227 => ?_)
  have u229 := u214.old' ee227 nq228
  have u230 := u215.old' ee227 nq228
  have u231 := u216.old' ee227 nq228
  have u232 := u217.old' ee227 nq228
  have u233 := u218.old' ee227 nq228
  have u234 := u219.old' ee227 nq228
  have u235 := u220.old' ee227 nq228
  have u236 := u221.old' ee227 nq228
  have u237 := u222.old' ee227 nq228
  have u238 := u223.old' ee227 nq228
  have u239 : has τ226 a10 (zA (kc κ) 6 (fun _ => 0)) := has.fresh' ee227
  have kp240 := kp224.new ee227 nq228
  have dm241 := (dom_new ee227).trans (congrArg (· ++ [a10]) dm225)
  have nna10 : a10 ∉ σ.1 := fun z => nq228 (by rw [dm225]; first | exact z | simp [z])
  refine j_putF (fs' := [.ref a1, .ref a2, .ref a3, .ref a4, .ref a5, .ref a6, .ref a7, .ref a8, .ref a9, .ref a10, .null, .null, vi (0), vi (0), vi (0), vi (0), vi (0), vi (0), vi (0), vi (0), vi (0), vi (0), vi (0), vl (0), vl (0)]) C dX7_init_108 rfl fa_X7_37 u229 rfl rfl rfl rfl (fun τ242 ee243 => ?_)
  have u244 : has τ242 h (.inr (7, [.ref a1, .ref a2, .ref a3, .ref a4, .ref a5, .ref a6, .ref a7, .ref a8, .ref a9, .ref a10, .null, .null, vi (0), vi (0), vi (0), vi (0), vi (0), vi (0), vi (0), vi (0), vi (0), vi (0), vi (0), vl (0), vl (0)])) := u229.self' ee243
  have u245 := u230.ne' ee243 (Ne.symm (hh.apart nq3))
  have u246 := u231.ne' ee243 (Ne.symm (u10.apart nq16))
  have u247 := u232.ne' ee243 (Ne.symm (u24.apart nq31))
  have u248 := u233.ne' ee243 (Ne.symm (u40.apart nq48))
  have u249 := u234.ne' ee243 (Ne.symm (u94.apart nq103))
  have u250 := u235.ne' ee243 (Ne.symm (u114.apart nq124))
  have u251 := u236.ne' ee243 (Ne.symm (u136.apart nq147))
  have u252 := u237.ne' ee243 (Ne.symm (u160.apart nq172))
  have u253 := u238.ne' ee243 (Ne.symm (u186.apart nq199))
  have u254 := u239.ne' ee243 (Ne.symm (u214.apart nq228))
  have kp255 := kp240.put ee243 rfl
  have dm256 := (dom_put ee243).trans dm241
  refine j_aload_n 0 C dX7_init_111 rfl rfl rfl ?_
  refine j_bipush C dX7_init_112 rfl (by decide) ?_
  refine j_newC C dX7_init_114 rfl aw_char ⟨by omega, by omega⟩ (by omega) (by omega) (k' := 11) (n' := 2366) (by first | rfl | omega) (by first | rfl | omega) (fun a11 τ257 nq259 ee258 => ?_)
  have u260 := u244.old' ee258 nq259
  have u261 := u245.old' ee258 nq259
  have u262 := u246.old' ee258 nq259
  have u263 := u247.old' ee258 nq259
  have u264 := u248.old' ee258 nq259
  have u265 := u249.old' ee258 nq259
  have u266 := u250.old' ee258 nq259
  have u267 := u251.old' ee258 nq259
  have u268 := u252.old' ee258 nq259
  have u269 := u253.old' ee258 nq259
  have u270 := u254.old' ee258 nq259
  have u271 : has τ257 a11 (cA (kc κ) 80 (fun _ => 0)) := has.fresh' ee258
  have kp272 := kp255.new ee258 nq259
  have dm273 := (dom_new ee258).trans (congrArg (· ++ [a11]) dm256)
  have nna11 : a11 ∉ σ.1 := fun z => nq259 (by rw [dm256]; first | exact z | simp [z])
  refine j_putF (fs' := [.ref a1, .ref a2, .ref a3, .ref a4, .ref a5, .ref a6, .ref a7, .ref a8, .ref a9, .ref a10, .ref a11, .null, vi (0), vi (0), vi (0), vi (0), vi (0), vi (0), vi (0), vi (0), vi (0), vi (0), vi (0), vl (0), vl (0)]) C dX7_init_116 rfl fa_X7_41 u260 rfl rfl rfl rfl (fun τ274 ee275 => ?_)
  have u276 : has τ274 h (.inr (7, [.ref a1, .ref a2, .ref a3, .ref a4, .ref a5, .ref a6, .ref a7, .ref a8, .ref a9, .ref a10, .ref a11, .null, vi (0), vi (0), vi (0), vi (0), vi (0), vi (0), vi (0), vi (0), vi (0), vi (0), vi (0), vl (0), vl (0)])) := u260.self' ee275
  have u277 := u261.ne' ee275 (Ne.symm (hh.apart nq3))
  have u278 := u262.ne' ee275 (Ne.symm (u10.apart nq16))
  have u279 := u263.ne' ee275 (Ne.symm (u24.apart nq31))
  have u280 := u264.ne' ee275 (Ne.symm (u40.apart nq48))
  have u281 := u265.ne' ee275 (Ne.symm (u94.apart nq103))
  have u282 := u266.ne' ee275 (Ne.symm (u114.apart nq124))
  have u283 := u267.ne' ee275 (Ne.symm (u136.apart nq147))
  have u284 := u268.ne' ee275 (Ne.symm (u160.apart nq172))
  have u285 := u269.ne' ee275 (Ne.symm (u186.apart nq199))
  have u286 := u270.ne' ee275 (Ne.symm (u214.apart nq228))
  have u287 := u271.ne' ee275 (Ne.symm (u244.apart nq259))
  have kp288 := kp272.put ee275 rfl
  have dm289 := (dom_put ee275).trans dm273
  refine j_aload_n 0 C dX7_init_119 rfl rfl rfl ?_
  refine j_sipush C dX7_init_120 rfl (by decide) ?_
  refine j_newC C dX7_init_123 rfl aw_char ⟨by omega, by omega⟩ (by omega) (by omega) (k' := 12) (n' := 3966) (by first | rfl | omega) (by first | rfl | omega) (fun a12 τ290 nq292 ee291 => ?_)
  have u293 := u276.old' ee291 nq292
  have u294 := u277.old' ee291 nq292
  have u295 := u278.old' ee291 nq292
  have u296 := u279.old' ee291 nq292
  have u297 := u280.old' ee291 nq292
  have u298 := u281.old' ee291 nq292
  have u299 := u282.old' ee291 nq292
  have u300 := u283.old' ee291 nq292
  have u301 := u284.old' ee291 nq292
  have u302 := u285.old' ee291 nq292
  have u303 := u286.old' ee291 nq292
  have u304 := u287.old' ee291 nq292
  have u305 : has τ290 a12 (cA (kc κ) 1600 (fun _ => 0)) := has.fresh' ee291
  have kp306 := kp288.new ee291 nq292
  have dm307 := (dom_new ee291).trans (congrArg (· ++ [a12]) dm289)
  have nna12 : a12 ∉ σ.1 := fun z => nq292 (by rw [dm289]; first | exact z | simp [z])
  refine j_putF (fs' := [.ref a1, .ref a2, .ref a3, .ref a4, .ref a5, .ref a6, .ref a7, .ref a8, .ref a9, .ref a10, .ref a11, .ref a12, vi (0), vi (0), vi (0), vi (0), vi (0), vi (0), vi (0), vi (0), vi (0), vi (0), vi (0), vl (0), vl (0)]) C dX7_init_125 rfl fa_X7_45 u293 rfl rfl rfl rfl (fun τ308 ee309 => ?_)
  have u310 : has τ308 h (.inr (7, [.ref a1, .ref a2, .ref a3, .ref a4, .ref a5, .ref a6, .ref a7, .ref a8, .ref a9, .ref a10, .ref a11, .ref a12, vi (0), vi (0), vi (0), vi (0), vi (0), vi (0), vi (0), vi (0), vi (0), vi (0), vi (0), vl (0), vl (0)])) := u293.self' ee309
  have u311 := u294.ne' ee309 (Ne.symm (hh.apart nq3))
  have u312 := u295.ne' ee309 (Ne.symm (u10.apart nq16))
  have u313 := u296.ne' ee309 (Ne.symm (u24.apart nq31))
  have u314 := u297.ne' ee309 (Ne.symm (u40.apart nq48))
  have u315 := u298.ne' ee309 (Ne.symm (u94.apart nq103))
  have u316 := u299.ne' ee309 (Ne.symm (u114.apart nq124))
  have u317 := u300.ne' ee309 (Ne.symm (u136.apart nq147))
  have u318 := u301.ne' ee309 (Ne.symm (u160.apart nq172))
  have u319 := u302.ne' ee309 (Ne.symm (u186.apart nq199))
  have u320 := u303.ne' ee309 (Ne.symm (u214.apart nq228))
  have u321 := u304.ne' ee309 (Ne.symm (u244.apart nq259))
  have u322 := u305.ne' ee309 (Ne.symm (u276.apart nq292))
  have kp323 := kp306.put ee309 rfl
  have dm324 := (dom_put ee309).trans dm307
  refine j_aload_n 0 C dX7_init_128 rfl rfl rfl ?_
  refine j_sipush C dX7_init_129 rfl (by decide) ?_
  refine j_put (fs' := [.ref a1, .ref a2, .ref a3, .ref a4, .ref a5, .ref a6, .ref a7, .ref a8, .ref a9, .ref a10, .ref a11, .ref a12, vi (0), vi (0), vi (0), vi (0), vi (500), vi (0), vi (0), vi (0), vi (0), vi (0), vi (0), vl (0), vl (0)]) C dX7_init_132 rfl fa_X7_48 u310 rfl rfl rfl rfl (fun τ325 ee326 => ?_)
  have u327 : has τ325 h (.inr (7, [.ref a1, .ref a2, .ref a3, .ref a4, .ref a5, .ref a6, .ref a7, .ref a8, .ref a9, .ref a10, .ref a11, .ref a12, vi (0), vi (0), vi (0), vi (0), vi (500), vi (0), vi (0), vi (0), vi (0), vi (0), vi (0), vl (0), vl (0)])) := u310.self' ee326
  have u328 := u311.ne' ee326 (Ne.symm (hh.apart nq3))
  have u329 := u312.ne' ee326 (Ne.symm (u10.apart nq16))
  have u330 := u313.ne' ee326 (Ne.symm (u24.apart nq31))
  have u331 := u314.ne' ee326 (Ne.symm (u40.apart nq48))
  have u332 := u315.ne' ee326 (Ne.symm (u94.apart nq103))
  have u333 := u316.ne' ee326 (Ne.symm (u114.apart nq124))
  have u334 := u317.ne' ee326 (Ne.symm (u136.apart nq147))
  have u335 := u318.ne' ee326 (Ne.symm (u160.apart nq172))
  have u336 := u319.ne' ee326 (Ne.symm (u186.apart nq199))
  have u337 := u320.ne' ee326 (Ne.symm (u214.apart nq228))
  have u338 := u321.ne' ee326 (Ne.symm (u244.apart nq259))
  have u339 := u322.ne' ee326 (Ne.symm (u276.apart nq292))
  have kp340 := kp323.put ee326 rfl
  have dm341 := (dom_put ee326).trans dm324
  refine j_iconst C dX7_init_135 rfl ?_
  refine j_istore_n (lv' := [(0, .ref h), (1, vi (0))]) [1, 0] C dX7_init_136 rfl rfl rfl rfl ?_
  refine j_iload_n 1 C dX7_init_137 rfl rfl rfl ?_
  refine j_iconst C dX7_init_138 rfl ?_
  refine j_icmp_ge (tgt := 227) C dX7_init_139 rfl rfl ⟨by decide, by decide⟩ ⟨by decide, by decide⟩ (fun cc342 => absurd cc342 (by decide)) (fun _ => ?_)
  refine j_aload_n 0 C dX7_init_142 rfl rfl rfl ?_
  refine j_get C dX7_init_143 rfl fg_X7_16 u327 rfl ?_
  refine j_bipush C dX7_init_146 rfl (by decide) ?_
  refine j_iload_n 1 C dX7_init_148 rfl rfl rfl ?_
  refine j_imul C dX7_init_149 rfl ?_
  refine j_sipush C dX7_init_150 rfl (by decide) ?_
  refine j_iast C dX7_init_153 rfl u330 ⟨by omega, by omega⟩ (by omega) (fun τ343 ee344 => ?_)
  have u345 := u327.ne' ee344 (u24.apart nq31)
  have u346 := u328.ne' ee344 (u25.apart nq31)
  have u347 := u329.ne' ee344 (u26.apart nq31)
  have u348 : has τ343 a3 (iA (kc κ) 24 (ups (fun _ => 0) 0 140)) := u330.self' ee344
  have u349 := u331.ne' ee344 (Ne.symm (u43.apart nq48))
  have u350 := u332.ne' ee344 (Ne.symm (u97.apart nq103))
  have u351 := u333.ne' ee344 (Ne.symm (u117.apart nq124))
  have u352 := u334.ne' ee344 (Ne.symm (u139.apart nq147))
  have u353 := u335.ne' ee344 (Ne.symm (u163.apart nq172))
  have u354 := u336.ne' ee344 (Ne.symm (u189.apart nq199))
  have u355 := u337.ne' ee344 (Ne.symm (u217.apart nq228))
  have u356 := u338.ne' ee344 (Ne.symm (u247.apart nq259))
  have u357 := u339.ne' ee344 (Ne.symm (u279.apart nq292))
  have dm358 := (dom_put ee344).trans dm341
  have kp359 := kp340.tr2 ((Keep.rf : Keep _ _ (fun y => y = a3)).put ee344 rfl) (fun y z => Or.inr (by rw [show y = a3 from z]; exact nna3))
  refine j_aload_n 0 C dX7_init_154 rfl rfl rfl ?_
  refine j_get C dX7_init_155 rfl fg_X7_16 u345 rfl ?_
  refine j_bipush C dX7_init_158 rfl (by decide) ?_
  refine j_iload_n 1 C dX7_init_160 rfl rfl rfl ?_
  refine j_imul C dX7_init_161 rfl ?_
  refine j_iconst C dX7_init_162 rfl ?_
  refine j_iadd C dX7_init_163 rfl ?_
  refine j_bipush C dX7_init_164 rfl (by decide) ?_
  refine j_iast C dX7_init_166 rfl u348 ⟨by omega, by omega⟩ (by omega) (fun τ360 ee361 => ?_)
  have u362 := u345.ne' ee361 (u24.apart nq31)
  have u363 := u346.ne' ee361 (u25.apart nq31)
  have u364 := u347.ne' ee361 (u26.apart nq31)
  have u365 : has τ360 a3 (iA (kc κ) 24 (ups (ups (fun _ => 0) 0 140) 1 20)) := u348.self' ee361
  have u366 := u349.ne' ee361 (Ne.symm (u43.apart nq48))
  have u367 := u350.ne' ee361 (Ne.symm (u97.apart nq103))
  have u368 := u351.ne' ee361 (Ne.symm (u117.apart nq124))
  have u369 := u352.ne' ee361 (Ne.symm (u139.apart nq147))
  have u370 := u353.ne' ee361 (Ne.symm (u163.apart nq172))
  have u371 := u354.ne' ee361 (Ne.symm (u189.apart nq199))
  have u372 := u355.ne' ee361 (Ne.symm (u217.apart nq228))
  have u373 := u356.ne' ee361 (Ne.symm (u247.apart nq259))
  have u374 := u357.ne' ee361 (Ne.symm (u279.apart nq292))
  have dm375 := (dom_put ee361).trans dm358
  have kp376 := kp359.tr2 ((Keep.rf : Keep _ _ (fun y => y = a3)).put ee361 rfl) (fun y z => Or.inr (by rw [show y = a3 from z]; exact nna3))
  refine j_aload_n 0 C dX7_init_167 rfl rfl rfl ?_
  refine j_get C dX7_init_168 rfl fg_X7_16 u362 rfl ?_
  refine j_bipush C dX7_init_171 rfl (by decide) ?_
  refine j_iload_n 1 C dX7_init_173 rfl rfl rfl ?_
  refine j_imul C dX7_init_174 rfl ?_
  refine j_iconst C dX7_init_175 rfl ?_
  refine j_iadd C dX7_init_176 rfl ?_
  refine j_sipush C dX7_init_177 rfl (by decide) ?_
  refine j_iast C dX7_init_180 rfl u365 ⟨by omega, by omega⟩ (by omega) (fun τ377 ee378 => ?_)
  have u379 := u362.ne' ee378 (u24.apart nq31)
  have u380 := u363.ne' ee378 (u25.apart nq31)
  have u381 := u364.ne' ee378 (u26.apart nq31)
  have u382 : has τ377 a3 (iA (kc κ) 24 (ups (ups (ups (fun _ => 0) 0 140) 1 20) 2 155)) := u365.self' ee378
  have u383 := u366.ne' ee378 (Ne.symm (u43.apart nq48))
  have u384 := u367.ne' ee378 (Ne.symm (u97.apart nq103))
  have u385 := u368.ne' ee378 (Ne.symm (u117.apart nq124))
  have u386 := u369.ne' ee378 (Ne.symm (u139.apart nq147))
  have u387 := u370.ne' ee378 (Ne.symm (u163.apart nq172))
  have u388 := u371.ne' ee378 (Ne.symm (u189.apart nq199))
  have u389 := u372.ne' ee378 (Ne.symm (u217.apart nq228))
  have u390 := u373.ne' ee378 (Ne.symm (u247.apart nq259))
  have u391 := u374.ne' ee378 (Ne.symm (u279.apart nq292))
  have dm392 := (dom_put ee378).trans dm375
  have kp393 := kp376.tr2 ((Keep.rf : Keep _ _ (fun y => y = a3)).put ee378 rfl) (fun y z => Or.inr (by rw [show y = a3 from z]; exact nna3))
  refine j_aload_n 0 C dX7_init_181 rfl rfl rfl ?_
  refine j_get C dX7_init_182 rfl fg_X7_16 u379 rfl ?_
  refine j_bipush C dX7_init_185 rfl (by decide) ?_
  refine j_iload_n 1 C dX7_init_187 rfl rfl rfl ?_
  refine j_imul C dX7_init_188 rfl ?_
  refine j_iconst C dX7_init_189 rfl ?_
  refine j_iadd C dX7_init_190 rfl ?_
  refine j_bipush C dX7_init_191 rfl (by decide) ?_
  refine j_iast C dX7_init_193 rfl u382 ⟨by omega, by omega⟩ (by omega) (fun τ394 ee395 => ?_)
  have u396 := u379.ne' ee395 (u24.apart nq31)
  have u397 := u380.ne' ee395 (u25.apart nq31)
  have u398 := u381.ne' ee395 (u26.apart nq31)
  have u399 : has τ394 a3 (iA (kc κ) 24 (ups (ups (ups (ups (fun _ => 0) 0 140) 1 20) 2 155) 3 30)) := u382.self' ee395
  have u400 := u383.ne' ee395 (Ne.symm (u43.apart nq48))
  have u401 := u384.ne' ee395 (Ne.symm (u97.apart nq103))
  have u402 := u385.ne' ee395 (Ne.symm (u117.apart nq124))
  have u403 := u386.ne' ee395 (Ne.symm (u139.apart nq147))
  have u404 := u387.ne' ee395 (Ne.symm (u163.apart nq172))
  have u405 := u388.ne' ee395 (Ne.symm (u189.apart nq199))
  have u406 := u389.ne' ee395 (Ne.symm (u217.apart nq228))
  have u407 := u390.ne' ee395 (Ne.symm (u247.apart nq259))
  have u408 := u391.ne' ee395 (Ne.symm (u279.apart nq292))
  have dm409 := (dom_put ee395).trans dm392
  have kp410 := kp393.tr2 ((Keep.rf : Keep _ _ (fun y => y = a3)).put ee395 rfl) (fun y z => Or.inr (by rw [show y = a3 from z]; exact nna3))
  refine j_aload_n 0 C dX7_init_194 rfl rfl rfl ?_
  refine j_get C dX7_init_195 rfl fg_X7_16 u396 rfl ?_
  refine j_bipush C dX7_init_198 rfl (by decide) ?_
  refine j_iload_n 1 C dX7_init_200 rfl rfl rfl ?_
  refine j_imul C dX7_init_201 rfl ?_
  refine j_iconst C dX7_init_202 rfl ?_
  refine j_iadd C dX7_init_203 rfl ?_
  refine j_sipush C dX7_init_204 rfl (by decide) ?_
  refine j_iast C dX7_init_207 rfl u399 ⟨by omega, by omega⟩ (by omega) (fun τ411 ee412 => ?_)
  have u413 := u396.ne' ee412 (u24.apart nq31)
  have u414 := u397.ne' ee412 (u25.apart nq31)
  have u415 := u398.ne' ee412 (u26.apart nq31)
  have u416 : has τ411 a3 (iA (kc κ) 24 (ups (ups (ups (ups (ups (fun _ => 0) 0 140) 1 20) 2 155) 3 30) 4 175)) := u399.self' ee412
  have u417 := u400.ne' ee412 (Ne.symm (u43.apart nq48))
  have u418 := u401.ne' ee412 (Ne.symm (u97.apart nq103))
  have u419 := u402.ne' ee412 (Ne.symm (u117.apart nq124))
  have u420 := u403.ne' ee412 (Ne.symm (u139.apart nq147))
  have u421 := u404.ne' ee412 (Ne.symm (u163.apart nq172))
  have u422 := u405.ne' ee412 (Ne.symm (u189.apart nq199))
  have u423 := u406.ne' ee412 (Ne.symm (u217.apart nq228))
  have u424 := u407.ne' ee412 (Ne.symm (u247.apart nq259))
  have u425 := u408.ne' ee412 (Ne.symm (u279.apart nq292))
  have dm426 := (dom_put ee412).trans dm409
  have kp427 := kp410.tr2 ((Keep.rf : Keep _ _ (fun y => y = a3)).put ee412 rfl) (fun y z => Or.inr (by rw [show y = a3 from z]; exact nna3))
  refine j_aload_n 0 C dX7_init_208 rfl rfl rfl ?_
  refine j_get C dX7_init_209 rfl fg_X7_16 u413 rfl ?_
  refine j_bipush C dX7_init_212 rfl (by decide) ?_
  refine j_iload_n 1 C dX7_init_214 rfl rfl rfl ?_
  refine j_imul C dX7_init_215 rfl ?_
  refine j_iconst C dX7_init_216 rfl ?_
  refine j_iadd C dX7_init_217 rfl ?_
  refine j_bipush C dX7_init_218 rfl (by decide) ?_
  refine j_iast C dX7_init_220 rfl u416 ⟨by omega, by omega⟩ (by omega) (fun τ428 ee429 => ?_)
  have u430 := u413.ne' ee429 (u24.apart nq31)
  have u431 := u414.ne' ee429 (u25.apart nq31)
  have u432 := u415.ne' ee429 (u26.apart nq31)
  have u433 : has τ428 a3 (iA (kc κ) 24 (ups (ups (ups (ups (ups (ups (fun _ => 0) 0 140) 1 20) 2 155) 3 30) 4 175) 5 40)) := u416.self' ee429
  have u434 := u417.ne' ee429 (Ne.symm (u43.apart nq48))
  have u435 := u418.ne' ee429 (Ne.symm (u97.apart nq103))
  have u436 := u419.ne' ee429 (Ne.symm (u117.apart nq124))
  have u437 := u420.ne' ee429 (Ne.symm (u139.apart nq147))
  have u438 := u421.ne' ee429 (Ne.symm (u163.apart nq172))
  have u439 := u422.ne' ee429 (Ne.symm (u189.apart nq199))
  have u440 := u423.ne' ee429 (Ne.symm (u217.apart nq228))
  have u441 := u424.ne' ee429 (Ne.symm (u247.apart nq259))
  have u442 := u425.ne' ee429 (Ne.symm (u279.apart nq292))
  have dm443 := (dom_put ee429).trans dm426
  have kp444 := kp427.tr2 ((Keep.rf : Keep _ _ (fun y => y = a3)).put ee429 rfl) (fun y z => Or.inr (by rw [show y = a3 from z]; exact nna3))
  refine j_iinc (y := 1) (lv' := [(0, .ref h), (1, vi (1))]) 1 [1, 0] C dX7_init_221 rfl rfl rfl rfl rfl ?_
  refine j_goto (tgt := 137) C dX7_init_224 rfl ?_
  refine j_iload_n 1 C dX7_init_137 rfl rfl rfl ?_
  refine j_iconst C dX7_init_138 rfl ?_
  refine j_icmp_ge (tgt := 227) C dX7_init_139 rfl rfl ⟨by decide, by decide⟩ ⟨by decide, by decide⟩ (fun cc445 => absurd cc445 (by decide)) (fun _ => ?_)
  refine j_aload_n 0 C dX7_init_142 rfl rfl rfl ?_
  refine j_get C dX7_init_143 rfl fg_X7_16 u430 rfl ?_
  refine j_bipush C dX7_init_146 rfl (by decide) ?_
  refine j_iload_n 1 C dX7_init_148 rfl rfl rfl ?_
  refine j_imul C dX7_init_149 rfl ?_
  refine j_sipush C dX7_init_150 rfl (by decide) ?_
  refine j_iast C dX7_init_153 rfl u433 ⟨by omega, by omega⟩ (by omega) (fun τ446 ee447 => ?_)
  have u448 := u430.ne' ee447 (u24.apart nq31)
  have u449 := u431.ne' ee447 (u25.apart nq31)
  have u450 := u432.ne' ee447 (u26.apart nq31)
  have u451 : has τ446 a3 (iA (kc κ) 24 (ups (ups (ups (ups (ups (ups (ups (fun _ => 0) 0 140) 1 20) 2 155) 3 30) 4 175) 5 40) 6 140)) := u433.self' ee447
  have u452 := u434.ne' ee447 (Ne.symm (u43.apart nq48))
  have u453 := u435.ne' ee447 (Ne.symm (u97.apart nq103))
  have u454 := u436.ne' ee447 (Ne.symm (u117.apart nq124))
  have u455 := u437.ne' ee447 (Ne.symm (u139.apart nq147))
  have u456 := u438.ne' ee447 (Ne.symm (u163.apart nq172))
  have u457 := u439.ne' ee447 (Ne.symm (u189.apart nq199))
  have u458 := u440.ne' ee447 (Ne.symm (u217.apart nq228))
  have u459 := u441.ne' ee447 (Ne.symm (u247.apart nq259))
  have u460 := u442.ne' ee447 (Ne.symm (u279.apart nq292))
  have dm461 := (dom_put ee447).trans dm443
  have kp462 := kp444.tr2 ((Keep.rf : Keep _ _ (fun y => y = a3)).put ee447 rfl) (fun y z => Or.inr (by rw [show y = a3 from z]; exact nna3))
  refine j_aload_n 0 C dX7_init_154 rfl rfl rfl ?_
  refine j_get C dX7_init_155 rfl fg_X7_16 u448 rfl ?_
  refine j_bipush C dX7_init_158 rfl (by decide) ?_
  refine j_iload_n 1 C dX7_init_160 rfl rfl rfl ?_
  refine j_imul C dX7_init_161 rfl ?_
  refine j_iconst C dX7_init_162 rfl ?_
  refine j_iadd C dX7_init_163 rfl ?_
  refine j_bipush C dX7_init_164 rfl (by decide) ?_
  refine j_iast C dX7_init_166 rfl u451 ⟨by omega, by omega⟩ (by omega) (fun τ463 ee464 => ?_)
  have u465 := u448.ne' ee464 (u24.apart nq31)
  have u466 := u449.ne' ee464 (u25.apart nq31)
  have u467 := u450.ne' ee464 (u26.apart nq31)
  have u468 : has τ463 a3 (iA (kc κ) 24 (ups (ups (ups (ups (ups (ups (ups (ups (fun _ => 0) 0 140) 1 20) 2 155) 3 30) 4 175) 5 40) 6 140) 7 20)) := u451.self' ee464
  have u469 := u452.ne' ee464 (Ne.symm (u43.apart nq48))
  have u470 := u453.ne' ee464 (Ne.symm (u97.apart nq103))
  have u471 := u454.ne' ee464 (Ne.symm (u117.apart nq124))
  have u472 := u455.ne' ee464 (Ne.symm (u139.apart nq147))
  have u473 := u456.ne' ee464 (Ne.symm (u163.apart nq172))
  have u474 := u457.ne' ee464 (Ne.symm (u189.apart nq199))
  have u475 := u458.ne' ee464 (Ne.symm (u217.apart nq228))
  have u476 := u459.ne' ee464 (Ne.symm (u247.apart nq259))
  have u477 := u460.ne' ee464 (Ne.symm (u279.apart nq292))
  have dm478 := (dom_put ee464).trans dm461
  have kp479 := kp462.tr2 ((Keep.rf : Keep _ _ (fun y => y = a3)).put ee464 rfl) (fun y z => Or.inr (by rw [show y = a3 from z]; exact nna3))
  refine j_aload_n 0 C dX7_init_167 rfl rfl rfl ?_
  refine j_get C dX7_init_168 rfl fg_X7_16 u465 rfl ?_
  refine j_bipush C dX7_init_171 rfl (by decide) ?_
  refine j_iload_n 1 C dX7_init_173 rfl rfl rfl ?_
  refine j_imul C dX7_init_174 rfl ?_
  refine j_iconst C dX7_init_175 rfl ?_
  refine j_iadd C dX7_init_176 rfl ?_
  refine j_sipush C dX7_init_177 rfl (by decide) ?_
  refine j_iast C dX7_init_180 rfl u468 ⟨by omega, by omega⟩ (by omega) (fun τ480 ee481 => ?_)
  have u482 := u465.ne' ee481 (u24.apart nq31)
  have u483 := u466.ne' ee481 (u25.apart nq31)
  have u484 := u467.ne' ee481 (u26.apart nq31)
  have u485 : has τ480 a3 (iA (kc κ) 24 (ups (ups (ups (ups (ups (ups (ups (ups (ups (fun _ => 0) 0 140) 1 20) 2 155) 3 30) 4 175) 5 40) 6 140) 7 20) 8 155)) := u468.self' ee481
  have u486 := u469.ne' ee481 (Ne.symm (u43.apart nq48))
  have u487 := u470.ne' ee481 (Ne.symm (u97.apart nq103))
  have u488 := u471.ne' ee481 (Ne.symm (u117.apart nq124))
  have u489 := u472.ne' ee481 (Ne.symm (u139.apart nq147))
  have u490 := u473.ne' ee481 (Ne.symm (u163.apart nq172))
  have u491 := u474.ne' ee481 (Ne.symm (u189.apart nq199))
  have u492 := u475.ne' ee481 (Ne.symm (u217.apart nq228))
  have u493 := u476.ne' ee481 (Ne.symm (u247.apart nq259))
  have u494 := u477.ne' ee481 (Ne.symm (u279.apart nq292))
  have dm495 := (dom_put ee481).trans dm478
  have kp496 := kp479.tr2 ((Keep.rf : Keep _ _ (fun y => y = a3)).put ee481 rfl) (fun y z => Or.inr (by rw [show y = a3 from z]; exact nna3))
  refine j_aload_n 0 C dX7_init_181 rfl rfl rfl ?_
  refine j_get C dX7_init_182 rfl fg_X7_16 u482 rfl ?_
  refine j_bipush C dX7_init_185 rfl (by decide) ?_
  refine j_iload_n 1 C dX7_init_187 rfl rfl rfl ?_
  refine j_imul C dX7_init_188 rfl ?_
  refine j_iconst C dX7_init_189 rfl ?_
  refine j_iadd C dX7_init_190 rfl ?_
  refine j_bipush C dX7_init_191 rfl (by decide) ?_
  refine j_iast C dX7_init_193 rfl u485 ⟨by omega, by omega⟩ (by omega) (fun τ497 ee498 => ?_)
  have u499 := u482.ne' ee498 (u24.apart nq31)
  have u500 := u483.ne' ee498 (u25.apart nq31)
  have u501 := u484.ne' ee498 (u26.apart nq31)
  have u502 : has τ497 a3 (iA (kc κ) 24 (ups (ups (ups (ups (ups (ups (ups (ups (ups (ups (fun _ => 0) 0 140) 1 20) 2 155) 3 30) 4 175) 5 40) 6 140) 7 20) 8 155) 9 30)) := u485.self' ee498
  have u503 := u486.ne' ee498 (Ne.symm (u43.apart nq48))
  have u504 := u487.ne' ee498 (Ne.symm (u97.apart nq103))
  have u505 := u488.ne' ee498 (Ne.symm (u117.apart nq124))
  have u506 := u489.ne' ee498 (Ne.symm (u139.apart nq147))
  have u507 := u490.ne' ee498 (Ne.symm (u163.apart nq172))
  have u508 := u491.ne' ee498 (Ne.symm (u189.apart nq199))
  have u509 := u492.ne' ee498 (Ne.symm (u217.apart nq228))
  have u510 := u493.ne' ee498 (Ne.symm (u247.apart nq259))
  have u511 := u494.ne' ee498 (Ne.symm (u279.apart nq292))
  have dm512 := (dom_put ee498).trans dm495
  have kp513 := kp496.tr2 ((Keep.rf : Keep _ _ (fun y => y = a3)).put ee498 rfl) (fun y z => Or.inr (by rw [show y = a3 from z]; exact nna3))
  refine j_aload_n 0 C dX7_init_194 rfl rfl rfl ?_
  refine j_get C dX7_init_195 rfl fg_X7_16 u499 rfl ?_
  refine j_bipush C dX7_init_198 rfl (by decide) ?_
  refine j_iload_n 1 C dX7_init_200 rfl rfl rfl ?_
  refine j_imul C dX7_init_201 rfl ?_
  refine j_iconst C dX7_init_202 rfl ?_
  refine j_iadd C dX7_init_203 rfl ?_
  refine j_sipush C dX7_init_204 rfl (by decide) ?_
  refine j_iast C dX7_init_207 rfl u502 ⟨by omega, by omega⟩ (by omega) (fun τ514 ee515 => ?_)
  have u516 := u499.ne' ee515 (u24.apart nq31)
  have u517 := u500.ne' ee515 (u25.apart nq31)
  have u518 := u501.ne' ee515 (u26.apart nq31)
  have u519 : has τ514 a3 (iA (kc κ) 24 (ups (ups (ups (ups (ups (ups (ups (ups (ups (ups (ups (fun _ => 0) 0 140) 1 20) 2 155) 3 30) 4 175) 5 40) 6 140) 7 20) 8 155) 9 30) 10 175)) := u502.self' ee515
  have u520 := u503.ne' ee515 (Ne.symm (u43.apart nq48))
  have u521 := u504.ne' ee515 (Ne.symm (u97.apart nq103))
  have u522 := u505.ne' ee515 (Ne.symm (u117.apart nq124))
  have u523 := u506.ne' ee515 (Ne.symm (u139.apart nq147))
  have u524 := u507.ne' ee515 (Ne.symm (u163.apart nq172))
  have u525 := u508.ne' ee515 (Ne.symm (u189.apart nq199))
  have u526 := u509.ne' ee515 (Ne.symm (u217.apart nq228))
  have u527 := u510.ne' ee515 (Ne.symm (u247.apart nq259))
  have u528 := u511.ne' ee515 (Ne.symm (u279.apart nq292))
  have dm529 := (dom_put ee515).trans dm512
  have kp530 := kp513.tr2 ((Keep.rf : Keep _ _ (fun y => y = a3)).put ee515 rfl) (fun y z => Or.inr (by rw [show y = a3 from z]; exact nna3))
  refine j_aload_n 0 C dX7_init_208 rfl rfl rfl ?_
  refine j_get C dX7_init_209 rfl fg_X7_16 u516 rfl ?_
  refine j_bipush C dX7_init_212 rfl (by decide) ?_
  refine j_iload_n 1 C dX7_init_214 rfl rfl rfl ?_
  refine j_imul C dX7_init_215 rfl ?_
  refine j_iconst C dX7_init_216 rfl ?_
  refine j_iadd C dX7_init_217 rfl ?_
  refine j_bipush C dX7_init_218 rfl (by decide) ?_
  refine j_iast C dX7_init_220 rfl u519 ⟨by omega, by omega⟩ (by omega) (fun τ531 ee532 => ?_)
  have u533 := u516.ne' ee532 (u24.apart nq31)
  have u534 := u517.ne' ee532 (u25.apart nq31)
  have u535 := u518.ne' ee532 (u26.apart nq31)
  have u536 : has τ531 a3 (iA (kc κ) 24 (ups (ups (ups (ups (ups (ups (ups (ups (ups (ups (ups (ups (fun _ => 0) 0 140) 1 20) 2 155) 3 30) 4 175) 5 40) 6 140) 7 20) 8 155) 9 30) 10 175) 11 40)) := u519.self' ee532
  have u537 := u520.ne' ee532 (Ne.symm (u43.apart nq48))
  have u538 := u521.ne' ee532 (Ne.symm (u97.apart nq103))
  have u539 := u522.ne' ee532 (Ne.symm (u117.apart nq124))
  have u540 := u523.ne' ee532 (Ne.symm (u139.apart nq147))
  have u541 := u524.ne' ee532 (Ne.symm (u163.apart nq172))
  have u542 := u525.ne' ee532 (Ne.symm (u189.apart nq199))
  have u543 := u526.ne' ee532 (Ne.symm (u217.apart nq228))
  have u544 := u527.ne' ee532 (Ne.symm (u247.apart nq259))
  have u545 := u528.ne' ee532 (Ne.symm (u279.apart nq292))
  have dm546 := (dom_put ee532).trans dm529
  have kp547 := kp530.tr2 ((Keep.rf : Keep _ _ (fun y => y = a3)).put ee532 rfl) (fun y z => Or.inr (by rw [show y = a3 from z]; exact nna3))
  refine j_iinc (y := 2) (lv' := [(0, .ref h), (1, vi (2))]) 1 [1, 0] C dX7_init_221 rfl rfl rfl rfl rfl ?_
  refine j_goto (tgt := 137) C dX7_init_224 rfl ?_
  refine j_iload_n 1 C dX7_init_137 rfl rfl rfl ?_
  refine j_iconst C dX7_init_138 rfl ?_
  refine j_icmp_ge (tgt := 227) C dX7_init_139 rfl rfl ⟨by decide, by decide⟩ ⟨by decide, by decide⟩ (fun cc548 => absurd cc548 (by decide)) (fun _ => ?_)
  refine j_aload_n 0 C dX7_init_142 rfl rfl rfl ?_
  refine j_get C dX7_init_143 rfl fg_X7_16 u533 rfl ?_
  refine j_bipush C dX7_init_146 rfl (by decide) ?_
  refine j_iload_n 1 C dX7_init_148 rfl rfl rfl ?_
  refine j_imul C dX7_init_149 rfl ?_
  refine j_sipush C dX7_init_150 rfl (by decide) ?_
  refine j_iast C dX7_init_153 rfl u536 ⟨by omega, by omega⟩ (by omega) (fun τ549 ee550 => ?_)
  have u551 := u533.ne' ee550 (u24.apart nq31)
  have u552 := u534.ne' ee550 (u25.apart nq31)
  have u553 := u535.ne' ee550 (u26.apart nq31)
  have u554 : has τ549 a3 (iA (kc κ) 24 (ups (ups (ups (ups (ups (ups (ups (ups (ups (ups (ups (ups (ups (fun _ => 0) 0 140) 1 20) 2 155) 3 30) 4 175) 5 40) 6 140) 7 20) 8 155) 9 30) 10 175) 11 40) 12 140)) := u536.self' ee550
  have u555 := u537.ne' ee550 (Ne.symm (u43.apart nq48))
  have u556 := u538.ne' ee550 (Ne.symm (u97.apart nq103))
  have u557 := u539.ne' ee550 (Ne.symm (u117.apart nq124))
  have u558 := u540.ne' ee550 (Ne.symm (u139.apart nq147))
  have u559 := u541.ne' ee550 (Ne.symm (u163.apart nq172))
  have u560 := u542.ne' ee550 (Ne.symm (u189.apart nq199))
  have u561 := u543.ne' ee550 (Ne.symm (u217.apart nq228))
  have u562 := u544.ne' ee550 (Ne.symm (u247.apart nq259))
  have u563 := u545.ne' ee550 (Ne.symm (u279.apart nq292))
  have dm564 := (dom_put ee550).trans dm546
  have kp565 := kp547.tr2 ((Keep.rf : Keep _ _ (fun y => y = a3)).put ee550 rfl) (fun y z => Or.inr (by rw [show y = a3 from z]; exact nna3))
  refine j_aload_n 0 C dX7_init_154 rfl rfl rfl ?_
  refine j_get C dX7_init_155 rfl fg_X7_16 u551 rfl ?_
  refine j_bipush C dX7_init_158 rfl (by decide) ?_
  refine j_iload_n 1 C dX7_init_160 rfl rfl rfl ?_
  refine j_imul C dX7_init_161 rfl ?_
  refine j_iconst C dX7_init_162 rfl ?_
  refine j_iadd C dX7_init_163 rfl ?_
  refine j_bipush C dX7_init_164 rfl (by decide) ?_
  refine j_iast C dX7_init_166 rfl u554 ⟨by omega, by omega⟩ (by omega) (fun τ566 ee567 => ?_)
  have u568 := u551.ne' ee567 (u24.apart nq31)
  have u569 := u552.ne' ee567 (u25.apart nq31)
  have u570 := u553.ne' ee567 (u26.apart nq31)
  have u571 : has τ566 a3 (iA (kc κ) 24 (ups (ups (ups (ups (ups (ups (ups (ups (ups (ups (ups (ups (ups (ups (fun _ => 0) 0 140) 1 20) 2 155) 3 30) 4 175) 5 40) 6 140) 7 20) 8 155) 9 30) 10 175) 11 40) 12 140) 13 20)) := u554.self' ee567
  have u572 := u555.ne' ee567 (Ne.symm (u43.apart nq48))
  have u573 := u556.ne' ee567 (Ne.symm (u97.apart nq103))
  have u574 := u557.ne' ee567 (Ne.symm (u117.apart nq124))
  have u575 := u558.ne' ee567 (Ne.symm (u139.apart nq147))
  have u576 := u559.ne' ee567 (Ne.symm (u163.apart nq172))
  have u577 := u560.ne' ee567 (Ne.symm (u189.apart nq199))
  have u578 := u561.ne' ee567 (Ne.symm (u217.apart nq228))
  have u579 := u562.ne' ee567 (Ne.symm (u247.apart nq259))
  have u580 := u563.ne' ee567 (Ne.symm (u279.apart nq292))
  have dm581 := (dom_put ee567).trans dm564
  have kp582 := kp565.tr2 ((Keep.rf : Keep _ _ (fun y => y = a3)).put ee567 rfl) (fun y z => Or.inr (by rw [show y = a3 from z]; exact nna3))
  refine j_aload_n 0 C dX7_init_167 rfl rfl rfl ?_
  refine j_get C dX7_init_168 rfl fg_X7_16 u568 rfl ?_
  refine j_bipush C dX7_init_171 rfl (by decide) ?_
  refine j_iload_n 1 C dX7_init_173 rfl rfl rfl ?_
  refine j_imul C dX7_init_174 rfl ?_
  refine j_iconst C dX7_init_175 rfl ?_
  refine j_iadd C dX7_init_176 rfl ?_
  refine j_sipush C dX7_init_177 rfl (by decide) ?_
  refine j_iast C dX7_init_180 rfl u571 ⟨by omega, by omega⟩ (by omega) (fun τ583 ee584 => ?_)
  have u585 := u568.ne' ee584 (u24.apart nq31)
  have u586 := u569.ne' ee584 (u25.apart nq31)
  have u587 := u570.ne' ee584 (u26.apart nq31)
  have u588 : has τ583 a3 (iA (kc κ) 24 (ups (ups (ups (ups (ups (ups (ups (ups (ups (ups (ups (ups (ups (ups (ups (fun _ => 0) 0 140) 1 20) 2 155) 3 30) 4 175) 5 40) 6 140) 7 20) 8 155) 9 30) 10 175) 11 40) 12 140) 13 20) 14 155)) := u571.self' ee584
  have u589 := u572.ne' ee584 (Ne.symm (u43.apart nq48))
  have u590 := u573.ne' ee584 (Ne.symm (u97.apart nq103))
  have u591 := u574.ne' ee584 (Ne.symm (u117.apart nq124))
  have u592 := u575.ne' ee584 (Ne.symm (u139.apart nq147))
  have u593 := u576.ne' ee584 (Ne.symm (u163.apart nq172))
  have u594 := u577.ne' ee584 (Ne.symm (u189.apart nq199))
  have u595 := u578.ne' ee584 (Ne.symm (u217.apart nq228))
  have u596 := u579.ne' ee584 (Ne.symm (u247.apart nq259))
  have u597 := u580.ne' ee584 (Ne.symm (u279.apart nq292))
  have dm598 := (dom_put ee584).trans dm581
  have kp599 := kp582.tr2 ((Keep.rf : Keep _ _ (fun y => y = a3)).put ee584 rfl) (fun y z => Or.inr (by rw [show y = a3 from z]; exact nna3))
  refine j_aload_n 0 C dX7_init_181 rfl rfl rfl ?_
  refine j_get C dX7_init_182 rfl fg_X7_16 u585 rfl ?_
  refine j_bipush C dX7_init_185 rfl (by decide) ?_
  refine j_iload_n 1 C dX7_init_187 rfl rfl rfl ?_
  refine j_imul C dX7_init_188 rfl ?_
  refine j_iconst C dX7_init_189 rfl ?_
  refine j_iadd C dX7_init_190 rfl ?_
  refine j_bipush C dX7_init_191 rfl (by decide) ?_
  refine j_iast C dX7_init_193 rfl u588 ⟨by omega, by omega⟩ (by omega) (fun τ600 ee601 => ?_)
  have u602 := u585.ne' ee601 (u24.apart nq31)
  have u603 := u586.ne' ee601 (u25.apart nq31)
  have u604 := u587.ne' ee601 (u26.apart nq31)
  have u605 : has τ600 a3 (iA (kc κ) 24 (ups (ups (ups (ups (ups (ups (ups (ups (ups (ups (ups (ups (ups (ups (ups (ups (fun _ => 0) 0 140) 1 20) 2 155) 3 30) 4 175) 5 40) 6 140) 7 20) 8 155) 9 30) 10 175) 11 40) 12 140) 13 20) 14 155) 15 30)) := u588.self' ee601
  have u606 := u589.ne' ee601 (Ne.symm (u43.apart nq48))
  have u607 := u590.ne' ee601 (Ne.symm (u97.apart nq103))
  have u608 := u591.ne' ee601 (Ne.symm (u117.apart nq124))
  have u609 := u592.ne' ee601 (Ne.symm (u139.apart nq147))
  have u610 := u593.ne' ee601 (Ne.symm (u163.apart nq172))
  have u611 := u594.ne' ee601 (Ne.symm (u189.apart nq199))
  have u612 := u595.ne' ee601 (Ne.symm (u217.apart nq228))
  have u613 := u596.ne' ee601 (Ne.symm (u247.apart nq259))
  have u614 := u597.ne' ee601 (Ne.symm (u279.apart nq292))
  have dm615 := (dom_put ee601).trans dm598
  have kp616 := kp599.tr2 ((Keep.rf : Keep _ _ (fun y => y = a3)).put ee601 rfl) (fun y z => Or.inr (by rw [show y = a3 from z]; exact nna3))
  refine j_aload_n 0 C dX7_init_194 rfl rfl rfl ?_
  refine j_get C dX7_init_195 rfl fg_X7_16 u602 rfl ?_
  refine j_bipush C dX7_init_198 rfl (by decide) ?_
  refine j_iload_n 1 C dX7_init_200 rfl rfl rfl ?_
  refine j_imul C dX7_init_201 rfl ?_
  refine j_iconst C dX7_init_202 rfl ?_
  refine j_iadd C dX7_init_203 rfl ?_
  refine j_sipush C dX7_init_204 rfl (by decide) ?_
  refine j_iast C dX7_init_207 rfl u605 ⟨by omega, by omega⟩ (by omega) (fun τ617 ee618 => ?_)
  have u619 := u602.ne' ee618 (u24.apart nq31)
  have u620 := u603.ne' ee618 (u25.apart nq31)
  have u621 := u604.ne' ee618 (u26.apart nq31)
  have u622 : has τ617 a3 (iA (kc κ) 24 (ups (ups (ups (ups (ups (ups (ups (ups (ups (ups (ups (ups (ups (ups (ups (ups (ups (fun _ => 0) 0 140) 1 20) 2 155) 3 30) 4 175) 5 40) 6 140) 7 20) 8 155) 9 30) 10 175) 11 40) 12 140) 13 20) 14 155) 15 30) 16 175)) := u605.self' ee618
  have u623 := u606.ne' ee618 (Ne.symm (u43.apart nq48))
  have u624 := u607.ne' ee618 (Ne.symm (u97.apart nq103))
  have u625 := u608.ne' ee618 (Ne.symm (u117.apart nq124))
  have u626 := u609.ne' ee618 (Ne.symm (u139.apart nq147))
  have u627 := u610.ne' ee618 (Ne.symm (u163.apart nq172))
  have u628 := u611.ne' ee618 (Ne.symm (u189.apart nq199))
  have u629 := u612.ne' ee618 (Ne.symm (u217.apart nq228))
  have u630 := u613.ne' ee618 (Ne.symm (u247.apart nq259))
  have u631 := u614.ne' ee618 (Ne.symm (u279.apart nq292))
  have dm632 := (dom_put ee618).trans dm615
  have kp633 := kp616.tr2 ((Keep.rf : Keep _ _ (fun y => y = a3)).put ee618 rfl) (fun y z => Or.inr (by rw [show y = a3 from z]; exact nna3))
  refine j_aload_n 0 C dX7_init_208 rfl rfl rfl ?_
  refine j_get C dX7_init_209 rfl fg_X7_16 u619 rfl ?_
  refine j_bipush C dX7_init_212 rfl (by decide) ?_
  refine j_iload_n 1 C dX7_init_214 rfl rfl rfl ?_
  refine j_imul C dX7_init_215 rfl ?_
  refine j_iconst C dX7_init_216 rfl ?_
  refine j_iadd C dX7_init_217 rfl ?_
  refine j_bipush C dX7_init_218 rfl (by decide) ?_
  refine j_iast C dX7_init_220 rfl u622 ⟨by omega, by omega⟩ (by omega) (fun τ634 ee635 => ?_)
  have u636 := u619.ne' ee635 (u24.apart nq31)
  have u637 := u620.ne' ee635 (u25.apart nq31)
  have u638 := u621.ne' ee635 (u26.apart nq31)
  have u639 : has τ634 a3 (iA (kc κ) 24 (ups (ups (ups (ups (ups (ups (ups (ups (ups (ups (ups (ups (ups (ups (ups (ups (ups (ups (fun _ => 0) 0 140) 1 20) 2 155) 3 30) 4 175) 5 40) 6 140) 7 20) 8 155) 9 30) 10 175) 11 40) 12 140) 13 20) 14 155) 15 30) 16 175) 17 40)) := u622.self' ee635
  have u640 := u623.ne' ee635 (Ne.symm (u43.apart nq48))
  have u641 := u624.ne' ee635 (Ne.symm (u97.apart nq103))
  have u642 := u625.ne' ee635 (Ne.symm (u117.apart nq124))
  have u643 := u626.ne' ee635 (Ne.symm (u139.apart nq147))
  have u644 := u627.ne' ee635 (Ne.symm (u163.apart nq172))
  have u645 := u628.ne' ee635 (Ne.symm (u189.apart nq199))
  have u646 := u629.ne' ee635 (Ne.symm (u217.apart nq228))
  have u647 := u630.ne' ee635 (Ne.symm (u247.apart nq259))
  have u648 := u631.ne' ee635 (Ne.symm (u279.apart nq292))
  have dm649 := (dom_put ee635).trans dm632
  have kp650 := kp633.tr2 ((Keep.rf : Keep _ _ (fun y => y = a3)).put ee635 rfl) (fun y z => Or.inr (by rw [show y = a3 from z]; exact nna3))
  refine j_iinc (y := 3) (lv' := [(0, .ref h), (1, vi (3))]) 1 [1, 0] C dX7_init_221 rfl rfl rfl rfl rfl ?_
  refine j_goto (tgt := 137) C dX7_init_224 rfl ?_
  refine j_iload_n 1 C dX7_init_137 rfl rfl rfl ?_
  refine j_iconst C dX7_init_138 rfl ?_
  refine j_icmp_ge (tgt := 227) C dX7_init_139 rfl rfl ⟨by decide, by decide⟩ ⟨by decide, by decide⟩ (fun cc651 => absurd cc651 (by decide)) (fun _ => ?_)
  refine j_aload_n 0 C dX7_init_142 rfl rfl rfl ?_
  refine j_get C dX7_init_143 rfl fg_X7_16 u636 rfl ?_
  refine j_bipush C dX7_init_146 rfl (by decide) ?_
  refine j_iload_n 1 C dX7_init_148 rfl rfl rfl ?_
  refine j_imul C dX7_init_149 rfl ?_
  refine j_sipush C dX7_init_150 rfl (by decide) ?_
  refine j_iast C dX7_init_153 rfl u639 ⟨by omega, by omega⟩ (by omega) (fun τ652 ee653 => ?_)
  have u654 := u636.ne' ee653 (u24.apart nq31)
  have u655 := u637.ne' ee653 (u25.apart nq31)
  have u656 := u638.ne' ee653 (u26.apart nq31)
  have u657 : has τ652 a3 (iA (kc κ) 24 (ups (ups (ups (ups (ups (ups (ups (ups (ups (ups (ups (ups (ups (ups (ups (ups (ups (ups (ups (fun _ => 0) 0 140) 1 20) 2 155) 3 30) 4 175) 5 40) 6 140) 7 20) 8 155) 9 30) 10 175) 11 40) 12 140) 13 20) 14 155) 15 30) 16 175) 17 40) 18 140)) := u639.self' ee653
  have u658 := u640.ne' ee653 (Ne.symm (u43.apart nq48))
  have u659 := u641.ne' ee653 (Ne.symm (u97.apart nq103))
  have u660 := u642.ne' ee653 (Ne.symm (u117.apart nq124))
  have u661 := u643.ne' ee653 (Ne.symm (u139.apart nq147))
  have u662 := u644.ne' ee653 (Ne.symm (u163.apart nq172))
  have u663 := u645.ne' ee653 (Ne.symm (u189.apart nq199))
  have u664 := u646.ne' ee653 (Ne.symm (u217.apart nq228))
  have u665 := u647.ne' ee653 (Ne.symm (u247.apart nq259))
  have u666 := u648.ne' ee653 (Ne.symm (u279.apart nq292))
  have dm667 := (dom_put ee653).trans dm649
  have kp668 := kp650.tr2 ((Keep.rf : Keep _ _ (fun y => y = a3)).put ee653 rfl) (fun y z => Or.inr (by rw [show y = a3 from z]; exact nna3))
  refine j_aload_n 0 C dX7_init_154 rfl rfl rfl ?_
  refine j_get C dX7_init_155 rfl fg_X7_16 u654 rfl ?_
  refine j_bipush C dX7_init_158 rfl (by decide) ?_
  refine j_iload_n 1 C dX7_init_160 rfl rfl rfl ?_
  refine j_imul C dX7_init_161 rfl ?_
  refine j_iconst C dX7_init_162 rfl ?_
  refine j_iadd C dX7_init_163 rfl ?_
  refine j_bipush C dX7_init_164 rfl (by decide) ?_
  refine j_iast C dX7_init_166 rfl u657 ⟨by omega, by omega⟩ (by omega) (fun τ669 ee670 => ?_)
  have u671 := u654.ne' ee670 (u24.apart nq31)
  have u672 := u655.ne' ee670 (u25.apart nq31)
  have u673 := u656.ne' ee670 (u26.apart nq31)
  have u674 : has τ669 a3 (iA (kc κ) 24 (ups (ups (ups (ups (ups (ups (ups (ups (ups (ups (ups (ups (ups (ups (ups (ups (ups (ups (ups (ups (fun _ => 0) 0 140) 1 20) 2 155) 3 30) 4 175) 5 40) 6 140) 7 20) 8 155) 9 30) 10 175) 11 40) 12 140) 13 20) 14 155) 15 30) 16 175) 17 40) 18 140) 19 20)) := u657.self' ee670
  have u675 := u658.ne' ee670 (Ne.symm (u43.apart nq48))
  have u676 := u659.ne' ee670 (Ne.symm (u97.apart nq103))
  have u677 := u660.ne' ee670 (Ne.symm (u117.apart nq124))
  have u678 := u661.ne' ee670 (Ne.symm (u139.apart nq147))
  have u679 := u662.ne' ee670 (Ne.symm (u163.apart nq172))
  have u680 := u663.ne' ee670 (Ne.symm (u189.apart nq199))
  have u681 := u664.ne' ee670 (Ne.symm (u217.apart nq228))
  have u682 := u665.ne' ee670 (Ne.symm (u247.apart nq259))
  have u683 := u666.ne' ee670 (Ne.symm (u279.apart nq292))
  have dm684 := (dom_put ee670).trans dm667
  have kp685 := kp668.tr2 ((Keep.rf : Keep _ _ (fun y => y = a3)).put ee670 rfl) (fun y z => Or.inr (by rw [show y = a3 from z]; exact nna3))
  refine j_aload_n 0 C dX7_init_167 rfl rfl rfl ?_
  refine j_get C dX7_init_168 rfl fg_X7_16 u671 rfl ?_
  refine j_bipush C dX7_init_171 rfl (by decide) ?_
  refine j_iload_n 1 C dX7_init_173 rfl rfl rfl ?_
  refine j_imul C dX7_init_174 rfl ?_
  refine j_iconst C dX7_init_175 rfl ?_
  refine j_iadd C dX7_init_176 rfl ?_
  refine j_sipush C dX7_init_177 rfl (by decide) ?_
  refine j_iast C dX7_init_180 rfl u674 ⟨by omega, by omega⟩ (by omega) (fun τ686 ee687 => ?_)
  have u688 := u671.ne' ee687 (u24.apart nq31)
  have u689 := u672.ne' ee687 (u25.apart nq31)
  have u690 := u673.ne' ee687 (u26.apart nq31)
  have u691 : has τ686 a3 (iA (kc κ) 24 (ups (ups (ups (ups (ups (ups (ups (ups (ups (ups (ups (ups (ups (ups (ups (ups (ups (ups (ups (ups (ups (fun _ => 0) 0 140) 1 20) 2 155) 3 30) 4 175) 5 40) 6 140) 7 20) 8 155) 9 30) 10 175) 11 40) 12 140) 13 20) 14 155) 15 30) 16 175) 17 40) 18 140) 19 20) 20 155)) := u674.self' ee687
  have u692 := u675.ne' ee687 (Ne.symm (u43.apart nq48))
  have u693 := u676.ne' ee687 (Ne.symm (u97.apart nq103))
  have u694 := u677.ne' ee687 (Ne.symm (u117.apart nq124))
  have u695 := u678.ne' ee687 (Ne.symm (u139.apart nq147))
  have u696 := u679.ne' ee687 (Ne.symm (u163.apart nq172))
  have u697 := u680.ne' ee687 (Ne.symm (u189.apart nq199))
  have u698 := u681.ne' ee687 (Ne.symm (u217.apart nq228))
  have u699 := u682.ne' ee687 (Ne.symm (u247.apart nq259))
  have u700 := u683.ne' ee687 (Ne.symm (u279.apart nq292))
  have dm701 := (dom_put ee687).trans dm684
  have kp702 := kp685.tr2 ((Keep.rf : Keep _ _ (fun y => y = a3)).put ee687 rfl) (fun y z => Or.inr (by rw [show y = a3 from z]; exact nna3))
  refine j_aload_n 0 C dX7_init_181 rfl rfl rfl ?_
  refine j_get C dX7_init_182 rfl fg_X7_16 u688 rfl ?_
  refine j_bipush C dX7_init_185 rfl (by decide) ?_
  refine j_iload_n 1 C dX7_init_187 rfl rfl rfl ?_
  refine j_imul C dX7_init_188 rfl ?_
  refine j_iconst C dX7_init_189 rfl ?_
  refine j_iadd C dX7_init_190 rfl ?_
  refine j_bipush C dX7_init_191 rfl (by decide) ?_
  refine j_iast C dX7_init_193 rfl u691 ⟨by omega, by omega⟩ (by omega) (fun τ703 ee704 => ?_)
  have u705 := u688.ne' ee704 (u24.apart nq31)
  have u706 := u689.ne' ee704 (u25.apart nq31)
  have u707 := u690.ne' ee704 (u26.apart nq31)
  have u708 : has τ703 a3 (iA (kc κ) 24 (ups (ups (ups (ups (ups (ups (ups (ups (ups (ups (ups (ups (ups (ups (ups (ups (ups (ups (ups (ups (ups (ups (fun _ => 0) 0 140) 1 20) 2 155) 3 30) 4 175) 5 40) 6 140) 7 20) 8 155) 9 30) 10 175) 11 40) 12 140) 13 20) 14 155) 15 30) 16 175) 17 40) 18 140) 19 20) 20 155) 21 30)) := u691.self' ee704
  have u709 := u692.ne' ee704 (Ne.symm (u43.apart nq48))
  have u710 := u693.ne' ee704 (Ne.symm (u97.apart nq103))
  have u711 := u694.ne' ee704 (Ne.symm (u117.apart nq124))
  have u712 := u695.ne' ee704 (Ne.symm (u139.apart nq147))
  have u713 := u696.ne' ee704 (Ne.symm (u163.apart nq172))
  have u714 := u697.ne' ee704 (Ne.symm (u189.apart nq199))
  have u715 := u698.ne' ee704 (Ne.symm (u217.apart nq228))
  have u716 := u699.ne' ee704 (Ne.symm (u247.apart nq259))
  have u717 := u700.ne' ee704 (Ne.symm (u279.apart nq292))
  have dm718 := (dom_put ee704).trans dm701
  have kp719 := kp702.tr2 ((Keep.rf : Keep _ _ (fun y => y = a3)).put ee704 rfl) (fun y z => Or.inr (by rw [show y = a3 from z]; exact nna3))
  refine j_aload_n 0 C dX7_init_194 rfl rfl rfl ?_
  refine j_get C dX7_init_195 rfl fg_X7_16 u705 rfl ?_
  refine j_bipush C dX7_init_198 rfl (by decide) ?_
  refine j_iload_n 1 C dX7_init_200 rfl rfl rfl ?_
  refine j_imul C dX7_init_201 rfl ?_
  refine j_iconst C dX7_init_202 rfl ?_
  refine j_iadd C dX7_init_203 rfl ?_
  refine j_sipush C dX7_init_204 rfl (by decide) ?_
  refine j_iast C dX7_init_207 rfl u708 ⟨by omega, by omega⟩ (by omega) (fun τ720 ee721 => ?_)
  have u722 := u705.ne' ee721 (u24.apart nq31)
  have u723 := u706.ne' ee721 (u25.apart nq31)
  have u724 := u707.ne' ee721 (u26.apart nq31)
  have u725 : has τ720 a3 (iA (kc κ) 24 (ups (ups (ups (ups (ups (ups (ups (ups (ups (ups (ups (ups (ups (ups (ups (ups (ups (ups (ups (ups (ups (ups (ups (fun _ => 0) 0 140) 1 20) 2 155) 3 30) 4 175) 5 40) 6 140) 7 20) 8 155) 9 30) 10 175) 11 40) 12 140) 13 20) 14 155) 15 30) 16 175) 17 40) 18 140) 19 20) 20 155) 21 30) 22 175)) := u708.self' ee721
  have u726 := u709.ne' ee721 (Ne.symm (u43.apart nq48))
  have u727 := u710.ne' ee721 (Ne.symm (u97.apart nq103))
  have u728 := u711.ne' ee721 (Ne.symm (u117.apart nq124))
  have u729 := u712.ne' ee721 (Ne.symm (u139.apart nq147))
  have u730 := u713.ne' ee721 (Ne.symm (u163.apart nq172))
  have u731 := u714.ne' ee721 (Ne.symm (u189.apart nq199))
  have u732 := u715.ne' ee721 (Ne.symm (u217.apart nq228))
  have u733 := u716.ne' ee721 (Ne.symm (u247.apart nq259))
  have u734 := u717.ne' ee721 (Ne.symm (u279.apart nq292))
  have dm735 := (dom_put ee721).trans dm718
  have kp736 := kp719.tr2 ((Keep.rf : Keep _ _ (fun y => y = a3)).put ee721 rfl) (fun y z => Or.inr (by rw [show y = a3 from z]; exact nna3))
  refine j_aload_n 0 C dX7_init_208 rfl rfl rfl ?_
  refine j_get C dX7_init_209 rfl fg_X7_16 u722 rfl ?_
  refine j_bipush C dX7_init_212 rfl (by decide) ?_
  refine j_iload_n 1 C dX7_init_214 rfl rfl rfl ?_
  refine j_imul C dX7_init_215 rfl ?_
  refine j_iconst C dX7_init_216 rfl ?_
  refine j_iadd C dX7_init_217 rfl ?_
  refine j_bipush C dX7_init_218 rfl (by decide) ?_
  refine j_iast C dX7_init_220 rfl u725 ⟨by omega, by omega⟩ (by omega) (fun τ737 ee738 => ?_)
  have u739 := u722.ne' ee738 (u24.apart nq31)
  have u740 := u723.ne' ee738 (u25.apart nq31)
  have u741 := u724.ne' ee738 (u26.apart nq31)
  have u742 : has τ737 a3 (iA (kc κ) 24 (ups (ups (ups (ups (ups (ups (ups (ups (ups (ups (ups (ups (ups (ups (ups (ups (ups (ups (ups (ups (ups (ups (ups (ups (fun _ => 0) 0 140) 1 20) 2 155) 3 30) 4 175) 5 40) 6 140) 7 20) 8 155) 9 30) 10 175) 11 40) 12 140) 13 20) 14 155) 15 30) 16 175) 17 40) 18 140) 19 20) 20 155) 21 30) 22 175) 23 40)) := u725.self' ee738
  have u743 := u726.ne' ee738 (Ne.symm (u43.apart nq48))
  have u744 := u727.ne' ee738 (Ne.symm (u97.apart nq103))
  have u745 := u728.ne' ee738 (Ne.symm (u117.apart nq124))
  have u746 := u729.ne' ee738 (Ne.symm (u139.apart nq147))
  have u747 := u730.ne' ee738 (Ne.symm (u163.apart nq172))
  have u748 := u731.ne' ee738 (Ne.symm (u189.apart nq199))
  have u749 := u732.ne' ee738 (Ne.symm (u217.apart nq228))
  have u750 := u733.ne' ee738 (Ne.symm (u247.apart nq259))
  have u751 := u734.ne' ee738 (Ne.symm (u279.apart nq292))
  have dm752 := (dom_put ee738).trans dm735
  have kp753 := kp736.tr2 ((Keep.rf : Keep _ _ (fun y => y = a3)).put ee738 rfl) (fun y z => Or.inr (by rw [show y = a3 from z]; exact nna3))
  refine j_iinc (y := 4) (lv' := [(0, .ref h), (1, vi (4))]) 1 [1, 0] C dX7_init_221 rfl rfl rfl rfl rfl ?_
  refine j_goto (tgt := 137) C dX7_init_224 rfl ?_
  refine j_iload_n 1 C dX7_init_137 rfl rfl rfl ?_
  refine j_iconst C dX7_init_138 rfl ?_
  refine j_icmp_ge (tgt := 227) C dX7_init_139 rfl rfl ⟨by decide, by decide⟩ ⟨by decide, by decide⟩ (fun _ => ?_) (fun cc754 => absurd cc754 (by decide))
  refine j_nd (fun hnd => ?_)
  have hdom : τ737.1 = σ.1 ++ [a1, a2, a3, a4, a5, a6, a7, a8, a9, a10, a11, a12] := dm752.trans (by simp)
  rw [hdom] at hnd
  obtain ⟨hn1, hn2⟩ := nd_app hnd
  have hN : (h :: [a1, a2, a3, a4, a5, a6, a7, a8, a9, a10, a11, a12]).Nodup := List.nodup_cons.mpr ⟨hn2 h hh.1, hn1⟩
  have hM : RM (kc κ) τ737 (fun k => (h :: [a1, a2, a3, a4, a5, a6, a7, a8, a9, a10, a11, a12]).getD k 0) [] ruI 0 pfI hd0 0 [] [] (0, 0, 0) 0 := ⟨inj_nd hN rfl, _, _, _, _, _, _, _, _, _, _, _, _, _, _, _, u739, ⟨u740, u741, u742, u743, u744, u745, u746, u747, u748, u749, u750, u751⟩, ⟨rfl, rfl, rfl⟩, ⟨by decide, fun _ _ _ => rfl, fun i hi => absurd hi (Nat.not_lt_zero _)⟩, RuM_I, PrM_I, ⟨⟨by decide, by decide⟩, fun i hi => absurd hi (by show ¬ (i : Int) < 0; omega)⟩, ⟨by decide, fun i hi => absurd hi (Nat.not_lt_zero _)⟩, LiM.nil _⟩
  exact j_vret C E dX7_init_227 (by omega) (by omega) ⟨rfl, _, rfl, hM, fun k h1 h2 => (by show (h :: [a1, a2, a3, a4, a5, a6, a7, a8, a9, a10, a11, a12]).getD k 0 ∉ σ.1; exact fun z => hn2 _ z (nth_in h1 h2)), kp753, fun y hy => by rw [hdom]; exact List.mem_append_left _ hy⟩
