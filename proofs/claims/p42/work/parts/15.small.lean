/-! Rules, Hedge, Event, Blend: making and changing -/
theorem Keep.drop {σ σ' : Wd} {F G : Nat → Prop} (h : Keep σ σ' F) (hG : ∀ a, F a → G a ∨ a ∉ σ.1) : Keep σ σ' G := fun a e ha hn => h a e ha (fun z => (hG a z).elim hn (fun q => q ha.1))
theorem Keep.tr2 {σ σ' σ2 : Wd} {F G : Nat → Prop} (h1 : Keep σ σ' G) (h2 : Keep σ' σ2 F) (hG : ∀ a, F a → G a ∨ a ∉ σ.1) : Keep σ σ2 G := fun a e ha hn => h2 a e (h1 a e ha hn) (fun z => (hG a z).elim hn (fun q => q ha.1))
def mI : Nat → Int := ups (ups (ups (ups (ups (ups (ups (ups (ups (ups (ups (ups (fun _ => 0) 0 140) 1 155) 2 175) 3 140) 4 155) 5 175) 6 140) 7 155) 8 175) 9 140) 10 155) 11 175
def fI : Nat → Int := ups (ups (ups (ups (ups (ups (ups (ups (ups (ups (ups (ups (fun _ => 0) 0 20) 1 30) 2 40) 3 20) 4 30) 5 40) 6 20) 7 30) 8 40) 9 20) 10 30) 11 40
def ruI : Nat → Int × Int := fun i => (mI i, fI i)
theorem ruI_in : ∀ i, i < 12 → (80 ≤ (ruI i).1 ∧ (ruI i).1 ≤ 300) ∧ (0 ≤ (ruI i).2 ∧ (ruI i).2 ≤ 100) := by decide
def ruU (ru : Nat → Int × Int) (k : Nat) (x y : Int) : Nat → Int × Int := fun i => if i = k then (x, y) else ru i
theorem ruU_1 (ru : Nat → Int × Int) (k : Nat) (x y : Int) : ups (fun i => (ru i).1) k x = fun i => (ruU ru k x y i).1 := by
  funext i
  unfold ups ruU
  by_cases h : i = k <;> simp [h]
theorem ruU_2 (ru : Nat → Int × Int) (k : Nat) (x y : Int) : ups (fun i => (ru i).2) k y = fun i => (ruU ru k x y i).2 := by
  funext i
  unfold ups ruU
  by_cases h : i = k <;> simp [h]
set_option maxHeartbeats 4000000 in
set_option maxRecDepth 20000 in
theorem c_rulesInit (l : Launch) (hfl : l.stackTraces = false) (D : va_G) (cy : Nat → Nat) (σ : Wd) (h : Nat) (hh : has σ h (.inr (5, [.null, .null, vi 0]))) : Ct l yX5_init cX5_init 2 none 0 2 24 D cy [.ref h] σ (fun v σ' => v = none ∧ ∃ m f : Nat, RuleR cy σ' h m f ruI 0 ∧ m ∉ σ.1 ∧ f ∉ σ.1 ∧ Keep σ σ' (fun a => a = h) ∧ σ'.1 = σ.1 ++ [m, f]) noX := by
  refine ct_start (by decide +kernel) hfl rfl (fun κ e1 e2 e3 C E NH => ?_)
  subst e1 e2 e3
  have C : Cx κ cX5_init 2 RX5 "<init>" 0 := C
  obtain ⟨-, -, -, -, hc, hs⟩ := id E
  show J κ σ [(0, .ref h)] 0 [] 0 0
  have kp0 : Keep σ σ (fun a => a = h) := Keep.rf
  have dm0 : σ.1 = σ.1 := rfl
  refine j_aload_n 0 C dX5_init_0 rfl rfl rfl ?_
  refine j_objInit C dX5_init_1 rfl oi_X5_3 oi_in oi_co (Nat.le_of_ble_eq_true rfl) ?_
  refine j_aload_n 0 C dX5_init_4 rfl rfl rfl ?_
  refine j_bipush C dX5_init_5 rfl (by decide) ?_
  refine j_newI C dX5_init_7 rfl aw_int ⟨by omega, by omega⟩ (by omega) (by omega) (k' := 1) (n' := 12) (by first | rfl | omega) (by first | rfl | omega) (fun m τ1 nq3 ee2 => ?_)
  have u4 := hh.old' ee2 nq3
  have u5 : has τ1 m (iA (kc κ) 12 (fun _ => 0)) := has.fresh' ee2
  have kp6 := kp0.new ee2 nq3
  have dm7 := (dom_new ee2).trans (congrArg (· ++ [m]) dm0)
  have nnm : m ∉ σ.1 := fun z => nq3 (by rw [dm0]; simp [z])
  refine j_putF (fs' := [.ref m, .null, vi (0)]) C dX5_init_9 rfl fa_X5_9 u4 rfl rfl rfl rfl (fun τ8 ee9 => ?_)
  have u10 : has τ8 h (.inr (5, [.ref m, .null, vi (0)])) := u4.self' ee9
  have u11 := u5.ne' ee9 (Ne.symm (hh.apart nq3))
  have kp12 := kp6.put ee9 rfl
  have dm13 := (dom_put ee9).trans dm7
  refine j_aload_n 0 C dX5_init_12 rfl rfl rfl ?_
  refine j_bipush C dX5_init_13 rfl (by decide) ?_
  refine j_newI C dX5_init_15 rfl aw_int ⟨by omega, by omega⟩ (by omega) (by omega) (k' := 2) (n' := 24) (by first | rfl | omega) (by first | rfl | omega) (fun f τ14 nq16 ee15 => ?_)
  have u17 := u10.old' ee15 nq16
  have u18 := u11.old' ee15 nq16
  have u19 : has τ14 f (iA (kc κ) 12 (fun _ => 0)) := has.fresh' ee15
  have kp20 := kp12.new ee15 nq16
  have dm21 := (dom_new ee15).trans (congrArg (· ++ [f]) dm13)
  have nnf : f ∉ σ.1 := fun z => nq16 (by rw [dm13]; simp [z])
  have kp22 : Keep σ τ14 (fun a => a = h ∨ a = m ∨ a = f) := kp20.mono (fun a z => Or.inl z)
  refine j_putF (fs' := [.ref m, .ref f, vi (0)]) C dX5_init_17 rfl fa_X5_15 u17 rfl rfl rfl rfl (fun τ23 ee24 => ?_)
  have u25 : has τ23 h (.inr (5, [.ref m, .ref f, vi (0)])) := u17.self' ee24
  have u26 := u18.ne' ee24 (Ne.symm (hh.apart nq3))
  have u27 := u19.ne' ee24 (Ne.symm (u10.apart nq16))
  have kp28 := kp22.put ee24 (Or.inl rfl)
  have dm29 := (dom_put ee24).trans dm21
  refine j_aload_n 0 C dX5_init_20 rfl rfl rfl ?_
  refine j_iconst C dX5_init_21 rfl ?_
  refine j_put (fs' := [.ref m, .ref f, vi (0)]) C dX5_init_22 rfl fa_X5_18 u25 rfl rfl rfl rfl (fun τ30 ee31 => ?_)
  have u32 : has τ30 h (.inr (5, [.ref m, .ref f, vi (0)])) := u25.self' ee31
  have u33 := u26.ne' ee31 (Ne.symm (hh.apart nq3))
  have u34 := u27.ne' ee31 (Ne.symm (u10.apart nq16))
  have kp35 := kp28.put ee31 (Or.inl rfl)
  have dm36 := (dom_put ee31).trans dm29
  refine j_iconst C dX5_init_25 rfl ?_
  refine j_istore_n (lv' := [(0, .ref h), (1, vi (0))]) [1, 0] C dX5_init_26 rfl rfl rfl rfl ?_
  refine j_iload_n 1 C dX5_init_27 rfl rfl rfl ?_
  refine j_iconst C dX5_init_28 rfl ?_
  refine j_iadd C dX5_init_29 rfl ?_
  refine j_aload_n 0 C dX5_init_30 rfl rfl rfl ?_
  refine j_get C dX5_init_31 rfl fg_X5_9 u32 rfl ?_
  refine j_alen (i := 2) C dX5_init_34 rfl rfl u33 ?_
  refine j_icmp_gt (tgt := 103) C dX5_init_35 rfl rfl ⟨by omega, by omega⟩ ⟨by omega, by omega⟩ (fun cc37 => ?_) (fun cc37 => ?_)
  · exact absurd cc37 (by decide)
  refine j_aload_n 0 C dX5_init_38 rfl rfl rfl ?_
  refine j_get C dX5_init_39 rfl fg_X5_9 u32 rfl ?_
  refine j_iload_n 1 C dX5_init_42 rfl rfl rfl ?_
  refine j_sipush C dX5_init_43 rfl (by decide) ?_
  refine j_iast C dX5_init_46 rfl u33 ⟨by omega, by omega⟩ (by omega) (fun τ38 ee39 => ?_)
  have u40 := u32.ne' ee39 (hh.apart nq3)
  have u41 : has τ38 m (iA (kc κ) 12 (ups (fun _ => 0) 0 140)) := u33.self' ee39
  have u42 := u34.ne' ee39 (Ne.symm (u11.apart nq16))
  have kp43 := kp35.put ee39 (Or.inr (Or.inl rfl))
  have dm44 := (dom_put ee39).trans dm36
  refine j_aload_n 0 C dX5_init_47 rfl rfl rfl ?_
  refine j_get C dX5_init_48 rfl fg_X5_9 u40 rfl ?_
  refine j_iload_n 1 C dX5_init_51 rfl rfl rfl ?_
  refine j_iconst C dX5_init_52 rfl ?_
  refine j_iadd C dX5_init_53 rfl ?_
  refine j_sipush C dX5_init_54 rfl (by decide) ?_
  refine j_iast C dX5_init_57 rfl u41 ⟨by omega, by omega⟩ (by omega) (fun τ45 ee46 => ?_)
  have u47 := u40.ne' ee46 (hh.apart nq3)
  have u48 : has τ45 m (iA (kc κ) 12 (ups (ups (fun _ => 0) 0 140) 1 155)) := u41.self' ee46
  have u49 := u42.ne' ee46 (Ne.symm (u11.apart nq16))
  have kp50 := kp43.put ee46 (Or.inr (Or.inl rfl))
  have dm51 := (dom_put ee46).trans dm44
  refine j_aload_n 0 C dX5_init_58 rfl rfl rfl ?_
  refine j_get C dX5_init_59 rfl fg_X5_9 u47 rfl ?_
  refine j_iload_n 1 C dX5_init_62 rfl rfl rfl ?_
  refine j_iconst C dX5_init_63 rfl ?_
  refine j_iadd C dX5_init_64 rfl ?_
  refine j_sipush C dX5_init_65 rfl (by decide) ?_
  refine j_iast C dX5_init_68 rfl u48 ⟨by omega, by omega⟩ (by omega) (fun τ52 ee53 => ?_)
  have u54 := u47.ne' ee53 (hh.apart nq3)
  have u55 : has τ52 m (iA (kc κ) 12 (ups (ups (ups (fun _ => 0) 0 140) 1 155) 2 175)) := u48.self' ee53
  have u56 := u49.ne' ee53 (Ne.symm (u11.apart nq16))
  have kp57 := kp50.put ee53 (Or.inr (Or.inl rfl))
  have dm58 := (dom_put ee53).trans dm51
  refine j_aload_n 0 C dX5_init_69 rfl rfl rfl ?_
  refine j_get C dX5_init_70 rfl fg_X5_15 u54 rfl ?_
  refine j_iload_n 1 C dX5_init_73 rfl rfl rfl ?_
  refine j_bipush C dX5_init_74 rfl (by decide) ?_
  refine j_iast C dX5_init_76 rfl u56 ⟨by omega, by omega⟩ (by omega) (fun τ59 ee60 => ?_)
  have u61 := u54.ne' ee60 (u10.apart nq16)
  have u62 := u55.ne' ee60 (u11.apart nq16)
  have u63 : has τ59 f (iA (kc κ) 12 (ups (fun _ => 0) 0 20)) := u56.self' ee60
  have kp64 := kp57.put ee60 (Or.inr (Or.inr rfl))
  have dm65 := (dom_put ee60).trans dm58
  refine j_aload_n 0 C dX5_init_77 rfl rfl rfl ?_
  refine j_get C dX5_init_78 rfl fg_X5_15 u61 rfl ?_
  refine j_iload_n 1 C dX5_init_81 rfl rfl rfl ?_
  refine j_iconst C dX5_init_82 rfl ?_
  refine j_iadd C dX5_init_83 rfl ?_
  refine j_bipush C dX5_init_84 rfl (by decide) ?_
  refine j_iast C dX5_init_86 rfl u63 ⟨by omega, by omega⟩ (by omega) (fun τ66 ee67 => ?_)
  have u68 := u61.ne' ee67 (u10.apart nq16)
  have u69 := u62.ne' ee67 (u11.apart nq16)
  have u70 : has τ66 f (iA (kc κ) 12 (ups (ups (fun _ => 0) 0 20) 1 30)) := u63.self' ee67
  have kp71 := kp64.put ee67 (Or.inr (Or.inr rfl))
  have dm72 := (dom_put ee67).trans dm65
  refine j_aload_n 0 C dX5_init_87 rfl rfl rfl ?_
  refine j_get C dX5_init_88 rfl fg_X5_15 u68 rfl ?_
  refine j_iload_n 1 C dX5_init_91 rfl rfl rfl ?_
  refine j_iconst C dX5_init_92 rfl ?_
  refine j_iadd C dX5_init_93 rfl ?_
  refine j_bipush C dX5_init_94 rfl (by decide) ?_
  refine j_iast C dX5_init_96 rfl u70 ⟨by omega, by omega⟩ (by omega) (fun τ73 ee74 => ?_)
  have u75 := u68.ne' ee74 (u10.apart nq16)
  have u76 := u69.ne' ee74 (u11.apart nq16)
  have u77 : has τ73 f (iA (kc κ) 12 (ups (ups (ups (fun _ => 0) 0 20) 1 30) 2 40)) := u70.self' ee74
  have kp78 := kp71.put ee74 (Or.inr (Or.inr rfl))
  have dm79 := (dom_put ee74).trans dm72
  refine j_iinc (y := 3) (lv' := [(0, .ref h), (1, vi (3))]) 1 [1, 0] C dX5_init_97 rfl rfl rfl rfl rfl ?_
  refine j_goto (tgt := 27) C dX5_init_100 rfl ?_
  refine j_iload_n 1 C dX5_init_27 rfl rfl rfl ?_
  refine j_iconst C dX5_init_28 rfl ?_
  refine j_iadd C dX5_init_29 rfl ?_
  refine j_aload_n 0 C dX5_init_30 rfl rfl rfl ?_
  refine j_get C dX5_init_31 rfl fg_X5_9 u75 rfl ?_
  refine j_alen (i := 2) C dX5_init_34 rfl rfl u76 ?_
  refine j_icmp_gt (tgt := 103) C dX5_init_35 rfl rfl ⟨by omega, by omega⟩ ⟨by omega, by omega⟩ (fun cc80 => ?_) (fun cc80 => ?_)
  · exact absurd cc80 (by decide)
  refine j_aload_n 0 C dX5_init_38 rfl rfl rfl ?_
  refine j_get C dX5_init_39 rfl fg_X5_9 u75 rfl ?_
  refine j_iload_n 1 C dX5_init_42 rfl rfl rfl ?_
  refine j_sipush C dX5_init_43 rfl (by decide) ?_
  refine j_iast C dX5_init_46 rfl u76 ⟨by omega, by omega⟩ (by omega) (fun τ81 ee82 => ?_)
  have u83 := u75.ne' ee82 (hh.apart nq3)
  have u84 : has τ81 m (iA (kc κ) 12 (ups (ups (ups (ups (fun _ => 0) 0 140) 1 155) 2 175) 3 140)) := u76.self' ee82
  have u85 := u77.ne' ee82 (Ne.symm (u11.apart nq16))
  have kp86 := kp78.put ee82 (Or.inr (Or.inl rfl))
  have dm87 := (dom_put ee82).trans dm79
  refine j_aload_n 0 C dX5_init_47 rfl rfl rfl ?_
  refine j_get C dX5_init_48 rfl fg_X5_9 u83 rfl ?_
  refine j_iload_n 1 C dX5_init_51 rfl rfl rfl ?_
  refine j_iconst C dX5_init_52 rfl ?_
  refine j_iadd C dX5_init_53 rfl ?_
  refine j_sipush C dX5_init_54 rfl (by decide) ?_
  refine j_iast C dX5_init_57 rfl u84 ⟨by omega, by omega⟩ (by omega) (fun τ88 ee89 => ?_)
  have u90 := u83.ne' ee89 (hh.apart nq3)
  have u91 : has τ88 m (iA (kc κ) 12 (ups (ups (ups (ups (ups (fun _ => 0) 0 140) 1 155) 2 175) 3 140) 4 155)) := u84.self' ee89
  have u92 := u85.ne' ee89 (Ne.symm (u11.apart nq16))
  have kp93 := kp86.put ee89 (Or.inr (Or.inl rfl))
  have dm94 := (dom_put ee89).trans dm87
  refine j_aload_n 0 C dX5_init_58 rfl rfl rfl ?_
  refine j_get C dX5_init_59 rfl fg_X5_9 u90 rfl ?_
  refine j_iload_n 1 C dX5_init_62 rfl rfl rfl ?_
  refine j_iconst C dX5_init_63 rfl ?_
  refine j_iadd C dX5_init_64 rfl ?_
  refine j_sipush C dX5_init_65 rfl (by decide) ?_
  refine j_iast C dX5_init_68 rfl u91 ⟨by omega, by omega⟩ (by omega) (fun τ95 ee96 => ?_)
  have u97 := u90.ne' ee96 (hh.apart nq3)
  have u98 : has τ95 m (iA (kc κ) 12 (ups (ups (ups (ups (ups (ups (fun _ => 0) 0 140) 1 155) 2 175) 3 140) 4 155) 5 175)) := u91.self' ee96
  have u99 := u92.ne' ee96 (Ne.symm (u11.apart nq16))
  have kp100 := kp93.put ee96 (Or.inr (Or.inl rfl))
  have dm101 := (dom_put ee96).trans dm94
  refine j_aload_n 0 C dX5_init_69 rfl rfl rfl ?_
  refine j_get C dX5_init_70 rfl fg_X5_15 u97 rfl ?_
  refine j_iload_n 1 C dX5_init_73 rfl rfl rfl ?_
  refine j_bipush C dX5_init_74 rfl (by decide) ?_
  refine j_iast C dX5_init_76 rfl u99 ⟨by omega, by omega⟩ (by omega) (fun τ102 ee103 => ?_)
  have u104 := u97.ne' ee103 (u10.apart nq16)
  have u105 := u98.ne' ee103 (u11.apart nq16)
  have u106 : has τ102 f (iA (kc κ) 12 (ups (ups (ups (ups (fun _ => 0) 0 20) 1 30) 2 40) 3 20)) := u99.self' ee103
  have kp107 := kp100.put ee103 (Or.inr (Or.inr rfl))
  have dm108 := (dom_put ee103).trans dm101
  refine j_aload_n 0 C dX5_init_77 rfl rfl rfl ?_
  refine j_get C dX5_init_78 rfl fg_X5_15 u104 rfl ?_
  refine j_iload_n 1 C dX5_init_81 rfl rfl rfl ?_
  refine j_iconst C dX5_init_82 rfl ?_
  refine j_iadd C dX5_init_83 rfl ?_
  refine j_bipush C dX5_init_84 rfl (by decide) ?_
  refine j_iast C dX5_init_86 rfl u106 ⟨by omega, by omega⟩ (by omega) (fun τ109 ee110 => ?_)
  have u111 := u104.ne' ee110 (u10.apart nq16)
  have u112 := u105.ne' ee110 (u11.apart nq16)
  have u113 : has τ109 f (iA (kc κ) 12 (ups (ups (ups (ups (ups (fun _ => 0) 0 20) 1 30) 2 40) 3 20) 4 30)) := u106.self' ee110
  have kp114 := kp107.put ee110 (Or.inr (Or.inr rfl))
  have dm115 := (dom_put ee110).trans dm108
  refine j_aload_n 0 C dX5_init_87 rfl rfl rfl ?_
  refine j_get C dX5_init_88 rfl fg_X5_15 u111 rfl ?_
  refine j_iload_n 1 C dX5_init_91 rfl rfl rfl ?_
  refine j_iconst C dX5_init_92 rfl ?_
  refine j_iadd C dX5_init_93 rfl ?_
  refine j_bipush C dX5_init_94 rfl (by decide) ?_
  refine j_iast C dX5_init_96 rfl u113 ⟨by omega, by omega⟩ (by omega) (fun τ116 ee117 => ?_)
  have u118 := u111.ne' ee117 (u10.apart nq16)
  have u119 := u112.ne' ee117 (u11.apart nq16)
  have u120 : has τ116 f (iA (kc κ) 12 (ups (ups (ups (ups (ups (ups (fun _ => 0) 0 20) 1 30) 2 40) 3 20) 4 30) 5 40)) := u113.self' ee117
  have kp121 := kp114.put ee117 (Or.inr (Or.inr rfl))
  have dm122 := (dom_put ee117).trans dm115
  refine j_iinc (y := 6) (lv' := [(0, .ref h), (1, vi (6))]) 1 [1, 0] C dX5_init_97 rfl rfl rfl rfl rfl ?_
  refine j_goto (tgt := 27) C dX5_init_100 rfl ?_
  refine j_iload_n 1 C dX5_init_27 rfl rfl rfl ?_
  refine j_iconst C dX5_init_28 rfl ?_
  refine j_iadd C dX5_init_29 rfl ?_
  refine j_aload_n 0 C dX5_init_30 rfl rfl rfl ?_
  refine j_get C dX5_init_31 rfl fg_X5_9 u118 rfl ?_
  refine j_alen (i := 2) C dX5_init_34 rfl rfl u119 ?_
  refine j_icmp_gt (tgt := 103) C dX5_init_35 rfl rfl ⟨by omega, by omega⟩ ⟨by omega, by omega⟩ (fun cc123 => ?_) (fun cc123 => ?_)
  · exact absurd cc123 (by decide)
  refine j_aload_n 0 C dX5_init_38 rfl rfl rfl ?_
  refine j_get C dX5_init_39 rfl fg_X5_9 u118 rfl ?_
  refine j_iload_n 1 C dX5_init_42 rfl rfl rfl ?_
  refine j_sipush C dX5_init_43 rfl (by decide) ?_
  refine j_iast C dX5_init_46 rfl u119 ⟨by omega, by omega⟩ (by omega) (fun τ124 ee125 => ?_)
  have u126 := u118.ne' ee125 (hh.apart nq3)
  have u127 : has τ124 m (iA (kc κ) 12 (ups (ups (ups (ups (ups (ups (ups (fun _ => 0) 0 140) 1 155) 2 175) 3 140) 4 155) 5 175) 6 140)) := u119.self' ee125
  have u128 := u120.ne' ee125 (Ne.symm (u11.apart nq16))
  have kp129 := kp121.put ee125 (Or.inr (Or.inl rfl))
  have dm130 := (dom_put ee125).trans dm122
  refine j_aload_n 0 C dX5_init_47 rfl rfl rfl ?_
  refine j_get C dX5_init_48 rfl fg_X5_9 u126 rfl ?_
  refine j_iload_n 1 C dX5_init_51 rfl rfl rfl ?_
  refine j_iconst C dX5_init_52 rfl ?_
  refine j_iadd C dX5_init_53 rfl ?_
  refine j_sipush C dX5_init_54 rfl (by decide) ?_
  refine j_iast C dX5_init_57 rfl u127 ⟨by omega, by omega⟩ (by omega) (fun τ131 ee132 => ?_)
  have u133 := u126.ne' ee132 (hh.apart nq3)
  have u134 : has τ131 m (iA (kc κ) 12 (ups (ups (ups (ups (ups (ups (ups (ups (fun _ => 0) 0 140) 1 155) 2 175) 3 140) 4 155) 5 175) 6 140) 7 155)) := u127.self' ee132
  have u135 := u128.ne' ee132 (Ne.symm (u11.apart nq16))
  have kp136 := kp129.put ee132 (Or.inr (Or.inl rfl))
  have dm137 := (dom_put ee132).trans dm130
  refine j_aload_n 0 C dX5_init_58 rfl rfl rfl ?_
  refine j_get C dX5_init_59 rfl fg_X5_9 u133 rfl ?_
  refine j_iload_n 1 C dX5_init_62 rfl rfl rfl ?_
  refine j_iconst C dX5_init_63 rfl ?_
  refine j_iadd C dX5_init_64 rfl ?_
  refine j_sipush C dX5_init_65 rfl (by decide) ?_
  refine j_iast C dX5_init_68 rfl u134 ⟨by omega, by omega⟩ (by omega) (fun τ138 ee139 => ?_)
  have u140 := u133.ne' ee139 (hh.apart nq3)
  have u141 : has τ138 m (iA (kc κ) 12 (ups (ups (ups (ups (ups (ups (ups (ups (ups (fun _ => 0) 0 140) 1 155) 2 175) 3 140) 4 155) 5 175) 6 140) 7 155) 8 175)) := u134.self' ee139
  have u142 := u135.ne' ee139 (Ne.symm (u11.apart nq16))
  have kp143 := kp136.put ee139 (Or.inr (Or.inl rfl))
  have dm144 := (dom_put ee139).trans dm137
  refine j_aload_n 0 C dX5_init_69 rfl rfl rfl ?_
  refine j_get C dX5_init_70 rfl fg_X5_15 u140 rfl ?_
  refine j_iload_n 1 C dX5_init_73 rfl rfl rfl ?_
  refine j_bipush C dX5_init_74 rfl (by decide) ?_
  refine j_iast C dX5_init_76 rfl u142 ⟨by omega, by omega⟩ (by omega) (fun τ145 ee146 => ?_)
  have u147 := u140.ne' ee146 (u10.apart nq16)
  have u148 := u141.ne' ee146 (u11.apart nq16)
  have u149 : has τ145 f (iA (kc κ) 12 (ups (ups (ups (ups (ups (ups (ups (fun _ => 0) 0 20) 1 30) 2 40) 3 20) 4 30) 5 40) 6 20)) := u142.self' ee146
  have kp150 := kp143.put ee146 (Or.inr (Or.inr rfl))
  have dm151 := (dom_put ee146).trans dm144
  refine j_aload_n 0 C dX5_init_77 rfl rfl rfl ?_
  refine j_get C dX5_init_78 rfl fg_X5_15 u147 rfl ?_
  refine j_iload_n 1 C dX5_init_81 rfl rfl rfl ?_
  refine j_iconst C dX5_init_82 rfl ?_
  refine j_iadd C dX5_init_83 rfl ?_
  refine j_bipush C dX5_init_84 rfl (by decide) ?_
  refine j_iast C dX5_init_86 rfl u149 ⟨by omega, by omega⟩ (by omega) (fun τ152 ee153 => ?_)
  have u154 := u147.ne' ee153 (u10.apart nq16)
  have u155 := u148.ne' ee153 (u11.apart nq16)
  have u156 : has τ152 f (iA (kc κ) 12 (ups (ups (ups (ups (ups (ups (ups (ups (fun _ => 0) 0 20) 1 30) 2 40) 3 20) 4 30) 5 40) 6 20) 7 30)) := u149.self' ee153
  have kp157 := kp150.put ee153 (Or.inr (Or.inr rfl))
  have dm158 := (dom_put ee153).trans dm151
  refine j_aload_n 0 C dX5_init_87 rfl rfl rfl ?_
  refine j_get C dX5_init_88 rfl fg_X5_15 u154 rfl ?_
  refine j_iload_n 1 C dX5_init_91 rfl rfl rfl ?_
  refine j_iconst C dX5_init_92 rfl ?_
  refine j_iadd C dX5_init_93 rfl ?_
  refine j_bipush C dX5_init_94 rfl (by decide) ?_
  refine j_iast C dX5_init_96 rfl u156 ⟨by omega, by omega⟩ (by omega) (fun τ159 ee160 => ?_)
  have u161 := u154.ne' ee160 (u10.apart nq16)
  have u162 := u155.ne' ee160 (u11.apart nq16)
  have u163 : has τ159 f (iA (kc κ) 12 (ups (ups (ups (ups (ups (ups (ups (ups (ups (fun _ => 0) 0 20) 1 30) 2 40) 3 20) 4 30) 5 40) 6 20) 7 30) 8 40)) := u156.self' ee160
  have kp164 := kp157.put ee160 (Or.inr (Or.inr rfl))
  have dm165 := (dom_put ee160).trans dm158
  refine j_iinc (y := 9) (lv' := [(0, .ref h), (1, vi (9))]) 1 [1, 0] C dX5_init_97 rfl rfl rfl rfl rfl ?_
  refine j_goto (tgt := 27) C dX5_init_100 rfl ?_
  refine j_iload_n 1 C dX5_init_27 rfl rfl rfl ?_
  refine j_iconst C dX5_init_28 rfl ?_
  refine j_iadd C dX5_init_29 rfl ?_
  refine j_aload_n 0 C dX5_init_30 rfl rfl rfl ?_
  refine j_get C dX5_init_31 rfl fg_X5_9 u161 rfl ?_
  refine j_alen (i := 2) C dX5_init_34 rfl rfl u162 ?_
  refine j_icmp_gt (tgt := 103) C dX5_init_35 rfl rfl ⟨by omega, by omega⟩ ⟨by omega, by omega⟩ (fun cc166 => ?_) (fun cc166 => ?_)
  · exact absurd cc166 (by decide)
  refine j_aload_n 0 C dX5_init_38 rfl rfl rfl ?_
  refine j_get C dX5_init_39 rfl fg_X5_9 u161 rfl ?_
  refine j_iload_n 1 C dX5_init_42 rfl rfl rfl ?_
  refine j_sipush C dX5_init_43 rfl (by decide) ?_
  refine j_iast C dX5_init_46 rfl u162 ⟨by omega, by omega⟩ (by omega) (fun τ167 ee168 => ?_)
  have u169 := u161.ne' ee168 (hh.apart nq3)
  have u170 : has τ167 m (iA (kc κ) 12 (ups (ups (ups (ups (ups (ups (ups (ups (ups (ups (fun _ => 0) 0 140) 1 155) 2 175) 3 140) 4 155) 5 175) 6 140) 7 155) 8 175) 9 140)) := u162.self' ee168
  have u171 := u163.ne' ee168 (Ne.symm (u11.apart nq16))
  have kp172 := kp164.put ee168 (Or.inr (Or.inl rfl))
  have dm173 := (dom_put ee168).trans dm165
  refine j_aload_n 0 C dX5_init_47 rfl rfl rfl ?_
  refine j_get C dX5_init_48 rfl fg_X5_9 u169 rfl ?_
  refine j_iload_n 1 C dX5_init_51 rfl rfl rfl ?_
  refine j_iconst C dX5_init_52 rfl ?_
  refine j_iadd C dX5_init_53 rfl ?_
  refine j_sipush C dX5_init_54 rfl (by decide) ?_
  refine j_iast C dX5_init_57 rfl u170 ⟨by omega, by omega⟩ (by omega) (fun τ174 ee175 => ?_)
  have u176 := u169.ne' ee175 (hh.apart nq3)
  have u177 : has τ174 m (iA (kc κ) 12 (ups (ups (ups (ups (ups (ups (ups (ups (ups (ups (ups (fun _ => 0) 0 140) 1 155) 2 175) 3 140) 4 155) 5 175) 6 140) 7 155) 8 175) 9 140) 10 155)) := u170.self' ee175
  have u178 := u171.ne' ee175 (Ne.symm (u11.apart nq16))
  have kp179 := kp172.put ee175 (Or.inr (Or.inl rfl))
  have dm180 := (dom_put ee175).trans dm173
  refine j_aload_n 0 C dX5_init_58 rfl rfl rfl ?_
  refine j_get C dX5_init_59 rfl fg_X5_9 u176 rfl ?_
  refine j_iload_n 1 C dX5_init_62 rfl rfl rfl ?_
  refine j_iconst C dX5_init_63 rfl ?_
  refine j_iadd C dX5_init_64 rfl ?_
  refine j_sipush C dX5_init_65 rfl (by decide) ?_
  refine j_iast C dX5_init_68 rfl u177 ⟨by omega, by omega⟩ (by omega) (fun τ181 ee182 => ?_)
  have u183 := u176.ne' ee182 (hh.apart nq3)
  have u184 : has τ181 m (iA (kc κ) 12 (ups (ups (ups (ups (ups (ups (ups (ups (ups (ups (ups (ups (fun _ => 0) 0 140) 1 155) 2 175) 3 140) 4 155) 5 175) 6 140) 7 155) 8 175) 9 140) 10 155) 11 175)) := u177.self' ee182
  have u185 := u178.ne' ee182 (Ne.symm (u11.apart nq16))
  have kp186 := kp179.put ee182 (Or.inr (Or.inl rfl))
  have dm187 := (dom_put ee182).trans dm180
  refine j_aload_n 0 C dX5_init_69 rfl rfl rfl ?_
  refine j_get C dX5_init_70 rfl fg_X5_15 u183 rfl ?_
  refine j_iload_n 1 C dX5_init_73 rfl rfl rfl ?_
  refine j_bipush C dX5_init_74 rfl (by decide) ?_
  refine j_iast C dX5_init_76 rfl u185 ⟨by omega, by omega⟩ (by omega) (fun τ188 ee189 => ?_)
  have u190 := u183.ne' ee189 (u10.apart nq16)
  have u191 := u184.ne' ee189 (u11.apart nq16)
  have u192 : has τ188 f (iA (kc κ) 12 (ups (ups (ups (ups (ups (ups (ups (ups (ups (ups (fun _ => 0) 0 20) 1 30) 2 40) 3 20) 4 30) 5 40) 6 20) 7 30) 8 40) 9 20)) := u185.self' ee189
  have kp193 := kp186.put ee189 (Or.inr (Or.inr rfl))
  have dm194 := (dom_put ee189).trans dm187
  refine j_aload_n 0 C dX5_init_77 rfl rfl rfl ?_
  refine j_get C dX5_init_78 rfl fg_X5_15 u190 rfl ?_
  refine j_iload_n 1 C dX5_init_81 rfl rfl rfl ?_
  refine j_iconst C dX5_init_82 rfl ?_
  refine j_iadd C dX5_init_83 rfl ?_
  refine j_bipush C dX5_init_84 rfl (by decide) ?_
  refine j_iast C dX5_init_86 rfl u192 ⟨by omega, by omega⟩ (by omega) (fun τ195 ee196 => ?_)
  have u197 := u190.ne' ee196 (u10.apart nq16)
  have u198 := u191.ne' ee196 (u11.apart nq16)
  have u199 : has τ195 f (iA (kc κ) 12 (ups (ups (ups (ups (ups (ups (ups (ups (ups (ups (ups (fun _ => 0) 0 20) 1 30) 2 40) 3 20) 4 30) 5 40) 6 20) 7 30) 8 40) 9 20) 10 30)) := u192.self' ee196
  have kp200 := kp193.put ee196 (Or.inr (Or.inr rfl))
  have dm201 := (dom_put ee196).trans dm194
  refine j_aload_n 0 C dX5_init_87 rfl rfl rfl ?_
  refine j_get C dX5_init_88 rfl fg_X5_15 u197 rfl ?_
  refine j_iload_n 1 C dX5_init_91 rfl rfl rfl ?_
  refine j_iconst C dX5_init_92 rfl ?_
  refine j_iadd C dX5_init_93 rfl ?_
  refine j_bipush C dX5_init_94 rfl (by decide) ?_
  refine j_iast C dX5_init_96 rfl u199 ⟨by omega, by omega⟩ (by omega) (fun τ202 ee203 => ?_)
  have u204 := u197.ne' ee203 (u10.apart nq16)
  have u205 := u198.ne' ee203 (u11.apart nq16)
  have u206 : has τ202 f (iA (kc κ) 12 (ups (ups (ups (ups (ups (ups (ups (ups (ups (ups (ups (ups (fun _ => 0) 0 20) 1 30) 2 40) 3 20) 4 30) 5 40) 6 20) 7 30) 8 40) 9 20) 10 30) 11 40)) := u199.self' ee203
  have kp207 := kp200.put ee203 (Or.inr (Or.inr rfl))
  have dm208 := (dom_put ee203).trans dm201
  refine j_iinc (y := 12) (lv' := [(0, .ref h), (1, vi (12))]) 1 [1, 0] C dX5_init_97 rfl rfl rfl rfl rfl ?_
  refine j_goto (tgt := 27) C dX5_init_100 rfl ?_
  refine j_iload_n 1 C dX5_init_27 rfl rfl rfl ?_
  refine j_iconst C dX5_init_28 rfl ?_
  refine j_iadd C dX5_init_29 rfl ?_
  refine j_aload_n 0 C dX5_init_30 rfl rfl rfl ?_
  refine j_get C dX5_init_31 rfl fg_X5_9 u204 rfl ?_
  refine j_alen (i := 2) C dX5_init_34 rfl rfl u205 ?_
  refine j_icmp_gt (tgt := 103) C dX5_init_35 rfl rfl ⟨by omega, by omega⟩ ⟨by omega, by omega⟩ (fun cc209 => ?_) (fun cc209 => ?_)
  · exact j_vret C E dX5_init_103 (by omega) (by omega) ⟨rfl, m, f, ⟨u204, u205, u206, (u11.apart nq16), ⟨by decide, by decide⟩, ruI_in⟩, nnm, nnf, kp207.drop (fun a z => z.elim Or.inl (fun z => Or.inr (z.elim (fun e => by rw [e]; exact nnm) (fun e => by rw [e]; exact nnf)))), dm208.trans (by simp)⟩
  · exact absurd cc209 (by decide)
set_option maxHeartbeats 4000000 in
set_option maxRecDepth 20000 in
theorem c_change (l : Launch) (hfl : l.stackTraces = false) (D : va_G) (cy : Nat → Nat) (σ : Wd) (h m f : Nat) (ru : Nat → Int × Int) (se s g x y : Int) (hR : RuleR cy σ h m f ru se) (hpl : 0 ≤ s * 3 + g - 1 ∧ s * 3 + g - 1 < 12) (hx : 80 ≤ x ∧ x ≤ 300) (hy : 0 ≤ y ∧ y ≤ 100) : Ct l yX5_change cX5_change 7 (some .int) 0 0 0 D cy [.ref h, vi (s), vi (g), vi (x), vi (y)] σ (fun v σ' => v = some (vi (rAt ru s g).1) ∧ RuleR cy σ' h m f (ruU ru (s * 3 + g - 1).toNat x y) se ∧ Keep σ σ' (fun a => a = m ∨ a = f) ∧ σ'.1 = σ.1) noX := by
  refine ct_start (by decide +kernel) hfl rfl (fun κ e1 e2 e3 C E NH => ?_)
  subst e1 e2 e3
  have C : Cx κ cX5_change 7 RX5 "change" 0 := C
  obtain ⟨-, -, -, -, hc, hs⟩ := id E
  show J κ σ [(0, .ref h), (1, vi (s)), (2, vi (g)), (3, vi (x)), (4, vi (y))] 0 [] 0 0
  obtain ⟨hh, hm9, hf9, hmf, hse, hru⟩ := hR
  have kp0 : Keep σ σ (fun a => a = m ∨ a = f) := Keep.rf
  have dm0 : σ.1 = σ.1 := rfl
  refine j_iload_n 1 C dX5_change_0 rfl rfl rfl ?_
  refine j_iconst C dX5_change_1 rfl ?_
  refine j_imul C dX5_change_2 rfl ?_
  refine j_iload_n 2 C dX5_change_3 rfl rfl rfl ?_
  refine j_iadd C dX5_change_4 rfl ?_
  refine j_iconst C dX5_change_5 rfl ?_
  refine j_isub C dX5_change_6 rfl ?_
  refine j_istore (lv' := [(0, .ref h), (1, vi (s)), (2, vi (g)), (3, vi (x)), (4, vi (y)), (5, vi (((s * 3) + g) - 1))]) [1, 2, 3, 4, 5, 0] C dX5_change_7 rfl rfl rfl ?_
  refine j_iload 5 C dX5_change_9 rfl rfl ?_
  refine j_if_lt (tgt := 24) C dX5_change_11 rfl rfl ⟨by omega, by omega⟩ (fun cc1 => ?_) (fun cc1 => ?_)
  · exact absurd hpl (by omega)
  · refine j_iload 5 C dX5_change_14 rfl rfl ?_
    refine j_aload_n 0 C dX5_change_16 rfl rfl rfl ?_
    refine j_get C dX5_change_17 rfl fg_X5_9 hh rfl ?_
    refine j_alen (i := 2) C dX5_change_20 rfl rfl hm9 ?_
    refine j_icmp_lt (tgt := 26) C dX5_change_21 rfl rfl ⟨by omega, by omega⟩ ⟨by omega, by omega⟩ (fun cc2 => ?_) (fun cc2 => ?_)
    · refine j_aload_n 0 C dX5_change_26 rfl rfl rfl ?_
      refine j_get C dX5_change_27 rfl fg_X5_9 hh rfl ?_
      refine j_iload 5 C dX5_change_30 rfl rfl ?_
      obtain ⟨y3, hy3⟩ : ∃ y : Int, (fun i => (ru i).1) (((s * 3) + g) - 1).toNat = y := ⟨_, rfl⟩
      refine j_iald C dX5_change_32 rfl hm9 ⟨by omega, by omega⟩ (by omega) hy3 ?_
      refine j_istore (lv' := [(0, .ref h), (1, vi (s)), (2, vi (g)), (3, vi (x)), (4, vi (y)), (5, vi (((s * 3) + g) - 1)), (6, vi (y3))]) [1, 2, 3, 4, 5, 6, 0] C dX5_change_33 rfl rfl rfl ?_
      refine j_aload_n 0 C dX5_change_35 rfl rfl rfl ?_
      refine j_get C dX5_change_36 rfl fg_X5_9 hh rfl ?_
      refine j_iload 5 C dX5_change_39 rfl rfl ?_
      refine j_iload_n 3 C dX5_change_41 rfl rfl rfl ?_
      refine j_iast C dX5_change_42 rfl hm9 ⟨by omega, by omega⟩ (by omega) (fun τ4 ee5 => ?_)
      have u6 := hh.ne' ee5 (hh.nk hm9 rfl)
      have u7 : has τ4 m (iA (kc κ) 12 (ups (fun i => (ru i).1) (((s * 3) + g) - 1).toNat x)) := hm9.self' ee5
      have u8 := hf9.ne' ee5 (Ne.symm hmf)
      have kp9 := kp0.put ee5 (Or.inl rfl)
      have dm10 := (dom_put ee5).trans dm0
      refine j_aload_n 0 C dX5_change_43 rfl rfl rfl ?_
      refine j_get C dX5_change_44 rfl fg_X5_15 u6 rfl ?_
      refine j_iload 5 C dX5_change_47 rfl rfl ?_
      refine j_iload 4 C dX5_change_49 rfl rfl ?_
      refine j_iast C dX5_change_51 rfl u8 ⟨by omega, by omega⟩ (by omega) (fun τ11 ee12 => ?_)
      have u13 := u6.ne' ee12 (u6.nk u8 rfl)
      have u14 := u7.ne' ee12 hmf
      have u15 : has τ11 f (iA (kc κ) 12 (ups (fun i => (ru i).2) (((s * 3) + g) - 1).toNat y)) := u8.self' ee12
      have kp16 := kp9.put ee12 (Or.inr rfl)
      have dm17 := (dom_put ee12).trans dm10
      refine j_iload 6 C dX5_change_52 rfl rfl ?_
      exact j_iret C E dX5_change_54 (by omega) (by omega) ⟨congrArg some (congrArg vi hy3.symm), ⟨u13, (by rw [← ruU_1 ru _ x y]; exact u14), (by rw [← ruU_2 ru _ x y]; exact u15), hmf, hse, fun i hi => by unfold ruU; split; exact ⟨hx, hy⟩; exact hru i hi⟩, kp16, dm17⟩
    · exact absurd hpl (by omega)
/-- the hedge: trades, their number, bushels, price, gain -/
abbrev Hd : Type := (Nat → Int) × Int × Int × Int × Int
def HedR (cy : Nat → Nat) (σ : Wd) (h t : Nat) (z : Hd) : Prop := has σ h (.inr (4, [.ref t, vi z.2.1, vi z.2.2.1, vi z.2.2.2.1, vl z.2.2.2.2])) ∧ has σ t (iA cy 80 z.1)
theorem HedR.keep {cy : Nat → Nat} {σ σ' : Wd} {h t : Nat} {z : Hd} {F : Nat → Prop} (hR : HedR cy σ h t z) (hk : Keep σ σ' F) (hF : ¬ F h ∧ ¬ F t) : HedR cy σ' h t z := ⟨hk _ _ hR.1 hF.1, hk _ _ hR.2 hF.2⟩
/-- after an event -/
def hdF (z : Hd) (own : Int) : Hd := if own - z.2.2.1 = 0 then z else (ups z.1 z.2.1.toNat (own - z.2.2.1), z.2.1 + 1, own, z.2.2.2.1, z.2.2.2.2)
/-- at another price -/
def hdP (z : Hd) (c : Int) : Hd := (z.1, z.2.1, z.2.2.1, c, z.2.2.2.2 + z.2.2.1 * (z.2.2.2.1 - c))
set_option maxHeartbeats 4000000 in
set_option maxRecDepth 20000 in
theorem c_hedgeInit (l : Launch) (hfl : l.stackTraces = false) (D : va_G) (cy : Nat → Nat) (σ : Wd) (h : Nat) (hh : has σ h (.inr (4, [.null, vi 0, vi 0, vi 0, vl 0]))) : Ct l yX4_init cX4_init 1 none 0 1 80 D cy [.ref h] σ (fun v σ' => v = none ∧ ∃ t : Nat, HedR cy σ' h t (fun _ => 0, 0, 0, 500, 0) ∧ t ∉ σ.1 ∧ Keep σ σ' (fun a => a = h) ∧ σ'.1 = σ.1 ++ [t]) noX := by
  refine ct_start (by decide +kernel) hfl rfl (fun κ e1 e2 e3 C E NH => ?_)
  subst e1 e2 e3
  have C : Cx κ cX4_init 1 RX4 "<init>" 0 := C
  obtain ⟨-, -, -, -, hc, hs⟩ := id E
  show J κ σ [(0, .ref h)] 0 [] 0 0
  have kp0 : Keep σ σ (fun a => a = h) := Keep.rf
  have dm0 : σ.1 = σ.1 := rfl
  refine j_aload_n 0 C dX4_init_0 rfl rfl rfl ?_
  refine j_objInit C dX4_init_1 rfl oi_X4_3 oi_in oi_co (Nat.le_of_ble_eq_true rfl) ?_
  refine j_aload_n 0 C dX4_init_4 rfl rfl rfl ?_
  refine j_bipush C dX4_init_5 rfl (by decide) ?_
  refine j_newI C dX4_init_7 rfl aw_int ⟨by omega, by omega⟩ (by omega) (by omega) (k' := 1) (n' := 80) (by first | rfl | omega) (by first | rfl | omega) (fun t τ1 nq3 ee2 => ?_)
  have u4 := hh.old' ee2 nq3
  have u5 : has τ1 t (iA (kc κ) 80 (fun _ => 0)) := has.fresh' ee2
  have kp6 := kp0.new ee2 nq3
  have dm7 := (dom_new ee2).trans (congrArg (· ++ [t]) dm0)
  have nnt : t ∉ σ.1 := fun z => nq3 (by rw [dm0]; simp [z])
  refine j_putF (fs' := [.ref t, vi (0), vi (0), vi (0), vl (0)]) C dX4_init_9 rfl fa_X4_9 u4 rfl rfl rfl rfl (fun τ8 ee9 => ?_)
  have u10 : has τ8 h (.inr (4, [.ref t, vi (0), vi (0), vi (0), vl (0)])) := u4.self' ee9
  have u11 := u5.ne' ee9 (Ne.symm (hh.apart nq3))
  have kp12 := kp6.put ee9 rfl
  have dm13 := (dom_put ee9).trans dm7
  refine j_aload_n 0 C dX4_init_12 rfl rfl rfl ?_
  refine j_iconst C dX4_init_13 rfl ?_
  refine j_put (fs' := [.ref t, vi (0), vi (0), vi (0), vl (0)]) C dX4_init_14 rfl fa_X4_15 u10 rfl rfl rfl rfl (fun τ14 ee15 => ?_)
  have u16 : has τ14 h (.inr (4, [.ref t, vi (0), vi (0), vi (0), vl (0)])) := u10.self' ee15
  have u17 := u11.ne' ee15 (Ne.symm (hh.apart nq3))
  have kp18 := kp12.put ee15 rfl
  have dm19 := (dom_put ee15).trans dm13
  refine j_aload_n 0 C dX4_init_17 rfl rfl rfl ?_
  refine j_iconst C dX4_init_18 rfl ?_
  refine j_put (fs' := [.ref t, vi (0), vi (0), vi (0), vl (0)]) C dX4_init_19 rfl fa_X4_19 u16 rfl rfl rfl rfl (fun τ20 ee21 => ?_)
  have u22 : has τ20 h (.inr (4, [.ref t, vi (0), vi (0), vi (0), vl (0)])) := u16.self' ee21
  have u23 := u17.ne' ee21 (Ne.symm (hh.apart nq3))
  have kp24 := kp18.put ee21 rfl
  have dm25 := (dom_put ee21).trans dm19
  refine j_aload_n 0 C dX4_init_22 rfl rfl rfl ?_
  refine j_sipush C dX4_init_23 rfl (by decide) ?_
  refine j_put (fs' := [.ref t, vi (0), vi (0), vi (500), vl (0)]) C dX4_init_26 rfl fa_X4_22 u22 rfl rfl rfl rfl (fun τ26 ee27 => ?_)
  have u28 : has τ26 h (.inr (4, [.ref t, vi (0), vi (0), vi (500), vl (0)])) := u22.self' ee27
  have u29 := u23.ne' ee27 (Ne.symm (hh.apart nq3))
  have kp30 := kp24.put ee27 rfl
  have dm31 := (dom_put ee27).trans dm25
  refine j_aload_n 0 C dX4_init_29 rfl rfl rfl ?_
  refine j_lconst (z := 0) C dX4_init_30 rfl rfl ?_
  refine j_put (fs' := [.ref t, vi (0), vi (0), vi (500), vl (0)]) C dX4_init_31 rfl fa_X4_25 u28 rfl rfl rfl rfl (fun τ32 ee33 => ?_)
  have u34 : has τ32 h (.inr (4, [.ref t, vi (0), vi (0), vi (500), vl (0)])) := u28.self' ee33
  have u35 := u29.ne' ee33 (Ne.symm (hh.apart nq3))
  have kp36 := kp30.put ee33 rfl
  have dm37 := (dom_put ee33).trans dm31
  exact j_vret C E dX4_init_34 (by omega) (by omega) ⟨rfl, t, ⟨u34, u35⟩, nnt, kp36, dm37⟩
set_option maxHeartbeats 4000000 in
set_option maxRecDepth 20000 in
theorem c_follow (l : Launch) (hfl : l.stackTraces = false) (D : va_G) (cy : Nat → Nat) (σ : Wd) (h t : Nat) (z : Hd) (own : Int) (hR : HedR cy σ h t z) (hz : (0 ≤ z.2.1 ∧ z.2.1 < 80) ∧ (0 ≤ z.2.2.1 ∧ z.2.2.1 ≤ 1000000)) (ho : 0 ≤ own ∧ own ≤ 1000000) : Ct l yX4_follow cX4_follow 3 none 0 0 0 D cy [.ref h, vi (own)] σ (fun v σ' => v = none ∧ HedR cy σ' h t (hdF z own) ∧ Keep σ σ' (fun a => a = h ∨ a = t) ∧ σ'.1 = σ.1) noX := by
  refine ct_start (by decide +kernel) hfl rfl (fun κ e1 e2 e3 C E NH => ?_)
  subst e1 e2 e3
  have C : Cx κ cX4_follow 3 RX4 "follow" 0 := C
  obtain ⟨-, -, -, -, hc, hs⟩ := id E
  show J κ σ [(0, .ref h), (1, vi (own))] 0 [] 0 0
  obtain ⟨tr, cn, bu, fu, ga⟩ := z
  obtain ⟨hh, ht⟩ := hR
  dsimp only at hh ht hz
  have kp0 : Keep σ σ (fun a => a = h ∨ a = t) := Keep.rf
  have dm0 : σ.1 = σ.1 := rfl
  refine j_iload_n 1 C dX4_follow_0 rfl rfl rfl ?_
  refine j_aload_n 0 C dX4_follow_1 rfl rfl rfl ?_
  refine j_get C dX4_follow_2 rfl fg_X4_19 hh rfl ?_
  refine j_isub C dX4_follow_5 rfl ?_
  refine j_istore_n (lv' := [(0, .ref h), (1, vi (own)), (2, vi (own - bu))]) [1, 2, 0] C dX4_follow_6 rfl rfl rfl rfl ?_
  refine j_iload_n 2 C dX4_follow_7 rfl rfl rfl ?_
  refine j_if_eq (tgt := 23) C dX4_follow_8 rfl rfl ⟨by omega, by omega⟩ (fun cc1 => ?_) (fun cc1 => ?_)
  · have e9 : hdF (tr, cn, bu, fu, ga) own = (tr, cn, bu, fu, ga) := if_pos cc1
    exact j_vret C E dX4_follow_23 (by omega) (by omega) ⟨rfl, (by rw [e9]; exact ⟨hh, ht⟩), kp0, dm0⟩
  · have e9 : hdF (tr, cn, bu, fu, ga) own = (ups tr cn.toNat (own - bu), cn + 1, own, fu, ga) := if_neg cc1
    refine j_aload_n 0 C dX4_follow_11 rfl rfl rfl ?_
    refine j_get C dX4_follow_12 rfl fg_X4_15 hh rfl ?_
    refine j_aload_n 0 C dX4_follow_15 rfl rfl rfl ?_
    refine j_get C dX4_follow_16 rfl fg_X4_9 hh rfl ?_
    refine j_alen (i := 2) C dX4_follow_19 rfl rfl ht ?_
    refine j_icmp_lt (tgt := 24) C dX4_follow_20 rfl rfl ⟨by omega, by omega⟩ ⟨by omega, by omega⟩ (fun cc2 => ?_) (fun cc2 => ?_)
    · refine j_aload_n 0 C dX4_follow_24 rfl rfl rfl ?_
      refine j_get C dX4_follow_25 rfl fg_X4_9 hh rfl ?_
      refine j_aload_n 0 C dX4_follow_28 rfl rfl rfl ?_
      refine j_get C dX4_follow_29 rfl fg_X4_15 hh rfl ?_
      refine j_iload_n 2 C dX4_follow_32 rfl rfl rfl ?_
      refine j_iast C dX4_follow_33 rfl ht ⟨by omega, by omega⟩ (by omega) (fun τ3 ee4 => ?_)
      have u5 := hh.ne' ee4 (hh.nk ht rfl)
      have u6 : has τ3 t (iA (kc κ) 80 (ups tr cn.toNat (own - bu))) := ht.self' ee4
      have kp7 := kp0.put ee4 (Or.inr rfl)
      have dm8 := (dom_put ee4).trans dm0
      refine j_aload_n 0 C dX4_follow_34 rfl rfl rfl ?_
      refine j_dup C dX4_follow_35 rfl rfl ?_
      refine j_get C dX4_follow_36 rfl fg_X4_15 u5 rfl ?_
      refine j_iconst C dX4_follow_39 rfl ?_
      refine j_iadd C dX4_follow_40 rfl ?_
      refine j_put (fs' := [.ref t, vi (cn + 1), vi (bu), vi (fu), vl (ga)]) C dX4_follow_41 rfl fa_X4_15 u5 rfl rfl rfl rfl (fun τ9 ee10 => ?_)
      have u11 : has τ9 h (.inr (4, [.ref t, vi (cn + 1), vi (bu), vi (fu), vl (ga)])) := u5.self' ee10
      have u12 := u6.ne' ee10 (u6.nk u5 rfl)
      have kp13 := kp7.put ee10 (Or.inl rfl)
      have dm14 := (dom_put ee10).trans dm8
      refine j_aload_n 0 C dX4_follow_44 rfl rfl rfl ?_
      refine j_iload_n 1 C dX4_follow_45 rfl rfl rfl ?_
      refine j_put (fs' := [.ref t, vi (cn + 1), vi (own), vi (fu), vl (ga)]) C dX4_follow_46 rfl fa_X4_19 u11 rfl rfl rfl rfl (fun τ15 ee16 => ?_)
      have u17 : has τ15 h (.inr (4, [.ref t, vi (cn + 1), vi (own), vi (fu), vl (ga)])) := u11.self' ee16
      have u18 := u12.ne' ee16 (u12.nk u11 rfl)
      have kp19 := kp13.put ee16 (Or.inl rfl)
      have dm20 := (dom_put ee16).trans dm14
      exact j_vret C E dX4_follow_49 (by omega) (by omega) ⟨rfl, (by rw [e9]; exact ⟨u17, u18⟩), kp19, dm20⟩
    · exact absurd cc2 (by omega)
set_option maxHeartbeats 4000000 in
set_option maxRecDepth 20000 in
theorem c_reprice (l : Launch) (hfl : l.stackTraces = false) (D : va_G) (cy : Nat → Nat) (σ : Wd) (h t : Nat) (z : Hd) (c : Int) (hR : HedR cy σ h t z) (hz : (0 ≤ z.2.2.1 ∧ z.2.2.1 ≤ 1000000) ∧ (0 ≤ z.2.2.2.1 ∧ z.2.2.2.1 ≤ 2000)) (hc : 0 ≤ c ∧ c ≤ 2000) : Ct l yX4_reprice cX4_reprice 3 (some .int) 0 0 0 D cy [.ref h, vi (c)] σ (fun v σ' => v = some (vi z.2.2.2.1) ∧ HedR cy σ' h t (hdP z c) ∧ Keep σ σ' (fun a => a = h) ∧ σ'.1 = σ.1) noX := by
  refine ct_start (by decide +kernel) hfl rfl (fun κ e1 e2 e3 C E NH => ?_)
  subst e1 e2 e3
  have C : Cx κ cX4_reprice 3 RX4 "reprice" 0 := C
  obtain ⟨-, -, -, -, hc, hs⟩ := id E
  show J κ σ [(0, .ref h), (1, vi (c))] 0 [] 0 0
  obtain ⟨tr, cn, bu, fu, ga⟩ := z
  obtain ⟨hh, ht⟩ := hR
  dsimp only at hh ht hz
  have kp0 : Keep σ σ (fun a => a = h) := Keep.rf
  have dm0 : σ.1 = σ.1 := rfl
  refine j_aload_n 0 C dX4_reprice_0 rfl rfl rfl ?_
  refine j_get C dX4_reprice_1 rfl fg_X4_22 hh rfl ?_
  refine j_istore_n (lv' := [(0, .ref h), (1, vi (c)), (2, vi (fu))]) [1, 2, 0] C dX4_reprice_4 rfl rfl rfl rfl ?_
  refine j_aload_n 0 C dX4_reprice_5 rfl rfl rfl ?_
  refine j_dup C dX4_reprice_6 rfl rfl ?_
  refine j_get C dX4_reprice_7 rfl fg_X4_25 hh rfl ?_
  refine j_aload_n 0 C dX4_reprice_10 rfl rfl rfl ?_
  refine j_get C dX4_reprice_11 rfl fg_X4_19 hh rfl ?_
  refine j_i2l C dX4_reprice_14 rfl ⟨by omega, by omega⟩ ?_
  refine j_iload_n 2 C dX4_reprice_15 rfl rfl rfl ?_
  refine j_iload_n 1 C dX4_reprice_16 rfl rfl rfl ?_
  refine j_isub C dX4_reprice_17 rfl ?_
  refine j_i2l C dX4_reprice_18 rfl ⟨by omega, by omega⟩ ?_
  refine j_lmul C dX4_reprice_19 rfl ?_
  refine j_ladd C dX4_reprice_20 rfl ?_
  refine j_put (fs' := [.ref t, vi (cn), vi (bu), vi (fu), vl (ga + (bu * (fu - c)))]) C dX4_reprice_21 rfl fa_X4_25 hh rfl rfl rfl rfl (fun τ1 ee2 => ?_)
  have u3 : has τ1 h (.inr (4, [.ref t, vi (cn), vi (bu), vi (fu), vl (ga + (bu * (fu - c)))])) := hh.self' ee2
  have u4 := ht.ne' ee2 (ht.nk hh rfl)
  have kp5 := kp0.put ee2 rfl
  have dm6 := (dom_put ee2).trans dm0
  refine j_aload_n 0 C dX4_reprice_24 rfl rfl rfl ?_
  refine j_iload_n 1 C dX4_reprice_25 rfl rfl rfl ?_
  refine j_put (fs' := [.ref t, vi (cn), vi (bu), vi (c), vl (ga + (bu * (fu - c)))]) C dX4_reprice_26 rfl fa_X4_22 u3 rfl rfl rfl rfl (fun τ7 ee8 => ?_)
  have u9 : has τ7 h (.inr (4, [.ref t, vi (cn), vi (bu), vi (c), vl (ga + (bu * (fu - c)))])) := u3.self' ee8
  have u10 := u4.ne' ee8 (u4.nk u3 rfl)
  have kp11 := kp5.put ee8 rfl
  have dm12 := (dom_put ee8).trans dm6
  refine j_iload_n 2 C dX4_reprice_29 rfl rfl rfl ?_
  exact j_iret C E dX4_reprice_30 (by omega) (by omega) ⟨rfl, ⟨u9, u10⟩, kp11, dm12⟩
/-- an event: its kind, bin, other bin, bushels, other bushels, moisture, foreign matter -/
abbrev Evt : Type := Int × Int × Int × Int × Int × Int × Int
def EvR (σ : Wd) (a : Nat) (e : Evt) : Prop := has σ a (.inr (2, [vi e.1, vi e.2.1, vi e.2.2.1, vi e.2.2.2.1, vi e.2.2.2.2.1, vi e.2.2.2.2.2.1, vi e.2.2.2.2.2.2]))
set_option maxHeartbeats 4000000 in
set_option maxRecDepth 20000 in
theorem c_eventInit (l : Launch) (hfl : l.stackTraces = false) (D : va_G) (cy : Nat → Nat) (σ : Wd) (h : Nat) (a b c d e f g : Int) (hk1 : narrow .char (vi a) = vi a) (hk2 : fits .char (vi a) = true) (hh : has σ h (.inr (2, [vi 0, vi 0, vi 0, vi 0, vi 0, vi 0, vi 0]))) : Ct l yX2_init cX2_init 8 none 0 0 0 D cy [.ref h, vi (a), vi (b), vi (c), vi (d), vi (e), vi (f), vi (g)] σ (fun v σ' => v = none ∧ EvR σ' h (a, b, c, d, e, f, g) ∧ Keep σ σ' (fun a => a = h) ∧ σ'.1 = σ.1) noX := by
  refine ct_start (by decide +kernel) hfl rfl (fun κ e1 e2 e3 C E NH => ?_)
  subst e1 e2 e3
  have C : Cx κ cX2_init 8 RX2 "<init>" 0 := C
  obtain ⟨-, -, -, -, hc, hs⟩ := id E
  show J κ σ [(0, .ref h), (1, vi (a)), (2, vi (b)), (3, vi (c)), (4, vi (d)), (5, vi (e)), (6, vi (f)), (7, vi (g))] 0 [] 0 0
  have kp0 : Keep σ σ (fun a => a = h) := Keep.rf
  have dm0 : σ.1 = σ.1 := rfl
  refine j_aload_n 0 C dX2_init_0 rfl rfl rfl ?_
  refine j_objInit C dX2_init_1 rfl oi_X2_1 oi_in oi_co (Nat.le_of_ble_eq_true rfl) ?_
  refine j_aload_n 0 C dX2_init_4 rfl rfl rfl ?_
  refine j_iload_n 1 C dX2_init_5 rfl rfl rfl ?_
  refine j_putF (fs' := [vi (a), vi (0), vi (0), vi (0), vi (0), vi (0), vi (0)]) C dX2_init_6 rfl fa_X2_7 hh hk1 hk2 rfl rfl (fun τ1 ee2 => ?_)
  have u3 : has τ1 h (.inr (2, [vi (a), vi (0), vi (0), vi (0), vi (0), vi (0), vi (0)])) := hh.self' ee2
  have kp4 := kp0.put ee2 rfl
  have dm5 := (dom_put ee2).trans dm0
  refine j_aload_n 0 C dX2_init_9 rfl rfl rfl ?_
  refine j_iload_n 2 C dX2_init_10 rfl rfl rfl ?_
  refine j_putF (fs' := [vi (a), vi (b), vi (0), vi (0), vi (0), vi (0), vi (0)]) C dX2_init_11 rfl fa_X2_13 u3 rfl rfl rfl rfl (fun τ6 ee7 => ?_)
  have u8 : has τ6 h (.inr (2, [vi (a), vi (b), vi (0), vi (0), vi (0), vi (0), vi (0)])) := u3.self' ee7
  have kp9 := kp4.put ee7 rfl
  have dm10 := (dom_put ee7).trans dm5
  refine j_aload_n 0 C dX2_init_14 rfl rfl rfl ?_
  refine j_iload_n 3 C dX2_init_15 rfl rfl rfl ?_
  refine j_putF (fs' := [vi (a), vi (b), vi (c), vi (0), vi (0), vi (0), vi (0)]) C dX2_init_16 rfl fa_X2_17 u8 rfl rfl rfl rfl (fun τ11 ee12 => ?_)
  have u13 : has τ11 h (.inr (2, [vi (a), vi (b), vi (c), vi (0), vi (0), vi (0), vi (0)])) := u8.self' ee12
  have kp14 := kp9.put ee12 rfl
  have dm15 := (dom_put ee12).trans dm10
  refine j_aload_n 0 C dX2_init_19 rfl rfl rfl ?_
  refine j_iload 4 C dX2_init_20 rfl rfl ?_
  refine j_putF (fs' := [vi (a), vi (b), vi (c), vi (d), vi (0), vi (0), vi (0)]) C dX2_init_22 rfl fa_X2_20 u13 rfl rfl rfl rfl (fun τ16 ee17 => ?_)
  have u18 : has τ16 h (.inr (2, [vi (a), vi (b), vi (c), vi (d), vi (0), vi (0), vi (0)])) := u13.self' ee17
  have kp19 := kp14.put ee17 rfl
  have dm20 := (dom_put ee17).trans dm15
  refine j_aload_n 0 C dX2_init_25 rfl rfl rfl ?_
  refine j_iload 5 C dX2_init_26 rfl rfl ?_
  refine j_putF (fs' := [vi (a), vi (b), vi (c), vi (d), vi (e), vi (0), vi (0)]) C dX2_init_28 rfl fa_X2_23 u18 rfl rfl rfl rfl (fun τ21 ee22 => ?_)
  have u23 : has τ21 h (.inr (2, [vi (a), vi (b), vi (c), vi (d), vi (e), vi (0), vi (0)])) := u18.self' ee22
  have kp24 := kp19.put ee22 rfl
  have dm25 := (dom_put ee22).trans dm20
  refine j_aload_n 0 C dX2_init_31 rfl rfl rfl ?_
  refine j_iload 6 C dX2_init_32 rfl rfl ?_
  refine j_putF (fs' := [vi (a), vi (b), vi (c), vi (d), vi (e), vi (f), vi (0)]) C dX2_init_34 rfl fa_X2_26 u23 rfl rfl rfl rfl (fun τ26 ee27 => ?_)
  have u28 : has τ26 h (.inr (2, [vi (a), vi (b), vi (c), vi (d), vi (e), vi (f), vi (0)])) := u23.self' ee27
  have kp29 := kp24.put ee27 rfl
  have dm30 := (dom_put ee27).trans dm25
  refine j_aload_n 0 C dX2_init_37 rfl rfl rfl ?_
  refine j_iload 7 C dX2_init_38 rfl rfl ?_
  refine j_putF (fs' := [vi (a), vi (b), vi (c), vi (d), vi (e), vi (f), vi (g)]) C dX2_init_40 rfl fa_X2_29 u28 rfl rfl rfl rfl (fun τ31 ee32 => ?_)
  have u33 : has τ31 h (.inr (2, [vi (a), vi (b), vi (c), vi (d), vi (e), vi (f), vi (g)])) := u28.self' ee32
  have kp34 := kp29.put ee32 rfl
  have dm35 := (dom_put ee32).trans dm30
  exact j_vret C E dX2_init_43 (by omega) (by omega) ⟨rfl, u33, kp34, dm35⟩
set_option maxHeartbeats 4000000 in
set_option maxRecDepth 20000 in
theorem c_ofLoad (l : Launch) (hfl : l.stackTraces = false) (D : va_G) (cy : Nat → Nat) (σ : Wd) (b n x f : Int) : Ct l yX2_ofLoad cX2_ofLoad 4 (some (.object "GrainElevator$Event")) 1 1 7 D cy [vi (b), vi (n), vi (x), vi (f)] σ (fun v σ' => ∃ e : Nat, v = some (.ref e) ∧ EvR σ' e (108, b, b, n, 0, x, f) ∧ e ∉ σ.1 ∧ Keep σ σ' (fun _ => False) ∧ σ'.1 = σ.1 ++ [e]) noX := by
  refine ct_start (by decide +kernel) hfl rfl (fun κ e1 e2 e3 C E NH => ?_)
  subst e1 e2 e3
  have C : Cx κ cX2_ofLoad 4 RX2 "ofLoad" 1 := C
  obtain ⟨-, -, -, -, hc, hs⟩ := id E
  show J κ σ [(0, vi (b)), (1, vi (n)), (2, vi (x)), (3, vi (f))] 0 [] 0 0
  have kp0 : Keep σ σ (fun _ => False) := Keep.rf
  have dm0 : σ.1 = σ.1 := rfl
  refine j_new C dX2_ofLoad_0 rfl na_X2_8 (by omega) (by omega) (k' := 1) (n' := 7) (by first | rfl | omega) (by first | rfl | omega) (fun e τ1 nq3 ee2 => ?_)
  have u4 : has τ1 e (.inr (2, [vi (0), vi (0), vi (0), vi (0), vi (0), vi (0), vi (0)])) := has.fresh' ee2
  have kp5 := kp0.new ee2 nq3
  have dm6 := (dom_new ee2).trans (congrArg (· ++ [e]) dm0)
  have nne : e ∉ σ.1 := nq3
  refine j_dup C dX2_ofLoad_3 rfl rfl ?_
  refine j_bipush C dX2_ofLoad_4 rfl (by decide) ?_
  refine j_iload_n 0 C dX2_ofLoad_6 rfl rfl rfl ?_
  refine j_iload_n 0 C dX2_ofLoad_7 rfl rfl rfl ?_
  refine j_iload_n 1 C dX2_ofLoad_8 rfl rfl rfl ?_
  refine j_iconst C dX2_ofLoad_9 rfl ?_
  refine j_iload_n 2 C dX2_ofLoad_10 rfl rfl rfl ?_
  refine j_iload_n 3 C dX2_ofLoad_11 rfl rfl rfl ?_
  refine j_callI (st' := [.ref e]) (As := [vi (108), vi (b), vi (b), vi (n), vi (0), vi (x), vi (f)]) C dX2_ofLoad_12 rfl m_X2_32 rfl rfl (c_eventInit (kL κ) hfl (kD κ) (kc κ) τ1 e 108 b b n 0 x f (by decide) (by decide) u4) rfl (by omega) (by omega) (by omega) (fun _ _ hx => hx.elim) (fun v8 τ7 hp9 => ?_)
  obtain ⟨rfl, hE1, hE2, hE3⟩ := hp9
  show J κ τ7 [(0, vi (b)), (1, vi (n)), (2, vi (x)), (3, vi (f))] 15 [.ref e] _ _
  exact j_aret C E dX2_ofLoad_15 (Or.inl ⟨_, rfl⟩) (by omega) (by omega) ⟨e, rfl, hE1, nne, kp5.tr2 hE2 (fun a z => Or.inr (by rw [z]; exact nne)), hE3.trans dm6⟩
set_option maxHeartbeats 4000000 in
set_option maxRecDepth 20000 in
theorem c_ofSale (l : Launch) (hfl : l.stackTraces = false) (D : va_G) (cy : Nat → Nat) (σ : Wd) (b n : Int) : Ct l yX2_ofSale cX2_ofSale 2 (some (.object "GrainElevator$Event")) 1 1 7 D cy [vi (b), vi (n)] σ (fun v σ' => ∃ e : Nat, v = some (.ref e) ∧ EvR σ' e (115, b, b, n, 0, 0, 0) ∧ e ∉ σ.1 ∧ Keep σ σ' (fun _ => False) ∧ σ'.1 = σ.1 ++ [e]) noX := by
  refine ct_start (by decide +kernel) hfl rfl (fun κ e1 e2 e3 C E NH => ?_)
  subst e1 e2 e3
  have C : Cx κ cX2_ofSale 2 RX2 "ofSale" 1 := C
  obtain ⟨-, -, -, -, hc, hs⟩ := id E
  show J κ σ [(0, vi (b)), (1, vi (n))] 0 [] 0 0
  have kp0 : Keep σ σ (fun _ => False) := Keep.rf
  have dm0 : σ.1 = σ.1 := rfl
  refine j_new C dX2_ofSale_0 rfl na_X2_8 (by omega) (by omega) (k' := 1) (n' := 7) (by first | rfl | omega) (by first | rfl | omega) (fun e τ1 nq3 ee2 => ?_)
  have u4 : has τ1 e (.inr (2, [vi (0), vi (0), vi (0), vi (0), vi (0), vi (0), vi (0)])) := has.fresh' ee2
  have kp5 := kp0.new ee2 nq3
  have dm6 := (dom_new ee2).trans (congrArg (· ++ [e]) dm0)
  have nne : e ∉ σ.1 := nq3
  refine j_dup C dX2_ofSale_3 rfl rfl ?_
  refine j_bipush C dX2_ofSale_4 rfl (by decide) ?_
  refine j_iload_n 0 C dX2_ofSale_6 rfl rfl rfl ?_
  refine j_iload_n 0 C dX2_ofSale_7 rfl rfl rfl ?_
  refine j_iload_n 1 C dX2_ofSale_8 rfl rfl rfl ?_
  refine j_iconst C dX2_ofSale_9 rfl ?_
  refine j_iconst C dX2_ofSale_10 rfl ?_
  refine j_iconst C dX2_ofSale_11 rfl ?_
  refine j_callI (st' := [.ref e]) (As := [vi (115), vi (b), vi (b), vi (n), vi (0), vi (0), vi (0)]) C dX2_ofSale_12 rfl m_X2_32 rfl rfl (c_eventInit (kL κ) hfl (kD κ) (kc κ) τ1 e 115 b b n 0 0 0 (by decide) (by decide) u4) rfl (by omega) (by omega) (by omega) (fun _ _ hx => hx.elim) (fun v8 τ7 hp9 => ?_)
  obtain ⟨rfl, hE1, hE2, hE3⟩ := hp9
  show J κ τ7 [(0, vi (b)), (1, vi (n))] 15 [.ref e] _ _
  exact j_aret C E dX2_ofSale_15 (Or.inl ⟨_, rfl⟩) (by omega) (by omega) ⟨e, rfl, hE1, nne, kp5.tr2 hE2 (fun a z => Or.inr (by rw [z]; exact nne)), hE3.trans dm6⟩
set_option maxHeartbeats 4000000 in
set_option maxRecDepth 20000 in
theorem c_ofTransfer (l : Launch) (hfl : l.stackTraces = false) (D : va_G) (cy : Nat → Nat) (σ : Wd) (b o n : Int) : Ct l yX2_ofTransfer cX2_ofTransfer 3 (some (.object "GrainElevator$Event")) 1 1 7 D cy [vi (b), vi (o), vi (n)] σ (fun v σ' => ∃ e : Nat, v = some (.ref e) ∧ EvR σ' e (116, b, o, n, 0, 0, 0) ∧ e ∉ σ.1 ∧ Keep σ σ' (fun _ => False) ∧ σ'.1 = σ.1 ++ [e]) noX := by
  refine ct_start (by decide +kernel) hfl rfl (fun κ e1 e2 e3 C E NH => ?_)
  subst e1 e2 e3
  have C : Cx κ cX2_ofTransfer 3 RX2 "ofTransfer" 1 := C
  obtain ⟨-, -, -, -, hc, hs⟩ := id E
  show J κ σ [(0, vi (b)), (1, vi (o)), (2, vi (n))] 0 [] 0 0
  have kp0 : Keep σ σ (fun _ => False) := Keep.rf
  have dm0 : σ.1 = σ.1 := rfl
  refine j_new C dX2_ofTransfer_0 rfl na_X2_8 (by omega) (by omega) (k' := 1) (n' := 7) (by first | rfl | omega) (by first | rfl | omega) (fun e τ1 nq3 ee2 => ?_)
  have u4 : has τ1 e (.inr (2, [vi (0), vi (0), vi (0), vi (0), vi (0), vi (0), vi (0)])) := has.fresh' ee2
  have kp5 := kp0.new ee2 nq3
  have dm6 := (dom_new ee2).trans (congrArg (· ++ [e]) dm0)
  have nne : e ∉ σ.1 := nq3
  refine j_dup C dX2_ofTransfer_3 rfl rfl ?_
  refine j_bipush C dX2_ofTransfer_4 rfl (by decide) ?_
  refine j_iload_n 0 C dX2_ofTransfer_6 rfl rfl rfl ?_
  refine j_iload_n 1 C dX2_ofTransfer_7 rfl rfl rfl ?_
  refine j_iload_n 2 C dX2_ofTransfer_8 rfl rfl rfl ?_
  refine j_iconst C dX2_ofTransfer_9 rfl ?_
  refine j_iconst C dX2_ofTransfer_10 rfl ?_
  refine j_iconst C dX2_ofTransfer_11 rfl ?_
  refine j_callI (st' := [.ref e]) (As := [vi (116), vi (b), vi (o), vi (n), vi (0), vi (0), vi (0)]) C dX2_ofTransfer_12 rfl m_X2_32 rfl rfl (c_eventInit (kL κ) hfl (kD κ) (kc κ) τ1 e 116 b o n 0 0 0 (by decide) (by decide) u4) rfl (by omega) (by omega) (by omega) (fun _ _ hx => hx.elim) (fun v8 τ7 hp9 => ?_)
  obtain ⟨rfl, hE1, hE2, hE3⟩ := hp9
  show J κ τ7 [(0, vi (b)), (1, vi (o)), (2, vi (n))] 15 [.ref e] _ _
  exact j_aret C E dX2_ofTransfer_15 (Or.inl ⟨_, rfl⟩) (by omega) (by omega) ⟨e, rfl, hE1, nne, kp5.tr2 hE2 (fun a z => Or.inr (by rw [z]; exact nne)), hE3.trans dm6⟩
set_option maxHeartbeats 4000000 in
set_option maxRecDepth 20000 in
theorem c_ofDrying (l : Launch) (hfl : l.stackTraces = false) (D : va_G) (cy : Nat → Nat) (σ : Wd) (b x : Int) : Ct l yX2_ofDrying cX2_ofDrying 2 (some (.object "GrainElevator$Event")) 1 1 7 D cy [vi (b), vi (x)] σ (fun v σ' => ∃ e : Nat, v = some (.ref e) ∧ EvR σ' e (100, b, b, 0, 0, x, 0) ∧ e ∉ σ.1 ∧ Keep σ σ' (fun _ => False) ∧ σ'.1 = σ.1 ++ [e]) noX := by
  refine ct_start (by decide +kernel) hfl rfl (fun κ e1 e2 e3 C E NH => ?_)
  subst e1 e2 e3
  have C : Cx κ cX2_ofDrying 2 RX2 "ofDrying" 1 := C
  obtain ⟨-, -, -, -, hc, hs⟩ := id E
  show J κ σ [(0, vi (b)), (1, vi (x))] 0 [] 0 0
  have kp0 : Keep σ σ (fun _ => False) := Keep.rf
  have dm0 : σ.1 = σ.1 := rfl
  refine j_new C dX2_ofDrying_0 rfl na_X2_8 (by omega) (by omega) (k' := 1) (n' := 7) (by first | rfl | omega) (by first | rfl | omega) (fun e τ1 nq3 ee2 => ?_)
  have u4 : has τ1 e (.inr (2, [vi (0), vi (0), vi (0), vi (0), vi (0), vi (0), vi (0)])) := has.fresh' ee2
  have kp5 := kp0.new ee2 nq3
  have dm6 := (dom_new ee2).trans (congrArg (· ++ [e]) dm0)
  have nne : e ∉ σ.1 := nq3
  refine j_dup C dX2_ofDrying_3 rfl rfl ?_
  refine j_bipush C dX2_ofDrying_4 rfl (by decide) ?_
  refine j_iload_n 0 C dX2_ofDrying_6 rfl rfl rfl ?_
  refine j_iload_n 0 C dX2_ofDrying_7 rfl rfl rfl ?_
  refine j_iconst C dX2_ofDrying_8 rfl ?_
  refine j_iconst C dX2_ofDrying_9 rfl ?_
  refine j_iload_n 1 C dX2_ofDrying_10 rfl rfl rfl ?_
  refine j_iconst C dX2_ofDrying_11 rfl ?_
  refine j_callI (st' := [.ref e]) (As := [vi (100), vi (b), vi (b), vi (0), vi (0), vi (x), vi (0)]) C dX2_ofDrying_12 rfl m_X2_32 rfl rfl (c_eventInit (kL κ) hfl (kD κ) (kc κ) τ1 e 100 b b 0 0 x 0 (by decide) (by decide) u4) rfl (by omega) (by omega) (by omega) (fun _ _ hx => hx.elim) (fun v8 τ7 hp9 => ?_)
  obtain ⟨rfl, hE1, hE2, hE3⟩ := hp9
  show J κ τ7 [(0, vi (b)), (1, vi (x))] 15 [.ref e] _ _
  exact j_aret C E dX2_ofDrying_15 (Or.inl ⟨_, rfl⟩) (by omega) (by omega) ⟨e, rfl, hE1, nne, kp5.tr2 hE2 (fun a z => Or.inr (by rw [z]; exact nne)), hE3.trans dm6⟩
set_option maxHeartbeats 4000000 in
set_option maxRecDepth 20000 in
theorem c_ofBlend (l : Launch) (hfl : l.stackTraces = false) (D : va_G) (cy : Nat → Nat) (σ : Wd) (b o n r : Int) : Ct l yX2_ofBlend cX2_ofBlend 4 (some (.object "GrainElevator$Event")) 1 1 7 D cy [vi (b), vi (o), vi (n), vi (r)] σ (fun v σ' => ∃ e : Nat, v = some (.ref e) ∧ EvR σ' e (98, b, o, n, r, 0, 0) ∧ e ∉ σ.1 ∧ Keep σ σ' (fun _ => False) ∧ σ'.1 = σ.1 ++ [e]) noX := by
  refine ct_start (by decide +kernel) hfl rfl (fun κ e1 e2 e3 C E NH => ?_)
  subst e1 e2 e3
  have C : Cx κ cX2_ofBlend 4 RX2 "ofBlend" 1 := C
  obtain ⟨-, -, -, -, hc, hs⟩ := id E
  show J κ σ [(0, vi (b)), (1, vi (o)), (2, vi (n)), (3, vi (r))] 0 [] 0 0
  have kp0 : Keep σ σ (fun _ => False) := Keep.rf
  have dm0 : σ.1 = σ.1 := rfl
  refine j_new C dX2_ofBlend_0 rfl na_X2_8 (by omega) (by omega) (k' := 1) (n' := 7) (by first | rfl | omega) (by first | rfl | omega) (fun e τ1 nq3 ee2 => ?_)
  have u4 : has τ1 e (.inr (2, [vi (0), vi (0), vi (0), vi (0), vi (0), vi (0), vi (0)])) := has.fresh' ee2
  have kp5 := kp0.new ee2 nq3
  have dm6 := (dom_new ee2).trans (congrArg (· ++ [e]) dm0)
  have nne : e ∉ σ.1 := nq3
  refine j_dup C dX2_ofBlend_3 rfl rfl ?_
  refine j_bipush C dX2_ofBlend_4 rfl (by decide) ?_
  refine j_iload_n 0 C dX2_ofBlend_6 rfl rfl rfl ?_
  refine j_iload_n 1 C dX2_ofBlend_7 rfl rfl rfl ?_
  refine j_iload_n 2 C dX2_ofBlend_8 rfl rfl rfl ?_
  refine j_iload_n 3 C dX2_ofBlend_9 rfl rfl rfl ?_
  refine j_iconst C dX2_ofBlend_10 rfl ?_
  refine j_iconst C dX2_ofBlend_11 rfl ?_
  refine j_callI (st' := [.ref e]) (As := [vi (98), vi (b), vi (o), vi (n), vi (r), vi (0), vi (0)]) C dX2_ofBlend_12 rfl m_X2_32 rfl rfl (c_eventInit (kL κ) hfl (kD κ) (kc κ) τ1 e 98 b o n r 0 0 (by decide) (by decide) u4) rfl (by omega) (by omega) (by omega) (fun _ _ hx => hx.elim) (fun v8 τ7 hp9 => ?_)
  obtain ⟨rfl, hE1, hE2, hE3⟩ := hp9
  show J κ τ7 [(0, vi (b)), (1, vi (o)), (2, vi (n)), (3, vi (r))] 15 [.ref e] _ _
  exact j_aret C E dX2_ofBlend_15 (Or.inl ⟨_, rfl⟩) (by omega) (by omega) ⟨e, rfl, hE1, nne, kp5.tr2 hE2 (fun a z => Or.inr (by rw [z]; exact nne)), hE3.trans dm6⟩
/-- the best blend: is one found, its share, its cost -/
abbrev Bl : Type := Bool × Int × Int
def BlR (σ : Wd) (a : Nat) (b : Bl) : Prop := has σ a (.inr (1, [vi (b01 b.1), vi b.2.1, vi b.2.2]))
def offF (b : Bl) (s c w mw : Int) : Bl := if w ≤ mw ∧ (b.1 = false ∨ c < b.2.2) then (true, s, c) else b
theorem b01_eq0 {b : Bool} (h : b01 b = 0) : b = false := by cases b; rfl; simp [b01] at h
theorem b01_ne0 {b : Bool} (h : ¬ b01 b = 0) : b = true := by cases b; simp [b01] at h; rfl
set_option maxHeartbeats 4000000 in
set_option maxRecDepth 20000 in
theorem c_blendInit (l : Launch) (hfl : l.stackTraces = false) (D : va_G) (cy : Nat → Nat) (σ : Wd) (h : Nat) (hh : has σ h (.inr (1, [vi 0, vi 0, vi 0]))) : Ct l yX1_init cX1_init 1 none 0 0 0 D cy [.ref h] σ (fun v σ' => v = none ∧ BlR σ' h (false, 0, 0) ∧ Keep σ σ' (fun a => a = h) ∧ σ'.1 = σ.1) noX := by
  refine ct_start (by decide +kernel) hfl rfl (fun κ e1 e2 e3 C E NH => ?_)
  subst e1 e2 e3
  have C : Cx κ cX1_init 1 RX1 "<init>" 0 := C
  obtain ⟨-, -, -, -, hc, hs⟩ := id E
  show J κ σ [(0, .ref h)] 0 [] 0 0
  have kp0 : Keep σ σ (fun a => a = h) := Keep.rf
  have dm0 : σ.1 = σ.1 := rfl
  refine j_aload_n 0 C dX1_init_0 rfl rfl rfl ?_
  refine j_objInit C dX1_init_1 rfl oi_X1_1 oi_in oi_co (Nat.le_of_ble_eq_true rfl) ?_
  refine j_aload_n 0 C dX1_init_4 rfl rfl rfl ?_
  refine j_iconst C dX1_init_5 rfl ?_
  refine j_put (fs' := [vi (0), vi (0), vi (0)]) C dX1_init_6 rfl fa_X1_7 hh rfl rfl rfl rfl (fun τ1 ee2 => ?_)
  have u3 : has τ1 h (.inr (1, [vi (0), vi (0), vi (0)])) := hh.self' ee2
  have kp4 := kp0.put ee2 rfl
  have dm5 := (dom_put ee2).trans dm0
  refine j_aload_n 0 C dX1_init_9 rfl rfl rfl ?_
  refine j_iconst C dX1_init_10 rfl ?_
  refine j_put (fs' := [vi (0), vi (0), vi (0)]) C dX1_init_11 rfl fa_X1_13 u3 rfl rfl rfl rfl (fun τ6 ee7 => ?_)
  have u8 : has τ6 h (.inr (1, [vi (0), vi (0), vi (0)])) := u3.self' ee7
  have kp9 := kp4.put ee7 rfl
  have dm10 := (dom_put ee7).trans dm5
  refine j_aload_n 0 C dX1_init_14 rfl rfl rfl ?_
  refine j_iconst C dX1_init_15 rfl ?_
  refine j_put (fs' := [vi (0), vi (0), vi (0)]) C dX1_init_16 rfl fa_X1_17 u8 rfl rfl rfl rfl (fun τ11 ee12 => ?_)
  have u13 : has τ11 h (.inr (1, [vi (0), vi (0), vi (0)])) := u8.self' ee12
  have kp14 := kp9.put ee12 rfl
  have dm15 := (dom_put ee12).trans dm10
  exact j_vret C E dX1_init_19 (by omega) (by omega) ⟨rfl, u13, kp14, dm15⟩
set_option maxHeartbeats 4000000 in
set_option maxRecDepth 20000 in
theorem c_offer (l : Launch) (hfl : l.stackTraces = false) (D : va_G) (cy : Nat → Nat) (σ : Wd) (h f1 f2 : Nat) (b : Bl) (s mw i1 u1 c1 w1 d1 i2 u2 c2 w2 d2 : Int) (bi1 pi1 bi2 pi2 : Value) (hb : BlR σ h b) (hf1 : has σ f1 (.inr (3, [bi1, pi1, vi i1, vi u1, vi c1, vi w1, vi d1]))) (hf2 : has σ f2 (.inr (3, [bi2, pi2, vi i2, vi u2, vi c2, vi w2, vi d2]))) (hbc : -2147483648 ≤ b.2.2 ∧ b.2.2 < 2147483648) (hr : (-1000000000 ≤ c1 ∧ c1 ≤ 1000000000) ∧ (-1000000000 ≤ c2 ∧ c2 ≤ 1000000000) ∧ (-1000000000 ≤ w1 ∧ w1 ≤ 1000000000) ∧ (-1000000000 ≤ w2 ∧ w2 ≤ 1000000000) ∧ (-1000000000 ≤ mw ∧ mw ≤ 1000000000)) : Ct l yX1_offer cX1_offer 7 none 0 0 0 D cy [.ref h, vi (s), .ref f1, .ref f2, vi (mw)] σ (fun v σ' => v = none ∧ BlR σ' h (offF b s (c1 + c2) (w1 + w2) mw) ∧ Keep σ σ' (fun a => a = h) ∧ σ'.1 = σ.1) noX := by
  refine ct_start (by decide +kernel) hfl rfl (fun κ e1 e2 e3 C E NH => ?_)
  subst e1 e2 e3
  have C : Cx κ cX1_offer 7 RX1 "offer" 0 := C
  obtain ⟨-, -, -, -, hc, hs⟩ := id E
  show J κ σ [(0, .ref h), (1, vi (s)), (2, .ref f1), (3, .ref f2), (4, vi (mw))] 0 [] 0 0
  obtain ⟨bf, bs, bc⟩ := b
  dsimp only [BlR] at hb hbc
  have kp0 : Keep σ σ (fun a => a = h) := Keep.rf
  have dm0 : σ.1 = σ.1 := rfl
  refine j_aload_n 2 C dX1_offer_0 rfl rfl rfl ?_
  refine j_get C dX1_offer_1 rfl fg_X1_20 hf1 rfl ?_
  refine j_aload_n 3 C dX1_offer_4 rfl rfl rfl ?_
  refine j_get C dX1_offer_5 rfl fg_X1_20 hf2 rfl ?_
  refine j_iadd C dX1_offer_8 rfl ?_
  refine j_istore (lv' := [(0, .ref h), (1, vi (s)), (2, .ref f1), (3, .ref f2), (4, vi (mw)), (5, vi (c1 + c2))]) [1, 2, 3, 4, 5, 0] C dX1_offer_9 rfl rfl rfl ?_
  refine j_aload_n 2 C dX1_offer_11 rfl rfl rfl ?_
  refine j_get C dX1_offer_12 rfl fg_X1_23 hf1 rfl ?_
  refine j_aload_n 3 C dX1_offer_15 rfl rfl rfl ?_
  refine j_get C dX1_offer_16 rfl fg_X1_23 hf2 rfl ?_
  refine j_iadd C dX1_offer_19 rfl ?_
  refine j_iload 4 C dX1_offer_20 rfl rfl ?_
  refine j_icmp_gt (tgt := 29) C dX1_offer_22 rfl rfl ⟨by omega, by omega⟩ ⟨by omega, by omega⟩ (fun cc1 => ?_) (fun cc1 => ?_)
  · refine j_iconst C dX1_offer_29 rfl ?_
    refine j_istore (lv' := [(0, .ref h), (1, vi (s)), (2, .ref f1), (3, .ref f2), (4, vi (mw)), (5, vi (c1 + c2)), (6, vi (0))]) [1, 2, 3, 4, 5, 6, 0] C dX1_offer_30 rfl rfl rfl ?_
    refine j_iload 6 C dX1_offer_32 rfl rfl ?_
    refine j_if_eq (tgt := 69) C dX1_offer_34 rfl rfl ⟨by omega, by omega⟩ (fun cc2 => ?_) (fun cc2 => ?_)
    · have e9 : offF (bf, bs, bc) s (c1 + c2) (w1 + w2) mw = (bf, bs, bc) := if_neg (fun z => absurd z.1 (by omega))
      exact j_vret C E dX1_offer_69 (by omega) (by omega) ⟨rfl, (by rw [e9]; exact hb), kp0, dm0⟩
    · exact absurd rfl cc2
  · refine j_iconst C dX1_offer_25 rfl ?_
    refine j_goto (tgt := 30) C dX1_offer_26 rfl ?_
    refine j_istore (lv' := [(0, .ref h), (1, vi (s)), (2, .ref f1), (3, .ref f2), (4, vi (mw)), (5, vi (c1 + c2)), (6, vi (1))]) [1, 2, 3, 4, 5, 6, 0] C dX1_offer_30 rfl rfl rfl ?_
    refine j_iload 6 C dX1_offer_32 rfl rfl ?_
    refine j_if_eq (tgt := 69) C dX1_offer_34 rfl rfl ⟨by omega, by omega⟩ (fun cc3 => ?_) (fun cc3 => ?_)
    · exact absurd cc3 (by decide)
    · refine j_aload_n 0 C dX1_offer_37 rfl rfl rfl ?_
      refine j_get C dX1_offer_38 rfl fg_X1_7 hb rfl ?_
      refine j_if_eq (tgt := 53) C dX1_offer_41 rfl rfl ⟨by unfold b01; split <;> decide, by unfold b01; split <;> decide⟩ (fun cc4 => ?_) (fun cc4 => ?_)
      · have e9 : offF (bf, bs, bc) s (c1 + c2) (w1 + w2) mw = (true, s, c1 + c2) := if_pos ⟨by omega, Or.inl (b01_eq0 cc4)⟩
        refine j_aload_n 0 C dX1_offer_53 rfl rfl rfl ?_
        refine j_iconst C dX1_offer_54 rfl ?_
        refine j_put (fs' := [vi (1), vi (bs), vi (bc)]) C dX1_offer_55 rfl fa_X1_7 hb rfl rfl rfl rfl (fun τ5 ee6 => ?_)
        have u7 : has τ5 h (.inr (1, [vi (1), vi (bs), vi (bc)])) := hb.self' ee6
        have u8 := hf1.ne' ee6 (hf1.nk hb rfl)
        have u9 := hf2.ne' ee6 (hf2.nk hb rfl)
        have kp10 := kp0.put ee6 rfl
        have dm11 := (dom_put ee6).trans dm0
        refine j_aload_n 0 C dX1_offer_58 rfl rfl rfl ?_
        refine j_iload_n 1 C dX1_offer_59 rfl rfl rfl ?_
        refine j_put (fs' := [vi (1), vi (s), vi (bc)]) C dX1_offer_60 rfl fa_X1_13 u7 rfl rfl rfl rfl (fun τ12 ee13 => ?_)
        have u14 : has τ12 h (.inr (1, [vi (1), vi (s), vi (bc)])) := u7.self' ee13
        have u15 := u8.ne' ee13 (u8.nk u7 rfl)
        have u16 := u9.ne' ee13 (u9.nk u7 rfl)
        have kp17 := kp10.put ee13 rfl
        have dm18 := (dom_put ee13).trans dm11
        refine j_aload_n 0 C dX1_offer_63 rfl rfl rfl ?_
        refine j_iload 5 C dX1_offer_64 rfl rfl ?_
        refine j_put (fs' := [vi (1), vi (s), vi (c1 + c2)]) C dX1_offer_66 rfl fa_X1_17 u14 rfl rfl rfl rfl (fun τ19 ee20 => ?_)
        have u21 : has τ19 h (.inr (1, [vi (1), vi (s), vi (c1 + c2)])) := u14.self' ee20
        have u22 := u15.ne' ee20 (u15.nk u14 rfl)
        have u23 := u16.ne' ee20 (u16.nk u14 rfl)
        have kp24 := kp17.put ee20 rfl
        have dm25 := (dom_put ee20).trans dm18
        exact j_vret C E dX1_offer_69 (by omega) (by omega) ⟨rfl, (by rw [e9]; exact u21), kp24, dm25⟩
      · refine j_iload 5 C dX1_offer_44 rfl rfl ?_
        refine j_aload_n 0 C dX1_offer_46 rfl rfl rfl ?_
        refine j_get C dX1_offer_47 rfl fg_X1_17 hb rfl ?_
        refine j_icmp_ge (tgt := 69) C dX1_offer_50 rfl rfl ⟨by omega, by omega⟩ ⟨by omega, by omega⟩ (fun cc26 => ?_) (fun cc26 => ?_)
        · have e9 : offF (bf, bs, bc) s (c1 + c2) (w1 + w2) mw = (bf, bs, bc) := if_neg (fun z => z.2.elim (fun q => absurd (q.symm.trans (b01_ne0 cc4)) (by decide)) (fun q => absurd (show c1 + c2 < bc from q) (by omega)))
          exact j_vret C E dX1_offer_69 (by omega) (by omega) ⟨rfl, (by rw [e9]; exact hb), kp0, dm0⟩
        · have e9 : offF (bf, bs, bc) s (c1 + c2) (w1 + w2) mw = (true, s, c1 + c2) := if_pos ⟨by omega, Or.inr (show c1 + c2 < bc by omega)⟩
          refine j_aload_n 0 C dX1_offer_53 rfl rfl rfl ?_
          refine j_iconst C dX1_offer_54 rfl ?_
          refine j_put (fs' := [vi (1), vi (bs), vi (bc)]) C dX1_offer_55 rfl fa_X1_7 hb rfl rfl rfl rfl (fun τ27 ee28 => ?_)
          have u29 : has τ27 h (.inr (1, [vi (1), vi (bs), vi (bc)])) := hb.self' ee28
          have u30 := hf1.ne' ee28 (hf1.nk hb rfl)
          have u31 := hf2.ne' ee28 (hf2.nk hb rfl)
          have kp32 := kp0.put ee28 rfl
          have dm33 := (dom_put ee28).trans dm0
          refine j_aload_n 0 C dX1_offer_58 rfl rfl rfl ?_
          refine j_iload_n 1 C dX1_offer_59 rfl rfl rfl ?_
          refine j_put (fs' := [vi (1), vi (s), vi (bc)]) C dX1_offer_60 rfl fa_X1_13 u29 rfl rfl rfl rfl (fun τ34 ee35 => ?_)
          have u36 : has τ34 h (.inr (1, [vi (1), vi (s), vi (bc)])) := u29.self' ee35
          have u37 := u30.ne' ee35 (u30.nk u29 rfl)
          have u38 := u31.ne' ee35 (u31.nk u29 rfl)
          have kp39 := kp32.put ee35 rfl
          have dm40 := (dom_put ee35).trans dm33
          refine j_aload_n 0 C dX1_offer_63 rfl rfl rfl ?_
          refine j_iload 5 C dX1_offer_64 rfl rfl ?_
          refine j_put (fs' := [vi (1), vi (s), vi (c1 + c2)]) C dX1_offer_66 rfl fa_X1_17 u36 rfl rfl rfl rfl (fun τ41 ee42 => ?_)
          have u43 : has τ41 h (.inr (1, [vi (1), vi (s), vi (c1 + c2)])) := u36.self' ee42
          have u44 := u37.ne' ee42 (u37.nk u36 rfl)
          have u45 := u38.ne' ee42 (u38.nk u36 rfl)
          have kp46 := kp39.put ee42 rfl
          have dm47 := (dom_put ee42).trans dm40
          exact j_vret C E dX1_offer_69 (by omega) (by omega) ⟨rfl, (by rw [e9]; exact u43), kp46, dm47⟩
