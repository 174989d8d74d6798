/-! what no good blend throws -/
section NSF
variable {p : Program} {l : Launch} {e : Env} {R : Room} {s : State} {m : MethodId} {args : Array Value} {below : List Frame} {meth : Method} {c : Code} {H : Heap} {locs : List Loc} {cells slots : Nat} {ls : Array Slot} {rest : List Value} {free : Addr → Prop} {Qc : Array Value → State → Outcome → State → Prop} {XC : String → State → State → Prop} {H0 : Heap}
theorem ns_throw {cc : ByteArray} {pc : Nat} (hexec : p.tables.exec = Jvm.exec) (hb : c.code = cc) (hl : l.stackTraces = false) {own text : String} {ik is ic mc ms sa : Nat} {A : Nat → Prop}
    (hown : s.vm.findClass own = some m.cls)
    (hk : (Cond.classLink own ik nsN).before args s = true) (hini : (Cond.initialized nsN).before args s = true) (hstr : vk_R own is text sa s) (hat : ∀ w ∈ (nsA own ic).filter vx_no, w.before args s = true)
    (hgood : ∀ w ∈ Cond.classLink own ik nsN :: Cond.initialized nsN :: (nsA own ic).filter vx_no, vx_ot w = true)
    (hU : vx_Zq Bundle.tN "UNASSIGNED_STACK" Bundle.steD A s s.heap) (hN : vx_Zq Bundle.tN "SUPPRESSED_SENTINEL" Bundle.listD A s s.heap) (hS : va_S A s.heap H locs) (hsize : ls.size = c.maxLocals)
    (d0 : decode cc pc = .ok (.new ik, 3)) (d3 : decode cc (pc + 3) = .ok (.dup, 1)) (d4 : decode cc (pc + 4) = .ok (.ldc_w is, 3)) (d7 : decode cc (pc + 7) = .ok (.invokespecial ic, 3)) (d10 : decode cc (pc + 10) = .ok (.athrow, 1))
    (hout : ∀ x ∈ c.exceptionTable.toList, covers x (pc + 10) = false)
    (hRframes : 2 + 3 < R.frames) (hRlocals : (rest.map fun v => v.category).sum + (13 * (2 + 1) + 43) ≤ R.locals) (hRcells : cells + 1 ≤ R.cells) (hRslots : slots + 6 ≤ R.slots) (hlocks : meth.locks = false)
    (hx : ∀ t : State, s.vm.Alike t.vm → H.size ≤ t.heap.size → (∀ q : Nat, q < H.size → t.heap[q]? = H[q]?) → XC nsN s t)
    (hf : ∀ z ∈ locs, free z.base) (hc : cells + 1 ≤ mc) (hs : slots + 6 ≤ ms) :
    W p l e R s m args below meth c H locs cells slots (vx_MQ below Qc XC args s mc ms free) (F0 m pc ls rest) := by
  intro T hT X
  have htr : e.platform.stackTraces = false := (show e.platform.stackTraces = l.stackTraces by rw [X.admits.platform]).trans hl
  have Y := vx_rebase X (R' := { frames := R.frames, locals := R.locals, cells := 1, slots := 6 }) (Nat.le_refl _) (Nat.le_refl _) hRcells hRslots
  obtain ⟨s', hA⟩ : ∃ z, z = (T.setVm s.vm).setFrames (.invoking m args :: below) := ⟨_, rfl⟩
  rw [← hA] at Y
  have hvm : s'.vm = s.vm := by rw [hA]; rfl
  have hhp : s'.heap = H := by rw [hA]; exact hT
  have hW0 : s.WarmedH s'.vm := by rw [hvm]; exact State.WarmedH.refl s
  have hat' : ∀ w ∈ (nsA own ic).filter vx_no, w.before args s' = true := fun w hw => vx_ot_at hW0 hvm.symm (hgood w (List.mem_cons_of_mem _ (List.mem_cons_of_mem _ hw))) (hat w hw)
  have hk' : (Cond.classLink own ik nsN).before args s' = true := vx_ot_at hW0 hvm.symm (hgood _ List.mem_cons_self) hk
  have hini' : (Cond.initialized nsN).before args s' = true := vx_ot_at hW0 hvm.symm (hgood _ (List.mem_cons_of_mem _ List.mem_cons_self)) hini
  have hU' : vx_Zq Bundle.tN "UNASSIGNED_STACK" Bundle.steD A s' s'.heap := by rw [hhp]; exact vx_Zq.moved hW0.alike (hU.kept hS.2.1)
  have hN' : vx_Zq Bundle.tN "SUPPRESSED_SENTINEL" Bundle.listD A s' s'.heap := by rw [hhp]; exact vx_Zq.moved hW0.alike (hN.kept hS.2.1)
  have h : ∀ w ∈ nsA own ic, w.before args s' = true := vx_own hat' (vx_isRefq hU'.1) (vx_isRefq hN'.1) hU'.2.word hN'.2.word
  have hown' : s'.vm.findClass own = some m.cls := by rw [hvm]; exact hown
  have hins : (Cond.instantiable nsN 6).before args s' = true := h _ (by simp [nsA])
  obtain ⟨vm₁, cX, kX, hfX, hkX, -, -, X₁, st1⟩ := Y.newCold hexec (own := own) (C := nsN) (index := ik) (n := 6) hown' hk' hins hini'
    (g := F0 m pc ls rest) rfl (by rw [hb]; exact d0) (Nat.le_refl _) (Nat.le_refl _)
  generalize hT1 : (T.setVm vm₁).pushCell { cls := cX, slots := kX.instanceTypes.map defaultValue, vm := .none } = T1 at X₁ st1
  have hcat : (Value.ref T.heap.size).category = 1 := rfl
  have hcellA : T1.heap[T.heap.size]? = some (freshCell cX kX) := by rw [← hT1]; exact State.heap_pushCell_size _ _
  have d3' : decode c.code (pc + 3) = .ok (.dup, 1) := by rw [hb]; exact d3
  have d4' : decode c.code (pc + 4) = .ok (.ldc_w is, 3) := by rw [hb]; exact d4
  have hstr' : vk_R own is text sa s' := vk_R.warm hW0 hstr
  obtain ⟨U, hsteps, hrun, hend, hW, hsame, ce, hce, hO, hOv⟩ := ns_ctor X₁ hexec htr (own := own) (ic := ic) hown' h (fun x hx => nomatch hx) hfX hkX hcellA (by rw [hhp, hT]; exact Nat.le_refl _) (msg := .ref sa) rfl
    (g := { method := m, pc := pc + 7, locals := ls, stack := .ref sa :: .ref T.heap.size :: .ref T.heap.size :: rest, locked := none }) rfl hsize rfl rfl (rest := rest) rfl
    (by rw [hb]; exact d7) (by rw [hb]; exact d10) hout hRframes (by simp only [List.map_cons, List.sum_cons, hcat]; omega) hlocks
  obtain ⟨f1, f2⟩ := vx_frame hsame
  rw [hhp] at f1 f2
  have hWs : s.WarmedH U.vm := State.WarmedH.trans hW0 hW
  have hcl : s.vm.findClass nsN = some ce.cls := by
    rw [hvm] at hO
    exact hO
  have hall : s.sameButNew ({ U with vm := s.vm } : State) locs mc ms := by
    subst hA
    obtain ⟨e1, e2⟩ := hsame
    rw [State.setFrames_setFrames] at e1
    have h2 : (T.setVm s.vm).sameButNew ({ U with vm := s.vm } : State) [] (0 + 1) (0 + 6) := ⟨e1, e2⟩
    have h3 := X.same.trans h2
    rw [List.append_nil] at h3
    exact h3.mono hc hs
  refine ⟨U, ?_, .threw T.heap.size, hrun, hend, Or.inr ⟨T.heap.size, rfl, nsN, ce, locs, hx U hWs.alike f1 (fun q hq => f2 q hq (fun z hz => nomatch hz)), hce, hOv, hcl, hWs, hall, hf⟩⟩
  refine st1 _ ?_
  show Steps p.tables e below (T1.setTop { method := m, pc := pc + 3, locals := ls, stack := .ref T.heap.size :: rest, locked := none }) _
  jvm_step X₁.here [X₁.here.top, hexec, d3', Value.category]
  exact X₁.ldcStringW hexec (own := own) (text := text) (index := is) (a := sa) hown' hstr'.1 hstr'.2
    (g := { method := m, pc := pc + 4, locals := ls, stack := .ref T.heap.size :: .ref T.heap.size :: rest, locked := none }) rfl d4' _ hsteps
end NSF
def TN (own : String) (ik ic : Nat) : Prop := Cond.classLink own ik nsN ∈ lw_g ∧ Cond.initialized nsN ∈ lw_g ∧ (∀ w ∈ (nsA own ic).filter vx_no, w ∈ lw_g) ∧ (∀ w ∈ Cond.classLink own ik nsN :: Cond.initialized nsN :: (nsA own ic).filter vx_no, vx_ot w = true)
theorem tn_X6 : TN RX6 291 295 := ⟨by decide +kernel, by decide +kernel, by decide +kernel, by decide +kernel⟩
section EndN
variable {κ : Kx} {cc : ByteArray} {nL : Nat} {own nm : String} {lev : Nat} {σ : Wd} {lv : List (Nat × Value)} {pc : Nat} {st : List Value} {k n mc ms : Nat} {Post : Option Value → Wd → Prop} {Exc : String → Wd → Prop}
theorem j_throwN {ik is ic : Nat} {text : String} (C : Cx κ cc nL RX6 nm lev) {ret : Option FieldType} (En9 : En κ ret mc ms Post Exc) (hN : NoH κ) (X : TN RX6 ik ic) (htx : (is, text) ∈ txts) (d0 : decode cc pc = .ok (.new ik, 3)) (d3 : decode cc (pc + 3) = .ok (.dup, 1)) (d4 : decode cc (pc + 4) = .ok (.ldc_w is, 3)) (d6 : decode cc (pc + 7) = .ok (.invokespecial ic, 3)) (d9 : decode cc (pc + 10) = .ok (.athrow, 1)) (hr : Nat.ble (st.map fun v => v.category).sum 8 = true) (hk : k + 1 ≤ mc) (hn : n + 6 ≤ ms) (hpx : Exc nsN σ) : J κ σ lv pc st k n := by
  obtain ⟨⟨hx, hb, hmx, hkn⟩, ⟨hown, -, hlk, hfl⟩, hG, hK, hGo, hA, hf1, hf2⟩ := C
  obtain ⟨σ0, eA, eQ, -, hRc, hRs⟩ := En9
  obtain ⟨x3, x4, x5, x6⟩ := X
  have hr := Nat.le_of_ble_eq_true hr
  obtain ⟨⟨hU, hN9⟩, -, -, ht, -⟩ := hGo
  obtain ⟨sa, hsa⟩ := ht _ htx
  intro H locs ls hl hP hD hS
  rw [eA] at hD hS hU hN9
  show W (kP κ) (kL κ) (kE κ) (kR κ) (kS κ) (kM κ) (kG κ) (kB κ) (kH κ) (kC κ) H locs k n (kQ κ) _
  rw [eQ]
  refine ns_throw hx hb hfl hown (hG _ x3) (hG _ x4) hsa (fun w hw => hG _ (x5 w hw)) x6 hU hN9 hS (by rw [hmx, ← hkn]; exact hl.1) d0 d3 d4 d6 d9 (fun x hx => (hN x hx).elim) (by omega) (by omega) (by omega) (by omega) hlk (fun t hvm hz hq => ⟨⟨σ, hpx, hP.kept (fun i q hi => hq q.1 (hP i q hi).lt), hD⟩, Nat.le_trans hS.1 hz, fun q h1 h2 => (hq q (Nat.lt_of_lt_of_le h1 hS.1)).trans (hS.2.1 q h1 h2)⟩) hS.2.2 hk hn
end EndN
set_option maxHeartbeats 4000000 in
set_option maxRecDepth 20000 in
theorem c_cfB (l : Launch) (hfl : l.stackTraces = false) (D : va_G) (cy : Nat → Nat) (σ : Wd) (bl : Nat) (s c : Int) (hBl : has σ bl (.inr (1, [vi 0, vi s, vi c]))) : Ct l yX6_checkFound cX6_checkFound 1 none 0 1 6 D cy [.ref bl] σ (fun v σ' => False) (fun E9 σ' => E9 = "java/util/NoSuchElementException" ∧ σ' = σ) := by
  refine ct_start (by decide +kernel) hfl rfl (fun κ e1 e2 e3 C E NH => ?_)
  subst e1 e2 e3
  have C : Cx κ cX6_checkFound 1 RX6 "checkFound" 0 := C
  obtain ⟨-, -, -, -, hc, hs⟩ := id E
  show J κ σ [(0, .ref bl)] 0 [] 0 0
  refine j_aload_n 0 C dX6_checkFound_0 rfl rfl rfl ?_
  refine j_get C dX6_checkFound_1 rfl fg_X6_287 hBl rfl ?_
  refine j_if_ne (tgt := 18) C dX6_checkFound_4 rfl rfl ⟨by omega, by omega⟩ (fun cc1 => ?_) (fun cc1 => ?_)
  · exact absurd rfl cc1
  · exact j_throwN C E NH tn_X6 (is := 293) (text := "no blend is good") (by decide) dX6_checkFound_7 dX6_checkFound_10 dX6_checkFound_11 dX6_checkFound_14 dX6_checkFound_17 rfl (by omega) (by omega) ⟨rfl, rfl⟩
set_option maxHeartbeats 4000000 in
set_option maxRecDepth 20000 in
theorem c_goodBlendB2 (l : Launch) (hfl : l.stackTraces = false) (D : va_G) (cy : Nat → Nat) (σ : Wd) (tg ad : Nat → Nat) (bs : List Bn) (ru : Nat → Int × Int) (se : Int) (pf : Nat → Int) (hd : Hd) (ca : Int) (evs : List Evt) (ln : List Int) (hX0 : RX cy σ tg ad bs ru se pf hd ca evs ln) (i : Nat) (hi : i < bs.length) (j : Nat) (hj : j < bs.length) (hij : i ≠ j) (n x : Int) (hn9 : (-2147483648 ≤ n ∧ n < 2147483648)) (hx8 : (-2147483648 ≤ x ∧ x < 2147483648)) (hn : 1 ≤ n ∧ n ≤ 500) (hx9 : 80 ≤ x ∧ x ≤ 300) (hf : ¬ (bestF pf (fl (gB bs i)) (fl (gB bs j)) n (n * x)).1 = true) : Ct l yX6_goodBlend cX6_goodBlend 6 (some (.object "GrainElevator$Blend")) 6 4 23 D cy [.ref (ad 0), vi ((i : Int)), vi ((j : Int)), vi (n), vi (x)] σ (fun v σ' => False) (fun E9 σ' => E9 = "java/util/NoSuchElementException" ∧ Keep σ σ' (fun _ => False)) := by
  refine ct_start (by decide +kernel) hfl rfl (fun κ e1 e2 e3 C E NH => ?_)
  subst e1 e2 e3
  have C : Cx κ cX6_goodBlend 6 RX6 "goodBlend" 6 := C
  obtain ⟨-, -, -, -, hc, hs⟩ := id E
  show J κ σ [(0, .ref (ad 0)), (1, vi ((i : Int))), (2, vi ((j : Int))), (3, vi (n)), (4, vi (x))] 0 [] 0 0
  have hXX := hX0
  obtain ⟨⟨x1, x2⟩, hB, ⟨bsA, hA, hAe⟩, hEv, hX, hO⟩ := hXX
  obtain ⟨⟨hR, t7, t8, t9⟩, ⟨hPr, t10⟩, ⟨hH, t11, t12⟩, cap0, hSb, t13, t14⟩ := id hX
  have hL1 := hB.1.1
  have hL5 := hEv.1.1
  have hbl := bins_len ad 100 bs.length
  have hel9 := evl_len ad evs.length
  have h6 := hB.2.1
  obtain ⟨⟨hc1, hc2⟩, hc3, hc4⟩ := hO.2.2.2.1
  have hev80 := hO.2.2.1.2
  have hpr := hO.2.2.2.2.1
  have hRo := hR.1
  have hHo := hH.1
  obtain ⟨ml0, g0, hSc, -⟩ := id hSb
  have hSo := hSc.1
  have hTb := totB_in hO.2.1
  obtain ⟨m91, hl91, -⟩ := id hL1
  obtain ⟨m92, hl92, -⟩ := id hL5
  obtain ⟨⟨cap, mf, ly⟩, hg7⟩ : ∃ z, gB bs (i : Int) = z := ⟨_, rfl⟩
  have hb7 := hB.at hi hg7
  have hbk7 := hO.2.1 _ (gB_mem (bs := bs) (i := (i : Int)) (by omega) (by omega))
  rw [hg7] at hbk7
  obtain ⟨hcp7, hly7, htc7⟩ := hbk7
  dsimp only at hcp7 hly7 htc7
  have ht07 := tot_0 hly7
  obtain ⟨old7, ga7, gb7, gc7, gd7, ⟨hh7, -, -⟩, -, hcn7, -, hok7⟩ := id hb7
  dsimp only at hh7 hcn7 hok7
  obtain ⟨⟨cap', mf', lz⟩, hg8⟩ : ∃ z, gB bs (j : Int) = z := ⟨_, rfl⟩
  have hb8 := hB.at hj hg8
  have hbk8 := hO.2.1 _ (gB_mem (bs := bs) (i := (j : Int)) (by omega) (by omega))
  rw [hg8] at hbk8
  obtain ⟨hcp8, hly8, htc8⟩ := hbk8
  dsimp only at hcp8 hly8 htc8
  have ht08 := tot_0 hly8
  obtain ⟨old8, ga8, gb8, gc8, gd8, ⟨hh8, -, -⟩, -, hcn8, -, hok8⟩ := id hb8
  dsimp only at hh8 hcn8 hok8
  have m1 : 0 ≤ n * x := Int.mul_nonneg (by omega) (by omega)
  have m2 : n * x ≤ 500 * x := Int.mul_le_mul_of_nonneg_right (by omega) (by omega)
  refine j_aload_n 0 C dX6_goodBlend_0 rfl rfl rfl ?_
  refine j_iload_n 1 C dX6_goodBlend_1 rfl rfl rfl ?_
  refine j_iload_n 2 C dX6_goodBlend_2 rfl rfl rfl ?_
  refine j_iload_n 3 C dX6_goodBlend_3 rfl rfl rfl ?_
  refine j_iload 4 C dX6_goodBlend_4 rfl rfl ?_
  refine j_callV (st' := []) (As := [vi ((i : Int)), vi ((j : Int)), vi (n), vi (x)]) C dX6_goodBlend_6 rfl m_X6_205 x1 rfl rfl rfl (c_cbG (kL κ) hfl (kD κ) (kc κ) σ tg ad bs ru se pf hd ca evs ln hX0 i hi j hj hij n x hn9 hx8 hn hx9) rfl (by omega) (by omega) (by omega) (fun _ _ hx => hx.elim) (fun v2 τ1 hp3 => ?_)
  obtain ⟨rfl, hs9⟩ := hp3
  replace hs9 := hs9.symm
  subst hs9
  show J κ σ [(0, .ref (ad 0)), (1, vi ((i : Int))), (2, vi ((j : Int))), (3, vi (n)), (4, vi (x))] 9 [] _ _
  refine j_aload_n 0 C dX6_goodBlend_9 rfl rfl rfl ?_
  refine j_aload_n 0 C dX6_goodBlend_10 rfl rfl rfl ?_
  refine j_get C dX6_goodBlend_11 rfl fg_X6_12 x1 rfl ?_
  refine j_iload_n 1 C dX6_goodBlend_14 rfl rfl rfl ?_
  refine j_callS (st' := [.ref (ad 0)]) (As := [.ref (ad 1), vi ((i : Int))]) C dX6_goodBlend_15 rfl m_X6_75 rfl rfl (c_biG (kL κ) hfl (kD κ) (kc κ) σ (ad 1) (ad 2) _ hL1 i _ (bins_at hi) _ hh7) rfl (by omega) (by omega) (by omega) (fun _ _ hx => hx.elim) (fun v5 τ4 hp6 => ?_)
  obtain ⟨rfl, hs9⟩ := hp6
  replace hs9 := hs9.symm
  subst hs9
  show J κ σ [(0, .ref (ad 0)), (1, vi ((i : Int))), (2, vi ((j : Int))), (3, vi (n)), (4, vi (x))] 18 [.ref (bq ad 100 i 0), .ref (ad 0)] _ _
  refine j_aload_n 0 C dX6_goodBlend_18 rfl rfl rfl ?_
  refine j_get C dX6_goodBlend_19 rfl fg_X6_12 x1 rfl ?_
  refine j_iload_n 2 C dX6_goodBlend_22 rfl rfl rfl ?_
  refine j_callS (st' := [.ref (bq ad 100 i 0), .ref (ad 0)]) (As := [.ref (ad 1), vi ((j : Int))]) C dX6_goodBlend_23 rfl m_X6_75 rfl rfl (c_biG (kL κ) hfl (kD κ) (kc κ) σ (ad 1) (ad 2) _ hL1 j _ (bins_at hj) _ hh8) rfl (by omega) (by omega) (by omega) (fun _ _ hx => hx.elim) (fun v8 τ7 hp9 => ?_)
  obtain ⟨rfl, hs9⟩ := hp9
  replace hs9 := hs9.symm
  subst hs9
  show J κ σ [(0, .ref (ad 0)), (1, vi ((i : Int))), (2, vi ((j : Int))), (3, vi (n)), (4, vi (x))] 26 [.ref (bq ad 100 j 0), .ref (bq ad 100 i 0), .ref (ad 0)] _ _
  refine j_iload_n 3 C dX6_goodBlend_26 rfl rfl rfl ?_
  refine j_iload_n 3 C dX6_goodBlend_27 rfl rfl rfl ?_
  refine j_iload 4 C dX6_goodBlend_28 rfl rfl ?_
  refine j_imul C dX6_goodBlend_30 rfl ?_
  refine j_callV (st' := []) (As := [.ref (bq ad 100 i 0), .ref (bq ad 100 j 0), vi (n), vi (n * x)]) C dX6_goodBlend_31 rfl m_X6_338 x1 rfl rfl rfl (c_bestGo (kL κ) hfl (kD κ) (kc κ) σ tg ad bs ru se pf hd ca evs ln hX0 i hi j hj n (n * x) ⟨by omega, by omega⟩ ⟨by omega, by omega⟩) rfl (by omega) (by omega) (by omega) (fun _ _ hx => hx.elim) (fun v11 τ10 hp12 => ?_)
  obtain ⟨bl, rfl, hBl, hk1⟩ := hp12
  show J κ τ10 [(0, .ref (ad 0)), (1, vi ((i : Int))), (2, vi ((j : Int))), (3, vi (n)), (4, vi (x))] 34 [.ref bl] 3 17
  have hBl2 := hBl
  unfold BlR at hBl2
  rw [show (bestF pf (fl (gB bs i)) (fl (gB bs j)) n (n * x)).1 = false by simpa using hf] at hBl2
  refine j_astore (lv' := [(0, .ref (ad 0)), (1, vi ((i : Int))), (2, vi ((j : Int))), (3, vi (n)), (4, vi (x)), (5, .ref bl)]) [1, 2, 3, 4, 5, 0] C dX6_goodBlend_34 rfl rfl rfl ?_
  refine j_aload 5 C dX6_goodBlend_36 rfl rfl ?_
  refine j_callS (st' := []) (As := [.ref bl]) C dX6_goodBlend_38 rfl m_X6_213 rfl rfl (c_cfB (kL κ) hfl (kD κ) (kc κ) τ10 bl _ _ hBl2) rfl (by omega) (by omega) (by omega) (fun E9 σ9 hx => jx_out C E NH (by omega) (by omega) ⟨hx.1, by rw [hx.2]; exact hk1⟩) (fun v14 τ13 hp15 => ?_)
  exact hp15.elim
set_option maxHeartbeats 4000000 in
set_option maxRecDepth 20000 in
theorem c_sellBlendB2 (l : Launch) (hfl : l.stackTraces = false) (D : va_G) (cy : Nat → Nat) (σ : Wd) (tg ad : Nat → Nat) (bs : List Bn) (ru : Nat → Int × Int) (se : Int) (pf : Nat → Int) (hd : Hd) (ca : Int) (evs : List Evt) (ln : List Int) (hX0 : RX cy σ tg ad bs ru se pf hd ca evs ln) (i : Nat) (hi : i < bs.length) (j : Nat) (hj : j < bs.length) (hij : i ≠ j) (n x : Int) (hn9 : (-2147483648 ≤ n ∧ n < 2147483648)) (hx8 : (-2147483648 ≤ x ∧ x < 2147483648)) (hn : 1 ≤ n ∧ n ≤ 500) (hx9 : 80 ≤ x ∧ x ≤ 300) (hf : ¬ (bestF pf (fl (gB bs i)) (fl (gB bs j)) n (n * x)).1 = true) : Ct l yX6_sellBlend cX6_sellBlend 8 (some .int) 7 4 23 D cy [.ref (ad 0), vi ((i : Int)), vi ((j : Int)), vi (n), vi (x)] σ (fun v σ' => False) (fun E9 σ' => E9 = "java/util/NoSuchElementException" ∧ Keep σ σ' (fun _ => False)) := by
  refine ct_start (by decide +kernel) hfl rfl (fun κ e1 e2 e3 C E NH => ?_)
  subst e1 e2 e3
  have C : Cx κ cX6_sellBlend 8 RX6 "sellBlend" 7 := C
  obtain ⟨-, -, -, -, hc, hs⟩ := id E
  show J κ σ [(0, .ref (ad 0)), (1, vi ((i : Int))), (2, vi ((j : Int))), (3, vi (n)), (4, vi (x))] 0 [] 0 0
  have hXX := hX0
  obtain ⟨⟨x1, x2⟩, hB, ⟨bsA, hA, hAe⟩, hEv, hX, hO⟩ := hXX
  obtain ⟨⟨hR, t7, t8, t9⟩, ⟨hPr, t10⟩, ⟨hH, t11, t12⟩, cap0, hSb, t13, t14⟩ := id hX
  have hL1 := hB.1.1
  have hL5 := hEv.1.1
  have hbl := bins_len ad 100 bs.length
  have hel9 := evl_len ad evs.length
  have h6 := hB.2.1
  obtain ⟨⟨hc1, hc2⟩, hc3, hc4⟩ := hO.2.2.2.1
  have hev80 := hO.2.2.1.2
  have hpr := hO.2.2.2.2.1
  have hRo := hR.1
  have hHo := hH.1
  obtain ⟨ml0, g0, hSc, -⟩ := id hSb
  have hSo := hSc.1
  have hTb := totB_in hO.2.1
  obtain ⟨m91, hl91, -⟩ := id hL1
  obtain ⟨m92, hl92, -⟩ := id hL5
  refine j_aload_n 0 C dX6_sellBlend_0 rfl rfl rfl ?_
  refine j_iload_n 1 C dX6_sellBlend_1 rfl rfl rfl ?_
  refine j_iload_n 2 C dX6_sellBlend_2 rfl rfl rfl ?_
  refine j_iload_n 3 C dX6_sellBlend_3 rfl rfl rfl ?_
  refine j_iload 4 C dX6_sellBlend_4 rfl rfl ?_
  refine j_callV (st' := []) (As := [vi ((i : Int)), vi ((j : Int)), vi (n), vi (x)]) C dX6_sellBlend_6 rfl m_X6_198 x1 rfl rfl rfl (c_goodBlendB2 (kL κ) hfl (kD κ) (kc κ) σ tg ad bs ru se pf hd ca evs ln hX0 i hi j hj hij n x hn9 hx8 hn hx9 hf) rfl (by omega) (by omega) (by omega) (fun E9 σ9 hx => jx_out C E NH (by omega) (by omega) hx) (fun v2 τ1 hp3 => ?_)
  exact hp3.elim
set_option maxHeartbeats 4000000 in
set_option maxRecDepth 20000 in
theorem c_sellBlendB3 (l : Launch) (hfl : l.stackTraces = false) (D : va_G) (cy : Nat → Nat) (σ : Wd) (tg ad : Nat → Nat) (bs : List Bn) (ru : Nat → Int × Int) (se : Int) (pf : Nat → Int) (hd : Hd) (ca : Int) (evs : List Evt) (ln : List Int) (hX0 : RX cy σ tg ad bs ru se pf hd ca evs ln) (i : Nat) (hi : i < bs.length) (j : Nat) (hj : j < bs.length) (hij : i ≠ j) (n x : Int) (hn9 : (-2147483648 ≤ n ∧ n < 2147483648)) (hx8 : (-2147483648 ≤ x ∧ x < 2147483648)) (hn : 1 ≤ n ∧ n ≤ 500) (hx9 : 80 ≤ x ∧ x ≤ 300) (hfound : (bestF pf (fl (gB bs i)) (fl (gB bs j)) n (n * x)).1 = true) (hl : 80 ≤ evs.length) : Ct l yX6_sellBlend cX6_sellBlend 8 (some .int) 7 4 23 D cy [.ref (ad 0), vi ((i : Int)), vi ((j : Int)), vi (n), vi (x)] σ (fun v σ' => False) (fun E9 σ' => E9 = "java/lang/IllegalStateException" ∧ Keep σ σ' (fun _ => False)) := by
  refine ct_start (by decide +kernel) hfl rfl (fun κ e1 e2 e3 C E NH => ?_)
  subst e1 e2 e3
  have C : Cx κ cX6_sellBlend 8 RX6 "sellBlend" 7 := C
  obtain ⟨-, -, -, -, hc, hs⟩ := id E
  show J κ σ [(0, .ref (ad 0)), (1, vi ((i : Int))), (2, vi ((j : Int))), (3, vi (n)), (4, vi (x))] 0 [] 0 0
  have hXX := hX0
  obtain ⟨⟨x1, x2⟩, hB, ⟨bsA, hA, hAe⟩, hEv, hX, hO⟩ := hXX
  obtain ⟨⟨hR, t7, t8, t9⟩, ⟨hPr, t10⟩, ⟨hH, t11, t12⟩, cap0, hSb, t13, t14⟩ := id hX
  have hL1 := hB.1.1
  have hL5 := hEv.1.1
  have hbl := bins_len ad 100 bs.length
  have hel9 := evl_len ad evs.length
  have h6 := hB.2.1
  obtain ⟨⟨hc1, hc2⟩, hc3, hc4⟩ := hO.2.2.2.1
  have hev80 := hO.2.2.1.2
  have hpr := hO.2.2.2.2.1
  have hRo := hR.1
  have hHo := hH.1
  obtain ⟨ml0, g0, hSc, -⟩ := id hSb
  have hSo := hSc.1
  have hTb := totB_in hO.2.1
  obtain ⟨m91, hl91, -⟩ := id hL1
  obtain ⟨m92, hl92, -⟩ := id hL5
  refine j_aload_n 0 C dX6_sellBlend_0 rfl rfl rfl ?_
  refine j_iload_n 1 C dX6_sellBlend_1 rfl rfl rfl ?_
  refine j_iload_n 2 C dX6_sellBlend_2 rfl rfl rfl ?_
  refine j_iload_n 3 C dX6_sellBlend_3 rfl rfl rfl ?_
  refine j_iload 4 C dX6_sellBlend_4 rfl rfl ?_
  refine j_callV (st' := []) (As := [vi ((i : Int)), vi ((j : Int)), vi (n), vi (x)]) C dX6_sellBlend_6 rfl m_X6_198 x1 rfl rfl rfl (c_goodBlend (kL κ) hfl (kD κ) (kc κ) σ tg ad bs ru se pf hd ca evs ln hX0 i hi j hj hij n x hn9 hx8 hn hx9 hfound) rfl (by omega) (by omega) (by omega) (fun _ _ hx => hx.elim) (fun v2 τ1 hp3 => ?_)
  obtain ⟨bl, rfl, hBl, hk1⟩ := hp3
  show J κ τ1 [(0, .ref (ad 0)), (1, vi ((i : Int))), (2, vi ((j : Int))), (3, vi (n)), (4, vi (x))] 9 [.ref bl] 3 17
  have hXn := hX0.keep hk1 (fun _ _ z => z.elim)
  have hXX := hXn
  obtain ⟨⟨x1, x2⟩, hB, ⟨bsA, hA, hAe⟩, hEv, hX, hO⟩ := hXX
  obtain ⟨⟨hR, t7, t8, t9⟩, ⟨hPr, t10⟩, ⟨hH, t11, t12⟩, cap0, hSb, t13, t14⟩ := id hX
  have hL1 := hB.1.1
  have hL5 := hEv.1.1
  have hbl := bins_len ad 100 bs.length
  have hel9 := evl_len ad evs.length
  have h6 := hB.2.1
  obtain ⟨⟨hc1, hc2⟩, hc3, hc4⟩ := hO.2.2.2.1
  have hev80 := hO.2.2.1.2
  have hpr := hO.2.2.2.2.1
  have hRo := hR.1
  have hHo := hH.1
  obtain ⟨ml0, g0, hSc, -⟩ := id hSb
  have hSo := hSc.1
  have hTb := totB_in hO.2.1
  obtain ⟨m91, hl91, -⟩ := id hL1
  obtain ⟨m92, hl92, -⟩ := id hL5
  unfold BlR at hBl
  refine j_get C dX6_sellBlend_9 rfl fg_X6_217 hBl rfl ?_
  refine j_istore (lv' := [(0, .ref (ad 0)), (1, vi ((i : Int))), (2, vi ((j : Int))), (3, vi (n)), (4, vi (x)), (5, vi ((bestF pf (fl (gB bs i)) (fl (gB bs j)) n (n * x)).2.1))]) [1, 2, 3, 4, 5, 0] C dX6_sellBlend_12 rfl rfl rfl ?_
  refine j_aload_n 0 C dX6_sellBlend_14 rfl rfl rfl ?_
  refine j_callV (st' := []) (As := []) C dX6_sellBlend_15 rfl m_X6_102 x1 rfl rfl rfl (c_ceB (kL κ) hfl (kD κ) (kc κ) τ1 (ad 0) (ad 1) (ad 3) (ad 5) (ad 7) (ad 10) (ad 11) (ad 13) ca x1 (ad 6) _ hL5 ⟨by rw [hel9]; omega, by rw [hel9]; omega⟩) rfl (by omega) (by omega) (by omega) (fun E9 σ9 hx => jx_out C E NH (by omega) (by omega) ⟨hx.1, by rw [hx.2]; exact hk1⟩) (fun v5 τ4 hp6 => ?_)
  exact hp6.elim
