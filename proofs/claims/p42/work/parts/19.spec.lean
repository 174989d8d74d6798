/-! SPEC: bins, events, what holds of them -/
def st (x : Ly) : Int × Int × Int := (x.1, x.2.1, x.2.2.1)
/-- alike but for grades -/
def Eqv (a b : List Ly) : Prop := a.map st = b.map st
theorem Eqv.rf {a : List Ly} : Eqv a a := rfl
theorem Eqv.len {a b : List Ly} (h : Eqv a b) : a.length = b.length := by
  have := congrArg List.length h
  simpa using this
theorem Eqv.cons {x y : Ly} {a b : List Ly} (h : Eqv (x :: a) (y :: b)) : st x = st y ∧ Eqv a b := by
  unfold Eqv at h
  rw [List.map_cons, List.map_cons] at h
  exact ⟨(List.cons.inj h).1, (List.cons.inj h).2⟩
theorem Eqv.mk {x y : Ly} {a b : List Ly} (h1 : st x = st y) (h2 : Eqv a b) : Eqv (x :: a) (y :: b) := by
  unfold Eqv at h2 ⊢
  rw [List.map_cons, List.map_cons, h1, h2]
theorem Eqv.app {a b c d : List Ly} (h1 : Eqv a b) (h2 : Eqv c d) : Eqv (a ++ c) (b ++ d) := by
  unfold Eqv at h1 h2 ⊢
  rw [List.map_append, List.map_append, h1, h2]
theorem Eqv.rev {a b : List Ly} (h : Eqv a b) : Eqv a.reverse b.reverse := by
  unfold Eqv at h ⊢
  rw [List.map_reverse, List.map_reverse, h]
theorem st_eq {x y : Ly} (h : st x = st y) : x.1 = y.1 ∧ x.2.1 = y.2.1 ∧ x.2.2.1 = y.2.2.1 := by
  unfold st at h
  exact ⟨(Prod.mk.inj h).1, (Prod.mk.inj (Prod.mk.inj h).2).1, (Prod.mk.inj (Prod.mk.inj h).2).2⟩
theorem st_mk {x y : Ly} (h1 : x.1 = y.1) (h2 : x.2.1 = y.2.1) (h3 : x.2.2.1 = y.2.2.1) : st x = st y := by
  unfold st
  rw [h1, h2, h3]
theorem Eqv.take : ∀ {a b : List Ly} (n : Int), Eqv a b → Eqv (takeL n a) (takeL n b)
  | [], [], _, _ => rfl
  | [], y :: b, _, h => by have := h.len; simp at this
  | x :: a, [], _, h => by have := h.len; simp at this
  | x :: a, y :: b, n, h => by
    obtain ⟨h1, h2⟩ := h.cons
    obtain ⟨e1, e2, e3⟩ := st_eq h1
    rw [takeL, takeL, e1]
    by_cases c1 : n ≤ 0
    · rw [if_pos c1, if_pos c1]; rfl
    · rw [if_neg c1, if_neg c1]
      by_cases c2 : n < y.1
      · rw [if_pos c2, if_pos c2]
        exact Eqv.mk (st_mk rfl e2 e3) rfl
      · rw [if_neg c2, if_neg c2]
        exact Eqv.mk h1 (Eqv.take _ h2)
theorem Eqv.drop : ∀ {a b : List Ly} (n : Int), Eqv a b → Eqv (dropL n a) (dropL n b)
  | [], [], _, _ => rfl
  | [], y :: b, _, h => by have := h.len; simp at this
  | x :: a, [], _, h => by have := h.len; simp at this
  | x :: a, y :: b, n, h => by
    obtain ⟨h1, h2⟩ := h.cons
    obtain ⟨e1, e2, e3⟩ := st_eq h1
    rw [dropL, dropL, e1]
    by_cases c1 : n ≤ 0
    · rw [if_pos c1, if_pos c1]; exact h
    · rw [if_neg c1, if_neg c1]
      by_cases c2 : n < y.1
      · rw [if_pos c2, if_pos c2]
        exact Eqv.mk (st_mk rfl e2 e3) h2
      · rw [if_neg c2, if_neg c2]
        exact Eqv.drop _ h2
theorem Eqv.dry (gr gr' : Int → Int → Int) (w : Int) : ∀ {a b : List Ly}, Eqv a b → Eqv (dryL gr w a) (dryL gr' w b)
  | [], [], _ => rfl
  | [], y :: b, h => by have := h.len; simp at this
  | x :: a, [], h => by have := h.len; simp at this
  | x :: a, y :: b, h => by
    obtain ⟨h1, h2⟩ := h.cons
    obtain ⟨e1, e2, e3⟩ := st_eq h1
    have ih := Eqv.dry gr gr' w h2
    unfold dryL at ih ⊢
    rw [List.flatMap_cons, List.flatMap_cons]
    refine Eqv.app ?_ ih
    unfold dry1 dryN
    rw [e1, e2, e3]
    by_cases c1 : w < y.2.1
    · rw [if_pos c1, if_pos c1]
      by_cases c2 : y.1 * (1000 - y.2.1) / (1000 - w) < 1
      · rw [if_pos c2, if_pos c2]; rfl
      · rw [if_neg c2, if_neg c2]; exact Eqv.mk (st_mk rfl rfl rfl) rfl
    · rw [if_neg c1, if_neg c1]; exact Eqv.mk h1 rfl
theorem Eqv.fl {c c' : Int} {m : Bool} {a b : List Ly} (h : Eqv a b) : Eqv (fl (c, m, a)) (fl (c', m, b)) := by
  cases m
  · exact h.rev
  · exact h
theorem Eqv.ofl {m : Bool} {a b : List Ly} (h : Eqv a b) : Eqv (ofl m a) (ofl m b) := by
  cases m
  · exact h.rev
  · exact h
theorem Eqv.map1 {a b : List Ly} (h : Eqv a b) : a.map (fun x => x.1) = b.map (fun x => x.1) := by
  have := congrArg (List.map (fun q : Int × Int × Int => q.1)) h
  rw [List.map_map, List.map_map] at this
  exact this
theorem eqv_tot {a b : List Ly} (h : Eqv a b) : tot a = tot b := by
  have e : ∀ l : List Ly, tot l = (l.map (fun x => x.1)).sum := by
    intro l
    induction l with
    | nil => rfl
    | cons x l ih =>
      unfold tot at ih ⊢
      rw [sumL, ih, List.map_cons, List.sum_cons]
  rw [e, e, h.map1]
/-- a bin by its number -/
def gB (bs : List Bn) (i : Int) : Bn := bs.getD i.toNat (0, false, [])
def setL (bs : List Bn) (i : Int) (l : List Ly) : List Bn := bs.set i.toNat ((gB bs i).1, (gB bs i).2.1, l)
theorem gB_at {bs : List Bn} {i : Int} (h0 : 0 ≤ i) (h1 : i < (bs.length : Int)) : bs[i.toNat]? = some (gB bs i) := by
  have hi : i.toNat < bs.length := by omega
  unfold gB
  rw [List.getD_eq_getElem?_getD, List.getElem?_eq_getElem hi]
  rfl
theorem gB_mem {bs : List Bn} {i : Int} (h0 : 0 ≤ i) (h1 : i < (bs.length : Int)) : gB bs i ∈ bs := List.mem_of_getElem? (gB_at h0 h1)
theorem setL_len (bs : List Bn) (i : Int) (l : List Ly) : (setL bs i l).length = bs.length := by unfold setL; rw [List.length_set]
theorem gB_set {bs : List Bn} {i j : Int} {l : List Ly} (h0 : 0 ≤ i) (h1 : i < (bs.length : Int)) (hj : 0 ≤ j) : gB (setL bs i l) j = if j = i then ((gB bs i).1, (gB bs i).2.1, l) else gB bs j := by
  unfold gB setL
  rw [List.getD_eq_getElem?_getD, List.getElem?_set]
  by_cases h : j = i
  · subst h
    rw [if_pos rfl, if_pos rfl, if_pos (by omega)]
    rfl
  · rw [if_neg (show ¬ i.toNat = j.toNat by omega), if_neg h]
    rfl
/-- what flows out of a bin -/
def outB (bs : List Bn) (b n : Int) : List Bn := setL bs b (ofl (gB bs b).2.1 (dropL n (fl (gB bs b))))
/-- an event, again -/
def apB (gr : Int → Int → Int) (bs : List Bn) (e : Evt) : List Bn :=
  if e.1 = 108 then setL bs e.2.1 ((gB bs e.2.1).2.2 ++ [(e.2.2.2.1, e.2.2.2.2.2.1, e.2.2.2.2.2.2, gr e.2.2.2.2.2.1 e.2.2.2.2.2.2)])
  else if e.1 = 116 then setL (outB bs e.2.1 e.2.2.2.1) e.2.2.1 ((gB bs e.2.2.1).2.2 ++ takeL e.2.2.2.1 (fl (gB bs e.2.1)))
  else if e.1 = 100 then setL bs e.2.1 (dryL gr e.2.2.2.2.2.1 (gB bs e.2.1).2.2)
  else outB (outB bs e.2.1 e.2.2.2.1) e.2.2.1 e.2.2.2.2.1
/-- an event that can happen -/
def evOk (bs : List Bn) (e : Evt) : Prop := (0 ≤ e.2.1 ∧ e.2.1 < (bs.length : Int)) ∧ (0 ≤ e.2.2.1 ∧ e.2.2.1 < (bs.length : Int)) ∧ (0 ≤ e.2.2.2.1 ∧ e.2.2.2.1 ≤ 1000000) ∧ (0 ≤ e.2.2.2.2.1 ∧ e.2.2.2.2.1 ≤ 1000000) ∧
  (e.1 = 108 → lyOk (e.2.2.2.1, e.2.2.2.2.2.1, e.2.2.2.2.2.2, 1) ∧ (gB bs e.2.1).2.2.length < 80) ∧
  (e.1 = 116 → e.2.1 ≠ e.2.2.1 ∧ ((gB bs e.2.2.1).2.2 ++ takeL e.2.2.2.1 (fl (gB bs e.2.1))).length ≤ 80) ∧
  (e.1 = 100 → 80 ≤ e.2.2.2.2.2.1 ∧ e.2.2.2.2.2.1 ≤ 300) ∧ (e.1 = 108 ∨ e.1 = 116 ∨ e.1 = 100 ∨ e.1 = 115 ∨ e.1 = 98)
/-- bins alike but for grades -/
def EqB (a b : List Bn) : Prop := a.length = b.length ∧ ∀ i : Nat, i < a.length → (a.getD i (0, false, [])).1 = (b.getD i (0, false, [])).1 ∧ (a.getD i (0, false, [])).2.1 = (b.getD i (0, false, [])).2.1 ∧ Eqv (a.getD i (0, false, [])).2.2 (b.getD i (0, false, [])).2.2
theorem EqB.rf {a : List Bn} : EqB a a := ⟨rfl, fun _ _ => ⟨rfl, rfl, rfl⟩⟩
theorem EqB.at {a b : List Bn} (h : EqB a b) {i : Int} (h0 : 0 ≤ i) (h1 : i < (a.length : Int)) : (gB a i).1 = (gB b i).1 ∧ (gB a i).2.1 = (gB b i).2.1 ∧ Eqv (gB a i).2.2 (gB b i).2.2 := h.2 i.toNat (by omega)
theorem EqB.set {a b : List Bn} (h : EqB a b) {i : Int} (h0 : 0 ≤ i) (h1 : i < (a.length : Int)) {l l' : List Ly} (hl : Eqv l l') : EqB (setL a i l) (setL b i l') := by
  have hlen := h.1
  refine ⟨by rw [setL_len, setL_len]; exact hlen, fun j hj => ?_⟩
  rw [setL_len] at hj
  have ea := gB_set (bs := a) (l := l) (j := (j : Int)) h0 h1 (by omega)
  have eb := gB_set (bs := b) (l := l') (j := (j : Int)) h0 (by omega) (by omega)
  have e1 : gB (setL a i l) (j : Int) = (setL a i l).getD j (0, false, []) := rfl
  have e2 : gB (setL b i l') (j : Int) = (setL b i l').getD j (0, false, []) := rfl
  rw [← e1, ← e2, ea, eb]
  by_cases hji : (j : Int) = i
  · rw [if_pos hji, if_pos hji]
    exact ⟨(h.at h0 h1).1, (h.at h0 h1).2.1, hl⟩
  · rw [if_neg hji, if_neg hji]
    exact h.2 j hj
theorem bn_eta (b : Bn) : fl b = fl (b.1, b.2.1, b.2.2) := rfl
theorem EqB.out {a b : List Bn} (h : EqB a b) {i : Int} (h0 : 0 ≤ i) (h1 : i < (a.length : Int)) (n : Int) : EqB (outB a i n) (outB b i n) := by
  obtain ⟨e1, e2, e3⟩ := h.at h0 h1
  unfold outB
  refine h.set h0 h1 ?_
  rw [bn_eta (gB a i), bn_eta (gB b i), e2]
  exact Eqv.ofl (Eqv.drop n (Eqv.fl e3))
theorem outB_len (bs : List Bn) (b n : Int) : (outB bs b n).length = bs.length := setL_len _ _ _
theorem EqB.ap {a b : List Bn} (gr gr' : Int → Int → Int) (h : EqB a b) {e : Evt} (hb : 0 ≤ e.2.1 ∧ e.2.1 < (a.length : Int)) (ho : 0 ≤ e.2.2.1 ∧ e.2.2.1 < (a.length : Int)) : EqB (apB gr a e) (apB gr' b e) := by
  obtain ⟨e1, e2, e3⟩ := h.at hb.1 hb.2
  obtain ⟨o1, o2, o3⟩ := h.at ho.1 ho.2
  unfold apB
  by_cases c1 : e.1 = 108
  · rw [if_pos c1, if_pos c1]
    exact h.set hb.1 hb.2 (e3.app rfl)
  · rw [if_neg c1, if_neg c1]
    by_cases c2 : e.1 = 116
    · rw [if_pos c2, if_pos c2]
      refine (h.out hb.1 hb.2 _).set ho.1 (by rw [outB_len]; exact ho.2) (o3.app ?_)
      rw [bn_eta (gB a e.2.1), bn_eta (gB b e.2.1), e2]
      exact Eqv.take _ (Eqv.fl e3)
    · rw [if_neg c2, if_neg c2]
      by_cases c3 : e.1 = 100
      · rw [if_pos c3, if_pos c3]
        exact h.set hb.1 hb.2 (e3.dry gr gr' _)
      · rw [if_neg c3, if_neg c3]
        exact (h.out hb.1 hb.2 _).out ho.1 (by rw [outB_len]; exact ho.2) _
theorem evOk.eqv {a b : List Bn} (h : EqB a b) {e : Evt} (hk : evOk a e) : evOk b e := by
  obtain ⟨h1, h2, h3, h4, h5, h6, h7, h8⟩ := hk
  obtain ⟨e1, e2, e3⟩ := h.at h1.1 h1.2
  obtain ⟨o1, o2, o3⟩ := h.at h2.1 h2.2
  have hl := h.1
  refine ⟨⟨h1.1, by omega⟩, ⟨h2.1, by omega⟩, h3, h4, fun c => ⟨(h5 c).1, by rw [← e3.len]; exact (h5 c).2⟩, fun c => ⟨(h6 c).1, ?_⟩, h7, h8⟩
  have e4 : Eqv ((gB a e.2.2.1).2.2 ++ takeL e.2.2.2.1 (fl (gB a e.2.1))) ((gB b e.2.2.1).2.2 ++ takeL e.2.2.2.1 (fl (gB b e.2.1))) := by
    refine o3.app ?_
    rw [bn_eta (gB a e.2.1), bn_eta (gB b e.2.1), e2]
    exact Eqv.take _ (Eqv.fl e3)
  rw [← e4.len]
  exact (h6 c).2
theorem apB_len (gr : Int → Int → Int) (bs : List Bn) (e : Evt) : (apB gr bs e).length = bs.length := by
  unfold apB
  split
  · rw [setL_len]
  · split
    · rw [setL_len, outB_len]
    · split
      · rw [setL_len]
      · rw [outB_len, outB_len]
/-- events, one after the other -/
def Val (gr : Int → Int → Int) : List Bn → List Evt → List Bn → Prop
  | bs, [], bs' => bs = bs'
  | bs, e :: es, bs' => evOk bs e ∧ Val gr (apB gr bs e) es bs'
theorem Val.snoc {gr : Int → Int → Int} : ∀ {es : List Evt} {bs bs' : List Bn} {e : Evt}, Val gr bs es bs' → evOk bs' e → Val gr bs (es ++ [e]) (apB gr bs' e)
  | [], bs, bs', e, h, hk => by cases h; exact ⟨hk, rfl⟩
  | e' :: es, bs, bs', e, h, hk => ⟨h.1, Val.snoc h.2 hk⟩
def emp (b : Bn) : Bn := (b.1, b.2.1, [])
def grOk (gr : Int → Int → Int) : Prop := ∀ a b, 1 ≤ gr a b ∧ gr a b ≤ 4
/-- going through the events anew comes to the same bins, grades apart -/
def Rep (bs : List Bn) (evs : List Evt) : Prop := ∀ gr, grOk gr → ∃ bs', Val gr (bs.map emp) evs bs' ∧ EqB bs' bs
theorem setL_emp (bs : List Bn) (i : Int) (l : List Ly) : (setL bs i l).map emp = bs.map emp := by
  apply List.ext_getElem?
  intro j
  unfold setL
  rw [List.getElem?_map, List.getElem?_map, List.getElem?_set]
  by_cases h : i.toNat = j
  · subst h
    rw [if_pos rfl]
    by_cases hi : i.toNat < bs.length
    · rw [if_pos hi, List.getElem?_eq_getElem hi]
      unfold gB emp
      rw [List.getD_eq_getElem?_getD, List.getElem?_eq_getElem hi]
      rfl
    · rw [if_neg hi, List.getElem?_eq_none (by omega)]
  · rw [if_neg h]
theorem apB_emp (gr : Int → Int → Int) (bs : List Bn) (e : Evt) : (apB gr bs e).map emp = bs.map emp := by
  unfold apB outB
  split
  · rw [setL_emp]
  · split
    · rw [setL_emp, setL_emp]
    · split
      · rw [setL_emp]
      · rw [setL_emp, setL_emp]
theorem Rep.snoc {bs : List Bn} {evs : List Evt} (h : Rep bs evs) {e : Evt} (hk : evOk bs e) (gr : Int → Int → Int) : Rep (apB gr bs e) (evs ++ [e]) := by
  intro gr' hg
  obtain ⟨bs', h1, h2⟩ := h gr' hg
  have hr : EqB bs bs' := ⟨h2.1.symm, fun i hi => ⟨(h2.2 i (by rw [h2.1]; exact hi)).1.symm, (h2.2 i (by rw [h2.1]; exact hi)).2.1.symm, (h2.2 i (by rw [h2.1]; exact hi)).2.2.symm⟩⟩
  have hk' := hk.eqv hr
  refine ⟨apB gr' bs' e, ?_, h2.ap gr' gr hk'.1 hk'.2.1⟩
  rw [apB_emp]
  exact Val.snoc h1 hk'
theorem Rep.nil (bs : List Bn) : Rep (bs.map emp) [] := fun gr _ => ⟨bs.map emp, by show (bs.map emp).map emp = bs.map emp; rw [List.map_map]; rfl, EqB.rf⟩
theorem gB_snoc {bs : List Bn} {n : Bn} {i : Int} (h0 : 0 ≤ i) (h1 : i < (bs.length : Int)) : gB (bs ++ [n]) i = gB bs i := by
  unfold gB
  rw [List.getD_eq_getElem?_getD, List.getElem?_append_left (by omega), ← List.getD_eq_getElem?_getD]
theorem setL_snoc {bs : List Bn} {n : Bn} {i : Int} {l : List Ly} (h0 : 0 ≤ i) (h1 : i < (bs.length : Int)) : setL (bs ++ [n]) i l = setL bs i l ++ [n] := by
  unfold setL
  rw [gB_snoc h0 h1, List.set_append_left _ _ (by omega)]
theorem outB_snoc {bs : List Bn} {n : Bn} {i k : Int} (h0 : 0 ≤ i) (h1 : i < (bs.length : Int)) : outB (bs ++ [n]) i k = outB bs i k ++ [n] := by
  unfold outB
  rw [gB_snoc h0 h1, setL_snoc h0 h1]
theorem apB_snoc {gr : Int → Int → Int} {bs : List Bn} {n : Bn} {e : Evt} (hb : 0 ≤ e.2.1 ∧ e.2.1 < (bs.length : Int)) (ho : 0 ≤ e.2.2.1 ∧ e.2.2.1 < (bs.length : Int)) : apB gr (bs ++ [n]) e = apB gr bs e ++ [n] := by
  unfold apB
  rw [gB_snoc hb.1 hb.2, gB_snoc ho.1 ho.2]
  split
  · rw [setL_snoc hb.1 hb.2]
  · split
    · rw [outB_snoc hb.1 hb.2, setL_snoc ho.1 (by rw [outB_len]; exact ho.2)]
    · split
      · rw [setL_snoc hb.1 hb.2]
      · rw [outB_snoc hb.1 hb.2, outB_snoc ho.1 (by rw [outB_len]; exact ho.2)]
theorem evOk.bin {bs : List Bn} {n : Bn} {e : Evt} (h : evOk bs e) : evOk (bs ++ [n]) e := by
  obtain ⟨h1, h2, h3, h4, h5, h6, h7, h8⟩ := h
  have hl : (((bs ++ [n]).length : Nat) : Int) = (bs.length : Int) + 1 := by rw [List.length_append]; rfl
  refine ⟨⟨h1.1, by omega⟩, ⟨h2.1, by omega⟩, h3, h4, ?_, ?_, h7, h8⟩
  · rw [gB_snoc h1.1 h1.2]; exact h5
  · rw [gB_snoc h1.1 h1.2, gB_snoc h2.1 h2.2]; exact h6
theorem Val.bin {gr : Int → Int → Int} {n : Bn} : ∀ {es : List Evt} {bs bs' : List Bn}, Val gr bs es bs' → Val gr (bs ++ [n]) es (bs' ++ [n])
  | [], bs, bs', h => by cases h; rfl
  | e :: es, bs, bs', h => by
    refine ⟨h.1.bin, ?_⟩
    rw [apB_snoc h.1.1 h.1.2.1]
    exact Val.bin h.2
theorem EqB.snoc {a b : List Bn} (h : EqB a b) (n : Bn) : EqB (a ++ [n]) (b ++ [n]) := by
  have hl := h.1
  refine ⟨by rw [List.length_append, List.length_append, hl], fun i hi => ?_⟩
  rw [List.length_append] at hi
  have hi' : i < a.length + 1 := hi
  by_cases c : i < a.length
  · rw [List.getD_eq_getElem?_getD, List.getElem?_append_left c, ← List.getD_eq_getElem?_getD, List.getD_eq_getElem?_getD (l := b ++ [n]), List.getElem?_append_left (by omega), ← List.getD_eq_getElem?_getD]
    exact h.2 i c
  · rw [List.getD_eq_getElem?_getD, List.getElem?_append_right (by omega), List.getD_eq_getElem?_getD (l := b ++ [n]), List.getElem?_append_right (by omega), hl]
    exact ⟨rfl, rfl, rfl⟩
theorem Rep.bin {bs : List Bn} {evs : List Evt} (h : Rep bs evs) (c : Int) (m : Bool) : Rep (bs ++ [(c, m, [])]) evs := by
  intro gr hg
  obtain ⟨bs', h1, h2⟩ := h gr hg
  refine ⟨bs' ++ [(c, m, [])], ?_, h2.snoc _⟩
  rw [List.map_append]
  exact Val.bin h1
/-- bushels and layers of all bins -/
def totB : List Bn → Int
  | [] => 0
  | b :: l => tot b.2.2 + totB l
def lenB : List Bn → Nat
  | [] => 0
  | b :: l => b.2.2.length + lenB l
theorem totB_app : ∀ a b : List Bn, totB (a ++ b) = totB a + totB b
  | [], b => by simp [totB]
  | x :: a, b => by simp only [List.cons_append, totB, totB_app a b]; omega
theorem lenB_app : ∀ a b : List Bn, lenB (a ++ b) = lenB a + lenB b
  | [], b => by simp [lenB]
  | x :: a, b => by simp only [List.cons_append, lenB, lenB_app a b]; omega
theorem totB_set : ∀ (bs : List Bn) (k : Nat) (x : Bn), k < bs.length → totB (bs.set k x) = totB bs - tot (bs.getD k (0, false, [])).2.2 + tot x.2.2
  | [], k, x, h => by simp at h
  | b :: l, 0, x, h => by simp [totB]; omega
  | b :: l, k + 1, x, h => by
    have ih := totB_set l k x (by simpa using h)
    simp only [List.set_cons_succ, totB, List.getD_cons_succ]
    omega
theorem lenB_set : ∀ (bs : List Bn) (k : Nat) (x : Bn), k < bs.length → lenB (bs.set k x) + (bs.getD k (0, false, [])).2.2.length = lenB bs + x.2.2.length
  | [], k, x, h => by simp at h
  | b :: l, 0, x, h => by simp [lenB]; omega
  | b :: l, k + 1, x, h => by
    have ih := lenB_set l k x (by simpa using h)
    simp only [List.set_cons_succ, lenB, List.getD_cons_succ]
    omega
theorem totB_setL {bs : List Bn} {i : Int} (h0 : 0 ≤ i) (h1 : i < (bs.length : Int)) (l : List Ly) : totB (setL bs i l) = totB bs - tot (gB bs i).2.2 + tot l := totB_set bs i.toNat _ (by omega)
theorem lenB_setL {bs : List Bn} {i : Int} (h0 : 0 ≤ i) (h1 : i < (bs.length : Int)) (l : List Ly) : lenB (setL bs i l) + (gB bs i).2.2.length = lenB bs + l.length := lenB_set bs i.toNat _ (by omega)
theorem len_lenB : ∀ {bs : List Bn} {b : Bn}, b ∈ bs → b.2.2.length ≤ lenB bs
  | x :: l, b, h => by
    rcases List.mem_cons.mp h with rfl | h
    · simp only [lenB]; omega
    · have := len_lenB h
      simp only [lenB]; omega
def BnOk (b : Bn) : Prop := (1 ≤ b.1 ∧ b.1 ≤ 5000) ∧ lysOk b.2.2 ∧ tot b.2.2 ≤ b.1
/-- what holds of the elevator at all times -/
def Ok (bs : List Bn) (ru : Nat → Int × Int) (se : Int) (pf : Nat → Int) (hd : Hd) (evs : List Evt) (ln : List Int) : Prop :=
  bs.length ≤ 6 ∧ (∀ b ∈ bs, BnOk b) ∧ (lenB bs ≤ evs.length ∧ evs.length ≤ 80) ∧ ((0 ≤ hd.2.1 ∧ hd.2.1 ≤ (evs.length : Int)) ∧ hd.2.2.1 = totB bs ∧ (0 ≤ hd.2.2.2.1 ∧ hd.2.2.2.1 ≤ 2000)) ∧ (∀ i, i < 5 → 0 ≤ pf i ∧ pf i ≤ 2000) ∧ ln.length ≤ 900 ∧ Rep bs evs
theorem totB_in : ∀ {bs : List Bn}, (∀ b ∈ bs, BnOk b) → 0 ≤ totB bs ∧ totB bs ≤ 5000 * bs.length
  | [], _ => by simp [totB]
  | b :: l, h => by
    have h1 := h b List.mem_cons_self
    have h2 := totB_in (bs := l) (fun x hx => h x (List.mem_cons_of_mem _ hx))
    have h3 := tot_0 h1.2.1
    obtain ⟨⟨a1, a2⟩, a3, a4⟩ := h1
    simp only [totB, List.length_cons]
    omega
theorem setL_ok {bs : List Bn} (h : ∀ b ∈ bs, BnOk b) {i : Int} (h0 : 0 ≤ i) (h1 : i < (bs.length : Int)) {l : List Ly} (hl : lysOk l) (ht : tot l ≤ (gB bs i).1) : ∀ b ∈ setL bs i l, BnOk b := by
  intro b hb
  unfold setL at hb
  rcases List.mem_or_eq_of_mem_set hb with hb | rfl
  · exact h b hb
  · have h2 := h _ (gB_mem h0 h1)
    exact ⟨h2.1, hl, ht⟩
