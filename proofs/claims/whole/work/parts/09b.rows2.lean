/-! ROWS over J: longs, narrow kinds, bits, floating point -/
section Rows2J
variable {κ : Kx} {cc : ByteArray} {nL : Nat} {own nm : String} {lev : Nat} {σ : Wd} {lv lv' : List (Nat × Value)} {pc pc' tgt : Nat} {st : List Value} {k n : Nat}
theorem j_lconst {q : Fin 2} {z : Int} (C : Cx κ cc nL own nm lev) (hd : decode cc pc = .ok (.lconst q, 1)) (hp : pc + 1 = pc') (hz : Int64.ofNat (q : Nat) = Int64.ofInt z) (kk : J κ σ lv pc' (vl z :: st) k n) : J κ σ lv pc st k n := by
  obtain ⟨⟨hx, hb, hmx, hkn⟩, ⟨hown, -, -, -⟩, hG, hK, -⟩ := C
  subst hp
  intro H locs ls hl hP hD hS
  exact lv_lconst hx hb hd hz (kk H locs ls hl hP hD hS)
theorem j_i2b {a z : Int} (C : Cx κ cc nL own nm lev) (hd : decode cc pc = .ok (.i2b, 1)) (hp : pc + 1 = pc') (hz : (Int32.ofInt a).toInt8.toInt32 = Int32.ofInt z) (kk : J κ σ lv pc' (vi z :: st) k n) : J κ σ lv pc (vi a :: st) k n := by
  obtain ⟨⟨hx, hb, hmx, hkn⟩, ⟨hown, -, -, -⟩, hG, hK, -⟩ := C
  subst hp
  intro H locs ls hl hP hD hS
  exact lv_i2b hx hb hd hz (kk H locs ls hl hP hD hS)
theorem j_i2c {a z : Int} (C : Cx κ cc nL own nm lev) (hd : decode cc pc = .ok (.i2c, 1)) (hp : pc + 1 = pc') (hz : ((Int32.ofInt a).toUInt32 % 65536).toInt32 = Int32.ofInt z) (kk : J κ σ lv pc' (vi z :: st) k n) : J κ σ lv pc (vi a :: st) k n := by
  obtain ⟨⟨hx, hb, hmx, hkn⟩, ⟨hown, -, -, -⟩, hG, hK, -⟩ := C
  subst hp
  intro H locs ls hl hP hD hS
  exact lv_i2c hx hb hd hz (kk H locs ls hl hP hD hS)
theorem j_iand {a b z : Int} (C : Cx κ cc nL own nm lev) (hd : decode cc pc = .ok (.iand, 1)) (hp : pc + 1 = pc') (hz : Int32.ofInt a &&& Int32.ofInt b = Int32.ofInt z) (kk : J κ σ lv pc' (vi z :: st) k n) : J κ σ lv pc (vi b :: vi a :: st) k n := by
  obtain ⟨⟨hx, hb, hmx, hkn⟩, ⟨hown, -, -, -⟩, hG, hK, -⟩ := C
  subst hp
  intro H locs ls hl hP hD hS
  refine lv_iand hx hb hd ?_
  rw [hz]
  exact kk H locs ls hl hP hD hS
theorem j_ior {a b z : Int} (C : Cx κ cc nL own nm lev) (hd : decode cc pc = .ok (.ior, 1)) (hp : pc + 1 = pc') (hz : Int32.ofInt a ||| Int32.ofInt b = Int32.ofInt z) (kk : J κ σ lv pc' (vi z :: st) k n) : J κ σ lv pc (vi b :: vi a :: st) k n := by
  obtain ⟨⟨hx, hb, hmx, hkn⟩, ⟨hown, -, -, -⟩, hG, hK, -⟩ := C
  subst hp
  intro H locs ls hl hP hD hS
  refine lv_ior hx hb hd ?_
  rw [hz]
  exact kk H locs ls hl hP hD hS
theorem j_ishl {a b z : Int} (C : Cx κ cc nL own nm lev) (hd : decode cc pc = .ok (.ishl, 1)) (hp : pc + 1 = pc') (hz : Int32.ofInt a <<< (Int32.ofInt b &&& 31) = Int32.ofInt z) (kk : J κ σ lv pc' (vi z :: st) k n) : J κ σ lv pc (vi b :: vi a :: st) k n := by
  obtain ⟨⟨hx, hb, hmx, hkn⟩, ⟨hown, -, -, -⟩, hG, hK, -⟩ := C
  subst hp
  intro H locs ls hl hP hD hS
  refine lv_ishl hx hb hd ?_
  rw [hz]
  exact kk H locs ls hl hP hD hS
theorem j_ishr {a b z : Int} (C : Cx κ cc nL own nm lev) (hd : decode cc pc = .ok (.ishr, 1)) (hp : pc + 1 = pc') (hz : Int32.ofInt a >>> (Int32.ofInt b &&& 31) = Int32.ofInt z) (kk : J κ σ lv pc' (vi z :: st) k n) : J κ σ lv pc (vi b :: vi a :: st) k n := by
  obtain ⟨⟨hx, hb, hmx, hkn⟩, ⟨hown, -, -, -⟩, hG, hK, -⟩ := C
  subst hp
  intro H locs ls hl hP hD hS
  refine lv_ishr hx hb hd ?_
  rw [hz]
  exact kk H locs ls hl hP hD hS
theorem j_i2d {a : Int} (C : Cx κ cc nL own nm lev) (hd : decode cc pc = .ok (.i2d, 1)) (hp : pc + 1 = pc') (kk : J κ σ lv pc' (.double (FP.i2d (Int32.ofInt a)) :: st) k n) : J κ σ lv pc (vi a :: st) k n := by
  obtain ⟨⟨hx, hb, hmx, hkn⟩, ⟨hown, -, -, -⟩, hG, hK, -⟩ := C
  subst hp
  intro H locs ls hl hP hD hS
  exact lv_i2d hx hb hd (kk H locs ls hl hP hD hS)
theorem j_i2f {a : Int} (C : Cx κ cc nL own nm lev) (hd : decode cc pc = .ok (.i2f, 1)) (hp : pc + 1 = pc') (kk : J κ σ lv pc' (.float (FP.i2f (Int32.ofInt a)) :: st) k n) : J κ σ lv pc (vi a :: st) k n := by
  obtain ⟨⟨hx, hb, hmx, hkn⟩, ⟨hown, -, -, -⟩, hG, hK, -⟩ := C
  subst hp
  intro H locs ls hl hP hD hS
  exact lv_i2f hx hb hd (kk H locs ls hl hP hD hS)
theorem j_ddiv {x y : UInt64} (C : Cx κ cc nL own nm lev) (hd : decode cc pc = .ok (.ddiv, 1)) (hp : pc + 1 = pc') (hn : vf_n64 (FP.ddiv x y)) (kk : J κ σ lv pc' (.double (FP.ddiv x y) :: st) k n) : J κ σ lv pc (.double y :: .double x :: st) k n := by
  obtain ⟨⟨hx, hb, hmx, hkn⟩, ⟨hown, -, -, -⟩, hG, hK, -⟩ := C
  subst hp
  intro H locs ls hl hP hD hS
  exact lv_ddiv hx hb hd hn (kk H locs ls hl hP hD hS)
theorem j_fdiv {x y : UInt32} (C : Cx κ cc nL own nm lev) (hd : decode cc pc = .ok (.fdiv, 1)) (hp : pc + 1 = pc') (hn : vf_n32 (FP.fdiv x y)) (kk : J κ σ lv pc' (.float (FP.fdiv x y) :: st) k n) : J κ σ lv pc (.float y :: .float x :: st) k n := by
  obtain ⟨⟨hx, hb, hmx, hkn⟩, ⟨hown, -, -, -⟩, hG, hK, -⟩ := C
  subst hp
  intro H locs ls hl hP hD hS
  exact lv_fdiv hx hb hd hn (kk H locs ls hl hP hD hS)
theorem j_f2d {x : UInt32} (C : Cx κ cc nL own nm lev) (hd : decode cc pc = .ok (.f2d, 1)) (hp : pc + 1 = pc') (hn : vf_n64 (FP.f2d x)) (kk : J κ σ lv pc' (.double (FP.f2d x) :: st) k n) : J κ σ lv pc (.float x :: st) k n := by
  obtain ⟨⟨hx, hb, hmx, hkn⟩, ⟨hown, -, -, -⟩, hG, hK, -⟩ := C
  subst hp
  intro H locs ls hl hP hD hS
  exact lv_f2d hx hb hd hn (kk H locs ls hl hP hD hS)
end Rows2J
