/-! ROWS over J: longs, narrow kinds, bits, floating point -/
section Rows2J
variable {κ : Kx} {cc : ByteArray} {nL : Nat} {own nm : String} {lev : Nat} {σ : Wd} {lv lv' : List (Nat × Value)} {pc pc' tgt : Nat} {st : List Value} {k n : Nat}
theorem j_lconst {q : Fin 2} {z : Int} (C : Cx κ cc nL own nm lev) (hd : decode cc pc = .ok (.lconst q, 1)) (hp : pc + 1 = pc') (hz : Int64.ofNat (q : Nat) = Int64.ofInt z) (kk : J κ σ lv pc' (vl z :: st) k n) : J κ σ lv pc st k n := by
  obtain ⟨⟨hx, hb, hmx, hkn⟩, ⟨hown, -, -, -⟩, hG, hK, -⟩ := C
  subst hp
  intro H locs ls hl hP hD hS
  exact lv_lconst hx hb hd hz (kk H locs ls hl hP hD hS)
theorem j_i2b {a z : Int} (C : Cx κ cc nL own nm lev) (hd : decode cc pc = .ok (.i2b, 1)) (hp : pc + 1 = pc') (hz : (Int32.ofInt a).toInt8.toInt32 = Int32.ofInt z) (kk : J κ σ lv pc' (vi z :: st) k n) : J κ σ lv pc (vi a :: st) k n := by
  obtain ⟨⟨hx, hb, hmx, hkn⟩, ⟨hown, -, -, -⟩, hG, hK, -⟩ := C
  subst hp
  intro H locs ls hl hP hD hS
  exact lv_i2b hx hb hd hz (kk H locs ls hl hP hD hS)
theorem j_i2c {a z : Int} (C : Cx κ cc nL own nm lev) (hd : decode cc pc = .ok (.i2c, 1)) (hp : pc + 1 = pc') (hz : ((Int32.ofInt a).toUInt32 % 65536).toInt32 = Int32.ofInt z) (kk : J κ σ lv pc' (vi z :: st) k n) : J κ σ lv pc (vi a :: st) k n := by
  obtain ⟨⟨hx, hb, hmx, hkn⟩, ⟨hown, -, -, -⟩, hG, hK, -⟩ := C
  subst hp
  intro H locs ls hl hP hD hS
  exact lv_i2c hx hb hd hz (kk H locs ls hl hP hD hS)
theorem j_iand {a b z : Int} (C : Cx κ cc nL own nm lev) (hd : decode cc pc = .ok (.iand, 1)) (hp : pc + 1 = pc') (hz : Int32.ofInt a &&& Int32.ofInt b = Int32.ofInt z) (kk : J κ σ lv pc' (vi z :: st) k n) : J κ σ lv pc (vi b :: vi a :: st) k n := by
  obtain ⟨⟨hx, hb, hmx, hkn⟩, ⟨hown, -, -, -⟩, hG, hK, -⟩ := C
  subst hp
  intro H locs ls hl hP hD hS
  refine lv_iand hx hb hd ?_
  rw [hz]
  exact kk H locs ls hl hP hD hS
theorem j_ior {a b z : Int} (C : Cx κ cc nL own nm lev) (hd : decode cc pc = .ok (.ior, 1)) (hp : pc + 1 = pc') (hz : Int32.ofInt a ||| Int32.ofInt b = Int32.ofInt z) (kk : J κ σ lv pc' (vi z :: st) k n) : J κ σ lv pc (vi b :: vi a :: st) k n := by
  obtain ⟨⟨hx, hb, hmx, hkn⟩, ⟨hown, -, -, -⟩, hG, hK, -⟩ := C
  subst hp
  intro H locs ls hl hP hD hS
  refine lv_ior hx hb hd ?_
  rw [hz]
  exact kk H locs ls hl hP hD hS
theorem j_ishl {a b z : Int} (C : Cx κ cc nL own nm lev) (hd : decode cc pc = .ok (.ishl, 1)) (hp : pc + 1 = pc') (hz : Int32.ofInt a <<< (Int32.ofInt b &&& 31) = Int32.ofInt z) (kk : J κ σ lv pc' (vi z :: st) k n) : J κ σ lv pc (vi b :: vi a :: st) k n := by
  obtain ⟨⟨hx, hb, hmx, hkn⟩, ⟨hown, -, -, -⟩, hG, hK, -⟩ := C
  subst hp
  intro H locs ls hl hP hD hS
  refine lv_ishl hx hb hd ?_
  rw [hz]
  exact kk H locs ls hl hP hD hS
theorem j_ishr {a b z : Int} (C : Cx κ cc nL own nm lev) (hd : decode cc pc = .ok (.ishr, 1)) (hp : pc + 1 = pc') (hz : Int32.ofInt a >>> (Int32.ofInt b &&& 31) = Int32.ofInt z) (kk : J κ σ lv pc' (vi z :: st) k n) : J κ σ lv pc (vi b :: vi a :: st) k n := by
  obtain ⟨⟨hx, hb, hmx, hkn⟩, ⟨hown, -, -, -⟩, hG, hK, -⟩ := C
  subst hp
  intro H locs ls hl hP hD hS
  refine lv_ishr hx hb hd ?_
  rw [hz]
  exact kk H locs ls hl hP hD hS
end Rows2J
