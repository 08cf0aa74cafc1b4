theorem nI_inc (n z : Nat) : nI n + Int32.ofInt (z : Int) = nI (n + z) := by rw [← nI_add]; rfl
theorem nI_dec (n z : Nat) (h : z ≤ n) : nI n + Int32.ofInt (-(z : Int)) = nI (n - z) := by
  rw [← pk_sub h, Int32.sub_eq_add_neg]
  congr 1
  apply Int32.toInt_inj.mp
  simp [nI]
theorem nx_or (a b : Nat) : nI a ||| nI b = nI (a ||| b) := fa_or a b
theorem bI_toInt (b : Bool) : (bI b).toInt = if b then 1 else 0 := by cases b <;> rfl
section JM
variable {X : XT} {G : GT} {nL k n pc : Nat} {ws ws' : va_W} {lv lv' : List (Nat × Value)} {st : List Value} {cc : ByteArray} {own nm : String} {rm : Room}
theorem j_iconstN (hX : okX X G cc own nm nL rm) {i : Int} {j : Nat} (hdg : decode cc pc = .ok (.iconst i, 1)) (hi : i = (j : Int)) (kk : J X G nL k n ws lv (pc + 1) (.int (nI j) :: st)) : J X G nL k n ws lv pc st := j_iconst hX hdg (by rw [hi]; rfl) kk
theorem j_max (hX : okX X G cc own nm nL rm) {x y i : Nat} (hl0 : Cond.methodLink own i yJ9_max_7cf53 ∈ GA) (hdg : decode cc pc = .ok (.invokestatic i, 3)) (hfr : 1 ≤ rm.frames) (hlo : (st.map fun v => v.category).sum + 13 ≤ rm.locals ∧ k ≤ rm.cells ∧ n ≤ rm.slots) (hx : x < 2 ^ 31) (hy : y < 2 ^ 31) (kk : J X G nL k n ws lv (pc + 3) (.int (nI (max x y)) :: st)) : J X G nL k n ws lv pc (.int (nI y) :: .int (nI x) :: st) := by
  intro H locs ls hP hD hS hl
  have hR := hX.2.2.2.2.2.2.2.1
  have hts := hX.2.2.2.2.1
  refine va_mmax hX.1 hX.2.1 (by rw [hX.2.2.1, hl.1]) hX.2.2.2.1 (hts _ hl0) (hts _ kSJ9_max_7cf53) (hts _ kJ9_max_7cf53.2.1) (hts _ kJ9_max_7cf53.1) (by rw [hR]; exact hfr) (by rw [hR]; exact hlo.1) (by rw [hR]; exact hlo.2.1) (by rw [hR]; exact hlo.2.2) hdg ?_
  have e : (if nI x < nI y then nI y else nI x) = nI (max x y) := by
    by_cases h : x < y
    · rw [if_pos ((nI_ltI hx hy).mpr h), Nat.max_eq_right (Nat.le_of_lt h)]
    · rw [if_neg (fun q => h ((nI_ltI hx hy).mp q)), Nat.max_eq_left (Nat.le_of_not_lt h)]
  rw [e]
  exact kk H locs ls hP hD hS hl
end JM
