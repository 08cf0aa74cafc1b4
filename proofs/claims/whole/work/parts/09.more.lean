theorem nI_inc (n z : Nat) : nI n + Int32.ofInt (z : Int) = nI (n + z) := by rw [← nI_add]; rfl
theorem nI_dec (n z : Nat) (h : z ≤ n) : nI n + Int32.ofInt (-(z : Int)) = nI (n - z) := by
  rw [← pk_sub h, Int32.sub_eq_add_neg]
  congr 1
  apply Int32.toInt_inj.mp
  simp [nI]
theorem nx_or (a b : Nat) : nI a ||| nI b = nI (a ||| b) := fa_or a b
theorem bI_toInt (b : Bool) : (bI b).toInt = if b then 1 else 0 := by cases b <;> rfl
section JM
variable {X : XT} {G : GT} {nL k n pc : Nat} {ws ws' : va_W} {lv lv' : List (Nat × Value)} {st : List Value} {cc : ByteArray} {own nm : String} {rm : Room}
theorem j_iconstN (hX : okX X G cc own nm nL rm) {i : Int} {j : Nat} (hdg : decode cc pc = .ok (.iconst i, 1)) (hi : i = (j : Int)) (kk : J X G nL k n ws lv (pc + 1) (.int (nI j) :: st)) : J X G nL k n ws lv pc st := j_iconst hX hdg (by rw [hi]; rfl) kk
theorem j_max (hX : okX X G cc own nm nL rm) {x y i : Nat} (hl0 : Cond.methodLink own i yJ9_max_7cf53 ∈ GA) (hdg : decode cc pc = .ok (.invokestatic i, 3)) (hfr : 1 ≤ rm.frames) (hlo : (st.map fun v => v.category).sum + 13 ≤ rm.locals ∧ k ≤ rm.cells ∧ n ≤ rm.slots) (hx : x < 2 ^ 31) (hy : y < 2 ^ 31) (kk : J X G nL k n ws lv (pc + 3) (.int (nI (max x y)) :: st)) : J X G nL k n ws lv pc (.int (nI y) :: .int (nI x) :: st) := by
  intro H locs ls hP hD hS hl
  have hR := hX.2.2.2.2.2.2.2.1
  have hts := hX.2.2.2.2.1
  refine va_mmax hX.1 hX.2.1 (by rw [hX.2.2.1, hl.1]) hX.2.2.2.1 (hts _ hl0) (hts _ kSJ9_max_7cf53) (hts _ kJ9_max_7cf53.2.1) (hts _ kJ9_max_7cf53.1) (by rw [hR]; exact hfr) (by rw [hR]; exact hlo.1) (by rw [hR]; exact hlo.2.1) (by rw [hR]; exact hlo.2.2) hdg ?_
  have e : (if nI x < nI y then nI y else nI x) = nI (max x y) := by
    by_cases h : x < y
    · rw [if_pos ((nI_ltI hx hy).mpr h), Nat.max_eq_right (Nat.le_of_lt h)]
    · rw [if_neg (fun q => h ((nI_ltI hx hy).mp q)), Nat.max_eq_left (Nat.le_of_not_lt h)]
  rw [e]
  exact kk H locs ls hP hD hS hl
theorem j_aload_nN (hX : okX X G cc own nm nL rm) {i : Fin 4} (hdg : decode cc pc = .ok (.aload_n i, 1)) (q : Nat) (hq : lv[q]? = some ((i : Nat), .null)) (kk : J X G nL k n ws lv (pc + 1) (.null :: st)) : J X G nL k n ws lv pc st := fun H locs ls hP hD hS hl => lv_aload_nN hX.1 hX.2.1 hdg rfl (lv_at hl q hq) (kk H locs ls hP hD hS hl)
theorem j_aloadN (hX : okX X G cc own nm nL rm) {i : Nat} (hdg : decode cc pc = .ok (.aload i, 2)) (q : Nat) (hq : lv[q]? = some (i, .null)) (kk : J X G nL k n ws lv (pc + 2) (.null :: st)) : J X G nL k n ws lv pc st := fun H locs ls hP hD hS hl => lv_aloadN hX.1 hX.2.1 hdg (lv_at hl q hq) (kk H locs ls hP hD hS hl)
theorem j_astore_nN (hX : okX X G cc own nm nL rm) {i : Fin 4} (hdg : decode cc pc = .ok (.astore_n i, 1)) (hn : (i : Nat) < nL) (hl : ((i : Nat), Value.null) :: lv.filter (fun q => !(q.1 == (i : Nat)) && !(q.1 + 1 == (i : Nat) && q.2.category == 2)) = lv') (kk : J X G nL k n ws lv' (pc + 1) st) : J X G nL k n ws lv pc (.null :: st) := fun H locs ls hP hD hS h => lv_astore_nN hX.1 hX.2.1 hdg rfl h hn hl (fun ls' h' => kk H locs ls' hP hD hS h')
theorem j_astoreN (hX : okX X G cc own nm nL rm) {i : Nat} (hdg : decode cc pc = .ok (.astore i, 2)) (hn : i < nL) (hl : (i, Value.null) :: lv.filter (fun q => !(q.1 == i) && !(q.1 + 1 == i && q.2.category == 2)) = lv') (kk : J X G nL k n ws lv' (pc + 2) st) : J X G nL k n ws lv pc (.null :: st) := fun H locs ls hP hD hS h => lv_astoreN hX.1 hX.2.1 hdg h hn hl (fun ls' h' => kk H locs ls' hP hD hS h')
end JM
