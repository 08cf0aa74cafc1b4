theorem rd_z {ts : Nat → Int32} {i sh lo R : Nat} {g : Nat → Int32} (h : rdS ts i = some (sh, lo, R, 0, g)) : g R = nI 0 := by
  have e : rN (g R) < 2 ^ 0 := (rdV_all h).2.2.2.2.2
  apply b_ext
  intro z hz
  rw [bt_hi e (Nat.zero_le _)]
  exact (b_0 z).symm
theorem rd_or {ts : Nat → Int32} {i sh lo R c : Nat} {g : Nat → Int32} (h : rdS ts i = some (sh, lo, R, c, g)) (hc : c < 16) : g R ||| (nI 1 <<< (nI c &&& 31)) = flp 16 16 g c R R := by
  have e : rN (g R) < 2 ^ c := (rdV_all h).2.2.2.2.2
  have hR : R ≤ 15 := (rdV_all h).1.2.2.2.2.1
  unfold flp
  rw [if_pos ⟨hc, by omega⟩]
  show _ = (if R = R then g R ^^^ bx c else _)
  rw [if_pos rfl]
  apply b_ext
  intro z hz
  show bt (g R ||| bx c) z = _
  rw [b_or, b_xor, bt_bx (by omega) hz]
  by_cases q : z = c
  · rw [bt_hi e (show c ≤ z by omega)]
    cases decide (z = c) <;> rfl
  · rw [decide_eq_false q, Bool.or_false, Bool.xor_false]
theorem rd_n {ts : Nat → Int32} {j sh lo R c : Nat} {g : Nat → Int32} (h : ((ts j).toInt ≠ 47 ∧ (c = lo ∨ ((ts j).toInt ≠ 46 ∧ (ts j).toInt ≠ 35))) ∨ ((ts j).toInt = 47 ∧ (R = 15 ∨ c < sh))) : rd1 (ts j) (sh, lo, R, c, g) = none := by
  unfold rd1
  rcases h with ⟨h1, h2⟩ | ⟨h1, h2⟩
  · rw [if_neg h1]
    exact if_pos (by simp only; omega)
  · rw [if_pos h1]
    exact if_pos (by simp only; omega)
theorem rd_f {ts : Nat → Int32} {tn j sh lo R c : Nat} {g : Nat → Int32} (h : rdS ts j = some (sh, lo, R, c, g)) (hc : c < sh) (hx : tn ≤ j ∨ lo ≤ c ∨ ((ts j).toInt ≠ 46 ∧ (ts j).toInt ≠ 35)) (hj : j ≤ tn) : rdR ts tn = some j := by
  have hv : sh ≤ lo := (rdV_all h).1.1
  rcases Nat.lt_or_ge j tn with k | k
  · exact rdR_A k h (rd_n (by omega))
  · obtain rfl : j = tn := by omega
    exact rdR_B h hc
