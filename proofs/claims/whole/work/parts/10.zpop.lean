/-! counting bits, byte by byte -/
theorem popR_split (m : Nat) : ∀ (n k : Nat), popR (n + m) k = popR n (k % 2 ^ n) + popR m (k / 2 ^ n)
  | 0, k => by simp [popR]
  | n + 1, k => by
    rw [show n + 1 + m = (n + m) + 1 from by omega, popR, popR, popR_split m n (k / 2), Nat.add_assoc]
    have h1 : k % 2 ^ (n + 1) % 2 = k % 2 := Nat.mod_mod_of_dvd k (Nat.pow_dvd_pow 2 (by omega : 1 ≤ n + 1))
    have h2 : k % 2 ^ (n + 1) / 2 = k / 2 % 2 ^ n := by rw [Nat.pow_succ, Nat.mul_comm, Nat.mod_mul_right_div_self]
    have h3 : k / 2 ^ (n + 1) = k / 2 / 2 ^ n := by rw [Nat.pow_succ, Nat.mul_comm, Nat.div_div_eq_div_mul]
    rw [h1, h2, h3]
theorem pop_split {h l : Nat} (hl : l < 256) : pop (256 * h + l) = popR 8 l + popR 8 h := by
  have e := popR_split 8 8 (256 * h + l)
  rw [show (256 * h + l) % 2 ^ 8 = l from by omega, show (256 * h + l) / 2 ^ 8 = h from by omega] at e
  exact e
theorem land_split {a b c d : Nat} (hb : b < 256) (hd : d < 256) : (256 * a + b) &&& (256 * c + d) = 256 * (a &&& c) + (b &&& d) := by
  apply Nat.eq_of_testBit_eq
  intro i
  have h1 := Nat.testBit_two_pow_mul_add a (i := 8) hb i
  have h2 := Nat.testBit_two_pow_mul_add c (i := 8) hd i
  have h3 := Nat.testBit_two_pow_mul_add (a &&& c) (i := 8) (b := b &&& d) (Nat.and_lt_two_pow b hd) i
  rw [Nat.testBit_and, show (256 * a + b) = 2 ^ 8 * a + b from rfl, show (256 * c + d) = 2 ^ 8 * c + d from rfl, show 256 * (a &&& c) + (b &&& d) = 2 ^ 8 * (a &&& c) + (b &&& d) from rfl, h1, h2, h3]
  split
  · rw [Nat.testBit_and]
  · rw [Nat.testBit_and]
def bcF (k : Nat) : Nat :=
  let a := k - (k / 2 &&& 1431655765)
  let b := (a &&& 858993459) + (a / 4 &&& 858993459)
  let c := (b + b / 16) &&& 252645135
  let d := c + c / 256
  let e := d + d / 65536
  e &&& 63
theorem by1 : ∀ l, l < 256 → ∀ e, e < 2 → (128 * e + l / 2) &&& 85 = l / 2 &&& 85 := by decide +kernel
theorem by2 : ∀ h, h < 256 → h / 2 &&& 5592405 = h / 2 &&& 85 := by decide +kernel
theorem by3 : ∀ l, l < 256 → l / 2 &&& 85 ≤ l := by decide +kernel
theorem by4 : ∀ l, l < 256 → ∀ e, e < 4 → (64 * e + l / 4) &&& 51 = l / 4 &&& 51 := by decide +kernel
theorem by5 : ∀ h, h < 256 → h &&& 3355443 = h &&& 51 ∧ h / 4 &&& 3355443 = h / 4 &&& 51 := by decide +kernel
theorem by6 : ∀ l, l < 256 → (l &&& 51) + (l / 4 &&& 51) ≤ 102 := by decide +kernel
theorem by6b : ∀ l, l < 256 → ((l - (l / 2 &&& 85)) &&& 51) + ((l - (l / 2 &&& 85)) / 4 &&& 51) ≤ 68 := by decide +kernel
theorem by7 : ∀ h, h < 256 → h &&& 986895 = h &&& 15 := by decide +kernel
def bbF (l : Nat) : Nat := ((l - (l / 2 &&& 85)) &&& 51) + ((l - (l / 2 &&& 85)) / 4 &&& 51)
theorem by8 : ∀ l, l < 256 → (bbF l + bbF l / 16) % 16 = popR 8 l := by decide +kernel
theorem by8b : ∀ l, l < 256 → bbF l % 16 ≤ 4 := by decide +kernel
theorem by9 : ∀ l, l < 256 → popR 8 l ≤ 8 := by decide +kernel
theorem by10 : ∀ l, l < 256 → 0 < l → popR 8 (l &&& (l - 1)) + 1 = popR 8 l ∧ l &&& (l - 1) < 256 := by decide +kernel
theorem bcF_pop {k : Nat} (hk : k < 65536) : bcF k = pop k := by
  obtain ⟨h, l, hh, hl, rfl⟩ : ∃ h l, h < 256 ∧ l < 256 ∧ k = 256 * h + l := ⟨k / 256, k % 256, by omega, by omega, by omega⟩
  rw [pop_split hl]
  have a1 : (256 * h + l) / 2 &&& 1431655765 = 256 * (h / 2 &&& 85) + (l / 2 &&& 85) := by
    rw [show (256 * h + l) / 2 = 256 * (h / 2) + (128 * (h % 2) + l / 2) from by omega, show 1431655765 = 256 * 5592405 + 85 from rfl, land_split (by omega) (by omega), by1 l hl _ (by omega), by2 h hh]
  have l1 := by3 l hl
  have l2 := by3 h hh
  have a2 : (256 * h + l) - ((256 * h + l) / 2 &&& 1431655765) = 256 * (h - (h / 2 &&& 85)) + (l - (l / 2 &&& 85)) := by rw [a1]; omega
  unfold bcF
  simp only [a2]
  have c1 := by8 l hl
  have c2 := by8 h hh
  have f2 := by8b h hh
  have e1 := by6b l hl
  have e2 := by6b h hh
  have n1 := by9 l hl
  have n2 := by9 h hh
  unfold bbF at c1 c2 f2
  generalize hA : h - (h / 2 &&& 85) = A at c2 e2 f2 ⊢
  generalize hB : l - (l / 2 &&& 85) = B at c1 e1 ⊢
  have hA2 : A < 256 := by omega
  have hB2 : B < 256 := by omega
  have b1 : (256 * A + B) &&& 858993459 = 256 * (A &&& 51) + (B &&& 51) := by
    rw [show 858993459 = 256 * 3355443 + 51 from rfl, land_split hB2 (by omega), (by5 A hA2).1]
  have b2 : (256 * A + B) / 4 &&& 858993459 = 256 * (A / 4 &&& 51) + (B / 4 &&& 51) := by
    rw [show (256 * A + B) / 4 = 256 * (A / 4) + (64 * (A % 4) + B / 4) from by omega, show 858993459 = 256 * 3355443 + 51 from rfl, land_split (by omega) (by omega), by4 B hB2 _ (by omega), (by5 A hA2).2]
  rw [b1, b2]
  generalize hP : A &&& 51 = P1 at *
  generalize hP2 : A / 4 &&& 51 = P2 at *
  generalize hQ : B &&& 51 = Q1 at *
  generalize hQ2 : B / 4 &&& 51 = Q2 at *
  have c3 : (256 * P1 + Q1 + (256 * P2 + Q2) + (256 * P1 + Q1 + (256 * P2 + Q2)) / 16) &&& 252645135 = 256 * ((P1 + P2 + (P1 + P2) / 16) % 16) + (Q1 + Q2 + (Q1 + Q2) / 16) % 16 := by
    rw [show 256 * P1 + Q1 + (256 * P2 + Q2) + (256 * P1 + Q1 + (256 * P2 + Q2)) / 16 = 256 * (P1 + P2 + (P1 + P2) / 16) + (Q1 + Q2 + (Q1 + Q2) / 16 + 16 * ((P1 + P2) % 16)) from by omega, show 252645135 = 256 * 986895 + 15 from rfl, land_split (by omega) (by omega), by7 _ (by omega)]
    have m1 := Nat.and_two_pow_sub_one_eq_mod (P1 + P2 + (P1 + P2) / 16) 4
    have m2 := Nat.and_two_pow_sub_one_eq_mod (Q1 + Q2 + (Q1 + Q2) / 16 + 16 * ((P1 + P2) % 16)) 4
    rw [show (15 : Nat) = 2 ^ 4 - 1 from rfl, m1, m2]
    omega
  rw [c3, c1, c2]
  generalize popR 8 h = u at *
  generalize popR 8 l = v at *
  have m3 := Nat.and_two_pow_sub_one_eq_mod (256 * u + v + (256 * u + v) / 256 + (256 * u + v + (256 * u + v) / 256) / 65536) 6
  rw [show (63 : Nat) = 2 ^ 6 - 1 from rfl, m3]
  have k1 : (256 * u + v) / 256 = u := by omega
  rw [k1]
  have k2 : (256 * u + v + u) / 65536 = 0 := by omega
  rw [k2]
  omega
theorem pop_drop {k : Nat} (hk : k < 65536) (h0 : 0 < k) : pop (k &&& (k - 1)) + 1 = pop k := by
  obtain ⟨h, l, hh, hl, rfl⟩ : ∃ h l, h < 256 ∧ l < 256 ∧ k = 256 * h + l := ⟨k / 256, k % 256, by omega, by omega, by omega⟩
  rcases Nat.eq_zero_or_pos l with rfl | hl0
  · have e := by10 h hh (by omega)
    rw [show 256 * h + 0 - 1 = 256 * (h - 1) + 255 from by omega, land_split (by omega) (by omega), show (0 : Nat) &&& 255 = 0 from rfl, pop_split (by omega), pop_split (by omega)]
    have := e.1
    omega
  · have e := by10 l hl hl0
    rw [show 256 * h + l - 1 = 256 * h + (l - 1) from by omega, land_split hl (by omega), pop_split e.2, pop_split hl, Nat.and_self]
    have := e.1
    omega
theorem rN_nI {k : Nat} (h : k < 4294967296) : rN (nI k) = k := pk_tn (by omega)
theorem nI_rN (x : Int32) : nI (rN x) = x := by
  apply Int32.toBitVec_inj.mp
  apply BitVec.eq_of_toNat_eq
  have h : (nI (rN x)).toBitVec.toNat = rN x := pk_tn x.toBitVec.isLt
  rw [h]
  rfl
def bcI (x : Int32) : Int32 :=
  let a := x - (((x).toUInt32 >>> ((nI 1).toUInt32 &&& Int32.toUInt32 31)).toInt32 &&& nI 1431655765)
  let b := (a &&& nI 858993459) + ((a.toUInt32 >>> ((nI 2).toUInt32 &&& Int32.toUInt32 31)).toInt32 &&& nI 858993459)
  let c := (b + (b.toUInt32 >>> ((nI 4).toUInt32 &&& Int32.toUInt32 31)).toInt32) &&& nI 252645135
  let d := c + (c.toUInt32 >>> ((nI 8).toUInt32 &&& Int32.toUInt32 31)).toInt32
  let e := d + (d.toUInt32 >>> ((nI 16).toUInt32 &&& Int32.toUInt32 31)).toInt32
  e &&& nI 63
theorem bcI_pop {x : Int32} (hx : rN x < 65536) : bcI x = nI (pop (rN x)) := by
  rw [← bcF_pop hx]
  have h0 := nI_rN x
  generalize rN x = k at *
  subst h0
  unfold bcI bcF
  dsimp only
  have q1 : ∀ a b : Nat, a &&& b ≤ a := fun a b => Nat.and_le_left
  have q2 : ∀ a b : Nat, a &&& b ≤ b := fun a b => Nat.and_le_right
  rw [pk_ushrN (by omega) _ 1 (by decide), nx_and, pk_sub (Nat.le_trans (q1 _ _) (by omega))]
  generalize hA : k - (k / 2 ^ 1 &&& 1431655765) = A
  have hA2 : A < 65536 := by omega
  rw [pk_ushrN (by omega) _ 2 (by decide), nx_and, nx_and, nI_add]
  generalize hB : (A &&& 858993459) + (A / 2 ^ 2 &&& 858993459) = B
  have hB2 : B < 131072 := by
    have := q1 A 858993459
    have := q1 (A / 2 ^ 2) 858993459
    omega
  rw [pk_ushrN (by omega) _ 4 (by decide), nI_add, nx_and]
  generalize hC : (B + B / 2 ^ 4) &&& 252645135 = C
  have hC2 : C < 262144 := by
    have := q1 (B + B / 2 ^ 4) 252645135
    omega
  rw [pk_ushrN (by omega) _ 8 (by decide), nI_add]
  generalize hD : C + C / 2 ^ 8 = D
  have hD2 : D < 524288 := by omega
  rw [pk_ushrN (by omega) _ 16 (by decide), nI_add, nx_and]
