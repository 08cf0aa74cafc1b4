/-! THE WORDS OF THE STATE: what class and reference both do, as functions -/
def ph (t : Int32) : Nat := (t.toInt % 2).toNat
theorem ph_lt (t : Int32) : ph t < 2 := by unfold ph; omega
theorem toNat_toInt (x : Int32) : x.toInt = if 2 * x.toBitVec.toNat < 4294967296 then (x.toBitVec.toNat : Int) else (x.toBitVec.toNat : Int) - 4294967296 := BitVec.toInt_eq_toNat_cond x.toBitVec
theorem toNat_mod (x : Int32) : x.toBitVec.toNat % 2 = (x.toInt % 2).toNat := by
  have h := toNat_toInt x
  split at h <;> omega
theorem and1 (x : Int32) : x &&& nI 1 = nI (x.toInt % 2).toNat := by
  have h := pk_and x (m := nI 1) 1 (by decide)
  rw [h, ← toNat_mod]
theorem and1ph (x : Int32) : x &&& nI 1 = nI (ph x) := and1 x
theorem bI_t {P : Prop} [Decidable P] (h : P) : Value.int (nI 1) = Value.int (bI (decide P)) := by rw [decide_eq_true h]; rfl
theorem bI_f {P : Prop} [Decidable P] (h : ¬ P) : Value.int (nI 0) = Value.int (bI (decide P)) := by rw [decide_eq_false h]; rfl
theorem bI_tt {b : Bool} (h : b = true) : Value.int (nI 1) = Value.int (bI b) := by rw [h]; rfl
theorem bI_ff {b : Bool} (h : b = false) : Value.int (nI 0) = Value.int (bI b) := by rw [h]; rfl
def sideB (w : Int32) : Bool := decide (2 ≤ w.toInt ∧ w.toInt ≤ 16 ∧ w.toInt % 2 = 0)
def rngB (x : Int32) (a b : Int) : Bool := decide (a ≤ x.toInt ∧ x.toInt ≤ b)
def inG (W H : Nat) (x y : Int32) : Bool := decide (0 ≤ x.toInt ∧ x.toInt < W ∧ 0 ≤ y.toInt ∧ y.toInt < H)
theorem inG_in {W H x y : Nat} (hx : x < W) (hy : y < H) (hW : W ≤ 16) (hH : H ≤ 16) : inG W H (nI x) (nI y) = true := by
  unfold inG
  rw [nI_toInt (by omega), nI_toInt (by omega)]
  exact decide_eq_true (by omega)
theorem inG_nat {W H x y : Nat} (hx : x < 2147483648) (hy : y < 2147483648) : inG W H (nI x) (nI y) = decide (x < W ∧ y < H) := by
  unfold inG
  rw [nI_toInt hx, nI_toInt hy]
  exact decide_eq_decide.mpr (by omega)
theorem inG_t {W H : Nat} {x y : Int32} (h : inG W H x y = true) (hW : W ≤ 16) (hH : H ≤ 16) : ∃ X Y : Nat, X < W ∧ Y < H ∧ x = nI X ∧ y = nI Y := by
  have h := of_decide_eq_true h
  refine ⟨x.toInt.toNat, y.toInt.toNat, by omega, by omega, ?_, ?_⟩
  · apply Int32.toInt_inj.mp
    rw [nI_toInt (by omega)]
    omega
  · apply Int32.toInt_inj.mp
    rw [nI_toInt (by omega)]
    omega
/-- a place at most one length beyond the end, closed round -/
def wr (k n : Nat) : Nat := if n ≤ k then k - n else k
theorem wr_lt {k n : Nat} (h : k < 2 * n) : wr k n < n := by unfold wr; split <;> omega
def crI (z : Int) (n : Nat) : Nat := if z < 0 then (z + n).toNat else if (n : Int) ≤ z then (z - n).toNat else z.toNat
/-- a cell's bit, and the grid with that cell the other one -/
def bx (x : Nat) : Int32 := nI 1 <<< (nI x &&& 31)
def flp (W H : Nat) (f : Nat → Int32) (x y : Nat) : Nat → Int32 := if x < W ∧ y < H then upd f y (f y ^^^ bx x) else f
def msk (W : Nat) : Int32 := (nI 1 <<< (nI W &&& 31)) - nI 1
theorem bt_raw (r : Int32) {x : Nat} (hx : x < 32) : (r >>> (nI x &&& 31)) &&& nI 1 = bI (bt r x) := by
  apply b_ext
  intro i hi
  have h1 : ∀ i, i < 32 → bt (nI 1) i = decide (i = 0) := by decide +kernel
  have h2 : ∀ (b : Bool) (i : Nat), i < 32 → bt (bI b) i = (decide (i = 0) && b) := by
    intro b
    cases b
    · intro i hi; simp only [Bool.and_false]; exact b_0 i
    · intro i hi; simp only [Bool.and_true]; exact h1 i hi
  rw [b_and, h1 i hi, h2 _ i hi, b_sshr x hx r hi]
  by_cases h0 : i = 0
  · subst h0
    simp only [Nat.add_zero, if_pos hx, decide_true, Bool.and_true, Bool.true_and]
  · simp [h0]
theorem upd_fill {f g : Nat → Int32} {k : Nat} (hg : ∀ z, z < k → g z = f z) : ∀ z, z < k + 1 → upd g k (f k) z = f z := by
  intro z hz
  unfold upd
  split
  · rename_i e; rw [e]
  · exact hg z (by omega)
