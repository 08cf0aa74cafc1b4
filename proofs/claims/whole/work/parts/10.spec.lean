/-! THE WORDS OF THE STATE: what class and reference both do, as functions -/
def ph (t : Int32) : Nat := (t.toInt % 2).toNat
theorem ph_lt (t : Int32) : ph t < 2 := by unfold ph; omega
theorem toNat_toInt (x : Int32) : x.toInt = if 2 * x.toBitVec.toNat < 4294967296 then (x.toBitVec.toNat : Int) else (x.toBitVec.toNat : Int) - 4294967296 := BitVec.toInt_eq_toNat_cond x.toBitVec
theorem toNat_mod (x : Int32) : x.toBitVec.toNat % 2 = (x.toInt % 2).toNat := by
  have h := toNat_toInt x
  split at h <;> omega
theorem and1 (x : Int32) : x &&& nI 1 = nI (x.toInt % 2).toNat := by
  have h := pk_and x (m := nI 1) 1 (by decide)
  rw [h, ← toNat_mod]
theorem and1ph (x : Int32) : x &&& nI 1 = nI (ph x) := and1 x
theorem bI_t {P : Prop} [Decidable P] (h : P) : Value.int (nI 1) = Value.int (bI (decide P)) := by rw [decide_eq_true h]; rfl
theorem bI_f {P : Prop} [Decidable P] (h : ¬ P) : Value.int (nI 0) = Value.int (bI (decide P)) := by rw [decide_eq_false h]; rfl
theorem bI_tt {b : Bool} (h : b = true) : Value.int (nI 1) = Value.int (bI b) := by rw [h]; rfl
theorem bI_ff {b : Bool} (h : b = false) : Value.int (nI 0) = Value.int (bI b) := by rw [h]; rfl
def sideB (w : Int32) : Bool := decide (2 ≤ w.toInt ∧ w.toInt ≤ 16 ∧ w.toInt % 2 = 0)
def rngB (x : Int32) (a b : Int) : Bool := decide (a ≤ x.toInt ∧ x.toInt ≤ b)
def inG (W H : Nat) (x y : Int32) : Bool := decide (0 ≤ x.toInt ∧ x.toInt < W ∧ 0 ≤ y.toInt ∧ y.toInt < H)
theorem inG_in {W H x y : Nat} (hx : x < W) (hy : y < H) (hW : W ≤ 16) (hH : H ≤ 16) : inG W H (nI x) (nI y) = true := by
  unfold inG
  rw [nI_toInt (by omega), nI_toInt (by omega)]
  exact decide_eq_true (by omega)
theorem inG_nat {W H x y : Nat} (hx : x < 2147483648) (hy : y < 2147483648) : inG W H (nI x) (nI y) = decide (x < W ∧ y < H) := by
  unfold inG
  rw [nI_toInt hx, nI_toInt hy]
  exact decide_eq_decide.mpr (by omega)
theorem inG_t {W H : Nat} {x y : Int32} (h : inG W H x y = true) (hW : W ≤ 16) (hH : H ≤ 16) : ∃ X Y : Nat, X < W ∧ Y < H ∧ x = nI X ∧ y = nI Y := by
  have h := of_decide_eq_true h
  refine ⟨x.toInt.toNat, y.toInt.toNat, by omega, by omega, ?_, ?_⟩
  · apply Int32.toInt_inj.mp
    rw [nI_toInt (by omega)]
    omega
  · apply Int32.toInt_inj.mp
    rw [nI_toInt (by omega)]
    omega
/-- a place at most one length beyond the end, closed round -/
def wr (k n : Nat) : Nat := if n ≤ k then k - n else k
theorem wr_lt {k n : Nat} (h : k < 2 * n) : wr k n < n := by unfold wr; split <;> omega
def crI (z : Int) (n : Nat) : Nat := if z < 0 then (z + n).toNat else if (n : Int) ≤ z then (z - n).toNat else z.toNat
/-- a cell's bit, and the grid with that cell the other one -/
def bx (x : Nat) : Int32 := nI 1 <<< (nI x &&& 31)
def flp (W H : Nat) (f : Nat → Int32) (x y : Nat) : Nat → Int32 := if x < W ∧ y < H then upd f y (f y ^^^ bx x) else f
def msk (W : Nat) : Int32 := (nI 1 <<< (nI W &&& 31)) - nI 1
theorem bt_raw (r : Int32) {x : Nat} (hx : x < 32) : (r >>> (nI x &&& 31)) &&& nI 1 = bI (bt r x) := by
  apply b_ext
  intro i hi
  have h1 : ∀ i, i < 32 → bt (nI 1) i = decide (i = 0) := by decide +kernel
  have h2 : ∀ (b : Bool) (i : Nat), i < 32 → bt (bI b) i = (decide (i = 0) && b) := by
    intro b
    cases b
    · intro i hi; simp only [Bool.and_false]; exact b_0 i
    · intro i hi; simp only [Bool.and_true]; exact h1 i hi
  rw [b_and, h1 i hi, h2 _ i hi, b_sshr x hx r hi]
  by_cases h0 : i = 0
  · subst h0
    simp only [Nat.add_zero, if_pos hx, decide_true, Bool.and_true, Bool.true_and]
  · simp [h0]
theorem upd_fill {f g : Nat → Int32} {k : Nat} (hg : ∀ z, z < k → g z = f z) : ∀ z, z < k + 1 → upd g k (f k) z = f z := by
  intro z hz
  unfold upd
  split
  · rename_i e; rw [e]
  · exact hg z (by omega)
/-! pairs of cells, blocks -/
def rN (x : Int32) : Nat := x.toBitVec.toNat
def prN (r : Int32) (x y : Nat) : Nat := (bt r x).toNat ||| (bt r y).toNat * 2
theorem prN_lt (r : Int32) (x y : Nat) : prN r x y < 4 := by unfold prN; cases bt r x <;> cases bt r y <;> decide
def stA (W H : Nat) (f : Nat → Int32) (x y : Nat) : Nat := prN (f y) x (wr (x + 1) W) ||| prN (f (wr (y + 1) H)) x (wr (x + 1) W) * 4
theorem stA_lt (W H : Nat) (f : Nat → Int32) (x y : Nat) : stA W H f x y < 16 := by
  unfold stA
  exact Nat.or_lt_two_pow (n := 4) (Nat.lt_of_lt_of_le (prN_lt _ _ _) (by decide)) (by have := prN_lt (f (wr (y + 1) H)) x (wr (x + 1) W); omega)
def wpr (r : Int32) (x y : Nat) (p : Int32) : Int32 := ((r &&& ((bx x ||| bx y) ^^^ (-1))) ||| ((p &&& nI 1) <<< (nI x &&& 31))) ||| (((p >>> (nI 1 &&& 31)) &&& nI 1) <<< (nI y &&& 31))
def ptA (W H : Nat) (f : Nat → Int32) (x y : Nat) (s : Int32) : Nat → Int32 :=
  let f1 := upd f y (wpr (f y) x (wr (x + 1) W) s)
  upd f1 (wr (y + 1) H) (wpr (f1 (wr (y + 1) H)) x (wr (x + 1) W) (s >>> (nI 2 &&& 31)))
def lfA (x p n : Nat) : Nat := crI ((x : Int) - ((x + p) % 2 : Nat)) n
theorem lfA_lt {x p n : Nat} (h : x < n) (hn : 2 ≤ n) : lfA x p n < n := by unfold lfA crI; split <;> (try split) <;> omega
theorem xor1 (x p : Nat) : (nI x ^^^ nI p) &&& nI 1 = nI ((x + p) % 2) := by
  rw [nx_xor, show nI (x ^^^ p) &&& nI 1 = nI ((x ^^^ p) &&& 1) from nx_and _ 1]
  congr 1
  rw [Nat.and_one_is_mod]
  have h := Nat.testBit_xor x p 0
  simp only [Nat.testBit_zero] at h
  rcases Nat.mod_two_eq_zero_or_one x with a | a <;> rcases Nat.mod_two_eq_zero_or_one p with b | b <;> rcases Nat.mod_two_eq_zero_or_one (x ^^^ p) with c | c <;> simp [a, b, c] at h <;> omega
def stp (W H : Nat) (by_ : Nat → Nat) (f : Nat → Int32) (x y : Nat) : Nat → Int32 := ptA W H f x y (nI (by_ (stA W H f x y)))
def tL (W H : Nat) (by_ : Nat → Nat) (y p : Nat) : Nat → (Nat → Int32) → (Nat → Int32)
  | 0, f => f
  | c + 1, f => stp W H by_ (tL W H by_ y p c f) (p + 2 * c) y
def tG (W H : Nat) (by_ : Nat → Nat) (p : Nat) : Nat → (Nat → Int32) → (Nat → Int32)
  | 0, f => f
  | c + 1, f => tL W H by_ (p + 2 * c) p (W / 2) (tG W H by_ p c f)
/-- all blocks of a phase become by the rule -/
def turn (W H : Nat) (by_ : Nat → Nat) (p : Nat) (f : Nat → Int32) : Nat → Int32 := tG W H by_ p (H / 2) f
def gF (W H : Nat) (by_ : Nat → Nat) (t : Int32) : Nat → (Nat → Int32) → (Nat → Int32)
  | 0, f => f
  | k + 1, f => turn W H by_ (ph (t + nI k)) (gF W H by_ t k f)
def gB (W H : Nat) (by_ : Nat → Nat) (t : Int32) : Nat → (Nat → Int32) → (Nat → Int32)
  | 0, f => f
  | k + 1, f => turn W H by_ (ph (t - nI (k + 1))) (gB W H by_ t k f)
def goF (W H : Nat) (p q : Nat → Nat) (t n : Int32) (f : Nat → Int32) : Nat → Int32 :=
  gB W H q (t + nI n.toInt.toNat) (-n.toInt).toNat (gF W H p t n.toInt.toNat f)
theorem add0 (t : Int32) : t = t + nI 0 := (Int32.add_zero t).symm
theorem sub0 (t : Int32) : t = t - nI 0 := (Int32.sub_zero t).symm
theorem addS (t : Int32) (i : Nat) : t + nI i + nI 1 = t + nI (i + 1) := by rw [Int32.add_assoc, nI_add]
theorem subS (t : Int32) (i : Nat) : t - nI i - nI 1 = t - nI (i + 1) := by
  rw [← nI_add, Int32.sub_eq_add_neg, Int32.sub_eq_add_neg, Int32.sub_eq_add_neg, Int32.neg_add, Int32.add_assoc, Int32.sub_eq_add_neg]
theorem negS {z : Int32} {j : Nat} (h : z.toInt = -(j : Int)) (hj : j < 1000) : (z + (-1)).toInt = -((j + 1 : Nat) : Int) := by
  have e : (-1 : Int32).toInt = -1 := by decide
  rw [fb_addI (by rw [e]; omega) (by rw [e]; omega), h, e]
  omega
theorem goT (t n : Int32) (hn : -200 ≤ n.toInt ∧ n.toInt ≤ 200) : t + nI n.toInt.toNat - nI (-n.toInt).toNat = t + n := by
  have e : n = nI n.toInt.toNat - nI (-n.toInt).toNat := by
    apply Int32.toInt_inj.mp
    rw [pk_sub_toInt (by omega) (by omega)]
    omega
  rw [Int32.sub_eq_add_neg, Int32.add_assoc, ← Int32.sub_eq_add_neg, ← e]
/-! all, any -/
def allB : Nat → (Nat → Bool) → Bool
  | 0, _ => true
  | n + 1, P => allB n P && P n
theorem allB_t {P : Nat → Bool} : ∀ {n : Nat}, (∀ z, z < n → P z = true) → allB n P = true
  | 0, _ => rfl
  | n + 1, h => by rw [allB, allB_t (fun z hz => h z (by omega)), h n (by omega)]; rfl
theorem allB_f {P : Nat → Bool} : ∀ {n z : Nat}, z < n → P z = false → allB n P = false
  | 0, z, h, _ => absurd h (Nat.not_lt_zero _)
  | n + 1, z, h, e => by
    rw [allB]
    rcases Nat.lt_or_ge z n with q | q
    · rw [allB_f q e]; rfl
    · rw [show n = z from by omega, e, Bool.and_false]
theorem allB_iff {P : Nat → Bool} {n : Nat} : allB n P = true ↔ ∀ z, z < n → P z = true := by
  constructor
  · intro h z hz
    cases e : P z with
    | true => rfl
    | false => rw [allB_f hz e] at h; cases h
  · exact allB_t
def anyB : Nat → (Nat → Bool) → Bool
  | 0, _ => false
  | n + 1, P => anyB n P || P n
def rot (W d : Nat) (r : Int32) : Int32 := ((r <<< (nI d &&& 31)) ||| (r >>> (nI (W - d) &&& 31))) &&& msk W
def shB (W H : Nat) (f f2 : Nat → Int32) (dx dy : Nat) : Bool := allB H (fun y => decide (f (wr (y + dy) H) = rot W dx (f2 y)))
/-! counts -/
def popR : Nat → Nat → Nat
  | 0, _ => 0
  | n + 1, k => k % 2 + popR n (k / 2)
/-- how many of the lowest 16 bits are 1 -/
def pop (k : Nat) : Nat := popR 16 k
def cnt (f : Nat → Int32) : Nat → Nat
  | 0 => 0
  | n + 1 => cnt f n + pop (rN (f n))
