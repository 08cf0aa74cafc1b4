/-! THE WORDS OF THE STATE: what class and reference both do, as functions -/
def ph (t : Int32) : Nat := (t.toInt % 2).toNat
theorem ph_lt (t : Int32) : ph t < 2 := by unfold ph; omega
theorem toNat_toInt (x : Int32) : x.toInt = if 2 * x.toBitVec.toNat < 4294967296 then (x.toBitVec.toNat : Int) else (x.toBitVec.toNat : Int) - 4294967296 := BitVec.toInt_eq_toNat_cond x.toBitVec
theorem toNat_mod (x : Int32) : x.toBitVec.toNat % 2 = (x.toInt % 2).toNat := by
  have h := toNat_toInt x
  split at h <;> omega
theorem and1 (x : Int32) : x &&& nI 1 = nI (x.toInt % 2).toNat := by
  have h := pk_and x (m := nI 1) 1 (by decide)
  rw [h, ← toNat_mod]
theorem and1ph (x : Int32) : x &&& nI 1 = nI (ph x) := and1 x
theorem bI_t {P : Prop} [Decidable P] (h : P) : Value.int (nI 1) = Value.int (bI (decide P)) := by rw [decide_eq_true h]; rfl
theorem bI_f {P : Prop} [Decidable P] (h : ¬ P) : Value.int (nI 0) = Value.int (bI (decide P)) := by rw [decide_eq_false h]; rfl
theorem bI_tt {b : Bool} (h : b = true) : Value.int (nI 1) = Value.int (bI b) := by rw [h]; rfl
theorem bI_ff {b : Bool} (h : b = false) : Value.int (nI 0) = Value.int (bI b) := by rw [h]; rfl
def sideB (w : Int32) : Bool := decide (2 ≤ w.toInt ∧ w.toInt ≤ 16 ∧ w.toInt % 2 = 0)
def rngB (x : Int32) (a b : Int) : Bool := decide (a ≤ x.toInt ∧ x.toInt ≤ b)
def inG (W H : Nat) (x y : Int32) : Bool := decide (0 ≤ x.toInt ∧ x.toInt < W ∧ 0 ≤ y.toInt ∧ y.toInt < H)
theorem inG_in {W H x y : Nat} (hx : x < W) (hy : y < H) (hW : W ≤ 16) (hH : H ≤ 16) : inG W H (nI x) (nI y) = true := by
  unfold inG
  rw [nI_toInt (by omega), nI_toInt (by omega)]
  exact decide_eq_true (by omega)
theorem inG_nat {W H x y : Nat} (hx : x < 2147483648) (hy : y < 2147483648) : inG W H (nI x) (nI y) = decide (x < W ∧ y < H) := by
  unfold inG
  rw [nI_toInt hx, nI_toInt hy]
  exact decide_eq_decide.mpr (by omega)
theorem inG_t {W H : Nat} {x y : Int32} (h : inG W H x y = true) (hW : W ≤ 16) (hH : H ≤ 16) : ∃ X Y : Nat, X < W ∧ Y < H ∧ x = nI X ∧ y = nI Y := by
  have h := of_decide_eq_true h
  refine ⟨x.toInt.toNat, y.toInt.toNat, by omega, by omega, ?_, ?_⟩
  · apply Int32.toInt_inj.mp
    rw [nI_toInt (by omega)]
    omega
  · apply Int32.toInt_inj.mp
    rw [nI_toInt (by omega)]
    omega
/-- a place at most one length beyond the end, closed round -/
def wr (k n : Nat) : Nat := if n ≤ k then k - n else k
theorem wr_lt {k n : Nat} (h : k < 2 * n) : wr k n < n := by unfold wr; split <;> omega
def crI (z : Int) (n : Nat) : Nat := if z < 0 then (z + n).toNat else if (n : Int) ≤ z then (z - n).toNat else z.toNat
/-- a cell's bit, and the grid with that cell the other one -/
def bx (x : Nat) : Int32 := nI 1 <<< (nI x &&& 31)
def flp (W H : Nat) (f : Nat → Int32) (x y : Nat) : Nat → Int32 := if x < W ∧ y < H then upd f y (f y ^^^ bx x) else f
def msk (W : Nat) : Int32 := (nI 1 <<< (nI W &&& 31)) - nI 1
theorem bt_raw (r : Int32) {x : Nat} (hx : x < 32) : (r >>> (nI x &&& 31)) &&& nI 1 = bI (bt r x) := by
  apply b_ext
  intro i hi
  have h1 : ∀ i, i < 32 → bt (nI 1) i = decide (i = 0) := by decide +kernel
  have h2 : ∀ (b : Bool) (i : Nat), i < 32 → bt (bI b) i = (decide (i = 0) && b) := by
    intro b
    cases b
    · intro i hi; simp only [Bool.and_false]; exact b_0 i
    · intro i hi; simp only [Bool.and_true]; exact h1 i hi
  rw [b_and, h1 i hi, h2 _ i hi, b_sshr x hx r hi]
  by_cases h0 : i = 0
  · subst h0
    simp only [Nat.add_zero, if_pos hx, decide_true, Bool.and_true, Bool.true_and]
  · simp [h0]
theorem upd_fill {f g : Nat → Int32} {k : Nat} (hg : ∀ z, z < k → g z = f z) : ∀ z, z < k + 1 → upd g k (f k) z = f z := by
  intro z hz
  unfold upd
  split
  · rename_i e; rw [e]
  · exact hg z (by omega)
/-! pairs of cells, blocks -/
def rN (x : Int32) : Nat := x.toBitVec.toNat
def prN (r : Int32) (x y : Nat) : Nat := (bt r x).toNat ||| (bt r y).toNat * 2
theorem prN_lt (r : Int32) (x y : Nat) : prN r x y < 4 := by unfold prN; cases bt r x <;> cases bt r y <;> decide
def stA (W H : Nat) (f : Nat → Int32) (x y : Nat) : Nat := prN (f y) x (wr (x + 1) W) ||| prN (f (wr (y + 1) H)) x (wr (x + 1) W) * 4
theorem stA_lt (W H : Nat) (f : Nat → Int32) (x y : Nat) : stA W H f x y < 16 := by
  unfold stA
  exact Nat.or_lt_two_pow (n := 4) (Nat.lt_of_lt_of_le (prN_lt _ _ _) (by decide)) (by have := prN_lt (f (wr (y + 1) H)) x (wr (x + 1) W); omega)
def wpr (r : Int32) (x y : Nat) (p : Int32) : Int32 := ((r &&& ((bx x ||| bx y) ^^^ (-1))) ||| ((p &&& nI 1) <<< (nI x &&& 31))) ||| (((p >>> (nI 1 &&& 31)) &&& nI 1) <<< (nI y &&& 31))
def ptA (W H : Nat) (f : Nat → Int32) (x y : Nat) (s : Int32) : Nat → Int32 :=
  let f1 := upd f y (wpr (f y) x (wr (x + 1) W) s)
  upd f1 (wr (y + 1) H) (wpr (f1 (wr (y + 1) H)) x (wr (x + 1) W) (s >>> (nI 2 &&& 31)))
def lfA (x p n : Nat) : Nat := crI ((x : Int) - ((x + p) % 2 : Nat)) n
theorem lfA_lt {x p n : Nat} (h : x < n) (hn : 2 ≤ n) : lfA x p n < n := by unfold lfA crI; split <;> (try split) <;> omega
theorem xor1 (x p : Nat) : (nI x ^^^ nI p) &&& nI 1 = nI ((x + p) % 2) := by
  rw [nx_xor, show nI (x ^^^ p) &&& nI 1 = nI ((x ^^^ p) &&& 1) from nx_and _ 1]
  congr 1
  rw [Nat.and_one_is_mod]
  have h := Nat.testBit_xor x p 0
  simp only [Nat.testBit_zero] at h
  rcases Nat.mod_two_eq_zero_or_one x with a | a <;> rcases Nat.mod_two_eq_zero_or_one p with b | b <;> rcases Nat.mod_two_eq_zero_or_one (x ^^^ p) with c | c <;> simp [a, b, c] at h <;> omega
def stp (W H : Nat) (by_ : Nat → Nat) (f : Nat → Int32) (x y : Nat) : Nat → Int32 := ptA W H f x y (nI (by_ (stA W H f x y)))
def tL (W H : Nat) (by_ : Nat → Nat) (y p : Nat) : Nat → (Nat → Int32) → (Nat → Int32)
  | 0, f => f
  | c + 1, f => stp W H by_ (tL W H by_ y p c f) (p + 2 * c) y
def tG (W H : Nat) (by_ : Nat → Nat) (p : Nat) : Nat → (Nat → Int32) → (Nat → Int32)
  | 0, f => f
  | c + 1, f => tL W H by_ (p + 2 * c) p (W / 2) (tG W H by_ p c f)
/-- all blocks of a phase become by the rule -/
def turn (W H : Nat) (by_ : Nat → Nat) (p : Nat) (f : Nat → Int32) : Nat → Int32 := tG W H by_ p (H / 2) f
def gF (W H : Nat) (by_ : Nat → Nat) (t : Int32) : Nat → (Nat → Int32) → (Nat → Int32)
  | 0, f => f
  | k + 1, f => turn W H by_ (ph (t + nI k)) (gF W H by_ t k f)
def gB (W H : Nat) (by_ : Nat → Nat) (t : Int32) : Nat → (Nat → Int32) → (Nat → Int32)
  | 0, f => f
  | k + 1, f => turn W H by_ (ph (t - nI (k + 1))) (gB W H by_ t k f)
def goF (W H : Nat) (p q : Nat → Nat) (t n : Int32) (f : Nat → Int32) : Nat → Int32 :=
  gB W H q (t + nI n.toInt.toNat) (-n.toInt).toNat (gF W H p t n.toInt.toNat f)
theorem add0 (t : Int32) : t = t + nI 0 := (Int32.add_zero t).symm
theorem sub0 (t : Int32) : t = t - nI 0 := (Int32.sub_zero t).symm
theorem addS (t : Int32) (i : Nat) : t + nI i + nI 1 = t + nI (i + 1) := by rw [Int32.add_assoc, nI_add]
theorem subS (t : Int32) (i : Nat) : t - nI i - nI 1 = t - nI (i + 1) := by
  rw [← nI_add, Int32.sub_eq_add_neg, Int32.sub_eq_add_neg, Int32.sub_eq_add_neg, Int32.neg_add, Int32.add_assoc, Int32.sub_eq_add_neg]
theorem negS {z : Int32} {j : Nat} (h : z.toInt = -(j : Int)) (hj : j < 1000) : (z + (-1)).toInt = -((j + 1 : Nat) : Int) := by
  have e : (-1 : Int32).toInt = -1 := by decide
  rw [fb_addI (by rw [e]; omega) (by rw [e]; omega), h, e]
  omega
theorem goT (t n : Int32) (hn : -200 ≤ n.toInt ∧ n.toInt ≤ 200) : t + nI n.toInt.toNat - nI (-n.toInt).toNat = t + n := by
  have e : n = nI n.toInt.toNat - nI (-n.toInt).toNat := by
    apply Int32.toInt_inj.mp
    rw [pk_sub_toInt (by omega) (by omega)]
    omega
  rw [Int32.sub_eq_add_neg, Int32.add_assoc, ← Int32.sub_eq_add_neg, ← e]
/-! all, any -/
def allB : Nat → (Nat → Bool) → Bool
  | 0, _ => true
  | n + 1, P => allB n P && P n
theorem allB_t {P : Nat → Bool} : ∀ {n : Nat}, (∀ z, z < n → P z = true) → allB n P = true
  | 0, _ => rfl
  | n + 1, h => by rw [allB, allB_t (fun z hz => h z (by omega)), h n (by omega)]; rfl
theorem allB_f {P : Nat → Bool} : ∀ {n z : Nat}, z < n → P z = false → allB n P = false
  | 0, z, h, _ => absurd h (Nat.not_lt_zero _)
  | n + 1, z, h, e => by
    rw [allB]
    rcases Nat.lt_or_ge z n with q | q
    · rw [allB_f q e]; rfl
    · rw [show n = z from by omega, e, Bool.and_false]
theorem allB_iff {P : Nat → Bool} {n : Nat} : allB n P = true ↔ ∀ z, z < n → P z = true := by
  constructor
  · intro h z hz
    cases e : P z with
    | true => rfl
    | false => rw [allB_f hz e] at h; cases h
  · exact allB_t
def anyB : Nat → (Nat → Bool) → Bool
  | 0, _ => false
  | n + 1, P => anyB n P || P n
def rot (W d : Nat) (r : Int32) : Int32 := ((r <<< (nI d &&& 31)) ||| (r >>> (nI (W - d) &&& 31))) &&& msk W
def shB (W H : Nat) (f f2 : Nat → Int32) (dx dy : Nat) : Bool := allB H (fun y => decide (f (wr (y + dy) H) = rot W dx (f2 y)))
/-! counts -/
def popR : Nat → Nat → Nat
  | 0, _ => 0
  | n + 1, k => k % 2 + popR n (k / 2)
/-- how many of the lowest 16 bits are 1 -/
def pop (k : Nat) : Nat := popR 16 k
def cnt (f : Nat → Int32) : Nat → Nat
  | 0 => 0
  | n + 1 => cnt f n + pop (rN (f n))
/-! rules -/
def wT : List (List Nat) := [[0, 1, 2, 3, 4, 5, 6, 7, 8, 9, 10, 11, 12, 13, 14, 15], [0, 2, 8, 10, 1, 3, 9, 11, 4, 6, 12, 14, 5, 7, 13, 15], [0, 4, 1, 5, 8, 12, 9, 13, 2, 6, 3, 7, 10, 14, 11, 15], [15, 14, 13, 12, 11, 10, 9, 8, 7, 6, 5, 4, 3, 2, 1, 0], [0, 8, 4, 3, 2, 5, 9, 7, 1, 6, 10, 11, 12, 13, 14, 15]]
def wI : List (List Nat) := [[0, 1, 2, 3, 4, 5, 6, 7, 8, 9, 10, 11, 12, 13, 14, 15], [0, 4, 1, 5, 8, 12, 9, 13, 2, 6, 3, 7, 10, 14, 11, 15], [0, 2, 8, 10, 1, 3, 9, 11, 4, 6, 12, 14, 5, 7, 13, 15], [15, 14, 13, 12, 11, 10, 9, 8, 7, 6, 5, 4, 3, 2, 1, 0], [0, 8, 4, 3, 2, 5, 9, 7, 1, 6, 10, 11, 12, 13, 14, 15]]
/-- what a state becomes by the rule of a word, and which becomes it -/
def wrd (w s : Nat) : Nat := (wT.getD w []).getD s 0
def wrdI (w s : Nat) : Nat := (wI.getD w []).getD s 0
theorem wrd_all : ∀ w, w < 5 → ∀ s, s < 16 → wrd w s < 16 ∧ wrdI w s < 16 ∧ wrdI w (wrd w s) = s ∧ wrd w (wrdI w s) = s := by decide +kernel
theorem wrd_inj {w s t : Nat} (hw : w < 5) (hs : s < 16) (ht : t < 16) (h : wrd w s = wrd w t) : s = t := by
  rw [← (wrd_all w hw s hs).2.2.1, h, (wrd_all w hw t ht).2.2.1]
def updN (p : Nat → Nat) (u j : Nat) : Nat → Nat := fun s => if s = u then j else p s
theorem updNI {p : Nat → Nat} {u j z : Nat} : upd (fun s => nI (p s)) u (nI j) z = nI (updN p u j z) := by unfold upd updN; split <;> rfl
theorem updN_lt {p g : Nat → Nat} {k : Nat} (h : ∀ s, s < k → p s = g s) : ∀ s, s < k + 1 → updN p k (g k) s = g s := by
  intro s hs
  unfold updN
  split
  · rename_i e; rw [e]
  · exact h s (by omega)
theorem updN_ge {p g : Nat → Nat} {k j : Nat} (h : ∀ s, k ≤ s → p s = g s) : ∀ s, k + 1 ≤ s → updN p k j s = g s := by
  intro s hs
  unfold updN
  rw [if_neg (by omega)]
  exact h s (by omega)
theorem inv_next {q2 : Nat → Int32} {w k : Nat} (hw : w < 5) (hk : k < 16) (h : ∀ s, s < k → q2 (wrd w s) = nI s) : ∀ s, s < k + 1 → upd q2 (wrd w k) (nI k) (wrd w s) = nI s := by
  intro s hs
  unfold upd
  split
  · rename_i e; rw [wrd_inj hw (by omega) hk e]
  · rename_i e
    rcases Nat.lt_or_ge s k with q | q
    · exact h s q
    · exact absurd (by rw [show s = k from by omega]) e
theorem inv_last {q2 : Nat → Int32} {w : Nat} (hw : w < 5) (h : ∀ s, s < 16 → q2 (wrd w s) = nI s) {z : Nat} (hz : z < 16) : q2 z = nI (wrdI w z) := by
  have h1 := wrd_all w hw z hz
  have h2 := h (wrdI w z) h1.2.1
  rw [h1.2.2.2] at h2
  exact h2
def wgt (s : Nat) (a b c d : Int32) : Int32 := nI (s % 2) * a + nI (s / 2 % 2) * b + nI (s / 4 % 2) * c + nI (s / 8 % 2) * d
def keptB (a b c d : Int32) (p : Nat → Nat) : Bool := allB 16 (fun s => decide (wgt s a b c d = wgt (p s) a b c d ∧ wgt s d c b a = wgt (p s) d c b a))
def otherB (w : Nat) (p : Nat → Nat) : Bool := anyB 16 (fun s => decide (wrd w s ≠ p s))
/-! tables of three columns -/
def tab (c0 c1 c2 : Nat → Int32) (k : Nat) : Int32 := if k % 3 = 0 then c0 (k / 3) else if k % 3 = 1 then c1 (k / 3) else c2 (k / 3)
theorem tab_0 (c0 c1 c2 : Nat → Int32) (i : Nat) : tab c0 c1 c2 (3 * i) = c0 i := by unfold tab; rw [if_pos (by omega), show 3 * i / 3 = i from by omega]
theorem tab_1 (c0 c1 c2 : Nat → Int32) (i : Nat) : tab c0 c1 c2 (3 * i + 1) = c1 i := by unfold tab; rw [if_neg (by omega), if_pos (by omega), show (3 * i + 1) / 3 = i from by omega]
theorem tab_2 (c0 c1 c2 : Nat → Int32) (i : Nat) : tab c0 c1 c2 (3 * i + 2) = c2 i := by unfold tab; rw [if_neg (by omega), if_neg (by omega), show (3 * i + 2) / 3 = i from by omega]
theorem tab_k {c0 c1 c2 : Nat → Int32} (P : Nat → Int32 → Prop) (h0 : ∀ i, P (3 * i) (c0 i)) (h1 : ∀ i, P (3 * i + 1) (c1 i)) (h2 : ∀ i, P (3 * i + 2) (c2 i)) (k : Nat) : P k (tab c0 c1 c2 k) := by
  rcases (show k % 3 = 0 ∨ k % 3 = 1 ∨ k % 3 = 2 from by omega) with e | e | e
  · have : k = 3 * (k / 3) := by omega
    rw [this, tab_0]; exact h0 _
  · have : k = 3 * (k / 3) + 1 := by omega
    rw [this, tab_1]; exact h1 _
  · have : k = 3 * (k / 3) + 2 := by omega
    rw [this, tab_2]; exact h2 _
theorem tab_add {c0 c1 c2 : Nat → Int32} {m : Nat} {x y w : Int32} (z : Nat) : upd (upd (upd (tab c0 c1 c2) (3 * m) x) (3 * m + 1) y) (3 * m + 2) w z = tab (upd c0 m x) (upd c1 m y) (upd c2 m w) z := by
  refine tab_k (c0 := upd c0 m x) (c1 := upd c1 m y) (c2 := upd c2 m w) (fun k v => upd (upd (upd (tab c0 c1 c2) (3 * m) x) (3 * m + 1) y) (3 * m + 2) w k = v) ?_ ?_ ?_ z
  · intro i
    unfold upd
    rw [if_neg (by omega), if_neg (by omega), tab_0]
    by_cases e : i = m
    · rw [if_pos (by omega), if_pos e]
    · rw [if_neg (by omega), if_neg e]
  · intro i
    unfold upd
    rw [if_neg (by omega), tab_1]
    by_cases e : i = m
    · rw [if_pos (by omega), if_pos e]
    · rw [if_neg (by omega), if_neg (by omega), if_neg e]
  · intro i
    unfold upd
    rw [tab_2]
    by_cases e : i = m
    · rw [if_pos (by omega), if_pos e]
    · rw [if_neg (by omega), if_neg (by omega), if_neg (by omega), if_neg e]
def shf (cap : Nat) (c : Nat → Int32) : Nat → Int32 := fun j => if j + 1 < cap then c (j + 1) else c j
theorem tab_up (c0 c1 c2 : Nat → Int32) (k : Nat) : tab c0 c1 c2 (k + 3) = tab (fun i => c0 (i + 1)) (fun i => c1 (i + 1)) (fun i => c2 (i + 1)) k := by
  unfold tab
  rw [show (k + 3) % 3 = k % 3 from by omega, show (k + 3) / 3 = k / 3 + 1 from by omega]
theorem tab_shf {c0 c1 c2 g2 : Nat → Int32} {cap : Nat} (h1 : ∀ z, z + 3 < 3 * cap → g2 z = tab c0 c1 c2 (z + 3)) (h2 : ∀ z, 3 * cap ≤ z + 3 → g2 z = tab c0 c1 c2 z) (z : Nat) : g2 z = tab (shf cap c0) (shf cap c1) (shf cap c2) z := by
  rcases Nat.lt_or_ge (z + 3) (3 * cap) with q | q
  · have key : ∀ c : Nat → Int32, shf cap c (z / 3) = c (z / 3 + 1) := fun c => by unfold shf; rw [if_pos (by omega)]
    rw [h1 z q, tab_up]
    unfold tab
    dsimp only
    rw [key c0, key c1, key c2]
  · have key : ∀ c : Nat → Int32, shf cap c (z / 3) = c (z / 3) := fun c => by unfold shf; rw [if_neg (by omega)]
    rw [h2 z q]
    unfold tab
    rw [key c0, key c1, key c2]
