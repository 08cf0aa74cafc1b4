/-! THE REFERENCE: its words -/
def inL (v a b : Int64) : Bool := decide (a.toInt ≤ v.toInt ∧ v.toInt ≤ b.toInt)
theorem toL (x : Int32) : x.toInt64.toInt = x.toInt := Int32.toInt_toInt64 x
theorem inL_of {v a b : Int64} {x : Int32} {A B : Int} (hv : v.toInt = x.toInt) (ha : a.toInt = A) (hb : b.toInt = B) : inL v a b = rngB x A B := by
  unfold inL rngB
  rw [hv, ha, hb]
theorem lg_lt {x y : Int64} (h : (lg_cmp x y).toInt < 0) : x.toInt < y.toInt := by
  unfold lg_cmp at h
  by_cases c : x > y
  · rw [if_pos c] at h; exact absurd h (by decide)
  · by_cases e : x = y
    · rw [if_neg c, if_pos e] at h; exact absurd h (by decide)
    · have c2 : ¬ y.toInt < x.toInt := fun q => c (Int64.lt_iff_toInt_lt.mpr q)
      have e2 : x.toInt ≠ y.toInt := fun q => e (Int64.toInt_inj.mp q)
      omega
theorem lg_nlt {x y : Int64} (h : 0 ≤ (lg_cmp x y).toInt) : y.toInt ≤ x.toInt := by
  unfold lg_cmp at h
  by_cases c : x > y
  · have := Int64.lt_iff_toInt_lt.mp c
    omega
  · by_cases e : x = y
    · rw [e]; exact Int.le_refl _
    · rw [if_neg c, if_neg e] at h; exact absurd h (by decide)
theorem lg_gt {x y : Int64} (h : 0 < (lg_cmp x y).toInt) : y.toInt < x.toInt := by
  unfold lg_cmp at h
  by_cases c : x > y
  · exact Int64.lt_iff_toInt_lt.mp c
  · by_cases e : x = y
    · rw [if_neg c, if_pos e] at h; exact absurd h (by decide)
    · rw [if_neg c, if_neg e] at h; exact absurd h (by decide)
theorem lg_ngt {x y : Int64} (h : (lg_cmp x y).toInt ≤ 0) : x.toInt ≤ y.toInt := by
  unfold lg_cmp at h
  by_cases c : x > y
  · rw [if_pos c] at h; exact absurd h (by decide)
  · have c2 : ¬ y.toInt < x.toInt := fun q => c (Int64.lt_iff_toInt_lt.mpr q)
    omega
theorem toI0 (l : Int32) : l.toInt = 0 ↔ rN l = 0 := by
  have h := toNat_toInt l
  have hb : l.toBitVec.toNat < 4294967296 := l.toBitVec.isLt
  unfold rN
  split at h <;> omega
theorem ker {l : Int32} (h0 : 0 < rN l) (h : rN l < 65536) : rN (l &&& (l - nI 1)) = rN l &&& (rN l - 1) := by
  have e := nI_rN l
  generalize rN l = k at *
  subst e
  rw [pk_sub (by omega), rN_and, rN_nI (by omega), rN_nI (by omega)]
theorem ker_lt {k : Nat} (h0 : 0 < k) : k &&& (k - 1) < k := Nat.lt_of_le_of_lt Nat.and_le_right (by omega)
theorem upd_fillv {F g : Nat → Int32} {k : Nat} {v : Int32} (hg : ∀ z, z < k → g z = F z) (hv : v = F k) : ∀ z, z < k + 1 → upd g k v z = F z := by
  intro z hz
  unfold upd
  split
  · rename_i e; rw [e, hv]
  · exact hg z (by omega)
theorem wv0 {k : Nat} (h : k < 16) : nI k = nI (wrd 0 k) := by
  have q : ∀ k, k < 16 → k = wrd 0 k := by decide +kernel
  rw [← q k h]
theorem wv2 {k : Nat} (h : k < 16) : nI (wrd 1 (wrd 1 (wrd 1 k))) = nI (wrd 2 k) := by
  have q : ∀ k, k < 16 → wrd 1 (wrd 1 (wrd 1 k)) = wrd 2 k := by decide +kernel
  rw [q k h]
theorem wv3 {k : Nat} (h : k < 16) : nI (15 - k) = nI (wrd 3 k) := by
  have q : ∀ k, k < 16 → 15 - k = wrd 3 k := by decide +kernel
  rw [q k h]
theorem bor1 (b : Bool) : bI b ||| nI 1 = bI true := by cases b <;> rfl
theorem bor0 (b : Bool) : bI b ||| nI 0 = bI b := by cases b <;> rfl
/-- q is the other way of p -/
def isP (p q : Nat → Nat) : Prop := ∀ s, s < 16 → p s < 16 ∧ q s < 16 ∧ q (p s) = s ∧ p (q s) = s
theorem isP.inj {p q : Nat → Nat} (h : isP p q) {s t : Nat} (hs : s < 16) (ht : t < 16) (e : p s = p t) : s = t := by
  rw [← (h s hs).2.2.1, e, (h t ht).2.2.1]
theorem isP.next {p q : Nat → Nat} (h : isP p q) {g : Nat → Int32} {k : Nat} (hk : k < 16) (hg : ∀ z, z < k → g (p z) = nI z) : ∀ z, z < k + 1 → upd g (p k) (nI k) (p z) = nI z := by
  intro z hz
  unfold upd
  split
  · rename_i e; rw [h.inj (by omega) hk e]
  · rename_i e
    rcases Nat.lt_or_ge z k with q | q
    · exact hg z q
    · exact absurd (by rw [show z = k from by omega]) e
theorem isP.last {p q : Nat → Nat} (h : isP p q) {g : Nat → Int32} (hg : ∀ z, z < 16 → g (p z) = nI z) {z : Nat} (hz : z < 16) : g z = nI (q z) := by
  have h1 := h z hz
  have h2 := hg (q z) h1.2.1
  rw [h1.2.2.2] at h2
  exact h2
theorem isP_wrd {w : Nat} (hw : w < 5) : isP (wrd w) (wrdI w) := fun s hs => wrd_all w hw s hs
theorem rem_wr {k n : Nat} (hk : k < 2 * n) (hn : 0 < n ∧ n < 1000) : nI k - nI k / nI n * nI n = nI (wr k n) := by
  rw [pk_rem (by omega) (by omega) (by omega)]
  congr 1
  unfold wr
  split
  · rw [Nat.mod_eq_sub_mod (by omega), Nat.mod_eq_of_lt (by omega)]
  · exact Nat.mod_eq_of_lt (by omega)
def wth (r : Int32) (x : Nat) (v : Int32) : Int32 := (r &&& ((nI 1 <<< (nI x &&& 31)) ^^^ (-1))) ||| (v <<< (nI x &&& 31))
theorem bt_one (i : Nat) (hi : i < 32) : bt (nI 1) i = decide (i = 0) := by
  have h1 : ∀ i, i < 32 → bt (nI 1) i = decide (i = 0) := by decide +kernel
  exact h1 i hi
theorem bt_bx {x i : Nat} (hx : x < 32) (hi : i < 32) : bt (bx x) i = decide (i = x) := by
  unfold bx
  rw [b_shl x hx _ hi]
  by_cases h : x ≤ i
  · rw [bt_one _ (by omega)]
    by_cases e : i = x
    · subst e; simp
    · rw [decide_eq_false (by omega : ¬ i - x = 0), decide_eq_false e, Bool.and_false]
  · rw [decide_eq_false h, decide_eq_false (by omega : ¬ i = x)]; rfl
theorem bt_low {v : Int32} {x i : Nat} (hx : x < 32) (hi : i < 32) : bt ((v &&& nI 1) <<< (nI x &&& 31)) i = (decide (i = x) && bt v 0) := by
  rw [b_shl x hx _ hi, b_and]
  by_cases h : x ≤ i
  · rw [bt_one _ (by omega)]
    by_cases e : i = x
    · subst e; simp
    · rw [decide_eq_false (by omega : ¬ i - x = 0), decide_eq_false e]; simp
  · rw [decide_eq_false h, decide_eq_false (by omega : ¬ i = x)]; rfl
theorem wpr_bt {r s : Int32} {x y i : Nat} (hx : x < 32) (hy : y < 32) (hi : i < 32) : bt (wpr r x y s) i = ((bt r i && !(decide (i = x) || decide (i = y))) || (decide (i = x) && bt s 0) || (decide (i = y) && bt (s >>> (nI 1 &&& 31)) 0)) := by
  unfold wpr
  rw [b_or, b_or, b_and, b_xor, b_or, b_m1 i hi, bt_bx hx hi, bt_bx hy hi, bt_low hx hi, bt_low hy hi, Bool.xor_true]
theorem wth_bt {r v : Int32} {x i : Nat} (hx : x < 32) (hi : i < 32) : bt (wth r x (v &&& nI 1)) i = ((bt r i && !(decide (i = x))) || (decide (i = x) && bt v 0)) := by
  unfold wth
  rw [b_or, b_and, b_xor, b_m1 i hi, show (nI 1 <<< (nI x &&& 31)) = bx x from rfl, bt_bx hx hi, bt_low hx hi, Bool.xor_true]
theorem wpr_wth {r s : Int32} {x y : Nat} (hx : x < 32) (hy : y < 32) (hxy : x ≠ y) : wth (wth r x (s &&& nI 1)) y ((s >>> (nI 1 &&& 31)) &&& nI 1) = wpr r x y s := by
  apply b_ext
  intro i hi
  rw [wth_bt hy hi, wth_bt hx hi, wpr_bt hx hy hi]
  by_cases e1 : i = x
  · have e2 : ¬ i = y := by omega
    rw [decide_eq_true e1, decide_eq_false e2]
    cases bt r i <;> cases bt s 0 <;> cases bt (s >>> (nI 1 &&& 31)) 0 <;> rfl
  · rw [decide_eq_false e1]
    cases decide (i = y) <;> cases bt r i <;> cases bt s 0 <;> cases bt (s >>> (nI 1 &&& 31)) 0 <;> rfl
theorem shr21 (s : Int32) : ((s >>> (nI 2 &&& 31)) >>> (nI 1 &&& 31)) &&& nI 1 = (s >>> (nI 3 &&& 31)) &&& nI 1 := by
  rw [bt_raw _ (by decide), bt_raw _ (by decide), b_sshr 2 (by decide) _ (by decide)]
  rfl
theorem wpr_low (r : Int32) (x y : Nat) (s s2 : Int32) (h1 : s &&& nI 1 = s2 &&& nI 1) (h2 : (s >>> (nI 1 &&& 31)) &&& nI 1 = (s2 >>> (nI 1 &&& 31)) &&& nI 1) : wpr r x y s = wpr r x y s2 := by
  unfold wpr
  rw [h1, h2]
/-- the reference's way to put a block is the class's -/
theorem put_ref {W H x y : Nat} {f : Nat → Int32} {s : Int32} (hx : x < W) (hy : y < H) (hW : 2 ≤ W ∧ W ≤ 16) (hH : 2 ≤ H ∧ H ≤ 16) (z : Nat) :
    upd (upd (upd (upd f y (wth (f y) x (s &&& nI 1))) y (wth ((upd f y (wth (f y) x (s &&& nI 1))) y) (wr (x + 1) W) ((s >>> (nI 1 &&& 31)) &&& nI 1))) (wr (y + 1) H) (wth ((upd (upd f y (wth (f y) x (s &&& nI 1))) y (wth ((upd f y (wth (f y) x (s &&& nI 1))) y) (wr (x + 1) W) ((s >>> (nI 1 &&& 31)) &&& nI 1))) (wr (y + 1) H)) x ((s >>> (nI 2 &&& 31)) &&& nI 1)))
      (wr (y + 1) H) (wth ((upd (upd (upd f y (wth (f y) x (s &&& nI 1))) y (wth ((upd f y (wth (f y) x (s &&& nI 1))) y) (wr (x + 1) W) ((s >>> (nI 1 &&& 31)) &&& nI 1))) (wr (y + 1) H) (wth ((upd (upd f y (wth (f y) x (s &&& nI 1))) y (wth ((upd f y (wth (f y) x (s &&& nI 1))) y) (wr (x + 1) W) ((s >>> (nI 1 &&& 31)) &&& nI 1))) (wr (y + 1) H)) x ((s >>> (nI 2 &&& 31)) &&& nI 1))) (wr (y + 1) H)) (wr (x + 1) W) ((s >>> (nI 3 &&& 31)) &&& nI 1)) z
      = ptA W H f x y s z := by
  have a1 : wr (x + 1) W < W := wr_lt (by omega)
  have a2 : wr (y + 1) H < H := wr_lt (by omega)
  have a3 : x ≠ wr (x + 1) W := by unfold wr; split <;> omega
  have e1 : (upd f y (wth (f y) x (s &&& nI 1))) y = wth (f y) x (s &&& nI 1) := pk_us
  rw [e1, wpr_wth (by omega) (by omega) a3, fa_upd_twice f y]
  generalize hg : upd f y (wpr (f y) x (wr (x + 1) W) s) = g
  have e2 : (upd g (wr (y + 1) H) (wth (g (wr (y + 1) H)) x ((s >>> (nI 2 &&& 31)) &&& nI 1))) (wr (y + 1) H) = wth (g (wr (y + 1) H)) x ((s >>> (nI 2 &&& 31)) &&& nI 1) := pk_us
  rw [e2, fa_upd_twice g, ← shr21, wpr_wth (by omega) (by omega) a3]
  unfold ptA
  rw [hg]
theorem rng_t {x : Int32} {A B : Int} (h : A ≤ x.toInt ∧ x.toInt ≤ B) : rngB x A B = true := decide_eq_true h
theorem popR_le : ∀ n k, popR n k ≤ n
  | 0, _ => Nat.le_refl _
  | n + 1, k => by
    have := popR_le n (k / 2)
    show k % 2 + popR n (k / 2) ≤ n + 1
    omega
theorem pop_le (k : Nat) : pop k ≤ 16 := popR_le 16 k
