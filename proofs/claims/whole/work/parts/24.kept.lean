/-! what the reference keeps -/
theorem kp_ent {W H : Nat} {t : Int32} {m k : Nat} {f : Nat → Int32} {p : Nat → Nat} {s0 : Nat → Int32} {s1 : Nat → Nat} {s2 : Nat → Int32} {e0 e1 : Nat → Nat} {kp : Nat → Int32} (h : ∀ z, z < 5 → kp z = kpF W H t m k f p s0 s1 s2 e0 e1 z) (z : Nat) (hz : z < 52) :
    (if 47 ≤ z ∧ z < 52 then s2 (z - 47) else if 42 ≤ z ∧ z < 47 then nI (s1 (z - 42)) else if 37 ≤ z ∧ z < 42 then s0 (z - 37) else if 21 ≤ z ∧ z < 37 then nI (p (z - 21)) else if 5 ≤ z ∧ z < 21 then f (z - 5) else kp z) = kpF W H t m k f p s0 s1 s2 e0 e1 z := by
  by_cases a : z < 5
  · rw [if_neg (by omega), if_neg (by omega), if_neg (by omega), if_neg (by omega), if_neg (by omega)]
    exact h z a
  · unfold kpF
    rw [if_neg a]
    by_cases b : z < 21
    · rw [if_neg (by omega), if_neg (by omega), if_neg (by omega), if_neg (by omega), if_pos (by omega), if_pos b]
    · rw [if_neg b]
      by_cases c : z < 37
      · rw [if_neg (by omega), if_neg (by omega), if_neg (by omega), if_pos (by omega), if_pos c]
      · rw [if_neg c]
        by_cases d : z < 42
        · rw [if_neg (by omega), if_neg (by omega), if_pos (by omega), if_pos d]
        · rw [if_neg d]
          by_cases e : z < 47
          · rw [if_neg (by omega), if_pos (by omega), if_pos e]
          · rw [if_neg e, if_pos (by omega), if_pos (by omega)]
theorem kp_ev {W H : Nat} {t : Int32} {m k : Nat} {f : Nat → Int32} {p : Nat → Nat} {s0 : Nat → Int32} {s1 : Nat → Nat} {s2 : Nat → Int32} {e0 e1 : Nat → Nat} (j : Nat) : kpF W H t m k f p s0 s1 s2 e0 e1 (52 + j) = nI (10000 * e0 j + e1 j) := by
  unfold kpF
  rw [if_neg (by omega), if_neg (by omega), if_neg (by omega), if_neg (by omega), if_neg (by omega), if_neg (by omega), show 52 + j - 52 = j from by omega]
theorem kp_c {W H : Nat} {t : Int32} {m k : Nat} {f : Nat → Int32} {p : Nat → Nat} {s0 : Nat → Int32} {s1 : Nat → Nat} {s2 : Nat → Int32} {e0 e1 : Nat → Nat} {j : Nat} (h : j < 16) : kpF W H t m k f p s0 s1 s2 e0 e1 (5 + j) = f j := by
  unfold kpF
  rw [if_neg (by omega), if_pos (by omega), show 5 + j - 5 = j from by omega]
theorem kp_r {W H : Nat} {t : Int32} {m k : Nat} {f : Nat → Int32} {p : Nat → Nat} {s0 : Nat → Int32} {s1 : Nat → Nat} {s2 : Nat → Int32} {e0 e1 : Nat → Nat} {j : Nat} (h : j < 16) : kpF W H t m k f p s0 s1 s2 e0 e1 (21 + j) = nI (p j) := by
  unfold kpF
  rw [if_neg (by omega), if_neg (by omega), if_pos (by omega), show 21 + j - 21 = j from by omega]
theorem kp_1 {W H : Nat} {t : Int32} {m k : Nat} {f : Nat → Int32} {p : Nat → Nat} {s0 : Nat → Int32} {s1 : Nat → Nat} {s2 : Nat → Int32} {e0 e1 : Nat → Nat} {j : Nat} (h : j < 5) : kpF W H t m k f p s0 s1 s2 e0 e1 (37 + j) = s0 j := by
  unfold kpF
  rw [if_neg (by omega), if_neg (by omega), if_neg (by omega), if_pos (by omega), show 37 + j - 37 = j from by omega]
theorem kp_2 {W H : Nat} {t : Int32} {m k : Nat} {f : Nat → Int32} {p : Nat → Nat} {s0 : Nat → Int32} {s1 : Nat → Nat} {s2 : Nat → Int32} {e0 e1 : Nat → Nat} {j : Nat} (h : j < 5) : kpF W H t m k f p s0 s1 s2 e0 e1 (42 + j) = nI (s1 j) := by
  unfold kpF
  rw [if_neg (by omega), if_neg (by omega), if_neg (by omega), if_neg (by omega), if_pos (by omega), show 42 + j - 42 = j from by omega]
theorem kp_3 {W H : Nat} {t : Int32} {m k : Nat} {f : Nat → Int32} {p : Nat → Nat} {s0 : Nat → Int32} {s1 : Nat → Nat} {s2 : Nat → Int32} {e0 e1 : Nat → Nat} {j : Nat} (h : j < 5) : kpF W H t m k f p s0 s1 s2 e0 e1 (47 + j) = s2 j := by
  unfold kpF
  rw [if_neg (by omega), if_neg (by omega), if_neg (by omega), if_neg (by omega), if_neg (by omega), if_pos (by omega), show 47 + j - 47 = j from by omega]
