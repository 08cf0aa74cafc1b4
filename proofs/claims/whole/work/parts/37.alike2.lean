theorem th_le {W H M : Nat} {f : Nat → Int32} {L E st : Nat → Nat} (hH : H ≤ 16) (h : ThS W H f M L E st) {k : Nat} (hk : k < M) : st k < st (k + 1) ∧ st (k + 1) ≤ st M ∧ st M ≤ 256 := by
  have m := st_mono h.2.2.1 (M - (k + 1)) (k + 1) (by omega)
  rw [show k + 1 + (M - (k + 1)) = M from by omega] at m
  refine ⟨h.2.2.1 k hk, m, fb_holes 256 (st M) E (fun i hi => ?_) h.2.2.2.2.1⟩
  obtain ⟨k2, b1, b2, b3⟩ := st_block h.2.1 hi
  exact onC_lt hH (h.2.2.2.1 k2 i b1 b2 b3).1
theorem addw {x : Nat} {z : Int32} {v : Int} (hz : z.toInt = v) (h1 : -1000 ≤ v ∧ v ≤ 1000) (hx : x < 1000) : (nI x + z).toInt = (x : Int) + v := by
  have hx2 : (nI x).toInt = x := nI_toInt (by omega)
  rw [fb_addI (by rw [hz, hx2]; omega) (by rw [hz, hx2]; omega), hz, hx2]
theorem subw {x y : Nat} (hx : x < 1000) (hy : y < 1000) : (nI x - nI y).toInt = (x : Int) - y := by
  have a : (nI x).toInt = x := nI_toInt (by omega)
  have b : (nI y).toInt = y := nI_toInt (by omega)
  rw [fb_subI (by rw [a, b]; omega) (by rw [a, b]; omega), a, b]
/-- a grid's labels, as the class keeps them -/
def LbC (W H : Nat) (f : Nat → Int32) (La : Nat → Int32) (Ln : Nat → Nat) : Prop := ∀ c, c % 16 < W → c / 16 < H → (onC W H f c → La c = nI (Ln c)) ∧ (¬ onC W H f c → La c = -5)
theorem LbC_i {W H : Nat} {f : Nat → Int32} {La : Nat → Int32} {Ln : Nat → Nat} {c i : Nat} (h : LbC W H f La Ln) (hc : c % 16 < W ∧ c / 16 < H) (hi : i < 1000) (hL : onC W H f c → Ln c < 1000) : (La c).toInt = (i : Int) ↔ (onC W H f c ∧ Ln c = i) := by
  constructor
  · intro e
    by_cases o : onC W H f c
    · refine ⟨o, ?_⟩
      rw [(h c hc.1 hc.2).1 o, nI_toInt (by have := hL o; omega)] at e
      omega
    · rw [(h c hc.1 hc.2).2 o, show (-5 : Int32).toInt = -5 from by decide] at e
      omega
  · intro ⟨o, e⟩
    rw [(h c hc.1 hc.2).1 o, e, nI_toInt (by omega)]
