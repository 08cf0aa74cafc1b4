/-- what is told of a thing, of a shape -/
def thR (k w : Int32) (M : Nat) (E st No : Nat → Nat) : Int32 :=
  if 0 ≤ k.toInt ∧ k.toInt < M then (if w.toInt = 0 then nI (st (k.toInt.toNat + 1) - st k.toInt.toNat) else if w.toInt = 1 then nI (100 * (E (st k.toInt.toNat) % 16) + E (st k.toInt.toNat) / 16) else if w.toInt = 2 then nI (No k.toInt.toNat) else -1) else -1
def shR (k w : Int32) (M S : Nat) (E st No Mo : Nat → Nat) : Int32 :=
  if 0 ≤ k.toInt ∧ k.toInt < S then (if w.toInt = 0 then nI (nlk No k.toInt.toNat M) else if w.toInt = 1 then nI (st (Mo k.toInt.toNat + 1) - st (Mo k.toInt.toNat)) else if w.toInt = 2 then nI (100 * (E (st (Mo k.toInt.toNat)) % 16) + E (st (Mo k.toInt.toNat)) / 16) else -1) else -1
theorem kNat {k : Int32} (h : 0 ≤ k.toInt) : k = nI k.toInt.toNat := by
  have b := fb_rng k
  apply Int32.toInt_inj.mp
  rw [nI_toInt (by omega)]
  omega
