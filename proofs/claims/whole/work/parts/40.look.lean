/-- marks of a grid before its things are found -/
def MkC (W H : Nat) (f : Nat → Int32) (A : Nat → Int32) (c : Nat) : Prop := (onC W H f c → A c = -1) ∧ (¬ onC W H f c → A c = -5)
theorem onC_xy {W H : Nat} {f : Nat → Int32} {x y : Nat} (hx : x < W) (hy : y < H) (hW : W ≤ 16) : onC W H f (16 * y + x) ↔ bt (f y) x = true := by
  unfold onC
  rw [show (16 * y + x) / 16 = y from by omega, show (16 * y + x) % 16 = x from by omega]
  exact ⟨fun h => h.2, fun h => ⟨⟨hx, hy⟩, h⟩⟩
theorem ThP_lab {u : Int32} {W H : Nat} {f : Nat → Int32} {M : Nat} {A : Nat → Int32} {E st : Nat → Nat} (h : ThP u W H f M A E st) {c : Nat} (hc : onC W H f c) (hA : A c ≠ u) : ∃ k, k < M ∧ A c = nI k := by
  obtain ⟨i, hi, e⟩ := h.2.2.1 c hc hA
  obtain ⟨k, b1, b2, b3⟩ := st_block h.2.2.2.1 hi
  have := (h.2.2.2.2.2.1 k i b1 b2 b3).1
  rw [e] at this
  exact ⟨k, b1, this⟩
theorem ThP_fin {u : Int32} {W H : Nat} {f : Nat → Int32} {M : Nat} {A : Nat → Int32} {E st : Nat → Nat} (h : ThP u W H f M A E st) (hA : ∀ c, onC W H f c → A c ≠ u) (hoff : ∀ c, c % 16 < W → c / 16 < H → ¬ onC W H f c → A c = -5) : ThS W H f M (fun c => (A c).toInt.toNat) E st ∧ LbC W H f A (fun c => (A c).toInt.toNat) := by
  have n := ThP_n h
  refine ⟨ThP_S h hA (fun c k hc hk e => by show (A c).toInt.toNat = k; rw [e, nI_toInt (by omega)]; rfl), fun c h1 h2 => ⟨fun o => ?_, hoff c h1 h2⟩⟩
  obtain ⟨k, hk, e⟩ := ThP_lab h o (hA c o)
  show A c = nI (A c).toInt.toNat
  rw [e, nI_toInt (by omega)]
  rfl
