/-- cells join thing M: only cells that bear the mark u, each is written down once, all of a kind Q -/
def Jn (u : Int32) (M : Nat) (Q : Nat → Prop) (A : Nat → Int32) (E : Nat → Nat) (n : Nat) (A2 : Nat → Int32) (E2 : Nat → Nat) (n2 : Nat) : Prop :=
  n ≤ n2 ∧ (∀ i, i < n → E2 i = E i) ∧ (∀ c, A c ≠ u → A2 c = A c) ∧ (∀ c, A c = u → A2 c = u ∨ (A2 c = nI M ∧ ∃ i, n ≤ i ∧ i < n2 ∧ E2 i = c)) ∧ (∀ i, n ≤ i → i < n2 → Q (E2 i) ∧ A (E2 i) = u ∧ A2 (E2 i) = nI M) ∧ (∀ i j, n ≤ i → i < j → j < n2 → E2 i ≠ E2 j)
theorem Jn_r (u : Int32) (M : Nat) (Q : Nat → Prop) (A : Nat → Int32) (E : Nat → Nat) (n : Nat) : Jn u M Q A E n A E n :=
  ⟨Nat.le_refl _, fun _ _ => rfl, fun _ _ => rfl, fun _ h => Or.inl h, fun i h1 h2 => absurd h2 (by omega), fun i j h1 h2 h3 => absurd h3 (by omega)⟩
theorem Jn_t {u : Int32} {M : Nat} {Q : Nat → Prop} {A : Nat → Int32} {E : Nat → Nat} {n : Nat} {A2 : Nat → Int32} {E2 : Nat → Nat} {n2 : Nat} {A3 : Nat → Int32} {E3 : Nat → Nat} {n3 : Nat} (hu : nI M ≠ u) (h : Jn u M Q A E n A2 E2 n2) (g : Jn u M Q A2 E2 n2 A3 E3 n3) : Jn u M Q A E n A3 E3 n3 := by
  obtain ⟨h1, h2, h3, h4, h5, h6⟩ := h
  obtain ⟨g1, g2, g3, g4, g5, g6⟩ := g
  refine ⟨by omega, fun i hi => (g2 i (by omega)).trans (h2 i hi), fun c hc => ?_, fun c hc => ?_, fun i a b => ?_, fun i j a b d => ?_⟩
  · rw [g3 c (by rw [h3 c hc]; exact hc), h3 c hc]
  · rcases h4 c hc with e | ⟨e, i, i1, i2, i3⟩
    · rcases g4 c e with e2 | ⟨e2, i, i1, i2, i3⟩
      · exact Or.inl e2
      · exact Or.inr ⟨e2, i, by omega, i2, i3⟩
    · exact Or.inr ⟨by rw [g3 c (by rw [e]; exact hu), e], i, i1, by omega, (g2 i i2).trans i3⟩
  · rcases Nat.lt_or_ge i n2 with q | q
    · have := h5 i a q
      rw [g2 i q]
      exact ⟨this.1, this.2.1, by rw [g3 _ (by rw [this.2.2]; exact hu), this.2.2]⟩
    · have := g5 i q b
      refine ⟨this.1, ?_, this.2.2⟩
      refine Classical.byContradiction fun k => ?_
      exact k (by rw [← h3 _ k]; exact this.2.1)
  · rcases Nat.lt_or_ge j n2 with q | q
    · rw [g2 i (by omega), g2 j q]
      exact h6 i j a b q
    · rcases Nat.lt_or_ge i n2 with p | p
      · rw [g2 i p]
        intro e
        have x := h5 i a p
        have y := g5 j q d
        rw [← e, x.2.2] at y
        exact hu y.2.1
      · exact g6 i j p b d
theorem Jn_1 {u : Int32} {M : Nat} {Q : Nat → Prop} {A : Nat → Int32} {E : Nat → Nat} {n c : Nat} (hq : Q c) (hc : A c = u) : Jn u M Q A E n (upd A c (nI M)) (updN E n c) (n + 1) := by
  refine ⟨by omega, fun i hi => ?_, fun d hd => ?_, fun d hd => ?_, fun i a b => ?_, fun i j a b d => absurd d (by omega)⟩
  · unfold updN; rw [if_neg (by omega)]
  · unfold upd; rw [if_neg (fun e => hd (by rw [e]; exact hc))]
  · by_cases e : d = c
    · exact Or.inr ⟨by unfold upd; rw [if_pos e], n, Nat.le_refl _, by omega, by unfold updN; rw [if_pos rfl, e]⟩
    · exact Or.inl (by unfold upd; rw [if_neg e]; exact hd)
  · have e : updN E n c i = c := by unfold updN; rw [if_pos (by omega)]
    rw [e]
    exact ⟨hq, hc, by unfold upd; rw [if_pos rfl]⟩
theorem Jn_q {u : Int32} {M : Nat} {Q Q2 : Nat → Prop} {A : Nat → Int32} {E : Nat → Nat} {n : Nat} {A2 : Nat → Int32} {E2 : Nat → Nat} {n2 : Nat} (hq : ∀ c, Q c → Q2 c) (h : Jn u M Q A E n A2 E2 n2) : Jn u M Q2 A E n A2 E2 n2 :=
  ⟨h.1, h.2.1, h.2.2.1, h.2.2.2.1, fun i a b => ⟨hq _ (h.2.2.2.2.1 i a b).1, (h.2.2.2.2.1 i a b).2⟩, h.2.2.2.2.2⟩
