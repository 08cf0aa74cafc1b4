/-- cells join thing M: only cells that bear the mark u, each is written down once, all of a kind Q -/
def Jn (u : Int32) (M : Nat) (Q : Nat → Prop) (A : Nat → Int32) (E : Nat → Nat) (n : Nat) (A2 : Nat → Int32) (E2 : Nat → Nat) (n2 : Nat) : Prop :=
  n ≤ n2 ∧ (∀ i, i < n → E2 i = E i) ∧ (∀ c, A c ≠ u → A2 c = A c) ∧ (∀ c, A c = u → A2 c = u ∨ (A2 c = nI M ∧ ∃ i, n ≤ i ∧ i < n2 ∧ E2 i = c)) ∧ (∀ i, n ≤ i → i < n2 → Q (E2 i) ∧ A (E2 i) = u ∧ A2 (E2 i) = nI M) ∧ (∀ i j, n ≤ i → i < j → j < n2 → E2 i ≠ E2 j)
theorem Jn_r (u : Int32) (M : Nat) (Q : Nat → Prop) (A : Nat → Int32) (E : Nat → Nat) (n : Nat) : Jn u M Q A E n A E n :=
  ⟨Nat.le_refl _, fun _ _ => rfl, fun _ _ => rfl, fun _ h => Or.inl h, fun i h1 h2 => absurd h2 (by omega), fun i j h1 h2 h3 => absurd h3 (by omega)⟩
theorem Jn_t {u : Int32} {M : Nat} {Q : Nat → Prop} {A : Nat → Int32} {E : Nat → Nat} {n : Nat} {A2 : Nat → Int32} {E2 : Nat → Nat} {n2 : Nat} {A3 : Nat → Int32} {E3 : Nat → Nat} {n3 : Nat} (hu : nI M ≠ u) (h : Jn u M Q A E n A2 E2 n2) (g : Jn u M Q A2 E2 n2 A3 E3 n3) : Jn u M Q A E n A3 E3 n3 := by
  obtain ⟨h1, h2, h3, h4, h5, h6⟩ := h
  obtain ⟨g1, g2, g3, g4, g5, g6⟩ := g
  refine ⟨by omega, fun i hi => (g2 i (by omega)).trans (h2 i hi), fun c hc => ?_, fun c hc => ?_, fun i a b => ?_, fun i j a b d => ?_⟩
  · rw [g3 c (by rw [h3 c hc]; exact hc), h3 c hc]
  · rcases h4 c hc with e | ⟨e, i, i1, i2, i3⟩
    · rcases g4 c e with e2 | ⟨e2, i, i1, i2, i3⟩
      · exact Or.inl e2
      · exact Or.inr ⟨e2, i, by omega, i2, i3⟩
    · exact Or.inr ⟨by rw [g3 c (by rw [e]; exact hu), e], i, i1, by omega, (g2 i i2).trans i3⟩
  · rcases Nat.lt_or_ge i n2 with q | q
    · have := h5 i a q
      rw [g2 i q]
      exact ⟨this.1, this.2.1, by rw [g3 _ (by rw [this.2.2]; exact hu), this.2.2]⟩
    · have := g5 i q b
      refine ⟨this.1, ?_, this.2.2⟩
      refine Classical.byContradiction fun k => ?_
      exact k (by rw [← h3 _ k]; exact this.2.1)
  · rcases Nat.lt_or_ge j n2 with q | q
    · rw [g2 i (by omega), g2 j q]
      exact h6 i j a b q
    · rcases Nat.lt_or_ge i n2 with p | p
      · rw [g2 i p]
        intro e
        have x := h5 i a p
        have y := g5 j q d
        rw [← e, x.2.2] at y
        exact hu y.2.1
      · exact g6 i j p b d
theorem Jn_1 {u : Int32} {M : Nat} {Q : Nat → Prop} {A : Nat → Int32} {E : Nat → Nat} {n c : Nat} (hq : Q c) (hc : A c = u) : Jn u M Q A E n (upd A c (nI M)) (updN E n c) (n + 1) := by
  refine ⟨by omega, fun i hi => ?_, fun d hd => ?_, fun d hd => ?_, fun i a b => ?_, fun i j a b d => absurd d (by omega)⟩
  · unfold updN; rw [if_neg (by omega)]
  · unfold upd; rw [if_neg (fun e => hd (by rw [e]; exact hc))]
  · by_cases e : d = c
    · exact Or.inr ⟨by unfold upd; rw [if_pos e], n, Nat.le_refl _, by omega, by unfold updN; rw [if_pos rfl, e]⟩
    · exact Or.inl (by unfold upd; rw [if_neg e]; exact hd)
  · have e : updN E n c i = c := by unfold updN; rw [if_pos (by omega)]
    rw [e]
    exact ⟨hq, hc, by unfold upd; rw [if_pos rfl]⟩
theorem Jn_q {u : Int32} {M : Nat} {Q Q2 : Nat → Prop} {A : Nat → Int32} {E : Nat → Nat} {n : Nat} {A2 : Nat → Int32} {E2 : Nat → Nat} {n2 : Nat} (hq : ∀ c, Q c → Q2 c) (h : Jn u M Q A E n A2 E2 n2) : Jn u M Q2 A E n A2 E2 n2 :=
  ⟨h.1, h.2.1, h.2.2.1, h.2.2.2.1, fun i a b => ⟨hq _ (h.2.2.2.2.1 i a b).1, (h.2.2.2.2.1 i a b).2⟩, h.2.2.2.2.2⟩
def Ls (u : Int32) (A : Nat → Int32) (E : Nat → Nat) (n : Nat) : Prop := (∀ i, i < n → E i < 256 ∧ A (E i) ≠ u) ∧ (∀ i j, i < j → j < n → E i ≠ E j)
theorem Ls_free {u : Int32} {A : Nat → Int32} {E : Nat → Nat} {n c : Nat} (h : Ls u A E n) (hc : A c = u) (hc2 : c < 256) : n < 256 := by
  have := fb_holes 256 (n + 1) (fun i => if i < n then E i else c) (fun i hi => by
    show (if i < n then E i else c) < 256
    split
    · exact (h.1 i (by omega)).1
    · exact hc2) (fun i j hij hj => by
    show (if i < n then E i else c) ≠ (if j < n then E j else c)
    rw [if_pos (by omega)]
    split
    · exact h.2 i j hij (by omega)
    · intro e
      exact (h.1 i (by omega)).2 (by rw [e]; exact hc))
  omega
theorem Ls_J {u : Int32} {M : Nat} {Q : Nat → Prop} {A : Nat → Int32} {E : Nat → Nat} {n : Nat} {A2 : Nat → Int32} {E2 : Nat → Nat} {n2 : Nat} (hu : nI M ≠ u) (hq : ∀ c, Q c → c < 256) (h : Ls u A E n) (g : Jn u M Q A E n A2 E2 n2) : Ls u A2 E2 n2 := by
  obtain ⟨g1, g2, g3, g4, g5, g6⟩ := g
  refine ⟨fun i hi => ?_, fun i j a b => ?_⟩
  · rcases Nat.lt_or_ge i n with q | q
    · rw [g2 i q]
      have := h.1 i q
      exact ⟨this.1, by rw [g3 _ this.2]; exact this.2⟩
    · have := g5 i q hi
      exact ⟨hq _ this.1, by rw [this.2.2]; exact hu⟩
  · rcases Nat.lt_or_ge j n with q | q
    · rw [g2 i (by omega), g2 j q]
      exact h.2 i j a q
    · rcases Nat.lt_or_ge i n with p | p
      · rw [g2 i p]
        intro e
        have x := h.1 i p
        have y := g5 j q b
        rw [← e] at y
        exact x.2 y.2.1
      · exact g6 i j p a b
theorem nb_e {W H a e e2 : Nat} (h : e2 < 3) : nbC W H a (3 * e + e2) = 16 * crI (((a / 16 : Nat) : Int) + (e : Int) - 1) H + crI (((a % 16 : Nat) : Int) + (e2 : Int) - 1) W := by
  unfold nbC
  rw [show (3 * e + e2) / 3 = e from by omega, show (3 * e + e2) % 3 = e2 from by omega]
theorem nIm1 {M : Nat} (h : M < 1000) : nI M ≠ -1 := by
  intro e
  have := congrArg Int32.toInt e
  rw [nI_toInt (by omega), show (-1 : Int32).toInt = -1 from by decide] at this
  omega
theorem addz {z : Int32} {x : Nat} {v : Int} (hz : z.toInt = v) (h1 : -10 ≤ v ∧ v ≤ 1000) (hx : x < 1000) : (nI x + z).toInt = (x : Int) + v := by
  have hx2 : (nI x).toInt = x := nI_toInt (by omega)
  rw [fb_addI (by rw [hz, hx2]; omega) (by rw [hz, hx2]; omega), hz, hx2]
theorem inz {z : Int32} {v : Int} (hz : z.toInt = v) (h1 : -10 ≤ v ∧ v ≤ 1000) : (z + (1)).toInt = v + 1 := by
  have e : (1 : Int32).toInt = 1 := by decide
  rw [fb_addI (by rw [hz, e]; omega) (by rw [hz, e]; omega), hz, e]
