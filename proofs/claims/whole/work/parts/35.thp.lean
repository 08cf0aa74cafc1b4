/-- the things found so far -/
def ThP (u : Int32) (W H : Nat) (f : Nat → Int32) (M : Nat) (A : Nat → Int32) (E st : Nat → Nat) : Prop :=
  Ls u A E (st M) ∧ (∀ i, i < st M → onC W H f (E i)) ∧ (∀ c, onC W H f c → A c ≠ u → ∃ i, i < st M ∧ E i = c) ∧ st 0 = 0 ∧ (∀ k, k < M → st k < st (k + 1)) ∧
  (∀ k i, k < M → st k ≤ i → i < st (k + 1) → A (E i) = nI k ∧ rch W H f (E (st k)) (E i) ∧ E (st k) ≤ E i ∧ ∀ d, d < 9 → onC W H f (nbC W H (E i) d) → A (nbC W H (E i) d) = nI k) ∧ (∀ j k, j < k → k < M → E (st j) < E (st k)) ∧ (∀ c k, onC W H f c → A c = u → k < M → E (st k) < c)
theorem ThP_0 (u : Int32) (W H : Nat) (f : Nat → Int32) (A : Nat → Int32) (E st : Nat → Nat) (h0 : st 0 = 0) (hA : ∀ c, onC W H f c → A c = u) : ThP u W H f 0 A E st := by
  refine ⟨⟨fun i hi => absurd hi (by omega), fun i j _ hj => absurd hj (by omega)⟩, fun i hi => absurd hi (by omega), fun c hc h => absurd (hA c hc) h, h0, fun k hk => absurd hk (by omega), fun k i hk => absurd hk (by omega), fun j k _ hk => absurd hk (by omega), fun c k _ _ hk => absurd hk (by omega)⟩
theorem updN_ne {p : Nat → Nat} {a b c : Nat} (h : c ≠ a) : updN p a b c = p c := if_neg h
theorem updN_eq {p : Nat → Nat} {a b : Nat} : updN p a b a = b := if_pos rfl
theorem onC_lt {W H : Nat} {f : Nat → Int32} {c : Nat} (hH : H ≤ 16) (h : onC W H f c) : c < 256 := by
  have := h.1
  omega
theorem ThP_s {u : Int32} {W H : Nat} {f : Nat → Int32} {M : Nat} {A : Nat → Int32} {E st : Nat → Nat} {A3 : Nat → Int32} {E3 : Nat → Nat} {c0 n3 : Nat} (hW : 2 ≤ W ∧ W ≤ 16) (hH : 2 ≤ H ∧ H ≤ 16) (hu : nI M ≠ u) (h : ThP u W H f M A E st) (ho : onC W H f c0) (h0 : A c0 = u) (hb : ∀ c, onC W H f c → c < c0 → A c ≠ u)
    (hJ : Jn u M (fun c => onC W H f c ∧ rch W H f c0 c) A E (st M) A3 E3 n3) (he : E3 (st M) = c0) (hn : st M < n3) (hd : ∀ j, st M ≤ j → j < n3 → ∀ d, d < 9 → onC W H f (nbC W H (E3 j) d) → A3 (nbC W H (E3 j) d) ≠ u) : ThP u W H f (M + 1) A3 E3 (updN st (M + 1) n3) := by
  have hls3 := Ls_J hu (fun c q => onC_lt hH.2 q.1) h.1 hJ
  obtain ⟨p1, p2, p3, p4, p5, p6, p7, p8⟩ := h
  obtain ⟨g1, g2, g3, g4, g5, g6⟩ := hJ
  have mono := st_mono p5
  have stle : ∀ k, k ≤ M → st k ≤ st M := fun k hk => by
    have := mono (M - k) k (by omega)
    rw [show k + (M - k) = M from by omega] at this
    exact this
  have s1 : ∀ k, k < M + 1 → updN st (M + 1) n3 k = st k := fun k hk => updN_ne (by omega)
  have s2 : updN st (M + 1) n3 (M + 1) = n3 := updN_eq
  refine ⟨by rw [s2]; exact hls3, ?_, ?_, by rw [s1 0 (by omega)]; exact p4, ?_, ?_, ?_, ?_⟩
  · intro i hi
    rw [s2] at hi
    rcases Nat.lt_or_ge i (st M) with q | q
    · rw [g2 i q]; exact p2 i q
    · exact (g5 i q hi).1.1
  · intro c hc h3
    rw [s2]
    by_cases q : A c = u
    · rcases g4 c q with e | ⟨_, i, i1, i2, i3⟩
      · exact absurd e h3
      · exact ⟨i, i2, i3⟩
    · obtain ⟨i, hi, e⟩ := p3 c hc q
      exact ⟨i, by omega, by rw [g2 i hi]; exact e⟩
  · intro k hk
    rcases Nat.lt_or_ge k M with q | q
    · rw [s1 k hk, s1 (k + 1) (by omega)]; exact p5 k q
    · obtain rfl : k = M := by omega
      rw [s1 k hk, s2]; exact hn
  · intro k i hk h1 h2
    rw [s1 k hk] at h1 ⊢
    rcases Nat.lt_or_ge k M with q | q
    · rw [s1 (k + 1) (by omega)] at h2
      have := stle (k + 1) (by omega)
      have p5k := p5 k q
      have o := p6 k i q h1 h2
      have ne : A (E i) ≠ u := (p1.1 i (by omega)).2
      rw [g2 i (by omega), g2 (st k) (by omega)]
      refine ⟨by rw [g3 _ ne]; exact o.1, o.2.1, o.2.2.1, fun d hd9 hod => ?_⟩
      have a := o.2.2.2 d hd9 hod
      have nk : A (nbC W H (E i) d) ≠ u := by
        rw [a, ← o.1]; exact ne
      rw [g3 _ nk, a]
    · obtain rfl : k = M := by omega
      rw [s2] at h2
      have o := g5 i h1 h2
      have bef : c0 ≤ E3 i := by
        rcases Nat.lt_or_ge (E3 i) c0 with z | z
        · exact absurd o.2.1 (hb _ o.1.1 z)
        · exact z
      rw [he]
      refine ⟨o.2.2, o.1.2, bef, fun d hd9 hod => ?_⟩
      have nz := hd i h1 h2 d hd9 hod
      by_cases q2 : A (nbC W H (E3 i) d) = u
      · rcases g4 _ q2 with e | e
        · exact absurd e nz
        · exact e.1
      · obtain ⟨i2, hi2, e2⟩ := p3 _ hod q2
        obtain ⟨k2, b1, b2, b3⟩ := st_block p4 hi2
        have back := nb_back hW hH o.1.1.1 hd9
        have cl := (p6 k2 i2 b1 b2 b3).2.2.2 (8 - d) (by omega) (by rw [e2, back]; exact o.1.1)
        rw [e2, back, o.2.1, ← (p6 k2 i2 b1 b2 b3).1] at cl
        exact absurd cl.symm (p1.1 i2 hi2).2
  · intro j k hjk hk
    rw [s1 j (by omega), s1 k hk]
    rcases Nat.lt_or_ge k M with q | q
    · have a := p5 j (by omega)
      have b := p5 k q
      have := stle (j + 1) (by omega)
      have := stle (k + 1) (by omega)
      rw [g2 (st j) (by omega), g2 (st k) (by omega)]
      exact p7 j k hjk q
    · obtain rfl : k = M := by omega
      have a := p5 j hjk
      have := stle (j + 1) (by omega)
      rw [he, g2 (st j) (by omega)]
      exact p8 c0 j ho h0 hjk
  · intro c k hc hcu hk
    rw [s1 k hk]
    have au : A c = u := Classical.byContradiction fun z => z (by rw [← g3 c z]; exact hcu)
    rcases Nat.lt_or_ge k M with q | q
    · have b := p5 k q
      have := stle (k + 1) (by omega)
      rw [g2 (st k) (by omega)]
      exact p8 c k hc au q
    · obtain rfl : k = M := by omega
      rw [he]
      rcases Nat.lt_trichotomy c c0 with z | z | z
      · exact absurd au (hb c hc z)
      · have := (g5 (st k) (Nat.le_refl _) hn).2.2
        rw [he, ← z, hcu] at this
        exact absurd this.symm hu
      · exact z
/-- at most 64 things so far -/
theorem ThP_n {u : Int32} {W H : Nat} {f : Nat → Int32} {M : Nat} {A : Nat → Int32} {E st : Nat → Nat} (h : ThP u W H f M A E st) : M ≤ 256 := by
  have a : ∀ k, k ≤ M → k ≤ st k := by
    intro k
    induction k with
    | zero => intro _; exact Nat.zero_le _
    | succ k ih =>
      intro hk
      have := ih (by omega)
      have := h.2.2.2.2.1 k (by omega)
      omega
  have b := a M (Nat.le_refl _)
  have c := fb_holes 256 (st M) E (fun i hi => (h.1.1 i hi).1) h.1.2
  omega
theorem nI_inj {a b : Nat} (ha : a < 1000) (hb : b < 1000) (h : nI a = nI b) : a = b := by
  have := congrArg Int32.toInt h
  rw [nI_toInt (by omega), nI_toInt (by omega)] at this
  omega
theorem ThP_64 {u : Int32} {W H : Nat} {f : Nat → Int32} {M : Nat} {A : Nat → Int32} {E st : Nat → Nat} (hW : W ≤ 16) (hH : H ≤ 16) (h : ThP u W H f M A E st) : M ≤ 64 := by
  have n := ThP_n h
  have mono := st_mono h.2.2.2.2.1
  have blk : ∀ k, k < M → st k < st (k + 1) ∧ st (k + 1) ≤ st M := fun k hk => by
    have := mono (M - (k + 1)) (k + 1) (by omega)
    rw [show k + 1 + (M - (k + 1)) = M from by omega] at this
    exact ⟨h.2.2.2.2.1 k hk, this⟩
  refine fb_holes 64 M (fun k => 8 * (E (st k) / 16 / 2) + E (st k) % 16 / 2) (fun i hi => ?_) (fun i j hij hj e => ?_)
  · have b := blk i hi
    have := (h.2.1 (st i) (by omega)).1
    show 8 * (E (st i) / 16 / 2) + E (st i) % 16 / 2 < 64
    omega
  · have e : 8 * (E (st i) / 16 / 2) + E (st i) % 16 / 2 = 8 * (E (st j) / 16 / 2) + E (st j) % 16 / 2 := e
    have bi := blk i (by omega)
    have bj := blk j hj
    have oi := h.2.1 (st i) (by omega)
    have oj := h.2.1 (st j) (by omega)
    have ai := oi.1
    have aj := oj.1
    obtain ⟨d, hd, hn⟩ := nb_block ai aj (by omega) (by omega)
    have := (h.2.2.2.2.2.1 i (st i) (by omega) (Nat.le_refl _) bi.1).2.2.2 d hd (by rw [hn]; exact oj)
    rw [hn, (h.2.2.2.2.2.1 j (st j) hj (Nat.le_refl _) bj.1).1] at this
    have := nI_inj (by omega) (by omega) this
    omega
/-- all cells found: the things -/
theorem ThP_S {u : Int32} {W H : Nat} {f : Nat → Int32} {M : Nat} {A : Nat → Int32} {E st L : Nat → Nat} (h : ThP u W H f M A E st) (hA : ∀ c, onC W H f c → A c ≠ u) (hL : ∀ c k, onC W H f c → k < M → A c = nI k → L c = k) : ThS W H f M L E st := by
  have mono := st_mono h.2.2.2.2.1
  have blk : ∀ k, k < M → st k < st (k + 1) ∧ st (k + 1) ≤ st M := fun k hk => by
    have := mono (M - (k + 1)) (k + 1) (by omega)
    rw [show k + 1 + (M - (k + 1)) = M from by omega] at this
    exact ⟨h.2.2.2.2.1 k hk, this⟩
  obtain ⟨p1, p2, p3, p4, p5, p6, p7, p8⟩ := h
  have ix : ∀ c, onC W H f c → ∃ k i, k < M ∧ st k ≤ i ∧ i < st (k + 1) ∧ E i = c ∧ L c = k := by
    intro c hc
    obtain ⟨i, hi, e⟩ := p3 c hc (hA c hc)
    obtain ⟨k, b1, b2, b3⟩ := st_block p4 hi
    have o := p6 k i b1 b2 b3
    rw [e] at o
    exact ⟨k, i, b1, b2, b3, e, hL c k hc b1 o.1⟩
  have lab : ∀ k i, k < M → st k ≤ i → i < st (k + 1) → onC W H f (E i) ∧ L (E i) = k := fun k i a b c => by
    have := blk k a
    have o := p2 i (by omega)
    exact ⟨o, hL _ _ o a (p6 k i a b c).1⟩
  refine ⟨⟨fun c hc => ?_, fun c d hc hd ho => ?_, fun c hc => ?_, fun k hk => lab k (st k) hk (Nat.le_refl _) (blk k hk).1, p7⟩, p4, p5, lab, p1.2, fun c hc => p3 c hc (hA c hc)⟩
  · obtain ⟨k, i, a, b, c1, d, e⟩ := ix c hc
    omega
  · obtain ⟨k, i, a, b, c1, e, l⟩ := ix c hc
    have := (p6 k i a b c1).2.2.2 d hd (by rw [e]; exact ho)
    rw [e] at this
    rw [l]
    exact hL _ _ ho a this
  · obtain ⟨k, i, a, b, c1, e, l⟩ := ix c hc
    have := p6 k i a b c1
    rw [e] at this
    rw [l]
    exact ⟨this.2.1, this.2.2.1⟩
theorem Jn_w {u : Int32} {M : Nat} {Q Q2 : Nat → Prop} {A : Nat → Int32} {E : Nat → Nat} {n : Nat} {A2 : Nat → Int32} {E2 : Nat → Nat} {n2 : Nat} (hq : ∀ c, Q c → A c = u → Q2 c) (h : Jn u M Q A E n A2 E2 n2) : Jn u M Q2 A E n A2 E2 n2 :=
  ⟨h.1, h.2.1, h.2.2.1, h.2.2.2.1, fun i a b => ⟨hq _ (h.2.2.2.2.1 i a b).1 (h.2.2.2.2.1 i a b).2.1, (h.2.2.2.2.1 i a b).2⟩, h.2.2.2.2.2⟩
theorem Ls_le {u : Int32} {A : Nat → Int32} {E : Nat → Nat} {n : Nat} (h : Ls u A E n) : n ≤ 256 := fb_holes 256 n E (fun i hi => (h.1 i hi).1) h.2
theorem Jn_un {u : Int32} {M : Nat} {Q : Nat → Prop} {A : Nat → Int32} {E : Nat → Nat} {n : Nat} {A2 : Nat → Int32} {E2 : Nat → Nat} {n2 c : Nat} (h : Jn u M Q A E n A2 E2 n2) (hc : A2 c = u) : A c = u := Classical.byContradiction fun z => z (by rw [← h.2.2.1 c z]; exact hc)
/-- the cells whose neighbours have joined -/
def Dn (u : Int32) (W H : Nat) (A : Nat → Int32) (E : Nat → Nat) (a b : Nat) : Prop := ∀ j, a ≤ j → j < b → ∀ d, d < 9 → A (nbC W H (E j) d) ≠ u
theorem Dn_s {u : Int32} {M W H : Nat} {Q : Nat → Prop} {A : Nat → Int32} {E : Nat → Nat} {n : Nat} {A2 : Nat → Int32} {E2 : Nat → Nat} {n2 a i : Nat} (h : Jn u M Q A E n A2 E2 n2) (hi : i < n) (hd : Dn u W H A E a i) (hn : ∀ d, d < 9 → A2 (nbC W H (E i) d) ≠ u) : Dn u W H A2 E2 a (i + 1) := by
  intro j h1 h2 d hd9
  rw [h.2.1 j (by omega)]
  rcases Nat.lt_or_ge j i with q | q
  · have := hd j h1 q d hd9
    rw [h.2.2.1 _ this]
    exact this
  · obtain rfl : j = i := by omega
    exact hn d hd9
