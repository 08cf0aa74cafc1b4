/-! The reference's flood: a stack of cells whose neighbours are still to come -/
def FlD (W H : Nat) (f : Nat → Int32) (A : Nat → Int32) (c : Nat) : Prop := ∀ d, d < 9 → onC W H f (nbC W H c d) → A (nbC W H c d) ≠ -5
def Flo (W H : Nat) (f : Nat → Int32) (M c0 : Nat) (A : Nat → Int32) (E : Nat → Nat) (n0 : Nat) (A3 : Nat → Int32) (E3 : Nat → Nat) (n3 : Nat) (S : Nat → Nat) (top : Nat) (p : Nat → Prop) : Prop :=
  Jn (-5) M (fun c => onC W H f c ∧ rch W H f c0 c) A E n0 A3 E3 n3 ∧ E3 n0 = c0 ∧ n0 < n3 ∧ (∀ j, j < top → ∃ i, n0 ≤ i ∧ i < n3 ∧ E3 i = S j) ∧ ∀ i, n0 ≤ i → i < n3 → (∃ j, j < top ∧ S j = E3 i) ∨ p (E3 i) ∨ FlD W H f A3 (E3 i)
theorem nIm5 {M : Nat} (h : M < 1000) : nI M ≠ -5 := by
  intro e
  have := congrArg Int32.toInt e
  rw [nI_toInt (by omega), show (-5 : Int32).toInt = -5 from by decide] at this
  omega
theorem Flo_0 {W H : Nat} {f : Nat → Int32} {M c0 : Nat} {A : Nat → Int32} {E : Nat → Nat} {n0 : Nat} {S : Nat → Nat} (ho : onC W H f c0) (h0 : A c0 = -5) : Flo W H f M c0 A E n0 (upd A c0 (nI M)) (updN E n0 c0) (n0 + 1) (updN S 0 c0) 1 (fun _ => False) :=
  ⟨Jn_1 ⟨ho, rch_r _⟩ h0, updN_eq, by omega, fun j hj => ⟨n0, Nat.le_refl _, by omega, by rw [updN_eq, show j = 0 from by omega, updN_eq]⟩, fun i h1 h2 => Or.inl ⟨0, by omega, by rw [updN_eq, show i = n0 from by omega, updN_eq]⟩⟩
theorem Flo_pop {W H : Nat} {f : Nat → Int32} {M c0 : Nat} {A : Nat → Int32} {E : Nat → Nat} {n0 : Nat} {A3 : Nat → Int32} {E3 : Nat → Nat} {n3 : Nat} {S : Nat → Nat} {top : Nat} (h : Flo W H f M c0 A E n0 A3 E3 n3 S top (fun _ => False)) : Flo W H f M c0 A E n0 A3 E3 n3 S (top - 1) (fun c => c = S (top - 1)) := by
  obtain ⟨h1, h2, h3, h4, h5⟩ := h
  refine ⟨h1, h2, h3, fun j hj => h4 j (by omega), fun i a b => ?_⟩
  rcases h5 i a b with ⟨j, hj, e⟩ | q | q
  · rcases Nat.lt_or_ge j (top - 1) with r | r
    · exact Or.inl ⟨j, r, e⟩
    · exact Or.inr (Or.inl (by show E3 i = S (top - 1); rw [← e, show top - 1 = j from by omega]))
  · exact q.elim
  · exact Or.inr (Or.inr q)
theorem Flo_push {W H : Nat} {f : Nat → Int32} {M c0 : Nat} {A : Nat → Int32} {E : Nat → Nat} {n0 : Nat} {A3 : Nat → Int32} {E3 : Nat → Nat} {n3 : Nat} {S : Nat → Nat} {top c : Nat} {p : Nat → Prop} (hM : M < 1000) (h : Flo W H f M c0 A E n0 A3 E3 n3 S top p) (hc : A3 c = -5) (ho : onC W H f c) (hr : rch W H f c0 c) : Flo W H f M c0 A E n0 (upd A3 c (nI M)) (updN E3 n3 c) (n3 + 1) (updN S top c) (top + 1) p := by
  obtain ⟨h1, h2, h3, h4, h5⟩ := h
  refine ⟨Jn_t (nIm5 hM) h1 (Jn_1 ⟨ho, hr⟩ hc), (updN_ne (by omega)).trans h2, by omega, fun j hj => ?_, fun i a b => ?_⟩
  · rcases Nat.lt_or_ge j top with r | r
    · obtain ⟨i, a, b, e⟩ := h4 j r
      exact ⟨i, a, by omega, by rw [updN_ne (by omega), updN_ne (by omega)]; exact e⟩
    · exact ⟨n3, by omega, by omega, by rw [updN_eq, show j = top from by omega, updN_eq]⟩
  · rcases Nat.lt_or_ge i n3 with r | r
    · rw [updN_ne (by omega)]
      rcases h5 i a r with ⟨j, hj, e⟩ | q | q
      · exact Or.inl ⟨j, by omega, by rw [updN_ne (by omega)]; exact e⟩
      · exact Or.inr (Or.inl q)
      · refine Or.inr (Or.inr fun d hd hod => ?_)
        unfold upd
        split
        · exact nIm5 hM
        · exact q d hd hod
    · exact Or.inl ⟨top, by omega, by rw [updN_eq, show i = n3 from by omega, updN_eq]⟩
theorem Flo_end {W H : Nat} {f : Nat → Int32} {M c0 : Nat} {A : Nat → Int32} {E : Nat → Nat} {n0 : Nat} {A3 : Nat → Int32} {E3 : Nat → Nat} {n3 : Nat} {S : Nat → Nat} {top a : Nat} (h : Flo W H f M c0 A E n0 A3 E3 n3 S top (fun c => c = a)) (hd : FlD W H f A3 a) : Flo W H f M c0 A E n0 A3 E3 n3 S top (fun _ => False) := by
  obtain ⟨h1, h2, h3, h4, h5⟩ := h
  refine ⟨h1, h2, h3, h4, fun i a b => ?_⟩
  rcases h5 i a b with q | q | q
  · exact Or.inl q
  · exact Or.inr (Or.inr (by rw [show E3 i = _ from q]; exact hd))
  · exact Or.inr (Or.inr q)
theorem Flo_at {W H : Nat} {f : Nat → Int32} {M c0 : Nat} {A : Nat → Int32} {E : Nat → Nat} {n0 : Nat} {A3 : Nat → Int32} {E3 : Nat → Nat} {n3 : Nat} {S : Nat → Nat} {top j : Nat} {p : Nat → Prop} (h : Flo W H f M c0 A E n0 A3 E3 n3 S top p) (hj : j < top) : onC W H f (S j) ∧ rch W H f c0 (S j) := by
  obtain ⟨i, a, b, e⟩ := h.2.2.2.1 j hj
  have := (h.1.2.2.2.2.1 i a b).1
  rw [e] at this
  exact this
theorem Flo_fin {W H : Nat} {f : Nat → Int32} {M c0 : Nat} {A : Nat → Int32} {E st : Nat → Nat} {A3 : Nat → Int32} {E3 : Nat → Nat} {n3 : Nat} {S : Nat → Nat} (hW : 2 ≤ W ∧ W ≤ 16) (hH : 2 ≤ H ∧ H ≤ 16) (hM : M < 1000) (hP : ThP (-5) W H f M A E st) (ho : onC W H f c0) (h0 : A c0 = -5) (hb : ∀ c, onC W H f c → c < c0 → A c ≠ -5) (h : Flo W H f M c0 A E (st M) A3 E3 n3 S 0 (fun _ => False)) : ThP (-5) W H f (M + 1) A3 E3 (updN st (M + 1) n3) := by
  refine ThP_s hW hH (nIm5 hM) hP ho h0 hb h.1 h.2.1 h.2.2.1 (fun j h1 h2 d hd hod => ?_)
  rcases h.2.2.2.2 j h1 h2 with ⟨j, hj, _⟩ | q | q
  · omega
  · exact q.elim
  · exact q d hd hod
theorem Flo_le {W H : Nat} {f : Nat → Int32} {M c0 : Nat} {A : Nat → Int32} {E st : Nat → Nat} {A3 : Nat → Int32} {E3 : Nat → Nat} {n3 top : Nat} {S : Nat → Nat} {p : Nat → Prop} (hH : H ≤ 16) (hM : M < 1000) (hP : ThP (-5) W H f M A E st) (h : Flo W H f M c0 A E (st M) A3 E3 n3 S top p) : Ls (-5) A3 E3 n3 :=
  Ls_J (nIm5 hM) (fun c q => onC_lt hH q.1) hP.1 h.1
theorem ThP_neg {W H : Nat} {f : Nat → Int32} {M : Nat} {A : Nat → Int32} {E st : Nat → Nat} (hM : M < 1000) (hP : ThP (-5) W H f M A E st) {c : Nat} (hc : onC W H f c) (hn : (A c).toInt < 0) : A c = -5 := by
  refine Classical.byContradiction fun z => ?_
  obtain ⟨k, hk, e⟩ := ThP_lab hP hc z
  rw [e, nI_toInt (by omega)] at hn
  omega
theorem Flo_neg {W H : Nat} {f : Nat → Int32} {M c0 : Nat} {A : Nat → Int32} {E st : Nat → Nat} {A3 : Nat → Int32} {E3 : Nat → Nat} {n3 top : Nat} {S : Nat → Nat} {p : Nat → Prop} (hM : M < 1000) (hP : ThP (-5) W H f M A E st) (h : Flo W H f M c0 A E (st M) A3 E3 n3 S top p) {c : Nat} (hc : onC W H f c) (hn : (A3 c).toInt < 0) : A3 c = -5 := by
  by_cases q : A c = -5
  · rcases h.1.2.2.2.1 c q with e | ⟨e, _⟩
    · exact e
    · rw [e, nI_toInt (by omega)] at hn
      omega
  · rw [h.1.2.2.1 c q] at hn
    exact absurd (ThP_neg hM hP hc hn) q
/-- how many cells each thing has, and its first -/
def FZ (M : Nat) (E st Ff Zy : Nat → Nat) : Prop := ∀ k, k < M → Ff k = E (st k) ∧ Zy k = st (k + 1) - st k
theorem FZ_s {W H : Nat} {f : Nat → Int32} {M c0 : Nat} {A : Nat → Int32} {E st Ff Zy Zy3 : Nat → Nat} {A3 : Nat → Int32} {E3 : Nat → Nat} {n3 : Nat} {S : Nat → Nat} (hP : ThP (-5) W H f M A E st) (h : Flo W H f M c0 A E (st M) A3 E3 n3 S 0 (fun _ => False)) (hF : FZ M E st Ff Zy) (h1 : n3 = st M + Zy3 M) (h2 : ∀ k, k < M → Zy3 k = Zy k) : FZ (M + 1) E3 (updN st (M + 1) n3) (updN Ff M c0) Zy3 := by
  intro k hk
  rw [updN_ne (show k ≠ M + 1 from by omega)]
  rcases Nat.lt_or_ge k M with q | q
  · have a := hP.2.2.2.2.1 k q
    have b := st_mono hP.2.2.2.2.1 (M - (k + 1)) (k + 1) (by omega)
    rw [show k + 1 + (M - (k + 1)) = M from by omega] at b
    rw [updN_ne (by omega), updN_ne (by omega), h2 k q, h.1.2.1 (st k) (by omega)]
    exact hF k q
  · obtain rfl : k = M := by omega
    rw [updN_eq, updN_eq, h.2.1]
    exact ⟨rfl, by omega⟩
theorem nlk_s {No : Nat → Nat} {i s t : Nat} : nlk (updN No i s) t (i + 1) = nlk No t i + if s = t then 1 else 0 := by
  have a : ∀ n, n ≤ i → nlk (updN No i s) t n = nlk No t n := by
    intro n
    induction n with
    | zero => intro _; rfl
    | succ n ih =>
      intro hn
      show nlk (updN No i s) t n + (if updN No i s n = t then 1 else 0) = nlk No t n + (if No n = t then 1 else 0)
      rw [ih (by omega), updN_ne (by omega)]
  show nlk (updN No i s) t i + (if updN No i s i = t then 1 else 0) = _
  rw [a i (Nat.le_refl _), updN_eq]
theorem nlk_0 {No : Nat → Nat} {s : Nat} : ∀ n, (∀ z, z < n → No z ≠ s) → nlk No s n = 0
  | 0, _ => rfl
  | n + 1, h => by
    show nlk No s n + (if No n = s then 1 else 0) = 0
    rw [nlk_0 n (fun z hz => h z (by omega)), if_neg (h n (by omega))]
theorem sub1_nI {s n : Nat} (hs : s < 1000) (h : 1 ≤ n ∧ n < 1000) : nI s - 1 + nI n = nI (s + n - 1) := by
  apply Int32.toInt_inj.mp
  have a : (nI s).toInt = s := nI_toInt (by omega)
  have b : (nI n).toInt = n := nI_toInt (by omega)
  have e : (1 : Int32).toInt = 1 := by decide
  have d : (nI s - 1).toInt = (s : Int) - 1 := by rw [fb_subI (by rw [a, e]; omega) (by rw [a, e]; omega), a, e]
  rw [fb_addI (by rw [d, b]; omega) (by rw [d, b]; omega), d, b, nI_toInt (by omega)]
  omega
theorem subn_nI {x y n : Nat} (hx : x < 1000) (hy : y < n) (h : n < 1000) : nI x - nI y + nI n = nI (x + n - y) := by
  apply Int32.toInt_inj.mp
  have b : (nI n).toInt = n := nI_toInt (by omega)
  have d := subw hx (show y < 1000 from by omega)
  rw [fb_addI (by rw [d, b]; omega) (by rw [d, b]; omega), d, b, nI_toInt (by omega)]
  omega
theorem crI_m {x a b n : Nat} (hx : x < n) (ha : a < n) (hb : b < n) : (x + (b + n - a)) % n = crI ((x : Int) + ((b : Int) - (a : Int))) n := by
  rcases Nat.lt_or_ge (x + (b + n - a)) n with q | q
  · rw [Nat.mod_eq_of_lt q]
    unfold crI
    rw [if_pos (by omega)]
    omega
  · rw [Nat.mod_eq_sub_mod q]
    rcases Nat.lt_or_ge (x + (b + n - a) - n) n with r | r
    · rw [Nat.mod_eq_of_lt r]
      unfold crI
      rw [if_neg (by omega), if_neg (by omega)]
      omega
    · rw [Nat.mod_eq_sub_mod r, Nat.mod_eq_of_lt (by omega)]
      unfold crI
      rw [if_neg (by omega), if_pos (by omega)]
      omega
theorem crI_m1 {a b n : Nat} (ha : a < n) (hb : b < 3) (hn : 2 ≤ n) : (a + b + n - 1) % n = crI ((a : Int) + (b : Int) - 1) n := by
  rcases Nat.lt_or_ge (a + b + n - 1) n with q | q
  · rw [Nat.mod_eq_of_lt q]
    unfold crI
    rw [if_pos (by omega)]
    omega
  · rw [Nat.mod_eq_sub_mod q]
    rcases Nat.lt_or_ge (a + b + n - 1 - n) n with r | r
    · rw [Nat.mod_eq_of_lt r]
      unfold crI
      rw [if_neg (by omega), if_neg (by omega)]
      omega
    · rw [Nat.mod_eq_sub_mod r, Nat.mod_eq_of_lt (by omega)]
      unfold crI
      rw [if_neg (by omega), if_pos (by omega)]
      omega
theorem inL_th {k : Int32} {n : Nat} (hn : n < 1000) : inL k.toInt64 0 ((nI n - nI 1).toInt64) = decide (0 ≤ k.toInt ∧ k.toInt < (n : Int)) := by
  unfold inL
  have a : (nI n).toInt = n := nI_toInt (by omega)
  have b : (nI 1).toInt = 1 := nI_toInt (by decide)
  rw [toL, toL, fb_subI (by rw [a, b]; omega) (by rw [a, b]; omega), a, b, show (0 : Int64).toInt = 0 from by decide]
  apply decide_eq_decide.mpr
  omega
