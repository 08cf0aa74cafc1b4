def isNest (w : Cond) : Bool := match w with
  | .methodLinkNest _ _ _ _ => true
  | _ => false
def okW (w : Cond) : Bool := goodWord w || isNest w
/-- the words that every method is given: all of the tables that stay -/
def GA : List Cond := lw_tbl.filter okW
theorem gam {w : Cond} (h : w ∈ lw_tbl) (hk : okW w = true) : w ∈ GA := List.mem_filter.mpr ⟨h, hk⟩
theorem ga1 {w : Cond} (h : w ∈ tables_1_1) (hk : okW w = true) : w ∈ GA := gam (List.mem_append_right _ (List.mem_append_left _ h)) hk
theorem ga2 {w : Cond} (h : w ∈ tables_1_2) (hk : okW w = true) : w ∈ GA := gam (List.mem_append_right _ (List.mem_append_right _ (List.mem_append_left _ h))) hk
theorem ga3 {w : Cond} (h : w ∈ tables_1_3) (hk : okW w = true) : w ∈ GA := gam (List.mem_append_right _ (List.mem_append_right _ (List.mem_append_right _ (List.mem_append_left _ h)))) hk
theorem ga4 {w : Cond} (h : w ∈ tables_1_4) (hk : okW w = true) : w ∈ GA := gam (List.mem_append_right _ (List.mem_append_right _ (List.mem_append_right _ (List.mem_append_right _ (List.mem_append_left _ h))))) hk
theorem ga5 {w : Cond} (h : w ∈ tables_1_5) (hk : okW w = true) : w ∈ GA := gam (List.mem_append_right _ (List.mem_append_right _ (List.mem_append_right _ (List.mem_append_right _ (List.mem_append_right _ (h)))))) hk
theorem gp1 {q : MethodName × Nat} (h : q ∈ lw_privs_1) : Cond.selects q.1.cls q.1 q.1 ∈ GA := gam (List.mem_append_left _ (List.mem_map_of_mem (f := fun q => Cond.selects q.1.cls q.1 q.1) (List.mem_append_left _ h))) rfl
theorem gp2 {q : MethodName × Nat} (h : q ∈ lw_privs_2) : Cond.selects q.1.cls q.1 q.1 ∈ GA := gam (List.mem_append_left _ (List.mem_map_of_mem (f := fun q => Cond.selects q.1.cls q.1 q.1) (List.mem_append_right _ (List.mem_append_left _ h)))) rfl
theorem gp3 {q : MethodName × Nat} (h : q ∈ lw_privs_3) : Cond.selects q.1.cls q.1 q.1 ∈ GA := gam (List.mem_append_left _ (List.mem_map_of_mem (f := fun q => Cond.selects q.1.cls q.1 q.1) (List.mem_append_right _ (List.mem_append_right _ (h))))) rfl
theorem GA_keep {args a' : Array Value} {s U : State} (hts : ∀ w ∈ GA, w.before args s = true) (hW : s.WarmedH U.vm) : ∀ w ∈ GA, w.before a' U = true := by
  intro w hw
  have h := hts w hw
  have hk := (List.mem_filter.mp hw).2
  unfold okW at hk
  rcases Bool.or_eq_true _ _ |>.mp hk with h1 | h1
  · exact word_at hW (good_of_word h1) h
  · cases w with
    | methodLinkNest a i x hh => exact va_Nw.use rfl (va_Nw.warmM hW (va_Nw.of rfl h))
    | _ => cases h1
theorem inG0 : ∀ w ∈ wsX00, w ∈ GA := by
  intro w hw
  obtain ⟨k, hk, rfl⟩ := List.mem_map.mp hw
  have hk := List.mem_range.mp hk
  match k, hk with
  | 0, _ => exact ga1 (List.mem_of_getElem? (i := 148) rfl) rfl
  | 1, _ => exact ga1 (List.mem_of_getElem? (i := 150) rfl) rfl
  | 2, _ => exact ga1 (List.mem_of_getElem? (i := 152) rfl) rfl
  | 3, _ => exact ga1 (List.mem_of_getElem? (i := 154) rfl) rfl
  | 4, _ => exact ga1 (List.mem_of_getElem? (i := 156) rfl) rfl
  | 5, _ => exact ga1 (List.mem_of_getElem? (i := 158) rfl) rfl
  | 6, _ => exact ga1 (List.mem_of_getElem? (i := 160) rfl) rfl
  | n + 7, h => omega
theorem inG1 : ∀ w ∈ wsX10, w ∈ GA := by
  intro w hw
  obtain ⟨k, hk, rfl⟩ := List.mem_map.mp hw
  have hk := List.mem_range.mp hk
  match k, hk with
  | 0, _ => exact ga1 (List.mem_of_getElem? (i := 44) rfl) rfl
  | 1, _ => exact ga1 (List.mem_of_getElem? (i := 46) rfl) rfl
  | 2, _ => exact ga1 (List.mem_of_getElem? (i := 48) rfl) rfl
  | 3, _ => exact ga1 (List.mem_of_getElem? (i := 50) rfl) rfl
  | n + 4, h => omega
theorem inG2 : ∀ w ∈ wsX20, w ∈ GA := by
  intro w hw
  obtain ⟨k, hk, rfl⟩ := List.mem_map.mp hw
  have hk := List.mem_range.mp hk
  match k, hk with
  | 0, _ => exact ga1 (List.mem_of_getElem? (i := 227) rfl) rfl
  | 1, _ => exact ga1 (List.mem_of_getElem? (i := 229) rfl) rfl
  | n + 2, h => omega
theorem inG3 : ∀ w ∈ wsX30, w ∈ GA := by
  intro w hw
  obtain ⟨k, hk, rfl⟩ := List.mem_map.mp hw
  have hk := List.mem_range.mp hk
  match k, hk with
  | 0, _ => exact ga1 (List.mem_of_getElem? (i := 82) rfl) rfl
  | 1, _ => exact ga1 (List.mem_of_getElem? (i := 84) rfl) rfl
  | n + 2, h => omega
theorem inG4 : ∀ w ∈ wsX40, w ∈ GA := by
  intro w hw
  obtain ⟨k, hk, rfl⟩ := List.mem_map.mp hw
  have hk := List.mem_range.mp hk
  match k, hk with
  | 0, _ => exact ga1 (List.mem_of_getElem? (i := 100) rfl) rfl
  | 1, _ => exact ga1 (List.mem_of_getElem? (i := 102) rfl) rfl
  | n + 2, h => omega
theorem inG5 : ∀ w ∈ wsX50, w ∈ GA := by
  intro w hw
  obtain ⟨k, hk, rfl⟩ := List.mem_map.mp hw
  have hk := List.mem_range.mp hk
  match k, hk with
  | 0, _ => exact ga1 (List.mem_of_getElem? (i := 212) rfl) rfl
  | 1, _ => exact ga1 (List.mem_of_getElem? (i := 214) rfl) rfl
  | n + 2, h => omega
theorem inG6 : ∀ w ∈ wsX60, w ∈ GA := by
  intro w hw
  obtain ⟨k, hk, rfl⟩ := List.mem_map.mp hw
  have hk := List.mem_range.mp hk
  match k, hk with
  | 0, _ => exact ga1 (List.mem_of_getElem? (i := 181) rfl) rfl
  | 1, _ => exact ga1 (List.mem_of_getElem? (i := 183) rfl) rfl
  | 2, _ => exact ga1 (List.mem_of_getElem? (i := 185) rfl) rfl
  | 3, _ => exact ga1 (List.mem_of_getElem? (i := 187) rfl) rfl
  | 4, _ => exact ga1 (List.mem_of_getElem? (i := 189) rfl) rfl
  | 5, _ => exact ga1 (List.mem_of_getElem? (i := 191) rfl) rfl
  | 6, _ => exact ga1 (List.mem_of_getElem? (i := 193) rfl) rfl
  | 7, _ => exact ga1 (List.mem_of_getElem? (i := 195) rfl) rfl
  | 8, _ => exact ga1 (List.mem_of_getElem? (i := 197) rfl) rfl
  | 9, _ => exact ga1 (List.mem_of_getElem? (i := 199) rfl) rfl
  | n + 10, h => omega
theorem inG7 : ∀ w ∈ wsX70, w ∈ GA := by
  intro w hw
  obtain ⟨k, hk, rfl⟩ := List.mem_map.mp hw
  have hk := List.mem_range.mp hk
  match k, hk with
  | 0, _ => exact ga1 (List.mem_of_getElem? (i := 117) rfl) rfl
  | 1, _ => exact ga1 (List.mem_of_getElem? (i := 119) rfl) rfl
  | 2, _ => exact ga1 (List.mem_of_getElem? (i := 121) rfl) rfl
  | 3, _ => exact ga1 (List.mem_of_getElem? (i := 123) rfl) rfl
  | n + 4, h => omega
theorem inG8 : ∀ w ∈ wsX80, w ∈ GA := by
  intro w hw
  obtain ⟨k, hk, rfl⟩ := List.mem_map.mp hw
  have hk := List.mem_range.mp hk
  match k, hk with
  | 0, _ => exact ga2 (List.mem_of_getElem? (i := 2) rfl) rfl
  | 1, _ => exact ga2 (List.mem_of_getElem? (i := 4) rfl) rfl
  | 2, _ => exact ga2 (List.mem_of_getElem? (i := 6) rfl) rfl
  | 3, _ => exact ga2 (List.mem_of_getElem? (i := 8) rfl) rfl
  | 4, _ => exact ga2 (List.mem_of_getElem? (i := 10) rfl) rfl
  | 5, _ => exact ga2 (List.mem_of_getElem? (i := 12) rfl) rfl
  | 6, _ => exact ga2 (List.mem_of_getElem? (i := 14) rfl) rfl
  | 7, _ => exact ga2 (List.mem_of_getElem? (i := 16) rfl) rfl
  | 8, _ => exact ga2 (List.mem_of_getElem? (i := 18) rfl) rfl
  | n + 9, h => omega
theorem inG9 : ∀ w ∈ wsX90, w ∈ GA := by
  intro w hw
  obtain ⟨k, hk, rfl⟩ := List.mem_map.mp hw
  have hk := List.mem_range.mp hk
  match k, hk with
  | 0, _ => exact ga4 (List.mem_of_getElem? (i := 114) rfl) rfl
  | 1, _ => exact ga4 (List.mem_of_getElem? (i := 116) rfl) rfl
  | 2, _ => exact ga4 (List.mem_of_getElem? (i := 118) rfl) rfl
  | 3, _ => exact ga4 (List.mem_of_getElem? (i := 120) rfl) rfl
  | 4, _ => exact ga4 (List.mem_of_getElem? (i := 122) rfl) rfl
  | 5, _ => exact ga4 (List.mem_of_getElem? (i := 124) rfl) rfl
  | 6, _ => exact ga4 (List.mem_of_getElem? (i := 126) rfl) rfl
  | 7, _ => exact ga4 (List.mem_of_getElem? (i := 128) rfl) rfl
  | 8, _ => exact ga4 (List.mem_of_getElem? (i := 130) rfl) rfl
  | 9, _ => exact ga4 (List.mem_of_getElem? (i := 132) rfl) rfl
  | 10, _ => exact ga4 (List.mem_of_getElem? (i := 134) rfl) rfl
  | 11, _ => exact ga4 (List.mem_of_getElem? (i := 136) rfl) rfl
  | 12, _ => exact ga4 (List.mem_of_getElem? (i := 138) rfl) rfl
  | 13, _ => exact ga4 (List.mem_of_getElem? (i := 140) rfl) rfl
  | 14, _ => exact ga4 (List.mem_of_getElem? (i := 142) rfl) rfl
  | 15, _ => exact ga4 (List.mem_of_getElem? (i := 144) rfl) rfl
  | 16, _ => exact ga4 (List.mem_of_getElem? (i := 146) rfl) rfl
  | 17, _ => exact ga4 (List.mem_of_getElem? (i := 148) rfl) rfl
  | 18, _ => exact ga4 (List.mem_of_getElem? (i := 150) rfl) rfl
  | 19, _ => exact ga4 (List.mem_of_getElem? (i := 152) rfl) rfl
  | 20, _ => exact ga4 (List.mem_of_getElem? (i := 154) rfl) rfl
  | 21, _ => exact ga4 (List.mem_of_getElem? (i := 156) rfl) rfl
  | 22, _ => exact ga4 (List.mem_of_getElem? (i := 158) rfl) rfl
  | 23, _ => exact ga4 (List.mem_of_getElem? (i := 160) rfl) rfl
  | 24, _ => exact ga4 (List.mem_of_getElem? (i := 162) rfl) rfl
  | 25, _ => exact ga4 (List.mem_of_getElem? (i := 164) rfl) rfl
  | 26, _ => exact ga4 (List.mem_of_getElem? (i := 166) rfl) rfl
  | 27, _ => exact ga4 (List.mem_of_getElem? (i := 168) rfl) rfl
  | 28, _ => exact ga4 (List.mem_of_getElem? (i := 170) rfl) rfl
  | 29, _ => exact ga4 (List.mem_of_getElem? (i := 172) rfl) rfl
  | 30, _ => exact ga4 (List.mem_of_getElem? (i := 174) rfl) rfl
  | 31, _ => exact ga4 (List.mem_of_getElem? (i := 176) rfl) rfl
  | 32, _ => exact ga4 (List.mem_of_getElem? (i := 178) rfl) rfl
  | 33, _ => exact ga4 (List.mem_of_getElem? (i := 180) rfl) rfl
  | 34, _ => exact ga4 (List.mem_of_getElem? (i := 182) rfl) rfl
  | 35, _ => exact ga4 (List.mem_of_getElem? (i := 184) rfl) rfl
  | 36, _ => exact ga4 (List.mem_of_getElem? (i := 186) rfl) rfl
  | 37, _ => exact ga4 (List.mem_of_getElem? (i := 188) rfl) rfl
  | 38, _ => exact ga4 (List.mem_of_getElem? (i := 190) rfl) rfl
  | 39, _ => exact ga4 (List.mem_of_getElem? (i := 192) rfl) rfl
  | 40, _ => exact ga4 (List.mem_of_getElem? (i := 194) rfl) rfl
  | n + 41, h => omega
def fldRD (ci k : Nat) (own : String) (index : Nat) (ty : FieldType) : Prop := ∃ (C : String) (T : u_T) (N : Nat), vwCl[ci]? = some (C, T, N) ∧ (∀ w ∈ u_ws C T N, w ∈ GA) ∧ k < N ∧ Cond.fieldLink own index (T k).1 (T k).2.1 (T k).2.2.1 ∈ GA
def fldOK (ci k : Nat) (own : String) (index : Nat) (ty : FieldType) (fin : Bool) : Prop := ∃ (C : String) (T : u_T) (N : Nat) (ty0 : Nat → FieldType), vwCl[ci]? = some (C, T, N) ∧ (∀ w ∈ u_ws C T N, w ∈ GA) ∧ k < N ∧ Cond.fieldLink own index (T k).1 (T k).2.1 (T k).2.2.1 ∈ GA ∧ (∀ k, k < N → parseFieldDescriptor (T k).2.2.1 = some (ty0 k)) ∧ (∀ a, a < N → ∀ b, b < N → a ≠ b → (T a).2.1 ≠ (T b).2.1) ∧ ty0 k = ty ∧ (T k).2.2.2 = fin ∧ (fin = true → (T k).1 = own)
theorem f_RX1_9 : fldOK 1 0 RX1 9 .int false := ⟨RX1, TX1, 4, tyX1, rfl, inG1, by decide, ga1 (List.mem_of_getElem? (i := 33) rfl) rfl, tyX1_ok, nmX1, rfl, rfl, (fun _ => rfl)⟩
theorem f_RX8_73 : fldOK 1 0 RX8 73 .int false := ⟨RX1, TX1, 4, tyX1, rfl, inG1, by decide, ga1 (List.mem_of_getElem? (i := 34) rfl) rfl, tyX1_ok, nmX1, rfl, rfl, (fun h => by cases h)⟩
theorem f_RX0_64 : fldOK 1 0 RX0 64 .int false := ⟨RX1, TX1, 4, tyX1, rfl, inG1, by decide, ga1 (List.mem_of_getElem? (i := 35) rfl) rfl, tyX1_ok, nmX1, rfl, rfl, (fun h => by cases h)⟩
theorem f_RX6_51 : fldOK 1 0 RX6 51 .int false := ⟨RX1, TX1, 4, tyX1, rfl, inG1, by decide, ga1 (List.mem_of_getElem? (i := 36) rfl) rfl, tyX1_ok, nmX1, rfl, rfl, (fun h => by cases h)⟩
theorem f_RX1_15 : fldOK 1 1 RX1 15 .int false := ⟨RX1, TX1, 4, tyX1, rfl, inG1, by decide, ga1 (List.mem_of_getElem? (i := 37) rfl) rfl, tyX1_ok, nmX1, rfl, rfl, (fun _ => rfl)⟩
theorem f_RX8_79 : fldOK 1 1 RX8 79 .int false := ⟨RX1, TX1, 4, tyX1, rfl, inG1, by decide, ga1 (List.mem_of_getElem? (i := 38) rfl) rfl, tyX1_ok, nmX1, rfl, rfl, (fun h => by cases h)⟩
theorem f_RX0_61 : fldOK 1 1 RX0 61 .int false := ⟨RX1, TX1, 4, tyX1, rfl, inG1, by decide, ga1 (List.mem_of_getElem? (i := 39) rfl) rfl, tyX1_ok, nmX1, rfl, rfl, (fun h => by cases h)⟩
theorem f_RX6_54 : fldOK 1 1 RX6 54 .int false := ⟨RX1, TX1, 4, tyX1, rfl, inG1, by decide, ga1 (List.mem_of_getElem? (i := 40) rfl) rfl, tyX1_ok, nmX1, rfl, rfl, (fun h => by cases h)⟩
theorem f_RX1_18 : fldOK 1 2 RX1 18 .int false := ⟨RX1, TX1, 4, tyX1, rfl, inG1, by decide, ga1 (List.mem_of_getElem? (i := 41) rfl) rfl, tyX1_ok, nmX1, rfl, rfl, (fun _ => rfl)⟩
theorem f_RX8_86 : fldOK 1 2 RX8 86 .int false := ⟨RX1, TX1, 4, tyX1, rfl, inG1, by decide, ga1 (List.mem_of_getElem? (i := 42) rfl) rfl, tyX1_ok, nmX1, rfl, rfl, (fun h => by cases h)⟩
theorem f_RX1_21 : fldOK 1 3 RX1 21 (.array .int) true := ⟨RX1, TX1, 4, tyX1, rfl, inG1, by decide, ga1 (List.mem_of_getElem? (i := 43) rfl) rfl, tyX1_ok, nmX1, rfl, rfl, (fun _ => rfl)⟩
theorem f_RX3_9 : fldOK 3 0 RX3 9 (.array .int) true := ⟨RX3, TX3, 2, tyX3, rfl, inG3, by decide, ga1 (List.mem_of_getElem? (i := 80) rfl) rfl, tyX3_ok, nmX3, rfl, rfl, (fun _ => rfl)⟩
theorem f_RX3_15 : fldOK 3 1 RX3 15 (.array .int) true := ⟨RX3, TX3, 2, tyX3, rfl, inG3, by decide, ga1 (List.mem_of_getElem? (i := 81) rfl) rfl, tyX3_ok, nmX3, rfl, rfl, (fun _ => rfl)⟩
theorem f_RX4_7 : fldOK 4 0 RX4 7 .int false := ⟨RX4, TX4, 2, tyX4, rfl, inG4, by decide, ga1 (List.mem_of_getElem? (i := 96) rfl) rfl, tyX4_ok, nmX4, rfl, rfl, (fun _ => rfl)⟩
theorem f_RX8_114 : fldOK 4 0 RX8 114 .int false := ⟨RX4, TX4, 2, tyX4, rfl, inG4, by decide, ga1 (List.mem_of_getElem? (i := 97) rfl) rfl, tyX4_ok, nmX4, rfl, rfl, (fun h => by cases h)⟩
theorem f_RX0_99 : fldOK 4 0 RX0 99 .int false := ⟨RX4, TX4, 2, tyX4, rfl, inG4, by decide, ga1 (List.mem_of_getElem? (i := 98) rfl) rfl, tyX4_ok, nmX4, rfl, rfl, (fun h => by cases h)⟩
theorem f_RX4_19 : fldOK 4 1 RX4 19 (.array .int) true := ⟨RX4, TX4, 2, tyX4, rfl, inG4, by decide, ga1 (List.mem_of_getElem? (i := 99) rfl) rfl, tyX4_ok, nmX4, rfl, rfl, (fun _ => rfl)⟩
theorem f_RX7_12 : fldOK 7 0 RX7 12 (.object "BlockCells$Grid") true := ⟨RX7, TX7, 4, tyX7, rfl, inG7, by decide, ga1 (List.mem_of_getElem? (i := 105) rfl) rfl, tyX7_ok, nmX7, rfl, rfl, (fun _ => rfl)⟩
theorem f_RX8_69 : fldRD 7 0 RX8 69 (.object "BlockCells$Grid") := ⟨RX7, TX7, 4, rfl, inG7, by decide, ga1 (List.mem_of_getElem? (i := 106) rfl) rfl⟩
theorem f_RX0_107 : fldRD 7 0 RX0 107 (.object "BlockCells$Grid") := ⟨RX7, TX7, 4, rfl, inG7, by decide, ga1 (List.mem_of_getElem? (i := 107) rfl) rfl⟩
theorem f_RX7_21 : fldOK 7 1 RX7 21 (.object "BlockCells$Rule") true := ⟨RX7, TX7, 4, tyX7, rfl, inG7, by decide, ga1 (List.mem_of_getElem? (i := 108) rfl) rfl, tyX7_ok, nmX7, rfl, rfl, (fun _ => rfl)⟩
theorem f_RX8_148 : fldRD 7 1 RX8 148 (.object "BlockCells$Rule") := ⟨RX7, TX7, 4, rfl, inG7, by decide, ga1 (List.mem_of_getElem? (i := 109) rfl) rfl⟩
theorem f_RX0_122 : fldRD 7 1 RX0 122 (.object "BlockCells$Rule") := ⟨RX7, TX7, 4, rfl, inG7, by decide, ga1 (List.mem_of_getElem? (i := 110) rfl) rfl⟩
theorem f_RX7_30 : fldOK 7 2 RX7 30 (.object "BlockCells$Table") true := ⟨RX7, TX7, 4, tyX7, rfl, inG7, by decide, ga1 (List.mem_of_getElem? (i := 111) rfl) rfl, tyX7_ok, nmX7, rfl, rfl, (fun _ => rfl)⟩
theorem f_RX0_93 : fldRD 7 2 RX0 93 (.object "BlockCells$Table") := ⟨RX7, TX7, 4, rfl, inG7, by decide, ga1 (List.mem_of_getElem? (i := 112) rfl) rfl⟩
theorem f_RX8_271 : fldRD 7 2 RX8 271 (.object "BlockCells$Table") := ⟨RX7, TX7, 4, rfl, inG7, by decide, ga1 (List.mem_of_getElem? (i := 113) rfl) rfl⟩
theorem f_RX7_34 : fldOK 7 3 RX7 34 (.object "BlockCells$Table") true := ⟨RX7, TX7, 4, tyX7, rfl, inG7, by decide, ga1 (List.mem_of_getElem? (i := 114) rfl) rfl, tyX7_ok, nmX7, rfl, rfl, (fun _ => rfl)⟩
theorem f_RX0_126 : fldRD 7 3 RX0 126 (.object "BlockCells$Table") := ⟨RX7, TX7, 4, rfl, inG7, by decide, ga1 (List.mem_of_getElem? (i := 115) rfl) rfl⟩
theorem f_RX8_281 : fldRD 7 3 RX8 281 (.object "BlockCells$Table") := ⟨RX7, TX7, 4, rfl, inG7, by decide, ga1 (List.mem_of_getElem? (i := 116) rfl) rfl⟩
theorem f_RX0_9 : fldOK 0 0 RX0 9 .int false := ⟨RX0, TX0, 7, tyX0, rfl, inG0, by decide, ga1 (List.mem_of_getElem? (i := 138) rfl) rfl, tyX0_ok, nmX0, rfl, rfl, (fun _ => rfl)⟩
theorem f_RX8_200 : fldOK 0 0 RX8 200 .int false := ⟨RX0, TX0, 7, tyX0, rfl, inG0, by decide, ga1 (List.mem_of_getElem? (i := 139) rfl) rfl, tyX0_ok, nmX0, rfl, rfl, (fun h => by cases h)⟩
theorem f_RX0_15 : fldOK 0 1 RX0 15 .int false := ⟨RX0, TX0, 7, tyX0, rfl, inG0, by decide, ga1 (List.mem_of_getElem? (i := 140) rfl) rfl, tyX0_ok, nmX0, rfl, rfl, (fun _ => rfl)⟩
theorem f_RX8_203 : fldOK 0 1 RX8 203 .int false := ⟨RX0, TX0, 7, tyX0, rfl, inG0, by decide, ga1 (List.mem_of_getElem? (i := 141) rfl) rfl, tyX0_ok, nmX0, rfl, rfl, (fun h => by cases h)⟩
theorem f_RX0_18 : fldOK 0 2 RX0 18 .int false := ⟨RX0, TX0, 7, tyX0, rfl, inG0, by decide, ga1 (List.mem_of_getElem? (i := 142) rfl) rfl, tyX0_ok, nmX0, rfl, rfl, (fun _ => rfl)⟩
theorem f_RX8_206 : fldOK 0 2 RX8 206 .int false := ⟨RX0, TX0, 7, tyX0, rfl, inG0, by decide, ga1 (List.mem_of_getElem? (i := 143) rfl) rfl, tyX0_ok, nmX0, rfl, rfl, (fun h => by cases h)⟩
theorem f_RX0_24 : fldOK 0 3 RX0 24 (.object "BlockCells$Grid") true := ⟨RX0, TX0, 7, tyX0, rfl, inG0, by decide, ga1 (List.mem_of_getElem? (i := 144) rfl) rfl, tyX0_ok, nmX0, rfl, rfl, (fun _ => rfl)⟩
theorem f_RX0_31 : fldOK 0 4 RX0 31 (.object "BlockCells$Rule") true := ⟨RX0, TX0, 7, tyX0, rfl, inG0, by decide, ga1 (List.mem_of_getElem? (i := 145) rfl) rfl, tyX0_ok, nmX0, rfl, rfl, (fun _ => rfl)⟩
theorem f_RX0_35 : fldOK 0 5 RX0 35 (.array .int) true := ⟨RX0, TX0, 7, tyX0, rfl, inG0, by decide, ga1 (List.mem_of_getElem? (i := 146) rfl) rfl, tyX0_ok, nmX0, rfl, rfl, (fun _ => rfl)⟩
theorem f_RX0_39 : fldOK 0 6 RX0 39 .int false := ⟨RX0, TX0, 7, tyX0, rfl, inG0, by decide, ga1 (List.mem_of_getElem? (i := 147) rfl) rfl, tyX0_ok, nmX0, rfl, rfl, (fun _ => rfl)⟩
theorem f_RX6_9 : fldOK 6 0 RX6 9 .int false := ⟨RX6, TX6, 10, tyX6, rfl, inG6, by decide, ga1 (List.mem_of_getElem? (i := 169) rfl) rfl, tyX6_ok, nmX6, rfl, rfl, (fun _ => rfl)⟩
theorem f_RX8_144 : fldOK 6 0 RX8 144 .int false := ⟨RX6, TX6, 10, tyX6, rfl, inG6, by decide, ga1 (List.mem_of_getElem? (i := 170) rfl) rfl, tyX6_ok, nmX6, rfl, rfl, (fun h => by cases h)⟩
theorem f_RX6_15 : fldOK 6 1 RX6 15 .int false := ⟨RX6, TX6, 10, tyX6, rfl, inG6, by decide, ga1 (List.mem_of_getElem? (i := 171) rfl) rfl, tyX6_ok, nmX6, rfl, rfl, (fun _ => rfl)⟩
theorem f_RX8_145 : fldOK 6 1 RX8 145 .int false := ⟨RX6, TX6, 10, tyX6, rfl, inG6, by decide, ga1 (List.mem_of_getElem? (i := 172) rfl) rfl, tyX6_ok, nmX6, rfl, rfl, (fun h => by cases h)⟩
theorem f_RX6_18 : fldOK 6 2 RX6 18 .int false := ⟨RX6, TX6, 10, tyX6, rfl, inG6, by decide, ga1 (List.mem_of_getElem? (i := 173) rfl) rfl, tyX6_ok, nmX6, rfl, rfl, (fun _ => rfl)⟩
theorem f_RX6_21 : fldOK 6 3 RX6 21 .int false := ⟨RX6, TX6, 10, tyX6, rfl, inG6, by decide, ga1 (List.mem_of_getElem? (i := 174) rfl) rfl, tyX6_ok, nmX6, rfl, rfl, (fun _ => rfl)⟩
theorem f_RX6_24 : fldOK 6 4 RX6 24 (.array .int) true := ⟨RX6, TX6, 10, tyX6, rfl, inG6, by decide, ga1 (List.mem_of_getElem? (i := 175) rfl) rfl, tyX6_ok, nmX6, rfl, rfl, (fun _ => rfl)⟩
theorem f_RX6_28 : fldOK 6 5 RX6 28 (.array .int) true := ⟨RX6, TX6, 10, tyX6, rfl, inG6, by decide, ga1 (List.mem_of_getElem? (i := 176) rfl) rfl, tyX6_ok, nmX6, rfl, rfl, (fun _ => rfl)⟩
theorem f_RX6_31 : fldOK 6 6 RX6 31 .int false := ⟨RX6, TX6, 10, tyX6, rfl, inG6, by decide, ga1 (List.mem_of_getElem? (i := 177) rfl) rfl, tyX6_ok, nmX6, rfl, rfl, (fun _ => rfl)⟩
theorem f_RX6_34 : fldOK 6 7 RX6 34 (.array .int) true := ⟨RX6, TX6, 10, tyX6, rfl, inG6, by decide, ga1 (List.mem_of_getElem? (i := 178) rfl) rfl, tyX6_ok, nmX6, rfl, rfl, (fun _ => rfl)⟩
theorem f_RX6_37 : fldOK 6 8 RX6 37 (.array .int) true := ⟨RX6, TX6, 10, tyX6, rfl, inG6, by decide, ga1 (List.mem_of_getElem? (i := 179) rfl) rfl, tyX6_ok, nmX6, rfl, rfl, (fun _ => rfl)⟩
theorem f_RX6_40 : fldOK 6 9 RX6 40 (.array .int) true := ⟨RX6, TX6, 10, tyX6, rfl, inG6, by decide, ga1 (List.mem_of_getElem? (i := 180) rfl) rfl, tyX6_ok, nmX6, rfl, rfl, (fun _ => rfl)⟩
theorem f_RX5_9 : fldOK 5 0 RX5 9 .int false := ⟨RX5, TX5, 2, tyX5, rfl, inG5, by decide, ga1 (List.mem_of_getElem? (i := 209) rfl) rfl, tyX5_ok, nmX5, rfl, rfl, (fun _ => rfl)⟩
theorem f_RX8_234 : fldOK 5 0 RX8 234 .int false := ⟨RX5, TX5, 2, tyX5, rfl, inG5, by decide, ga1 (List.mem_of_getElem? (i := 210) rfl) rfl, tyX5_ok, nmX5, rfl, rfl, (fun h => by cases h)⟩
theorem f_RX5_21 : fldOK 5 1 RX5 21 (.array .int) true := ⟨RX5, TX5, 2, tyX5, rfl, inG5, by decide, ga1 (List.mem_of_getElem? (i := 211) rfl) rfl, tyX5_ok, nmX5, rfl, rfl, (fun _ => rfl)⟩
theorem f_RX2_9 : fldOK 2 0 RX2 9 .int false := ⟨RX2, TX2, 2, tyX2, rfl, inG2, by decide, ga1 (List.mem_of_getElem? (i := 224) rfl) rfl, tyX2_ok, nmX2, rfl, rfl, (fun _ => rfl)⟩
theorem f_RX8_267 : fldOK 2 0 RX8 267 .int false := ⟨RX2, TX2, 2, tyX2, rfl, inG2, by decide, ga1 (List.mem_of_getElem? (i := 225) rfl) rfl, tyX2_ok, nmX2, rfl, rfl, (fun h => by cases h)⟩
theorem f_RX2_15 : fldOK 2 1 RX2 15 (.array .long) true := ⟨RX2, TX2, 2, tyX2, rfl, inG2, by decide, ga1 (List.mem_of_getElem? (i := 226) rfl) rfl, tyX2_ok, nmX2, rfl, rfl, (fun _ => rfl)⟩
theorem f_RX8_12 : fldOK 8 0 RX8 12 (.object "BlockCells$Whole") true := ⟨RX8, TX8, 9, tyX8, rfl, inG8, by decide, ga1 (List.mem_of_getElem? (i := 233) rfl) rfl, tyX8_ok, nmX8, rfl, rfl, (fun _ => rfl)⟩
theorem f_RX8_18 : fldOK 8 1 RX8 18 (.object "BlockCells$Whole") true := ⟨RX8, TX8, 9, tyX8, rfl, inG8, by decide, ga1 (List.mem_of_getElem? (i := 234) rfl) rfl, tyX8_ok, nmX8, rfl, rfl, (fun _ => rfl)⟩
theorem f_RX8_21 : fldOK 8 2 RX8 21 .boolean false := ⟨RX8, TX8, 9, tyX8, rfl, inG8, by decide, ga1 (List.mem_of_getElem? (i := 235) rfl) rfl, tyX8_ok, nmX8, rfl, rfl, (fun _ => rfl)⟩
theorem f_RX8_30 : fldOK 8 3 RX8 30 (.object "BlockCells$Table") true := ⟨RX8, TX8, 9, tyX8, rfl, inG8, by decide, ga1 (List.mem_of_getElem? (i := 236) rfl) rfl, tyX8_ok, nmX8, rfl, rfl, (fun _ => rfl)⟩
theorem f_RX8_37 : fldOK 8 4 RX8 37 (.object "BlockCells$Ahead") true := ⟨RX8, TX8, 9, tyX8, rfl, inG8, by decide, ga1 (List.mem_of_getElem? (i := 237) rfl) rfl, tyX8_ok, nmX8, rfl, rfl, (fun _ => rfl)⟩
theorem f_RX8_44 : fldOK 8 5 RX8 44 (.object "BlockCells$Things") true := ⟨RX8, TX8, 9, tyX8, rfl, inG8, by decide, ga1 (List.mem_of_getElem? (i := 238) rfl) rfl, tyX8_ok, nmX8, rfl, rfl, (fun _ => rfl)⟩
theorem f_RX8_51 : fldOK 8 6 RX8 51 (.object "BlockCells$Text") true := ⟨RX8, TX8, 9, tyX8, rfl, inG8, by decide, ga1 (List.mem_of_getElem? (i := 239) rfl) rfl, tyX8_ok, nmX8, rfl, rfl, (fun _ => rfl)⟩
theorem f_RX8_55 : fldOK 8 7 RX8 55 (.object "BlockCells$Text") true := ⟨RX8, TX8, 9, tyX8, rfl, inG8, by decide, ga2 (List.mem_of_getElem? (i := 0) rfl) rfl, tyX8_ok, nmX8, rfl, rfl, (fun _ => rfl)⟩
theorem f_RX8_60 : fldOK 8 8 RX8 60 (.array (.object "BlockCells$Row")) true := ⟨RX8, TX8, 9, tyX8, rfl, inG8, by decide, ga2 (List.mem_of_getElem? (i := 1) rfl) rfl, tyX8_ok, nmX8, rfl, rfl, (fun _ => rfl)⟩
theorem f_RX9_9 : fldOK 9 0 RX9 9 .int false := ⟨RX9, TX9, 41, tyX9, rfl, inG9, by decide, ga4 (List.mem_of_getElem? (i := 73) rfl) rfl, tyX9_ok, nmX9, rfl, rfl, (fun _ => rfl)⟩
theorem f_RX9_15 : fldOK 9 1 RX9 15 .int false := ⟨RX9, TX9, 41, tyX9, rfl, inG9, by decide, ga4 (List.mem_of_getElem? (i := 74) rfl) rfl, tyX9_ok, nmX9, rfl, rfl, (fun _ => rfl)⟩
theorem f_RX9_142 : fldOK 9 2 RX9 142 .int false := ⟨RX9, TX9, 41, tyX9, rfl, inG9, by decide, ga4 (List.mem_of_getElem? (i := 75) rfl) rfl, tyX9_ok, nmX9, rfl, rfl, (fun _ => rfl)⟩
theorem f_RX9_266 : fldOK 9 3 RX9 266 .int false := ⟨RX9, TX9, 41, tyX9, rfl, inG9, by decide, ga4 (List.mem_of_getElem? (i := 76) rfl) rfl, tyX9_ok, nmX9, rfl, rfl, (fun _ => rfl)⟩
theorem f_RX9_279 : fldOK 9 4 RX9 279 .int false := ⟨RX9, TX9, 41, tyX9, rfl, inG9, by decide, ga4 (List.mem_of_getElem? (i := 77) rfl) rfl, tyX9_ok, nmX9, rfl, rfl, (fun _ => rfl)⟩
theorem f_RX9_18 : fldOK 9 5 RX9 18 (.array .int) true := ⟨RX9, TX9, 41, tyX9, rfl, inG9, by decide, ga4 (List.mem_of_getElem? (i := 78) rfl) rfl, tyX9_ok, nmX9, rfl, rfl, (fun _ => rfl)⟩
theorem f_RX9_22 : fldOK 9 6 RX9 22 (.array .int) true := ⟨RX9, TX9, 41, tyX9, rfl, inG9, by decide, ga4 (List.mem_of_getElem? (i := 79) rfl) rfl, tyX9_ok, nmX9, rfl, rfl, (fun _ => rfl)⟩
theorem f_RX9_25 : fldOK 9 7 RX9 25 (.array .int) true := ⟨RX9, TX9, 41, tyX9, rfl, inG9, by decide, ga4 (List.mem_of_getElem? (i := 80) rfl) rfl, tyX9_ok, nmX9, rfl, rfl, (fun _ => rfl)⟩
theorem f_RX9_28 : fldOK 9 8 RX9 28 (.array .int) true := ⟨RX9, TX9, 41, tyX9, rfl, inG9, by decide, ga4 (List.mem_of_getElem? (i := 81) rfl) rfl, tyX9_ok, nmX9, rfl, rfl, (fun _ => rfl)⟩
theorem f_RX9_31 : fldOK 9 9 RX9 31 (.array .int) true := ⟨RX9, TX9, 41, tyX9, rfl, inG9, by decide, ga4 (List.mem_of_getElem? (i := 82) rfl) rfl, tyX9_ok, nmX9, rfl, rfl, (fun _ => rfl)⟩
theorem f_RX9_34 : fldOK 9 10 RX9 34 (.array .int) true := ⟨RX9, TX9, 41, tyX9, rfl, inG9, by decide, ga4 (List.mem_of_getElem? (i := 83) rfl) rfl, tyX9_ok, nmX9, rfl, rfl, (fun _ => rfl)⟩
theorem f_RX9_37 : fldOK 9 11 RX9 37 (.array .int) true := ⟨RX9, TX9, 41, tyX9, rfl, inG9, by decide, ga4 (List.mem_of_getElem? (i := 84) rfl) rfl, tyX9_ok, nmX9, rfl, rfl, (fun _ => rfl)⟩
theorem f_RX9_40 : fldOK 9 12 RX9 40 (.array .int) true := ⟨RX9, TX9, 41, tyX9, rfl, inG9, by decide, ga4 (List.mem_of_getElem? (i := 85) rfl) rfl, tyX9_ok, nmX9, rfl, rfl, (fun _ => rfl)⟩
theorem f_RX9_43 : fldOK 9 13 RX9 43 (.array .int) true := ⟨RX9, TX9, 41, tyX9, rfl, inG9, by decide, ga4 (List.mem_of_getElem? (i := 86) rfl) rfl, tyX9_ok, nmX9, rfl, rfl, (fun _ => rfl)⟩
theorem f_RX9_46 : fldOK 9 14 RX9 46 (.array .int) true := ⟨RX9, TX9, 41, tyX9, rfl, inG9, by decide, ga4 (List.mem_of_getElem? (i := 87) rfl) rfl, tyX9_ok, nmX9, rfl, rfl, (fun _ => rfl)⟩
theorem f_RX9_49 : fldOK 9 15 RX9 49 (.array .int) true := ⟨RX9, TX9, 41, tyX9, rfl, inG9, by decide, ga4 (List.mem_of_getElem? (i := 88) rfl) rfl, tyX9_ok, nmX9, rfl, rfl, (fun _ => rfl)⟩
theorem f_RX9_145 : fldOK 9 16 RX9 145 .int false := ⟨RX9, TX9, 41, tyX9, rfl, inG9, by decide, ga4 (List.mem_of_getElem? (i := 89) rfl) rfl, tyX9_ok, nmX9, rfl, rfl, (fun _ => rfl)⟩
theorem f_RX9_52 : fldOK 9 17 RX9 52 (.array .int) true := ⟨RX9, TX9, 41, tyX9, rfl, inG9, by decide, ga4 (List.mem_of_getElem? (i := 90) rfl) rfl, tyX9_ok, nmX9, rfl, rfl, (fun _ => rfl)⟩
theorem f_RX9_55 : fldOK 9 18 RX9 55 (.array .int) true := ⟨RX9, TX9, 41, tyX9, rfl, inG9, by decide, ga4 (List.mem_of_getElem? (i := 91) rfl) rfl, tyX9_ok, nmX9, rfl, rfl, (fun _ => rfl)⟩
theorem f_RX9_156 : fldOK 9 19 RX9 156 .int false := ⟨RX9, TX9, 41, tyX9, rfl, inG9, by decide, ga4 (List.mem_of_getElem? (i := 92) rfl) rfl, tyX9_ok, nmX9, rfl, rfl, (fun _ => rfl)⟩
theorem f_RX9_58 : fldOK 9 20 RX9 58 (.array .int) true := ⟨RX9, TX9, 41, tyX9, rfl, inG9, by decide, ga4 (List.mem_of_getElem? (i := 93) rfl) rfl, tyX9_ok, nmX9, rfl, rfl, (fun _ => rfl)⟩
theorem f_RX9_61 : fldOK 9 21 RX9 61 (.array .int) true := ⟨RX9, TX9, 41, tyX9, rfl, inG9, by decide, ga4 (List.mem_of_getElem? (i := 94) rfl) rfl, tyX9_ok, nmX9, rfl, rfl, (fun _ => rfl)⟩
theorem f_RX9_64 : fldOK 9 22 RX9 64 (.array .int) true := ⟨RX9, TX9, 41, tyX9, rfl, inG9, by decide, ga4 (List.mem_of_getElem? (i := 95) rfl) rfl, tyX9_ok, nmX9, rfl, rfl, (fun _ => rfl)⟩
theorem f_RX9_67 : fldOK 9 23 RX9 67 (.array .int) true := ⟨RX9, TX9, 41, tyX9, rfl, inG9, by decide, ga4 (List.mem_of_getElem? (i := 96) rfl) rfl, tyX9_ok, nmX9, rfl, rfl, (fun _ => rfl)⟩
theorem f_RX9_70 : fldOK 9 24 RX9 70 (.array .int) true := ⟨RX9, TX9, 41, tyX9, rfl, inG9, by decide, ga4 (List.mem_of_getElem? (i := 97) rfl) rfl, tyX9_ok, nmX9, rfl, rfl, (fun _ => rfl)⟩
theorem f_RX9_73 : fldOK 9 25 RX9 73 (.array .int) true := ⟨RX9, TX9, 41, tyX9, rfl, inG9, by decide, ga4 (List.mem_of_getElem? (i := 98) rfl) rfl, tyX9_ok, nmX9, rfl, rfl, (fun _ => rfl)⟩
theorem f_RX9_76 : fldOK 9 26 RX9 76 (.array .int) true := ⟨RX9, TX9, 41, tyX9, rfl, inG9, by decide, ga4 (List.mem_of_getElem? (i := 99) rfl) rfl, tyX9_ok, nmX9, rfl, rfl, (fun _ => rfl)⟩
theorem f_RX9_79 : fldOK 9 27 RX9 79 (.array .int) true := ⟨RX9, TX9, 41, tyX9, rfl, inG9, by decide, ga4 (List.mem_of_getElem? (i := 100) rfl) rfl, tyX9_ok, nmX9, rfl, rfl, (fun _ => rfl)⟩
theorem f_RX9_175 : fldOK 9 28 RX9 175 .int false := ⟨RX9, TX9, 41, tyX9, rfl, inG9, by decide, ga4 (List.mem_of_getElem? (i := 101) rfl) rfl, tyX9_ok, nmX9, rfl, rfl, (fun _ => rfl)⟩
theorem f_RX9_178 : fldOK 9 29 RX9 178 .int false := ⟨RX9, TX9, 41, tyX9, rfl, inG9, by decide, ga4 (List.mem_of_getElem? (i := 102) rfl) rfl, tyX9_ok, nmX9, rfl, rfl, (fun _ => rfl)⟩
theorem f_RX9_82 : fldOK 9 30 RX9 82 (.array .int) true := ⟨RX9, TX9, 41, tyX9, rfl, inG9, by decide, ga4 (List.mem_of_getElem? (i := 103) rfl) rfl, tyX9_ok, nmX9, rfl, rfl, (fun _ => rfl)⟩
theorem f_RX9_85 : fldOK 9 31 RX9 85 (.array .int) true := ⟨RX9, TX9, 41, tyX9, rfl, inG9, by decide, ga4 (List.mem_of_getElem? (i := 104) rfl) rfl, tyX9_ok, nmX9, rfl, rfl, (fun _ => rfl)⟩
theorem f_RX9_88 : fldOK 9 32 RX9 88 (.array .int) true := ⟨RX9, TX9, 41, tyX9, rfl, inG9, by decide, ga4 (List.mem_of_getElem? (i := 105) rfl) rfl, tyX9_ok, nmX9, rfl, rfl, (fun _ => rfl)⟩
theorem f_RX9_240 : fldOK 9 33 RX9 240 .int false := ⟨RX9, TX9, 41, tyX9, rfl, inG9, by decide, ga4 (List.mem_of_getElem? (i := 106) rfl) rfl, tyX9_ok, nmX9, rfl, rfl, (fun _ => rfl)⟩
theorem f_RX9_252 : fldOK 9 34 RX9 252 .int false := ⟨RX9, TX9, 41, tyX9, rfl, inG9, by decide, ga4 (List.mem_of_getElem? (i := 107) rfl) rfl, tyX9_ok, nmX9, rfl, rfl, (fun _ => rfl)⟩
theorem f_RX9_243 : fldOK 9 35 RX9 243 .int false := ⟨RX9, TX9, 41, tyX9, rfl, inG9, by decide, ga4 (List.mem_of_getElem? (i := 108) rfl) rfl, tyX9_ok, nmX9, rfl, rfl, (fun _ => rfl)⟩
theorem f_RX9_246 : fldOK 9 36 RX9 246 .int false := ⟨RX9, TX9, 41, tyX9, rfl, inG9, by decide, ga4 (List.mem_of_getElem? (i := 109) rfl) rfl, tyX9_ok, nmX9, rfl, rfl, (fun _ => rfl)⟩
theorem f_RX9_91 : fldOK 9 37 RX9 91 (.array .int) true := ⟨RX9, TX9, 41, tyX9, rfl, inG9, by decide, ga4 (List.mem_of_getElem? (i := 110) rfl) rfl, tyX9_ok, nmX9, rfl, rfl, (fun _ => rfl)⟩
theorem f_RX9_94 : fldOK 9 38 RX9 94 (.array .long) true := ⟨RX9, TX9, 41, tyX9, rfl, inG9, by decide, ga4 (List.mem_of_getElem? (i := 111) rfl) rfl, tyX9_ok, nmX9, rfl, rfl, (fun _ => rfl)⟩
theorem f_RX9_98 : fldOK 9 39 RX9 98 (.array .int) true := ⟨RX9, TX9, 41, tyX9, rfl, inG9, by decide, ga4 (List.mem_of_getElem? (i := 112) rfl) rfl, tyX9_ok, nmX9, rfl, rfl, (fun _ => rfl)⟩
theorem f_RX9_296 : fldOK 9 40 RX9 296 .boolean false := ⟨RX9, TX9, 41, tyX9, rfl, inG9, by decide, ga4 (List.mem_of_getElem? (i := 113) rfl) rfl, tyX9_ok, nmX9, rfl, rfl, (fun _ => rfl)⟩
/-- a method that can be called: its code, its class made ready, an instance's or a static one; n parameters -/
def mOK (y : MethodName) (b : ByteArray) (maxL : Nat) (ret : Option FieldType) (n : Nat) : Prop := Cond.code y b maxL ret ∈ GA ∧ Cond.initialized y.cls ∈ GA ∧ (y.cls ≠ "java/lang/invoke/MethodHandle" ∧ y.cls ≠ "java/lang/invoke/VarHandle" ∧ (parseMethodDescriptor y.desc).map (fun d => d.parameters.length) = some n)
def mV (y : MethodName) : Prop := Cond.instanceMethod y ∈ GA ∧ Cond.selects y.cls y y ∈ GA
def mI (y : MethodName) : Prop := Cond.instanceMethod y ∈ GA ∧ y.name = "<init>"
def mS (y : MethodName) : Prop := Cond.static y ∈ GA
theorem kX0_init : mOK yX0_init cX0_init 1 none 0 := ⟨ga1 (List.mem_of_getElem? (i := 132) rfl) rfl, ga1 (List.mem_of_getElem? (i := 7) rfl) rfl, ⟨by decide +kernel, by decide +kernel, by decide +kernel⟩⟩
theorem kIX0_init : mI yX0_init := ⟨ga1 (List.mem_of_getElem? (i := 131) rfl) rfl, rfl⟩
theorem kX0_cellThen : mOK yX0_cellThen cX0_cellThen 5 (some .int) 4 := ⟨ga2 (List.mem_of_getElem? (i := 237) rfl) rfl, ga1 (List.mem_of_getElem? (i := 7) rfl) rfl, ⟨by decide +kernel, by decide +kernel, by decide +kernel⟩⟩
theorem kVX0_cellThen : mV yX0_cellThen := ⟨ga2 (List.mem_of_getElem? (i := 235) rfl) rfl, ga2 (List.mem_of_getElem? (i := 236) rfl) rfl⟩
theorem kX0_stepsToSame : mOK yX0_stepsToSame cX0_stepsToSame 4 (some .int) 2 := ⟨ga3 (List.mem_of_getElem? (i := 41) rfl) rfl, ga1 (List.mem_of_getElem? (i := 7) rfl) rfl, ⟨by decide +kernel, by decide +kernel, by decide +kernel⟩⟩
theorem kVX0_stepsToSame : mV yX0_stepsToSame := ⟨ga3 (List.mem_of_getElem? (i := 39) rfl) rfl, ga3 (List.mem_of_getElem? (i := 40) rfl) rfl⟩
theorem kX0_findMove : mOK yX0_findMove cX0_findMove 4 (some .boolean) 2 := ⟨ga3 (List.mem_of_getElem? (i := 61) rfl) rfl, ga1 (List.mem_of_getElem? (i := 7) rfl) rfl, ⟨by decide +kernel, by decide +kernel, by decide +kernel⟩⟩
theorem kVX0_findMove : mV yX0_findMove := ⟨ga3 (List.mem_of_getElem? (i := 59) rfl) rfl, ga3 (List.mem_of_getElem? (i := 60) rfl) rfl⟩
theorem kX0_isMoved : mOK yX0_isMoved cX0_isMoved 4 (some .boolean) 1 := ⟨ga3 (List.mem_of_getElem? (i := 65) rfl) rfl, ga1 (List.mem_of_getElem? (i := 7) rfl) rfl, ⟨by decide +kernel, by decide +kernel, by decide +kernel⟩⟩
theorem kVX0_isMoved : mV yX0_isMoved := ⟨ga3 (List.mem_of_getElem? (i := 64) rfl) rfl, gp1 (List.mem_of_getElem? (i := 11) rfl)⟩
theorem kX0_unlikeGrids : mOK yX0_unlikeGrids cX0_unlikeGrids 5 (some .int) 3 := ⟨ga3 (List.mem_of_getElem? (i := 74) rfl) rfl, ga1 (List.mem_of_getElem? (i := 7) rfl) rfl, ⟨by decide +kernel, by decide +kernel, by decide +kernel⟩⟩
theorem kVX0_unlikeGrids : mV yX0_unlikeGrids := ⟨ga3 (List.mem_of_getElem? (i := 72) rfl) rfl, ga3 (List.mem_of_getElem? (i := 73) rfl) rfl⟩
theorem kX0_keepIfUnlike : mOK yX0_keepIfUnlike cX0_keepIfUnlike 2 none 0 := ⟨ga3 (List.mem_of_getElem? (i := 78) rfl) rfl, ga1 (List.mem_of_getElem? (i := 7) rfl) rfl, ⟨by decide +kernel, by decide +kernel, by decide +kernel⟩⟩
theorem kVX0_keepIfUnlike : mV yX0_keepIfUnlike := ⟨ga3 (List.mem_of_getElem? (i := 77) rfl) rfl, gp1 (List.mem_of_getElem? (i := 12) rfl)⟩
theorem kX0_isKeptAs : mOK yX0_isKeptAs cX0_isKeptAs 3 (some .boolean) 1 := ⟨ga3 (List.mem_of_getElem? (i := 82) rfl) rfl, ga1 (List.mem_of_getElem? (i := 7) rfl) rfl, ⟨by decide +kernel, by decide +kernel, by decide +kernel⟩⟩
theorem kVX0_isKeptAs : mV yX0_isKeptAs := ⟨ga3 (List.mem_of_getElem? (i := 81) rfl) rfl, gp1 (List.mem_of_getElem? (i := 13) rfl)⟩
theorem kX0_isSeenBy : mOK yX0_isSeenBy cX0_isSeenBy 5 (some .boolean) 2 := ⟨ga3 (List.mem_of_getElem? (i := 239) rfl) rfl, ga1 (List.mem_of_getElem? (i := 7) rfl) rfl, ⟨by decide +kernel, by decide +kernel, by decide +kernel⟩⟩
theorem kVX0_isSeenBy : mV yX0_isSeenBy := ⟨ga3 (List.mem_of_getElem? (i := 237) rfl) rfl, ga3 (List.mem_of_getElem? (i := 238) rfl) rfl⟩
theorem kX0_behindEvents : mOK yX0_behindEvents cX0_behindEvents 3 (some (.object "BlockCells$Grid")) 1 := ⟨ga4 (List.mem_of_getElem? (i := 21) rfl) rfl, ga1 (List.mem_of_getElem? (i := 7) rfl) rfl, ⟨by decide +kernel, by decide +kernel, by decide +kernel⟩⟩
theorem kVX0_behindEvents : mV yX0_behindEvents := ⟨ga4 (List.mem_of_getElem? (i := 19) rfl) rfl, ga4 (List.mem_of_getElem? (i := 20) rfl) rfl⟩
theorem kX0_happen : mOK yX0_happen cX0_happen 3 none 2 := ⟨ga4 (List.mem_of_getElem? (i := 30) rfl) rfl, ga1 (List.mem_of_getElem? (i := 7) rfl) rfl, ⟨by decide +kernel, by decide +kernel, by decide +kernel⟩⟩
theorem kVX0_happen : mV yX0_happen := ⟨ga4 (List.mem_of_getElem? (i := 29) rfl) rfl, gp2 (List.mem_of_getElem? (i := 2) rfl)⟩
theorem kX1_init : mOK yX1_init cX1_init 1 none 0 := ⟨ga1 (List.mem_of_getElem? (i := 31) rfl) rfl, ga1 (List.mem_of_getElem? (i := 3) rfl) rfl, ⟨by decide +kernel, by decide +kernel, by decide +kernel⟩⟩
theorem kIX1_init : mI yX1_init := ⟨ga1 (List.mem_of_getElem? (i := 30) rfl) rfl, rfl⟩
theorem kX1_has : mOK yX1_has cX1_has 3 (some .boolean) 2 := ⟨ga2 (List.mem_of_getElem? (i := 43) rfl) rfl, ga1 (List.mem_of_getElem? (i := 3) rfl) rfl, ⟨by decide +kernel, by decide +kernel, by decide +kernel⟩⟩
theorem kVX1_has : mV yX1_has := ⟨ga2 (List.mem_of_getElem? (i := 41) rfl) rfl, ga2 (List.mem_of_getElem? (i := 42) rfl) rfl⟩
theorem kX1_rowAt : mOK yX1_rowAt cX1_rowAt 2 (some .int) 1 := ⟨ga3 (List.mem_of_getElem? (i := 53) rfl) rfl, ga1 (List.mem_of_getElem? (i := 3) rfl) rfl, ⟨by decide +kernel, by decide +kernel, by decide +kernel⟩⟩
theorem kVX1_rowAt : mV yX1_rowAt := ⟨ga3 (List.mem_of_getElem? (i := 51) rfl) rfl, ga3 (List.mem_of_getElem? (i := 52) rfl) rfl⟩
theorem kX1_putRow : mOK yX1_putRow cX1_putRow 3 none 2 := ⟨ga3 (List.mem_of_getElem? (i := 220) rfl) rfl, ga1 (List.mem_of_getElem? (i := 3) rfl) rfl, ⟨by decide +kernel, by decide +kernel, by decide +kernel⟩⟩
theorem kVX1_putRow : mV yX1_putRow := ⟨ga3 (List.mem_of_getElem? (i := 218) rfl) rfl, ga3 (List.mem_of_getElem? (i := 219) rfl) rfl⟩
theorem kX1_cellAt : mOK yX1_cellAt cX1_cellAt 3 (some .int) 2 := ⟨ga2 (List.mem_of_getElem? (i := 72) rfl) rfl, ga1 (List.mem_of_getElem? (i := 3) rfl) rfl, ⟨by decide +kernel, by decide +kernel, by decide +kernel⟩⟩
theorem kVX1_cellAt : mV yX1_cellAt := ⟨ga2 (List.mem_of_getElem? (i := 70) rfl) rfl, ga2 (List.mem_of_getElem? (i := 71) rfl) rfl⟩
theorem kX1_flip : mOK yX1_flip cX1_flip 3 none 2 := ⟨ga2 (List.mem_of_getElem? (i := 47) rfl) rfl, ga1 (List.mem_of_getElem? (i := 3) rfl) rfl, ⟨by decide +kernel, by decide +kernel, by decide +kernel⟩⟩
theorem kVX1_flip : mV yX1_flip := ⟨ga2 (List.mem_of_getElem? (i := 45) rfl) rfl, ga2 (List.mem_of_getElem? (i := 46) rfl) rfl⟩
theorem kX1_phase : mOK yX1_phase cX1_phase 1 (some .int) 0 := ⟨ga2 (List.mem_of_getElem? (i := 102) rfl) rfl, ga1 (List.mem_of_getElem? (i := 3) rfl) rfl, ⟨by decide +kernel, by decide +kernel, by decide +kernel⟩⟩
theorem kVX1_phase : mV yX1_phase := ⟨ga2 (List.mem_of_getElem? (i := 100) rfl) rfl, ga2 (List.mem_of_getElem? (i := 101) rfl) rfl⟩
theorem kX1_ones : mOK yX1_ones cX1_ones 3 (some .int) 0 := ⟨ga2 (List.mem_of_getElem? (i := 106) rfl) rfl, ga1 (List.mem_of_getElem? (i := 3) rfl) rfl, ⟨by decide +kernel, by decide +kernel, by decide +kernel⟩⟩
theorem kVX1_ones : mV yX1_ones := ⟨ga2 (List.mem_of_getElem? (i := 104) rfl) rfl, ga2 (List.mem_of_getElem? (i := 105) rfl) rfl⟩
theorem kX1_weighed : mOK yX1_weighed cX1_weighed 9 (some .int) 4 := ⟨ga3 (List.mem_of_getElem? (i := 20) rfl) rfl, ga1 (List.mem_of_getElem? (i := 3) rfl) rfl, ⟨by decide +kernel, by decide +kernel, by decide +kernel⟩⟩
theorem kVX1_weighed : mV yX1_weighed := ⟨ga3 (List.mem_of_getElem? (i := 18) rfl) rfl, ga3 (List.mem_of_getElem? (i := 19) rfl) rfl⟩
theorem kX1_becomeEmpty : mOK yX1_becomeEmpty cX1_becomeEmpty 4 none 2 := ⟨ga2 (List.mem_of_getElem? (i := 31) rfl) rfl, ga1 (List.mem_of_getElem? (i := 3) rfl) rfl, ⟨by decide +kernel, by decide +kernel, by decide +kernel⟩⟩
theorem kVX1_becomeEmpty : mV yX1_becomeEmpty := ⟨ga2 (List.mem_of_getElem? (i := 29) rfl) rfl, ga2 (List.mem_of_getElem? (i := 30) rfl) rfl⟩
theorem kX1_copyOf : mOK yX1_copyOf cX1_copyOf 2 none 1 := ⟨ga3 (List.mem_of_getElem? (i := 1) rfl) rfl, ga1 (List.mem_of_getElem? (i := 3) rfl) rfl, ⟨by decide +kernel, by decide +kernel, by decide +kernel⟩⟩
theorem kVX1_copyOf : mV yX1_copyOf := ⟨ga2 (List.mem_of_getElem? (i := 239) rfl) rfl, ga3 (List.mem_of_getElem? (i := 0) rfl) rfl⟩
theorem kX1_hasCellsOf : mOK yX1_hasCellsOf cX1_hasCellsOf 2 (some .boolean) 1 := ⟨ga3 (List.mem_of_getElem? (i := 45) rfl) rfl, ga1 (List.mem_of_getElem? (i := 3) rfl) rfl, ⟨by decide +kernel, by decide +kernel, by decide +kernel⟩⟩
theorem kVX1_hasCellsOf : mV yX1_hasCellsOf := ⟨ga3 (List.mem_of_getElem? (i := 43) rfl) rfl, ga3 (List.mem_of_getElem? (i := 44) rfl) rfl⟩
theorem kX1_isShifted : mOK yX1_isShifted cX1_isShifted 7 (some .boolean) 3 := ⟨ga3 (List.mem_of_getElem? (i := 49) rfl) rfl, ga1 (List.mem_of_getElem? (i := 3) rfl) rfl, ⟨by decide +kernel, by decide +kernel, by decide +kernel⟩⟩
theorem kVX1_isShifted : mV yX1_isShifted := ⟨ga3 (List.mem_of_getElem? (i := 47) rfl) rfl, ga3 (List.mem_of_getElem? (i := 48) rfl) rfl⟩
theorem kX1_stateAround : mOK yX1_stateAround cX1_stateAround 5 (some .int) 2 := ⟨ga2 (List.mem_of_getElem? (i := 229) rfl) rfl, ga1 (List.mem_of_getElem? (i := 3) rfl) rfl, ⟨by decide +kernel, by decide +kernel, by decide +kernel⟩⟩
theorem kVX1_stateAround : mV yX1_stateAround := ⟨ga2 (List.mem_of_getElem? (i := 227) rfl) rfl, ga2 (List.mem_of_getElem? (i := 228) rfl) rfl⟩
theorem kX1_stateOf : mOK yX1_stateOf cX1_stateOf 6 (some .int) 2 := ⟨ga2 (List.mem_of_getElem? (i := 208) rfl) rfl, ga1 (List.mem_of_getElem? (i := 3) rfl) rfl, ⟨by decide +kernel, by decide +kernel, by decide +kernel⟩⟩
theorem kVX1_stateOf : mV yX1_stateOf := ⟨ga2 (List.mem_of_getElem? (i := 207) rfl) rfl, gp1 (List.mem_of_getElem? (i := 9) rfl)⟩
theorem kX1_putState : mOK yX1_putState cX1_putState 6 none 3 := ⟨ga2 (List.mem_of_getElem? (i := 218) rfl) rfl, ga1 (List.mem_of_getElem? (i := 3) rfl) rfl, ⟨by decide +kernel, by decide +kernel, by decide +kernel⟩⟩
theorem kVX1_putState : mV yX1_putState := ⟨ga2 (List.mem_of_getElem? (i := 217) rfl) rfl, gp1 (List.mem_of_getElem? (i := 10) rfl)⟩
theorem kX1_pairOf : mOK yX1_pairOf cX1_pairOf 3 (some .int) 3 := ⟨ga2 (List.mem_of_getElem? (i := 212) rfl) rfl, ga1 (List.mem_of_getElem? (i := 3) rfl) rfl, ⟨by decide +kernel, by decide +kernel, by decide +kernel⟩⟩
theorem kSX1_pairOf : mS yX1_pairOf := ga2 (List.mem_of_getElem? (i := 211) rfl) rfl
theorem kX1_withPair : mOK yX1_withPair cX1_withPair 5 (some .int) 4 := ⟨ga2 (List.mem_of_getElem? (i := 221) rfl) rfl, ga1 (List.mem_of_getElem? (i := 3) rfl) rfl, ⟨by decide +kernel, by decide +kernel, by decide +kernel⟩⟩
theorem kSX1_withPair : mS yX1_withPair := ga2 (List.mem_of_getElem? (i := 220) rfl) rfl
theorem kX1_turnBlocks : mOK yX1_turnBlocks cX1_turnBlocks 6 none 2 := ⟨ga2 (List.mem_of_getElem? (i := 203) rfl) rfl, ga1 (List.mem_of_getElem? (i := 3) rfl) rfl, ⟨by decide +kernel, by decide +kernel, by decide +kernel⟩⟩
theorem kVX1_turnBlocks : mV yX1_turnBlocks := ⟨ga2 (List.mem_of_getElem? (i := 202) rfl) rfl, gp1 (List.mem_of_getElem? (i := 8) rfl)⟩
theorem kX1_go : mOK yX1_go cX1_go 4 none 2 := ⟨ga2 (List.mem_of_getElem? (i := 199) rfl) rfl, ga1 (List.mem_of_getElem? (i := 3) rfl) rfl, ⟨by decide +kernel, by decide +kernel, by decide +kernel⟩⟩
theorem kVX1_go : mV yX1_go := ⟨ga2 (List.mem_of_getElem? (i := 197) rfl) rfl, ga2 (List.mem_of_getElem? (i := 198) rfl) rfl⟩
theorem kX2_init : mOK yX2_init cX2_init 1 none 0 := ⟨ga1 (List.mem_of_getElem? (i := 222) rfl) rfl, ga1 (List.mem_of_getElem? (i := 10) rfl) rfl, ⟨by decide +kernel, by decide +kernel, by decide +kernel⟩⟩
theorem kIX2_init : mI yX2_init := ⟨ga1 (List.mem_of_getElem? (i := 221) rfl) rfl, rfl⟩
theorem kX2_isNothing : mOK yX2_isNothing cX2_isNothing 1 (some .boolean) 0 := ⟨ga3 (List.mem_of_getElem? (i := 189) rfl) rfl, ga1 (List.mem_of_getElem? (i := 10) rfl) rfl, ⟨by decide +kernel, by decide +kernel, by decide +kernel⟩⟩
theorem kVX2_isNothing : mV yX2_isNothing := ⟨ga3 (List.mem_of_getElem? (i := 187) rfl) rfl, ga3 (List.mem_of_getElem? (i := 188) rfl) rfl⟩
theorem kX2_has : mOK yX2_has cX2_has 2 (some .boolean) 1 := ⟨ga3 (List.mem_of_getElem? (i := 193) rfl) rfl, ga1 (List.mem_of_getElem? (i := 10) rfl) rfl, ⟨by decide +kernel, by decide +kernel, by decide +kernel⟩⟩
theorem kVX2_has : mV yX2_has := ⟨ga3 (List.mem_of_getElem? (i := 191) rfl) rfl, ga3 (List.mem_of_getElem? (i := 192) rfl) rfl⟩
theorem kX2_longAt : mOK yX2_longAt cX2_longAt 2 (some .long) 1 := ⟨ga3 (List.mem_of_getElem? (i := 206) rfl) rfl, ga1 (List.mem_of_getElem? (i := 10) rfl) rfl, ⟨by decide +kernel, by decide +kernel, by decide +kernel⟩⟩
theorem kVX2_longAt : mV yX2_longAt := ⟨ga3 (List.mem_of_getElem? (i := 204) rfl) rfl, ga3 (List.mem_of_getElem? (i := 205) rfl) rfl⟩
theorem kX2_write : mOK yX2_write cX2_write 4 none 2 := ⟨ga3 (List.mem_of_getElem? (i := 197) rfl) rfl, ga1 (List.mem_of_getElem? (i := 10) rfl) rfl, ⟨by decide +kernel, by decide +kernel, by decide +kernel⟩⟩
theorem kVX2_write : mV yX2_write := ⟨ga3 (List.mem_of_getElem? (i := 195) rfl) rfl, ga3 (List.mem_of_getElem? (i := 196) rfl) rfl⟩
theorem kX2_becomeZeros : mOK yX2_becomeZeros cX2_becomeZeros 3 none 1 := ⟨ga3 (List.mem_of_getElem? (i := 181) rfl) rfl, ga1 (List.mem_of_getElem? (i := 10) rfl) rfl, ⟨by decide +kernel, by decide +kernel, by decide +kernel⟩⟩
theorem kVX2_becomeZeros : mV yX2_becomeZeros := ⟨ga3 (List.mem_of_getElem? (i := 179) rfl) rfl, ga3 (List.mem_of_getElem? (i := 180) rfl) rfl⟩
theorem kX3_init : mOK yX3_init cX3_init 1 none 0 := ⟨ga1 (List.mem_of_getElem? (i := 58) rfl) rfl, ga1 (List.mem_of_getElem? (i := 4) rfl) rfl, ⟨by decide +kernel, by decide +kernel, by decide +kernel⟩⟩
theorem kIX3_init : mI yX3_init := ⟨ga1 (List.mem_of_getElem? (i := 57) rfl) rfl, rfl⟩
theorem kX3_next : mOK yX3_next cX3_next 2 (some .int) 1 := ⟨ga2 (List.mem_of_getElem? (i := 182) rfl) rfl, ga1 (List.mem_of_getElem? (i := 4) rfl) rfl, ⟨by decide +kernel, by decide +kernel, by decide +kernel⟩⟩
theorem kVX3_next : mV yX3_next := ⟨ga2 (List.mem_of_getElem? (i := 180) rfl) rfl, ga2 (List.mem_of_getElem? (i := 181) rfl) rfl⟩
theorem kX3_former : mOK yX3_former cX3_former 2 (some .int) 1 := ⟨ga2 (List.mem_of_getElem? (i := 191) rfl) rfl, ga1 (List.mem_of_getElem? (i := 4) rfl) rfl, ⟨by decide +kernel, by decide +kernel, by decide +kernel⟩⟩
theorem kVX3_former : mV yX3_former := ⟨ga2 (List.mem_of_getElem? (i := 189) rfl) rfl, ga2 (List.mem_of_getElem? (i := 190) rfl) rfl⟩
theorem kX3_join : mOK yX3_join cX3_join 3 none 2 := ⟨ga1 (List.mem_of_getElem? (i := 76) rfl) rfl, ga1 (List.mem_of_getElem? (i := 4) rfl) rfl, ⟨by decide +kernel, by decide +kernel, by decide +kernel⟩⟩
theorem kVX3_join : mV yX3_join := ⟨ga1 (List.mem_of_getElem? (i := 75) rfl) rfl, gp1 (List.mem_of_getElem? (i := 0) rfl)⟩
theorem kX3_becomeWord : mOK yX3_becomeWord cX3_becomeWord 5 (some .boolean) 1 := ⟨ga1 (List.mem_of_getElem? (i := 63) rfl) rfl, ga1 (List.mem_of_getElem? (i := 4) rfl) rfl, ⟨by decide +kernel, by decide +kernel, by decide +kernel⟩⟩
theorem kVX3_becomeWord : mV yX3_becomeWord := ⟨ga1 (List.mem_of_getElem? (i := 61) rfl) rfl, ga1 (List.mem_of_getElem? (i := 62) rfl) rfl⟩
theorem kX3_exchange : mOK yX3_exchange cX3_exchange 4 none 2 := ⟨ga2 (List.mem_of_getElem? (i := 178) rfl) rfl, ga1 (List.mem_of_getElem? (i := 4) rfl) rfl, ⟨by decide +kernel, by decide +kernel, by decide +kernel⟩⟩
theorem kVX3_exchange : mV yX3_exchange := ⟨ga2 (List.mem_of_getElem? (i := 176) rfl) rfl, ga2 (List.mem_of_getElem? (i := 177) rfl) rfl⟩
theorem kX3_copyOf : mOK yX3_copyOf cX3_copyOf 2 none 1 := ⟨ga4 (List.mem_of_getElem? (i := 25) rfl) rfl, ga1 (List.mem_of_getElem? (i := 4) rfl) rfl, ⟨by decide +kernel, by decide +kernel, by decide +kernel⟩⟩
theorem kVX3_copyOf : mV yX3_copyOf := ⟨ga4 (List.mem_of_getElem? (i := 23) rfl) rfl, ga4 (List.mem_of_getElem? (i := 24) rfl) rfl⟩
theorem kX3_keepsSum : mOK yX3_keepsSum cX3_keepsSum 7 (some .boolean) 4 := ⟨ga3 (List.mem_of_getElem? (i := 30) rfl) rfl, ga1 (List.mem_of_getElem? (i := 4) rfl) rfl, ⟨by decide +kernel, by decide +kernel, by decide +kernel⟩⟩
theorem kVX3_keepsSum : mV yX3_keepsSum := ⟨ga3 (List.mem_of_getElem? (i := 28) rfl) rfl, ga3 (List.mem_of_getElem? (i := 29) rfl) rfl⟩
theorem kX3_weightOf : mOK yX3_weightOf cX3_weightOf 5 (some .int) 5 := ⟨ga3 (List.mem_of_getElem? (i := 33) rfl) rfl, ga1 (List.mem_of_getElem? (i := 4) rfl) rfl, ⟨by decide +kernel, by decide +kernel, by decide +kernel⟩⟩
theorem kSX3_weightOf : mS yX3_weightOf := ga3 (List.mem_of_getElem? (i := 32) rfl) rfl
theorem kX3_byWord : mOK yX3_byWord cX3_byWord 2 (some .int) 2 := ⟨ga1 (List.mem_of_getElem? (i := 66) rfl) rfl, ga1 (List.mem_of_getElem? (i := 4) rfl) rfl, ⟨by decide +kernel, by decide +kernel, by decide +kernel⟩⟩
theorem kSX3_byWord : mS yX3_byWord := ga1 (List.mem_of_getElem? (i := 65) rfl) rfl
theorem kX3_byBall : mOK yX3_byBall cX3_byBall 1 (some .int) 1 := ⟨ga1 (List.mem_of_getElem? (i := 69) rfl) rfl, ga1 (List.mem_of_getElem? (i := 4) rfl) rfl, ⟨by decide +kernel, by decide +kernel, by decide +kernel⟩⟩
theorem kSX3_byBall : mS yX3_byBall := ga1 (List.mem_of_getElem? (i := 68) rfl) rfl
theorem kX4_init : mOK yX4_init cX4_init 2 none 1 := ⟨ga1 (List.mem_of_getElem? (i := 91) rfl) rfl, ga1 (List.mem_of_getElem? (i := 5) rfl) rfl, ⟨by decide +kernel, by decide +kernel, by decide +kernel⟩⟩
theorem kIX4_init : mI yX4_init := ⟨ga1 (List.mem_of_getElem? (i := 90) rfl) rfl, rfl⟩
theorem kX4_isFull : mOK yX4_isFull cX4_isFull 1 (some .boolean) 0 := ⟨ga2 (List.mem_of_getElem? (i := 54) rfl) rfl, ga1 (List.mem_of_getElem? (i := 5) rfl) rfl, ⟨by decide +kernel, by decide +kernel, by decide +kernel⟩⟩
theorem kVX4_isFull : mV yX4_isFull := ⟨ga2 (List.mem_of_getElem? (i := 52) rfl) rfl, ga2 (List.mem_of_getElem? (i := 53) rfl) rfl⟩
theorem kX4_add : mOK yX4_add cX4_add 4 none 3 := ⟨ga2 (List.mem_of_getElem? (i := 66) rfl) rfl, ga1 (List.mem_of_getElem? (i := 5) rfl) rfl, ⟨by decide +kernel, by decide +kernel, by decide +kernel⟩⟩
theorem kVX4_add : mV yX4_add := ⟨ga2 (List.mem_of_getElem? (i := 64) rfl) rfl, ga2 (List.mem_of_getElem? (i := 65) rfl) rfl⟩
theorem kX4_first : mOK yX4_first cX4_first 2 (some .int) 1 := ⟨ga2 (List.mem_of_getElem? (i := 85) rfl) rfl, ga1 (List.mem_of_getElem? (i := 5) rfl) rfl, ⟨by decide +kernel, by decide +kernel, by decide +kernel⟩⟩
theorem kVX4_first : mV yX4_first := ⟨ga2 (List.mem_of_getElem? (i := 83) rfl) rfl, ga2 (List.mem_of_getElem? (i := 84) rfl) rfl⟩
theorem kX4_second : mOK yX4_second cX4_second 2 (some .int) 1 := ⟨ga2 (List.mem_of_getElem? (i := 89) rfl) rfl, ga1 (List.mem_of_getElem? (i := 5) rfl) rfl, ⟨by decide +kernel, by decide +kernel, by decide +kernel⟩⟩
theorem kVX4_second : mV yX4_second := ⟨ga2 (List.mem_of_getElem? (i := 87) rfl) rfl, ga2 (List.mem_of_getElem? (i := 88) rfl) rfl⟩
theorem kX4_third : mOK yX4_third cX4_third 2 (some .int) 1 := ⟨ga2 (List.mem_of_getElem? (i := 80) rfl) rfl, ga1 (List.mem_of_getElem? (i := 5) rfl) rfl, ⟨by decide +kernel, by decide +kernel, by decide +kernel⟩⟩
theorem kVX4_third : mV yX4_third := ⟨ga2 (List.mem_of_getElem? (i := 78) rfl) rfl, ga2 (List.mem_of_getElem? (i := 79) rfl) rfl⟩
theorem kX4_dropLatest : mOK yX4_dropLatest cX4_dropLatest 1 none 0 := ⟨ga2 (List.mem_of_getElem? (i := 62) rfl) rfl, ga1 (List.mem_of_getElem? (i := 5) rfl) rfl, ⟨by decide +kernel, by decide +kernel, by decide +kernel⟩⟩
theorem kVX4_dropLatest : mV yX4_dropLatest := ⟨ga2 (List.mem_of_getElem? (i := 60) rfl) rfl, ga2 (List.mem_of_getElem? (i := 61) rfl) rfl⟩
theorem kX4_dropEldest : mOK yX4_dropEldest cX4_dropEldest 2 none 0 := ⟨ga2 (List.mem_of_getElem? (i := 58) rfl) rfl, ga1 (List.mem_of_getElem? (i := 5) rfl) rfl, ⟨by decide +kernel, by decide +kernel, by decide +kernel⟩⟩
theorem kVX4_dropEldest : mV yX4_dropEldest := ⟨ga2 (List.mem_of_getElem? (i := 56) rfl) rfl, ga2 (List.mem_of_getElem? (i := 57) rfl) rfl⟩
theorem kX4_empty : mOK yX4_empty cX4_empty 1 none 0 := ⟨ga2 (List.mem_of_getElem? (i := 35) rfl) rfl, ga1 (List.mem_of_getElem? (i := 5) rfl) rfl, ⟨by decide +kernel, by decide +kernel, by decide +kernel⟩⟩
theorem kVX4_empty : mV yX4_empty := ⟨ga2 (List.mem_of_getElem? (i := 33) rfl) rfl, ga2 (List.mem_of_getElem? (i := 34) rfl) rfl⟩
theorem kX4_copyOf : mOK yX4_copyOf cX4_copyOf 2 none 1 := ⟨ga4 (List.mem_of_getElem? (i := 45) rfl) rfl, ga1 (List.mem_of_getElem? (i := 5) rfl) rfl, ⟨by decide +kernel, by decide +kernel, by decide +kernel⟩⟩
theorem kVX4_copyOf : mV yX4_copyOf := ⟨ga4 (List.mem_of_getElem? (i := 43) rfl) rfl, ga4 (List.mem_of_getElem? (i := 44) rfl) rfl⟩
theorem kX5_init : mOK yX5_init cX5_init 2 none 1 := ⟨ga1 (List.mem_of_getElem? (i := 206) rfl) rfl, ga1 (List.mem_of_getElem? (i := 9) rfl) rfl, ⟨by decide +kernel, by decide +kernel, by decide +kernel⟩⟩
theorem kIX5_init : mI yX5_init := ⟨ga1 (List.mem_of_getElem? (i := 205) rfl) rfl, rfl⟩
theorem kX5_isFull : mOK yX5_isFull cX5_isFull 1 (some .boolean) 0 := ⟨ga3 (List.mem_of_getElem? (i := 121) rfl) rfl, ga1 (List.mem_of_getElem? (i := 9) rfl) rfl, ⟨by decide +kernel, by decide +kernel, by decide +kernel⟩⟩
theorem kVX5_isFull : mV yX5_isFull := ⟨ga3 (List.mem_of_getElem? (i := 119) rfl) rfl, ga3 (List.mem_of_getElem? (i := 120) rfl) rfl⟩
theorem kX5_add : mOK yX5_add cX5_add 2 none 1 := ⟨ga3 (List.mem_of_getElem? (i := 125) rfl) rfl, ga1 (List.mem_of_getElem? (i := 9) rfl) rfl, ⟨by decide +kernel, by decide +kernel, by decide +kernel⟩⟩
theorem kVX5_add : mV yX5_add := ⟨ga3 (List.mem_of_getElem? (i := 123) rfl) rfl, ga3 (List.mem_of_getElem? (i := 124) rfl) rfl⟩
theorem kX5_byteAt : mOK yX5_byteAt cX5_byteAt 2 (some .int) 1 := ⟨ga3 (List.mem_of_getElem? (i := 143) rfl) rfl, ga1 (List.mem_of_getElem? (i := 9) rfl) rfl, ⟨by decide +kernel, by decide +kernel, by decide +kernel⟩⟩
theorem kVX5_byteAt : mV yX5_byteAt := ⟨ga3 (List.mem_of_getElem? (i := 141) rfl) rfl, ga3 (List.mem_of_getElem? (i := 142) rfl) rfl⟩
theorem kX5_empty : mOK yX5_empty cX5_empty 1 none 0 := ⟨ga3 (List.mem_of_getElem? (i := 161) rfl) rfl, ga1 (List.mem_of_getElem? (i := 9) rfl) rfl, ⟨by decide +kernel, by decide +kernel, by decide +kernel⟩⟩
theorem kVX5_empty : mV yX5_empty := ⟨ga3 (List.mem_of_getElem? (i := 159) rfl) rfl, ga3 (List.mem_of_getElem? (i := 160) rfl) rfl⟩
theorem kX5_faultPlace : mOK yX5_faultPlace cX5_faultPlace 7 (some .int) 0 := ⟨ga3 (List.mem_of_getElem? (i := 139) rfl) rfl, ga1 (List.mem_of_getElem? (i := 9) rfl) rfl, ⟨by decide +kernel, by decide +kernel, by decide +kernel⟩⟩
theorem kVX5_faultPlace : mV yX5_faultPlace := ⟨ga3 (List.mem_of_getElem? (i := 137) rfl) rfl, ga3 (List.mem_of_getElem? (i := 138) rfl) rfl⟩
theorem kX5_firstRowLength : mOK yX5_firstRowLength cX5_firstRowLength 2 (some .int) 0 := ⟨ga3 (List.mem_of_getElem? (i := 148) rfl) rfl, ga1 (List.mem_of_getElem? (i := 9) rfl) rfl, ⟨by decide +kernel, by decide +kernel, by decide +kernel⟩⟩
theorem kVX5_firstRowLength : mV yX5_firstRowLength := ⟨ga3 (List.mem_of_getElem? (i := 146) rfl) rfl, ga3 (List.mem_of_getElem? (i := 147) rfl) rfl⟩
theorem kX5_howManyRows : mOK yX5_howManyRows cX5_howManyRows 3 (some .int) 0 := ⟨ga3 (List.mem_of_getElem? (i := 152) rfl) rfl, ga1 (List.mem_of_getElem? (i := 9) rfl) rfl, ⟨by decide +kernel, by decide +kernel, by decide +kernel⟩⟩
theorem kVX5_howManyRows : mV yX5_howManyRows := ⟨ga3 (List.mem_of_getElem? (i := 150) rfl) rfl, ga3 (List.mem_of_getElem? (i := 151) rfl) rfl⟩
theorem kX6_init : mOK yX6_init cX6_init 1 none 0 := ⟨ga1 (List.mem_of_getElem? (i := 167) rfl) rfl, ga1 (List.mem_of_getElem? (i := 8) rfl) rfl, ⟨by decide +kernel, by decide +kernel, by decide +kernel⟩⟩
theorem kIX6_init : mI yX6_init := ⟨ga1 (List.mem_of_getElem? (i := 166) rfl) rfl, rfl⟩
theorem kX6_cellsOf : mOK yX6_cellsOf cX6_cellsOf 2 (some .int) 1 := ⟨ga2 (List.mem_of_getElem? (i := 162) rfl) rfl, ga1 (List.mem_of_getElem? (i := 8) rfl) rfl, ⟨by decide +kernel, by decide +kernel, by decide +kernel⟩⟩
theorem kVX6_cellsOf : mV yX6_cellsOf := ⟨ga2 (List.mem_of_getElem? (i := 160) rfl) rfl, ga2 (List.mem_of_getElem? (i := 161) rfl) rfl⟩
theorem kX6_firstCellOf : mOK yX6_firstCellOf cX6_firstCellOf 3 (some .int) 1 := ⟨ga3 (List.mem_of_getElem? (i := 94) rfl) rfl, ga1 (List.mem_of_getElem? (i := 8) rfl) rfl, ⟨by decide +kernel, by decide +kernel, by decide +kernel⟩⟩
theorem kVX6_firstCellOf : mV yX6_firstCellOf := ⟨ga3 (List.mem_of_getElem? (i := 92) rfl) rfl, ga3 (List.mem_of_getElem? (i := 93) rfl) rfl⟩
theorem kX6_shapeOf : mOK yX6_shapeOf cX6_shapeOf 2 (some .int) 1 := ⟨ga3 (List.mem_of_getElem? (i := 98) rfl) rfl, ga1 (List.mem_of_getElem? (i := 8) rfl) rfl, ⟨by decide +kernel, by decide +kernel, by decide +kernel⟩⟩
theorem kVX6_shapeOf : mV yX6_shapeOf := ⟨ga3 (List.mem_of_getElem? (i := 96) rfl) rfl, ga3 (List.mem_of_getElem? (i := 97) rfl) rfl⟩
theorem kX6_thingOn : mOK yX6_thingOn cX6_thingOn 3 (some .int) 2 := ⟨ga2 (List.mem_of_getElem? (i := 130) rfl) rfl, ga1 (List.mem_of_getElem? (i := 8) rfl) rfl, ⟨by decide +kernel, by decide +kernel, by decide +kernel⟩⟩
theorem kVX6_thingOn : mV yX6_thingOn := ⟨ga2 (List.mem_of_getElem? (i := 128) rfl) rfl, ga2 (List.mem_of_getElem? (i := 129) rfl) rfl⟩
theorem kX6_modelOf : mOK yX6_modelOf cX6_modelOf 2 (some .int) 1 := ⟨ga2 (List.mem_of_getElem? (i := 154) rfl) rfl, ga1 (List.mem_of_getElem? (i := 8) rfl) rfl, ⟨by decide +kernel, by decide +kernel, by decide +kernel⟩⟩
theorem kVX6_modelOf : mV yX6_modelOf := ⟨ga2 (List.mem_of_getElem? (i := 152) rfl) rfl, ga2 (List.mem_of_getElem? (i := 153) rfl) rfl⟩
theorem kX6_thingsLike : mOK yX6_thingsLike cX6_thingsLike 4 (some .int) 1 := ⟨ga3 (List.mem_of_getElem? (i := 112) rfl) rfl, ga1 (List.mem_of_getElem? (i := 8) rfl) rfl, ⟨by decide +kernel, by decide +kernel, by decide +kernel⟩⟩
theorem kVX6_thingsLike : mV yX6_thingsLike := ⟨ga3 (List.mem_of_getElem? (i := 110) rfl) rfl, ga3 (List.mem_of_getElem? (i := 111) rfl) rfl⟩
theorem kX6_lookAt : mOK yX6_lookAt cX6_lookAt 4 none 1 := ⟨ga2 (List.mem_of_getElem? (i := 124) rfl) rfl, ga1 (List.mem_of_getElem? (i := 8) rfl) rfl, ⟨by decide +kernel, by decide +kernel, by decide +kernel⟩⟩
theorem kVX6_lookAt : mV yX6_lookAt := ⟨ga2 (List.mem_of_getElem? (i := 122) rfl) rfl, ga2 (List.mem_of_getElem? (i := 123) rfl) rfl⟩
theorem kX6_gather : mOK yX6_gather cX6_gather 5 none 2 := ⟨ga2 (List.mem_of_getElem? (i := 135) rfl) rfl, ga1 (List.mem_of_getElem? (i := 8) rfl) rfl, ⟨by decide +kernel, by decide +kernel, by decide +kernel⟩⟩
theorem kVX6_gather : mV yX6_gather := ⟨ga2 (List.mem_of_getElem? (i := 134) rfl) rfl, gp1 (List.mem_of_getElem? (i := 3) rfl)⟩
theorem kX6_joinNeighbours : mOK yX6_joinNeighbours cX6_joinNeighbours 6 none 1 := ⟨ga2 (List.mem_of_getElem? (i := 143) rfl) rfl, ga1 (List.mem_of_getElem? (i := 8) rfl) rfl, ⟨by decide +kernel, by decide +kernel, by decide +kernel⟩⟩
theorem kVX6_joinNeighbours : mV yX6_joinNeighbours := ⟨ga2 (List.mem_of_getElem? (i := 142) rfl) rfl, gp1 (List.mem_of_getElem? (i := 5) rfl)⟩
theorem kX6_join : mOK yX6_join cX6_join 3 none 2 := ⟨ga2 (List.mem_of_getElem? (i := 139) rfl) rfl, ga1 (List.mem_of_getElem? (i := 8) rfl) rfl, ⟨by decide +kernel, by decide +kernel, by decide +kernel⟩⟩
theorem kVX6_join : mV yX6_join := ⟨ga2 (List.mem_of_getElem? (i := 138) rfl) rfl, gp1 (List.mem_of_getElem? (i := 4) rfl)⟩
theorem kX6_nameShapes : mOK yX6_nameShapes cX6_nameShapes 3 none 0 := ⟨ga2 (List.mem_of_getElem? (i := 150) rfl) rfl, ga1 (List.mem_of_getElem? (i := 8) rfl) rfl, ⟨by decide +kernel, by decide +kernel, by decide +kernel⟩⟩
theorem kVX6_nameShapes : mV yX6_nameShapes := ⟨ga2 (List.mem_of_getElem? (i := 149) rfl) rfl, gp1 (List.mem_of_getElem? (i := 6) rfl)⟩
theorem kX6_areAlike : mOK yX6_areAlike cX6_areAlike 10 (some .boolean) 2 := ⟨ga2 (List.mem_of_getElem? (i := 158) rfl) rfl, ga1 (List.mem_of_getElem? (i := 8) rfl) rfl, ⟨by decide +kernel, by decide +kernel, by decide +kernel⟩⟩
theorem kVX6_areAlike : mV yX6_areAlike := ⟨ga2 (List.mem_of_getElem? (i := 157) rfl) rfl, gp1 (List.mem_of_getElem? (i := 7) rfl)⟩
theorem kX7_init : mOK yX7_init cX7_init 1 none 0 := ⟨ga1 (List.mem_of_getElem? (i := 25) rfl) rfl, ga1 (List.mem_of_getElem? (i := 2) rfl) rfl, ⟨by decide +kernel, by decide +kernel, by decide +kernel⟩⟩
theorem kIX7_init : mI yX7_init := ⟨ga1 (List.mem_of_getElem? (i := 24) rfl) rfl, rfl⟩
theorem kX7_copyOf : mOK yX7_copyOf cX7_copyOf 2 none 1 := ⟨ga4 (List.mem_of_getElem? (i := 39) rfl) rfl, ga1 (List.mem_of_getElem? (i := 2) rfl) rfl, ⟨by decide +kernel, by decide +kernel, by decide +kernel⟩⟩
theorem kVX7_copyOf : mV yX7_copyOf := ⟨ga4 (List.mem_of_getElem? (i := 37) rfl) rfl, ga4 (List.mem_of_getElem? (i := 38) rfl) rfl⟩
theorem kX8_init : mOK yX8_init cX8_init 2 none 0 := ⟨ga1 (List.mem_of_getElem? (i := 17) rfl) rfl, ga1 (List.mem_of_getElem? (i := 1) rfl) rfl, ⟨by decide +kernel, by decide +kernel, by decide +kernel⟩⟩
theorem kIX8_init : mI yX8_init := ⟨ga1 (List.mem_of_getElem? (i := 16) rfl) rfl, rfl⟩
theorem kX8_size : mOK yX8_size cX8_size 4 (some .int) 2 := ⟨ga2 (List.mem_of_getElem? (i := 24) rfl) rfl, ga1 (List.mem_of_getElem? (i := 1) rfl) rfl, ⟨by decide +kernel, by decide +kernel, by decide +kernel⟩⟩
theorem kVX8_size : mV yX8_size := ⟨ga2 (List.mem_of_getElem? (i := 22) rfl) rfl, ga2 (List.mem_of_getElem? (i := 23) rfl) rfl⟩
theorem kX8_toggle : mOK yX8_toggle cX8_toggle 3 (some .int) 2 := ⟨ga2 (List.mem_of_getElem? (i := 39) rfl) rfl, ga1 (List.mem_of_getElem? (i := 1) rfl) rfl, ⟨by decide +kernel, by decide +kernel, by decide +kernel⟩⟩
theorem kVX8_toggle : mV yX8_toggle := ⟨ga2 (List.mem_of_getElem? (i := 37) rfl) rfl, ga2 (List.mem_of_getElem? (i := 38) rfl) rfl⟩
theorem kX8_undo : mOK yX8_undo cX8_undo 4 (some .int) 0 := ⟨ga2 (List.mem_of_getElem? (i := 76) rfl) rfl, ga1 (List.mem_of_getElem? (i := 1) rfl) rfl, ⟨by decide +kernel, by decide +kernel, by decide +kernel⟩⟩
theorem kVX8_undo : mV yX8_undo := ⟨ga2 (List.mem_of_getElem? (i := 74) rfl) rfl, ga2 (List.mem_of_getElem? (i := 75) rfl) rfl⟩
theorem kX8_cell : mOK yX8_cell cX8_cell 3 (some .int) 2 := ⟨ga2 (List.mem_of_getElem? (i := 94) rfl) rfl, ga1 (List.mem_of_getElem? (i := 1) rfl) rfl, ⟨by decide +kernel, by decide +kernel, by decide +kernel⟩⟩
theorem kVX8_cell : mV yX8_cell := ⟨ga2 (List.mem_of_getElem? (i := 92) rfl) rfl, ga2 (List.mem_of_getElem? (i := 93) rfl) rfl⟩
theorem kX8_told : mOK yX8_told cX8_told 2 (some .int) 1 := ⟨ga2 (List.mem_of_getElem? (i := 98) rfl) rfl, ga1 (List.mem_of_getElem? (i := 1) rfl) rfl, ⟨by decide +kernel, by decide +kernel, by decide +kernel⟩⟩
theorem kVX8_told : mV yX8_told := ⟨ga2 (List.mem_of_getElem? (i := 96) rfl) rfl, ga2 (List.mem_of_getElem? (i := 97) rfl) rfl⟩
theorem kX8_rule : mOK yX8_rule cX8_rule 2 (some .int) 1 := ⟨ga2 (List.mem_of_getElem? (i := 166) rfl) rfl, ga1 (List.mem_of_getElem? (i := 1) rfl) rfl, ⟨by decide +kernel, by decide +kernel, by decide +kernel⟩⟩
theorem kVX8_rule : mV yX8_rule := ⟨ga2 (List.mem_of_getElem? (i := 164) rfl) rfl, ga2 (List.mem_of_getElem? (i := 165) rfl) rfl⟩
theorem kX8_change : mOK yX8_change cX8_change 3 (some .int) 2 := ⟨ga2 (List.mem_of_getElem? (i := 171) rfl) rfl, ga1 (List.mem_of_getElem? (i := 1) rfl) rfl, ⟨by decide +kernel, by decide +kernel, by decide +kernel⟩⟩
theorem kVX8_change : mV yX8_change := ⟨ga2 (List.mem_of_getElem? (i := 169) rfl) rfl, ga2 (List.mem_of_getElem? (i := 170) rfl) rfl⟩
theorem kX8_becomes : mOK yX8_becomes cX8_becomes 3 (some .int) 2 := ⟨ga2 (List.mem_of_getElem? (i := 187) rfl) rfl, ga1 (List.mem_of_getElem? (i := 1) rfl) rfl, ⟨by decide +kernel, by decide +kernel, by decide +kernel⟩⟩
theorem kVX8_becomes : mV yX8_becomes := ⟨ga2 (List.mem_of_getElem? (i := 185) rfl) rfl, ga2 (List.mem_of_getElem? (i := 186) rfl) rfl⟩
theorem kX8_steps : mOK yX8_steps cX8_steps 3 (some .int) 1 := ⟨ga2 (List.mem_of_getElem? (i := 195) rfl) rfl, ga1 (List.mem_of_getElem? (i := 1) rfl) rfl, ⟨by decide +kernel, by decide +kernel, by decide +kernel⟩⟩
theorem kVX8_steps : mV yX8_steps := ⟨ga2 (List.mem_of_getElem? (i := 193) rfl) rfl, ga2 (List.mem_of_getElem? (i := 194) rfl) rfl⟩
theorem kX8_block : mOK yX8_block cX8_block 3 (some .int) 2 := ⟨ga2 (List.mem_of_getElem? (i := 225) rfl) rfl, ga1 (List.mem_of_getElem? (i := 1) rfl) rfl, ⟨by decide +kernel, by decide +kernel, by decide +kernel⟩⟩
theorem kVX8_block : mV yX8_block := ⟨ga2 (List.mem_of_getElem? (i := 223) rfl) rfl, ga2 (List.mem_of_getElem? (i := 224) rfl) rfl⟩
theorem kX8_then : mOK yX8_then cX8_then 4 (some .int) 3 := ⟨ga2 (List.mem_of_getElem? (i := 233) rfl) rfl, ga1 (List.mem_of_getElem? (i := 1) rfl) rfl, ⟨by decide +kernel, by decide +kernel, by decide +kernel⟩⟩
theorem kVX8_then : mV yX8_then := ⟨ga2 (List.mem_of_getElem? (i := 231) rfl) rfl, ga2 (List.mem_of_getElem? (i := 232) rfl) rfl⟩
theorem kX8_sum : mOK yX8_sum cX8_sum 5 (some .int) 4 := ⟨ga3 (List.mem_of_getElem? (i := 10) rfl) rfl, ga1 (List.mem_of_getElem? (i := 1) rfl) rfl, ⟨by decide +kernel, by decide +kernel, by decide +kernel⟩⟩
theorem kVX8_sum : mV yX8_sum := ⟨ga3 (List.mem_of_getElem? (i := 8) rfl) rfl, ga3 (List.mem_of_getElem? (i := 9) rfl) rfl⟩
theorem kX8_kept : mOK yX8_kept cX8_kept 5 (some .int) 4 := ⟨ga3 (List.mem_of_getElem? (i := 26) rfl) rfl, ga1 (List.mem_of_getElem? (i := 1) rfl) rfl, ⟨by decide +kernel, by decide +kernel, by decide +kernel⟩⟩
theorem kVX8_kept : mV yX8_kept := ⟨ga3 (List.mem_of_getElem? (i := 24) rfl) rfl, ga3 (List.mem_of_getElem? (i := 25) rfl) rfl⟩
theorem kX8_again : mOK yX8_again cX8_again 1 (some .int) 0 := ⟨ga3 (List.mem_of_getElem? (i := 37) rfl) rfl, ga1 (List.mem_of_getElem? (i := 1) rfl) rfl, ⟨by decide +kernel, by decide +kernel, by decide +kernel⟩⟩
theorem kVX8_again : mV yX8_again := ⟨ga3 (List.mem_of_getElem? (i := 35) rfl) rfl, ga3 (List.mem_of_getElem? (i := 36) rfl) rfl⟩
theorem kX8_moved : mOK yX8_moved cX8_moved 2 (some .int) 1 := ⟨ga3 (List.mem_of_getElem? (i := 57) rfl) rfl, ga1 (List.mem_of_getElem? (i := 1) rfl) rfl, ⟨by decide +kernel, by decide +kernel, by decide +kernel⟩⟩
theorem kVX8_moved : mV yX8_moved := ⟨ga3 (List.mem_of_getElem? (i := 55) rfl) rfl, ga3 (List.mem_of_getElem? (i := 56) rfl) rfl⟩
theorem kX8_unlike : mOK yX8_unlike cX8_unlike 2 (some .int) 1 := ⟨ga3 (List.mem_of_getElem? (i := 70) rfl) rfl, ga1 (List.mem_of_getElem? (i := 1) rfl) rfl, ⟨by decide +kernel, by decide +kernel, by decide +kernel⟩⟩
theorem kVX8_unlike : mV yX8_unlike := ⟨ga3 (List.mem_of_getElem? (i := 68) rfl) rfl, ga3 (List.mem_of_getElem? (i := 69) rfl) rfl⟩
theorem kX8_thing : mOK yX8_thing cX8_thing 4 (some .int) 2 := ⟨ga3 (List.mem_of_getElem? (i := 89) rfl) rfl, ga1 (List.mem_of_getElem? (i := 1) rfl) rfl, ⟨by decide +kernel, by decide +kernel, by decide +kernel⟩⟩
theorem kVX8_thing : mV yX8_thing := ⟨ga3 (List.mem_of_getElem? (i := 87) rfl) rfl, ga3 (List.mem_of_getElem? (i := 88) rfl) rfl⟩
theorem kX8_thingAt : mOK yX8_thingAt cX8_thingAt 3 (some .int) 2 := ⟨ga3 (List.mem_of_getElem? (i := 102) rfl) rfl, ga1 (List.mem_of_getElem? (i := 1) rfl) rfl, ⟨by decide +kernel, by decide +kernel, by decide +kernel⟩⟩
theorem kVX8_thingAt : mV yX8_thingAt := ⟨ga3 (List.mem_of_getElem? (i := 100) rfl) rfl, ga3 (List.mem_of_getElem? (i := 101) rfl) rfl⟩
theorem kX8_shape : mOK yX8_shape cX8_shape 5 (some .int) 2 := ⟨ga3 (List.mem_of_getElem? (i := 107) rfl) rfl, ga1 (List.mem_of_getElem? (i := 1) rfl) rfl, ⟨by decide +kernel, by decide +kernel, by decide +kernel⟩⟩
theorem kVX8_shape : mV yX8_shape := ⟨ga3 (List.mem_of_getElem? (i := 105) rfl) rfl, ga3 (List.mem_of_getElem? (i := 106) rfl) rfl⟩
theorem kX8_feed : mOK yX8_feed cX8_feed 2 (some .int) 1 := ⟨ga3 (List.mem_of_getElem? (i := 117) rfl) rfl, ga1 (List.mem_of_getElem? (i := 1) rfl) rfl, ⟨by decide +kernel, by decide +kernel, by decide +kernel⟩⟩
theorem kVX8_feed : mV yX8_feed := ⟨ga3 (List.mem_of_getElem? (i := 115) rfl) rfl, ga3 (List.mem_of_getElem? (i := 116) rfl) rfl⟩
theorem kX8_read : mOK yX8_read cX8_read 2 (some .int) 0 := ⟨ga3 (List.mem_of_getElem? (i := 131) rfl) rfl, ga1 (List.mem_of_getElem? (i := 1) rfl) rfl, ⟨by decide +kernel, by decide +kernel, by decide +kernel⟩⟩
theorem kVX8_read : mV yX8_read := ⟨ga3 (List.mem_of_getElem? (i := 129) rfl) rfl, ga3 (List.mem_of_getElem? (i := 130) rfl) rfl⟩
theorem kX8_spell : mOK yX8_spell cX8_spell 4 (some .int) 0 := ⟨ga3 (List.mem_of_getElem? (i := 165) rfl) rfl, ga1 (List.mem_of_getElem? (i := 1) rfl) rfl, ⟨by decide +kernel, by decide +kernel, by decide +kernel⟩⟩
theorem kVX8_spell : mV yX8_spell := ⟨ga3 (List.mem_of_getElem? (i := 163) rfl) rfl, ga3 (List.mem_of_getElem? (i := 164) rfl) rfl⟩
theorem kX8_paper : mOK yX8_paper cX8_paper 2 (some .int) 1 := ⟨ga3 (List.mem_of_getElem? (i := 169) rfl) rfl, ga1 (List.mem_of_getElem? (i := 1) rfl) rfl, ⟨by decide +kernel, by decide +kernel, by decide +kernel⟩⟩
theorem kVX8_paper : mV yX8_paper := ⟨ga3 (List.mem_of_getElem? (i := 167) rfl) rfl, ga3 (List.mem_of_getElem? (i := 168) rfl) rfl⟩
theorem kX8_list : mOK yX8_list cX8_list 4 (some .int) 2 := ⟨ga3 (List.mem_of_getElem? (i := 173) rfl) rfl, ga1 (List.mem_of_getElem? (i := 1) rfl) rfl, ⟨by decide +kernel, by decide +kernel, by decide +kernel⟩⟩
theorem kVX8_list : mV yX8_list := ⟨ga3 (List.mem_of_getElem? (i := 171) rfl) rfl, ga3 (List.mem_of_getElem? (i := 172) rfl) rfl⟩
theorem kX8_set : mOK yX8_set cX8_set 6 (some .int) 3 := ⟨ga3 (List.mem_of_getElem? (i := 185) rfl) rfl, ga1 (List.mem_of_getElem? (i := 1) rfl) rfl, ⟨by decide +kernel, by decide +kernel, by decide +kernel⟩⟩
theorem kVX8_set : mV yX8_set := ⟨ga3 (List.mem_of_getElem? (i := 183) rfl) rfl, ga3 (List.mem_of_getElem? (i := 184) rfl) rfl⟩
theorem kX8_get : mOK yX8_get cX8_get 4 (some .long) 2 := ⟨ga3 (List.mem_of_getElem? (i := 202) rfl) rfl, ga1 (List.mem_of_getElem? (i := 1) rfl) rfl, ⟨by decide +kernel, by decide +kernel, by decide +kernel⟩⟩
theorem kVX8_get : mV yX8_get := ⟨ga3 (List.mem_of_getElem? (i := 200) rfl) rfl, ga3 (List.mem_of_getElem? (i := 201) rfl) rfl⟩
theorem kX8_lay : mOK yX8_lay cX8_lay 5 (some .int) 2 := ⟨ga3 (List.mem_of_getElem? (i := 211) rfl) rfl, ga1 (List.mem_of_getElem? (i := 1) rfl) rfl, ⟨by decide +kernel, by decide +kernel, by decide +kernel⟩⟩
theorem kVX8_lay : mV yX8_lay := ⟨ga3 (List.mem_of_getElem? (i := 209) rfl) rfl, ga3 (List.mem_of_getElem? (i := 210) rfl) rfl⟩
theorem kX8_load : mOK yX8_load cX8_load 5 (some .int) 2 := ⟨ga3 (List.mem_of_getElem? (i := 216) rfl) rfl, ga1 (List.mem_of_getElem? (i := 1) rfl) rfl, ⟨by decide +kernel, by decide +kernel, by decide +kernel⟩⟩
theorem kVX8_load : mV yX8_load := ⟨ga3 (List.mem_of_getElem? (i := 214) rfl) rfl, ga3 (List.mem_of_getElem? (i := 215) rfl) rfl⟩
theorem kX8_judge : mOK yX8_judge cX8_judge 5 (some .int) 2 := ⟨ga3 (List.mem_of_getElem? (i := 224) rfl) rfl, ga1 (List.mem_of_getElem? (i := 1) rfl) rfl, ⟨by decide +kernel, by decide +kernel, by decide +kernel⟩⟩
theorem kVX8_judge : mV yX8_judge := ⟨ga3 (List.mem_of_getElem? (i := 222) rfl) rfl, ga3 (List.mem_of_getElem? (i := 223) rfl) rfl⟩
theorem kX8_see : mOK yX8_see cX8_see 4 (some .int) 3 := ⟨ga3 (List.mem_of_getElem? (i := 228) rfl) rfl, ga1 (List.mem_of_getElem? (i := 1) rfl) rfl, ⟨by decide +kernel, by decide +kernel, by decide +kernel⟩⟩
theorem kVX8_see : mV yX8_see := ⟨ga3 (List.mem_of_getElem? (i := 226) rfl) rfl, ga3 (List.mem_of_getElem? (i := 227) rfl) rfl⟩
theorem kX8_fits : mOK yX8_fits cX8_fits 3 (some .int) 0 := ⟨ga3 (List.mem_of_getElem? (i := 235) rfl) rfl, ga1 (List.mem_of_getElem? (i := 1) rfl) rfl, ⟨by decide +kernel, by decide +kernel, by decide +kernel⟩⟩
theorem kVX8_fits : mV yX8_fits := ⟨ga3 (List.mem_of_getElem? (i := 233) rfl) rfl, ga3 (List.mem_of_getElem? (i := 234) rfl) rfl⟩
theorem kX8_event : mOK yX8_event cX8_event 3 (some .int) 2 := ⟨ga4 (List.mem_of_getElem? (i := 9) rfl) rfl, ga1 (List.mem_of_getElem? (i := 1) rfl) rfl, ⟨by decide +kernel, by decide +kernel, by decide +kernel⟩⟩
theorem kVX8_event : mV yX8_event := ⟨ga4 (List.mem_of_getElem? (i := 7) rfl) rfl, ga4 (List.mem_of_getElem? (i := 8) rfl) rfl⟩
theorem kX8_after : mOK yX8_after cX8_after 3 (some .int) 1 := ⟨ga4 (List.mem_of_getElem? (i := 17) rfl) rfl, ga1 (List.mem_of_getElem? (i := 1) rfl) rfl, ⟨by decide +kernel, by decide +kernel, by decide +kernel⟩⟩
theorem kVX8_after : mV yX8_after := ⟨ga4 (List.mem_of_getElem? (i := 15) rfl) rfl, ga4 (List.mem_of_getElem? (i := 16) rfl) rfl⟩
theorem kX8_image : mOK yX8_image cX8_image 1 (some .int) 0 := ⟨ga4 (List.mem_of_getElem? (i := 35) rfl) rfl, ga1 (List.mem_of_getElem? (i := 1) rfl) rfl, ⟨by decide +kernel, by decide +kernel, by decide +kernel⟩⟩
theorem kVX8_image : mV yX8_image := ⟨ga4 (List.mem_of_getElem? (i := 33) rfl) rfl, ga4 (List.mem_of_getElem? (i := 34) rfl) rfl⟩
theorem kX8_back : mOK yX8_back cX8_back 1 (some .int) 0 := ⟨ga4 (List.mem_of_getElem? (i := 50) rfl) rfl, ga1 (List.mem_of_getElem? (i := 1) rfl) rfl, ⟨by decide +kernel, by decide +kernel, by decide +kernel⟩⟩
theorem kVX8_back : mV yX8_back := ⟨ga4 (List.mem_of_getElem? (i := 48) rfl) rfl, ga4 (List.mem_of_getElem? (i := 49) rfl) rfl⟩
theorem kX8_count : mOK yX8_count cX8_count 2 (some .int) 1 := ⟨ga4 (List.mem_of_getElem? (i := 54) rfl) rfl, ga1 (List.mem_of_getElem? (i := 1) rfl) rfl, ⟨by decide +kernel, by decide +kernel, by decide +kernel⟩⟩
theorem kVX8_count : mV yX8_count := ⟨ga4 (List.mem_of_getElem? (i := 52) rfl) rfl, ga4 (List.mem_of_getElem? (i := 53) rfl) rfl⟩
theorem kX8_isSide : mOK yX8_isSide cX8_isSide 1 (some .boolean) 1 := ⟨ga2 (List.mem_of_getElem? (i := 27) rfl) rfl, ga1 (List.mem_of_getElem? (i := 1) rfl) rfl, ⟨by decide +kernel, by decide +kernel, by decide +kernel⟩⟩
theorem kSX8_isSide : mS yX8_isSide := ga2 (List.mem_of_getElem? (i := 26) rfl) rfl
theorem kX8_isState : mOK yX8_isState cX8_isState 1 (some .boolean) 1 := ⟨ga2 (List.mem_of_getElem? (i := 174) rfl) rfl, ga1 (List.mem_of_getElem? (i := 1) rfl) rfl, ⟨by decide +kernel, by decide +kernel, by decide +kernel⟩⟩
theorem kSX8_isState : mS yX8_isState := ga2 (List.mem_of_getElem? (i := 173) rfl) rfl
theorem kX8_isWeight : mOK yX8_isWeight cX8_isWeight 1 (some .boolean) 1 := ⟨ga3 (List.mem_of_getElem? (i := 16) rfl) rfl, ga1 (List.mem_of_getElem? (i := 1) rfl) rfl, ⟨by decide +kernel, by decide +kernel, by decide +kernel⟩⟩
theorem kSX8_isWeight : mS yX8_isWeight := ga3 (List.mem_of_getElem? (i := 15) rfl) rfl
theorem kX8_areWeights : mOK yX8_areWeights cX8_areWeights 4 (some .boolean) 4 := ⟨ga3 (List.mem_of_getElem? (i := 13) rfl) rfl, ga1 (List.mem_of_getElem? (i := 1) rfl) rfl, ⟨by decide +kernel, by decide +kernel, by decide +kernel⟩⟩
theorem kSX8_areWeights : mS yX8_areWeights := ga3 (List.mem_of_getElem? (i := 12) rfl) rfl
theorem kX8_isAnyCell : mOK yX8_isAnyCell cX8_isAnyCell 1 (some .boolean) 1 := ⟨ga3 (List.mem_of_getElem? (i := 231) rfl) rfl, ga1 (List.mem_of_getElem? (i := 1) rfl) rfl, ⟨by decide +kernel, by decide +kernel, by decide +kernel⟩⟩
theorem kSX8_isAnyCell : mS yX8_isAnyCell := ga3 (List.mem_of_getElem? (i := 230) rfl) rfl
theorem kX8_canHappen : mOK yX8_canHappen cX8_canHappen 3 (some .boolean) 2 := ⟨ga4 (List.mem_of_getElem? (i := 13) rfl) rfl, ga1 (List.mem_of_getElem? (i := 1) rfl) rfl, ⟨by decide +kernel, by decide +kernel, by decide +kernel⟩⟩
theorem kVX8_canHappen : mV yX8_canHappen := ⟨ga4 (List.mem_of_getElem? (i := 12) rfl) rfl, gp2 (List.mem_of_getElem? (i := 1) rfl)⟩
theorem kX8_undoable : mOK yX8_undoable cX8_undoable 3 (some .int) 0 := ⟨ga2 (List.mem_of_getElem? (i := 116) rfl) rfl, ga1 (List.mem_of_getElem? (i := 1) rfl) rfl, ⟨by decide +kernel, by decide +kernel, by decide +kernel⟩⟩
theorem kVX8_undoable : mV yX8_undoable := ⟨ga2 (List.mem_of_getElem? (i := 115) rfl) rfl, gp1 (List.mem_of_getElem? (i := 1) rfl)⟩
theorem kX8_thingsNow : mOK yX8_thingsNow cX8_thingsNow 1 (some (.object "BlockCells$Things")) 0 := ⟨ga2 (List.mem_of_getElem? (i := 120) rfl) rfl, ga1 (List.mem_of_getElem? (i := 1) rfl) rfl, ⟨by decide +kernel, by decide +kernel, by decide +kernel⟩⟩
theorem kVX8_thingsNow : mV yX8_thingsNow := ⟨ga2 (List.mem_of_getElem? (i := 119) rfl) rfl, gp1 (List.mem_of_getElem? (i := 2) rfl)⟩
theorem kX8_rowOf : mOK yX8_rowOf cX8_rowOf 2 (some (.object "BlockCells$Row")) 1 := ⟨ga3 (List.mem_of_getElem? (i := 177) rfl) rfl, ga1 (List.mem_of_getElem? (i := 1) rfl) rfl, ⟨by decide +kernel, by decide +kernel, by decide +kernel⟩⟩
theorem kVX8_rowOf : mV yX8_rowOf := ⟨ga3 (List.mem_of_getElem? (i := 176) rfl) rfl, gp2 (List.mem_of_getElem? (i := 0) rfl)⟩
theorem kX8_readTape : mOK yX8_readTape cX8_readTape 4 (some .int) 0 := ⟨ga3 (List.mem_of_getElem? (i := 135) rfl) rfl, ga1 (List.mem_of_getElem? (i := 1) rfl) rfl, ⟨by decide +kernel, by decide +kernel, by decide +kernel⟩⟩
theorem kVX8_readTape : mV yX8_readTape := ⟨ga3 (List.mem_of_getElem? (i := 134) rfl) rfl, gp1 (List.mem_of_getElem? (i := 14) rfl)⟩
theorem kX8_fillFromTape : mOK yX8_fillFromTape cX8_fillFromTape 4 none 0 := ⟨ga3 (List.mem_of_getElem? (i := 156) rfl) rfl, ga1 (List.mem_of_getElem? (i := 1) rfl) rfl, ⟨by decide +kernel, by decide +kernel, by decide +kernel⟩⟩
theorem kVX8_fillFromTape : mV yX8_fillFromTape := ⟨ga3 (List.mem_of_getElem? (i := 155) rfl) rfl, gp1 (List.mem_of_getElem? (i := 15) rfl)⟩
theorem kX8_at : mOK yX8_at cX8_at 2 (some .int) 2 := ⟨ga1 (List.mem_of_getElem? (i := 72) rfl) rfl, ga1 (List.mem_of_getElem? (i := 1) rfl) rfl, ⟨by decide +kernel, by decide +kernel, by decide +kernel⟩⟩
theorem kSX8_at : mS yX8_at := ga1 (List.mem_of_getElem? (i := 71) rfl) rfl
theorem kX8_put : mOK yX8_put cX8_put 3 none 3 := ⟨ga1 (List.mem_of_getElem? (i := 79) rfl) rfl, ga1 (List.mem_of_getElem? (i := 1) rfl) rfl, ⟨by decide +kernel, by decide +kernel, by decide +kernel⟩⟩
theorem kSX8_put : mS yX8_put := ga1 (List.mem_of_getElem? (i := 78) rfl) rfl
theorem kX8_copy : mOK yX8_copy cX8_copy 3 none 2 := ⟨ga3 (List.mem_of_getElem? (i := 4) rfl) rfl, ga1 (List.mem_of_getElem? (i := 1) rfl) rfl, ⟨by decide +kernel, by decide +kernel, by decide +kernel⟩⟩
theorem kSX8_copy : mS yX8_copy := ga3 (List.mem_of_getElem? (i := 3) rfl) rfl
theorem kX8_closedRound : mOK yX8_closedRound cX8_closedRound 2 (some .int) 2 := ⟨ga2 (List.mem_of_getElem? (i := 146) rfl) rfl, ga1 (List.mem_of_getElem? (i := 1) rfl) rfl, ⟨by decide +kernel, by decide +kernel, by decide +kernel⟩⟩
theorem kSX8_closedRound : mS yX8_closedRound := ga2 (List.mem_of_getElem? (i := 145) rfl) rfl
theorem kX9_init : mOK yX9_init cX9_init 2 none 0 := ⟨ga4 (List.mem_of_getElem? (i := 59) rfl) rfl, ga1 (List.mem_of_getElem? (i := 11) rfl) rfl, ⟨by decide +kernel, by decide +kernel, by decide +kernel⟩⟩
theorem kIX9_init : mI yX9_init := ⟨ga4 (List.mem_of_getElem? (i := 58) rfl) rfl, rfl⟩
theorem kX9_isIn : mOK yX9_isIn cX9_isIn 6 (some .boolean) 3 := ⟨ga4 (List.mem_of_getElem? (i := 204) rfl) rfl, ga1 (List.mem_of_getElem? (i := 11) rfl) rfl, ⟨by decide +kernel, by decide +kernel, by decide +kernel⟩⟩
theorem kSX9_isIn : mS yX9_isIn := ga4 (List.mem_of_getElem? (i := 203) rfl) rfl
theorem kX9_isCell : mOK yX9_isCell cX9_isCell 3 (some .boolean) 2 := ⟨ga4 (List.mem_of_getElem? (i := 230) rfl) rfl, ga1 (List.mem_of_getElem? (i := 11) rfl) rfl, ⟨by decide +kernel, by decide +kernel, by decide +kernel⟩⟩
theorem kVX9_isCell : mV yX9_isCell := ⟨ga4 (List.mem_of_getElem? (i := 229) rfl) rfl, gp2 (List.mem_of_getElem? (i := 3) rfl)⟩
theorem kX9_copies : mOK yX9_copies cX9_copies 3 none 2 := ⟨ga5 (List.mem_of_getElem? (i := 37) rfl) rfl, ga1 (List.mem_of_getElem? (i := 11) rfl) rfl, ⟨by decide +kernel, by decide +kernel, by decide +kernel⟩⟩
theorem kSX9_copies : mS yX9_copies := ga5 (List.mem_of_getElem? (i := 36) rfl) rfl
theorem kX9_bits : mOK yX9_bits cX9_bits 3 (some .int) 1 := ⟨ga4 (List.mem_of_getElem? (i := 72) rfl) rfl, ga1 (List.mem_of_getElem? (i := 11) rfl) rfl, ⟨by decide +kernel, by decide +kernel, by decide +kernel⟩⟩
theorem kSX9_bits : mS yX9_bits := ga4 (List.mem_of_getElem? (i := 71) rfl) rfl
theorem kX9_ball : mOK yX9_ball cX9_ball 1 (some .int) 1 := ⟨ga4 (List.mem_of_getElem? (i := 69) rfl) rfl, ga1 (List.mem_of_getElem? (i := 11) rfl) rfl, ⟨by decide +kernel, by decide +kernel, by decide +kernel⟩⟩
theorem kSX9_ball : mS yX9_ball := ga4 (List.mem_of_getElem? (i := 68) rfl) rfl
theorem kX9_turned : mOK yX9_turned cX9_turned 1 (some .int) 1 := ⟨ga4 (List.mem_of_getElem? (i := 66) rfl) rfl, ga1 (List.mem_of_getElem? (i := 11) rfl) rfl, ⟨by decide +kernel, by decide +kernel, by decide +kernel⟩⟩
theorem kSX9_turned : mS yX9_turned := ga4 (List.mem_of_getElem? (i := 65) rfl) rfl
theorem kX9_ruleOf : mOK yX9_ruleOf cX9_ruleOf 3 none 2 := ⟨ga4 (List.mem_of_getElem? (i := 63) rfl) rfl, ga1 (List.mem_of_getElem? (i := 11) rfl) rfl, ⟨by decide +kernel, by decide +kernel, by decide +kernel⟩⟩
theorem kSX9_ruleOf : mS yX9_ruleOf := ga4 (List.mem_of_getElem? (i := 62) rfl) rfl
theorem kX9_rule : mOK yX9_rule cX9_rule 4 (some .int) 1 := ⟨ga4 (List.mem_of_getElem? (i := 200) rfl) rfl, ga1 (List.mem_of_getElem? (i := 11) rfl) rfl, ⟨by decide +kernel, by decide +kernel, by decide +kernel⟩⟩
theorem kVX9_rule : mV yX9_rule := ⟨ga4 (List.mem_of_getElem? (i := 198) rfl) rfl, ga4 (List.mem_of_getElem? (i := 199) rfl) rfl⟩
theorem kX9_change : mOK yX9_change cX9_change 4 (some .int) 2 := ⟨ga4 (List.mem_of_getElem? (i := 208) rfl) rfl, ga1 (List.mem_of_getElem? (i := 11) rfl) rfl, ⟨by decide +kernel, by decide +kernel, by decide +kernel⟩⟩
theorem kVX9_change : mV yX9_change := ⟨ga4 (List.mem_of_getElem? (i := 206) rfl) rfl, ga4 (List.mem_of_getElem? (i := 207) rfl) rfl⟩
theorem kX9_inverse : mOK yX9_inverse cX9_inverse 3 none 2 := ⟨ga4 (List.mem_of_getElem? (i := 216) rfl) rfl, ga1 (List.mem_of_getElem? (i := 11) rfl) rfl, ⟨by decide +kernel, by decide +kernel, by decide +kernel⟩⟩
theorem kSX9_inverse : mS yX9_inverse := ga4 (List.mem_of_getElem? (i := 215) rfl) rfl
theorem kX9_becomes : mOK yX9_becomes cX9_becomes 3 (some .int) 2 := ⟨ga4 (List.mem_of_getElem? (i := 213) rfl) rfl, ga1 (List.mem_of_getElem? (i := 11) rfl) rfl, ⟨by decide +kernel, by decide +kernel, by decide +kernel⟩⟩
theorem kVX9_becomes : mV yX9_becomes := ⟨ga4 (List.mem_of_getElem? (i := 211) rfl) rfl, ga4 (List.mem_of_getElem? (i := 212) rfl) rfl⟩
theorem kX9_blockAt : mOK yX9_blockAt cX9_blockAt 6 (some .int) 3 := ⟨ga5 (List.mem_of_getElem? (i := 49) rfl) rfl, ga1 (List.mem_of_getElem? (i := 11) rfl) rfl, ⟨by decide +kernel, by decide +kernel, by decide +kernel⟩⟩
theorem kVX9_blockAt : mV yX9_blockAt := ⟨ga5 (List.mem_of_getElem? (i := 48) rfl) rfl, gp2 (List.mem_of_getElem? (i := 12) rfl)⟩
theorem kX9_with : mOK yX9_with cX9_with 3 (some .int) 3 := ⟨ga5 (List.mem_of_getElem? (i := 56) rfl) rfl, ga1 (List.mem_of_getElem? (i := 11) rfl) rfl, ⟨by decide +kernel, by decide +kernel, by decide +kernel⟩⟩
theorem kSX9_with : mS yX9_with := ga5 (List.mem_of_getElem? (i := 55) rfl) rfl
theorem kX9_blockBecomes : mOK yX9_blockBecomes cX9_blockBecomes 7 none 4 := ⟨ga5 (List.mem_of_getElem? (i := 53) rfl) rfl, ga1 (List.mem_of_getElem? (i := 11) rfl) rfl, ⟨by decide +kernel, by decide +kernel, by decide +kernel⟩⟩
theorem kVX9_blockBecomes : mV yX9_blockBecomes := ⟨ga5 (List.mem_of_getElem? (i := 52) rfl) rfl, gp2 (List.mem_of_getElem? (i := 13) rfl)⟩
theorem kX9_blocks : mOK yX9_blocks cX9_blocks 6 none 3 := ⟨ga5 (List.mem_of_getElem? (i := 45) rfl) rfl, ga1 (List.mem_of_getElem? (i := 11) rfl) rfl, ⟨by decide +kernel, by decide +kernel, by decide +kernel⟩⟩
theorem kVX9_blocks : mV yX9_blocks := ⟨ga5 (List.mem_of_getElem? (i := 44) rfl) rfl, gp2 (List.mem_of_getElem? (i := 11) rfl)⟩
theorem kX9_minds : mOK yX9_minds cX9_minds 1 none 0 := ⟨ga5 (List.mem_of_getElem? (i := 34) rfl) rfl, ga1 (List.mem_of_getElem? (i := 11) rfl) rfl, ⟨by decide +kernel, by decide +kernel, by decide +kernel⟩⟩
theorem kVX9_minds : mV yX9_minds := ⟨ga5 (List.mem_of_getElem? (i := 33) rfl) rfl, gp2 (List.mem_of_getElem? (i := 9) rfl)⟩
theorem kX9_goes : mOK yX9_goes cX9_goes 3 none 1 := ⟨ga5 (List.mem_of_getElem? (i := 41) rfl) rfl, ga1 (List.mem_of_getElem? (i := 11) rfl) rfl, ⟨by decide +kernel, by decide +kernel, by decide +kernel⟩⟩
theorem kVX9_goes : mV yX9_goes := ⟨ga5 (List.mem_of_getElem? (i := 40) rfl) rfl, gp2 (List.mem_of_getElem? (i := 10) rfl)⟩
theorem kX9_size : mOK yX9_size cX9_size 5 (some .int) 2 := ⟨ga4 (List.mem_of_getElem? (i := 220) rfl) rfl, ga1 (List.mem_of_getElem? (i := 11) rfl) rfl, ⟨by decide +kernel, by decide +kernel, by decide +kernel⟩⟩
theorem kVX9_size : mV yX9_size := ⟨ga4 (List.mem_of_getElem? (i := 218) rfl) rfl, ga4 (List.mem_of_getElem? (i := 219) rfl) rfl⟩
theorem kX9_toggle : mOK yX9_toggle cX9_toggle 4 (some .int) 2 := ⟨ga4 (List.mem_of_getElem? (i := 226) rfl) rfl, ga1 (List.mem_of_getElem? (i := 11) rfl) rfl, ⟨by decide +kernel, by decide +kernel, by decide +kernel⟩⟩
theorem kVX9_toggle : mV yX9_toggle := ⟨ga4 (List.mem_of_getElem? (i := 224) rfl) rfl, ga4 (List.mem_of_getElem? (i := 225) rfl) rfl⟩
theorem kX9_undo : mOK yX9_undo cX9_undo 1 (some .int) 0 := ⟨ga4 (List.mem_of_getElem? (i := 234) rfl) rfl, ga1 (List.mem_of_getElem? (i := 11) rfl) rfl, ⟨by decide +kernel, by decide +kernel, by decide +kernel⟩⟩
theorem kVX9_undo : mV yX9_undo := ⟨ga4 (List.mem_of_getElem? (i := 232) rfl) rfl, ga4 (List.mem_of_getElem? (i := 233) rfl) rfl⟩
theorem kX9_cell : mOK yX9_cell cX9_cell 3 (some .int) 2 := ⟨ga4 (List.mem_of_getElem? (i := 238) rfl) rfl, ga1 (List.mem_of_getElem? (i := 11) rfl) rfl, ⟨by decide +kernel, by decide +kernel, by decide +kernel⟩⟩
theorem kVX9_cell : mV yX9_cell := ⟨ga4 (List.mem_of_getElem? (i := 236) rfl) rfl, ga4 (List.mem_of_getElem? (i := 237) rfl) rfl⟩
theorem kX9_countOf : mOK yX9_countOf cX9_countOf 4 (some .int) 1 := ⟨ga5 (List.mem_of_getElem? (i := 6) rfl) rfl, ga1 (List.mem_of_getElem? (i := 11) rfl) rfl, ⟨by decide +kernel, by decide +kernel, by decide +kernel⟩⟩
theorem kVX9_countOf : mV yX9_countOf := ⟨ga5 (List.mem_of_getElem? (i := 5) rfl) rfl, gp2 (List.mem_of_getElem? (i := 4) rfl)⟩
theorem kX9_changesNow : mOK yX9_changesNow cX9_changesNow 2 (some .int) 0 := ⟨ga5 (List.mem_of_getElem? (i := 10) rfl) rfl, ga1 (List.mem_of_getElem? (i := 11) rfl) rfl, ⟨by decide +kernel, by decide +kernel, by decide +kernel⟩⟩
theorem kVX9_changesNow : mV yX9_changesNow := ⟨ga5 (List.mem_of_getElem? (i := 9) rfl) rfl, gp2 (List.mem_of_getElem? (i := 5) rfl)⟩
theorem kX9_told : mOK yX9_told cX9_told 2 (some .int) 1 := ⟨ga5 (List.mem_of_getElem? (i := 2) rfl) rfl, ga1 (List.mem_of_getElem? (i := 11) rfl) rfl, ⟨by decide +kernel, by decide +kernel, by decide +kernel⟩⟩
theorem kVX9_told : mV yX9_told := ⟨ga5 (List.mem_of_getElem? (i := 0) rfl) rfl, ga5 (List.mem_of_getElem? (i := 1) rfl) rfl⟩
theorem kX9_steps : mOK yX9_steps cX9_steps 2 (some .int) 1 := ⟨ga5 (List.mem_of_getElem? (i := 26) rfl) rfl, ga1 (List.mem_of_getElem? (i := 11) rfl) rfl, ⟨by decide +kernel, by decide +kernel, by decide +kernel⟩⟩
theorem kVX9_steps : mV yX9_steps := ⟨ga5 (List.mem_of_getElem? (i := 24) rfl) rfl, ga5 (List.mem_of_getElem? (i := 25) rfl) rfl⟩
theorem kX9_block : mOK yX9_block cX9_block 4 (some .int) 2 := ⟨ga5 (List.mem_of_getElem? (i := 60) rfl) rfl, ga1 (List.mem_of_getElem? (i := 11) rfl) rfl, ⟨by decide +kernel, by decide +kernel, by decide +kernel⟩⟩
theorem kVX9_block : mV yX9_block := ⟨ga5 (List.mem_of_getElem? (i := 58) rfl) rfl, ga5 (List.mem_of_getElem? (i := 59) rfl) rfl⟩
theorem kX9_then : mOK yX9_then cX9_then 4 (some .int) 3 := ⟨ga5 (List.mem_of_getElem? (i := 64) rfl) rfl, ga1 (List.mem_of_getElem? (i := 11) rfl) rfl, ⟨by decide +kernel, by decide +kernel, by decide +kernel⟩⟩
theorem kVX9_then : mV yX9_then := ⟨ga5 (List.mem_of_getElem? (i := 62) rfl) rfl, ga5 (List.mem_of_getElem? (i := 63) rfl) rfl⟩
theorem kX9_isWeight : mOK yX9_isWeight cX9_isWeight 1 (some .boolean) 1 := ⟨ga5 (List.mem_of_getElem? (i := 76) rfl) rfl, ga1 (List.mem_of_getElem? (i := 11) rfl) rfl, ⟨by decide +kernel, by decide +kernel, by decide +kernel⟩⟩
theorem kSX9_isWeight : mS yX9_isWeight := ga5 (List.mem_of_getElem? (i := 75) rfl) rfl
theorem kX9_areWeights : mOK yX9_areWeights cX9_areWeights 4 (some .boolean) 4 := ⟨ga5 (List.mem_of_getElem? (i := 73) rfl) rfl, ga1 (List.mem_of_getElem? (i := 11) rfl) rfl, ⟨by decide +kernel, by decide +kernel, by decide +kernel⟩⟩
theorem kSX9_areWeights : mS yX9_areWeights := ga5 (List.mem_of_getElem? (i := 72) rfl) rfl
theorem kX9_sum : mOK yX9_sum cX9_sum 8 (some .int) 4 := ⟨ga5 (List.mem_of_getElem? (i := 70) rfl) rfl, ga1 (List.mem_of_getElem? (i := 11) rfl) rfl, ⟨by decide +kernel, by decide +kernel, by decide +kernel⟩⟩
theorem kVX9_sum : mV yX9_sum := ⟨ga5 (List.mem_of_getElem? (i := 68) rfl) rfl, ga5 (List.mem_of_getElem? (i := 69) rfl) rfl⟩
theorem kX9_stateSum : mOK yX9_stateSum cX9_stateSum 5 (some .int) 5 := ⟨ga5 (List.mem_of_getElem? (i := 86) rfl) rfl, ga1 (List.mem_of_getElem? (i := 11) rfl) rfl, ⟨by decide +kernel, by decide +kernel, by decide +kernel⟩⟩
theorem kSX9_stateSum : mS yX9_stateSum := ga5 (List.mem_of_getElem? (i := 85) rfl) rfl
theorem kX9_kept : mOK yX9_kept cX9_kept 6 (some .int) 4 := ⟨ga5 (List.mem_of_getElem? (i := 83) rfl) rfl, ga1 (List.mem_of_getElem? (i := 11) rfl) rfl, ⟨by decide +kernel, by decide +kernel, by decide +kernel⟩⟩
theorem kVX9_kept : mV yX9_kept := ⟨ga5 (List.mem_of_getElem? (i := 81) rfl) rfl, ga5 (List.mem_of_getElem? (i := 82) rfl) rfl⟩
theorem kX9_isShifted : mOK yX9_isShifted cX9_isShifted 6 (some .boolean) 2 := ⟨ga5 (List.mem_of_getElem? (i := 94) rfl) rfl, ga1 (List.mem_of_getElem? (i := 11) rfl) rfl, ⟨by decide +kernel, by decide +kernel, by decide +kernel⟩⟩
theorem kVX9_isShifted : mV yX9_isShifted := ⟨ga5 (List.mem_of_getElem? (i := 93) rfl) rfl, gp2 (List.mem_of_getElem? (i := 14) rfl)⟩
theorem kX9_again : mOK yX9_again cX9_again 2 (some .int) 0 := ⟨ga5 (List.mem_of_getElem? (i := 90) rfl) rfl, ga1 (List.mem_of_getElem? (i := 11) rfl) rfl, ⟨by decide +kernel, by decide +kernel, by decide +kernel⟩⟩
theorem kVX9_again : mV yX9_again := ⟨ga5 (List.mem_of_getElem? (i := 88) rfl) rfl, ga5 (List.mem_of_getElem? (i := 89) rfl) rfl⟩
theorem kX9_shift : mOK yX9_shift cX9_shift 3 (some .int) 0 := ⟨ga5 (List.mem_of_getElem? (i := 102) rfl) rfl, ga1 (List.mem_of_getElem? (i := 11) rfl) rfl, ⟨by decide +kernel, by decide +kernel, by decide +kernel⟩⟩
theorem kVX9_shift : mV yX9_shift := ⟨ga5 (List.mem_of_getElem? (i := 101) rfl) rfl, gp2 (List.mem_of_getElem? (i := 15) rfl)⟩
theorem kX9_moved : mOK yX9_moved cX9_moved 4 (some .int) 1 := ⟨ga5 (List.mem_of_getElem? (i := 98) rfl) rfl, ga1 (List.mem_of_getElem? (i := 11) rfl) rfl, ⟨by decide +kernel, by decide +kernel, by decide +kernel⟩⟩
theorem kVX9_moved : mV yX9_moved := ⟨ga5 (List.mem_of_getElem? (i := 96) rfl) rfl, ga5 (List.mem_of_getElem? (i := 97) rfl) rfl⟩
theorem kX9_isMet : mOK yX9_isMet cX9_isMet 4 (some .boolean) 1 := ⟨ga5 (List.mem_of_getElem? (i := 111) rfl) rfl, ga1 (List.mem_of_getElem? (i := 11) rfl) rfl, ⟨by decide +kernel, by decide +kernel, by decide +kernel⟩⟩
theorem kVX9_isMet : mV yX9_isMet := ⟨ga5 (List.mem_of_getElem? (i := 110) rfl) rfl, gp3 (List.mem_of_getElem? (i := 0) rfl)⟩
theorem kX9_unlike : mOK yX9_unlike cX9_unlike 5 (some .int) 1 := ⟨ga5 (List.mem_of_getElem? (i := 106) rfl) rfl, ga1 (List.mem_of_getElem? (i := 11) rfl) rfl, ⟨by decide +kernel, by decide +kernel, by decide +kernel⟩⟩
theorem kVX9_unlike : mV yX9_unlike := ⟨ga5 (List.mem_of_getElem? (i := 104) rfl) rfl, ga5 (List.mem_of_getElem? (i := 105) rfl) rfl⟩
theorem kX9_findThing : mOK yX9_findThing cX9_findThing 8 none 2 := ⟨ga5 (List.mem_of_getElem? (i := 18) rfl) rfl, ga1 (List.mem_of_getElem? (i := 11) rfl) rfl, ⟨by decide +kernel, by decide +kernel, by decide +kernel⟩⟩
theorem kVX9_findThing : mV yX9_findThing := ⟨ga5 (List.mem_of_getElem? (i := 17) rfl) rfl, gp2 (List.mem_of_getElem? (i := 7) rfl)⟩
theorem kX9_areAlike : mOK yX9_areAlike cX9_areAlike 7 (some .boolean) 2 := ⟨ga5 (List.mem_of_getElem? (i := 22) rfl) rfl, ga1 (List.mem_of_getElem? (i := 11) rfl) rfl, ⟨by decide +kernel, by decide +kernel, by decide +kernel⟩⟩
theorem kVX9_areAlike : mV yX9_areAlike := ⟨ga5 (List.mem_of_getElem? (i := 21) rfl) rfl, gp2 (List.mem_of_getElem? (i := 8) rfl)⟩
theorem kX9_findThings : mOK yX9_findThings cX9_findThings 4 none 1 := ⟨ga5 (List.mem_of_getElem? (i := 14) rfl) rfl, ga1 (List.mem_of_getElem? (i := 11) rfl) rfl, ⟨by decide +kernel, by decide +kernel, by decide +kernel⟩⟩
theorem kVX9_findThings : mV yX9_findThings := ⟨ga5 (List.mem_of_getElem? (i := 13) rfl) rfl, gp2 (List.mem_of_getElem? (i := 6) rfl)⟩
theorem kX9_told100 : mOK yX9_told100 cX9_told100 1 (some .int) 1 := ⟨ga5 (List.mem_of_getElem? (i := 118) rfl) rfl, ga1 (List.mem_of_getElem? (i := 11) rfl) rfl, ⟨by decide +kernel, by decide +kernel, by decide +kernel⟩⟩
theorem kSX9_told100 : mS yX9_told100 := ga5 (List.mem_of_getElem? (i := 117) rfl) rfl
theorem kX9_thing : mOK yX9_thing cX9_thing 3 (some .int) 2 := ⟨ga5 (List.mem_of_getElem? (i := 115) rfl) rfl, ga1 (List.mem_of_getElem? (i := 11) rfl) rfl, ⟨by decide +kernel, by decide +kernel, by decide +kernel⟩⟩
theorem kVX9_thing : mV yX9_thing := ⟨ga5 (List.mem_of_getElem? (i := 113) rfl) rfl, ga5 (List.mem_of_getElem? (i := 114) rfl) rfl⟩
theorem kX9_thingAt : mOK yX9_thingAt cX9_thingAt 3 (some .int) 2 := ⟨ga5 (List.mem_of_getElem? (i := 122) rfl) rfl, ga1 (List.mem_of_getElem? (i := 11) rfl) rfl, ⟨by decide +kernel, by decide +kernel, by decide +kernel⟩⟩
theorem kVX9_thingAt : mV yX9_thingAt := ⟨ga5 (List.mem_of_getElem? (i := 120) rfl) rfl, ga5 (List.mem_of_getElem? (i := 121) rfl) rfl⟩
theorem kX9_shape : mOK yX9_shape cX9_shape 4 (some .int) 2 := ⟨ga5 (List.mem_of_getElem? (i := 126) rfl) rfl, ga1 (List.mem_of_getElem? (i := 11) rfl) rfl, ⟨by decide +kernel, by decide +kernel, by decide +kernel⟩⟩
theorem kVX9_shape : mV yX9_shape := ⟨ga5 (List.mem_of_getElem? (i := 124) rfl) rfl, ga5 (List.mem_of_getElem? (i := 125) rfl) rfl⟩
theorem kX9_feed : mOK yX9_feed cX9_feed 2 (some .int) 1 := ⟨ga5 (List.mem_of_getElem? (i := 130) rfl) rfl, ga1 (List.mem_of_getElem? (i := 11) rfl) rfl, ⟨by decide +kernel, by decide +kernel, by decide +kernel⟩⟩
theorem kVX9_feed : mV yX9_feed := ⟨ga5 (List.mem_of_getElem? (i := 128) rfl) rfl, ga5 (List.mem_of_getElem? (i := 129) rfl) rfl⟩
theorem kX9_reads : mOK yX9_reads cX9_reads 4 (some .int) 0 := ⟨ga5 (List.mem_of_getElem? (i := 139) rfl) rfl, ga1 (List.mem_of_getElem? (i := 11) rfl) rfl, ⟨by decide +kernel, by decide +kernel, by decide +kernel⟩⟩
theorem kVX9_reads : mV yX9_reads := ⟨ga5 (List.mem_of_getElem? (i := 138) rfl) rfl, gp3 (List.mem_of_getElem? (i := 1) rfl)⟩
theorem kX9_read : mOK yX9_read cX9_read 3 (some .int) 0 := ⟨ga5 (List.mem_of_getElem? (i := 135) rfl) rfl, ga1 (List.mem_of_getElem? (i := 11) rfl) rfl, ⟨by decide +kernel, by decide +kernel, by decide +kernel⟩⟩
theorem kVX9_read : mV yX9_read := ⟨ga5 (List.mem_of_getElem? (i := 133) rfl) rfl, ga5 (List.mem_of_getElem? (i := 134) rfl) rfl⟩
theorem kX9_spell : mOK yX9_spell cX9_spell 3 (some .int) 0 := ⟨ga5 (List.mem_of_getElem? (i := 143) rfl) rfl, ga1 (List.mem_of_getElem? (i := 11) rfl) rfl, ⟨by decide +kernel, by decide +kernel, by decide +kernel⟩⟩
theorem kVX9_spell : mV yX9_spell := ⟨ga5 (List.mem_of_getElem? (i := 141) rfl) rfl, ga5 (List.mem_of_getElem? (i := 142) rfl) rfl⟩
theorem kX9_paper : mOK yX9_paper cX9_paper 2 (some .int) 1 := ⟨ga5 (List.mem_of_getElem? (i := 147) rfl) rfl, ga1 (List.mem_of_getElem? (i := 11) rfl) rfl, ⟨by decide +kernel, by decide +kernel, by decide +kernel⟩⟩
theorem kVX9_paper : mV yX9_paper := ⟨ga5 (List.mem_of_getElem? (i := 145) rfl) rfl, ga5 (List.mem_of_getElem? (i := 146) rfl) rfl⟩
theorem kX9_isList : mOK yX9_isList cX9_isList 1 (some .boolean) 1 := ⟨ga5 (List.mem_of_getElem? (i := 154) rfl) rfl, ga1 (List.mem_of_getElem? (i := 11) rfl) rfl, ⟨by decide +kernel, by decide +kernel, by decide +kernel⟩⟩
theorem kSX9_isList : mS yX9_isList := ga5 (List.mem_of_getElem? (i := 153) rfl) rfl
theorem kX9_list : mOK yX9_list cX9_list 4 (some .int) 2 := ⟨ga5 (List.mem_of_getElem? (i := 151) rfl) rfl, ga1 (List.mem_of_getElem? (i := 11) rfl) rfl, ⟨by decide +kernel, by decide +kernel, by decide +kernel⟩⟩
theorem kVX9_list : mV yX9_list := ⟨ga5 (List.mem_of_getElem? (i := 149) rfl) rfl, ga5 (List.mem_of_getElem? (i := 150) rfl) rfl⟩
theorem kX9_isPlace : mOK yX9_isPlace cX9_isPlace 4 (some .boolean) 2 := ⟨ga5 (List.mem_of_getElem? (i := 163) rfl) rfl, ga1 (List.mem_of_getElem? (i := 11) rfl) rfl, ⟨by decide +kernel, by decide +kernel, by decide +kernel⟩⟩
theorem kVX9_isPlace : mV yX9_isPlace := ⟨ga5 (List.mem_of_getElem? (i := 162) rfl) rfl, gp3 (List.mem_of_getElem? (i := 2) rfl)⟩
theorem kX9_set : mOK yX9_set cX9_set 5 (some .int) 3 := ⟨ga5 (List.mem_of_getElem? (i := 159) rfl) rfl, ga1 (List.mem_of_getElem? (i := 11) rfl) rfl, ⟨by decide +kernel, by decide +kernel, by decide +kernel⟩⟩
theorem kVX9_set : mV yX9_set := ⟨ga5 (List.mem_of_getElem? (i := 157) rfl) rfl, ga5 (List.mem_of_getElem? (i := 158) rfl) rfl⟩
theorem kX9_get : mOK yX9_get cX9_get 3 (some .long) 2 := ⟨ga5 (List.mem_of_getElem? (i := 167) rfl) rfl, ga1 (List.mem_of_getElem? (i := 11) rfl) rfl, ⟨by decide +kernel, by decide +kernel, by decide +kernel⟩⟩
theorem kVX9_get : mV yX9_get := ⟨ga5 (List.mem_of_getElem? (i := 165) rfl) rfl, ga5 (List.mem_of_getElem? (i := 166) rfl) rfl⟩
theorem kX9_lay : mOK yX9_lay cX9_lay 4 (some .int) 2 := ⟨ga5 (List.mem_of_getElem? (i := 172) rfl) rfl, ga1 (List.mem_of_getElem? (i := 11) rfl) rfl, ⟨by decide +kernel, by decide +kernel, by decide +kernel⟩⟩
theorem kVX9_lay : mV yX9_lay := ⟨ga5 (List.mem_of_getElem? (i := 170) rfl) rfl, ga5 (List.mem_of_getElem? (i := 171) rfl) rfl⟩
theorem kX9_load : mOK yX9_load cX9_load 4 (some .int) 2 := ⟨ga5 (List.mem_of_getElem? (i := 176) rfl) rfl, ga1 (List.mem_of_getElem? (i := 11) rfl) rfl, ⟨by decide +kernel, by decide +kernel, by decide +kernel⟩⟩
theorem kVX9_load : mV yX9_load := ⟨ga5 (List.mem_of_getElem? (i := 174) rfl) rfl, ga5 (List.mem_of_getElem? (i := 175) rfl) rfl⟩
theorem kX9_judge : mOK yX9_judge cX9_judge 4 (some .int) 2 := ⟨ga5 (List.mem_of_getElem? (i := 180) rfl) rfl, ga1 (List.mem_of_getElem? (i := 11) rfl) rfl, ⟨by decide +kernel, by decide +kernel, by decide +kernel⟩⟩
theorem kVX9_judge : mV yX9_judge := ⟨ga5 (List.mem_of_getElem? (i := 178) rfl) rfl, ga5 (List.mem_of_getElem? (i := 179) rfl) rfl⟩
theorem kX9_isTold : mOK yX9_isTold cX9_isTold 1 (some .boolean) 1 := ⟨ga5 (List.mem_of_getElem? (i := 189) rfl) rfl, ga1 (List.mem_of_getElem? (i := 11) rfl) rfl, ⟨by decide +kernel, by decide +kernel, by decide +kernel⟩⟩
theorem kSX9_isTold : mS yX9_isTold := ga5 (List.mem_of_getElem? (i := 188) rfl) rfl
theorem kX9_see : mOK yX9_see cX9_see 4 (some .int) 3 := ⟨ga5 (List.mem_of_getElem? (i := 184) rfl) rfl, ga1 (List.mem_of_getElem? (i := 11) rfl) rfl, ⟨by decide +kernel, by decide +kernel, by decide +kernel⟩⟩
theorem kVX9_see : mV yX9_see := ⟨ga5 (List.mem_of_getElem? (i := 182) rfl) rfl, ga5 (List.mem_of_getElem? (i := 183) rfl) rfl⟩
theorem kX9_isSo : mOK yX9_isSo cX9_isSo 4 (some .boolean) 1 := ⟨ga5 (List.mem_of_getElem? (i := 197) rfl) rfl, ga1 (List.mem_of_getElem? (i := 11) rfl) rfl, ⟨by decide +kernel, by decide +kernel, by decide +kernel⟩⟩
theorem kVX9_isSo : mV yX9_isSo := ⟨ga5 (List.mem_of_getElem? (i := 196) rfl) rfl, gp3 (List.mem_of_getElem? (i := 3) rfl)⟩
theorem kX9_fits : mOK yX9_fits cX9_fits 5 (some .int) 0 := ⟨ga5 (List.mem_of_getElem? (i := 193) rfl) rfl, ga1 (List.mem_of_getElem? (i := 11) rfl) rfl, ⟨by decide +kernel, by decide +kernel, by decide +kernel⟩⟩
theorem kVX9_fits : mV yX9_fits := ⟨ga5 (List.mem_of_getElem? (i := 191) rfl) rfl, ga5 (List.mem_of_getElem? (i := 192) rfl) rfl⟩
theorem kX9_event : mOK yX9_event cX9_event 4 (some .int) 2 := ⟨ga5 (List.mem_of_getElem? (i := 201) rfl) rfl, ga1 (List.mem_of_getElem? (i := 11) rfl) rfl, ⟨by decide +kernel, by decide +kernel, by decide +kernel⟩⟩
theorem kVX9_event : mV yX9_event := ⟨ga5 (List.mem_of_getElem? (i := 199) rfl) rfl, ga5 (List.mem_of_getElem? (i := 200) rfl) rfl⟩
theorem kX9_happens : mOK yX9_happens cX9_happens 3 none 2 := ⟨ga5 (List.mem_of_getElem? (i := 210) rfl) rfl, ga1 (List.mem_of_getElem? (i := 11) rfl) rfl, ⟨by decide +kernel, by decide +kernel, by decide +kernel⟩⟩
theorem kVX9_happens : mV yX9_happens := ⟨ga5 (List.mem_of_getElem? (i := 209) rfl) rfl, gp3 (List.mem_of_getElem? (i := 4) rfl)⟩
theorem kX9_after : mOK yX9_after cX9_after 3 (some .int) 1 := ⟨ga5 (List.mem_of_getElem? (i := 206) rfl) rfl, ga1 (List.mem_of_getElem? (i := 11) rfl) rfl, ⟨by decide +kernel, by decide +kernel, by decide +kernel⟩⟩
theorem kVX9_after : mV yX9_after := ⟨ga5 (List.mem_of_getElem? (i := 204) rfl) rfl, ga5 (List.mem_of_getElem? (i := 205) rfl) rfl⟩
theorem kX9_carries : mOK yX9_carries cX9_carries 6 (some .int) 4 := ⟨ga5 (List.mem_of_getElem? (i := 222) rfl) rfl, ga1 (List.mem_of_getElem? (i := 11) rfl) rfl, ⟨by decide +kernel, by decide +kernel, by decide +kernel⟩⟩
theorem kVX9_carries : mV yX9_carries := ⟨ga5 (List.mem_of_getElem? (i := 221) rfl) rfl, gp3 (List.mem_of_getElem? (i := 6) rfl)⟩
theorem kX9_carriesAll : mOK yX9_carriesAll cX9_carriesAll 4 none 1 := ⟨ga5 (List.mem_of_getElem? (i := 218) rfl) rfl, ga1 (List.mem_of_getElem? (i := 11) rfl) rfl, ⟨by decide +kernel, by decide +kernel, by decide +kernel⟩⟩
theorem kVX9_carriesAll : mV yX9_carriesAll := ⟨ga5 (List.mem_of_getElem? (i := 217) rfl) rfl, gp3 (List.mem_of_getElem? (i := 5) rfl)⟩
theorem kX9_image : mOK yX9_image cX9_image 1 (some .int) 0 := ⟨ga5 (List.mem_of_getElem? (i := 214) rfl) rfl, ga1 (List.mem_of_getElem? (i := 11) rfl) rfl, ⟨by decide +kernel, by decide +kernel, by decide +kernel⟩⟩
theorem kVX9_image : mV yX9_image := ⟨ga5 (List.mem_of_getElem? (i := 212) rfl) rfl, ga5 (List.mem_of_getElem? (i := 213) rfl) rfl⟩
theorem kX9_back : mOK yX9_back cX9_back 1 (some .int) 0 := ⟨ga5 (List.mem_of_getElem? (i := 226) rfl) rfl, ga1 (List.mem_of_getElem? (i := 11) rfl) rfl, ⟨by decide +kernel, by decide +kernel, by decide +kernel⟩⟩
theorem kVX9_back : mV yX9_back := ⟨ga5 (List.mem_of_getElem? (i := 224) rfl) rfl, ga5 (List.mem_of_getElem? (i := 225) rfl) rfl⟩
theorem kX9_count : mOK yX9_count cX9_count 2 (some .int) 1 := ⟨ga5 (List.mem_of_getElem? (i := 230) rfl) rfl, ga1 (List.mem_of_getElem? (i := 11) rfl) rfl, ⟨by decide +kernel, by decide +kernel, by decide +kernel⟩⟩
theorem kVX9_count : mV yX9_count := ⟨ga5 (List.mem_of_getElem? (i := 228) rfl) rfl, ga5 (List.mem_of_getElem? (i := 229) rfl) rfl⟩
theorem kJ6_bitCount_0f7a4 : mOK yJ6_bitCount_0f7a4 cJ6_bitCount_0f7a4 1 (some .int) 1 := ⟨ga2 (List.mem_of_getElem? (i := 109) rfl) rfl, ga1 (List.mem_of_getElem? (i := 12) rfl) rfl, ⟨by decide +kernel, by decide +kernel, by decide +kernel⟩⟩
theorem kSJ6_bitCount_0f7a4 : mS yJ6_bitCount_0f7a4 := ga2 (List.mem_of_getElem? (i := 108) rfl) rfl
theorem kJ9_max_7cf53 : mOK yJ9_max_7cf53 cJ9_max_7cf53 2 (some .int) 2 := ⟨ga1 (List.mem_of_getElem? (i := 95) rfl) rfl, ga1 (List.mem_of_getElem? (i := 6) rfl) rfl, ⟨by decide +kernel, by decide +kernel, by decide +kernel⟩⟩
theorem kSJ9_max_7cf53 : mS yJ9_max_7cf53 := ga1 (List.mem_of_getElem? (i := 94) rfl) rfl
theorem n_RL_7 : Cond.classLink RL 7 RX8 ∈ GA := ga1 (List.mem_of_getElem? (i := 13) rfl) rfl
theorem inst_RX8 : Cond.instantiable RX8 9 ∈ GA ∧ Cond.initialized RX8 ∈ GA := ⟨ga1 (List.mem_of_getElem? (i := 14) rfl) rfl, ga1 (List.mem_of_getElem? (i := 1) rfl) rfl⟩
theorem l_RL_9 : Cond.methodLink RL 9 yX8_init ∈ GA := ga1 (List.mem_of_getElem? (i := 15) rfl) rfl
theorem l_RX8_3 : Cond.methodLink RX8 3 objectInit ∈ GA := ga1 (List.mem_of_getElem? (i := 18) rfl) rfl
theorem n_RX8_9 : Cond.classLink RX8 9 RX7 ∈ GA := ga1 (List.mem_of_getElem? (i := 21) rfl) rfl
theorem inst_RX7 : Cond.instantiable RX7 4 ∈ GA ∧ Cond.initialized RX7 ∈ GA := ⟨ga1 (List.mem_of_getElem? (i := 22) rfl) rfl, ga1 (List.mem_of_getElem? (i := 2) rfl) rfl⟩
theorem l_RX8_11 : Cond.methodLinkNest RX8 11 yX7_init "BlockCells" ∈ GA := ga1 (List.mem_of_getElem? (i := 23) rfl) rfl
theorem l_RX7_3 : Cond.methodLink RX7 3 objectInit ∈ GA := ga1 (List.mem_of_getElem? (i := 26) rfl) rfl
theorem n_RX7_9 : Cond.classLink RX7 9 RX1 ∈ GA := ga1 (List.mem_of_getElem? (i := 27) rfl) rfl
theorem inst_RX1 : Cond.instantiable RX1 4 ∈ GA ∧ Cond.initialized RX1 ∈ GA := ⟨ga1 (List.mem_of_getElem? (i := 28) rfl) rfl, ga1 (List.mem_of_getElem? (i := 3) rfl) rfl⟩
theorem l_RX7_11 : Cond.methodLinkNest RX7 11 yX1_init "BlockCells" ∈ GA := ga1 (List.mem_of_getElem? (i := 29) rfl) rfl
theorem l_RX1_3 : Cond.methodLink RX1 3 objectInit ∈ GA := ga1 (List.mem_of_getElem? (i := 32) rfl) rfl
theorem ac_int : Cond.arrayClass .int ∈ GA := ga1 (List.mem_of_getElem? (i := 53) rfl) rfl
theorem n_RX7_18 : Cond.classLink RX7 18 RX3 ∈ GA := ga1 (List.mem_of_getElem? (i := 54) rfl) rfl
theorem inst_RX3 : Cond.instantiable RX3 2 ∈ GA ∧ Cond.initialized RX3 ∈ GA := ⟨ga1 (List.mem_of_getElem? (i := 55) rfl) rfl, ga1 (List.mem_of_getElem? (i := 4) rfl) rfl⟩
theorem l_RX7_20 : Cond.methodLink RX7 20 yX3_init ∈ GA := ga1 (List.mem_of_getElem? (i := 56) rfl) rfl
theorem l_RX3_3 : Cond.methodLink RX3 3 objectInit ∈ GA := ga1 (List.mem_of_getElem? (i := 59) rfl) rfl
theorem l_RX3_18 : Cond.methodLink RX3 18 yX3_becomeWord ∈ GA := ga1 (List.mem_of_getElem? (i := 60) rfl) rfl
theorem l_RX3_30 : Cond.methodLink RX3 30 yX3_byWord ∈ GA := ga1 (List.mem_of_getElem? (i := 64) rfl) rfl
theorem l_RX3_50 : Cond.methodLink RX3 50 yX3_byBall ∈ GA := ga1 (List.mem_of_getElem? (i := 67) rfl) rfl
theorem l_RX3_22 : Cond.methodLinkNest RX3 22 yX8_at "BlockCells" ∈ GA := ga1 (List.mem_of_getElem? (i := 70) rfl) rfl
theorem l_RX3_34 : Cond.methodLink RX3 34 yX3_join ∈ GA := ga1 (List.mem_of_getElem? (i := 73) rfl) rfl
theorem l_RX3_26 : Cond.methodLinkNest RX3 26 yX8_put "BlockCells" ∈ GA := ga1 (List.mem_of_getElem? (i := 77) rfl) rfl
theorem n_RX7_25 : Cond.classLink RX7 25 RX4 ∈ GA := ga1 (List.mem_of_getElem? (i := 87) rfl) rfl
theorem inst_RX4 : Cond.instantiable RX4 2 ∈ GA ∧ Cond.initialized RX4 ∈ GA := ⟨ga1 (List.mem_of_getElem? (i := 88) rfl) rfl, ga1 (List.mem_of_getElem? (i := 5) rfl) rfl⟩
theorem l_RX7_27 : Cond.methodLink RX7 27 yX4_init ∈ GA := ga1 (List.mem_of_getElem? (i := 89) rfl) rfl
theorem l_RX4_1 : Cond.methodLink RX4 1 objectInit ∈ GA := ga1 (List.mem_of_getElem? (i := 92) rfl) rfl
theorem l_RX4_13 : Cond.methodLink RX4 13 yJ9_max_7cf53 ∈ GA := ga1 (List.mem_of_getElem? (i := 93) rfl) rfl
theorem n_RX8_25 : Cond.classLink RX8 25 RX4 ∈ GA := ga1 (List.mem_of_getElem? (i := 126) rfl) rfl
theorem l_RX8_27 : Cond.methodLink RX8 27 yX4_init ∈ GA := ga1 (List.mem_of_getElem? (i := 127) rfl) rfl
theorem n_RX8_34 : Cond.classLink RX8 34 RX0 ∈ GA := ga1 (List.mem_of_getElem? (i := 128) rfl) rfl
theorem inst_RX0 : Cond.instantiable RX0 7 ∈ GA ∧ Cond.initialized RX0 ∈ GA := ⟨ga1 (List.mem_of_getElem? (i := 129) rfl) rfl, ga1 (List.mem_of_getElem? (i := 7) rfl) rfl⟩
theorem l_RX8_36 : Cond.methodLinkNest RX8 36 yX0_init "BlockCells" ∈ GA := ga1 (List.mem_of_getElem? (i := 130) rfl) rfl
theorem l_RX0_3 : Cond.methodLink RX0 3 objectInit ∈ GA := ga1 (List.mem_of_getElem? (i := 133) rfl) rfl
theorem n_RX0_21 : Cond.classLink RX0 21 RX1 ∈ GA := ga1 (List.mem_of_getElem? (i := 134) rfl) rfl
theorem l_RX0_23 : Cond.methodLinkNest RX0 23 yX1_init "BlockCells" ∈ GA := ga1 (List.mem_of_getElem? (i := 135) rfl) rfl
theorem n_RX0_28 : Cond.classLink RX0 28 RX3 ∈ GA := ga1 (List.mem_of_getElem? (i := 136) rfl) rfl
theorem l_RX0_30 : Cond.methodLink RX0 30 yX3_init ∈ GA := ga1 (List.mem_of_getElem? (i := 137) rfl) rfl
theorem n_RX8_41 : Cond.classLink RX8 41 RX6 ∈ GA := ga1 (List.mem_of_getElem? (i := 163) rfl) rfl
theorem inst_RX6 : Cond.instantiable RX6 10 ∈ GA ∧ Cond.initialized RX6 ∈ GA := ⟨ga1 (List.mem_of_getElem? (i := 164) rfl) rfl, ga1 (List.mem_of_getElem? (i := 8) rfl) rfl⟩
theorem l_RX8_43 : Cond.methodLinkNest RX8 43 yX6_init "BlockCells" ∈ GA := ga1 (List.mem_of_getElem? (i := 165) rfl) rfl
theorem l_RX6_3 : Cond.methodLink RX6 3 objectInit ∈ GA := ga1 (List.mem_of_getElem? (i := 168) rfl) rfl
theorem n_RX8_48 : Cond.classLink RX8 48 RX5 ∈ GA := ga1 (List.mem_of_getElem? (i := 202) rfl) rfl
theorem inst_RX5 : Cond.instantiable RX5 2 ∈ GA ∧ Cond.initialized RX5 ∈ GA := ⟨ga1 (List.mem_of_getElem? (i := 203) rfl) rfl, ga1 (List.mem_of_getElem? (i := 9) rfl) rfl⟩
theorem l_RX8_50 : Cond.methodLink RX8 50 yX5_init ∈ GA := ga1 (List.mem_of_getElem? (i := 204) rfl) rfl
theorem l_RX5_3 : Cond.methodLink RX5 3 objectInit ∈ GA := ga1 (List.mem_of_getElem? (i := 207) rfl) rfl
theorem l_RX5_15 : Cond.methodLink RX5 15 yJ9_max_7cf53 ∈ GA := ga1 (List.mem_of_getElem? (i := 208) rfl) rfl
theorem n_RX8_58 : Cond.classLink RX8 58 RX2 ∈ GA := ga1 (List.mem_of_getElem? (i := 217) rfl) rfl
theorem inst_RX2 : Cond.instantiable RX2 2 ∈ GA ∧ Cond.initialized RX2 ∈ GA := ⟨ga1 (List.mem_of_getElem? (i := 219) rfl) rfl, ga1 (List.mem_of_getElem? (i := 10) rfl) rfl⟩
theorem l_RX8_64 : Cond.methodLinkNest RX8 64 yX2_init "BlockCells" ∈ GA := ga1 (List.mem_of_getElem? (i := 220) rfl) rfl
theorem l_RX2_3 : Cond.methodLink RX2 3 objectInit ∈ GA := ga1 (List.mem_of_getElem? (i := 223) rfl) rfl
theorem ac_long : Cond.arrayClass .long ∈ GA := ga1 (List.mem_of_getElem? (i := 232) rfl) rfl
theorem l_RL_13 : Cond.methodLink RL 13 yX8_size ∈ GA := ga2 (List.mem_of_getElem? (i := 21) rfl) rfl
theorem l_RX8_65 : Cond.methodLink RX8 65 yX8_isSide ∈ GA := ga2 (List.mem_of_getElem? (i := 25) rfl) rfl
theorem l_RX8_82 : Cond.methodLink RX8 82 yX1_becomeEmpty ∈ GA := ga2 (List.mem_of_getElem? (i := 28) rfl) rfl
theorem l_RX8_89 : Cond.methodLink RX8 89 yX4_empty ∈ GA := ga2 (List.mem_of_getElem? (i := 32) rfl) rfl
theorem l_RL_18 : Cond.methodLink RL 18 yX8_toggle ∈ GA := ga2 (List.mem_of_getElem? (i := 36) rfl) rfl
theorem l_RX8_92 : Cond.methodLink RX8 92 yX1_has ∈ GA := ga2 (List.mem_of_getElem? (i := 40) rfl) rfl
theorem l_RX8_96 : Cond.methodLink RX8 96 yX1_flip ∈ GA := ga2 (List.mem_of_getElem? (i := 44) rfl) rfl
theorem l_RX1_33 : Cond.methodLink RX1 33 yX1_has ∈ GA := ga2 (List.mem_of_getElem? (i := 48) rfl) rfl
theorem l_RX1_25 : Cond.methodLinkNest RX1 25 yX8_at "BlockCells" ∈ GA := ga2 (List.mem_of_getElem? (i := 49) rfl) rfl
theorem l_RX1_29 : Cond.methodLinkNest RX1 29 yX8_put "BlockCells" ∈ GA := ga2 (List.mem_of_getElem? (i := 50) rfl) rfl
theorem l_RX8_99 : Cond.methodLink RX8 99 yX4_isFull ∈ GA := ga2 (List.mem_of_getElem? (i := 51) rfl) rfl
theorem l_RX8_103 : Cond.methodLink RX8 103 yX4_dropEldest ∈ GA := ga2 (List.mem_of_getElem? (i := 55) rfl) rfl
theorem l_RX4_37 : Cond.methodLink RX4 37 yX4_dropLatest ∈ GA := ga2 (List.mem_of_getElem? (i := 59) rfl) rfl
theorem l_RX8_106 : Cond.methodLink RX8 106 yX4_add ∈ GA := ga2 (List.mem_of_getElem? (i := 63) rfl) rfl
theorem l_RX4_23 : Cond.methodLink RX4 23 yX4_isFull ∈ GA := ga2 (List.mem_of_getElem? (i := 67) rfl) rfl
theorem l_RX4_27 : Cond.methodLinkNest RX4 27 yX8_put "BlockCells" ∈ GA := ga2 (List.mem_of_getElem? (i := 68) rfl) rfl
theorem l_RX8_110 : Cond.methodLink RX8 110 yX1_cellAt ∈ GA := ga2 (List.mem_of_getElem? (i := 69) rfl) rfl
theorem l_RL_22 : Cond.methodLink RL 22 yX8_undo ∈ GA := ga2 (List.mem_of_getElem? (i := 73) rfl) rfl
theorem l_RX8_117 : Cond.methodLink RX8 117 yX4_third ∈ GA := ga2 (List.mem_of_getElem? (i := 77) rfl) rfl
theorem l_RX4_33 : Cond.methodLinkNest RX4 33 yX8_at "BlockCells" ∈ GA := ga2 (List.mem_of_getElem? (i := 81) rfl) rfl
theorem l_RX8_121 : Cond.methodLink RX8 121 yX4_first ∈ GA := ga2 (List.mem_of_getElem? (i := 82) rfl) rfl
theorem l_RX8_124 : Cond.methodLink RX8 124 yX4_second ∈ GA := ga2 (List.mem_of_getElem? (i := 86) rfl) rfl
theorem l_RX8_127 : Cond.methodLink RX8 127 yX4_dropLatest ∈ GA := ga2 (List.mem_of_getElem? (i := 90) rfl) rfl
theorem l_RL_27 : Cond.methodLink RL 27 yX8_cell ∈ GA := ga2 (List.mem_of_getElem? (i := 91) rfl) rfl
theorem l_RL_31 : Cond.methodLink RL 31 yX8_told ∈ GA := ga2 (List.mem_of_getElem? (i := 95) rfl) rfl
theorem l_RX8_130 : Cond.methodLink RX8 130 yX1_phase ∈ GA := ga2 (List.mem_of_getElem? (i := 99) rfl) rfl
theorem l_RX8_134 : Cond.methodLink RX8 134 yX1_ones ∈ GA := ga2 (List.mem_of_getElem? (i := 103) rfl) rfl
theorem l_RX1_37 : Cond.methodLink RX1 37 yJ6_bitCount_0f7a4 ∈ GA := ga2 (List.mem_of_getElem? (i := 107) rfl) rfl
theorem k_RJ6_265 : Cond.constant RJ6 265 (1431655765) ∈ GA := ga2 (List.mem_of_getElem? (i := 110) rfl) rfl
theorem k_RJ6_266 : Cond.constant RJ6 266 (858993459) ∈ GA := ga2 (List.mem_of_getElem? (i := 111) rfl) rfl
theorem k_RJ6_267 : Cond.constant RJ6 267 (252645135) ∈ GA := ga2 (List.mem_of_getElem? (i := 112) rfl) rfl
theorem l_RX8_137 : Cond.methodLink RX8 137 yX8_undoable ∈ GA := ga2 (List.mem_of_getElem? (i := 113) rfl) rfl
theorem l_RX8_140 : Cond.methodLink RX8 140 yX8_thingsNow ∈ GA := ga2 (List.mem_of_getElem? (i := 117) rfl) rfl
theorem l_RX8_291 : Cond.methodLink RX8 291 yX6_lookAt ∈ GA := ga2 (List.mem_of_getElem? (i := 121) rfl) rfl
theorem l_RX6_55 : Cond.methodLink RX6 55 yX1_cellAt ∈ GA := ga2 (List.mem_of_getElem? (i := 125) rfl) rfl
theorem l_RX6_59 : Cond.methodLinkNest RX6 59 yX8_put "BlockCells" ∈ GA := ga2 (List.mem_of_getElem? (i := 126) rfl) rfl
theorem l_RX6_63 : Cond.methodLink RX6 63 yX6_thingOn ∈ GA := ga2 (List.mem_of_getElem? (i := 127) rfl) rfl
theorem l_RX6_43 : Cond.methodLinkNest RX6 43 yX8_at "BlockCells" ∈ GA := ga2 (List.mem_of_getElem? (i := 131) rfl) rfl
theorem l_RX6_66 : Cond.methodLink RX6 66 yX6_gather ∈ GA := ga2 (List.mem_of_getElem? (i := 132) rfl) rfl
theorem l_RX6_73 : Cond.methodLink RX6 73 yX6_join ∈ GA := ga2 (List.mem_of_getElem? (i := 136) rfl) rfl
theorem l_RX6_76 : Cond.methodLink RX6 76 yX6_joinNeighbours ∈ GA := ga2 (List.mem_of_getElem? (i := 140) rfl) rfl
theorem l_RX6_80 : Cond.methodLinkNest RX6 80 yX8_closedRound "BlockCells" ∈ GA := ga2 (List.mem_of_getElem? (i := 144) rfl) rfl
theorem l_RX6_70 : Cond.methodLink RX6 70 yX6_nameShapes ∈ GA := ga2 (List.mem_of_getElem? (i := 147) rfl) rfl
theorem l_RX6_83 : Cond.methodLink RX6 83 yX6_modelOf ∈ GA := ga2 (List.mem_of_getElem? (i := 151) rfl) rfl
theorem l_RX6_86 : Cond.methodLink RX6 86 yX6_areAlike ∈ GA := ga2 (List.mem_of_getElem? (i := 155) rfl) rfl
theorem l_RX6_90 : Cond.methodLink RX6 90 yX6_cellsOf ∈ GA := ga2 (List.mem_of_getElem? (i := 159) rfl) rfl
theorem l_RL_36 : Cond.methodLink RL 36 yX8_rule ∈ GA := ga2 (List.mem_of_getElem? (i := 163) rfl) rfl
theorem l_RX8_152 : Cond.methodLink RX8 152 yX3_becomeWord ∈ GA := ga2 (List.mem_of_getElem? (i := 167) rfl) rfl
theorem l_RL_40 : Cond.methodLink RL 40 yX8_change ∈ GA := ga2 (List.mem_of_getElem? (i := 168) rfl) rfl
theorem l_RX8_157 : Cond.methodLink RX8 157 yX8_isState ∈ GA := ga2 (List.mem_of_getElem? (i := 172) rfl) rfl
theorem l_RX8_160 : Cond.methodLink RX8 160 yX3_exchange ∈ GA := ga2 (List.mem_of_getElem? (i := 175) rfl) rfl
theorem l_RX3_38 : Cond.methodLink RX3 38 yX3_next ∈ GA := ga2 (List.mem_of_getElem? (i := 179) rfl) rfl
theorem l_RX8_163 : Cond.methodLink RX8 163 yX3_next ∈ GA := ga2 (List.mem_of_getElem? (i := 183) rfl) rfl
theorem l_RL_44 : Cond.methodLink RL 44 yX8_becomes ∈ GA := ga2 (List.mem_of_getElem? (i := 184) rfl) rfl
theorem l_RX8_166 : Cond.methodLink RX8 166 yX3_former ∈ GA := ga2 (List.mem_of_getElem? (i := 188) rfl) rfl
theorem l_RL_49 : Cond.methodLink RL 49 yX8_steps ∈ GA := ga2 (List.mem_of_getElem? (i := 192) rfl) rfl
theorem l_RX8_169 : Cond.methodLink RX8 169 yX1_go ∈ GA := ga2 (List.mem_of_getElem? (i := 196) rfl) rfl
theorem l_RX1_86 : Cond.methodLink RX1 86 yX1_turnBlocks ∈ GA := ga2 (List.mem_of_getElem? (i := 200) rfl) rfl
theorem l_RX1_59 : Cond.methodLink RX1 59 yX1_phase ∈ GA := ga2 (List.mem_of_getElem? (i := 204) rfl) rfl
theorem l_RX1_63 : Cond.methodLink RX1 63 yX1_stateOf ∈ GA := ga2 (List.mem_of_getElem? (i := 205) rfl) rfl
theorem l_RX1_55 : Cond.methodLinkNest RX1 55 yX8_closedRound "BlockCells" ∈ GA := ga2 (List.mem_of_getElem? (i := 209) rfl) rfl
theorem l_RX1_66 : Cond.methodLink RX1 66 yX1_pairOf ∈ GA := ga2 (List.mem_of_getElem? (i := 210) rfl) rfl
theorem l_RX1_74 : Cond.methodLink RX1 74 yX3_former ∈ GA := ga2 (List.mem_of_getElem? (i := 213) rfl) rfl
theorem l_RX1_79 : Cond.methodLink RX1 79 yX3_next ∈ GA := ga2 (List.mem_of_getElem? (i := 214) rfl) rfl
theorem l_RX1_82 : Cond.methodLink RX1 82 yX1_putState ∈ GA := ga2 (List.mem_of_getElem? (i := 215) rfl) rfl
theorem l_RX1_70 : Cond.methodLink RX1 70 yX1_withPair ∈ GA := ga2 (List.mem_of_getElem? (i := 219) rfl) rfl
theorem l_RL_53 : Cond.methodLink RL 53 yX8_block ∈ GA := ga2 (List.mem_of_getElem? (i := 222) rfl) rfl
theorem l_RX8_173 : Cond.methodLink RX8 173 yX1_stateAround ∈ GA := ga2 (List.mem_of_getElem? (i := 226) rfl) rfl
theorem l_RL_57 : Cond.methodLink RL 57 yX8_then ∈ GA := ga2 (List.mem_of_getElem? (i := 230) rfl) rfl
theorem l_RX8_176 : Cond.methodLink RX8 176 yX0_cellThen ∈ GA := ga2 (List.mem_of_getElem? (i := 234) rfl) rfl
theorem l_RX0_42 : Cond.methodLink RX0 42 yX1_copyOf ∈ GA := ga2 (List.mem_of_getElem? (i := 238) rfl) rfl
theorem l_RX1_44 : Cond.methodLinkNest RX1 44 yX8_copy "BlockCells" ∈ GA := ga3 (List.mem_of_getElem? (i := 2) rfl) rfl
theorem l_RX0_46 : Cond.methodLink RX0 46 yX1_go ∈ GA := ga3 (List.mem_of_getElem? (i := 5) rfl) rfl
theorem l_RX0_50 : Cond.methodLink RX0 50 yX1_cellAt ∈ GA := ga3 (List.mem_of_getElem? (i := 6) rfl) rfl
theorem l_RL_62 : Cond.methodLink RL 62 yX8_sum ∈ GA := ga3 (List.mem_of_getElem? (i := 7) rfl) rfl
theorem l_RX8_180 : Cond.methodLink RX8 180 yX8_areWeights ∈ GA := ga3 (List.mem_of_getElem? (i := 11) rfl) rfl
theorem l_RX8_299 : Cond.methodLink RX8 299 yX8_isWeight ∈ GA := ga3 (List.mem_of_getElem? (i := 14) rfl) rfl
theorem l_RX8_184 : Cond.methodLink RX8 184 yX1_weighed ∈ GA := ga3 (List.mem_of_getElem? (i := 17) rfl) rfl
theorem k_RX1_43 : Cond.constant RX1 43 (43690) ∈ GA := ga3 (List.mem_of_getElem? (i := 21) rfl) rfl
theorem k_RX8_188 : Cond.constant RX8 188 (1000000) ∈ GA := ga3 (List.mem_of_getElem? (i := 22) rfl) rfl
theorem l_RL_67 : Cond.methodLink RL 67 yX8_kept ∈ GA := ga3 (List.mem_of_getElem? (i := 23) rfl) rfl
theorem l_RX8_189 : Cond.methodLink RX8 189 yX3_keepsSum ∈ GA := ga3 (List.mem_of_getElem? (i := 27) rfl) rfl
theorem l_RX3_46 : Cond.methodLink RX3 46 yX3_weightOf ∈ GA := ga3 (List.mem_of_getElem? (i := 31) rfl) rfl
theorem l_RL_71 : Cond.methodLink RL 71 yX8_again ∈ GA := ga3 (List.mem_of_getElem? (i := 34) rfl) rfl
theorem l_RX8_192 : Cond.methodLink RX8 192 yX0_stepsToSame ∈ GA := ga3 (List.mem_of_getElem? (i := 38) rfl) rfl
theorem l_RX0_54 : Cond.methodLink RX0 54 yX1_hasCellsOf ∈ GA := ga3 (List.mem_of_getElem? (i := 42) rfl) rfl
theorem l_RX1_48 : Cond.methodLink RX1 48 yX1_isShifted ∈ GA := ga3 (List.mem_of_getElem? (i := 46) rfl) rfl
theorem l_RX1_52 : Cond.methodLink RX1 52 yX1_rowAt ∈ GA := ga3 (List.mem_of_getElem? (i := 50) rfl) rfl
theorem l_RL_75 : Cond.methodLink RL 75 yX8_moved ∈ GA := ga3 (List.mem_of_getElem? (i := 54) rfl) rfl
theorem l_RX8_196 : Cond.methodLink RX8 196 yX0_findMove ∈ GA := ga3 (List.mem_of_getElem? (i := 58) rfl) rfl
theorem l_RX0_58 : Cond.methodLink RX0 58 yX0_isMoved ∈ GA := ga3 (List.mem_of_getElem? (i := 62) rfl) rfl
theorem l_RX0_67 : Cond.methodLink RX0 67 yX1_isShifted ∈ GA := ga3 (List.mem_of_getElem? (i := 66) rfl) rfl
theorem l_RL_79 : Cond.methodLink RL 79 yX8_unlike ∈ GA := ga3 (List.mem_of_getElem? (i := 67) rfl) rfl
theorem l_RX8_209 : Cond.methodLink RX8 209 yX0_unlikeGrids ∈ GA := ga3 (List.mem_of_getElem? (i := 71) rfl) rfl
theorem l_RX0_71 : Cond.methodLink RX0 71 yX0_keepIfUnlike ∈ GA := ga3 (List.mem_of_getElem? (i := 75) rfl) rfl
theorem l_RX0_74 : Cond.methodLink RX0 74 yX0_isKeptAs ∈ GA := ga3 (List.mem_of_getElem? (i := 79) rfl) rfl
theorem l_RX0_86 : Cond.methodLinkNest RX0 86 yX8_at "BlockCells" ∈ GA := ga3 (List.mem_of_getElem? (i := 83) rfl) rfl
theorem l_RX0_78 : Cond.methodLink RX0 78 yX1_rowAt ∈ GA := ga3 (List.mem_of_getElem? (i := 84) rfl) rfl
theorem l_RX0_82 : Cond.methodLinkNest RX0 82 yX8_put "BlockCells" ∈ GA := ga3 (List.mem_of_getElem? (i := 85) rfl) rfl
theorem l_RL_83 : Cond.methodLink RL 83 yX8_thing ∈ GA := ga3 (List.mem_of_getElem? (i := 86) rfl) rfl
theorem l_RX8_213 : Cond.methodLink RX8 213 yX6_cellsOf ∈ GA := ga3 (List.mem_of_getElem? (i := 90) rfl) rfl
theorem l_RX8_216 : Cond.methodLink RX8 216 yX6_firstCellOf ∈ GA := ga3 (List.mem_of_getElem? (i := 91) rfl) rfl
theorem l_RX8_219 : Cond.methodLink RX8 219 yX6_shapeOf ∈ GA := ga3 (List.mem_of_getElem? (i := 95) rfl) rfl
theorem l_RL_87 : Cond.methodLink RL 87 yX8_thingAt ∈ GA := ga3 (List.mem_of_getElem? (i := 99) rfl) rfl
theorem l_RX8_222 : Cond.methodLink RX8 222 yX6_thingOn ∈ GA := ga3 (List.mem_of_getElem? (i := 103) rfl) rfl
theorem l_RL_91 : Cond.methodLink RL 91 yX8_shape ∈ GA := ga3 (List.mem_of_getElem? (i := 104) rfl) rfl
theorem l_RX8_225 : Cond.methodLink RX8 225 yX6_modelOf ∈ GA := ga3 (List.mem_of_getElem? (i := 108) rfl) rfl
theorem l_RX8_228 : Cond.methodLink RX8 228 yX6_thingsLike ∈ GA := ga3 (List.mem_of_getElem? (i := 109) rfl) rfl
theorem l_RX6_47 : Cond.methodLink RX6 47 yX6_shapeOf ∈ GA := ga3 (List.mem_of_getElem? (i := 113) rfl) rfl
theorem l_RL_95 : Cond.methodLink RL 95 yX8_feed ∈ GA := ga3 (List.mem_of_getElem? (i := 114) rfl) rfl
theorem l_RX8_231 : Cond.methodLink RX8 231 yX5_isFull ∈ GA := ga3 (List.mem_of_getElem? (i := 118) rfl) rfl
theorem l_RX8_232 : Cond.methodLink RX8 232 yX5_add ∈ GA := ga3 (List.mem_of_getElem? (i := 122) rfl) rfl
theorem l_RX5_25 : Cond.methodLink RX5 25 yX5_isFull ∈ GA := ga3 (List.mem_of_getElem? (i := 126) rfl) rfl
theorem l_RX5_29 : Cond.methodLinkNest RX5 29 yX8_put "BlockCells" ∈ GA := ga3 (List.mem_of_getElem? (i := 127) rfl) rfl
theorem l_RL_99 : Cond.methodLink RL 99 yX8_read ∈ GA := ga3 (List.mem_of_getElem? (i := 128) rfl) rfl
theorem l_RX8_235 : Cond.methodLink RX8 235 yX8_readTape ∈ GA := ga3 (List.mem_of_getElem? (i := 132) rfl) rfl
theorem l_RX8_302 : Cond.methodLink RX8 302 yX5_faultPlace ∈ GA := ga3 (List.mem_of_getElem? (i := 136) rfl) rfl
theorem l_RX5_37 : Cond.methodLink RX5 37 yX5_byteAt ∈ GA := ga3 (List.mem_of_getElem? (i := 140) rfl) rfl
theorem l_RX5_33 : Cond.methodLinkNest RX5 33 yX8_at "BlockCells" ∈ GA := ga3 (List.mem_of_getElem? (i := 144) rfl) rfl
theorem l_RX8_305 : Cond.methodLink RX8 305 yX5_firstRowLength ∈ GA := ga3 (List.mem_of_getElem? (i := 145) rfl) rfl
theorem l_RX8_308 : Cond.methodLink RX8 308 yX5_howManyRows ∈ GA := ga3 (List.mem_of_getElem? (i := 149) rfl) rfl
theorem l_RX8_311 : Cond.methodLink RX8 311 yX8_fillFromTape ∈ GA := ga3 (List.mem_of_getElem? (i := 153) rfl) rfl
theorem l_RX8_239 : Cond.methodLink RX8 239 yX5_byteAt ∈ GA := ga3 (List.mem_of_getElem? (i := 157) rfl) rfl
theorem l_RX8_238 : Cond.methodLink RX8 238 yX5_empty ∈ GA := ga3 (List.mem_of_getElem? (i := 158) rfl) rfl
theorem l_RL_103 : Cond.methodLink RL 103 yX8_spell ∈ GA := ga3 (List.mem_of_getElem? (i := 162) rfl) rfl
theorem l_RL_107 : Cond.methodLink RL 107 yX8_paper ∈ GA := ga3 (List.mem_of_getElem? (i := 166) rfl) rfl
theorem l_RL_111 : Cond.methodLink RL 111 yX8_list ∈ GA := ga3 (List.mem_of_getElem? (i := 170) rfl) rfl
theorem l_RX8_242 : Cond.methodLink RX8 242 yX8_rowOf ∈ GA := ga3 (List.mem_of_getElem? (i := 174) rfl) rfl
theorem l_RX8_246 : Cond.methodLink RX8 246 yX2_becomeZeros ∈ GA := ga3 (List.mem_of_getElem? (i := 178) rfl) rfl
theorem l_RL_117 : Cond.methodLink RL 117 yX8_set ∈ GA := ga3 (List.mem_of_getElem? (i := 182) rfl) rfl
theorem l_RX8_249 : Cond.methodLink RX8 249 yX2_isNothing ∈ GA := ga3 (List.mem_of_getElem? (i := 186) rfl) rfl
theorem l_RX8_252 : Cond.methodLink RX8 252 yX2_has ∈ GA := ga3 (List.mem_of_getElem? (i := 190) rfl) rfl
theorem l_RX8_254 : Cond.methodLink RX8 254 yX2_write ∈ GA := ga3 (List.mem_of_getElem? (i := 194) rfl) rfl
theorem l_RX2_19 : Cond.methodLink RX2 19 yX2_has ∈ GA := ga3 (List.mem_of_getElem? (i := 198) rfl) rfl
theorem l_RL_122 : Cond.methodLink RL 122 yX8_get ∈ GA := ga3 (List.mem_of_getElem? (i := 199) rfl) rfl
theorem l_RX8_258 : Cond.methodLink RX8 258 yX2_longAt ∈ GA := ga3 (List.mem_of_getElem? (i := 203) rfl) rfl
theorem k_RX8_262 : Cond.constantLong RX8 262 (-9223372036854775808) ∈ GA := ga3 (List.mem_of_getElem? (i := 207) rfl) rfl
theorem l_RL_127 : Cond.methodLink RL 127 yX8_lay ∈ GA := ga3 (List.mem_of_getElem? (i := 208) rfl) rfl
theorem l_RX8_264 : Cond.methodLink RX8 264 yX1_rowAt ∈ GA := ga3 (List.mem_of_getElem? (i := 212) rfl) rfl
theorem l_RL_131 : Cond.methodLink RL 131 yX8_load ∈ GA := ga3 (List.mem_of_getElem? (i := 213) rfl) rfl
theorem l_RX8_268 : Cond.methodLink RX8 268 yX1_putRow ∈ GA := ga3 (List.mem_of_getElem? (i := 217) rfl) rfl
theorem l_RL_135 : Cond.methodLink RL 135 yX8_judge ∈ GA := ga3 (List.mem_of_getElem? (i := 221) rfl) rfl
theorem l_RL_139 : Cond.methodLink RL 139 yX8_see ∈ GA := ga3 (List.mem_of_getElem? (i := 225) rfl) rfl
theorem l_RX8_274 : Cond.methodLink RX8 274 yX8_isAnyCell ∈ GA := ga3 (List.mem_of_getElem? (i := 229) rfl) rfl
theorem l_RL_143 : Cond.methodLink RL 143 yX8_fits ∈ GA := ga3 (List.mem_of_getElem? (i := 232) rfl) rfl
theorem l_RX8_277 : Cond.methodLink RX8 277 yX0_isSeenBy ∈ GA := ga3 (List.mem_of_getElem? (i := 236) rfl) rfl
theorem l_RX0_90 : Cond.methodLink RX0 90 yX3_becomeWord ∈ GA := ga4 (List.mem_of_getElem? (i := 0) rfl) rfl
theorem l_RX0_104 : Cond.methodLink RX0 104 yX4_second ∈ GA := ga4 (List.mem_of_getElem? (i := 1) rfl) rfl
theorem l_RX0_108 : Cond.methodLink RX0 108 yX1_has ∈ GA := ga4 (List.mem_of_getElem? (i := 2) rfl) rfl
theorem l_RX0_112 : Cond.methodLink RX0 112 yX4_first ∈ GA := ga4 (List.mem_of_getElem? (i := 3) rfl) rfl
theorem l_RX0_115 : Cond.methodLink RX0 115 yX0_cellThen ∈ GA := ga4 (List.mem_of_getElem? (i := 4) rfl) rfl
theorem l_RX0_119 : Cond.methodLink RX0 119 yX4_third ∈ GA := ga4 (List.mem_of_getElem? (i := 5) rfl) rfl
theorem l_RL_147 : Cond.methodLink RL 147 yX8_event ∈ GA := ga4 (List.mem_of_getElem? (i := 6) rfl) rfl
theorem l_RX8_284 : Cond.methodLink RX8 284 yX8_canHappen ∈ GA := ga4 (List.mem_of_getElem? (i := 10) rfl) rfl
theorem l_RL_151 : Cond.methodLink RL 151 yX8_after ∈ GA := ga4 (List.mem_of_getElem? (i := 14) rfl) rfl
theorem l_RX8_287 : Cond.methodLink RX8 287 yX0_behindEvents ∈ GA := ga4 (List.mem_of_getElem? (i := 18) rfl) rfl
theorem l_RX0_123 : Cond.methodLink RX0 123 yX3_copyOf ∈ GA := ga4 (List.mem_of_getElem? (i := 22) rfl) rfl
theorem l_RX3_42 : Cond.methodLinkNest RX3 42 yX8_copy "BlockCells" ∈ GA := ga4 (List.mem_of_getElem? (i := 26) rfl) rfl
theorem l_RX0_129 : Cond.methodLink RX0 129 yX0_happen ∈ GA := ga4 (List.mem_of_getElem? (i := 27) rfl) rfl
theorem l_RX0_133 : Cond.methodLink RX0 133 yX1_flip ∈ GA := ga4 (List.mem_of_getElem? (i := 31) rfl) rfl
theorem l_RL_155 : Cond.methodLink RL 155 yX8_image ∈ GA := ga4 (List.mem_of_getElem? (i := 32) rfl) rfl
theorem l_RX8_295 : Cond.methodLink RX8 295 yX7_copyOf ∈ GA := ga4 (List.mem_of_getElem? (i := 36) rfl) rfl
theorem l_RX7_37 : Cond.methodLink RX7 37 yX1_copyOf ∈ GA := ga4 (List.mem_of_getElem? (i := 40) rfl) rfl
theorem l_RX7_41 : Cond.methodLink RX7 41 yX3_copyOf ∈ GA := ga4 (List.mem_of_getElem? (i := 41) rfl) rfl
theorem l_RX7_44 : Cond.methodLink RX7 44 yX4_copyOf ∈ GA := ga4 (List.mem_of_getElem? (i := 42) rfl) rfl
theorem l_RX4_40 : Cond.methodLinkNest RX4 40 yX8_copy "BlockCells" ∈ GA := ga4 (List.mem_of_getElem? (i := 46) rfl) rfl
theorem l_RL_159 : Cond.methodLink RL 159 yX8_back ∈ GA := ga4 (List.mem_of_getElem? (i := 47) rfl) rfl
theorem l_RL_163 : Cond.methodLink RL 163 yX8_count ∈ GA := ga4 (List.mem_of_getElem? (i := 51) rfl) rfl
theorem n_RL_10 : Cond.classLink RL 10 RX9 ∈ GA := ga4 (List.mem_of_getElem? (i := 55) rfl) rfl
theorem inst_RX9 : Cond.instantiable RX9 41 ∈ GA ∧ Cond.initialized RX9 ∈ GA := ⟨ga4 (List.mem_of_getElem? (i := 56) rfl) rfl, ga1 (List.mem_of_getElem? (i := 11) rfl) rfl⟩
theorem l_RL_12 : Cond.methodLink RL 12 yX9_init ∈ GA := ga4 (List.mem_of_getElem? (i := 57) rfl) rfl
theorem l_RX9_3 : Cond.methodLink RX9 3 objectInit ∈ GA := ga4 (List.mem_of_getElem? (i := 60) rfl) rfl
theorem l_RX9_101 : Cond.methodLink RX9 101 yX9_ruleOf ∈ GA := ga4 (List.mem_of_getElem? (i := 61) rfl) rfl
theorem l_RX9_113 : Cond.methodLink RX9 113 yX9_turned ∈ GA := ga4 (List.mem_of_getElem? (i := 64) rfl) rfl
theorem l_RX9_116 : Cond.methodLink RX9 116 yX9_ball ∈ GA := ga4 (List.mem_of_getElem? (i := 67) rfl) rfl
theorem l_RX9_109 : Cond.methodLink RX9 109 yX9_bits ∈ GA := ga4 (List.mem_of_getElem? (i := 70) rfl) rfl
theorem l_RL_39 : Cond.methodLink RL 39 yX9_rule ∈ GA := ga4 (List.mem_of_getElem? (i := 197) rfl) rfl
theorem k_RX9_119 : Cond.constantLong RX9 119 (4) ∈ GA := ga4 (List.mem_of_getElem? (i := 201) rfl) rfl
theorem l_RX9_105 : Cond.methodLink RX9 105 yX9_isIn ∈ GA := ga4 (List.mem_of_getElem? (i := 202) rfl) rfl
theorem l_RL_43 : Cond.methodLink RL 43 yX9_change ∈ GA := ga4 (List.mem_of_getElem? (i := 205) rfl) rfl
theorem k_RX9_121 : Cond.constantLong RX9 121 (15) ∈ GA := ga4 (List.mem_of_getElem? (i := 209) rfl) rfl
theorem l_RL_48 : Cond.methodLink RL 48 yX9_becomes ∈ GA := ga4 (List.mem_of_getElem? (i := 210) rfl) rfl
theorem l_RX9_123 : Cond.methodLink RX9 123 yX9_inverse ∈ GA := ga4 (List.mem_of_getElem? (i := 214) rfl) rfl
theorem l_RL_17 : Cond.methodLink RL 17 yX9_size ∈ GA := ga4 (List.mem_of_getElem? (i := 217) rfl) rfl
theorem k_RX9_152 : Cond.constantLong RX9 152 (2) ∈ GA := ga4 (List.mem_of_getElem? (i := 221) rfl) rfl
theorem k_RX9_154 : Cond.constantLong RX9 154 (16) ∈ GA := ga4 (List.mem_of_getElem? (i := 222) rfl) rfl
theorem l_RL_21 : Cond.methodLink RL 21 yX9_toggle ∈ GA := ga4 (List.mem_of_getElem? (i := 223) rfl) rfl
theorem l_RX9_159 : Cond.methodLink RX9 159 yX9_isCell ∈ GA := ga4 (List.mem_of_getElem? (i := 227) rfl) rfl
theorem l_RL_26 : Cond.methodLink RL 26 yX9_undo ∈ GA := ga4 (List.mem_of_getElem? (i := 231) rfl) rfl
theorem l_RL_30 : Cond.methodLink RL 30 yX9_cell ∈ GA := ga4 (List.mem_of_getElem? (i := 235) rfl) rfl
theorem l_RL_35 : Cond.methodLink RL 35 yX9_told ∈ GA := ga4 (List.mem_of_getElem? (i := 239) rfl) rfl
theorem l_RX9_163 : Cond.methodLink RX9 163 yX9_countOf ∈ GA := ga5 (List.mem_of_getElem? (i := 3) rfl) rfl
theorem l_RX9_167 : Cond.methodLink RX9 167 yX9_changesNow ∈ GA := ga5 (List.mem_of_getElem? (i := 7) rfl) rfl
theorem l_RX9_171 : Cond.methodLink RX9 171 yX9_findThings ∈ GA := ga5 (List.mem_of_getElem? (i := 11) rfl) rfl
theorem l_RX9_228 : Cond.methodLink RX9 228 yX9_findThing ∈ GA := ga5 (List.mem_of_getElem? (i := 15) rfl) rfl
theorem l_RX9_232 : Cond.methodLink RX9 232 yX9_areAlike ∈ GA := ga5 (List.mem_of_getElem? (i := 19) rfl) rfl
theorem l_RL_52 : Cond.methodLink RL 52 yX9_steps ∈ GA := ga5 (List.mem_of_getElem? (i := 23) rfl) rfl
theorem k_RX9_181 : Cond.constantLong RX9 181 (-200) ∈ GA := ga5 (List.mem_of_getElem? (i := 27) rfl) rfl
theorem k_RX9_183 : Cond.constantLong RX9 183 (200) ∈ GA := ga5 (List.mem_of_getElem? (i := 28) rfl) rfl
theorem k_RX9_185 : Cond.constantLong RX9 185 (-9999) ∈ GA := ga5 (List.mem_of_getElem? (i := 29) rfl) rfl
theorem k_RX9_187 : Cond.constantLong RX9 187 (9999) ∈ GA := ga5 (List.mem_of_getElem? (i := 30) rfl) rfl
theorem l_RX9_189 : Cond.methodLink RX9 189 yX9_minds ∈ GA := ga5 (List.mem_of_getElem? (i := 31) rfl) rfl
theorem l_RX9_139 : Cond.methodLink RX9 139 yX9_copies ∈ GA := ga5 (List.mem_of_getElem? (i := 35) rfl) rfl
theorem l_RX9_192 : Cond.methodLink RX9 192 yX9_goes ∈ GA := ga5 (List.mem_of_getElem? (i := 38) rfl) rfl
theorem l_RX9_148 : Cond.methodLink RX9 148 yX9_blocks ∈ GA := ga5 (List.mem_of_getElem? (i := 42) rfl) rfl
theorem l_RX9_131 : Cond.methodLink RX9 131 yX9_blockAt ∈ GA := ga5 (List.mem_of_getElem? (i := 46) rfl) rfl
theorem l_RX9_135 : Cond.methodLink RX9 135 yX9_blockBecomes ∈ GA := ga5 (List.mem_of_getElem? (i := 50) rfl) rfl
theorem l_RX9_127 : Cond.methodLink RX9 127 yX9_with ∈ GA := ga5 (List.mem_of_getElem? (i := 54) rfl) rfl
theorem l_RL_56 : Cond.methodLink RL 56 yX9_block ∈ GA := ga5 (List.mem_of_getElem? (i := 57) rfl) rfl
theorem l_RL_61 : Cond.methodLink RL 61 yX9_then ∈ GA := ga5 (List.mem_of_getElem? (i := 61) rfl) rfl
theorem k_RX9_196 : Cond.constantLong RX9 196 (-60) ∈ GA := ga5 (List.mem_of_getElem? (i := 65) rfl) rfl
theorem k_RX9_198 : Cond.constantLong RX9 198 (60) ∈ GA := ga5 (List.mem_of_getElem? (i := 66) rfl) rfl
theorem l_RL_66 : Cond.methodLink RL 66 yX9_sum ∈ GA := ga5 (List.mem_of_getElem? (i := 67) rfl) rfl
theorem l_RX9_208 : Cond.methodLink RX9 208 yX9_areWeights ∈ GA := ga5 (List.mem_of_getElem? (i := 71) rfl) rfl
theorem l_RX9_204 : Cond.methodLink RX9 204 yX9_isWeight ∈ GA := ga5 (List.mem_of_getElem? (i := 74) rfl) rfl
theorem k_RX9_200 : Cond.constantLong RX9 200 (-9) ∈ GA := ga5 (List.mem_of_getElem? (i := 77) rfl) rfl
theorem k_RX9_202 : Cond.constantLong RX9 202 (9) ∈ GA := ga5 (List.mem_of_getElem? (i := 78) rfl) rfl
theorem k_RX9_212 : Cond.constant RX9 212 (1000000) ∈ GA := ga5 (List.mem_of_getElem? (i := 79) rfl) rfl
theorem l_RL_70 : Cond.methodLink RL 70 yX9_kept ∈ GA := ga5 (List.mem_of_getElem? (i := 80) rfl) rfl
theorem l_RX9_213 : Cond.methodLink RX9 213 yX9_stateSum ∈ GA := ga5 (List.mem_of_getElem? (i := 84) rfl) rfl
theorem l_RL_74 : Cond.methodLink RL 74 yX9_again ∈ GA := ga5 (List.mem_of_getElem? (i := 87) rfl) rfl
theorem l_RX9_217 : Cond.methodLink RX9 217 yX9_isShifted ∈ GA := ga5 (List.mem_of_getElem? (i := 91) rfl) rfl
theorem l_RL_78 : Cond.methodLink RL 78 yX9_moved ∈ GA := ga5 (List.mem_of_getElem? (i := 95) rfl) rfl
theorem l_RX9_220 : Cond.methodLink RX9 220 yX9_shift ∈ GA := ga5 (List.mem_of_getElem? (i := 99) rfl) rfl
theorem l_RL_82 : Cond.methodLink RL 82 yX9_unlike ∈ GA := ga5 (List.mem_of_getElem? (i := 103) rfl) rfl
theorem k_RX9_223 : Cond.constantLong RX9 223 (64) ∈ GA := ga5 (List.mem_of_getElem? (i := 107) rfl) rfl
theorem l_RX9_225 : Cond.methodLink RX9 225 yX9_isMet ∈ GA := ga5 (List.mem_of_getElem? (i := 108) rfl) rfl
theorem l_RL_86 : Cond.methodLink RL 86 yX9_thing ∈ GA := ga5 (List.mem_of_getElem? (i := 112) rfl) rfl
theorem l_RX9_235 : Cond.methodLink RX9 235 yX9_told100 ∈ GA := ga5 (List.mem_of_getElem? (i := 116) rfl) rfl
theorem l_RL_90 : Cond.methodLink RL 90 yX9_thingAt ∈ GA := ga5 (List.mem_of_getElem? (i := 119) rfl) rfl
theorem l_RL_94 : Cond.methodLink RL 94 yX9_shape ∈ GA := ga5 (List.mem_of_getElem? (i := 123) rfl) rfl
theorem l_RL_98 : Cond.methodLink RL 98 yX9_feed ∈ GA := ga5 (List.mem_of_getElem? (i := 127) rfl) rfl
theorem k_RX9_238 : Cond.constantLong RX9 238 (127) ∈ GA := ga5 (List.mem_of_getElem? (i := 131) rfl) rfl
theorem l_RL_102 : Cond.methodLink RL 102 yX9_read ∈ GA := ga5 (List.mem_of_getElem? (i := 132) rfl) rfl
theorem l_RX9_249 : Cond.methodLink RX9 249 yX9_reads ∈ GA := ga5 (List.mem_of_getElem? (i := 136) rfl) rfl
theorem l_RL_106 : Cond.methodLink RL 106 yX9_spell ∈ GA := ga5 (List.mem_of_getElem? (i := 140) rfl) rfl
theorem l_RL_110 : Cond.methodLink RL 110 yX9_paper ∈ GA := ga5 (List.mem_of_getElem? (i := 144) rfl) rfl
theorem l_RL_114 : Cond.methodLink RL 114 yX9_list ∈ GA := ga5 (List.mem_of_getElem? (i := 148) rfl) rfl
theorem l_RX9_257 : Cond.methodLink RX9 257 yX9_isList ∈ GA := ga5 (List.mem_of_getElem? (i := 152) rfl) rfl
theorem k_RX9_255 : Cond.constantLong RX9 255 (3) ∈ GA := ga5 (List.mem_of_getElem? (i := 155) rfl) rfl
theorem l_RL_121 : Cond.methodLink RL 121 yX9_set ∈ GA := ga5 (List.mem_of_getElem? (i := 156) rfl) rfl
theorem l_RX9_260 : Cond.methodLink RX9 260 yX9_isPlace ∈ GA := ga5 (List.mem_of_getElem? (i := 160) rfl) rfl
theorem l_RL_126 : Cond.methodLink RL 126 yX9_get ∈ GA := ga5 (List.mem_of_getElem? (i := 164) rfl) rfl
theorem k_RX9_264 : Cond.constantLong RX9 264 (-9223372036854775808) ∈ GA := ga5 (List.mem_of_getElem? (i := 168) rfl) rfl
theorem l_RL_130 : Cond.methodLink RL 130 yX9_lay ∈ GA := ga5 (List.mem_of_getElem? (i := 169) rfl) rfl
theorem l_RL_134 : Cond.methodLink RL 134 yX9_load ∈ GA := ga5 (List.mem_of_getElem? (i := 173) rfl) rfl
theorem l_RL_138 : Cond.methodLink RL 138 yX9_judge ∈ GA := ga5 (List.mem_of_getElem? (i := 177) rfl) rfl
theorem l_RL_142 : Cond.methodLink RL 142 yX9_see ∈ GA := ga5 (List.mem_of_getElem? (i := 181) rfl) rfl
theorem k_RX9_269 : Cond.constantLong RX9 269 (-12) ∈ GA := ga5 (List.mem_of_getElem? (i := 185) rfl) rfl
theorem k_RX9_271 : Cond.constantLong RX9 271 (12) ∈ GA := ga5 (List.mem_of_getElem? (i := 186) rfl) rfl
theorem l_RX9_273 : Cond.methodLink RX9 273 yX9_isTold ∈ GA := ga5 (List.mem_of_getElem? (i := 187) rfl) rfl
theorem l_RL_146 : Cond.methodLink RL 146 yX9_fits ∈ GA := ga5 (List.mem_of_getElem? (i := 190) rfl) rfl
theorem l_RX9_276 : Cond.methodLink RX9 276 yX9_isSo ∈ GA := ga5 (List.mem_of_getElem? (i := 194) rfl) rfl
theorem l_RL_150 : Cond.methodLink RL 150 yX9_event ∈ GA := ga5 (List.mem_of_getElem? (i := 198) rfl) rfl
theorem k_RX9_282 : Cond.constantLong RX9 282 (20) ∈ GA := ga5 (List.mem_of_getElem? (i := 202) rfl) rfl
theorem l_RL_154 : Cond.methodLink RL 154 yX9_after ∈ GA := ga5 (List.mem_of_getElem? (i := 203) rfl) rfl
theorem l_RX9_284 : Cond.methodLink RX9 284 yX9_happens ∈ GA := ga5 (List.mem_of_getElem? (i := 207) rfl) rfl
theorem l_RL_158 : Cond.methodLink RL 158 yX9_image ∈ GA := ga5 (List.mem_of_getElem? (i := 211) rfl) rfl
theorem l_RX9_292 : Cond.methodLink RX9 292 yX9_carriesAll ∈ GA := ga5 (List.mem_of_getElem? (i := 215) rfl) rfl
theorem l_RX9_288 : Cond.methodLink RX9 288 yX9_carries ∈ GA := ga5 (List.mem_of_getElem? (i := 219) rfl) rfl
theorem l_RL_162 : Cond.methodLink RL 162 yX9_back ∈ GA := ga5 (List.mem_of_getElem? (i := 223) rfl) rfl
theorem l_RL_166 : Cond.methodLink RL 166 yX9_count ∈ GA := ga5 (List.mem_of_getElem? (i := 227) rfl) rfl
theorem k_RL_115 : Cond.constantLong RL 115 (4294967295) ∈ GA := ga5 (List.mem_of_getElem? (i := 231) rfl) rfl
theorem obj_ok : Cond.instanceMethod objectInit ∈ GA ∧ Cond.code objectInit ⟨#[0xb1]⟩ 1 none ∈ GA := ⟨ga1 (List.mem_of_getElem? (i := 19) rfl) rfl, ga1 (List.mem_of_getElem? (i := 20) rfl) rfl⟩
