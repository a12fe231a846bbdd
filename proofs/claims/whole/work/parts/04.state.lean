/-! The state of the system: one function of component, object, place; and the cells that hold it. -/
abbrev wc_St : Type := Nat → Nat → Nat → Int32
def wc_st (σ : wc_St) (c i j : Nat) (x : Int32) : wc_St := fun c' i' j' => if c' = c ∧ i' = i ∧ j' = j then x else σ c' i' j'
theorem wc_st_ne {σ : wc_St} {c i j c' i' : Nat} {x : Int32} (h : i' ≠ i) : wc_st σ c i j x c' i' = σ c' i' := by
  funext j'
  simp [wc_st, h]
theorem wc_st_at {σ : wc_St} {c i j : Nat} {x : Int32} : wc_st σ c i j x c i = upd (σ c i) j x := by
  funext j'
  simp [wc_st, upd]
theorem wc_st_self {σ : wc_St} {c i j : Nat} {x : Int32} : wc_st σ c i j x c i j = x := by
  simp [wc_st]
abbrev wc_G : Type := va_G × (Nat → ClassId) × (Nat → Nat)
def wc_tys (Γ : wc_G) : List (ClassId × FieldType) := [(Γ.2.1 0, .int), (Γ.2.1 1, .boolean), (Γ.2.1 2, .object "WaitedCommits$Site"), (Γ.2.1 3, .object "WaitedCommits$Key"), (Γ.2.1 4, .object "WaitedCommits$Transaction"), (Γ.2.1 5, .object "WaitedCommits$Message")]
def wc_cell (Γ : wc_G) (σ μ : wc_St) (q : Nat) : va_E :=
  if q < 1 then .inr (0, [.int (σ 22 0 0), .ref (Γ.2.2 1), .ref (Γ.2.2 2), .ref (Γ.2.2 3), .ref (Γ.2.2 4), .int (σ 23 0 0), .int (σ 24 0 0), .int (σ 25 0 0), .int (σ 26 0 0)]) else
  if q < 2 then .inl (Γ.2.1 2, 3, .inr (.inr (.inr (.inr (fun j => some (Γ.2.2 (5 + j))))))) else
  if q < 3 then .inl (Γ.2.1 3, 9, .inr (.inr (.inr (.inr (fun j => some (Γ.2.2 (8 + j))))))) else
  if q < 4 then .inl (Γ.2.1 4, 5, .inr (.inr (.inr (.inr (fun j => some (Γ.2.2 (35 + j))))))) else
  if q < 5 then .inl (Γ.2.1 5, 15, .inr (.inr (.inr (.inr (fun j => some (Γ.2.2 (55 + j))))))) else
  if q < 8 then .inr (1, [.int (σ 0 (q - 5) 0), .int (σ 1 (q - 5) 0), .int (σ 2 (q - 5) 0), .int (σ 3 (q - 5) 0), .int (σ 4 (q - 5) 0)]) else
  if q < 17 then .inr (2, [.ref (Γ.2.2 (17 + (q - 8))), .ref (Γ.2.2 (26 + (q - 8))), .int (σ 5 (q - 8) 0)]) else
  if q < 26 then .inl (Γ.2.1 0, 4, .inl (σ 6 (q - 17))) else
  if q < 35 then .inl (Γ.2.1 0, 4, .inl (σ 7 (q - 26))) else
  if q < 40 then .inr (3, [.int (σ 8 (q - 35) 0), .int (σ 9 (q - 35) 0), .int (σ 10 (q - 35) 0), .int (σ 11 (q - 35) 0), .int (σ 12 (q - 35) 0), .int (σ 13 (q - 35) 0), .int (σ 14 (q - 35) 0), .ref (Γ.2.2 (40 + (q - 35))), .ref (Γ.2.2 (45 + (q - 35))), .ref (Γ.2.2 (50 + (q - 35)))]) else
  if q < 45 then .inl (Γ.2.1 0, 9, .inl (σ 15 (q - 40))) else
  if q < 50 then .inl (Γ.2.1 0, 9, .inl (σ 16 (q - 45))) else
  if q < 55 then .inl (Γ.2.1 0, 3, .inl (σ 17 (q - 50))) else
  if q < 70 then .inr (4, [.int (nI ((q - 55) / 3)), .int (nI ((q - 55) % 3)), .int (σ 18 (q - 55) 0), .int (σ 19 (q - 55) 0), .int (σ 20 (q - 55) 0), .int (σ 21 (q - 55) 0)]) else
  if q < 71 then .inr (5, [.int (μ 30 0 0), .int (μ 31 0 0), .ref (Γ.2.2 71), .ref (Γ.2.2 72), .ref (Γ.2.2 73), .ref (Γ.2.2 74), .ref (Γ.2.2 75), .int (μ 37 0 0), .ref (Γ.2.2 76), .ref (Γ.2.2 77), .ref (Γ.2.2 78), .int (μ 41 0 0), .ref (Γ.2.2 79), .ref (Γ.2.2 80), .ref (Γ.2.2 81), .ref (Γ.2.2 82), .ref (Γ.2.2 83), .ref (Γ.2.2 84), .ref (Γ.2.2 85), .ref (Γ.2.2 86), .ref (Γ.2.2 87), .ref (Γ.2.2 88), .int (μ 52 0 0), .ref (Γ.2.2 89), .ref (Γ.2.2 90)]) else
  if q < 72 then .inl (Γ.2.1 0, 3, .inl (μ 32 0)) else
  if q < 73 then .inl (Γ.2.1 0, 3, .inl (μ 33 0)) else
  if q < 74 then .inl (Γ.2.1 0, 3, .inl (μ 34 0)) else
  if q < 75 then .inl (Γ.2.1 1, 3, .inl (μ 35 0)) else
  if q < 76 then .inl (Γ.2.1 0, 3, .inl (μ 36 0)) else
  if q < 77 then .inl (Γ.2.1 0, 512, .inl (μ 38 0)) else
  if q < 78 then .inl (Γ.2.1 0, 512, .inl (μ 39 0)) else
  if q < 79 then .inl (Γ.2.1 0, 512, .inl (μ 40 0)) else
  if q < 80 then .inl (Γ.2.1 0, 5, .inl (μ 42 0)) else
  if q < 81 then .inl (Γ.2.1 0, 5, .inl (μ 43 0)) else
  if q < 82 then .inl (Γ.2.1 0, 5, .inl (μ 44 0)) else
  if q < 83 then .inl (Γ.2.1 0, 5, .inl (μ 45 0)) else
  if q < 84 then .inl (Γ.2.1 0, 5, .inl (μ 46 0)) else
  if q < 85 then .inl (Γ.2.1 0, 45, .inl (μ 47 0)) else
  if q < 86 then .inl (Γ.2.1 1, 45, .inl (μ 48 0)) else
  if q < 87 then .inl (Γ.2.1 0, 45, .inl (μ 49 0)) else
  if q < 88 then .inl (Γ.2.1 1, 15, .inl (μ 50 0)) else
  if q < 89 then .inl (Γ.2.1 0, 15, .inl (μ 51 0)) else
  if q < 90 then .inl (Γ.2.1 0, 45, .inl (μ 53 0)) else
  if q < 91 then .inl (Γ.2.1 0, 45, .inl (μ 54 0)) else
  .inr (0, [])
def wc_wl (Γ : wc_G) (σ μ : wc_St) : va_W := (List.range 91).map (fun q => (Γ.2.2 q, wc_cell Γ σ μ q))
theorem wc_at {Γ : wc_G} {σ μ : wc_St} {q : Nat} {e : va_E} (hq : q < 91) (h : wc_cell Γ σ μ q = e) : (wc_wl Γ σ μ)[q]? = some (Γ.2.2 q, e) := by
  subst h
  simp [wc_wl, hq]
theorem wc_set {Γ : wc_G} {σ μ σ' μ' : wc_St} {q : Nat} {e : va_E} (h : wc_cell Γ σ' μ' q = e) (ho : ∀ j, j ≠ q → wc_cell Γ σ' μ' j = wc_cell Γ σ μ j) : (wc_wl Γ σ μ).set q (Γ.2.2 q, e) = wc_wl Γ σ' μ' := by
  subst h
  apply List.ext_getElem?
  intro j
  by_cases hj : j = q
  · subst hj
    rw [List.getElem?_set_self']
    by_cases hq : j < 91
    · simp [wc_wl, hq]
    · simp [wc_wl, hq]
  · rw [List.getElem?_set_ne (Ne.symm hj)]
    by_cases hq : j < 91
    · simp [wc_wl, hq, ho j hj]
    · simp [wc_wl, hq]
theorem wc_ite {α : Type} {P : Prop} [Decidable P] {a b a' b' : α} (h1 : P → a = a') (h2 : ¬ P → b = b') : (if P then a else b) = (if P then a' else b') := by
  by_cases h : P
  · rw [if_pos h, if_pos h, h1 h]
  · rw [if_neg h, if_neg h, h2 h]
theorem wc_inj {Γ : wc_G} {σ μ : wc_St} {A : Nat → Prop} (hD : va_D A (wc_wl Γ σ μ)) {a b : Nat} (ha : a < 91) (hb : b < 91) (h : Γ.2.2 a = Γ.2.2 b) : a = b :=
  hD.1 a b _ _ (wc_at ha rfl) (wc_at hb rfl) h
-- each kind's cell
theorem wc_c_WC {Γ : wc_G} {σ μ : wc_St} : wc_cell Γ σ μ (0) = .inr (0, [.int (σ 22 0 0), .ref (Γ.2.2 1), .ref (Γ.2.2 2), .ref (Γ.2.2 3), .ref (Γ.2.2 4), .int (σ 23 0 0), .int (σ 24 0 0), .int (σ 25 0 0), .int (σ 26 0 0)]) := by
  unfold wc_cell
  rw [if_pos (show 0 < 1 by omega)]
theorem wc_c_sites {Γ : wc_G} {σ μ : wc_St} : wc_cell Γ σ μ (1) = .inl (Γ.2.1 2, 3, .inr (.inr (.inr (.inr (fun j => some (Γ.2.2 (5 + j))))))) := by
  unfold wc_cell
  rw [if_neg (show ¬ 1 < 1 by omega), if_pos (show 1 < 2 by omega)]
theorem wc_c_keys {Γ : wc_G} {σ μ : wc_St} : wc_cell Γ σ μ (2) = .inl (Γ.2.1 3, 9, .inr (.inr (.inr (.inr (fun j => some (Γ.2.2 (8 + j))))))) := by
  unfold wc_cell
  rw [if_neg (show ¬ 2 < 1 by omega), if_neg (show ¬ 2 < 2 by omega), if_pos (show 2 < 3 by omega)]
theorem wc_c_txs {Γ : wc_G} {σ μ : wc_St} : wc_cell Γ σ μ (3) = .inl (Γ.2.1 4, 5, .inr (.inr (.inr (.inr (fun j => some (Γ.2.2 (35 + j))))))) := by
  unfold wc_cell
  rw [if_neg (show ¬ 3 < 1 by omega), if_neg (show ¬ 3 < 2 by omega), if_neg (show ¬ 3 < 3 by omega), if_pos (show 3 < 4 by omega)]
theorem wc_c_slots {Γ : wc_G} {σ μ : wc_St} : wc_cell Γ σ μ (4) = .inl (Γ.2.1 5, 15, .inr (.inr (.inr (.inr (fun j => some (Γ.2.2 (55 + j))))))) := by
  unfold wc_cell
  rw [if_neg (show ¬ 4 < 1 by omega), if_neg (show ¬ 4 < 2 by omega), if_neg (show ¬ 4 < 3 by omega), if_neg (show ¬ 4 < 4 by omega), if_pos (show 4 < 5 by omega)]
theorem wc_c_Site {Γ : wc_G} {σ μ : wc_St} {i : Nat} (h : i < 3) : wc_cell Γ σ μ (5 + i) = .inr (1, [.int (σ 0 i 0), .int (σ 1 i 0), .int (σ 2 i 0), .int (σ 3 i 0), .int (σ 4 i 0)]) := by
  unfold wc_cell
  rw [if_neg (show ¬ 5 + i < 1 by omega), if_neg (show ¬ 5 + i < 2 by omega), if_neg (show ¬ 5 + i < 3 by omega), if_neg (show ¬ 5 + i < 4 by omega), if_neg (show ¬ 5 + i < 5 by omega), if_pos (show 5 + i < 8 by omega)]
  rw [show 5 + i - 5 = i by omega]
theorem wc_c_Key {Γ : wc_G} {σ μ : wc_St} {i : Nat} (h : i < 9) : wc_cell Γ σ μ (8 + i) = .inr (2, [.ref (Γ.2.2 (17 + i)), .ref (Γ.2.2 (26 + i)), .int (σ 5 i 0)]) := by
  unfold wc_cell
  rw [if_neg (show ¬ 8 + i < 1 by omega), if_neg (show ¬ 8 + i < 2 by omega), if_neg (show ¬ 8 + i < 3 by omega), if_neg (show ¬ 8 + i < 4 by omega), if_neg (show ¬ 8 + i < 5 by omega), if_neg (show ¬ 8 + i < 8 by omega), if_pos (show 8 + i < 17 by omega)]
  rw [show 8 + i - 8 = i by omega]
theorem wc_c_values {Γ : wc_G} {σ μ : wc_St} {i : Nat} (h : i < 9) : wc_cell Γ σ μ (17 + i) = .inl (Γ.2.1 0, 4, .inl (σ 6 i)) := by
  unfold wc_cell
  rw [if_neg (show ¬ 17 + i < 1 by omega), if_neg (show ¬ 17 + i < 2 by omega), if_neg (show ¬ 17 + i < 3 by omega), if_neg (show ¬ 17 + i < 4 by omega), if_neg (show ¬ 17 + i < 5 by omega), if_neg (show ¬ 17 + i < 8 by omega), if_neg (show ¬ 17 + i < 17 by omega), if_pos (show 17 + i < 26 by omega)]
  rw [show 17 + i - 17 = i by omega]
theorem wc_c_stamps {Γ : wc_G} {σ μ : wc_St} {i : Nat} (h : i < 9) : wc_cell Γ σ μ (26 + i) = .inl (Γ.2.1 0, 4, .inl (σ 7 i)) := by
  unfold wc_cell
  rw [if_neg (show ¬ 26 + i < 1 by omega), if_neg (show ¬ 26 + i < 2 by omega), if_neg (show ¬ 26 + i < 3 by omega), if_neg (show ¬ 26 + i < 4 by omega), if_neg (show ¬ 26 + i < 5 by omega), if_neg (show ¬ 26 + i < 8 by omega), if_neg (show ¬ 26 + i < 17 by omega), if_neg (show ¬ 26 + i < 26 by omega), if_pos (show 26 + i < 35 by omega)]
  rw [show 26 + i - 26 = i by omega]
theorem wc_c_Tx {Γ : wc_G} {σ μ : wc_St} {i : Nat} (h : i < 5) : wc_cell Γ σ μ (35 + i) = .inr (3, [.int (σ 8 i 0), .int (σ 9 i 0), .int (σ 10 i 0), .int (σ 11 i 0), .int (σ 12 i 0), .int (σ 13 i 0), .int (σ 14 i 0), .ref (Γ.2.2 (40 + i)), .ref (Γ.2.2 (45 + i)), .ref (Γ.2.2 (50 + i))]) := by
  unfold wc_cell
  rw [if_neg (show ¬ 35 + i < 1 by omega), if_neg (show ¬ 35 + i < 2 by omega), if_neg (show ¬ 35 + i < 3 by omega), if_neg (show ¬ 35 + i < 4 by omega), if_neg (show ¬ 35 + i < 5 by omega), if_neg (show ¬ 35 + i < 8 by omega), if_neg (show ¬ 35 + i < 17 by omega), if_neg (show ¬ 35 + i < 26 by omega), if_neg (show ¬ 35 + i < 35 by omega), if_pos (show 35 + i < 40 by omega)]
  rw [show 35 + i - 35 = i by omega]
theorem wc_c_locks {Γ : wc_G} {σ μ : wc_St} {i : Nat} (h : i < 5) : wc_cell Γ σ μ (40 + i) = .inl (Γ.2.1 0, 9, .inl (σ 15 i)) := by
  unfold wc_cell
  rw [if_neg (show ¬ 40 + i < 1 by omega), if_neg (show ¬ 40 + i < 2 by omega), if_neg (show ¬ 40 + i < 3 by omega), if_neg (show ¬ 40 + i < 4 by omega), if_neg (show ¬ 40 + i < 5 by omega), if_neg (show ¬ 40 + i < 8 by omega), if_neg (show ¬ 40 + i < 17 by omega), if_neg (show ¬ 40 + i < 26 by omega), if_neg (show ¬ 40 + i < 35 by omega), if_neg (show ¬ 40 + i < 40 by omega), if_pos (show 40 + i < 45 by omega)]
  rw [show 40 + i - 40 = i by omega]
theorem wc_c_written {Γ : wc_G} {σ μ : wc_St} {i : Nat} (h : i < 5) : wc_cell Γ σ μ (45 + i) = .inl (Γ.2.1 0, 9, .inl (σ 16 i)) := by
  unfold wc_cell
  rw [if_neg (show ¬ 45 + i < 1 by omega), if_neg (show ¬ 45 + i < 2 by omega), if_neg (show ¬ 45 + i < 3 by omega), if_neg (show ¬ 45 + i < 4 by omega), if_neg (show ¬ 45 + i < 5 by omega), if_neg (show ¬ 45 + i < 8 by omega), if_neg (show ¬ 45 + i < 17 by omega), if_neg (show ¬ 45 + i < 26 by omega), if_neg (show ¬ 45 + i < 35 by omega), if_neg (show ¬ 45 + i < 40 by omega), if_neg (show ¬ 45 + i < 45 by omega), if_pos (show 45 + i < 50 by omega)]
  rw [show 45 + i - 45 = i by omega]
theorem wc_c_marks {Γ : wc_G} {σ μ : wc_St} {i : Nat} (h : i < 5) : wc_cell Γ σ μ (50 + i) = .inl (Γ.2.1 0, 3, .inl (σ 17 i)) := by
  unfold wc_cell
  rw [if_neg (show ¬ 50 + i < 1 by omega), if_neg (show ¬ 50 + i < 2 by omega), if_neg (show ¬ 50 + i < 3 by omega), if_neg (show ¬ 50 + i < 4 by omega), if_neg (show ¬ 50 + i < 5 by omega), if_neg (show ¬ 50 + i < 8 by omega), if_neg (show ¬ 50 + i < 17 by omega), if_neg (show ¬ 50 + i < 26 by omega), if_neg (show ¬ 50 + i < 35 by omega), if_neg (show ¬ 50 + i < 40 by omega), if_neg (show ¬ 50 + i < 45 by omega), if_neg (show ¬ 50 + i < 50 by omega)]
  rw [if_pos (show 50 + i < 55 by omega)]
  rw [show 50 + i - 50 = i by omega]
theorem wc_c_Msg {Γ : wc_G} {σ μ : wc_St} {i : Nat} (h : i < 15) : wc_cell Γ σ μ (55 + i) = .inr (4, [.int (nI (i / 3)), .int (nI (i % 3)), .int (σ 18 i 0), .int (σ 19 i 0), .int (σ 20 i 0), .int (σ 21 i 0)]) := by
  unfold wc_cell
  rw [if_neg (show ¬ 55 + i < 1 by omega), if_neg (show ¬ 55 + i < 2 by omega), if_neg (show ¬ 55 + i < 3 by omega), if_neg (show ¬ 55 + i < 4 by omega), if_neg (show ¬ 55 + i < 5 by omega), if_neg (show ¬ 55 + i < 8 by omega), if_neg (show ¬ 55 + i < 17 by omega), if_neg (show ¬ 55 + i < 26 by omega), if_neg (show ¬ 55 + i < 35 by omega), if_neg (show ¬ 55 + i < 40 by omega), if_neg (show ¬ 55 + i < 45 by omega), if_neg (show ¬ 55 + i < 50 by omega)]
  rw [if_neg (show ¬ 55 + i < 55 by omega), if_pos (show 55 + i < 70 by omega)]
  rw [show 55 + i - 55 = i by omega]
theorem wc_c_Model {Γ : wc_G} {σ μ : wc_St} : wc_cell Γ σ μ (70) = .inr (5, [.int (μ 30 0 0), .int (μ 31 0 0), .ref (Γ.2.2 71), .ref (Γ.2.2 72), .ref (Γ.2.2 73), .ref (Γ.2.2 74), .ref (Γ.2.2 75), .int (μ 37 0 0), .ref (Γ.2.2 76), .ref (Γ.2.2 77), .ref (Γ.2.2 78), .int (μ 41 0 0), .ref (Γ.2.2 79), .ref (Γ.2.2 80), .ref (Γ.2.2 81), .ref (Γ.2.2 82), .ref (Γ.2.2 83), .ref (Γ.2.2 84), .ref (Γ.2.2 85), .ref (Γ.2.2 86), .ref (Γ.2.2 87), .ref (Γ.2.2 88), .int (μ 52 0 0), .ref (Γ.2.2 89), .ref (Γ.2.2 90)]) := by
  unfold wc_cell
  rw [if_neg (show ¬ 70 < 1 by omega), if_neg (show ¬ 70 < 2 by omega), if_neg (show ¬ 70 < 3 by omega), if_neg (show ¬ 70 < 4 by omega), if_neg (show ¬ 70 < 5 by omega), if_neg (show ¬ 70 < 8 by omega), if_neg (show ¬ 70 < 17 by omega), if_neg (show ¬ 70 < 26 by omega), if_neg (show ¬ 70 < 35 by omega), if_neg (show ¬ 70 < 40 by omega), if_neg (show ¬ 70 < 45 by omega), if_neg (show ¬ 70 < 50 by omega)]
  rw [if_neg (show ¬ 70 < 55 by omega), if_neg (show ¬ 70 < 70 by omega), if_pos (show 70 < 71 by omega)]
theorem wc_c_m_early {Γ : wc_G} {σ μ : wc_St} : wc_cell Γ σ μ (71) = .inl (Γ.2.1 0, 3, .inl (μ 32 0)) := by
  unfold wc_cell
  rw [if_neg (show ¬ 71 < 1 by omega), if_neg (show ¬ 71 < 2 by omega), if_neg (show ¬ 71 < 3 by omega), if_neg (show ¬ 71 < 4 by omega), if_neg (show ¬ 71 < 5 by omega), if_neg (show ¬ 71 < 8 by omega), if_neg (show ¬ 71 < 17 by omega), if_neg (show ¬ 71 < 26 by omega), if_neg (show ¬ 71 < 35 by omega), if_neg (show ¬ 71 < 40 by omega), if_neg (show ¬ 71 < 45 by omega), if_neg (show ¬ 71 < 50 by omega)]
  rw [if_neg (show ¬ 71 < 55 by omega), if_neg (show ¬ 71 < 70 by omega), if_neg (show ¬ 71 < 71 by omega), if_pos (show 71 < 72 by omega)]
theorem wc_c_m_late {Γ : wc_G} {σ μ : wc_St} : wc_cell Γ σ μ (72) = .inl (Γ.2.1 0, 3, .inl (μ 33 0)) := by
  unfold wc_cell
  rw [if_neg (show ¬ 72 < 1 by omega), if_neg (show ¬ 72 < 2 by omega), if_neg (show ¬ 72 < 3 by omega), if_neg (show ¬ 72 < 4 by omega), if_neg (show ¬ 72 < 5 by omega), if_neg (show ¬ 72 < 8 by omega), if_neg (show ¬ 72 < 17 by omega), if_neg (show ¬ 72 < 26 by omega), if_neg (show ¬ 72 < 35 by omega), if_neg (show ¬ 72 < 40 by omega), if_neg (show ¬ 72 < 45 by omega), if_neg (show ¬ 72 < 50 by omega)]
  rw [if_neg (show ¬ 72 < 55 by omega), if_neg (show ¬ 72 < 70 by omega), if_neg (show ¬ 72 < 71 by omega), if_neg (show ¬ 72 < 72 by omega), if_pos (show 72 < 73 by omega)]
theorem wc_c_m_slow {Γ : wc_G} {σ μ : wc_St} : wc_cell Γ σ μ (73) = .inl (Γ.2.1 0, 3, .inl (μ 34 0)) := by
  unfold wc_cell
  rw [if_neg (show ¬ 73 < 1 by omega), if_neg (show ¬ 73 < 2 by omega), if_neg (show ¬ 73 < 3 by omega), if_neg (show ¬ 73 < 4 by omega), if_neg (show ¬ 73 < 5 by omega), if_neg (show ¬ 73 < 8 by omega), if_neg (show ¬ 73 < 17 by omega), if_neg (show ¬ 73 < 26 by omega), if_neg (show ¬ 73 < 35 by omega), if_neg (show ¬ 73 < 40 by omega), if_neg (show ¬ 73 < 45 by omega), if_neg (show ¬ 73 < 50 by omega)]
  rw [if_neg (show ¬ 73 < 55 by omega), if_neg (show ¬ 73 < 70 by omega), if_neg (show ¬ 73 < 71 by omega), if_neg (show ¬ 73 < 72 by omega), if_neg (show ¬ 73 < 73 by omega), if_pos (show 73 < 74 by omega)]
theorem wc_c_m_down {Γ : wc_G} {σ μ : wc_St} : wc_cell Γ σ μ (74) = .inl (Γ.2.1 1, 3, .inl (μ 35 0)) := by
  unfold wc_cell
  rw [if_neg (show ¬ 74 < 1 by omega), if_neg (show ¬ 74 < 2 by omega), if_neg (show ¬ 74 < 3 by omega), if_neg (show ¬ 74 < 4 by omega), if_neg (show ¬ 74 < 5 by omega), if_neg (show ¬ 74 < 8 by omega), if_neg (show ¬ 74 < 17 by omega), if_neg (show ¬ 74 < 26 by omega), if_neg (show ¬ 74 < 35 by omega), if_neg (show ¬ 74 < 40 by omega), if_neg (show ¬ 74 < 45 by omega), if_neg (show ¬ 74 < 50 by omega)]
  rw [if_neg (show ¬ 74 < 55 by omega), if_neg (show ¬ 74 < 70 by omega), if_neg (show ¬ 74 < 71 by omega), if_neg (show ¬ 74 < 72 by omega), if_neg (show ¬ 74 < 73 by omega), if_neg (show ¬ 74 < 74 by omega), if_pos (show 74 < 75 by omega)]
theorem wc_c_m_bound {Γ : wc_G} {σ μ : wc_St} : wc_cell Γ σ μ (75) = .inl (Γ.2.1 0, 3, .inl (μ 36 0)) := by
  unfold wc_cell
  rw [if_neg (show ¬ 75 < 1 by omega), if_neg (show ¬ 75 < 2 by omega), if_neg (show ¬ 75 < 3 by omega), if_neg (show ¬ 75 < 4 by omega), if_neg (show ¬ 75 < 5 by omega), if_neg (show ¬ 75 < 8 by omega), if_neg (show ¬ 75 < 17 by omega), if_neg (show ¬ 75 < 26 by omega), if_neg (show ¬ 75 < 35 by omega), if_neg (show ¬ 75 < 40 by omega), if_neg (show ¬ 75 < 45 by omega), if_neg (show ¬ 75 < 50 by omega)]
  rw [if_neg (show ¬ 75 < 55 by omega), if_neg (show ¬ 75 < 70 by omega), if_neg (show ¬ 75 < 71 by omega), if_neg (show ¬ 75 < 72 by omega), if_neg (show ¬ 75 < 73 by omega), if_neg (show ¬ 75 < 74 by omega), if_neg (show ¬ 75 < 75 by omega), if_pos (show 75 < 76 by omega)]
theorem wc_c_m_versionKey {Γ : wc_G} {σ μ : wc_St} : wc_cell Γ σ μ (76) = .inl (Γ.2.1 0, 512, .inl (μ 38 0)) := by
  unfold wc_cell
  rw [if_neg (show ¬ 76 < 1 by omega), if_neg (show ¬ 76 < 2 by omega), if_neg (show ¬ 76 < 3 by omega), if_neg (show ¬ 76 < 4 by omega), if_neg (show ¬ 76 < 5 by omega), if_neg (show ¬ 76 < 8 by omega), if_neg (show ¬ 76 < 17 by omega), if_neg (show ¬ 76 < 26 by omega), if_neg (show ¬ 76 < 35 by omega), if_neg (show ¬ 76 < 40 by omega), if_neg (show ¬ 76 < 45 by omega), if_neg (show ¬ 76 < 50 by omega)]
  rw [if_neg (show ¬ 76 < 55 by omega), if_neg (show ¬ 76 < 70 by omega), if_neg (show ¬ 76 < 71 by omega), if_neg (show ¬ 76 < 72 by omega), if_neg (show ¬ 76 < 73 by omega), if_neg (show ¬ 76 < 74 by omega), if_neg (show ¬ 76 < 75 by omega), if_neg (show ¬ 76 < 76 by omega), if_pos (show 76 < 77 by omega)]
theorem wc_c_m_versionStamp {Γ : wc_G} {σ μ : wc_St} : wc_cell Γ σ μ (77) = .inl (Γ.2.1 0, 512, .inl (μ 39 0)) := by
  unfold wc_cell
  rw [if_neg (show ¬ 77 < 1 by omega), if_neg (show ¬ 77 < 2 by omega), if_neg (show ¬ 77 < 3 by omega), if_neg (show ¬ 77 < 4 by omega), if_neg (show ¬ 77 < 5 by omega), if_neg (show ¬ 77 < 8 by omega), if_neg (show ¬ 77 < 17 by omega), if_neg (show ¬ 77 < 26 by omega), if_neg (show ¬ 77 < 35 by omega), if_neg (show ¬ 77 < 40 by omega), if_neg (show ¬ 77 < 45 by omega), if_neg (show ¬ 77 < 50 by omega)]
  rw [if_neg (show ¬ 77 < 55 by omega), if_neg (show ¬ 77 < 70 by omega), if_neg (show ¬ 77 < 71 by omega), if_neg (show ¬ 77 < 72 by omega), if_neg (show ¬ 77 < 73 by omega), if_neg (show ¬ 77 < 74 by omega), if_neg (show ¬ 77 < 75 by omega), if_neg (show ¬ 77 < 76 by omega), if_neg (show ¬ 77 < 77 by omega), if_pos (show 77 < 78 by omega)]
theorem wc_c_m_versionValue {Γ : wc_G} {σ μ : wc_St} : wc_cell Γ σ μ (78) = .inl (Γ.2.1 0, 512, .inl (μ 40 0)) := by
  unfold wc_cell
  rw [if_neg (show ¬ 78 < 1 by omega), if_neg (show ¬ 78 < 2 by omega), if_neg (show ¬ 78 < 3 by omega), if_neg (show ¬ 78 < 4 by omega), if_neg (show ¬ 78 < 5 by omega), if_neg (show ¬ 78 < 8 by omega), if_neg (show ¬ 78 < 17 by omega), if_neg (show ¬ 78 < 26 by omega), if_neg (show ¬ 78 < 35 by omega), if_neg (show ¬ 78 < 40 by omega), if_neg (show ¬ 78 < 45 by omega), if_neg (show ¬ 78 < 50 by omega)]
  rw [if_neg (show ¬ 78 < 55 by omega), if_neg (show ¬ 78 < 70 by omega), if_neg (show ¬ 78 < 71 by omega), if_neg (show ¬ 78 < 72 by omega), if_neg (show ¬ 78 < 73 by omega), if_neg (show ¬ 78 < 74 by omega), if_neg (show ¬ 78 < 75 by omega), if_neg (show ¬ 78 < 76 by omega), if_neg (show ¬ 78 < 77 by omega), if_neg (show ¬ 78 < 78 by omega), if_pos (show 78 < 79 by omega)]
theorem wc_c_m_state {Γ : wc_G} {σ μ : wc_St} : wc_cell Γ σ μ (79) = .inl (Γ.2.1 0, 5, .inl (μ 42 0)) := by
  unfold wc_cell
  rw [if_neg (show ¬ 79 < 1 by omega), if_neg (show ¬ 79 < 2 by omega), if_neg (show ¬ 79 < 3 by omega), if_neg (show ¬ 79 < 4 by omega), if_neg (show ¬ 79 < 5 by omega), if_neg (show ¬ 79 < 8 by omega), if_neg (show ¬ 79 < 17 by omega), if_neg (show ¬ 79 < 26 by omega), if_neg (show ¬ 79 < 35 by omega), if_neg (show ¬ 79 < 40 by omega), if_neg (show ¬ 79 < 45 by omega), if_neg (show ¬ 79 < 50 by omega)]
  rw [if_neg (show ¬ 79 < 55 by omega), if_neg (show ¬ 79 < 70 by omega), if_neg (show ¬ 79 < 71 by omega), if_neg (show ¬ 79 < 72 by omega), if_neg (show ¬ 79 < 73 by omega), if_neg (show ¬ 79 < 74 by omega), if_neg (show ¬ 79 < 75 by omega), if_neg (show ¬ 79 < 76 by omega), if_neg (show ¬ 79 < 77 by omega), if_neg (show ¬ 79 < 78 by omega), if_neg (show ¬ 79 < 79 by omega), if_pos (show 79 < 80 by omega)]
theorem wc_c_m_age {Γ : wc_G} {σ μ : wc_St} : wc_cell Γ σ μ (80) = .inl (Γ.2.1 0, 5, .inl (μ 43 0)) := by
  unfold wc_cell
  rw [if_neg (show ¬ 80 < 1 by omega), if_neg (show ¬ 80 < 2 by omega), if_neg (show ¬ 80 < 3 by omega), if_neg (show ¬ 80 < 4 by omega), if_neg (show ¬ 80 < 5 by omega), if_neg (show ¬ 80 < 8 by omega), if_neg (show ¬ 80 < 17 by omega), if_neg (show ¬ 80 < 26 by omega), if_neg (show ¬ 80 < 35 by omega), if_neg (show ¬ 80 < 40 by omega), if_neg (show ¬ 80 < 45 by omega), if_neg (show ¬ 80 < 50 by omega)]
  rw [if_neg (show ¬ 80 < 55 by omega), if_neg (show ¬ 80 < 70 by omega), if_neg (show ¬ 80 < 71 by omega), if_neg (show ¬ 80 < 72 by omega), if_neg (show ¬ 80 < 73 by omega), if_neg (show ¬ 80 < 74 by omega), if_neg (show ¬ 80 < 75 by omega), if_neg (show ¬ 80 < 76 by omega), if_neg (show ¬ 80 < 77 by omega), if_neg (show ¬ 80 < 78 by omega), if_neg (show ¬ 80 < 79 by omega), if_neg (show ¬ 80 < 80 by omega)]
  rw [if_pos (show 80 < 81 by omega)]
theorem wc_c_m_stamp {Γ : wc_G} {σ μ : wc_St} : wc_cell Γ σ μ (81) = .inl (Γ.2.1 0, 5, .inl (μ 44 0)) := by
  unfold wc_cell
  rw [if_neg (show ¬ 81 < 1 by omega), if_neg (show ¬ 81 < 2 by omega), if_neg (show ¬ 81 < 3 by omega), if_neg (show ¬ 81 < 4 by omega), if_neg (show ¬ 81 < 5 by omega), if_neg (show ¬ 81 < 8 by omega), if_neg (show ¬ 81 < 17 by omega), if_neg (show ¬ 81 < 26 by omega), if_neg (show ¬ 81 < 35 by omega), if_neg (show ¬ 81 < 40 by omega), if_neg (show ¬ 81 < 45 by omega), if_neg (show ¬ 81 < 50 by omega)]
  rw [if_neg (show ¬ 81 < 55 by omega), if_neg (show ¬ 81 < 70 by omega), if_neg (show ¬ 81 < 71 by omega), if_neg (show ¬ 81 < 72 by omega), if_neg (show ¬ 81 < 73 by omega), if_neg (show ¬ 81 < 74 by omega), if_neg (show ¬ 81 < 75 by omega), if_neg (show ¬ 81 < 76 by omega), if_neg (show ¬ 81 < 77 by omega), if_neg (show ¬ 81 < 78 by omega), if_neg (show ¬ 81 < 79 by omega), if_neg (show ¬ 81 < 80 by omega)]
  rw [if_neg (show ¬ 81 < 81 by omega), if_pos (show 81 < 82 by omega)]
theorem wc_c_m_floor {Γ : wc_G} {σ μ : wc_St} : wc_cell Γ σ μ (82) = .inl (Γ.2.1 0, 5, .inl (μ 45 0)) := by
  unfold wc_cell
  rw [if_neg (show ¬ 82 < 1 by omega), if_neg (show ¬ 82 < 2 by omega), if_neg (show ¬ 82 < 3 by omega), if_neg (show ¬ 82 < 4 by omega), if_neg (show ¬ 82 < 5 by omega), if_neg (show ¬ 82 < 8 by omega), if_neg (show ¬ 82 < 17 by omega), if_neg (show ¬ 82 < 26 by omega), if_neg (show ¬ 82 < 35 by omega), if_neg (show ¬ 82 < 40 by omega), if_neg (show ¬ 82 < 45 by omega), if_neg (show ¬ 82 < 50 by omega)]
  rw [if_neg (show ¬ 82 < 55 by omega), if_neg (show ¬ 82 < 70 by omega), if_neg (show ¬ 82 < 71 by omega), if_neg (show ¬ 82 < 72 by omega), if_neg (show ¬ 82 < 73 by omega), if_neg (show ¬ 82 < 74 by omega), if_neg (show ¬ 82 < 75 by omega), if_neg (show ¬ 82 < 76 by omega), if_neg (show ¬ 82 < 77 by omega), if_neg (show ¬ 82 < 78 by omega), if_neg (show ¬ 82 < 79 by omega), if_neg (show ¬ 82 < 80 by omega)]
  rw [if_neg (show ¬ 82 < 81 by omega), if_neg (show ¬ 82 < 82 by omega), if_pos (show 82 < 83 by omega)]
theorem wc_c_m_ended {Γ : wc_G} {σ μ : wc_St} : wc_cell Γ σ μ (83) = .inl (Γ.2.1 0, 5, .inl (μ 46 0)) := by
  unfold wc_cell
  rw [if_neg (show ¬ 83 < 1 by omega), if_neg (show ¬ 83 < 2 by omega), if_neg (show ¬ 83 < 3 by omega), if_neg (show ¬ 83 < 4 by omega), if_neg (show ¬ 83 < 5 by omega), if_neg (show ¬ 83 < 8 by omega), if_neg (show ¬ 83 < 17 by omega), if_neg (show ¬ 83 < 26 by omega), if_neg (show ¬ 83 < 35 by omega), if_neg (show ¬ 83 < 40 by omega), if_neg (show ¬ 83 < 45 by omega), if_neg (show ¬ 83 < 50 by omega)]
  rw [if_neg (show ¬ 83 < 55 by omega), if_neg (show ¬ 83 < 70 by omega), if_neg (show ¬ 83 < 71 by omega), if_neg (show ¬ 83 < 72 by omega), if_neg (show ¬ 83 < 73 by omega), if_neg (show ¬ 83 < 74 by omega), if_neg (show ¬ 83 < 75 by omega), if_neg (show ¬ 83 < 76 by omega), if_neg (show ¬ 83 < 77 by omega), if_neg (show ¬ 83 < 78 by omega), if_neg (show ¬ 83 < 79 by omega), if_neg (show ¬ 83 < 80 by omega)]
  rw [if_neg (show ¬ 83 < 81 by omega), if_neg (show ¬ 83 < 82 by omega), if_neg (show ¬ 83 < 83 by omega), if_pos (show 83 < 84 by omega)]
theorem wc_c_m_lock {Γ : wc_G} {σ μ : wc_St} : wc_cell Γ σ μ (84) = .inl (Γ.2.1 0, 45, .inl (μ 47 0)) := by
  unfold wc_cell
  rw [if_neg (show ¬ 84 < 1 by omega), if_neg (show ¬ 84 < 2 by omega), if_neg (show ¬ 84 < 3 by omega), if_neg (show ¬ 84 < 4 by omega), if_neg (show ¬ 84 < 5 by omega), if_neg (show ¬ 84 < 8 by omega), if_neg (show ¬ 84 < 17 by omega), if_neg (show ¬ 84 < 26 by omega), if_neg (show ¬ 84 < 35 by omega), if_neg (show ¬ 84 < 40 by omega), if_neg (show ¬ 84 < 45 by omega), if_neg (show ¬ 84 < 50 by omega)]
  rw [if_neg (show ¬ 84 < 55 by omega), if_neg (show ¬ 84 < 70 by omega), if_neg (show ¬ 84 < 71 by omega), if_neg (show ¬ 84 < 72 by omega), if_neg (show ¬ 84 < 73 by omega), if_neg (show ¬ 84 < 74 by omega), if_neg (show ¬ 84 < 75 by omega), if_neg (show ¬ 84 < 76 by omega), if_neg (show ¬ 84 < 77 by omega), if_neg (show ¬ 84 < 78 by omega), if_neg (show ¬ 84 < 79 by omega), if_neg (show ¬ 84 < 80 by omega)]
  rw [if_neg (show ¬ 84 < 81 by omega), if_neg (show ¬ 84 < 82 by omega), if_neg (show ¬ 84 < 83 by omega), if_neg (show ¬ 84 < 84 by omega), if_pos (show 84 < 85 by omega)]
theorem wc_c_m_wrote {Γ : wc_G} {σ μ : wc_St} : wc_cell Γ σ μ (85) = .inl (Γ.2.1 1, 45, .inl (μ 48 0)) := by
  unfold wc_cell
  rw [if_neg (show ¬ 85 < 1 by omega), if_neg (show ¬ 85 < 2 by omega), if_neg (show ¬ 85 < 3 by omega), if_neg (show ¬ 85 < 4 by omega), if_neg (show ¬ 85 < 5 by omega), if_neg (show ¬ 85 < 8 by omega), if_neg (show ¬ 85 < 17 by omega), if_neg (show ¬ 85 < 26 by omega), if_neg (show ¬ 85 < 35 by omega), if_neg (show ¬ 85 < 40 by omega), if_neg (show ¬ 85 < 45 by omega), if_neg (show ¬ 85 < 50 by omega)]
  rw [if_neg (show ¬ 85 < 55 by omega), if_neg (show ¬ 85 < 70 by omega), if_neg (show ¬ 85 < 71 by omega), if_neg (show ¬ 85 < 72 by omega), if_neg (show ¬ 85 < 73 by omega), if_neg (show ¬ 85 < 74 by omega), if_neg (show ¬ 85 < 75 by omega), if_neg (show ¬ 85 < 76 by omega), if_neg (show ¬ 85 < 77 by omega), if_neg (show ¬ 85 < 78 by omega), if_neg (show ¬ 85 < 79 by omega), if_neg (show ¬ 85 < 80 by omega)]
  rw [if_neg (show ¬ 85 < 81 by omega), if_neg (show ¬ 85 < 82 by omega), if_neg (show ¬ 85 < 83 by omega), if_neg (show ¬ 85 < 84 by omega), if_neg (show ¬ 85 < 85 by omega), if_pos (show 85 < 86 by omega)]
theorem wc_c_m_value {Γ : wc_G} {σ μ : wc_St} : wc_cell Γ σ μ (86) = .inl (Γ.2.1 0, 45, .inl (μ 49 0)) := by
  unfold wc_cell
  rw [if_neg (show ¬ 86 < 1 by omega), if_neg (show ¬ 86 < 2 by omega), if_neg (show ¬ 86 < 3 by omega), if_neg (show ¬ 86 < 4 by omega), if_neg (show ¬ 86 < 5 by omega), if_neg (show ¬ 86 < 8 by omega), if_neg (show ¬ 86 < 17 by omega), if_neg (show ¬ 86 < 26 by omega), if_neg (show ¬ 86 < 35 by omega), if_neg (show ¬ 86 < 40 by omega), if_neg (show ¬ 86 < 45 by omega), if_neg (show ¬ 86 < 50 by omega)]
  rw [if_neg (show ¬ 86 < 55 by omega), if_neg (show ¬ 86 < 70 by omega), if_neg (show ¬ 86 < 71 by omega), if_neg (show ¬ 86 < 72 by omega), if_neg (show ¬ 86 < 73 by omega), if_neg (show ¬ 86 < 74 by omega), if_neg (show ¬ 86 < 75 by omega), if_neg (show ¬ 86 < 76 by omega), if_neg (show ¬ 86 < 77 by omega), if_neg (show ¬ 86 < 78 by omega), if_neg (show ¬ 86 < 79 by omega), if_neg (show ¬ 86 < 80 by omega)]
  rw [if_neg (show ¬ 86 < 81 by omega), if_neg (show ¬ 86 < 82 by omega), if_neg (show ¬ 86 < 83 by omega), if_neg (show ¬ 86 < 84 by omega), if_neg (show ¬ 86 < 85 by omega), if_neg (show ¬ 86 < 86 by omega), if_pos (show 86 < 87 by omega)]
theorem wc_c_m_marked {Γ : wc_G} {σ μ : wc_St} : wc_cell Γ σ μ (87) = .inl (Γ.2.1 1, 15, .inl (μ 50 0)) := by
  unfold wc_cell
  rw [if_neg (show ¬ 87 < 1 by omega), if_neg (show ¬ 87 < 2 by omega), if_neg (show ¬ 87 < 3 by omega), if_neg (show ¬ 87 < 4 by omega), if_neg (show ¬ 87 < 5 by omega), if_neg (show ¬ 87 < 8 by omega), if_neg (show ¬ 87 < 17 by omega), if_neg (show ¬ 87 < 26 by omega), if_neg (show ¬ 87 < 35 by omega), if_neg (show ¬ 87 < 40 by omega), if_neg (show ¬ 87 < 45 by omega), if_neg (show ¬ 87 < 50 by omega)]
  rw [if_neg (show ¬ 87 < 55 by omega), if_neg (show ¬ 87 < 70 by omega), if_neg (show ¬ 87 < 71 by omega), if_neg (show ¬ 87 < 72 by omega), if_neg (show ¬ 87 < 73 by omega), if_neg (show ¬ 87 < 74 by omega), if_neg (show ¬ 87 < 75 by omega), if_neg (show ¬ 87 < 76 by omega), if_neg (show ¬ 87 < 77 by omega), if_neg (show ¬ 87 < 78 by omega), if_neg (show ¬ 87 < 79 by omega), if_neg (show ¬ 87 < 80 by omega)]
  rw [if_neg (show ¬ 87 < 81 by omega), if_neg (show ¬ 87 < 82 by omega), if_neg (show ¬ 87 < 83 by omega), if_neg (show ¬ 87 < 84 by omega), if_neg (show ¬ 87 < 85 by omega), if_neg (show ¬ 87 < 86 by omega), if_neg (show ¬ 87 < 87 by omega), if_pos (show 87 < 88 by omega)]
theorem wc_c_m_mark {Γ : wc_G} {σ μ : wc_St} : wc_cell Γ σ μ (88) = .inl (Γ.2.1 0, 15, .inl (μ 51 0)) := by
  unfold wc_cell
  rw [if_neg (show ¬ 88 < 1 by omega), if_neg (show ¬ 88 < 2 by omega), if_neg (show ¬ 88 < 3 by omega), if_neg (show ¬ 88 < 4 by omega), if_neg (show ¬ 88 < 5 by omega), if_neg (show ¬ 88 < 8 by omega), if_neg (show ¬ 88 < 17 by omega), if_neg (show ¬ 88 < 26 by omega), if_neg (show ¬ 88 < 35 by omega), if_neg (show ¬ 88 < 40 by omega), if_neg (show ¬ 88 < 45 by omega), if_neg (show ¬ 88 < 50 by omega)]
  rw [if_neg (show ¬ 88 < 55 by omega), if_neg (show ¬ 88 < 70 by omega), if_neg (show ¬ 88 < 71 by omega), if_neg (show ¬ 88 < 72 by omega), if_neg (show ¬ 88 < 73 by omega), if_neg (show ¬ 88 < 74 by omega), if_neg (show ¬ 88 < 75 by omega), if_neg (show ¬ 88 < 76 by omega), if_neg (show ¬ 88 < 77 by omega), if_neg (show ¬ 88 < 78 by omega), if_neg (show ¬ 88 < 79 by omega), if_neg (show ¬ 88 < 80 by omega)]
  rw [if_neg (show ¬ 88 < 81 by omega), if_neg (show ¬ 88 < 82 by omega), if_neg (show ¬ 88 < 83 by omega), if_neg (show ¬ 88 < 84 by omega), if_neg (show ¬ 88 < 85 by omega), if_neg (show ¬ 88 < 86 by omega), if_neg (show ¬ 88 < 87 by omega), if_neg (show ¬ 88 < 88 by omega), if_pos (show 88 < 89 by omega)]
theorem wc_c_m_arrives {Γ : wc_G} {σ μ : wc_St} : wc_cell Γ σ μ (89) = .inl (Γ.2.1 0, 45, .inl (μ 53 0)) := by
  unfold wc_cell
  rw [if_neg (show ¬ 89 < 1 by omega), if_neg (show ¬ 89 < 2 by omega), if_neg (show ¬ 89 < 3 by omega), if_neg (show ¬ 89 < 4 by omega), if_neg (show ¬ 89 < 5 by omega), if_neg (show ¬ 89 < 8 by omega), if_neg (show ¬ 89 < 17 by omega), if_neg (show ¬ 89 < 26 by omega), if_neg (show ¬ 89 < 35 by omega), if_neg (show ¬ 89 < 40 by omega), if_neg (show ¬ 89 < 45 by omega), if_neg (show ¬ 89 < 50 by omega)]
  rw [if_neg (show ¬ 89 < 55 by omega), if_neg (show ¬ 89 < 70 by omega), if_neg (show ¬ 89 < 71 by omega), if_neg (show ¬ 89 < 72 by omega), if_neg (show ¬ 89 < 73 by omega), if_neg (show ¬ 89 < 74 by omega), if_neg (show ¬ 89 < 75 by omega), if_neg (show ¬ 89 < 76 by omega), if_neg (show ¬ 89 < 77 by omega), if_neg (show ¬ 89 < 78 by omega), if_neg (show ¬ 89 < 79 by omega), if_neg (show ¬ 89 < 80 by omega)]
  rw [if_neg (show ¬ 89 < 81 by omega), if_neg (show ¬ 89 < 82 by omega), if_neg (show ¬ 89 < 83 by omega), if_neg (show ¬ 89 < 84 by omega), if_neg (show ¬ 89 < 85 by omega), if_neg (show ¬ 89 < 86 by omega), if_neg (show ¬ 89 < 87 by omega), if_neg (show ¬ 89 < 88 by omega), if_neg (show ¬ 89 < 89 by omega), if_pos (show 89 < 90 by omega)]
theorem wc_c_m_number {Γ : wc_G} {σ μ : wc_St} : wc_cell Γ σ μ (90) = .inl (Γ.2.1 0, 45, .inl (μ 54 0)) := by
  unfold wc_cell
  rw [if_neg (show ¬ 90 < 1 by omega), if_neg (show ¬ 90 < 2 by omega), if_neg (show ¬ 90 < 3 by omega), if_neg (show ¬ 90 < 4 by omega), if_neg (show ¬ 90 < 5 by omega), if_neg (show ¬ 90 < 8 by omega), if_neg (show ¬ 90 < 17 by omega), if_neg (show ¬ 90 < 26 by omega), if_neg (show ¬ 90 < 35 by omega), if_neg (show ¬ 90 < 40 by omega), if_neg (show ¬ 90 < 45 by omega), if_neg (show ¬ 90 < 50 by omega)]
  rw [if_neg (show ¬ 90 < 55 by omega), if_neg (show ¬ 90 < 70 by omega), if_neg (show ¬ 90 < 71 by omega), if_neg (show ¬ 90 < 72 by omega), if_neg (show ¬ 90 < 73 by omega), if_neg (show ¬ 90 < 74 by omega), if_neg (show ¬ 90 < 75 by omega), if_neg (show ¬ 90 < 76 by omega), if_neg (show ¬ 90 < 77 by omega), if_neg (show ¬ 90 < 78 by omega), if_neg (show ¬ 90 < 79 by omega), if_neg (show ¬ 90 < 80 by omega)]
  rw [if_neg (show ¬ 90 < 81 by omega), if_neg (show ¬ 90 < 82 by omega), if_neg (show ¬ 90 < 83 by omega), if_neg (show ¬ 90 < 84 by omega), if_neg (show ¬ 90 < 85 by omega), if_neg (show ¬ 90 < 86 by omega), if_neg (show ¬ 90 < 87 by omega), if_neg (show ¬ 90 < 88 by omega), if_neg (show ¬ 90 < 89 by omega), if_neg (show ¬ 90 < 90 by omega), if_pos (show 90 < 91 by omega)]
-- a component's change leaves the other cells
theorem wc_o_GE {Γ : wc_G} {σ μ : wc_St} {j q : Nat} {x : Int32} (h : q ≠ 0) : wc_cell Γ (wc_st σ 22 0 j x) μ q = wc_cell Γ σ μ q := by
  unfold wc_cell
  refine wc_ite (fun _ => False.elim (by omega)) (fun _ => ?_)
  refine wc_ite (fun _ => rfl) (fun _ => ?_)
  refine wc_ite (fun _ => rfl) (fun _ => ?_)
  refine wc_ite (fun _ => rfl) (fun _ => ?_)
  refine wc_ite (fun _ => rfl) (fun _ => ?_)
  refine wc_ite (fun _ => rfl) (fun _ => ?_)
  refine wc_ite (fun _ => rfl) (fun _ => ?_)
  refine wc_ite (fun _ => rfl) (fun _ => ?_)
  refine wc_ite (fun _ => rfl) (fun _ => ?_)
  refine wc_ite (fun _ => rfl) (fun _ => ?_)
  refine wc_ite (fun _ => rfl) (fun _ => ?_)
  refine wc_ite (fun _ => rfl) (fun _ => ?_)
  refine wc_ite (fun _ => rfl) (fun _ => ?_)
  refine wc_ite (fun _ => rfl) (fun _ => ?_)
  refine wc_ite (fun _ => rfl) (fun _ => ?_)
  refine wc_ite (fun _ => rfl) (fun _ => ?_)
  refine wc_ite (fun _ => rfl) (fun _ => ?_)
  refine wc_ite (fun _ => rfl) (fun _ => ?_)
  refine wc_ite (fun _ => rfl) (fun _ => ?_)
  refine wc_ite (fun _ => rfl) (fun _ => ?_)
  refine wc_ite (fun _ => rfl) (fun _ => ?_)
  refine wc_ite (fun _ => rfl) (fun _ => ?_)
  refine wc_ite (fun _ => rfl) (fun _ => ?_)
  refine wc_ite (fun _ => rfl) (fun _ => ?_)
  refine wc_ite (fun _ => rfl) (fun _ => ?_)
  refine wc_ite (fun _ => rfl) (fun _ => ?_)
  refine wc_ite (fun _ => rfl) (fun _ => ?_)
  refine wc_ite (fun _ => rfl) (fun _ => ?_)
  refine wc_ite (fun _ => rfl) (fun _ => ?_)
  refine wc_ite (fun _ => rfl) (fun _ => ?_)
  refine wc_ite (fun _ => rfl) (fun _ => ?_)
  refine wc_ite (fun _ => rfl) (fun _ => ?_)
  refine wc_ite (fun _ => rfl) (fun _ => ?_)
  refine wc_ite (fun _ => rfl) (fun _ => ?_)
  refine wc_ite (fun _ => rfl) (fun _ => ?_)
  rfl
theorem wc_o_TIM {Γ : wc_G} {σ μ : wc_St} {j q : Nat} {x : Int32} (h : q ≠ 0) : wc_cell Γ (wc_st σ 23 0 j x) μ q = wc_cell Γ σ μ q := by
  unfold wc_cell
  refine wc_ite (fun _ => False.elim (by omega)) (fun _ => ?_)
  refine wc_ite (fun _ => rfl) (fun _ => ?_)
  refine wc_ite (fun _ => rfl) (fun _ => ?_)
  refine wc_ite (fun _ => rfl) (fun _ => ?_)
  refine wc_ite (fun _ => rfl) (fun _ => ?_)
  refine wc_ite (fun _ => rfl) (fun _ => ?_)
  refine wc_ite (fun _ => rfl) (fun _ => ?_)
  refine wc_ite (fun _ => rfl) (fun _ => ?_)
  refine wc_ite (fun _ => rfl) (fun _ => ?_)
  refine wc_ite (fun _ => rfl) (fun _ => ?_)
  refine wc_ite (fun _ => rfl) (fun _ => ?_)
  refine wc_ite (fun _ => rfl) (fun _ => ?_)
  refine wc_ite (fun _ => rfl) (fun _ => ?_)
  refine wc_ite (fun _ => rfl) (fun _ => ?_)
  refine wc_ite (fun _ => rfl) (fun _ => ?_)
  refine wc_ite (fun _ => rfl) (fun _ => ?_)
  refine wc_ite (fun _ => rfl) (fun _ => ?_)
  refine wc_ite (fun _ => rfl) (fun _ => ?_)
  refine wc_ite (fun _ => rfl) (fun _ => ?_)
  refine wc_ite (fun _ => rfl) (fun _ => ?_)
  refine wc_ite (fun _ => rfl) (fun _ => ?_)
  refine wc_ite (fun _ => rfl) (fun _ => ?_)
  refine wc_ite (fun _ => rfl) (fun _ => ?_)
  refine wc_ite (fun _ => rfl) (fun _ => ?_)
  refine wc_ite (fun _ => rfl) (fun _ => ?_)
  refine wc_ite (fun _ => rfl) (fun _ => ?_)
  refine wc_ite (fun _ => rfl) (fun _ => ?_)
  refine wc_ite (fun _ => rfl) (fun _ => ?_)
  refine wc_ite (fun _ => rfl) (fun _ => ?_)
  refine wc_ite (fun _ => rfl) (fun _ => ?_)
  refine wc_ite (fun _ => rfl) (fun _ => ?_)
  refine wc_ite (fun _ => rfl) (fun _ => ?_)
  refine wc_ite (fun _ => rfl) (fun _ => ?_)
  refine wc_ite (fun _ => rfl) (fun _ => ?_)
  refine wc_ite (fun _ => rfl) (fun _ => ?_)
  rfl
theorem wc_o_BEG {Γ : wc_G} {σ μ : wc_St} {j q : Nat} {x : Int32} (h : q ≠ 0) : wc_cell Γ (wc_st σ 24 0 j x) μ q = wc_cell Γ σ μ q := by
  unfold wc_cell
  refine wc_ite (fun _ => False.elim (by omega)) (fun _ => ?_)
  refine wc_ite (fun _ => rfl) (fun _ => ?_)
  refine wc_ite (fun _ => rfl) (fun _ => ?_)
  refine wc_ite (fun _ => rfl) (fun _ => ?_)
  refine wc_ite (fun _ => rfl) (fun _ => ?_)
  refine wc_ite (fun _ => rfl) (fun _ => ?_)
  refine wc_ite (fun _ => rfl) (fun _ => ?_)
  refine wc_ite (fun _ => rfl) (fun _ => ?_)
  refine wc_ite (fun _ => rfl) (fun _ => ?_)
  refine wc_ite (fun _ => rfl) (fun _ => ?_)
  refine wc_ite (fun _ => rfl) (fun _ => ?_)
  refine wc_ite (fun _ => rfl) (fun _ => ?_)
  refine wc_ite (fun _ => rfl) (fun _ => ?_)
  refine wc_ite (fun _ => rfl) (fun _ => ?_)
  refine wc_ite (fun _ => rfl) (fun _ => ?_)
  refine wc_ite (fun _ => rfl) (fun _ => ?_)
  refine wc_ite (fun _ => rfl) (fun _ => ?_)
  refine wc_ite (fun _ => rfl) (fun _ => ?_)
  refine wc_ite (fun _ => rfl) (fun _ => ?_)
  refine wc_ite (fun _ => rfl) (fun _ => ?_)
  refine wc_ite (fun _ => rfl) (fun _ => ?_)
  refine wc_ite (fun _ => rfl) (fun _ => ?_)
  refine wc_ite (fun _ => rfl) (fun _ => ?_)
  refine wc_ite (fun _ => rfl) (fun _ => ?_)
  refine wc_ite (fun _ => rfl) (fun _ => ?_)
  refine wc_ite (fun _ => rfl) (fun _ => ?_)
  refine wc_ite (fun _ => rfl) (fun _ => ?_)
  refine wc_ite (fun _ => rfl) (fun _ => ?_)
  refine wc_ite (fun _ => rfl) (fun _ => ?_)
  refine wc_ite (fun _ => rfl) (fun _ => ?_)
  refine wc_ite (fun _ => rfl) (fun _ => ?_)
  refine wc_ite (fun _ => rfl) (fun _ => ?_)
  refine wc_ite (fun _ => rfl) (fun _ => ?_)
  refine wc_ite (fun _ => rfl) (fun _ => ?_)
  refine wc_ite (fun _ => rfl) (fun _ => ?_)
  rfl
theorem wc_o_SNT {Γ : wc_G} {σ μ : wc_St} {j q : Nat} {x : Int32} (h : q ≠ 0) : wc_cell Γ (wc_st σ 25 0 j x) μ q = wc_cell Γ σ μ q := by
  unfold wc_cell
  refine wc_ite (fun _ => False.elim (by omega)) (fun _ => ?_)
  refine wc_ite (fun _ => rfl) (fun _ => ?_)
  refine wc_ite (fun _ => rfl) (fun _ => ?_)
  refine wc_ite (fun _ => rfl) (fun _ => ?_)
  refine wc_ite (fun _ => rfl) (fun _ => ?_)
  refine wc_ite (fun _ => rfl) (fun _ => ?_)
  refine wc_ite (fun _ => rfl) (fun _ => ?_)
  refine wc_ite (fun _ => rfl) (fun _ => ?_)
  refine wc_ite (fun _ => rfl) (fun _ => ?_)
  refine wc_ite (fun _ => rfl) (fun _ => ?_)
  refine wc_ite (fun _ => rfl) (fun _ => ?_)
  refine wc_ite (fun _ => rfl) (fun _ => ?_)
  refine wc_ite (fun _ => rfl) (fun _ => ?_)
  refine wc_ite (fun _ => rfl) (fun _ => ?_)
  refine wc_ite (fun _ => rfl) (fun _ => ?_)
  refine wc_ite (fun _ => rfl) (fun _ => ?_)
  refine wc_ite (fun _ => rfl) (fun _ => ?_)
  refine wc_ite (fun _ => rfl) (fun _ => ?_)
  refine wc_ite (fun _ => rfl) (fun _ => ?_)
  refine wc_ite (fun _ => rfl) (fun _ => ?_)
  refine wc_ite (fun _ => rfl) (fun _ => ?_)
  refine wc_ite (fun _ => rfl) (fun _ => ?_)
  refine wc_ite (fun _ => rfl) (fun _ => ?_)
  refine wc_ite (fun _ => rfl) (fun _ => ?_)
  refine wc_ite (fun _ => rfl) (fun _ => ?_)
  refine wc_ite (fun _ => rfl) (fun _ => ?_)
  refine wc_ite (fun _ => rfl) (fun _ => ?_)
  refine wc_ite (fun _ => rfl) (fun _ => ?_)
  refine wc_ite (fun _ => rfl) (fun _ => ?_)
  refine wc_ite (fun _ => rfl) (fun _ => ?_)
  refine wc_ite (fun _ => rfl) (fun _ => ?_)
  refine wc_ite (fun _ => rfl) (fun _ => ?_)
  refine wc_ite (fun _ => rfl) (fun _ => ?_)
  refine wc_ite (fun _ => rfl) (fun _ => ?_)
  refine wc_ite (fun _ => rfl) (fun _ => ?_)
  rfl
theorem wc_o_UWY {Γ : wc_G} {σ μ : wc_St} {j q : Nat} {x : Int32} (h : q ≠ 0) : wc_cell Γ (wc_st σ 26 0 j x) μ q = wc_cell Γ σ μ q := by
  unfold wc_cell
  refine wc_ite (fun _ => False.elim (by omega)) (fun _ => ?_)
  refine wc_ite (fun _ => rfl) (fun _ => ?_)
  refine wc_ite (fun _ => rfl) (fun _ => ?_)
  refine wc_ite (fun _ => rfl) (fun _ => ?_)
  refine wc_ite (fun _ => rfl) (fun _ => ?_)
  refine wc_ite (fun _ => rfl) (fun _ => ?_)
  refine wc_ite (fun _ => rfl) (fun _ => ?_)
  refine wc_ite (fun _ => rfl) (fun _ => ?_)
  refine wc_ite (fun _ => rfl) (fun _ => ?_)
  refine wc_ite (fun _ => rfl) (fun _ => ?_)
  refine wc_ite (fun _ => rfl) (fun _ => ?_)
  refine wc_ite (fun _ => rfl) (fun _ => ?_)
  refine wc_ite (fun _ => rfl) (fun _ => ?_)
  refine wc_ite (fun _ => rfl) (fun _ => ?_)
  refine wc_ite (fun _ => rfl) (fun _ => ?_)
  refine wc_ite (fun _ => rfl) (fun _ => ?_)
  refine wc_ite (fun _ => rfl) (fun _ => ?_)
  refine wc_ite (fun _ => rfl) (fun _ => ?_)
  refine wc_ite (fun _ => rfl) (fun _ => ?_)
  refine wc_ite (fun _ => rfl) (fun _ => ?_)
  refine wc_ite (fun _ => rfl) (fun _ => ?_)
  refine wc_ite (fun _ => rfl) (fun _ => ?_)
  refine wc_ite (fun _ => rfl) (fun _ => ?_)
  refine wc_ite (fun _ => rfl) (fun _ => ?_)
  refine wc_ite (fun _ => rfl) (fun _ => ?_)
  refine wc_ite (fun _ => rfl) (fun _ => ?_)
  refine wc_ite (fun _ => rfl) (fun _ => ?_)
  refine wc_ite (fun _ => rfl) (fun _ => ?_)
  refine wc_ite (fun _ => rfl) (fun _ => ?_)
  refine wc_ite (fun _ => rfl) (fun _ => ?_)
  refine wc_ite (fun _ => rfl) (fun _ => ?_)
  refine wc_ite (fun _ => rfl) (fun _ => ?_)
  refine wc_ite (fun _ => rfl) (fun _ => ?_)
  refine wc_ite (fun _ => rfl) (fun _ => ?_)
  refine wc_ite (fun _ => rfl) (fun _ => ?_)
  rfl
theorem wc_o_BEF {Γ : wc_G} {σ μ : wc_St} {i : Nat} {j q : Nat} {x : Int32} (h : q ≠ 5 + i) : wc_cell Γ (wc_st σ 0 i j x) μ q = wc_cell Γ σ μ q := by
  unfold wc_cell
  refine wc_ite (fun _ => rfl) (fun _ => ?_)
  refine wc_ite (fun _ => rfl) (fun _ => ?_)
  refine wc_ite (fun _ => rfl) (fun _ => ?_)
  refine wc_ite (fun _ => rfl) (fun _ => ?_)
  refine wc_ite (fun _ => rfl) (fun _ => ?_)
  refine wc_ite (fun _ => by simp only [wc_st_ne (show q - 5 ≠ i by omega)]) (fun _ => ?_)
  refine wc_ite (fun _ => rfl) (fun _ => ?_)
  refine wc_ite (fun _ => rfl) (fun _ => ?_)
  refine wc_ite (fun _ => rfl) (fun _ => ?_)
  refine wc_ite (fun _ => rfl) (fun _ => ?_)
  refine wc_ite (fun _ => rfl) (fun _ => ?_)
  refine wc_ite (fun _ => rfl) (fun _ => ?_)
  refine wc_ite (fun _ => rfl) (fun _ => ?_)
  refine wc_ite (fun _ => rfl) (fun _ => ?_)
  refine wc_ite (fun _ => rfl) (fun _ => ?_)
  refine wc_ite (fun _ => rfl) (fun _ => ?_)
  refine wc_ite (fun _ => rfl) (fun _ => ?_)
  refine wc_ite (fun _ => rfl) (fun _ => ?_)
  refine wc_ite (fun _ => rfl) (fun _ => ?_)
  refine wc_ite (fun _ => rfl) (fun _ => ?_)
  refine wc_ite (fun _ => rfl) (fun _ => ?_)
  refine wc_ite (fun _ => rfl) (fun _ => ?_)
  refine wc_ite (fun _ => rfl) (fun _ => ?_)
  refine wc_ite (fun _ => rfl) (fun _ => ?_)
  refine wc_ite (fun _ => rfl) (fun _ => ?_)
  refine wc_ite (fun _ => rfl) (fun _ => ?_)
  refine wc_ite (fun _ => rfl) (fun _ => ?_)
  refine wc_ite (fun _ => rfl) (fun _ => ?_)
  refine wc_ite (fun _ => rfl) (fun _ => ?_)
  refine wc_ite (fun _ => rfl) (fun _ => ?_)
  refine wc_ite (fun _ => rfl) (fun _ => ?_)
  refine wc_ite (fun _ => rfl) (fun _ => ?_)
  refine wc_ite (fun _ => rfl) (fun _ => ?_)
  refine wc_ite (fun _ => rfl) (fun _ => ?_)
  refine wc_ite (fun _ => rfl) (fun _ => ?_)
  rfl
theorem wc_o_AFT {Γ : wc_G} {σ μ : wc_St} {i : Nat} {j q : Nat} {x : Int32} (h : q ≠ 5 + i) : wc_cell Γ (wc_st σ 1 i j x) μ q = wc_cell Γ σ μ q := by
  unfold wc_cell
  refine wc_ite (fun _ => rfl) (fun _ => ?_)
  refine wc_ite (fun _ => rfl) (fun _ => ?_)
  refine wc_ite (fun _ => rfl) (fun _ => ?_)
  refine wc_ite (fun _ => rfl) (fun _ => ?_)
  refine wc_ite (fun _ => rfl) (fun _ => ?_)
  refine wc_ite (fun _ => by simp only [wc_st_ne (show q - 5 ≠ i by omega)]) (fun _ => ?_)
  refine wc_ite (fun _ => rfl) (fun _ => ?_)
  refine wc_ite (fun _ => rfl) (fun _ => ?_)
  refine wc_ite (fun _ => rfl) (fun _ => ?_)
  refine wc_ite (fun _ => rfl) (fun _ => ?_)
  refine wc_ite (fun _ => rfl) (fun _ => ?_)
  refine wc_ite (fun _ => rfl) (fun _ => ?_)
  refine wc_ite (fun _ => rfl) (fun _ => ?_)
  refine wc_ite (fun _ => rfl) (fun _ => ?_)
  refine wc_ite (fun _ => rfl) (fun _ => ?_)
  refine wc_ite (fun _ => rfl) (fun _ => ?_)
  refine wc_ite (fun _ => rfl) (fun _ => ?_)
  refine wc_ite (fun _ => rfl) (fun _ => ?_)
  refine wc_ite (fun _ => rfl) (fun _ => ?_)
  refine wc_ite (fun _ => rfl) (fun _ => ?_)
  refine wc_ite (fun _ => rfl) (fun _ => ?_)
  refine wc_ite (fun _ => rfl) (fun _ => ?_)
  refine wc_ite (fun _ => rfl) (fun _ => ?_)
  refine wc_ite (fun _ => rfl) (fun _ => ?_)
  refine wc_ite (fun _ => rfl) (fun _ => ?_)
  refine wc_ite (fun _ => rfl) (fun _ => ?_)
  refine wc_ite (fun _ => rfl) (fun _ => ?_)
  refine wc_ite (fun _ => rfl) (fun _ => ?_)
  refine wc_ite (fun _ => rfl) (fun _ => ?_)
  refine wc_ite (fun _ => rfl) (fun _ => ?_)
  refine wc_ite (fun _ => rfl) (fun _ => ?_)
  refine wc_ite (fun _ => rfl) (fun _ => ?_)
  refine wc_ite (fun _ => rfl) (fun _ => ?_)
  refine wc_ite (fun _ => rfl) (fun _ => ?_)
  refine wc_ite (fun _ => rfl) (fun _ => ?_)
  rfl
theorem wc_o_DLY {Γ : wc_G} {σ μ : wc_St} {i : Nat} {j q : Nat} {x : Int32} (h : q ≠ 5 + i) : wc_cell Γ (wc_st σ 2 i j x) μ q = wc_cell Γ σ μ q := by
  unfold wc_cell
  refine wc_ite (fun _ => rfl) (fun _ => ?_)
  refine wc_ite (fun _ => rfl) (fun _ => ?_)
  refine wc_ite (fun _ => rfl) (fun _ => ?_)
  refine wc_ite (fun _ => rfl) (fun _ => ?_)
  refine wc_ite (fun _ => rfl) (fun _ => ?_)
  refine wc_ite (fun _ => by simp only [wc_st_ne (show q - 5 ≠ i by omega)]) (fun _ => ?_)
  refine wc_ite (fun _ => rfl) (fun _ => ?_)
  refine wc_ite (fun _ => rfl) (fun _ => ?_)
  refine wc_ite (fun _ => rfl) (fun _ => ?_)
  refine wc_ite (fun _ => rfl) (fun _ => ?_)
  refine wc_ite (fun _ => rfl) (fun _ => ?_)
  refine wc_ite (fun _ => rfl) (fun _ => ?_)
  refine wc_ite (fun _ => rfl) (fun _ => ?_)
  refine wc_ite (fun _ => rfl) (fun _ => ?_)
  refine wc_ite (fun _ => rfl) (fun _ => ?_)
  refine wc_ite (fun _ => rfl) (fun _ => ?_)
  refine wc_ite (fun _ => rfl) (fun _ => ?_)
  refine wc_ite (fun _ => rfl) (fun _ => ?_)
  refine wc_ite (fun _ => rfl) (fun _ => ?_)
  refine wc_ite (fun _ => rfl) (fun _ => ?_)
  refine wc_ite (fun _ => rfl) (fun _ => ?_)
  refine wc_ite (fun _ => rfl) (fun _ => ?_)
  refine wc_ite (fun _ => rfl) (fun _ => ?_)
  refine wc_ite (fun _ => rfl) (fun _ => ?_)
  refine wc_ite (fun _ => rfl) (fun _ => ?_)
  refine wc_ite (fun _ => rfl) (fun _ => ?_)
  refine wc_ite (fun _ => rfl) (fun _ => ?_)
  refine wc_ite (fun _ => rfl) (fun _ => ?_)
  refine wc_ite (fun _ => rfl) (fun _ => ?_)
  refine wc_ite (fun _ => rfl) (fun _ => ?_)
  refine wc_ite (fun _ => rfl) (fun _ => ?_)
  refine wc_ite (fun _ => rfl) (fun _ => ?_)
  refine wc_ite (fun _ => rfl) (fun _ => ?_)
  refine wc_ite (fun _ => rfl) (fun _ => ?_)
  refine wc_ite (fun _ => rfl) (fun _ => ?_)
  rfl
theorem wc_o_UP {Γ : wc_G} {σ μ : wc_St} {i : Nat} {j q : Nat} {x : Int32} (h : q ≠ 5 + i) : wc_cell Γ (wc_st σ 3 i j x) μ q = wc_cell Γ σ μ q := by
  unfold wc_cell
  refine wc_ite (fun _ => rfl) (fun _ => ?_)
  refine wc_ite (fun _ => rfl) (fun _ => ?_)
  refine wc_ite (fun _ => rfl) (fun _ => ?_)
  refine wc_ite (fun _ => rfl) (fun _ => ?_)
  refine wc_ite (fun _ => rfl) (fun _ => ?_)
  refine wc_ite (fun _ => by simp only [wc_st_ne (show q - 5 ≠ i by omega)]) (fun _ => ?_)
  refine wc_ite (fun _ => rfl) (fun _ => ?_)
  refine wc_ite (fun _ => rfl) (fun _ => ?_)
  refine wc_ite (fun _ => rfl) (fun _ => ?_)
  refine wc_ite (fun _ => rfl) (fun _ => ?_)
  refine wc_ite (fun _ => rfl) (fun _ => ?_)
  refine wc_ite (fun _ => rfl) (fun _ => ?_)
  refine wc_ite (fun _ => rfl) (fun _ => ?_)
  refine wc_ite (fun _ => rfl) (fun _ => ?_)
  refine wc_ite (fun _ => rfl) (fun _ => ?_)
  refine wc_ite (fun _ => rfl) (fun _ => ?_)
  refine wc_ite (fun _ => rfl) (fun _ => ?_)
  refine wc_ite (fun _ => rfl) (fun _ => ?_)
  refine wc_ite (fun _ => rfl) (fun _ => ?_)
  refine wc_ite (fun _ => rfl) (fun _ => ?_)
  refine wc_ite (fun _ => rfl) (fun _ => ?_)
  refine wc_ite (fun _ => rfl) (fun _ => ?_)
  refine wc_ite (fun _ => rfl) (fun _ => ?_)
  refine wc_ite (fun _ => rfl) (fun _ => ?_)
  refine wc_ite (fun _ => rfl) (fun _ => ?_)
  refine wc_ite (fun _ => rfl) (fun _ => ?_)
  refine wc_ite (fun _ => rfl) (fun _ => ?_)
  refine wc_ite (fun _ => rfl) (fun _ => ?_)
  refine wc_ite (fun _ => rfl) (fun _ => ?_)
  refine wc_ite (fun _ => rfl) (fun _ => ?_)
  refine wc_ite (fun _ => rfl) (fun _ => ?_)
  refine wc_ite (fun _ => rfl) (fun _ => ?_)
  refine wc_ite (fun _ => rfl) (fun _ => ?_)
  refine wc_ite (fun _ => rfl) (fun _ => ?_)
  refine wc_ite (fun _ => rfl) (fun _ => ?_)
  rfl
theorem wc_o_BND {Γ : wc_G} {σ μ : wc_St} {i : Nat} {j q : Nat} {x : Int32} (h : q ≠ 5 + i) : wc_cell Γ (wc_st σ 4 i j x) μ q = wc_cell Γ σ μ q := by
  unfold wc_cell
  refine wc_ite (fun _ => rfl) (fun _ => ?_)
  refine wc_ite (fun _ => rfl) (fun _ => ?_)
  refine wc_ite (fun _ => rfl) (fun _ => ?_)
  refine wc_ite (fun _ => rfl) (fun _ => ?_)
  refine wc_ite (fun _ => rfl) (fun _ => ?_)
  refine wc_ite (fun _ => by simp only [wc_st_ne (show q - 5 ≠ i by omega)]) (fun _ => ?_)
  refine wc_ite (fun _ => rfl) (fun _ => ?_)
  refine wc_ite (fun _ => rfl) (fun _ => ?_)
  refine wc_ite (fun _ => rfl) (fun _ => ?_)
  refine wc_ite (fun _ => rfl) (fun _ => ?_)
  refine wc_ite (fun _ => rfl) (fun _ => ?_)
  refine wc_ite (fun _ => rfl) (fun _ => ?_)
  refine wc_ite (fun _ => rfl) (fun _ => ?_)
  refine wc_ite (fun _ => rfl) (fun _ => ?_)
  refine wc_ite (fun _ => rfl) (fun _ => ?_)
  refine wc_ite (fun _ => rfl) (fun _ => ?_)
  refine wc_ite (fun _ => rfl) (fun _ => ?_)
  refine wc_ite (fun _ => rfl) (fun _ => ?_)
  refine wc_ite (fun _ => rfl) (fun _ => ?_)
  refine wc_ite (fun _ => rfl) (fun _ => ?_)
  refine wc_ite (fun _ => rfl) (fun _ => ?_)
  refine wc_ite (fun _ => rfl) (fun _ => ?_)
  refine wc_ite (fun _ => rfl) (fun _ => ?_)
  refine wc_ite (fun _ => rfl) (fun _ => ?_)
  refine wc_ite (fun _ => rfl) (fun _ => ?_)
  refine wc_ite (fun _ => rfl) (fun _ => ?_)
  refine wc_ite (fun _ => rfl) (fun _ => ?_)
  refine wc_ite (fun _ => rfl) (fun _ => ?_)
  refine wc_ite (fun _ => rfl) (fun _ => ?_)
  refine wc_ite (fun _ => rfl) (fun _ => ?_)
  refine wc_ite (fun _ => rfl) (fun _ => ?_)
  refine wc_ite (fun _ => rfl) (fun _ => ?_)
  refine wc_ite (fun _ => rfl) (fun _ => ?_)
  refine wc_ite (fun _ => rfl) (fun _ => ?_)
  refine wc_ite (fun _ => rfl) (fun _ => ?_)
  rfl
theorem wc_o_CNT {Γ : wc_G} {σ μ : wc_St} {i : Nat} {j q : Nat} {x : Int32} (h : q ≠ 8 + i) : wc_cell Γ (wc_st σ 5 i j x) μ q = wc_cell Γ σ μ q := by
  unfold wc_cell
  refine wc_ite (fun _ => rfl) (fun _ => ?_)
  refine wc_ite (fun _ => rfl) (fun _ => ?_)
  refine wc_ite (fun _ => rfl) (fun _ => ?_)
  refine wc_ite (fun _ => rfl) (fun _ => ?_)
  refine wc_ite (fun _ => rfl) (fun _ => ?_)
  refine wc_ite (fun _ => rfl) (fun _ => ?_)
  refine wc_ite (fun _ => by simp only [wc_st_ne (show q - 8 ≠ i by omega)]) (fun _ => ?_)
  refine wc_ite (fun _ => rfl) (fun _ => ?_)
  refine wc_ite (fun _ => rfl) (fun _ => ?_)
  refine wc_ite (fun _ => rfl) (fun _ => ?_)
  refine wc_ite (fun _ => rfl) (fun _ => ?_)
  refine wc_ite (fun _ => rfl) (fun _ => ?_)
  refine wc_ite (fun _ => rfl) (fun _ => ?_)
  refine wc_ite (fun _ => rfl) (fun _ => ?_)
  refine wc_ite (fun _ => rfl) (fun _ => ?_)
  refine wc_ite (fun _ => rfl) (fun _ => ?_)
  refine wc_ite (fun _ => rfl) (fun _ => ?_)
  refine wc_ite (fun _ => rfl) (fun _ => ?_)
  refine wc_ite (fun _ => rfl) (fun _ => ?_)
  refine wc_ite (fun _ => rfl) (fun _ => ?_)
  refine wc_ite (fun _ => rfl) (fun _ => ?_)
  refine wc_ite (fun _ => rfl) (fun _ => ?_)
  refine wc_ite (fun _ => rfl) (fun _ => ?_)
  refine wc_ite (fun _ => rfl) (fun _ => ?_)
  refine wc_ite (fun _ => rfl) (fun _ => ?_)
  refine wc_ite (fun _ => rfl) (fun _ => ?_)
  refine wc_ite (fun _ => rfl) (fun _ => ?_)
  refine wc_ite (fun _ => rfl) (fun _ => ?_)
  refine wc_ite (fun _ => rfl) (fun _ => ?_)
  refine wc_ite (fun _ => rfl) (fun _ => ?_)
  refine wc_ite (fun _ => rfl) (fun _ => ?_)
  refine wc_ite (fun _ => rfl) (fun _ => ?_)
  refine wc_ite (fun _ => rfl) (fun _ => ?_)
  refine wc_ite (fun _ => rfl) (fun _ => ?_)
  refine wc_ite (fun _ => rfl) (fun _ => ?_)
  rfl
theorem wc_o_VAL {Γ : wc_G} {σ μ : wc_St} {i : Nat} {j q : Nat} {x : Int32} (h : q ≠ 17 + i) : wc_cell Γ (wc_st σ 6 i j x) μ q = wc_cell Γ σ μ q := by
  unfold wc_cell
  refine wc_ite (fun _ => rfl) (fun _ => ?_)
  refine wc_ite (fun _ => rfl) (fun _ => ?_)
  refine wc_ite (fun _ => rfl) (fun _ => ?_)
  refine wc_ite (fun _ => rfl) (fun _ => ?_)
  refine wc_ite (fun _ => rfl) (fun _ => ?_)
  refine wc_ite (fun _ => rfl) (fun _ => ?_)
  refine wc_ite (fun _ => rfl) (fun _ => ?_)
  refine wc_ite (fun _ => by rw [wc_st_ne (show q - 17 ≠ i by omega)]) (fun _ => ?_)
  refine wc_ite (fun _ => rfl) (fun _ => ?_)
  refine wc_ite (fun _ => rfl) (fun _ => ?_)
  refine wc_ite (fun _ => rfl) (fun _ => ?_)
  refine wc_ite (fun _ => rfl) (fun _ => ?_)
  refine wc_ite (fun _ => rfl) (fun _ => ?_)
  refine wc_ite (fun _ => rfl) (fun _ => ?_)
  refine wc_ite (fun _ => rfl) (fun _ => ?_)
  refine wc_ite (fun _ => rfl) (fun _ => ?_)
  refine wc_ite (fun _ => rfl) (fun _ => ?_)
  refine wc_ite (fun _ => rfl) (fun _ => ?_)
  refine wc_ite (fun _ => rfl) (fun _ => ?_)
  refine wc_ite (fun _ => rfl) (fun _ => ?_)
  refine wc_ite (fun _ => rfl) (fun _ => ?_)
  refine wc_ite (fun _ => rfl) (fun _ => ?_)
  refine wc_ite (fun _ => rfl) (fun _ => ?_)
  refine wc_ite (fun _ => rfl) (fun _ => ?_)
  refine wc_ite (fun _ => rfl) (fun _ => ?_)
  refine wc_ite (fun _ => rfl) (fun _ => ?_)
  refine wc_ite (fun _ => rfl) (fun _ => ?_)
  refine wc_ite (fun _ => rfl) (fun _ => ?_)
  refine wc_ite (fun _ => rfl) (fun _ => ?_)
  refine wc_ite (fun _ => rfl) (fun _ => ?_)
  refine wc_ite (fun _ => rfl) (fun _ => ?_)
  refine wc_ite (fun _ => rfl) (fun _ => ?_)
  refine wc_ite (fun _ => rfl) (fun _ => ?_)
  refine wc_ite (fun _ => rfl) (fun _ => ?_)
  refine wc_ite (fun _ => rfl) (fun _ => ?_)
  rfl
theorem wc_o_STP {Γ : wc_G} {σ μ : wc_St} {i : Nat} {j q : Nat} {x : Int32} (h : q ≠ 26 + i) : wc_cell Γ (wc_st σ 7 i j x) μ q = wc_cell Γ σ μ q := by
  unfold wc_cell
  refine wc_ite (fun _ => rfl) (fun _ => ?_)
  refine wc_ite (fun _ => rfl) (fun _ => ?_)
  refine wc_ite (fun _ => rfl) (fun _ => ?_)
  refine wc_ite (fun _ => rfl) (fun _ => ?_)
  refine wc_ite (fun _ => rfl) (fun _ => ?_)
  refine wc_ite (fun _ => rfl) (fun _ => ?_)
  refine wc_ite (fun _ => rfl) (fun _ => ?_)
  refine wc_ite (fun _ => rfl) (fun _ => ?_)
  refine wc_ite (fun _ => by rw [wc_st_ne (show q - 26 ≠ i by omega)]) (fun _ => ?_)
  refine wc_ite (fun _ => rfl) (fun _ => ?_)
  refine wc_ite (fun _ => rfl) (fun _ => ?_)
  refine wc_ite (fun _ => rfl) (fun _ => ?_)
  refine wc_ite (fun _ => rfl) (fun _ => ?_)
  refine wc_ite (fun _ => rfl) (fun _ => ?_)
  refine wc_ite (fun _ => rfl) (fun _ => ?_)
  refine wc_ite (fun _ => rfl) (fun _ => ?_)
  refine wc_ite (fun _ => rfl) (fun _ => ?_)
  refine wc_ite (fun _ => rfl) (fun _ => ?_)
  refine wc_ite (fun _ => rfl) (fun _ => ?_)
  refine wc_ite (fun _ => rfl) (fun _ => ?_)
  refine wc_ite (fun _ => rfl) (fun _ => ?_)
  refine wc_ite (fun _ => rfl) (fun _ => ?_)
  refine wc_ite (fun _ => rfl) (fun _ => ?_)
  refine wc_ite (fun _ => rfl) (fun _ => ?_)
  refine wc_ite (fun _ => rfl) (fun _ => ?_)
  refine wc_ite (fun _ => rfl) (fun _ => ?_)
  refine wc_ite (fun _ => rfl) (fun _ => ?_)
  refine wc_ite (fun _ => rfl) (fun _ => ?_)
  refine wc_ite (fun _ => rfl) (fun _ => ?_)
  refine wc_ite (fun _ => rfl) (fun _ => ?_)
  refine wc_ite (fun _ => rfl) (fun _ => ?_)
  refine wc_ite (fun _ => rfl) (fun _ => ?_)
  refine wc_ite (fun _ => rfl) (fun _ => ?_)
  refine wc_ite (fun _ => rfl) (fun _ => ?_)
  refine wc_ite (fun _ => rfl) (fun _ => ?_)
  rfl
theorem wc_o_STA {Γ : wc_G} {σ μ : wc_St} {i : Nat} {j q : Nat} {x : Int32} (h : q ≠ 35 + i) : wc_cell Γ (wc_st σ 8 i j x) μ q = wc_cell Γ σ μ q := by
  unfold wc_cell
  refine wc_ite (fun _ => rfl) (fun _ => ?_)
  refine wc_ite (fun _ => rfl) (fun _ => ?_)
  refine wc_ite (fun _ => rfl) (fun _ => ?_)
  refine wc_ite (fun _ => rfl) (fun _ => ?_)
  refine wc_ite (fun _ => rfl) (fun _ => ?_)
  refine wc_ite (fun _ => rfl) (fun _ => ?_)
  refine wc_ite (fun _ => rfl) (fun _ => ?_)
  refine wc_ite (fun _ => rfl) (fun _ => ?_)
  refine wc_ite (fun _ => rfl) (fun _ => ?_)
  refine wc_ite (fun _ => by simp only [wc_st_ne (show q - 35 ≠ i by omega)]) (fun _ => ?_)
  refine wc_ite (fun _ => rfl) (fun _ => ?_)
  refine wc_ite (fun _ => rfl) (fun _ => ?_)
  refine wc_ite (fun _ => rfl) (fun _ => ?_)
  refine wc_ite (fun _ => rfl) (fun _ => ?_)
  refine wc_ite (fun _ => rfl) (fun _ => ?_)
  refine wc_ite (fun _ => rfl) (fun _ => ?_)
  refine wc_ite (fun _ => rfl) (fun _ => ?_)
  refine wc_ite (fun _ => rfl) (fun _ => ?_)
  refine wc_ite (fun _ => rfl) (fun _ => ?_)
  refine wc_ite (fun _ => rfl) (fun _ => ?_)
  refine wc_ite (fun _ => rfl) (fun _ => ?_)
  refine wc_ite (fun _ => rfl) (fun _ => ?_)
  refine wc_ite (fun _ => rfl) (fun _ => ?_)
  refine wc_ite (fun _ => rfl) (fun _ => ?_)
  refine wc_ite (fun _ => rfl) (fun _ => ?_)
  refine wc_ite (fun _ => rfl) (fun _ => ?_)
  refine wc_ite (fun _ => rfl) (fun _ => ?_)
  refine wc_ite (fun _ => rfl) (fun _ => ?_)
  refine wc_ite (fun _ => rfl) (fun _ => ?_)
  refine wc_ite (fun _ => rfl) (fun _ => ?_)
  refine wc_ite (fun _ => rfl) (fun _ => ?_)
  refine wc_ite (fun _ => rfl) (fun _ => ?_)
  refine wc_ite (fun _ => rfl) (fun _ => ?_)
  refine wc_ite (fun _ => rfl) (fun _ => ?_)
  refine wc_ite (fun _ => rfl) (fun _ => ?_)
  rfl
theorem wc_o_BIR {Γ : wc_G} {σ μ : wc_St} {i : Nat} {j q : Nat} {x : Int32} (h : q ≠ 35 + i) : wc_cell Γ (wc_st σ 9 i j x) μ q = wc_cell Γ σ μ q := by
  unfold wc_cell
  refine wc_ite (fun _ => rfl) (fun _ => ?_)
  refine wc_ite (fun _ => rfl) (fun _ => ?_)
  refine wc_ite (fun _ => rfl) (fun _ => ?_)
  refine wc_ite (fun _ => rfl) (fun _ => ?_)
  refine wc_ite (fun _ => rfl) (fun _ => ?_)
  refine wc_ite (fun _ => rfl) (fun _ => ?_)
  refine wc_ite (fun _ => rfl) (fun _ => ?_)
  refine wc_ite (fun _ => rfl) (fun _ => ?_)
  refine wc_ite (fun _ => rfl) (fun _ => ?_)
  refine wc_ite (fun _ => by simp only [wc_st_ne (show q - 35 ≠ i by omega)]) (fun _ => ?_)
  refine wc_ite (fun _ => rfl) (fun _ => ?_)
  refine wc_ite (fun _ => rfl) (fun _ => ?_)
  refine wc_ite (fun _ => rfl) (fun _ => ?_)
  refine wc_ite (fun _ => rfl) (fun _ => ?_)
  refine wc_ite (fun _ => rfl) (fun _ => ?_)
  refine wc_ite (fun _ => rfl) (fun _ => ?_)
  refine wc_ite (fun _ => rfl) (fun _ => ?_)
  refine wc_ite (fun _ => rfl) (fun _ => ?_)
  refine wc_ite (fun _ => rfl) (fun _ => ?_)
  refine wc_ite (fun _ => rfl) (fun _ => ?_)
  refine wc_ite (fun _ => rfl) (fun _ => ?_)
  refine wc_ite (fun _ => rfl) (fun _ => ?_)
  refine wc_ite (fun _ => rfl) (fun _ => ?_)
  refine wc_ite (fun _ => rfl) (fun _ => ?_)
  refine wc_ite (fun _ => rfl) (fun _ => ?_)
  refine wc_ite (fun _ => rfl) (fun _ => ?_)
  refine wc_ite (fun _ => rfl) (fun _ => ?_)
  refine wc_ite (fun _ => rfl) (fun _ => ?_)
  refine wc_ite (fun _ => rfl) (fun _ => ?_)
  refine wc_ite (fun _ => rfl) (fun _ => ?_)
  refine wc_ite (fun _ => rfl) (fun _ => ?_)
  refine wc_ite (fun _ => rfl) (fun _ => ?_)
  refine wc_ite (fun _ => rfl) (fun _ => ?_)
  refine wc_ite (fun _ => rfl) (fun _ => ?_)
  refine wc_ite (fun _ => rfl) (fun _ => ?_)
  rfl
theorem wc_o_CRD {Γ : wc_G} {σ μ : wc_St} {i : Nat} {j q : Nat} {x : Int32} (h : q ≠ 35 + i) : wc_cell Γ (wc_st σ 10 i j x) μ q = wc_cell Γ σ μ q := by
  unfold wc_cell
  refine wc_ite (fun _ => rfl) (fun _ => ?_)
  refine wc_ite (fun _ => rfl) (fun _ => ?_)
  refine wc_ite (fun _ => rfl) (fun _ => ?_)
  refine wc_ite (fun _ => rfl) (fun _ => ?_)
  refine wc_ite (fun _ => rfl) (fun _ => ?_)
  refine wc_ite (fun _ => rfl) (fun _ => ?_)
  refine wc_ite (fun _ => rfl) (fun _ => ?_)
  refine wc_ite (fun _ => rfl) (fun _ => ?_)
  refine wc_ite (fun _ => rfl) (fun _ => ?_)
  refine wc_ite (fun _ => by simp only [wc_st_ne (show q - 35 ≠ i by omega)]) (fun _ => ?_)
  refine wc_ite (fun _ => rfl) (fun _ => ?_)
  refine wc_ite (fun _ => rfl) (fun _ => ?_)
  refine wc_ite (fun _ => rfl) (fun _ => ?_)
  refine wc_ite (fun _ => rfl) (fun _ => ?_)
  refine wc_ite (fun _ => rfl) (fun _ => ?_)
  refine wc_ite (fun _ => rfl) (fun _ => ?_)
  refine wc_ite (fun _ => rfl) (fun _ => ?_)
  refine wc_ite (fun _ => rfl) (fun _ => ?_)
  refine wc_ite (fun _ => rfl) (fun _ => ?_)
  refine wc_ite (fun _ => rfl) (fun _ => ?_)
  refine wc_ite (fun _ => rfl) (fun _ => ?_)
  refine wc_ite (fun _ => rfl) (fun _ => ?_)
  refine wc_ite (fun _ => rfl) (fun _ => ?_)
  refine wc_ite (fun _ => rfl) (fun _ => ?_)
  refine wc_ite (fun _ => rfl) (fun _ => ?_)
  refine wc_ite (fun _ => rfl) (fun _ => ?_)
  refine wc_ite (fun _ => rfl) (fun _ => ?_)
  refine wc_ite (fun _ => rfl) (fun _ => ?_)
  refine wc_ite (fun _ => rfl) (fun _ => ?_)
  refine wc_ite (fun _ => rfl) (fun _ => ?_)
  refine wc_ite (fun _ => rfl) (fun _ => ?_)
  refine wc_ite (fun _ => rfl) (fun _ => ?_)
  refine wc_ite (fun _ => rfl) (fun _ => ?_)
  refine wc_ite (fun _ => rfl) (fun _ => ?_)
  refine wc_ite (fun _ => rfl) (fun _ => ?_)
  rfl
theorem wc_o_FLR {Γ : wc_G} {σ μ : wc_St} {i : Nat} {j q : Nat} {x : Int32} (h : q ≠ 35 + i) : wc_cell Γ (wc_st σ 11 i j x) μ q = wc_cell Γ σ μ q := by
  unfold wc_cell
  refine wc_ite (fun _ => rfl) (fun _ => ?_)
  refine wc_ite (fun _ => rfl) (fun _ => ?_)
  refine wc_ite (fun _ => rfl) (fun _ => ?_)
  refine wc_ite (fun _ => rfl) (fun _ => ?_)
  refine wc_ite (fun _ => rfl) (fun _ => ?_)
  refine wc_ite (fun _ => rfl) (fun _ => ?_)
  refine wc_ite (fun _ => rfl) (fun _ => ?_)
  refine wc_ite (fun _ => rfl) (fun _ => ?_)
  refine wc_ite (fun _ => rfl) (fun _ => ?_)
  refine wc_ite (fun _ => by simp only [wc_st_ne (show q - 35 ≠ i by omega)]) (fun _ => ?_)
  refine wc_ite (fun _ => rfl) (fun _ => ?_)
  refine wc_ite (fun _ => rfl) (fun _ => ?_)
  refine wc_ite (fun _ => rfl) (fun _ => ?_)
  refine wc_ite (fun _ => rfl) (fun _ => ?_)
  refine wc_ite (fun _ => rfl) (fun _ => ?_)
  refine wc_ite (fun _ => rfl) (fun _ => ?_)
  refine wc_ite (fun _ => rfl) (fun _ => ?_)
  refine wc_ite (fun _ => rfl) (fun _ => ?_)
  refine wc_ite (fun _ => rfl) (fun _ => ?_)
  refine wc_ite (fun _ => rfl) (fun _ => ?_)
  refine wc_ite (fun _ => rfl) (fun _ => ?_)
  refine wc_ite (fun _ => rfl) (fun _ => ?_)
  refine wc_ite (fun _ => rfl) (fun _ => ?_)
  refine wc_ite (fun _ => rfl) (fun _ => ?_)
  refine wc_ite (fun _ => rfl) (fun _ => ?_)
  refine wc_ite (fun _ => rfl) (fun _ => ?_)
  refine wc_ite (fun _ => rfl) (fun _ => ?_)
  refine wc_ite (fun _ => rfl) (fun _ => ?_)
  refine wc_ite (fun _ => rfl) (fun _ => ?_)
  refine wc_ite (fun _ => rfl) (fun _ => ?_)
  refine wc_ite (fun _ => rfl) (fun _ => ?_)
  refine wc_ite (fun _ => rfl) (fun _ => ?_)
  refine wc_ite (fun _ => rfl) (fun _ => ?_)
  refine wc_ite (fun _ => rfl) (fun _ => ?_)
  refine wc_ite (fun _ => rfl) (fun _ => ?_)
  rfl
theorem wc_o_AWT {Γ : wc_G} {σ μ : wc_St} {i : Nat} {j q : Nat} {x : Int32} (h : q ≠ 35 + i) : wc_cell Γ (wc_st σ 12 i j x) μ q = wc_cell Γ σ μ q := by
  unfold wc_cell
  refine wc_ite (fun _ => rfl) (fun _ => ?_)
  refine wc_ite (fun _ => rfl) (fun _ => ?_)
  refine wc_ite (fun _ => rfl) (fun _ => ?_)
  refine wc_ite (fun _ => rfl) (fun _ => ?_)
  refine wc_ite (fun _ => rfl) (fun _ => ?_)
  refine wc_ite (fun _ => rfl) (fun _ => ?_)
  refine wc_ite (fun _ => rfl) (fun _ => ?_)
  refine wc_ite (fun _ => rfl) (fun _ => ?_)
  refine wc_ite (fun _ => rfl) (fun _ => ?_)
  refine wc_ite (fun _ => by simp only [wc_st_ne (show q - 35 ≠ i by omega)]) (fun _ => ?_)
  refine wc_ite (fun _ => rfl) (fun _ => ?_)
  refine wc_ite (fun _ => rfl) (fun _ => ?_)
  refine wc_ite (fun _ => rfl) (fun _ => ?_)
  refine wc_ite (fun _ => rfl) (fun _ => ?_)
  refine wc_ite (fun _ => rfl) (fun _ => ?_)
  refine wc_ite (fun _ => rfl) (fun _ => ?_)
  refine wc_ite (fun _ => rfl) (fun _ => ?_)
  refine wc_ite (fun _ => rfl) (fun _ => ?_)
  refine wc_ite (fun _ => rfl) (fun _ => ?_)
  refine wc_ite (fun _ => rfl) (fun _ => ?_)
  refine wc_ite (fun _ => rfl) (fun _ => ?_)
  refine wc_ite (fun _ => rfl) (fun _ => ?_)
  refine wc_ite (fun _ => rfl) (fun _ => ?_)
  refine wc_ite (fun _ => rfl) (fun _ => ?_)
  refine wc_ite (fun _ => rfl) (fun _ => ?_)
  refine wc_ite (fun _ => rfl) (fun _ => ?_)
  refine wc_ite (fun _ => rfl) (fun _ => ?_)
  refine wc_ite (fun _ => rfl) (fun _ => ?_)
  refine wc_ite (fun _ => rfl) (fun _ => ?_)
  refine wc_ite (fun _ => rfl) (fun _ => ?_)
  refine wc_ite (fun _ => rfl) (fun _ => ?_)
  refine wc_ite (fun _ => rfl) (fun _ => ?_)
  refine wc_ite (fun _ => rfl) (fun _ => ?_)
  refine wc_ite (fun _ => rfl) (fun _ => ?_)
  refine wc_ite (fun _ => rfl) (fun _ => ?_)
  rfl
theorem wc_o_TST {Γ : wc_G} {σ μ : wc_St} {i : Nat} {j q : Nat} {x : Int32} (h : q ≠ 35 + i) : wc_cell Γ (wc_st σ 13 i j x) μ q = wc_cell Γ σ μ q := by
  unfold wc_cell
  refine wc_ite (fun _ => rfl) (fun _ => ?_)
  refine wc_ite (fun _ => rfl) (fun _ => ?_)
  refine wc_ite (fun _ => rfl) (fun _ => ?_)
  refine wc_ite (fun _ => rfl) (fun _ => ?_)
  refine wc_ite (fun _ => rfl) (fun _ => ?_)
  refine wc_ite (fun _ => rfl) (fun _ => ?_)
  refine wc_ite (fun _ => rfl) (fun _ => ?_)
  refine wc_ite (fun _ => rfl) (fun _ => ?_)
  refine wc_ite (fun _ => rfl) (fun _ => ?_)
  refine wc_ite (fun _ => by simp only [wc_st_ne (show q - 35 ≠ i by omega)]) (fun _ => ?_)
  refine wc_ite (fun _ => rfl) (fun _ => ?_)
  refine wc_ite (fun _ => rfl) (fun _ => ?_)
  refine wc_ite (fun _ => rfl) (fun _ => ?_)
  refine wc_ite (fun _ => rfl) (fun _ => ?_)
  refine wc_ite (fun _ => rfl) (fun _ => ?_)
  refine wc_ite (fun _ => rfl) (fun _ => ?_)
  refine wc_ite (fun _ => rfl) (fun _ => ?_)
  refine wc_ite (fun _ => rfl) (fun _ => ?_)
  refine wc_ite (fun _ => rfl) (fun _ => ?_)
  refine wc_ite (fun _ => rfl) (fun _ => ?_)
  refine wc_ite (fun _ => rfl) (fun _ => ?_)
  refine wc_ite (fun _ => rfl) (fun _ => ?_)
  refine wc_ite (fun _ => rfl) (fun _ => ?_)
  refine wc_ite (fun _ => rfl) (fun _ => ?_)
  refine wc_ite (fun _ => rfl) (fun _ => ?_)
  refine wc_ite (fun _ => rfl) (fun _ => ?_)
  refine wc_ite (fun _ => rfl) (fun _ => ?_)
  refine wc_ite (fun _ => rfl) (fun _ => ?_)
  refine wc_ite (fun _ => rfl) (fun _ => ?_)
  refine wc_ite (fun _ => rfl) (fun _ => ?_)
  refine wc_ite (fun _ => rfl) (fun _ => ?_)
  refine wc_ite (fun _ => rfl) (fun _ => ?_)
  refine wc_ite (fun _ => rfl) (fun _ => ?_)
  refine wc_ite (fun _ => rfl) (fun _ => ?_)
  refine wc_ite (fun _ => rfl) (fun _ => ?_)
  rfl
theorem wc_o_END {Γ : wc_G} {σ μ : wc_St} {i : Nat} {j q : Nat} {x : Int32} (h : q ≠ 35 + i) : wc_cell Γ (wc_st σ 14 i j x) μ q = wc_cell Γ σ μ q := by
  unfold wc_cell
  refine wc_ite (fun _ => rfl) (fun _ => ?_)
  refine wc_ite (fun _ => rfl) (fun _ => ?_)
  refine wc_ite (fun _ => rfl) (fun _ => ?_)
  refine wc_ite (fun _ => rfl) (fun _ => ?_)
  refine wc_ite (fun _ => rfl) (fun _ => ?_)
  refine wc_ite (fun _ => rfl) (fun _ => ?_)
  refine wc_ite (fun _ => rfl) (fun _ => ?_)
  refine wc_ite (fun _ => rfl) (fun _ => ?_)
  refine wc_ite (fun _ => rfl) (fun _ => ?_)
  refine wc_ite (fun _ => by simp only [wc_st_ne (show q - 35 ≠ i by omega)]) (fun _ => ?_)
  refine wc_ite (fun _ => rfl) (fun _ => ?_)
  refine wc_ite (fun _ => rfl) (fun _ => ?_)
  refine wc_ite (fun _ => rfl) (fun _ => ?_)
  refine wc_ite (fun _ => rfl) (fun _ => ?_)
  refine wc_ite (fun _ => rfl) (fun _ => ?_)
  refine wc_ite (fun _ => rfl) (fun _ => ?_)
  refine wc_ite (fun _ => rfl) (fun _ => ?_)
  refine wc_ite (fun _ => rfl) (fun _ => ?_)
  refine wc_ite (fun _ => rfl) (fun _ => ?_)
  refine wc_ite (fun _ => rfl) (fun _ => ?_)
  refine wc_ite (fun _ => rfl) (fun _ => ?_)
  refine wc_ite (fun _ => rfl) (fun _ => ?_)
  refine wc_ite (fun _ => rfl) (fun _ => ?_)
  refine wc_ite (fun _ => rfl) (fun _ => ?_)
  refine wc_ite (fun _ => rfl) (fun _ => ?_)
  refine wc_ite (fun _ => rfl) (fun _ => ?_)
  refine wc_ite (fun _ => rfl) (fun _ => ?_)
  refine wc_ite (fun _ => rfl) (fun _ => ?_)
  refine wc_ite (fun _ => rfl) (fun _ => ?_)
  refine wc_ite (fun _ => rfl) (fun _ => ?_)
  refine wc_ite (fun _ => rfl) (fun _ => ?_)
  refine wc_ite (fun _ => rfl) (fun _ => ?_)
  refine wc_ite (fun _ => rfl) (fun _ => ?_)
  refine wc_ite (fun _ => rfl) (fun _ => ?_)
  refine wc_ite (fun _ => rfl) (fun _ => ?_)
  rfl
theorem wc_o_LCK {Γ : wc_G} {σ μ : wc_St} {i : Nat} {j q : Nat} {x : Int32} (h : q ≠ 40 + i) : wc_cell Γ (wc_st σ 15 i j x) μ q = wc_cell Γ σ μ q := by
  unfold wc_cell
  refine wc_ite (fun _ => rfl) (fun _ => ?_)
  refine wc_ite (fun _ => rfl) (fun _ => ?_)
  refine wc_ite (fun _ => rfl) (fun _ => ?_)
  refine wc_ite (fun _ => rfl) (fun _ => ?_)
  refine wc_ite (fun _ => rfl) (fun _ => ?_)
  refine wc_ite (fun _ => rfl) (fun _ => ?_)
  refine wc_ite (fun _ => rfl) (fun _ => ?_)
  refine wc_ite (fun _ => rfl) (fun _ => ?_)
  refine wc_ite (fun _ => rfl) (fun _ => ?_)
  refine wc_ite (fun _ => rfl) (fun _ => ?_)
  refine wc_ite (fun _ => by rw [wc_st_ne (show q - 40 ≠ i by omega)]) (fun _ => ?_)
  refine wc_ite (fun _ => rfl) (fun _ => ?_)
  refine wc_ite (fun _ => rfl) (fun _ => ?_)
  refine wc_ite (fun _ => rfl) (fun _ => ?_)
  refine wc_ite (fun _ => rfl) (fun _ => ?_)
  refine wc_ite (fun _ => rfl) (fun _ => ?_)
  refine wc_ite (fun _ => rfl) (fun _ => ?_)
  refine wc_ite (fun _ => rfl) (fun _ => ?_)
  refine wc_ite (fun _ => rfl) (fun _ => ?_)
  refine wc_ite (fun _ => rfl) (fun _ => ?_)
  refine wc_ite (fun _ => rfl) (fun _ => ?_)
  refine wc_ite (fun _ => rfl) (fun _ => ?_)
  refine wc_ite (fun _ => rfl) (fun _ => ?_)
  refine wc_ite (fun _ => rfl) (fun _ => ?_)
  refine wc_ite (fun _ => rfl) (fun _ => ?_)
  refine wc_ite (fun _ => rfl) (fun _ => ?_)
  refine wc_ite (fun _ => rfl) (fun _ => ?_)
  refine wc_ite (fun _ => rfl) (fun _ => ?_)
  refine wc_ite (fun _ => rfl) (fun _ => ?_)
  refine wc_ite (fun _ => rfl) (fun _ => ?_)
  refine wc_ite (fun _ => rfl) (fun _ => ?_)
  refine wc_ite (fun _ => rfl) (fun _ => ?_)
  refine wc_ite (fun _ => rfl) (fun _ => ?_)
  refine wc_ite (fun _ => rfl) (fun _ => ?_)
  refine wc_ite (fun _ => rfl) (fun _ => ?_)
  rfl
theorem wc_o_WRT {Γ : wc_G} {σ μ : wc_St} {i : Nat} {j q : Nat} {x : Int32} (h : q ≠ 45 + i) : wc_cell Γ (wc_st σ 16 i j x) μ q = wc_cell Γ σ μ q := by
  unfold wc_cell
  refine wc_ite (fun _ => rfl) (fun _ => ?_)
  refine wc_ite (fun _ => rfl) (fun _ => ?_)
  refine wc_ite (fun _ => rfl) (fun _ => ?_)
  refine wc_ite (fun _ => rfl) (fun _ => ?_)
  refine wc_ite (fun _ => rfl) (fun _ => ?_)
  refine wc_ite (fun _ => rfl) (fun _ => ?_)
  refine wc_ite (fun _ => rfl) (fun _ => ?_)
  refine wc_ite (fun _ => rfl) (fun _ => ?_)
  refine wc_ite (fun _ => rfl) (fun _ => ?_)
  refine wc_ite (fun _ => rfl) (fun _ => ?_)
  refine wc_ite (fun _ => rfl) (fun _ => ?_)
  refine wc_ite (fun _ => by rw [wc_st_ne (show q - 45 ≠ i by omega)]) (fun _ => ?_)
  refine wc_ite (fun _ => rfl) (fun _ => ?_)
  refine wc_ite (fun _ => rfl) (fun _ => ?_)
  refine wc_ite (fun _ => rfl) (fun _ => ?_)
  refine wc_ite (fun _ => rfl) (fun _ => ?_)
  refine wc_ite (fun _ => rfl) (fun _ => ?_)
  refine wc_ite (fun _ => rfl) (fun _ => ?_)
  refine wc_ite (fun _ => rfl) (fun _ => ?_)
  refine wc_ite (fun _ => rfl) (fun _ => ?_)
  refine wc_ite (fun _ => rfl) (fun _ => ?_)
  refine wc_ite (fun _ => rfl) (fun _ => ?_)
  refine wc_ite (fun _ => rfl) (fun _ => ?_)
  refine wc_ite (fun _ => rfl) (fun _ => ?_)
  refine wc_ite (fun _ => rfl) (fun _ => ?_)
  refine wc_ite (fun _ => rfl) (fun _ => ?_)
  refine wc_ite (fun _ => rfl) (fun _ => ?_)
  refine wc_ite (fun _ => rfl) (fun _ => ?_)
  refine wc_ite (fun _ => rfl) (fun _ => ?_)
  refine wc_ite (fun _ => rfl) (fun _ => ?_)
  refine wc_ite (fun _ => rfl) (fun _ => ?_)
  refine wc_ite (fun _ => rfl) (fun _ => ?_)
  refine wc_ite (fun _ => rfl) (fun _ => ?_)
  refine wc_ite (fun _ => rfl) (fun _ => ?_)
  refine wc_ite (fun _ => rfl) (fun _ => ?_)
  rfl
theorem wc_o_MRK {Γ : wc_G} {σ μ : wc_St} {i : Nat} {j q : Nat} {x : Int32} (h : q ≠ 50 + i) : wc_cell Γ (wc_st σ 17 i j x) μ q = wc_cell Γ σ μ q := by
  unfold wc_cell
  refine wc_ite (fun _ => rfl) (fun _ => ?_)
  refine wc_ite (fun _ => rfl) (fun _ => ?_)
  refine wc_ite (fun _ => rfl) (fun _ => ?_)
  refine wc_ite (fun _ => rfl) (fun _ => ?_)
  refine wc_ite (fun _ => rfl) (fun _ => ?_)
  refine wc_ite (fun _ => rfl) (fun _ => ?_)
  refine wc_ite (fun _ => rfl) (fun _ => ?_)
  refine wc_ite (fun _ => rfl) (fun _ => ?_)
  refine wc_ite (fun _ => rfl) (fun _ => ?_)
  refine wc_ite (fun _ => rfl) (fun _ => ?_)
  refine wc_ite (fun _ => rfl) (fun _ => ?_)
  refine wc_ite (fun _ => rfl) (fun _ => ?_)
  refine wc_ite (fun _ => by rw [wc_st_ne (show q - 50 ≠ i by omega)]) (fun _ => ?_)
  refine wc_ite (fun _ => rfl) (fun _ => ?_)
  refine wc_ite (fun _ => rfl) (fun _ => ?_)
  refine wc_ite (fun _ => rfl) (fun _ => ?_)
  refine wc_ite (fun _ => rfl) (fun _ => ?_)
  refine wc_ite (fun _ => rfl) (fun _ => ?_)
  refine wc_ite (fun _ => rfl) (fun _ => ?_)
  refine wc_ite (fun _ => rfl) (fun _ => ?_)
  refine wc_ite (fun _ => rfl) (fun _ => ?_)
  refine wc_ite (fun _ => rfl) (fun _ => ?_)
  refine wc_ite (fun _ => rfl) (fun _ => ?_)
  refine wc_ite (fun _ => rfl) (fun _ => ?_)
  refine wc_ite (fun _ => rfl) (fun _ => ?_)
  refine wc_ite (fun _ => rfl) (fun _ => ?_)
  refine wc_ite (fun _ => rfl) (fun _ => ?_)
  refine wc_ite (fun _ => rfl) (fun _ => ?_)
  refine wc_ite (fun _ => rfl) (fun _ => ?_)
  refine wc_ite (fun _ => rfl) (fun _ => ?_)
  refine wc_ite (fun _ => rfl) (fun _ => ?_)
  refine wc_ite (fun _ => rfl) (fun _ => ?_)
  refine wc_ite (fun _ => rfl) (fun _ => ?_)
  refine wc_ite (fun _ => rfl) (fun _ => ?_)
  refine wc_ite (fun _ => rfl) (fun _ => ?_)
  rfl
theorem wc_o_KND {Γ : wc_G} {σ μ : wc_St} {i : Nat} {j q : Nat} {x : Int32} (h : q ≠ 55 + i) : wc_cell Γ (wc_st σ 18 i j x) μ q = wc_cell Γ σ μ q := by
  unfold wc_cell
  refine wc_ite (fun _ => rfl) (fun _ => ?_)
  refine wc_ite (fun _ => rfl) (fun _ => ?_)
  refine wc_ite (fun _ => rfl) (fun _ => ?_)
  refine wc_ite (fun _ => rfl) (fun _ => ?_)
  refine wc_ite (fun _ => rfl) (fun _ => ?_)
  refine wc_ite (fun _ => rfl) (fun _ => ?_)
  refine wc_ite (fun _ => rfl) (fun _ => ?_)
  refine wc_ite (fun _ => rfl) (fun _ => ?_)
  refine wc_ite (fun _ => rfl) (fun _ => ?_)
  refine wc_ite (fun _ => rfl) (fun _ => ?_)
  refine wc_ite (fun _ => rfl) (fun _ => ?_)
  refine wc_ite (fun _ => rfl) (fun _ => ?_)
  refine wc_ite (fun _ => rfl) (fun _ => ?_)
  refine wc_ite (fun _ => by simp only [wc_st_ne (show q - 55 ≠ i by omega)]) (fun _ => ?_)
  refine wc_ite (fun _ => rfl) (fun _ => ?_)
  refine wc_ite (fun _ => rfl) (fun _ => ?_)
  refine wc_ite (fun _ => rfl) (fun _ => ?_)
  refine wc_ite (fun _ => rfl) (fun _ => ?_)
  refine wc_ite (fun _ => rfl) (fun _ => ?_)
  refine wc_ite (fun _ => rfl) (fun _ => ?_)
  refine wc_ite (fun _ => rfl) (fun _ => ?_)
  refine wc_ite (fun _ => rfl) (fun _ => ?_)
  refine wc_ite (fun _ => rfl) (fun _ => ?_)
  refine wc_ite (fun _ => rfl) (fun _ => ?_)
  refine wc_ite (fun _ => rfl) (fun _ => ?_)
  refine wc_ite (fun _ => rfl) (fun _ => ?_)
  refine wc_ite (fun _ => rfl) (fun _ => ?_)
  refine wc_ite (fun _ => rfl) (fun _ => ?_)
  refine wc_ite (fun _ => rfl) (fun _ => ?_)
  refine wc_ite (fun _ => rfl) (fun _ => ?_)
  refine wc_ite (fun _ => rfl) (fun _ => ?_)
  refine wc_ite (fun _ => rfl) (fun _ => ?_)
  refine wc_ite (fun _ => rfl) (fun _ => ?_)
  refine wc_ite (fun _ => rfl) (fun _ => ?_)
  refine wc_ite (fun _ => rfl) (fun _ => ?_)
  rfl
theorem wc_o_RCV {Γ : wc_G} {σ μ : wc_St} {i : Nat} {j q : Nat} {x : Int32} (h : q ≠ 55 + i) : wc_cell Γ (wc_st σ 19 i j x) μ q = wc_cell Γ σ μ q := by
  unfold wc_cell
  refine wc_ite (fun _ => rfl) (fun _ => ?_)
  refine wc_ite (fun _ => rfl) (fun _ => ?_)
  refine wc_ite (fun _ => rfl) (fun _ => ?_)
  refine wc_ite (fun _ => rfl) (fun _ => ?_)
  refine wc_ite (fun _ => rfl) (fun _ => ?_)
  refine wc_ite (fun _ => rfl) (fun _ => ?_)
  refine wc_ite (fun _ => rfl) (fun _ => ?_)
  refine wc_ite (fun _ => rfl) (fun _ => ?_)
  refine wc_ite (fun _ => rfl) (fun _ => ?_)
  refine wc_ite (fun _ => rfl) (fun _ => ?_)
  refine wc_ite (fun _ => rfl) (fun _ => ?_)
  refine wc_ite (fun _ => rfl) (fun _ => ?_)
  refine wc_ite (fun _ => rfl) (fun _ => ?_)
  refine wc_ite (fun _ => by simp only [wc_st_ne (show q - 55 ≠ i by omega)]) (fun _ => ?_)
  refine wc_ite (fun _ => rfl) (fun _ => ?_)
  refine wc_ite (fun _ => rfl) (fun _ => ?_)
  refine wc_ite (fun _ => rfl) (fun _ => ?_)
  refine wc_ite (fun _ => rfl) (fun _ => ?_)
  refine wc_ite (fun _ => rfl) (fun _ => ?_)
  refine wc_ite (fun _ => rfl) (fun _ => ?_)
  refine wc_ite (fun _ => rfl) (fun _ => ?_)
  refine wc_ite (fun _ => rfl) (fun _ => ?_)
  refine wc_ite (fun _ => rfl) (fun _ => ?_)
  refine wc_ite (fun _ => rfl) (fun _ => ?_)
  refine wc_ite (fun _ => rfl) (fun _ => ?_)
  refine wc_ite (fun _ => rfl) (fun _ => ?_)
  refine wc_ite (fun _ => rfl) (fun _ => ?_)
  refine wc_ite (fun _ => rfl) (fun _ => ?_)
  refine wc_ite (fun _ => rfl) (fun _ => ?_)
  refine wc_ite (fun _ => rfl) (fun _ => ?_)
  refine wc_ite (fun _ => rfl) (fun _ => ?_)
  refine wc_ite (fun _ => rfl) (fun _ => ?_)
  refine wc_ite (fun _ => rfl) (fun _ => ?_)
  refine wc_ite (fun _ => rfl) (fun _ => ?_)
  refine wc_ite (fun _ => rfl) (fun _ => ?_)
  rfl
theorem wc_o_ARR {Γ : wc_G} {σ μ : wc_St} {i : Nat} {j q : Nat} {x : Int32} (h : q ≠ 55 + i) : wc_cell Γ (wc_st σ 20 i j x) μ q = wc_cell Γ σ μ q := by
  unfold wc_cell
  refine wc_ite (fun _ => rfl) (fun _ => ?_)
  refine wc_ite (fun _ => rfl) (fun _ => ?_)
  refine wc_ite (fun _ => rfl) (fun _ => ?_)
  refine wc_ite (fun _ => rfl) (fun _ => ?_)
  refine wc_ite (fun _ => rfl) (fun _ => ?_)
  refine wc_ite (fun _ => rfl) (fun _ => ?_)
  refine wc_ite (fun _ => rfl) (fun _ => ?_)
  refine wc_ite (fun _ => rfl) (fun _ => ?_)
  refine wc_ite (fun _ => rfl) (fun _ => ?_)
  refine wc_ite (fun _ => rfl) (fun _ => ?_)
  refine wc_ite (fun _ => rfl) (fun _ => ?_)
  refine wc_ite (fun _ => rfl) (fun _ => ?_)
  refine wc_ite (fun _ => rfl) (fun _ => ?_)
  refine wc_ite (fun _ => by simp only [wc_st_ne (show q - 55 ≠ i by omega)]) (fun _ => ?_)
  refine wc_ite (fun _ => rfl) (fun _ => ?_)
  refine wc_ite (fun _ => rfl) (fun _ => ?_)
  refine wc_ite (fun _ => rfl) (fun _ => ?_)
  refine wc_ite (fun _ => rfl) (fun _ => ?_)
  refine wc_ite (fun _ => rfl) (fun _ => ?_)
  refine wc_ite (fun _ => rfl) (fun _ => ?_)
  refine wc_ite (fun _ => rfl) (fun _ => ?_)
  refine wc_ite (fun _ => rfl) (fun _ => ?_)
  refine wc_ite (fun _ => rfl) (fun _ => ?_)
  refine wc_ite (fun _ => rfl) (fun _ => ?_)
  refine wc_ite (fun _ => rfl) (fun _ => ?_)
  refine wc_ite (fun _ => rfl) (fun _ => ?_)
  refine wc_ite (fun _ => rfl) (fun _ => ?_)
  refine wc_ite (fun _ => rfl) (fun _ => ?_)
  refine wc_ite (fun _ => rfl) (fun _ => ?_)
  refine wc_ite (fun _ => rfl) (fun _ => ?_)
  refine wc_ite (fun _ => rfl) (fun _ => ?_)
  refine wc_ite (fun _ => rfl) (fun _ => ?_)
  refine wc_ite (fun _ => rfl) (fun _ => ?_)
  refine wc_ite (fun _ => rfl) (fun _ => ?_)
  refine wc_ite (fun _ => rfl) (fun _ => ?_)
  rfl
theorem wc_o_ORD {Γ : wc_G} {σ μ : wc_St} {i : Nat} {j q : Nat} {x : Int32} (h : q ≠ 55 + i) : wc_cell Γ (wc_st σ 21 i j x) μ q = wc_cell Γ σ μ q := by
  unfold wc_cell
  refine wc_ite (fun _ => rfl) (fun _ => ?_)
  refine wc_ite (fun _ => rfl) (fun _ => ?_)
  refine wc_ite (fun _ => rfl) (fun _ => ?_)
  refine wc_ite (fun _ => rfl) (fun _ => ?_)
  refine wc_ite (fun _ => rfl) (fun _ => ?_)
  refine wc_ite (fun _ => rfl) (fun _ => ?_)
  refine wc_ite (fun _ => rfl) (fun _ => ?_)
  refine wc_ite (fun _ => rfl) (fun _ => ?_)
  refine wc_ite (fun _ => rfl) (fun _ => ?_)
  refine wc_ite (fun _ => rfl) (fun _ => ?_)
  refine wc_ite (fun _ => rfl) (fun _ => ?_)
  refine wc_ite (fun _ => rfl) (fun _ => ?_)
  refine wc_ite (fun _ => rfl) (fun _ => ?_)
  refine wc_ite (fun _ => by simp only [wc_st_ne (show q - 55 ≠ i by omega)]) (fun _ => ?_)
  refine wc_ite (fun _ => rfl) (fun _ => ?_)
  refine wc_ite (fun _ => rfl) (fun _ => ?_)
  refine wc_ite (fun _ => rfl) (fun _ => ?_)
  refine wc_ite (fun _ => rfl) (fun _ => ?_)
  refine wc_ite (fun _ => rfl) (fun _ => ?_)
  refine wc_ite (fun _ => rfl) (fun _ => ?_)
  refine wc_ite (fun _ => rfl) (fun _ => ?_)
  refine wc_ite (fun _ => rfl) (fun _ => ?_)
  refine wc_ite (fun _ => rfl) (fun _ => ?_)
  refine wc_ite (fun _ => rfl) (fun _ => ?_)
  refine wc_ite (fun _ => rfl) (fun _ => ?_)
  refine wc_ite (fun _ => rfl) (fun _ => ?_)
  refine wc_ite (fun _ => rfl) (fun _ => ?_)
  refine wc_ite (fun _ => rfl) (fun _ => ?_)
  refine wc_ite (fun _ => rfl) (fun _ => ?_)
  refine wc_ite (fun _ => rfl) (fun _ => ?_)
  refine wc_ite (fun _ => rfl) (fun _ => ?_)
  refine wc_ite (fun _ => rfl) (fun _ => ?_)
  refine wc_ite (fun _ => rfl) (fun _ => ?_)
  refine wc_ite (fun _ => rfl) (fun _ => ?_)
  refine wc_ite (fun _ => rfl) (fun _ => ?_)
  rfl
theorem wc_o_RE {Γ : wc_G} {σ μ : wc_St} {j q : Nat} {x : Int32} (h : q ≠ 70) : wc_cell Γ σ (wc_st μ 30 0 j x) q = wc_cell Γ σ μ q := by
  unfold wc_cell
  refine wc_ite (fun _ => rfl) (fun _ => ?_)
  refine wc_ite (fun _ => rfl) (fun _ => ?_)
  refine wc_ite (fun _ => rfl) (fun _ => ?_)
  refine wc_ite (fun _ => rfl) (fun _ => ?_)
  refine wc_ite (fun _ => rfl) (fun _ => ?_)
  refine wc_ite (fun _ => rfl) (fun _ => ?_)
  refine wc_ite (fun _ => rfl) (fun _ => ?_)
  refine wc_ite (fun _ => rfl) (fun _ => ?_)
  refine wc_ite (fun _ => rfl) (fun _ => ?_)
  refine wc_ite (fun _ => rfl) (fun _ => ?_)
  refine wc_ite (fun _ => rfl) (fun _ => ?_)
  refine wc_ite (fun _ => rfl) (fun _ => ?_)
  refine wc_ite (fun _ => rfl) (fun _ => ?_)
  refine wc_ite (fun _ => rfl) (fun _ => ?_)
  refine wc_ite (fun _ => False.elim (by omega)) (fun _ => ?_)
  refine wc_ite (fun _ => rfl) (fun _ => ?_)
  refine wc_ite (fun _ => rfl) (fun _ => ?_)
  refine wc_ite (fun _ => rfl) (fun _ => ?_)
  refine wc_ite (fun _ => rfl) (fun _ => ?_)
  refine wc_ite (fun _ => rfl) (fun _ => ?_)
  refine wc_ite (fun _ => rfl) (fun _ => ?_)
  refine wc_ite (fun _ => rfl) (fun _ => ?_)
  refine wc_ite (fun _ => rfl) (fun _ => ?_)
  refine wc_ite (fun _ => rfl) (fun _ => ?_)
  refine wc_ite (fun _ => rfl) (fun _ => ?_)
  refine wc_ite (fun _ => rfl) (fun _ => ?_)
  refine wc_ite (fun _ => rfl) (fun _ => ?_)
  refine wc_ite (fun _ => rfl) (fun _ => ?_)
  refine wc_ite (fun _ => rfl) (fun _ => ?_)
  refine wc_ite (fun _ => rfl) (fun _ => ?_)
  refine wc_ite (fun _ => rfl) (fun _ => ?_)
  refine wc_ite (fun _ => rfl) (fun _ => ?_)
  refine wc_ite (fun _ => rfl) (fun _ => ?_)
  refine wc_ite (fun _ => rfl) (fun _ => ?_)
  refine wc_ite (fun _ => rfl) (fun _ => ?_)
  rfl
theorem wc_o_NOW {Γ : wc_G} {σ μ : wc_St} {j q : Nat} {x : Int32} (h : q ≠ 70) : wc_cell Γ σ (wc_st μ 31 0 j x) q = wc_cell Γ σ μ q := by
  unfold wc_cell
  refine wc_ite (fun _ => rfl) (fun _ => ?_)
  refine wc_ite (fun _ => rfl) (fun _ => ?_)
  refine wc_ite (fun _ => rfl) (fun _ => ?_)
  refine wc_ite (fun _ => rfl) (fun _ => ?_)
  refine wc_ite (fun _ => rfl) (fun _ => ?_)
  refine wc_ite (fun _ => rfl) (fun _ => ?_)
  refine wc_ite (fun _ => rfl) (fun _ => ?_)
  refine wc_ite (fun _ => rfl) (fun _ => ?_)
  refine wc_ite (fun _ => rfl) (fun _ => ?_)
  refine wc_ite (fun _ => rfl) (fun _ => ?_)
  refine wc_ite (fun _ => rfl) (fun _ => ?_)
  refine wc_ite (fun _ => rfl) (fun _ => ?_)
  refine wc_ite (fun _ => rfl) (fun _ => ?_)
  refine wc_ite (fun _ => rfl) (fun _ => ?_)
  refine wc_ite (fun _ => False.elim (by omega)) (fun _ => ?_)
  refine wc_ite (fun _ => rfl) (fun _ => ?_)
  refine wc_ite (fun _ => rfl) (fun _ => ?_)
  refine wc_ite (fun _ => rfl) (fun _ => ?_)
  refine wc_ite (fun _ => rfl) (fun _ => ?_)
  refine wc_ite (fun _ => rfl) (fun _ => ?_)
  refine wc_ite (fun _ => rfl) (fun _ => ?_)
  refine wc_ite (fun _ => rfl) (fun _ => ?_)
  refine wc_ite (fun _ => rfl) (fun _ => ?_)
  refine wc_ite (fun _ => rfl) (fun _ => ?_)
  refine wc_ite (fun _ => rfl) (fun _ => ?_)
  refine wc_ite (fun _ => rfl) (fun _ => ?_)
  refine wc_ite (fun _ => rfl) (fun _ => ?_)
  refine wc_ite (fun _ => rfl) (fun _ => ?_)
  refine wc_ite (fun _ => rfl) (fun _ => ?_)
  refine wc_ite (fun _ => rfl) (fun _ => ?_)
  refine wc_ite (fun _ => rfl) (fun _ => ?_)
  refine wc_ite (fun _ => rfl) (fun _ => ?_)
  refine wc_ite (fun _ => rfl) (fun _ => ?_)
  refine wc_ite (fun _ => rfl) (fun _ => ?_)
  refine wc_ite (fun _ => rfl) (fun _ => ?_)
  rfl
theorem wc_o_VERS {Γ : wc_G} {σ μ : wc_St} {j q : Nat} {x : Int32} (h : q ≠ 70) : wc_cell Γ σ (wc_st μ 37 0 j x) q = wc_cell Γ σ μ q := by
  unfold wc_cell
  refine wc_ite (fun _ => rfl) (fun _ => ?_)
  refine wc_ite (fun _ => rfl) (fun _ => ?_)
  refine wc_ite (fun _ => rfl) (fun _ => ?_)
  refine wc_ite (fun _ => rfl) (fun _ => ?_)
  refine wc_ite (fun _ => rfl) (fun _ => ?_)
  refine wc_ite (fun _ => rfl) (fun _ => ?_)
  refine wc_ite (fun _ => rfl) (fun _ => ?_)
  refine wc_ite (fun _ => rfl) (fun _ => ?_)
  refine wc_ite (fun _ => rfl) (fun _ => ?_)
  refine wc_ite (fun _ => rfl) (fun _ => ?_)
  refine wc_ite (fun _ => rfl) (fun _ => ?_)
  refine wc_ite (fun _ => rfl) (fun _ => ?_)
  refine wc_ite (fun _ => rfl) (fun _ => ?_)
  refine wc_ite (fun _ => rfl) (fun _ => ?_)
  refine wc_ite (fun _ => False.elim (by omega)) (fun _ => ?_)
  refine wc_ite (fun _ => rfl) (fun _ => ?_)
  refine wc_ite (fun _ => rfl) (fun _ => ?_)
  refine wc_ite (fun _ => rfl) (fun _ => ?_)
  refine wc_ite (fun _ => rfl) (fun _ => ?_)
  refine wc_ite (fun _ => rfl) (fun _ => ?_)
  refine wc_ite (fun _ => rfl) (fun _ => ?_)
  refine wc_ite (fun _ => rfl) (fun _ => ?_)
  refine wc_ite (fun _ => rfl) (fun _ => ?_)
  refine wc_ite (fun _ => rfl) (fun _ => ?_)
  refine wc_ite (fun _ => rfl) (fun _ => ?_)
  refine wc_ite (fun _ => rfl) (fun _ => ?_)
  refine wc_ite (fun _ => rfl) (fun _ => ?_)
  refine wc_ite (fun _ => rfl) (fun _ => ?_)
  refine wc_ite (fun _ => rfl) (fun _ => ?_)
  refine wc_ite (fun _ => rfl) (fun _ => ?_)
  refine wc_ite (fun _ => rfl) (fun _ => ?_)
  refine wc_ite (fun _ => rfl) (fun _ => ?_)
  refine wc_ite (fun _ => rfl) (fun _ => ?_)
  refine wc_ite (fun _ => rfl) (fun _ => ?_)
  refine wc_ite (fun _ => rfl) (fun _ => ?_)
  rfl
theorem wc_o_RBEG {Γ : wc_G} {σ μ : wc_St} {j q : Nat} {x : Int32} (h : q ≠ 70) : wc_cell Γ σ (wc_st μ 41 0 j x) q = wc_cell Γ σ μ q := by
  unfold wc_cell
  refine wc_ite (fun _ => rfl) (fun _ => ?_)
  refine wc_ite (fun _ => rfl) (fun _ => ?_)
  refine wc_ite (fun _ => rfl) (fun _ => ?_)
  refine wc_ite (fun _ => rfl) (fun _ => ?_)
  refine wc_ite (fun _ => rfl) (fun _ => ?_)
  refine wc_ite (fun _ => rfl) (fun _ => ?_)
  refine wc_ite (fun _ => rfl) (fun _ => ?_)
  refine wc_ite (fun _ => rfl) (fun _ => ?_)
  refine wc_ite (fun _ => rfl) (fun _ => ?_)
  refine wc_ite (fun _ => rfl) (fun _ => ?_)
  refine wc_ite (fun _ => rfl) (fun _ => ?_)
  refine wc_ite (fun _ => rfl) (fun _ => ?_)
  refine wc_ite (fun _ => rfl) (fun _ => ?_)
  refine wc_ite (fun _ => rfl) (fun _ => ?_)
  refine wc_ite (fun _ => False.elim (by omega)) (fun _ => ?_)
  refine wc_ite (fun _ => rfl) (fun _ => ?_)
  refine wc_ite (fun _ => rfl) (fun _ => ?_)
  refine wc_ite (fun _ => rfl) (fun _ => ?_)
  refine wc_ite (fun _ => rfl) (fun _ => ?_)
  refine wc_ite (fun _ => rfl) (fun _ => ?_)
  refine wc_ite (fun _ => rfl) (fun _ => ?_)
  refine wc_ite (fun _ => rfl) (fun _ => ?_)
  refine wc_ite (fun _ => rfl) (fun _ => ?_)
  refine wc_ite (fun _ => rfl) (fun _ => ?_)
  refine wc_ite (fun _ => rfl) (fun _ => ?_)
  refine wc_ite (fun _ => rfl) (fun _ => ?_)
  refine wc_ite (fun _ => rfl) (fun _ => ?_)
  refine wc_ite (fun _ => rfl) (fun _ => ?_)
  refine wc_ite (fun _ => rfl) (fun _ => ?_)
  refine wc_ite (fun _ => rfl) (fun _ => ?_)
  refine wc_ite (fun _ => rfl) (fun _ => ?_)
  refine wc_ite (fun _ => rfl) (fun _ => ?_)
  refine wc_ite (fun _ => rfl) (fun _ => ?_)
  refine wc_ite (fun _ => rfl) (fun _ => ?_)
  refine wc_ite (fun _ => rfl) (fun _ => ?_)
  rfl
theorem wc_o_RSENT {Γ : wc_G} {σ μ : wc_St} {j q : Nat} {x : Int32} (h : q ≠ 70) : wc_cell Γ σ (wc_st μ 52 0 j x) q = wc_cell Γ σ μ q := by
  unfold wc_cell
  refine wc_ite (fun _ => rfl) (fun _ => ?_)
  refine wc_ite (fun _ => rfl) (fun _ => ?_)
  refine wc_ite (fun _ => rfl) (fun _ => ?_)
  refine wc_ite (fun _ => rfl) (fun _ => ?_)
  refine wc_ite (fun _ => rfl) (fun _ => ?_)
  refine wc_ite (fun _ => rfl) (fun _ => ?_)
  refine wc_ite (fun _ => rfl) (fun _ => ?_)
  refine wc_ite (fun _ => rfl) (fun _ => ?_)
  refine wc_ite (fun _ => rfl) (fun _ => ?_)
  refine wc_ite (fun _ => rfl) (fun _ => ?_)
  refine wc_ite (fun _ => rfl) (fun _ => ?_)
  refine wc_ite (fun _ => rfl) (fun _ => ?_)
  refine wc_ite (fun _ => rfl) (fun _ => ?_)
  refine wc_ite (fun _ => rfl) (fun _ => ?_)
  refine wc_ite (fun _ => False.elim (by omega)) (fun _ => ?_)
  refine wc_ite (fun _ => rfl) (fun _ => ?_)
  refine wc_ite (fun _ => rfl) (fun _ => ?_)
  refine wc_ite (fun _ => rfl) (fun _ => ?_)
  refine wc_ite (fun _ => rfl) (fun _ => ?_)
  refine wc_ite (fun _ => rfl) (fun _ => ?_)
  refine wc_ite (fun _ => rfl) (fun _ => ?_)
  refine wc_ite (fun _ => rfl) (fun _ => ?_)
  refine wc_ite (fun _ => rfl) (fun _ => ?_)
  refine wc_ite (fun _ => rfl) (fun _ => ?_)
  refine wc_ite (fun _ => rfl) (fun _ => ?_)
  refine wc_ite (fun _ => rfl) (fun _ => ?_)
  refine wc_ite (fun _ => rfl) (fun _ => ?_)
  refine wc_ite (fun _ => rfl) (fun _ => ?_)
  refine wc_ite (fun _ => rfl) (fun _ => ?_)
  refine wc_ite (fun _ => rfl) (fun _ => ?_)
  refine wc_ite (fun _ => rfl) (fun _ => ?_)
  refine wc_ite (fun _ => rfl) (fun _ => ?_)
  refine wc_ite (fun _ => rfl) (fun _ => ?_)
  refine wc_ite (fun _ => rfl) (fun _ => ?_)
  refine wc_ite (fun _ => rfl) (fun _ => ?_)
  rfl
theorem wc_o_EARLY {Γ : wc_G} {σ μ : wc_St} {j q : Nat} {x : Int32} (h : q ≠ 71) : wc_cell Γ σ (wc_st μ 32 0 j x) q = wc_cell Γ σ μ q := by
  unfold wc_cell
  refine wc_ite (fun _ => rfl) (fun _ => ?_)
  refine wc_ite (fun _ => rfl) (fun _ => ?_)
  refine wc_ite (fun _ => rfl) (fun _ => ?_)
  refine wc_ite (fun _ => rfl) (fun _ => ?_)
  refine wc_ite (fun _ => rfl) (fun _ => ?_)
  refine wc_ite (fun _ => rfl) (fun _ => ?_)
  refine wc_ite (fun _ => rfl) (fun _ => ?_)
  refine wc_ite (fun _ => rfl) (fun _ => ?_)
  refine wc_ite (fun _ => rfl) (fun _ => ?_)
  refine wc_ite (fun _ => rfl) (fun _ => ?_)
  refine wc_ite (fun _ => rfl) (fun _ => ?_)
  refine wc_ite (fun _ => rfl) (fun _ => ?_)
  refine wc_ite (fun _ => rfl) (fun _ => ?_)
  refine wc_ite (fun _ => rfl) (fun _ => ?_)
  refine wc_ite (fun _ => rfl) (fun _ => ?_)
  refine wc_ite (fun _ => False.elim (by omega)) (fun _ => ?_)
  refine wc_ite (fun _ => rfl) (fun _ => ?_)
  refine wc_ite (fun _ => rfl) (fun _ => ?_)
  refine wc_ite (fun _ => rfl) (fun _ => ?_)
  refine wc_ite (fun _ => rfl) (fun _ => ?_)
  refine wc_ite (fun _ => rfl) (fun _ => ?_)
  refine wc_ite (fun _ => rfl) (fun _ => ?_)
  refine wc_ite (fun _ => rfl) (fun _ => ?_)
  refine wc_ite (fun _ => rfl) (fun _ => ?_)
  refine wc_ite (fun _ => rfl) (fun _ => ?_)
  refine wc_ite (fun _ => rfl) (fun _ => ?_)
  refine wc_ite (fun _ => rfl) (fun _ => ?_)
  refine wc_ite (fun _ => rfl) (fun _ => ?_)
  refine wc_ite (fun _ => rfl) (fun _ => ?_)
  refine wc_ite (fun _ => rfl) (fun _ => ?_)
  refine wc_ite (fun _ => rfl) (fun _ => ?_)
  refine wc_ite (fun _ => rfl) (fun _ => ?_)
  refine wc_ite (fun _ => rfl) (fun _ => ?_)
  refine wc_ite (fun _ => rfl) (fun _ => ?_)
  refine wc_ite (fun _ => rfl) (fun _ => ?_)
  rfl
theorem wc_o_LATE {Γ : wc_G} {σ μ : wc_St} {j q : Nat} {x : Int32} (h : q ≠ 72) : wc_cell Γ σ (wc_st μ 33 0 j x) q = wc_cell Γ σ μ q := by
  unfold wc_cell
  refine wc_ite (fun _ => rfl) (fun _ => ?_)
  refine wc_ite (fun _ => rfl) (fun _ => ?_)
  refine wc_ite (fun _ => rfl) (fun _ => ?_)
  refine wc_ite (fun _ => rfl) (fun _ => ?_)
  refine wc_ite (fun _ => rfl) (fun _ => ?_)
  refine wc_ite (fun _ => rfl) (fun _ => ?_)
  refine wc_ite (fun _ => rfl) (fun _ => ?_)
  refine wc_ite (fun _ => rfl) (fun _ => ?_)
  refine wc_ite (fun _ => rfl) (fun _ => ?_)
  refine wc_ite (fun _ => rfl) (fun _ => ?_)
  refine wc_ite (fun _ => rfl) (fun _ => ?_)
  refine wc_ite (fun _ => rfl) (fun _ => ?_)
  refine wc_ite (fun _ => rfl) (fun _ => ?_)
  refine wc_ite (fun _ => rfl) (fun _ => ?_)
  refine wc_ite (fun _ => rfl) (fun _ => ?_)
  refine wc_ite (fun _ => rfl) (fun _ => ?_)
  refine wc_ite (fun _ => False.elim (by omega)) (fun _ => ?_)
  refine wc_ite (fun _ => rfl) (fun _ => ?_)
  refine wc_ite (fun _ => rfl) (fun _ => ?_)
  refine wc_ite (fun _ => rfl) (fun _ => ?_)
  refine wc_ite (fun _ => rfl) (fun _ => ?_)
  refine wc_ite (fun _ => rfl) (fun _ => ?_)
  refine wc_ite (fun _ => rfl) (fun _ => ?_)
  refine wc_ite (fun _ => rfl) (fun _ => ?_)
  refine wc_ite (fun _ => rfl) (fun _ => ?_)
  refine wc_ite (fun _ => rfl) (fun _ => ?_)
  refine wc_ite (fun _ => rfl) (fun _ => ?_)
  refine wc_ite (fun _ => rfl) (fun _ => ?_)
  refine wc_ite (fun _ => rfl) (fun _ => ?_)
  refine wc_ite (fun _ => rfl) (fun _ => ?_)
  refine wc_ite (fun _ => rfl) (fun _ => ?_)
  refine wc_ite (fun _ => rfl) (fun _ => ?_)
  refine wc_ite (fun _ => rfl) (fun _ => ?_)
  refine wc_ite (fun _ => rfl) (fun _ => ?_)
  refine wc_ite (fun _ => rfl) (fun _ => ?_)
  rfl
theorem wc_o_SLOW {Γ : wc_G} {σ μ : wc_St} {j q : Nat} {x : Int32} (h : q ≠ 73) : wc_cell Γ σ (wc_st μ 34 0 j x) q = wc_cell Γ σ μ q := by
  unfold wc_cell
  refine wc_ite (fun _ => rfl) (fun _ => ?_)
  refine wc_ite (fun _ => rfl) (fun _ => ?_)
  refine wc_ite (fun _ => rfl) (fun _ => ?_)
  refine wc_ite (fun _ => rfl) (fun _ => ?_)
  refine wc_ite (fun _ => rfl) (fun _ => ?_)
  refine wc_ite (fun _ => rfl) (fun _ => ?_)
  refine wc_ite (fun _ => rfl) (fun _ => ?_)
  refine wc_ite (fun _ => rfl) (fun _ => ?_)
  refine wc_ite (fun _ => rfl) (fun _ => ?_)
  refine wc_ite (fun _ => rfl) (fun _ => ?_)
  refine wc_ite (fun _ => rfl) (fun _ => ?_)
  refine wc_ite (fun _ => rfl) (fun _ => ?_)
  refine wc_ite (fun _ => rfl) (fun _ => ?_)
  refine wc_ite (fun _ => rfl) (fun _ => ?_)
  refine wc_ite (fun _ => rfl) (fun _ => ?_)
  refine wc_ite (fun _ => rfl) (fun _ => ?_)
  refine wc_ite (fun _ => rfl) (fun _ => ?_)
  refine wc_ite (fun _ => False.elim (by omega)) (fun _ => ?_)
  refine wc_ite (fun _ => rfl) (fun _ => ?_)
  refine wc_ite (fun _ => rfl) (fun _ => ?_)
  refine wc_ite (fun _ => rfl) (fun _ => ?_)
  refine wc_ite (fun _ => rfl) (fun _ => ?_)
  refine wc_ite (fun _ => rfl) (fun _ => ?_)
  refine wc_ite (fun _ => rfl) (fun _ => ?_)
  refine wc_ite (fun _ => rfl) (fun _ => ?_)
  refine wc_ite (fun _ => rfl) (fun _ => ?_)
  refine wc_ite (fun _ => rfl) (fun _ => ?_)
  refine wc_ite (fun _ => rfl) (fun _ => ?_)
  refine wc_ite (fun _ => rfl) (fun _ => ?_)
  refine wc_ite (fun _ => rfl) (fun _ => ?_)
  refine wc_ite (fun _ => rfl) (fun _ => ?_)
  refine wc_ite (fun _ => rfl) (fun _ => ?_)
  refine wc_ite (fun _ => rfl) (fun _ => ?_)
  refine wc_ite (fun _ => rfl) (fun _ => ?_)
  refine wc_ite (fun _ => rfl) (fun _ => ?_)
  rfl
theorem wc_o_DOWN {Γ : wc_G} {σ μ : wc_St} {j q : Nat} {x : Int32} (h : q ≠ 74) : wc_cell Γ σ (wc_st μ 35 0 j x) q = wc_cell Γ σ μ q := by
  unfold wc_cell
  refine wc_ite (fun _ => rfl) (fun _ => ?_)
  refine wc_ite (fun _ => rfl) (fun _ => ?_)
  refine wc_ite (fun _ => rfl) (fun _ => ?_)
  refine wc_ite (fun _ => rfl) (fun _ => ?_)
  refine wc_ite (fun _ => rfl) (fun _ => ?_)
  refine wc_ite (fun _ => rfl) (fun _ => ?_)
  refine wc_ite (fun _ => rfl) (fun _ => ?_)
  refine wc_ite (fun _ => rfl) (fun _ => ?_)
  refine wc_ite (fun _ => rfl) (fun _ => ?_)
  refine wc_ite (fun _ => rfl) (fun _ => ?_)
  refine wc_ite (fun _ => rfl) (fun _ => ?_)
  refine wc_ite (fun _ => rfl) (fun _ => ?_)
  refine wc_ite (fun _ => rfl) (fun _ => ?_)
  refine wc_ite (fun _ => rfl) (fun _ => ?_)
  refine wc_ite (fun _ => rfl) (fun _ => ?_)
  refine wc_ite (fun _ => rfl) (fun _ => ?_)
  refine wc_ite (fun _ => rfl) (fun _ => ?_)
  refine wc_ite (fun _ => rfl) (fun _ => ?_)
  refine wc_ite (fun _ => False.elim (by omega)) (fun _ => ?_)
  refine wc_ite (fun _ => rfl) (fun _ => ?_)
  refine wc_ite (fun _ => rfl) (fun _ => ?_)
  refine wc_ite (fun _ => rfl) (fun _ => ?_)
  refine wc_ite (fun _ => rfl) (fun _ => ?_)
  refine wc_ite (fun _ => rfl) (fun _ => ?_)
  refine wc_ite (fun _ => rfl) (fun _ => ?_)
  refine wc_ite (fun _ => rfl) (fun _ => ?_)
  refine wc_ite (fun _ => rfl) (fun _ => ?_)
  refine wc_ite (fun _ => rfl) (fun _ => ?_)
  refine wc_ite (fun _ => rfl) (fun _ => ?_)
  refine wc_ite (fun _ => rfl) (fun _ => ?_)
  refine wc_ite (fun _ => rfl) (fun _ => ?_)
  refine wc_ite (fun _ => rfl) (fun _ => ?_)
  refine wc_ite (fun _ => rfl) (fun _ => ?_)
  refine wc_ite (fun _ => rfl) (fun _ => ?_)
  refine wc_ite (fun _ => rfl) (fun _ => ?_)
  rfl
theorem wc_o_RBND {Γ : wc_G} {σ μ : wc_St} {j q : Nat} {x : Int32} (h : q ≠ 75) : wc_cell Γ σ (wc_st μ 36 0 j x) q = wc_cell Γ σ μ q := by
  unfold wc_cell
  refine wc_ite (fun _ => rfl) (fun _ => ?_)
  refine wc_ite (fun _ => rfl) (fun _ => ?_)
  refine wc_ite (fun _ => rfl) (fun _ => ?_)
  refine wc_ite (fun _ => rfl) (fun _ => ?_)
  refine wc_ite (fun _ => rfl) (fun _ => ?_)
  refine wc_ite (fun _ => rfl) (fun _ => ?_)
  refine wc_ite (fun _ => rfl) (fun _ => ?_)
  refine wc_ite (fun _ => rfl) (fun _ => ?_)
  refine wc_ite (fun _ => rfl) (fun _ => ?_)
  refine wc_ite (fun _ => rfl) (fun _ => ?_)
  refine wc_ite (fun _ => rfl) (fun _ => ?_)
  refine wc_ite (fun _ => rfl) (fun _ => ?_)
  refine wc_ite (fun _ => rfl) (fun _ => ?_)
  refine wc_ite (fun _ => rfl) (fun _ => ?_)
  refine wc_ite (fun _ => rfl) (fun _ => ?_)
  refine wc_ite (fun _ => rfl) (fun _ => ?_)
  refine wc_ite (fun _ => rfl) (fun _ => ?_)
  refine wc_ite (fun _ => rfl) (fun _ => ?_)
  refine wc_ite (fun _ => rfl) (fun _ => ?_)
  refine wc_ite (fun _ => False.elim (by omega)) (fun _ => ?_)
  refine wc_ite (fun _ => rfl) (fun _ => ?_)
  refine wc_ite (fun _ => rfl) (fun _ => ?_)
  refine wc_ite (fun _ => rfl) (fun _ => ?_)
  refine wc_ite (fun _ => rfl) (fun _ => ?_)
  refine wc_ite (fun _ => rfl) (fun _ => ?_)
  refine wc_ite (fun _ => rfl) (fun _ => ?_)
  refine wc_ite (fun _ => rfl) (fun _ => ?_)
  refine wc_ite (fun _ => rfl) (fun _ => ?_)
  refine wc_ite (fun _ => rfl) (fun _ => ?_)
  refine wc_ite (fun _ => rfl) (fun _ => ?_)
  refine wc_ite (fun _ => rfl) (fun _ => ?_)
  refine wc_ite (fun _ => rfl) (fun _ => ?_)
  refine wc_ite (fun _ => rfl) (fun _ => ?_)
  refine wc_ite (fun _ => rfl) (fun _ => ?_)
  refine wc_ite (fun _ => rfl) (fun _ => ?_)
  rfl
theorem wc_o_VKEY {Γ : wc_G} {σ μ : wc_St} {j q : Nat} {x : Int32} (h : q ≠ 76) : wc_cell Γ σ (wc_st μ 38 0 j x) q = wc_cell Γ σ μ q := by
  unfold wc_cell
  refine wc_ite (fun _ => rfl) (fun _ => ?_)
  refine wc_ite (fun _ => rfl) (fun _ => ?_)
  refine wc_ite (fun _ => rfl) (fun _ => ?_)
  refine wc_ite (fun _ => rfl) (fun _ => ?_)
  refine wc_ite (fun _ => rfl) (fun _ => ?_)
  refine wc_ite (fun _ => rfl) (fun _ => ?_)
  refine wc_ite (fun _ => rfl) (fun _ => ?_)
  refine wc_ite (fun _ => rfl) (fun _ => ?_)
  refine wc_ite (fun _ => rfl) (fun _ => ?_)
  refine wc_ite (fun _ => rfl) (fun _ => ?_)
  refine wc_ite (fun _ => rfl) (fun _ => ?_)
  refine wc_ite (fun _ => rfl) (fun _ => ?_)
  refine wc_ite (fun _ => rfl) (fun _ => ?_)
  refine wc_ite (fun _ => rfl) (fun _ => ?_)
  refine wc_ite (fun _ => rfl) (fun _ => ?_)
  refine wc_ite (fun _ => rfl) (fun _ => ?_)
  refine wc_ite (fun _ => rfl) (fun _ => ?_)
  refine wc_ite (fun _ => rfl) (fun _ => ?_)
  refine wc_ite (fun _ => rfl) (fun _ => ?_)
  refine wc_ite (fun _ => rfl) (fun _ => ?_)
  refine wc_ite (fun _ => False.elim (by omega)) (fun _ => ?_)
  refine wc_ite (fun _ => rfl) (fun _ => ?_)
  refine wc_ite (fun _ => rfl) (fun _ => ?_)
  refine wc_ite (fun _ => rfl) (fun _ => ?_)
  refine wc_ite (fun _ => rfl) (fun _ => ?_)
  refine wc_ite (fun _ => rfl) (fun _ => ?_)
  refine wc_ite (fun _ => rfl) (fun _ => ?_)
  refine wc_ite (fun _ => rfl) (fun _ => ?_)
  refine wc_ite (fun _ => rfl) (fun _ => ?_)
  refine wc_ite (fun _ => rfl) (fun _ => ?_)
  refine wc_ite (fun _ => rfl) (fun _ => ?_)
  refine wc_ite (fun _ => rfl) (fun _ => ?_)
  refine wc_ite (fun _ => rfl) (fun _ => ?_)
  refine wc_ite (fun _ => rfl) (fun _ => ?_)
  refine wc_ite (fun _ => rfl) (fun _ => ?_)
  rfl
theorem wc_o_VSTP {Γ : wc_G} {σ μ : wc_St} {j q : Nat} {x : Int32} (h : q ≠ 77) : wc_cell Γ σ (wc_st μ 39 0 j x) q = wc_cell Γ σ μ q := by
  unfold wc_cell
  refine wc_ite (fun _ => rfl) (fun _ => ?_)
  refine wc_ite (fun _ => rfl) (fun _ => ?_)
  refine wc_ite (fun _ => rfl) (fun _ => ?_)
  refine wc_ite (fun _ => rfl) (fun _ => ?_)
  refine wc_ite (fun _ => rfl) (fun _ => ?_)
  refine wc_ite (fun _ => rfl) (fun _ => ?_)
  refine wc_ite (fun _ => rfl) (fun _ => ?_)
  refine wc_ite (fun _ => rfl) (fun _ => ?_)
  refine wc_ite (fun _ => rfl) (fun _ => ?_)
  refine wc_ite (fun _ => rfl) (fun _ => ?_)
  refine wc_ite (fun _ => rfl) (fun _ => ?_)
  refine wc_ite (fun _ => rfl) (fun _ => ?_)
  refine wc_ite (fun _ => rfl) (fun _ => ?_)
  refine wc_ite (fun _ => rfl) (fun _ => ?_)
  refine wc_ite (fun _ => rfl) (fun _ => ?_)
  refine wc_ite (fun _ => rfl) (fun _ => ?_)
  refine wc_ite (fun _ => rfl) (fun _ => ?_)
  refine wc_ite (fun _ => rfl) (fun _ => ?_)
  refine wc_ite (fun _ => rfl) (fun _ => ?_)
  refine wc_ite (fun _ => rfl) (fun _ => ?_)
  refine wc_ite (fun _ => rfl) (fun _ => ?_)
  refine wc_ite (fun _ => False.elim (by omega)) (fun _ => ?_)
  refine wc_ite (fun _ => rfl) (fun _ => ?_)
  refine wc_ite (fun _ => rfl) (fun _ => ?_)
  refine wc_ite (fun _ => rfl) (fun _ => ?_)
  refine wc_ite (fun _ => rfl) (fun _ => ?_)
  refine wc_ite (fun _ => rfl) (fun _ => ?_)
  refine wc_ite (fun _ => rfl) (fun _ => ?_)
  refine wc_ite (fun _ => rfl) (fun _ => ?_)
  refine wc_ite (fun _ => rfl) (fun _ => ?_)
  refine wc_ite (fun _ => rfl) (fun _ => ?_)
  refine wc_ite (fun _ => rfl) (fun _ => ?_)
  refine wc_ite (fun _ => rfl) (fun _ => ?_)
  refine wc_ite (fun _ => rfl) (fun _ => ?_)
  refine wc_ite (fun _ => rfl) (fun _ => ?_)
  rfl
theorem wc_o_VVAL {Γ : wc_G} {σ μ : wc_St} {j q : Nat} {x : Int32} (h : q ≠ 78) : wc_cell Γ σ (wc_st μ 40 0 j x) q = wc_cell Γ σ μ q := by
  unfold wc_cell
  refine wc_ite (fun _ => rfl) (fun _ => ?_)
  refine wc_ite (fun _ => rfl) (fun _ => ?_)
  refine wc_ite (fun _ => rfl) (fun _ => ?_)
  refine wc_ite (fun _ => rfl) (fun _ => ?_)
  refine wc_ite (fun _ => rfl) (fun _ => ?_)
  refine wc_ite (fun _ => rfl) (fun _ => ?_)
  refine wc_ite (fun _ => rfl) (fun _ => ?_)
  refine wc_ite (fun _ => rfl) (fun _ => ?_)
  refine wc_ite (fun _ => rfl) (fun _ => ?_)
  refine wc_ite (fun _ => rfl) (fun _ => ?_)
  refine wc_ite (fun _ => rfl) (fun _ => ?_)
  refine wc_ite (fun _ => rfl) (fun _ => ?_)
  refine wc_ite (fun _ => rfl) (fun _ => ?_)
  refine wc_ite (fun _ => rfl) (fun _ => ?_)
  refine wc_ite (fun _ => rfl) (fun _ => ?_)
  refine wc_ite (fun _ => rfl) (fun _ => ?_)
  refine wc_ite (fun _ => rfl) (fun _ => ?_)
  refine wc_ite (fun _ => rfl) (fun _ => ?_)
  refine wc_ite (fun _ => rfl) (fun _ => ?_)
  refine wc_ite (fun _ => rfl) (fun _ => ?_)
  refine wc_ite (fun _ => rfl) (fun _ => ?_)
  refine wc_ite (fun _ => rfl) (fun _ => ?_)
  refine wc_ite (fun _ => False.elim (by omega)) (fun _ => ?_)
  refine wc_ite (fun _ => rfl) (fun _ => ?_)
  refine wc_ite (fun _ => rfl) (fun _ => ?_)
  refine wc_ite (fun _ => rfl) (fun _ => ?_)
  refine wc_ite (fun _ => rfl) (fun _ => ?_)
  refine wc_ite (fun _ => rfl) (fun _ => ?_)
  refine wc_ite (fun _ => rfl) (fun _ => ?_)
  refine wc_ite (fun _ => rfl) (fun _ => ?_)
  refine wc_ite (fun _ => rfl) (fun _ => ?_)
  refine wc_ite (fun _ => rfl) (fun _ => ?_)
  refine wc_ite (fun _ => rfl) (fun _ => ?_)
  refine wc_ite (fun _ => rfl) (fun _ => ?_)
  refine wc_ite (fun _ => rfl) (fun _ => ?_)
  rfl
theorem wc_o_RSTA {Γ : wc_G} {σ μ : wc_St} {j q : Nat} {x : Int32} (h : q ≠ 79) : wc_cell Γ σ (wc_st μ 42 0 j x) q = wc_cell Γ σ μ q := by
  unfold wc_cell
  refine wc_ite (fun _ => rfl) (fun _ => ?_)
  refine wc_ite (fun _ => rfl) (fun _ => ?_)
  refine wc_ite (fun _ => rfl) (fun _ => ?_)
  refine wc_ite (fun _ => rfl) (fun _ => ?_)
  refine wc_ite (fun _ => rfl) (fun _ => ?_)
  refine wc_ite (fun _ => rfl) (fun _ => ?_)
  refine wc_ite (fun _ => rfl) (fun _ => ?_)
  refine wc_ite (fun _ => rfl) (fun _ => ?_)
  refine wc_ite (fun _ => rfl) (fun _ => ?_)
  refine wc_ite (fun _ => rfl) (fun _ => ?_)
  refine wc_ite (fun _ => rfl) (fun _ => ?_)
  refine wc_ite (fun _ => rfl) (fun _ => ?_)
  refine wc_ite (fun _ => rfl) (fun _ => ?_)
  refine wc_ite (fun _ => rfl) (fun _ => ?_)
  refine wc_ite (fun _ => rfl) (fun _ => ?_)
  refine wc_ite (fun _ => rfl) (fun _ => ?_)
  refine wc_ite (fun _ => rfl) (fun _ => ?_)
  refine wc_ite (fun _ => rfl) (fun _ => ?_)
  refine wc_ite (fun _ => rfl) (fun _ => ?_)
  refine wc_ite (fun _ => rfl) (fun _ => ?_)
  refine wc_ite (fun _ => rfl) (fun _ => ?_)
  refine wc_ite (fun _ => rfl) (fun _ => ?_)
  refine wc_ite (fun _ => rfl) (fun _ => ?_)
  refine wc_ite (fun _ => False.elim (by omega)) (fun _ => ?_)
  refine wc_ite (fun _ => rfl) (fun _ => ?_)
  refine wc_ite (fun _ => rfl) (fun _ => ?_)
  refine wc_ite (fun _ => rfl) (fun _ => ?_)
  refine wc_ite (fun _ => rfl) (fun _ => ?_)
  refine wc_ite (fun _ => rfl) (fun _ => ?_)
  refine wc_ite (fun _ => rfl) (fun _ => ?_)
  refine wc_ite (fun _ => rfl) (fun _ => ?_)
  refine wc_ite (fun _ => rfl) (fun _ => ?_)
  refine wc_ite (fun _ => rfl) (fun _ => ?_)
  refine wc_ite (fun _ => rfl) (fun _ => ?_)
  refine wc_ite (fun _ => rfl) (fun _ => ?_)
  rfl
theorem wc_o_AGE {Γ : wc_G} {σ μ : wc_St} {j q : Nat} {x : Int32} (h : q ≠ 80) : wc_cell Γ σ (wc_st μ 43 0 j x) q = wc_cell Γ σ μ q := by
  unfold wc_cell
  refine wc_ite (fun _ => rfl) (fun _ => ?_)
  refine wc_ite (fun _ => rfl) (fun _ => ?_)
  refine wc_ite (fun _ => rfl) (fun _ => ?_)
  refine wc_ite (fun _ => rfl) (fun _ => ?_)
  refine wc_ite (fun _ => rfl) (fun _ => ?_)
  refine wc_ite (fun _ => rfl) (fun _ => ?_)
  refine wc_ite (fun _ => rfl) (fun _ => ?_)
  refine wc_ite (fun _ => rfl) (fun _ => ?_)
  refine wc_ite (fun _ => rfl) (fun _ => ?_)
  refine wc_ite (fun _ => rfl) (fun _ => ?_)
  refine wc_ite (fun _ => rfl) (fun _ => ?_)
  refine wc_ite (fun _ => rfl) (fun _ => ?_)
  refine wc_ite (fun _ => rfl) (fun _ => ?_)
  refine wc_ite (fun _ => rfl) (fun _ => ?_)
  refine wc_ite (fun _ => rfl) (fun _ => ?_)
  refine wc_ite (fun _ => rfl) (fun _ => ?_)
  refine wc_ite (fun _ => rfl) (fun _ => ?_)
  refine wc_ite (fun _ => rfl) (fun _ => ?_)
  refine wc_ite (fun _ => rfl) (fun _ => ?_)
  refine wc_ite (fun _ => rfl) (fun _ => ?_)
  refine wc_ite (fun _ => rfl) (fun _ => ?_)
  refine wc_ite (fun _ => rfl) (fun _ => ?_)
  refine wc_ite (fun _ => rfl) (fun _ => ?_)
  refine wc_ite (fun _ => rfl) (fun _ => ?_)
  refine wc_ite (fun _ => False.elim (by omega)) (fun _ => ?_)
  refine wc_ite (fun _ => rfl) (fun _ => ?_)
  refine wc_ite (fun _ => rfl) (fun _ => ?_)
  refine wc_ite (fun _ => rfl) (fun _ => ?_)
  refine wc_ite (fun _ => rfl) (fun _ => ?_)
  refine wc_ite (fun _ => rfl) (fun _ => ?_)
  refine wc_ite (fun _ => rfl) (fun _ => ?_)
  refine wc_ite (fun _ => rfl) (fun _ => ?_)
  refine wc_ite (fun _ => rfl) (fun _ => ?_)
  refine wc_ite (fun _ => rfl) (fun _ => ?_)
  refine wc_ite (fun _ => rfl) (fun _ => ?_)
  rfl
theorem wc_o_RSTP {Γ : wc_G} {σ μ : wc_St} {j q : Nat} {x : Int32} (h : q ≠ 81) : wc_cell Γ σ (wc_st μ 44 0 j x) q = wc_cell Γ σ μ q := by
  unfold wc_cell
  refine wc_ite (fun _ => rfl) (fun _ => ?_)
  refine wc_ite (fun _ => rfl) (fun _ => ?_)
  refine wc_ite (fun _ => rfl) (fun _ => ?_)
  refine wc_ite (fun _ => rfl) (fun _ => ?_)
  refine wc_ite (fun _ => rfl) (fun _ => ?_)
  refine wc_ite (fun _ => rfl) (fun _ => ?_)
  refine wc_ite (fun _ => rfl) (fun _ => ?_)
  refine wc_ite (fun _ => rfl) (fun _ => ?_)
  refine wc_ite (fun _ => rfl) (fun _ => ?_)
  refine wc_ite (fun _ => rfl) (fun _ => ?_)
  refine wc_ite (fun _ => rfl) (fun _ => ?_)
  refine wc_ite (fun _ => rfl) (fun _ => ?_)
  refine wc_ite (fun _ => rfl) (fun _ => ?_)
  refine wc_ite (fun _ => rfl) (fun _ => ?_)
  refine wc_ite (fun _ => rfl) (fun _ => ?_)
  refine wc_ite (fun _ => rfl) (fun _ => ?_)
  refine wc_ite (fun _ => rfl) (fun _ => ?_)
  refine wc_ite (fun _ => rfl) (fun _ => ?_)
  refine wc_ite (fun _ => rfl) (fun _ => ?_)
  refine wc_ite (fun _ => rfl) (fun _ => ?_)
  refine wc_ite (fun _ => rfl) (fun _ => ?_)
  refine wc_ite (fun _ => rfl) (fun _ => ?_)
  refine wc_ite (fun _ => rfl) (fun _ => ?_)
  refine wc_ite (fun _ => rfl) (fun _ => ?_)
  refine wc_ite (fun _ => rfl) (fun _ => ?_)
  refine wc_ite (fun _ => False.elim (by omega)) (fun _ => ?_)
  refine wc_ite (fun _ => rfl) (fun _ => ?_)
  refine wc_ite (fun _ => rfl) (fun _ => ?_)
  refine wc_ite (fun _ => rfl) (fun _ => ?_)
  refine wc_ite (fun _ => rfl) (fun _ => ?_)
  refine wc_ite (fun _ => rfl) (fun _ => ?_)
  refine wc_ite (fun _ => rfl) (fun _ => ?_)
  refine wc_ite (fun _ => rfl) (fun _ => ?_)
  refine wc_ite (fun _ => rfl) (fun _ => ?_)
  refine wc_ite (fun _ => rfl) (fun _ => ?_)
  rfl
theorem wc_o_RFLR {Γ : wc_G} {σ μ : wc_St} {j q : Nat} {x : Int32} (h : q ≠ 82) : wc_cell Γ σ (wc_st μ 45 0 j x) q = wc_cell Γ σ μ q := by
  unfold wc_cell
  refine wc_ite (fun _ => rfl) (fun _ => ?_)
  refine wc_ite (fun _ => rfl) (fun _ => ?_)
  refine wc_ite (fun _ => rfl) (fun _ => ?_)
  refine wc_ite (fun _ => rfl) (fun _ => ?_)
  refine wc_ite (fun _ => rfl) (fun _ => ?_)
  refine wc_ite (fun _ => rfl) (fun _ => ?_)
  refine wc_ite (fun _ => rfl) (fun _ => ?_)
  refine wc_ite (fun _ => rfl) (fun _ => ?_)
  refine wc_ite (fun _ => rfl) (fun _ => ?_)
  refine wc_ite (fun _ => rfl) (fun _ => ?_)
  refine wc_ite (fun _ => rfl) (fun _ => ?_)
  refine wc_ite (fun _ => rfl) (fun _ => ?_)
  refine wc_ite (fun _ => rfl) (fun _ => ?_)
  refine wc_ite (fun _ => rfl) (fun _ => ?_)
  refine wc_ite (fun _ => rfl) (fun _ => ?_)
  refine wc_ite (fun _ => rfl) (fun _ => ?_)
  refine wc_ite (fun _ => rfl) (fun _ => ?_)
  refine wc_ite (fun _ => rfl) (fun _ => ?_)
  refine wc_ite (fun _ => rfl) (fun _ => ?_)
  refine wc_ite (fun _ => rfl) (fun _ => ?_)
  refine wc_ite (fun _ => rfl) (fun _ => ?_)
  refine wc_ite (fun _ => rfl) (fun _ => ?_)
  refine wc_ite (fun _ => rfl) (fun _ => ?_)
  refine wc_ite (fun _ => rfl) (fun _ => ?_)
  refine wc_ite (fun _ => rfl) (fun _ => ?_)
  refine wc_ite (fun _ => rfl) (fun _ => ?_)
  refine wc_ite (fun _ => False.elim (by omega)) (fun _ => ?_)
  refine wc_ite (fun _ => rfl) (fun _ => ?_)
  refine wc_ite (fun _ => rfl) (fun _ => ?_)
  refine wc_ite (fun _ => rfl) (fun _ => ?_)
  refine wc_ite (fun _ => rfl) (fun _ => ?_)
  refine wc_ite (fun _ => rfl) (fun _ => ?_)
  refine wc_ite (fun _ => rfl) (fun _ => ?_)
  refine wc_ite (fun _ => rfl) (fun _ => ?_)
  refine wc_ite (fun _ => rfl) (fun _ => ?_)
  rfl
theorem wc_o_ENDED {Γ : wc_G} {σ μ : wc_St} {j q : Nat} {x : Int32} (h : q ≠ 83) : wc_cell Γ σ (wc_st μ 46 0 j x) q = wc_cell Γ σ μ q := by
  unfold wc_cell
  refine wc_ite (fun _ => rfl) (fun _ => ?_)
  refine wc_ite (fun _ => rfl) (fun _ => ?_)
  refine wc_ite (fun _ => rfl) (fun _ => ?_)
  refine wc_ite (fun _ => rfl) (fun _ => ?_)
  refine wc_ite (fun _ => rfl) (fun _ => ?_)
  refine wc_ite (fun _ => rfl) (fun _ => ?_)
  refine wc_ite (fun _ => rfl) (fun _ => ?_)
  refine wc_ite (fun _ => rfl) (fun _ => ?_)
  refine wc_ite (fun _ => rfl) (fun _ => ?_)
  refine wc_ite (fun _ => rfl) (fun _ => ?_)
  refine wc_ite (fun _ => rfl) (fun _ => ?_)
  refine wc_ite (fun _ => rfl) (fun _ => ?_)
  refine wc_ite (fun _ => rfl) (fun _ => ?_)
  refine wc_ite (fun _ => rfl) (fun _ => ?_)
  refine wc_ite (fun _ => rfl) (fun _ => ?_)
  refine wc_ite (fun _ => rfl) (fun _ => ?_)
  refine wc_ite (fun _ => rfl) (fun _ => ?_)
  refine wc_ite (fun _ => rfl) (fun _ => ?_)
  refine wc_ite (fun _ => rfl) (fun _ => ?_)
  refine wc_ite (fun _ => rfl) (fun _ => ?_)
  refine wc_ite (fun _ => rfl) (fun _ => ?_)
  refine wc_ite (fun _ => rfl) (fun _ => ?_)
  refine wc_ite (fun _ => rfl) (fun _ => ?_)
  refine wc_ite (fun _ => rfl) (fun _ => ?_)
  refine wc_ite (fun _ => rfl) (fun _ => ?_)
  refine wc_ite (fun _ => rfl) (fun _ => ?_)
  refine wc_ite (fun _ => rfl) (fun _ => ?_)
  refine wc_ite (fun _ => False.elim (by omega)) (fun _ => ?_)
  refine wc_ite (fun _ => rfl) (fun _ => ?_)
  refine wc_ite (fun _ => rfl) (fun _ => ?_)
  refine wc_ite (fun _ => rfl) (fun _ => ?_)
  refine wc_ite (fun _ => rfl) (fun _ => ?_)
  refine wc_ite (fun _ => rfl) (fun _ => ?_)
  refine wc_ite (fun _ => rfl) (fun _ => ?_)
  refine wc_ite (fun _ => rfl) (fun _ => ?_)
  rfl
theorem wc_o_LOCK {Γ : wc_G} {σ μ : wc_St} {j q : Nat} {x : Int32} (h : q ≠ 84) : wc_cell Γ σ (wc_st μ 47 0 j x) q = wc_cell Γ σ μ q := by
  unfold wc_cell
  refine wc_ite (fun _ => rfl) (fun _ => ?_)
  refine wc_ite (fun _ => rfl) (fun _ => ?_)
  refine wc_ite (fun _ => rfl) (fun _ => ?_)
  refine wc_ite (fun _ => rfl) (fun _ => ?_)
  refine wc_ite (fun _ => rfl) (fun _ => ?_)
  refine wc_ite (fun _ => rfl) (fun _ => ?_)
  refine wc_ite (fun _ => rfl) (fun _ => ?_)
  refine wc_ite (fun _ => rfl) (fun _ => ?_)
  refine wc_ite (fun _ => rfl) (fun _ => ?_)
  refine wc_ite (fun _ => rfl) (fun _ => ?_)
  refine wc_ite (fun _ => rfl) (fun _ => ?_)
  refine wc_ite (fun _ => rfl) (fun _ => ?_)
  refine wc_ite (fun _ => rfl) (fun _ => ?_)
  refine wc_ite (fun _ => rfl) (fun _ => ?_)
  refine wc_ite (fun _ => rfl) (fun _ => ?_)
  refine wc_ite (fun _ => rfl) (fun _ => ?_)
  refine wc_ite (fun _ => rfl) (fun _ => ?_)
  refine wc_ite (fun _ => rfl) (fun _ => ?_)
  refine wc_ite (fun _ => rfl) (fun _ => ?_)
  refine wc_ite (fun _ => rfl) (fun _ => ?_)
  refine wc_ite (fun _ => rfl) (fun _ => ?_)
  refine wc_ite (fun _ => rfl) (fun _ => ?_)
  refine wc_ite (fun _ => rfl) (fun _ => ?_)
  refine wc_ite (fun _ => rfl) (fun _ => ?_)
  refine wc_ite (fun _ => rfl) (fun _ => ?_)
  refine wc_ite (fun _ => rfl) (fun _ => ?_)
  refine wc_ite (fun _ => rfl) (fun _ => ?_)
  refine wc_ite (fun _ => rfl) (fun _ => ?_)
  refine wc_ite (fun _ => False.elim (by omega)) (fun _ => ?_)
  refine wc_ite (fun _ => rfl) (fun _ => ?_)
  refine wc_ite (fun _ => rfl) (fun _ => ?_)
  refine wc_ite (fun _ => rfl) (fun _ => ?_)
  refine wc_ite (fun _ => rfl) (fun _ => ?_)
  refine wc_ite (fun _ => rfl) (fun _ => ?_)
  refine wc_ite (fun _ => rfl) (fun _ => ?_)
  rfl
theorem wc_o_WROTE {Γ : wc_G} {σ μ : wc_St} {j q : Nat} {x : Int32} (h : q ≠ 85) : wc_cell Γ σ (wc_st μ 48 0 j x) q = wc_cell Γ σ μ q := by
  unfold wc_cell
  refine wc_ite (fun _ => rfl) (fun _ => ?_)
  refine wc_ite (fun _ => rfl) (fun _ => ?_)
  refine wc_ite (fun _ => rfl) (fun _ => ?_)
  refine wc_ite (fun _ => rfl) (fun _ => ?_)
  refine wc_ite (fun _ => rfl) (fun _ => ?_)
  refine wc_ite (fun _ => rfl) (fun _ => ?_)
  refine wc_ite (fun _ => rfl) (fun _ => ?_)
  refine wc_ite (fun _ => rfl) (fun _ => ?_)
  refine wc_ite (fun _ => rfl) (fun _ => ?_)
  refine wc_ite (fun _ => rfl) (fun _ => ?_)
  refine wc_ite (fun _ => rfl) (fun _ => ?_)
  refine wc_ite (fun _ => rfl) (fun _ => ?_)
  refine wc_ite (fun _ => rfl) (fun _ => ?_)
  refine wc_ite (fun _ => rfl) (fun _ => ?_)
  refine wc_ite (fun _ => rfl) (fun _ => ?_)
  refine wc_ite (fun _ => rfl) (fun _ => ?_)
  refine wc_ite (fun _ => rfl) (fun _ => ?_)
  refine wc_ite (fun _ => rfl) (fun _ => ?_)
  refine wc_ite (fun _ => rfl) (fun _ => ?_)
  refine wc_ite (fun _ => rfl) (fun _ => ?_)
  refine wc_ite (fun _ => rfl) (fun _ => ?_)
  refine wc_ite (fun _ => rfl) (fun _ => ?_)
  refine wc_ite (fun _ => rfl) (fun _ => ?_)
  refine wc_ite (fun _ => rfl) (fun _ => ?_)
  refine wc_ite (fun _ => rfl) (fun _ => ?_)
  refine wc_ite (fun _ => rfl) (fun _ => ?_)
  refine wc_ite (fun _ => rfl) (fun _ => ?_)
  refine wc_ite (fun _ => rfl) (fun _ => ?_)
  refine wc_ite (fun _ => rfl) (fun _ => ?_)
  refine wc_ite (fun _ => False.elim (by omega)) (fun _ => ?_)
  refine wc_ite (fun _ => rfl) (fun _ => ?_)
  refine wc_ite (fun _ => rfl) (fun _ => ?_)
  refine wc_ite (fun _ => rfl) (fun _ => ?_)
  refine wc_ite (fun _ => rfl) (fun _ => ?_)
  refine wc_ite (fun _ => rfl) (fun _ => ?_)
  rfl
theorem wc_o_RVAL {Γ : wc_G} {σ μ : wc_St} {j q : Nat} {x : Int32} (h : q ≠ 86) : wc_cell Γ σ (wc_st μ 49 0 j x) q = wc_cell Γ σ μ q := by
  unfold wc_cell
  refine wc_ite (fun _ => rfl) (fun _ => ?_)
  refine wc_ite (fun _ => rfl) (fun _ => ?_)
  refine wc_ite (fun _ => rfl) (fun _ => ?_)
  refine wc_ite (fun _ => rfl) (fun _ => ?_)
  refine wc_ite (fun _ => rfl) (fun _ => ?_)
  refine wc_ite (fun _ => rfl) (fun _ => ?_)
  refine wc_ite (fun _ => rfl) (fun _ => ?_)
  refine wc_ite (fun _ => rfl) (fun _ => ?_)
  refine wc_ite (fun _ => rfl) (fun _ => ?_)
  refine wc_ite (fun _ => rfl) (fun _ => ?_)
  refine wc_ite (fun _ => rfl) (fun _ => ?_)
  refine wc_ite (fun _ => rfl) (fun _ => ?_)
  refine wc_ite (fun _ => rfl) (fun _ => ?_)
  refine wc_ite (fun _ => rfl) (fun _ => ?_)
  refine wc_ite (fun _ => rfl) (fun _ => ?_)
  refine wc_ite (fun _ => rfl) (fun _ => ?_)
  refine wc_ite (fun _ => rfl) (fun _ => ?_)
  refine wc_ite (fun _ => rfl) (fun _ => ?_)
  refine wc_ite (fun _ => rfl) (fun _ => ?_)
  refine wc_ite (fun _ => rfl) (fun _ => ?_)
  refine wc_ite (fun _ => rfl) (fun _ => ?_)
  refine wc_ite (fun _ => rfl) (fun _ => ?_)
  refine wc_ite (fun _ => rfl) (fun _ => ?_)
  refine wc_ite (fun _ => rfl) (fun _ => ?_)
  refine wc_ite (fun _ => rfl) (fun _ => ?_)
  refine wc_ite (fun _ => rfl) (fun _ => ?_)
  refine wc_ite (fun _ => rfl) (fun _ => ?_)
  refine wc_ite (fun _ => rfl) (fun _ => ?_)
  refine wc_ite (fun _ => rfl) (fun _ => ?_)
  refine wc_ite (fun _ => rfl) (fun _ => ?_)
  refine wc_ite (fun _ => False.elim (by omega)) (fun _ => ?_)
  refine wc_ite (fun _ => rfl) (fun _ => ?_)
  refine wc_ite (fun _ => rfl) (fun _ => ?_)
  refine wc_ite (fun _ => rfl) (fun _ => ?_)
  refine wc_ite (fun _ => rfl) (fun _ => ?_)
  rfl
theorem wc_o_MARKED {Γ : wc_G} {σ μ : wc_St} {j q : Nat} {x : Int32} (h : q ≠ 87) : wc_cell Γ σ (wc_st μ 50 0 j x) q = wc_cell Γ σ μ q := by
  unfold wc_cell
  refine wc_ite (fun _ => rfl) (fun _ => ?_)
  refine wc_ite (fun _ => rfl) (fun _ => ?_)
  refine wc_ite (fun _ => rfl) (fun _ => ?_)
  refine wc_ite (fun _ => rfl) (fun _ => ?_)
  refine wc_ite (fun _ => rfl) (fun _ => ?_)
  refine wc_ite (fun _ => rfl) (fun _ => ?_)
  refine wc_ite (fun _ => rfl) (fun _ => ?_)
  refine wc_ite (fun _ => rfl) (fun _ => ?_)
  refine wc_ite (fun _ => rfl) (fun _ => ?_)
  refine wc_ite (fun _ => rfl) (fun _ => ?_)
  refine wc_ite (fun _ => rfl) (fun _ => ?_)
  refine wc_ite (fun _ => rfl) (fun _ => ?_)
  refine wc_ite (fun _ => rfl) (fun _ => ?_)
  refine wc_ite (fun _ => rfl) (fun _ => ?_)
  refine wc_ite (fun _ => rfl) (fun _ => ?_)
  refine wc_ite (fun _ => rfl) (fun _ => ?_)
  refine wc_ite (fun _ => rfl) (fun _ => ?_)
  refine wc_ite (fun _ => rfl) (fun _ => ?_)
  refine wc_ite (fun _ => rfl) (fun _ => ?_)
  refine wc_ite (fun _ => rfl) (fun _ => ?_)
  refine wc_ite (fun _ => rfl) (fun _ => ?_)
  refine wc_ite (fun _ => rfl) (fun _ => ?_)
  refine wc_ite (fun _ => rfl) (fun _ => ?_)
  refine wc_ite (fun _ => rfl) (fun _ => ?_)
  refine wc_ite (fun _ => rfl) (fun _ => ?_)
  refine wc_ite (fun _ => rfl) (fun _ => ?_)
  refine wc_ite (fun _ => rfl) (fun _ => ?_)
  refine wc_ite (fun _ => rfl) (fun _ => ?_)
  refine wc_ite (fun _ => rfl) (fun _ => ?_)
  refine wc_ite (fun _ => rfl) (fun _ => ?_)
  refine wc_ite (fun _ => rfl) (fun _ => ?_)
  refine wc_ite (fun _ => False.elim (by omega)) (fun _ => ?_)
  refine wc_ite (fun _ => rfl) (fun _ => ?_)
  refine wc_ite (fun _ => rfl) (fun _ => ?_)
  refine wc_ite (fun _ => rfl) (fun _ => ?_)
  rfl
theorem wc_o_MARK {Γ : wc_G} {σ μ : wc_St} {j q : Nat} {x : Int32} (h : q ≠ 88) : wc_cell Γ σ (wc_st μ 51 0 j x) q = wc_cell Γ σ μ q := by
  unfold wc_cell
  refine wc_ite (fun _ => rfl) (fun _ => ?_)
  refine wc_ite (fun _ => rfl) (fun _ => ?_)
  refine wc_ite (fun _ => rfl) (fun _ => ?_)
  refine wc_ite (fun _ => rfl) (fun _ => ?_)
  refine wc_ite (fun _ => rfl) (fun _ => ?_)
  refine wc_ite (fun _ => rfl) (fun _ => ?_)
  refine wc_ite (fun _ => rfl) (fun _ => ?_)
  refine wc_ite (fun _ => rfl) (fun _ => ?_)
  refine wc_ite (fun _ => rfl) (fun _ => ?_)
  refine wc_ite (fun _ => rfl) (fun _ => ?_)
  refine wc_ite (fun _ => rfl) (fun _ => ?_)
  refine wc_ite (fun _ => rfl) (fun _ => ?_)
  refine wc_ite (fun _ => rfl) (fun _ => ?_)
  refine wc_ite (fun _ => rfl) (fun _ => ?_)
  refine wc_ite (fun _ => rfl) (fun _ => ?_)
  refine wc_ite (fun _ => rfl) (fun _ => ?_)
  refine wc_ite (fun _ => rfl) (fun _ => ?_)
  refine wc_ite (fun _ => rfl) (fun _ => ?_)
  refine wc_ite (fun _ => rfl) (fun _ => ?_)
  refine wc_ite (fun _ => rfl) (fun _ => ?_)
  refine wc_ite (fun _ => rfl) (fun _ => ?_)
  refine wc_ite (fun _ => rfl) (fun _ => ?_)
  refine wc_ite (fun _ => rfl) (fun _ => ?_)
  refine wc_ite (fun _ => rfl) (fun _ => ?_)
  refine wc_ite (fun _ => rfl) (fun _ => ?_)
  refine wc_ite (fun _ => rfl) (fun _ => ?_)
  refine wc_ite (fun _ => rfl) (fun _ => ?_)
  refine wc_ite (fun _ => rfl) (fun _ => ?_)
  refine wc_ite (fun _ => rfl) (fun _ => ?_)
  refine wc_ite (fun _ => rfl) (fun _ => ?_)
  refine wc_ite (fun _ => rfl) (fun _ => ?_)
  refine wc_ite (fun _ => rfl) (fun _ => ?_)
  refine wc_ite (fun _ => False.elim (by omega)) (fun _ => ?_)
  refine wc_ite (fun _ => rfl) (fun _ => ?_)
  refine wc_ite (fun _ => rfl) (fun _ => ?_)
  rfl
theorem wc_o_ARRV {Γ : wc_G} {σ μ : wc_St} {j q : Nat} {x : Int32} (h : q ≠ 89) : wc_cell Γ σ (wc_st μ 53 0 j x) q = wc_cell Γ σ μ q := by
  unfold wc_cell
  refine wc_ite (fun _ => rfl) (fun _ => ?_)
  refine wc_ite (fun _ => rfl) (fun _ => ?_)
  refine wc_ite (fun _ => rfl) (fun _ => ?_)
  refine wc_ite (fun _ => rfl) (fun _ => ?_)
  refine wc_ite (fun _ => rfl) (fun _ => ?_)
  refine wc_ite (fun _ => rfl) (fun _ => ?_)
  refine wc_ite (fun _ => rfl) (fun _ => ?_)
  refine wc_ite (fun _ => rfl) (fun _ => ?_)
  refine wc_ite (fun _ => rfl) (fun _ => ?_)
  refine wc_ite (fun _ => rfl) (fun _ => ?_)
  refine wc_ite (fun _ => rfl) (fun _ => ?_)
  refine wc_ite (fun _ => rfl) (fun _ => ?_)
  refine wc_ite (fun _ => rfl) (fun _ => ?_)
  refine wc_ite (fun _ => rfl) (fun _ => ?_)
  refine wc_ite (fun _ => rfl) (fun _ => ?_)
  refine wc_ite (fun _ => rfl) (fun _ => ?_)
  refine wc_ite (fun _ => rfl) (fun _ => ?_)
  refine wc_ite (fun _ => rfl) (fun _ => ?_)
  refine wc_ite (fun _ => rfl) (fun _ => ?_)
  refine wc_ite (fun _ => rfl) (fun _ => ?_)
  refine wc_ite (fun _ => rfl) (fun _ => ?_)
  refine wc_ite (fun _ => rfl) (fun _ => ?_)
  refine wc_ite (fun _ => rfl) (fun _ => ?_)
  refine wc_ite (fun _ => rfl) (fun _ => ?_)
  refine wc_ite (fun _ => rfl) (fun _ => ?_)
  refine wc_ite (fun _ => rfl) (fun _ => ?_)
  refine wc_ite (fun _ => rfl) (fun _ => ?_)
  refine wc_ite (fun _ => rfl) (fun _ => ?_)
  refine wc_ite (fun _ => rfl) (fun _ => ?_)
  refine wc_ite (fun _ => rfl) (fun _ => ?_)
  refine wc_ite (fun _ => rfl) (fun _ => ?_)
  refine wc_ite (fun _ => rfl) (fun _ => ?_)
  refine wc_ite (fun _ => rfl) (fun _ => ?_)
  refine wc_ite (fun _ => False.elim (by omega)) (fun _ => ?_)
  refine wc_ite (fun _ => rfl) (fun _ => ?_)
  rfl
theorem wc_o_NUM {Γ : wc_G} {σ μ : wc_St} {j q : Nat} {x : Int32} (h : q ≠ 90) : wc_cell Γ σ (wc_st μ 54 0 j x) q = wc_cell Γ σ μ q := by
  unfold wc_cell
  refine wc_ite (fun _ => rfl) (fun _ => ?_)
  refine wc_ite (fun _ => rfl) (fun _ => ?_)
  refine wc_ite (fun _ => rfl) (fun _ => ?_)
  refine wc_ite (fun _ => rfl) (fun _ => ?_)
  refine wc_ite (fun _ => rfl) (fun _ => ?_)
  refine wc_ite (fun _ => rfl) (fun _ => ?_)
  refine wc_ite (fun _ => rfl) (fun _ => ?_)
  refine wc_ite (fun _ => rfl) (fun _ => ?_)
  refine wc_ite (fun _ => rfl) (fun _ => ?_)
  refine wc_ite (fun _ => rfl) (fun _ => ?_)
  refine wc_ite (fun _ => rfl) (fun _ => ?_)
  refine wc_ite (fun _ => rfl) (fun _ => ?_)
  refine wc_ite (fun _ => rfl) (fun _ => ?_)
  refine wc_ite (fun _ => rfl) (fun _ => ?_)
  refine wc_ite (fun _ => rfl) (fun _ => ?_)
  refine wc_ite (fun _ => rfl) (fun _ => ?_)
  refine wc_ite (fun _ => rfl) (fun _ => ?_)
  refine wc_ite (fun _ => rfl) (fun _ => ?_)
  refine wc_ite (fun _ => rfl) (fun _ => ?_)
  refine wc_ite (fun _ => rfl) (fun _ => ?_)
  refine wc_ite (fun _ => rfl) (fun _ => ?_)
  refine wc_ite (fun _ => rfl) (fun _ => ?_)
  refine wc_ite (fun _ => rfl) (fun _ => ?_)
  refine wc_ite (fun _ => rfl) (fun _ => ?_)
  refine wc_ite (fun _ => rfl) (fun _ => ?_)
  refine wc_ite (fun _ => rfl) (fun _ => ?_)
  refine wc_ite (fun _ => rfl) (fun _ => ?_)
  refine wc_ite (fun _ => rfl) (fun _ => ?_)
  refine wc_ite (fun _ => rfl) (fun _ => ?_)
  refine wc_ite (fun _ => rfl) (fun _ => ?_)
  refine wc_ite (fun _ => rfl) (fun _ => ?_)
  refine wc_ite (fun _ => rfl) (fun _ => ?_)
  refine wc_ite (fun _ => rfl) (fun _ => ?_)
  refine wc_ite (fun _ => rfl) (fun _ => ?_)
  refine wc_ite (fun _ => False.elim (by omega)) (fun _ => ?_)
  rfl
theorem wc_put_WC_time {Γ : wc_G} {σ μ : wc_St} {x : Int32} : wc_cell Γ (wc_st σ 23 0 0 x) μ (0) = .inr (0, ([.int (σ 22 0 0), .ref (Γ.2.2 1), .ref (Γ.2.2 2), .ref (Γ.2.2 3), .ref (Γ.2.2 4), .int (σ 23 0 0), .int (σ 24 0 0), .int (σ 25 0 0), .int (σ 26 0 0)] : List Value).set 5 (.int x)) := by
  rw [wc_c_WC]
  simp [wc_st]
theorem wc_put_WC_begun {Γ : wc_G} {σ μ : wc_St} {x : Int32} : wc_cell Γ (wc_st σ 24 0 0 x) μ (0) = .inr (0, ([.int (σ 22 0 0), .ref (Γ.2.2 1), .ref (Γ.2.2 2), .ref (Γ.2.2 3), .ref (Γ.2.2 4), .int (σ 23 0 0), .int (σ 24 0 0), .int (σ 25 0 0), .int (σ 26 0 0)] : List Value).set 6 (.int x)) := by
  rw [wc_c_WC]
  simp [wc_st]
theorem wc_put_WC_sent {Γ : wc_G} {σ μ : wc_St} {x : Int32} : wc_cell Γ (wc_st σ 25 0 0 x) μ (0) = .inr (0, ([.int (σ 22 0 0), .ref (Γ.2.2 1), .ref (Γ.2.2 2), .ref (Γ.2.2 3), .ref (Γ.2.2 4), .int (σ 23 0 0), .int (σ 24 0 0), .int (σ 25 0 0), .int (σ 26 0 0)] : List Value).set 7 (.int x)) := by
  rw [wc_c_WC]
  simp [wc_st]
theorem wc_put_WC_underWay {Γ : wc_G} {σ μ : wc_St} {x : Int32} : wc_cell Γ (wc_st σ 26 0 0 x) μ (0) = .inr (0, ([.int (σ 22 0 0), .ref (Γ.2.2 1), .ref (Γ.2.2 2), .ref (Γ.2.2 3), .ref (Γ.2.2 4), .int (σ 23 0 0), .int (σ 24 0 0), .int (σ 25 0 0), .int (σ 26 0 0)] : List Value).set 8 (.int x)) := by
  rw [wc_c_WC]
  simp [wc_st]
theorem wc_put_Site_before {Γ : wc_G} {σ μ : wc_St} {i : Nat} (h : i < 3) {x : Int32} : wc_cell Γ (wc_st σ 0 i 0 x) μ (5 + i) = .inr (1, ([.int (σ 0 i 0), .int (σ 1 i 0), .int (σ 2 i 0), .int (σ 3 i 0), .int (σ 4 i 0)] : List Value).set 0 (.int x)) := by
  rw [wc_c_Site h]
  simp [wc_st]
theorem wc_put_Site_after {Γ : wc_G} {σ μ : wc_St} {i : Nat} (h : i < 3) {x : Int32} : wc_cell Γ (wc_st σ 1 i 0 x) μ (5 + i) = .inr (1, ([.int (σ 0 i 0), .int (σ 1 i 0), .int (σ 2 i 0), .int (σ 3 i 0), .int (σ 4 i 0)] : List Value).set 1 (.int x)) := by
  rw [wc_c_Site h]
  simp [wc_st]
theorem wc_put_Site_delay {Γ : wc_G} {σ μ : wc_St} {i : Nat} (h : i < 3) {x : Int32} : wc_cell Γ (wc_st σ 2 i 0 x) μ (5 + i) = .inr (1, ([.int (σ 0 i 0), .int (σ 1 i 0), .int (σ 2 i 0), .int (σ 3 i 0), .int (σ 4 i 0)] : List Value).set 2 (.int x)) := by
  rw [wc_c_Site h]
  simp [wc_st]
theorem wc_put_Site_isUp {Γ : wc_G} {σ μ : wc_St} {i : Nat} (h : i < 3) {x : Int32} : wc_cell Γ (wc_st σ 3 i 0 x) μ (5 + i) = .inr (1, ([.int (σ 0 i 0), .int (σ 1 i 0), .int (σ 2 i 0), .int (σ 3 i 0), .int (σ 4 i 0)] : List Value).set 3 (.int x)) := by
  rw [wc_c_Site h]
  simp [wc_st]
theorem wc_put_Site_bound {Γ : wc_G} {σ μ : wc_St} {i : Nat} (h : i < 3) {x : Int32} : wc_cell Γ (wc_st σ 4 i 0 x) μ (5 + i) = .inr (1, ([.int (σ 0 i 0), .int (σ 1 i 0), .int (σ 2 i 0), .int (σ 3 i 0), .int (σ 4 i 0)] : List Value).set 4 (.int x)) := by
  rw [wc_c_Site h]
  simp [wc_st]
theorem wc_put_Key_count {Γ : wc_G} {σ μ : wc_St} {i : Nat} (h : i < 9) {x : Int32} : wc_cell Γ (wc_st σ 5 i 0 x) μ (8 + i) = .inr (2, ([.ref (Γ.2.2 (17 + i)), .ref (Γ.2.2 (26 + i)), .int (σ 5 i 0)] : List Value).set 2 (.int x)) := by
  rw [wc_c_Key h]
  simp [wc_st]
theorem wc_put_Tx_state {Γ : wc_G} {σ μ : wc_St} {i : Nat} (h : i < 5) {x : Int32} : wc_cell Γ (wc_st σ 8 i 0 x) μ (35 + i) = .inr (3, ([.int (σ 8 i 0), .int (σ 9 i 0), .int (σ 10 i 0), .int (σ 11 i 0), .int (σ 12 i 0), .int (σ 13 i 0), .int (σ 14 i 0), .ref (Γ.2.2 (40 + i)), .ref (Γ.2.2 (45 + i)), .ref (Γ.2.2 (50 + i))] : List Value).set 0 (.int x)) := by
  rw [wc_c_Tx h]
  simp [wc_st]
theorem wc_put_Tx_birth {Γ : wc_G} {σ μ : wc_St} {i : Nat} (h : i < 5) {x : Int32} : wc_cell Γ (wc_st σ 9 i 0 x) μ (35 + i) = .inr (3, ([.int (σ 8 i 0), .int (σ 9 i 0), .int (σ 10 i 0), .int (σ 11 i 0), .int (σ 12 i 0), .int (σ 13 i 0), .int (σ 14 i 0), .ref (Γ.2.2 (40 + i)), .ref (Γ.2.2 (45 + i)), .ref (Γ.2.2 (50 + i))] : List Value).set 1 (.int x)) := by
  rw [wc_c_Tx h]
  simp [wc_st]
theorem wc_put_Tx_coordinator {Γ : wc_G} {σ μ : wc_St} {i : Nat} (h : i < 5) {x : Int32} : wc_cell Γ (wc_st σ 10 i 0 x) μ (35 + i) = .inr (3, ([.int (σ 8 i 0), .int (σ 9 i 0), .int (σ 10 i 0), .int (σ 11 i 0), .int (σ 12 i 0), .int (σ 13 i 0), .int (σ 14 i 0), .ref (Γ.2.2 (40 + i)), .ref (Γ.2.2 (45 + i)), .ref (Γ.2.2 (50 + i))] : List Value).set 2 (.int x)) := by
  rw [wc_c_Tx h]
  simp [wc_st]
theorem wc_put_Tx_floor {Γ : wc_G} {σ μ : wc_St} {i : Nat} (h : i < 5) {x : Int32} : wc_cell Γ (wc_st σ 11 i 0 x) μ (35 + i) = .inr (3, ([.int (σ 8 i 0), .int (σ 9 i 0), .int (σ 10 i 0), .int (σ 11 i 0), .int (σ 12 i 0), .int (σ 13 i 0), .int (σ 14 i 0), .ref (Γ.2.2 (40 + i)), .ref (Γ.2.2 (45 + i)), .ref (Γ.2.2 (50 + i))] : List Value).set 3 (.int x)) := by
  rw [wc_c_Tx h]
  simp [wc_st]
theorem wc_put_Tx_awaited {Γ : wc_G} {σ μ : wc_St} {i : Nat} (h : i < 5) {x : Int32} : wc_cell Γ (wc_st σ 12 i 0 x) μ (35 + i) = .inr (3, ([.int (σ 8 i 0), .int (σ 9 i 0), .int (σ 10 i 0), .int (σ 11 i 0), .int (σ 12 i 0), .int (σ 13 i 0), .int (σ 14 i 0), .ref (Γ.2.2 (40 + i)), .ref (Γ.2.2 (45 + i)), .ref (Γ.2.2 (50 + i))] : List Value).set 4 (.int x)) := by
  rw [wc_c_Tx h]
  simp [wc_st]
theorem wc_put_Tx_stamp {Γ : wc_G} {σ μ : wc_St} {i : Nat} (h : i < 5) {x : Int32} : wc_cell Γ (wc_st σ 13 i 0 x) μ (35 + i) = .inr (3, ([.int (σ 8 i 0), .int (σ 9 i 0), .int (σ 10 i 0), .int (σ 11 i 0), .int (σ 12 i 0), .int (σ 13 i 0), .int (σ 14 i 0), .ref (Γ.2.2 (40 + i)), .ref (Γ.2.2 (45 + i)), .ref (Γ.2.2 (50 + i))] : List Value).set 5 (.int x)) := by
  rw [wc_c_Tx h]
  simp [wc_st]
theorem wc_put_Tx_end {Γ : wc_G} {σ μ : wc_St} {i : Nat} (h : i < 5) {x : Int32} : wc_cell Γ (wc_st σ 14 i 0 x) μ (35 + i) = .inr (3, ([.int (σ 8 i 0), .int (σ 9 i 0), .int (σ 10 i 0), .int (σ 11 i 0), .int (σ 12 i 0), .int (σ 13 i 0), .int (σ 14 i 0), .ref (Γ.2.2 (40 + i)), .ref (Γ.2.2 (45 + i)), .ref (Γ.2.2 (50 + i))] : List Value).set 6 (.int x)) := by
  rw [wc_c_Tx h]
  simp [wc_st]
theorem wc_put_Msg_kind {Γ : wc_G} {σ μ : wc_St} {i : Nat} (h : i < 15) {x : Int32} : wc_cell Γ (wc_st σ 18 i 0 x) μ (55 + i) = .inr (4, ([.int (nI (i / 3)), .int (nI (i % 3)), .int (σ 18 i 0), .int (σ 19 i 0), .int (σ 20 i 0), .int (σ 21 i 0)] : List Value).set 2 (.int x)) := by
  rw [wc_c_Msg h]
  simp [wc_st]
theorem wc_put_Msg_receiver {Γ : wc_G} {σ μ : wc_St} {i : Nat} (h : i < 15) {x : Int32} : wc_cell Γ (wc_st σ 19 i 0 x) μ (55 + i) = .inr (4, ([.int (nI (i / 3)), .int (nI (i % 3)), .int (σ 18 i 0), .int (σ 19 i 0), .int (σ 20 i 0), .int (σ 21 i 0)] : List Value).set 3 (.int x)) := by
  rw [wc_c_Msg h]
  simp [wc_st]
theorem wc_put_Msg_arrival {Γ : wc_G} {σ μ : wc_St} {i : Nat} (h : i < 15) {x : Int32} : wc_cell Γ (wc_st σ 20 i 0 x) μ (55 + i) = .inr (4, ([.int (nI (i / 3)), .int (nI (i % 3)), .int (σ 18 i 0), .int (σ 19 i 0), .int (σ 20 i 0), .int (σ 21 i 0)] : List Value).set 4 (.int x)) := by
  rw [wc_c_Msg h]
  simp [wc_st]
theorem wc_put_Msg_order {Γ : wc_G} {σ μ : wc_St} {i : Nat} (h : i < 15) {x : Int32} : wc_cell Γ (wc_st σ 21 i 0 x) μ (55 + i) = .inr (4, ([.int (nI (i / 3)), .int (nI (i % 3)), .int (σ 18 i 0), .int (σ 19 i 0), .int (σ 20 i 0), .int (σ 21 i 0)] : List Value).set 5 (.int x)) := by
  rw [wc_c_Msg h]
  simp [wc_st]
theorem wc_put_Model_e {Γ : wc_G} {σ μ : wc_St} {x : Int32} : wc_cell Γ σ (wc_st μ 30 0 0 x) (70) = .inr (5, ([.int (μ 30 0 0), .int (μ 31 0 0), .ref (Γ.2.2 71), .ref (Γ.2.2 72), .ref (Γ.2.2 73), .ref (Γ.2.2 74), .ref (Γ.2.2 75), .int (μ 37 0 0), .ref (Γ.2.2 76), .ref (Γ.2.2 77), .ref (Γ.2.2 78), .int (μ 41 0 0), .ref (Γ.2.2 79), .ref (Γ.2.2 80), .ref (Γ.2.2 81), .ref (Γ.2.2 82), .ref (Γ.2.2 83), .ref (Γ.2.2 84), .ref (Γ.2.2 85), .ref (Γ.2.2 86), .ref (Γ.2.2 87), .ref (Γ.2.2 88), .int (μ 52 0 0), .ref (Γ.2.2 89), .ref (Γ.2.2 90)] : List Value).set 0 (.int x)) := by
  rw [wc_c_Model]
  simp [wc_st]
theorem wc_put_Model_now {Γ : wc_G} {σ μ : wc_St} {x : Int32} : wc_cell Γ σ (wc_st μ 31 0 0 x) (70) = .inr (5, ([.int (μ 30 0 0), .int (μ 31 0 0), .ref (Γ.2.2 71), .ref (Γ.2.2 72), .ref (Γ.2.2 73), .ref (Γ.2.2 74), .ref (Γ.2.2 75), .int (μ 37 0 0), .ref (Γ.2.2 76), .ref (Γ.2.2 77), .ref (Γ.2.2 78), .int (μ 41 0 0), .ref (Γ.2.2 79), .ref (Γ.2.2 80), .ref (Γ.2.2 81), .ref (Γ.2.2 82), .ref (Γ.2.2 83), .ref (Γ.2.2 84), .ref (Γ.2.2 85), .ref (Γ.2.2 86), .ref (Γ.2.2 87), .ref (Γ.2.2 88), .int (μ 52 0 0), .ref (Γ.2.2 89), .ref (Γ.2.2 90)] : List Value).set 1 (.int x)) := by
  rw [wc_c_Model]
  simp [wc_st]
theorem wc_put_Model_versions {Γ : wc_G} {σ μ : wc_St} {x : Int32} : wc_cell Γ σ (wc_st μ 37 0 0 x) (70) = .inr (5, ([.int (μ 30 0 0), .int (μ 31 0 0), .ref (Γ.2.2 71), .ref (Γ.2.2 72), .ref (Γ.2.2 73), .ref (Γ.2.2 74), .ref (Γ.2.2 75), .int (μ 37 0 0), .ref (Γ.2.2 76), .ref (Γ.2.2 77), .ref (Γ.2.2 78), .int (μ 41 0 0), .ref (Γ.2.2 79), .ref (Γ.2.2 80), .ref (Γ.2.2 81), .ref (Γ.2.2 82), .ref (Γ.2.2 83), .ref (Γ.2.2 84), .ref (Γ.2.2 85), .ref (Γ.2.2 86), .ref (Γ.2.2 87), .ref (Γ.2.2 88), .int (μ 52 0 0), .ref (Γ.2.2 89), .ref (Γ.2.2 90)] : List Value).set 7 (.int x)) := by
  rw [wc_c_Model]
  simp [wc_st]
theorem wc_put_Model_begun {Γ : wc_G} {σ μ : wc_St} {x : Int32} : wc_cell Γ σ (wc_st μ 41 0 0 x) (70) = .inr (5, ([.int (μ 30 0 0), .int (μ 31 0 0), .ref (Γ.2.2 71), .ref (Γ.2.2 72), .ref (Γ.2.2 73), .ref (Γ.2.2 74), .ref (Γ.2.2 75), .int (μ 37 0 0), .ref (Γ.2.2 76), .ref (Γ.2.2 77), .ref (Γ.2.2 78), .int (μ 41 0 0), .ref (Γ.2.2 79), .ref (Γ.2.2 80), .ref (Γ.2.2 81), .ref (Γ.2.2 82), .ref (Γ.2.2 83), .ref (Γ.2.2 84), .ref (Γ.2.2 85), .ref (Γ.2.2 86), .ref (Γ.2.2 87), .ref (Γ.2.2 88), .int (μ 52 0 0), .ref (Γ.2.2 89), .ref (Γ.2.2 90)] : List Value).set 11 (.int x)) := by
  rw [wc_c_Model]
  simp [wc_st]
theorem wc_put_Model_sent {Γ : wc_G} {σ μ : wc_St} {x : Int32} : wc_cell Γ σ (wc_st μ 52 0 0 x) (70) = .inr (5, ([.int (μ 30 0 0), .int (μ 31 0 0), .ref (Γ.2.2 71), .ref (Γ.2.2 72), .ref (Γ.2.2 73), .ref (Γ.2.2 74), .ref (Γ.2.2 75), .int (μ 37 0 0), .ref (Γ.2.2 76), .ref (Γ.2.2 77), .ref (Γ.2.2 78), .int (μ 41 0 0), .ref (Γ.2.2 79), .ref (Γ.2.2 80), .ref (Γ.2.2 81), .ref (Γ.2.2 82), .ref (Γ.2.2 83), .ref (Γ.2.2 84), .ref (Γ.2.2 85), .ref (Γ.2.2 86), .ref (Γ.2.2 87), .ref (Γ.2.2 88), .int (μ 52 0 0), .ref (Γ.2.2 89), .ref (Γ.2.2 90)] : List Value).set 22 (.int x)) := by
  rw [wc_c_Model]
  simp [wc_st]
