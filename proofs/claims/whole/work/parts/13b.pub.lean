/-! The public calls of the class, with any ints. -/
def wc_out (a : Int32) (n : Nat) : Prop := a < 0 ∨ nI n ≤ a
theorem wc_out_not {a : Int32} {n : Nat} (h : ¬ wc_out a n) (hn : n < 2 ^ 31) : ∃ j, j < n ∧ a = nI j := by
  rcases pk_ix a hn with h1 | h1 | h1
  · exact absurd (Or.inl h1) h
  · exact absurd (Or.inr h1) h
  · exact h1
theorem wc_out_nI {j n : Nat} (h : j < n) (hn : n < 2 ^ 31) : ¬ wc_out (nI j) n := fun q => q.elim (nI_pos (by omega)) (nI_ge h hn)
def fc_clock (σ : wc_St) (p : Nat) (a b : Int32) : Int32 × wc_St := if fc_isError σ a = 0 then (nI 0, σ) else if fc_isError σ b = 0 then (nI 0, σ) else (nI 1, wc_st (wc_st σ 0 p 0 a) 1 p 0 b)
def fc_delay (σ : wc_St) (p : Nat) (d : Int32) : Int32 × wc_St := if d < 0 then (nI 0, σ) else if d ≤ nI 9 then (nI 1, wc_st σ 2 p 0 d) else (nI 0, σ)
def fc_power (σ : wc_St) (p : Nat) (u : Int32) : Int32 × wc_St := if σ 3 p 0 = u then (nI 0, σ) else (nI 1, wc_st σ 3 p 0 u)
def fc_begin1 (σ : wc_St) (t : Nat) : wc_St :=
  let σ1 := wc_st σ 8 t 0 (nI 1)
  let σ2 := wc_st σ1 9 t 0 (σ1 24 0 0)
  wc_st σ2 24 0 0 (σ2 24 0 0 + nI 1)
def fc_begin (σ : wc_St) (t : Nat) : Int32 × wc_St := if fc_canBegin σ t = 0 then (nI 0, σ) else (nI 1, fc_begin1 σ t)
def fc_commit (σ : wc_St) (t : Nat) : Int32 × wc_St := if fc_active σ t = 0 then (nI 0, σ) else if fc_least σ t = -1 then (nI 0, σ) else if σ 3 (fc_least σ t).toNatClampNeg 0 = 0 then (nI 0, σ) else (nI 1, fc_prepare (wc_st σ 10 t 0 (fc_least σ t)) t (fc_least σ t).toNatClampNeg)
def fc_abort (σ : wc_St) (t : Nat) : Int32 × wc_St := if fc_active σ t = 0 then (nI 0, σ) else (nI 1, fc_giveUp σ t)
def fc_readAt (σ : wc_St) (k : Nat) (r : Int32) : Int64 × wc_St := if σ 3 (k % 3) 0 = 0 then (1099511627776, σ) else if r ≤ fc_ready σ (k % 3) then (fc_vat (fc_raise σ (k % 3) r) k r 4 0, fc_raise σ (k % 3) r) else (1099511627776, σ)
def fc_stamp (σ : wc_St) (t : Nat) : Int32 := if σ 8 t 0 = nI 3 then σ 13 t 0 else if σ 8 t 0 = nI 4 then σ 13 t 0 else -1
def fc_end (σ : wc_St) (t : Nat) : Int32 := if σ 8 t 0 = nI 4 then σ 14 t 0 else -1
def fc_marks2 (σ : wc_St) (p : Nat) : Int32 := if fc_marks σ p 5 0 0 = 0 then nI 0 else nI (fc_marks σ p 5 0 0) + nI 8 * fc_leastMark σ p
def fc_safe (σ : wc_St) (p : Nat) : Int32 := if σ 3 p 0 = 0 then -1 else fc_ready σ p
def fc_version (σ : wc_St) (k : Nat) (i : Int32) : Int32 := if i < 0 then -1 else if i < σ 5 k 0 then σ 7 k i.toNatClampNeg else -1
theorem fc_marks_le {σ : wc_St} {p : Nat} : ∀ (n t a : Nat), fc_marks σ p n t a ≤ a + n := by
  intro n
  induction n with
  | zero => intro t a; exact Nat.le_refl _
  | succ n ih =>
    intro t a
    unfold fc_marks
    split
    · exact Nat.le_trans (ih _ _) (by omega)
    · exact Nat.le_trans (ih _ _) (by omega)
theorem wc_ix4 {i c : Int32} (h1 : ¬ i < 0) (h2 : i < c) (h3 : c ≤ nI 4) : ∃ j, j < 4 ∧ i = nI j := by
  rcases pk_ix i (n := 4) (by decide) with h | h | h
  · exact absurd h h1
  · exfalso
    rw [Int32.lt_iff_toInt_lt] at h2
    rw [Int32.le_iff_toInt_le] at h3 h
    omega
  · exact h
