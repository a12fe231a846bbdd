/-! Reads: the answers agree. -/
theorem find_spec {μ : wc_St} {k : Nat} : ∀ (n left : Nat), (left < (sj_lg μ k n).length → ∃ j, j < n ∧ fm_find μ k n left = nI j ∧ (sj_lg μ k n)[left]? = some (μ 39 0 j, μ 40 0 j)) ∧ (left = (sj_lg μ k n).length → fm_find μ k n left = -1) ∧ ((sj_lg μ k n).length < left → fm_find μ k n left = -2) := by
  intro n
  induction n with
  | zero =>
    intro left
    unfold fm_find sj_lg
    refine ⟨fun h => by simp at h, fun h => ?_, fun h => ?_⟩
    · rw [if_pos (by simpa using h)]
    · rw [if_neg (by simp at h; omega)]
  | succ n ih =>
    intro left
    unfold fm_find sj_lg
    by_cases e : μ 38 0 n = nI k
    · rw [if_pos e, if_pos e]
      by_cases e2 : left = 0
      · subst e2
        rw [if_pos rfl]
        refine ⟨fun _ => ⟨n, by omega, rfl, rfl⟩, fun h => ?_, fun h => ?_⟩
        · simp at h
        · simp at h
      · rw [if_neg e2]
        obtain ⟨l, rfl⟩ : ∃ l, left = l + 1 := ⟨left - 1, by omega⟩
        obtain ⟨a, b, c⟩ := ih l
        simp only [Nat.add_sub_cancel, List.length_cons, List.getElem?_cons_succ]
        refine ⟨fun h => ?_, fun h => b (by omega), fun h => c (by omega)⟩
        obtain ⟨j, h1, h2, h3⟩ := a (by omega)
        exact ⟨j, by omega, h2, h3⟩
    · rw [if_neg e, if_neg e]
      obtain ⟨a, b, c⟩ := ih left
      refine ⟨fun h => ?_, b, c⟩
      obtain ⟨j, h1, h2, h3⟩ := a h
      exact ⟨j, by omega, h2, h3⟩
theorem ss_value0 {T B S N k : Nat} {σ μ : wc_St} (h : sj_B T B S N σ μ) (hN : N ≤ 512) (hk : k < 9) : (σ 6 k 0).toInt64 = fm_value0 μ k := by
  obtain ⟨V, a1, a2, a3⟩ := h.2.2.2.2.2.2.2.2.2
  have hv := ((a3 k hk).2 0 (by omega)).2
  have hV : fm_vers μ = V := fm_vers_eq a1 (by omega)
  unfold fm_value0
  rw [hV, hv]
  obtain ⟨b, c, -⟩ := find_spec (μ := μ) (k := k) V 0
  by_cases q : 0 < (sj_lg μ k V).length
  · obtain ⟨j, h1, h2, h3⟩ := b q
    rw [h2, h3, if_neg (nI_pos (by omega)), nI_clamp (by omega)]
    rfl
  · have e : (sj_lg μ k V).length = 0 := by omega
    rw [c e.symm, if_pos (by decide), List.getElem?_eq_none (by omega)]
    decide
theorem ss_version {T B S N k i : Nat} {σ μ : wc_St} (h : sj_B T B S N σ μ) (hN : N ≤ 512) (hk : k < 9) (hi : i < 4) : ∃ V, μ 37 0 0 = nI V ∧ V ≤ 512 ∧ fc_version σ k (nI i) = fm_version μ (fm_find μ k V i) := by
  obtain ⟨V, a1, a2, a3⟩ := h.2.2.2.2.2.2.2.2.2
  obtain ⟨c1, c2⟩ := a3 k hk
  obtain ⟨b, c, d⟩ := find_spec (μ := μ) (k := k) V i
  have hs := (c2 i hi).1
  have hlen := sj_lg_len (μ := μ) (k := k) V
  refine ⟨V, a1, by omega, ?_⟩
  unfold fc_version fm_version
  rw [if_neg (nI_pos (by omega)), nI_clamp (by omega), c1]
  rcases Nat.lt_trichotomy i (sj_lg μ k V).length with q | q | q
  · obtain ⟨j, h1, h2, h3⟩ := b q
    rw [h2, if_neg (nI_pos (by omega)), nI_clamp (by omega), if_pos (nI_lt (by omega) (by omega)), hs, h3]
    rfl
  · rw [c q, if_pos (show nI i < nI (min 4 ((sj_lg μ k V).length + 1)) from nI_lt (by omega) (by omega)), if_pos (show (-1 : Int32) < 0 by decide), if_pos rfl, hs, List.getElem?_eq_none (by omega)]
    rfl
  · rw [d q, if_neg (show ¬ nI i < nI (min 4 ((sj_lg μ k V).length + 1)) by rw [nI_ltI (by omega) (by omega)]; omega), if_pos (show (-2 : Int32) < 0 by decide), if_neg (show ¬ (-2 : Int32) = -1 by decide)]
theorem rat_lost {μ : wc_St} {k V : Nat} {r : Int32} (hV : fm_vers μ = V) : ∀ n i, (sj_lg μ k V).length < i → fm_rat μ k r n i = 2199023255552 := by
  intro n
  induction n with
  | zero => intro i _; rfl
  | succ n ih =>
    intro i hi
    unfold fm_rat
    rw [hV, (find_spec (μ := μ) (k := k) V i).2.2 hi, if_pos (by decide), if_neg (by decide)]
    exact ih (i + 1) (by omega)
theorem ss_vat {T B S N k : Nat} {σ μ : wc_St} {r : Int32} (h : sj_B T B S N σ μ) (hN : N ≤ 512) (hk : k < 9) : ∀ n i, i + n = 4 → fc_vat σ k r n i = fm_rat μ k r n i := by
  obtain ⟨V, a1, a2, a3⟩ := h.2.2.2.2.2.2.2.2.2
  obtain ⟨c1, c2⟩ := a3 k hk
  have hV : fm_vers μ = V := fm_vers_eq a1 (by omega)
  have hlen := sj_lg_len (μ := μ) (k := k) V
  intro n
  induction n with
  | zero => intro i _; rfl
  | succ n ih =>
    intro i hi
    obtain ⟨b, c, d⟩ := find_spec (μ := μ) (k := k) V i
    obtain ⟨hs, hv⟩ := c2 i (by omega)
    unfold fc_vat
    rw [c1]
    rcases Nat.lt_trichotomy i (sj_lg μ k V).length with q | q | q
    · obtain ⟨j, h1, h2, h3⟩ := b q
      rw [if_neg (show ¬ nI (min 4 ((sj_lg μ k V).length + 1)) ≤ nI i by rw [nI_leI (by omega) (by omega)]; omega), ih (i + 1) (by omega), fm_rat, hV, h2, if_neg (nI_pos (by omega)), nI_clamp (by omega), hs, hv, h3]
      rfl
    · rw [if_neg (show ¬ nI (min 4 ((sj_lg μ k V).length + 1)) ≤ nI i by rw [nI_leI (by omega) (by omega)]; omega), ih (i + 1) (by omega), fm_rat, hV, c q, if_pos (show (-1 : Int32) < 0 by decide), if_pos rfl, hs, hv, List.getElem?_eq_none (by omega)]
      show (if r < nI 0 then fm_rat μ k r n (i + 1) else (nI 0).toInt64) = _
      rw [nI_0]
      split
      · rfl
      · decide
    · rw [if_pos (show nI (min 4 ((sj_lg μ k V).length + 1)) ≤ nI i from nI_le (by omega) (by omega))]
      exact (rat_lost hV (n + 1) i q).symm
theorem mn_i (x y : Int32) : (wc_mn x y).toInt = min x.toInt y.toInt := by
  unfold wc_mn
  split
  · rename_i h; rw [Int32.lt_iff_toInt_lt] at h; omega
  · rename_i h; rw [Int32.lt_iff_toInt_lt] at h; omega
theorem sub1_i {x : Int32} (h : 0 < x.toInt) : (x - nI 1).toInt = x.toInt - 1 := by
  have h2 := x.toInt_lt
  have h3 : (nI 1).toInt = 1 := nI_toInt (by omega)
  rw [Int32.toInt_sub, h3]
  rw [Int.bmod_eq_of_le]
  · omega
  · omega
theorem ss_safe {T B S N p : Nat} {σ μ : wc_St} (h : sj_B T B S N σ μ) (hp : p < 3) : ∀ (n t : Nat) (l y : Int32) (lat : Int), t + n = 5 → 0 < l.toInt → y.toInt = min lat (l.toInt - 1) → 0 < (fc_lm σ p n t l).toInt ∧ (fm_safe μ p n t y).toInt = min lat ((fc_lm σ p n t l).toInt - 1) := by
  intro n
  induction n with
  | zero => intro t l y lat _ h1 h2; exact ⟨h1, h2⟩
  | succ n ih =>
    intro t l y lat ht h1 h2
    unfold fc_lm fm_safe
    have z : (nI 0).toInt = 0 := nI_toInt (by omega)
    rcases h.2.2.2.2.1 t p (by omega) hp with ⟨a1, a2⟩ | ⟨a1, a2, a3⟩
    · rw [a1, a2, if_pos (by decide), if_pos (by decide)]
      exact ih (t + 1) l y lat (by omega) h1 h2
    · rw [Int32.lt_iff_toInt_lt, z] at a3
      have e1 : ¬ σ 17 t p = 0 := by rw [eq_i, Int32.toInt_zero]; omega
      rw [a1, if_neg e1, if_neg (by decide), ← a2]
      refine ih (t + 1) _ _ lat (by omega) ?_ ?_
      · rw [mn_i]; omega
      · rw [mn_i]
        by_cases q : y < σ 17 t p
        · rw [if_pos q]
          rw [Int32.lt_iff_toInt_lt] at q
          omega
        · rw [if_neg q, sub1_i a3]
          rw [Int32.lt_iff_toInt_lt] at q
          omega
theorem ss_ready {T B S N p : Nat} {σ μ : wc_St} (h : sj_B T B S N σ μ) (hT : T < 2 ^ 29) (hp : p < 3) : fc_ready σ p = fm_safe μ p 5 0 (μ 31 0 0 + μ 33 0 p) := by
  obtain ⟨s1, s2, s3, s4, -⟩ := h.1
  obtain ⟨-, b2, ⟨a, ha, ea⟩, -⟩ := h.2.1 p hp
  have e1 : fc_latest σ p = nI (T + a) := by unfold fc_latest; rw [s3, ea, nI_add]
  have e2 : μ 31 0 0 + μ 33 0 p = nI (T + a) := by rw [s4, ← b2, ea, nI_add]
  have mx : (2147483647 : Int32).toInt = 2147483647 := by decide
  obtain ⟨c1, c2⟩ := ss_safe h hp 5 0 2147483647 (nI (T + a)) ((nI (T + a)).toInt) rfl (by rw [mx]; decide) (by rw [mx, nI_toInt (by omega)]; omega)
  unfold fc_ready
  rw [e2, e1]
  apply i_inj
  rw [mn_i, sub1_i (by unfold fc_leastMark; exact c1), c2]
  rfl
theorem ss_marks {T B S N p : Nat} {σ μ : wc_St} (h : sj_B T B S N σ μ) (hp : p < 3) : ∀ (n t a : Nat) (l f : Int32), t + n = 5 → (a = 0 → l = 2147483647 ∧ f = nI 0) → (a ≠ 0 → f = l) → (fm_marks μ p n t a f).1 = fc_marks σ p n t a ∧ (fc_marks σ p n t a = 0 → (fm_marks μ p n t a f).2 = nI 0) ∧ (fc_marks σ p n t a ≠ 0 → (fm_marks μ p n t a f).2 = fc_lm σ p n t l) := by
  intro n
  induction n with
  | zero => intro t a l f _ h1 h2; exact ⟨rfl, fun e => (h1 e).2, h2⟩
  | succ n ih =>
    intro t a l f ht h1 h2
    unfold fm_marks fc_marks fc_lm
    have z : (nI 0).toInt = 0 := nI_toInt (by omega)
    rcases h.2.2.2.2.1 t p (by omega) hp with ⟨a1, a2⟩ | ⟨a1, a2, a3⟩
    · rw [a1, a2, if_pos (by decide), if_pos (by decide), if_pos (by decide)]
      exact ih (t + 1) a l f (by omega) h1 h2
    · rw [Int32.lt_iff_toInt_lt, z] at a3
      have e1 : ¬ σ 17 t p = 0 := by rw [eq_i, Int32.toInt_zero]; omega
      rw [a1, if_neg (show ¬ nI 1 = 0 by decide), if_neg e1, if_neg e1, ← a2]
      refine ih (t + 1) (a + 1) _ _ (by omega) (fun q => by omega) (fun _ => ?_)
      by_cases q : a = 0
      · rw [if_pos q, (h1 q).1]
        have mx : (2147483647 : Int32).toInt = 2147483647 := by decide
        have hlt := (σ 17 t p).toInt_lt
        apply i_inj
        rw [mn_i, mx]
        omega
      · rw [if_neg q, h2 q]
        apply i_inj
        rw [mn_i]
        split
        · rename_i w; rw [Int32.le_iff_toInt_le] at w; omega
        · rename_i w; rw [Int32.le_iff_toInt_le] at w; omega
theorem ss_marks2 {T B S N p : Nat} {σ μ : wc_St} (h : sj_B T B S N σ μ) (hp : p < 3) : fc_marks2 σ p = fm_marks2 μ p := by
  obtain ⟨a, b, c⟩ := ss_marks h hp 5 0 0 2147483647 (nI 0) rfl (fun _ => ⟨rfl, rfl⟩) (fun q => absurd rfl q)
  unfold fc_marks2 fm_marks2
  rw [a]
  by_cases q : fc_marks σ p 5 0 0 = 0
  · rw [if_pos q, b q, q]
    decide
  · rw [if_neg q, c q]
    rfl
def sj_hc (a0 a1 a2 a3 a4 : Int32) : Int32 :=
  let s (t : Nat) (v a : Int32) : Int32 := let b := if v = 0 then a else a ||| (nI 1 <<< (nI t &&& 31))
    if v = nI 2 then b ||| nI 32 else b
  s 4 a4 (s 3 a3 (s 2 a2 (s 1 a1 (s 0 a0 (nI 0)))))
def sj_hm (a0 a1 a2 a3 a4 : Int32) : Int32 :=
  let s (t : Nat) (v a : Int32) : Int32 := a + (if v ≤ 0 then nI 0 else nI 1 <<< (nI t &&& 31)) + (if v = nI 2 then nI 32 else nI 0)
  s 4 a4 (s 3 a3 (s 2 a2 (s 1 a1 (s 0 a0 (nI 0)))))
theorem hold_all : ∀ a0 : Fin 3, ∀ a1 : Fin 3, ∀ a2 : Fin 3, ∀ a3 : Fin 3, ∀ a4 : Fin 3, (a0.val / 2 + a1.val / 2 + a2.val / 2 + a3.val / 2 + a4.val / 2 ≤ 1) → sj_hc (nI a0.val) (nI a1.val) (nI a2.val) (nI a3.val) (nI a4.val) = sj_hm (nI a0.val) (nI a1.val) (nI a2.val) (nI a3.val) (nI a4.val) := by decide +kernel
/-- an exclusive lock is alone -/
def sj_X (σ : wc_St) : Prop := ∀ t u k, t < 5 → u < 5 → k < 9 → t ≠ u → σ 15 t k = nI 2 → σ 15 u k = nI 0
theorem ss_holders {T B S N k : Nat} {σ μ : wc_St} (h : sj_B T B S N σ μ) (hx : sj_X σ) (hk : k < 9) : fc_holders σ k 5 0 (nI 0) = fm_holders μ k 5 0 (nI 0) := by
  have g : ∀ t, t < 5 → ∃ a : Nat, a < 3 ∧ σ 15 t k = nI a := by
    intro t ht
    rcases (h.2.2.2.1 t k ht hk).2.1 with a | a | a
    · exact ⟨0, by omega, a⟩
    · exact ⟨1, by omega, a⟩
    · exact ⟨2, by omega, a⟩
  have l : ∀ t, t < 5 → μ 47 0 (9 * t + k) = σ 15 t k := fun t ht => (h.2.2.2.1 t k ht hk).1.symm
  obtain ⟨a0, b0, c0⟩ := g 0 (by omega)
  obtain ⟨a1, b1, c1⟩ := g 1 (by omega)
  obtain ⟨a2, b2, c2⟩ := g 2 (by omega)
  obtain ⟨a3, b3, c3⟩ := g 3 (by omega)
  obtain ⟨a4, b4, c4⟩ := g 4 (by omega)
  have m : ∀ t u a b, t < 5 → u < 5 → t ≠ u → a < 3 → b < 3 → σ 15 t k = nI a → σ 15 u k = nI b → a / 2 + b / 2 ≤ 1 := by
    intro t u a b ht hu hne ha hb ea eb
    refine Classical.byContradiction (fun q => ?_)
    have q1 : a = 2 := by omega
    have q2 : b = 2 := by omega
    subst q1; subst q2
    have := hx t u k ht hu hk hne ea
    rw [eb] at this
    exact absurd this (by decide)
  have n01 := m 0 1 a0 a1 (by omega) (by omega) (by omega) b0 b1 c0 c1
  have n02 := m 0 2 a0 a2 (by omega) (by omega) (by omega) b0 b2 c0 c2
  have n03 := m 0 3 a0 a3 (by omega) (by omega) (by omega) b0 b3 c0 c3
  have n04 := m 0 4 a0 a4 (by omega) (by omega) (by omega) b0 b4 c0 c4
  have n12 := m 1 2 a1 a2 (by omega) (by omega) (by omega) b1 b2 c1 c2
  have n13 := m 1 3 a1 a3 (by omega) (by omega) (by omega) b1 b3 c1 c3
  have n14 := m 1 4 a1 a4 (by omega) (by omega) (by omega) b1 b4 c1 c4
  have n23 := m 2 3 a2 a3 (by omega) (by omega) (by omega) b2 b3 c2 c3
  have n24 := m 2 4 a2 a4 (by omega) (by omega) (by omega) b2 b4 c2 c4
  have n34 := m 3 4 a3 a4 (by omega) (by omega) (by omega) b3 b4 c3 c4
  have hh := hold_all ⟨a0, b0⟩ ⟨a1, b1⟩ ⟨a2, b2⟩ ⟨a3, b3⟩ ⟨a4, b4⟩ (by dsimp only; omega)
  have e1 : fc_holders σ k 5 0 (nI 0) = sj_hc (σ 15 0 k) (σ 15 1 k) (σ 15 2 k) (σ 15 3 k) (σ 15 4 k) := rfl
  have e2 : fm_holders μ k 5 0 (nI 0) = sj_hm (μ 47 0 (9 * 0 + k)) (μ 47 0 (9 * 1 + k)) (μ 47 0 (9 * 2 + k)) (μ 47 0 (9 * 3 + k)) (μ 47 0 (9 * 4 + k)) := rfl
  rw [e1, e2, l 0 (by omega), l 1 (by omega), l 2 (by omega), l 3 (by omega), l 4 (by omega), c0, c1, c2, c3, c4]
  exact hh
theorem msgs_cnt {μ : wc_St} : ∀ (n a y : Nat), fm_msgs μ n a y = y + sj_cnt (fun i => decide (¬ μ 53 0 (a + i) ≤ 0)) n := by
  intro n
  induction n with
  | zero => intro a y; rfl
  | succ n ih =>
    intro a y
    unfold fm_msgs
    rw [ih]
    have e : ∀ m, sj_cnt (fun i => decide (¬ μ 53 0 (a + i) ≤ 0)) (m + 1) = (if μ 53 0 a ≤ 0 then 0 else 1) + sj_cnt (fun i => decide (¬ μ 53 0 (a + 1 + i) ≤ 0)) m := by
      intro m
      induction m with
      | zero =>
        unfold sj_cnt sj_cnt
        by_cases q : μ 53 0 a ≤ 0 <;> simp [q]
      | succ m ihm =>
        rw [sj_cnt, ihm]
        conv => rhs; rw [sj_cnt]
        rw [show a + (m + 1) = a + 1 + m by omega]
        omega
    rw [e n]
    omega
theorem cnt_add {f : Nat → Bool} (m : Nat) : ∀ n, sj_cnt f (m + n) = sj_cnt f m + sj_cnt (fun i => f (m + i)) n := by
  intro n
  induction n with
  | zero => rfl
  | succ n ih =>
    rw [show m + (n + 1) = m + n + 1 by omega, sj_cnt, ih]
    conv => rhs; rw [sj_cnt]
    omega
theorem ss_messages {T B S N : Nat} {σ μ : wc_St} (h : sj_B T B S N σ μ) : σ 26 0 0 = nI (fm_msgs μ 45 0 0) := by
  have hU := h.2.2.2.2.2.2.2.2.1
  unfold sj_U at hU
  rw [hU, msgs_cnt]
  have e0 : (fun i => decide (¬ μ 53 0 (0 + i) ≤ 0)) = fun i => decide (¬ μ 53 0 i ≤ 0) := by funext i; rw [Nat.zero_add]
  rw [e0, show (45 : Nat) = 15 + (15 + 15) from rfl, cnt_add, cnt_add]
  have g : ∀ n, n ≤ 15 → sj_cnt (fun i => decide (¬ σ 18 i 0 = nI 0)) n = sj_cnt (fun i => decide (¬ μ 53 0 i ≤ 0)) n + (sj_cnt (fun i => decide (¬ μ 53 0 (15 + i) ≤ 0)) n + sj_cnt (fun i => decide (¬ μ 53 0 (15 + (15 + i)) ≤ 0)) n) := by
    intro n
    induction n with
    | zero => intro _; rfl
    | succ n ih =>
      intro hn
      unfold sj_cnt
      rw [ih (by omega)]
      have key : (if decide (¬ σ 18 n 0 = nI 0) = true then 1 else 0) = (if decide (¬ μ 53 0 n ≤ 0) = true then 1 else 0) + ((if decide (¬ μ 53 0 (15 + n) ≤ 0) = true then 1 else 0) + (if decide (¬ μ 53 0 (15 + (15 + n)) ≤ 0) = true then 1 else 0)) := by
        have z : nI 0 ≤ 0 := by decide
        rcases h.2.2.2.2.2.2.1 n (by omega) with ⟨a1, a2⟩ | ⟨κ, hκ, a1, a2, a3, a4, -⟩
        · have q0 := a2 0 (by omega)
          have q1 := a2 1 (by omega)
          have q2 := a2 2 (by omega)
          rw [show 15 * 0 + n = n by omega] at q0
          rw [show 15 * 1 + n = 15 + n by omega] at q1
          rw [show 15 * 2 + n = 15 + (15 + n) by omega] at q2
          rw [a1, q0, q1, q2]
          simp [z]
        · have hnz : ¬ σ 18 n 0 = nI 0 := by rw [a1]; exact nI_ne (by omega) (by omega) (by omega)
          have hl : ¬ σ 20 n 0 ≤ 0 := by rw [wc_notle, ← nI_0]; exact a4
          rcases (show κ = 0 ∨ κ = 1 ∨ κ = 2 by omega) with rfl | rfl | rfl
          · have q1 := a3 1 (by omega) (by omega)
            have q2 := a3 2 (by omega) (by omega)
            rw [show 15 * 0 + n = n by omega] at a2
            rw [show 15 * 1 + n = 15 + n by omega] at q1
            rw [show 15 * 2 + n = 15 + (15 + n) by omega] at q2
            rw [a2, q1, q2]
            simp [z, hnz, hl]
          · have q1 := a3 0 (by omega) (by omega)
            have q2 := a3 2 (by omega) (by omega)
            rw [show 15 * 1 + n = 15 + n by omega] at a2
            rw [show 15 * 0 + n = n by omega] at q1
            rw [show 15 * 2 + n = 15 + (15 + n) by omega] at q2
            rw [a2, q1, q2]
            simp [z, hnz, hl]
          · have q1 := a3 0 (by omega) (by omega)
            have q2 := a3 1 (by omega) (by omega)
            rw [show 15 * 2 + n = 15 + (15 + n) by omega] at a2
            rw [show 15 * 0 + n = n by omega] at q1
            rw [show 15 * 1 + n = 15 + n by omega] at q2
            rw [a2, q1, q2]
            simp [z, hnz, hl]
      omega
  rw [g 15 (by omega)]
  congr 1
  omega
