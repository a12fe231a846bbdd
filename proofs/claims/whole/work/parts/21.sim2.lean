/-! Locks, versions, finishing. -/
theorem sj_cnt_mono {f g : Nat → Bool} : ∀ n, (∀ i, i < n → f i = true → g i = true) → sj_cnt f n ≤ sj_cnt g n := by
  intro n
  induction n with
  | zero => intro _; exact Nat.le_refl _
  | succ n ih =>
    intro h
    unfold sj_cnt
    have h1 := ih (fun i hi => h i (by omega))
    have h2 := h n (by omega)
    split
    · rename_i h3
      rw [if_pos (h2 h3)]; omega
    · split <;> omega
theorem ss_holds {σ μ : wc_St} {t p : Nat} (hL : sj_L σ μ) (ht : t < 5) (hp : p < 3) : fc_holds σ t p = fm_part μ t p := by
  have e0 : μ 47 0 (9 * t + p) = σ 15 t p := (hL t p ht (by omega)).1.symm
  have e1 : μ 47 0 (9 * t + p + 3) = σ 15 t (p + 3) := by rw [show 9 * t + p + 3 = 9 * t + (p + 3) by omega]; exact (hL t (p + 3) ht (by omega)).1.symm
  have e2 : μ 47 0 (9 * t + p + 6) = σ 15 t (p + 6) := by rw [show 9 * t + p + 6 = 9 * t + (p + 6) by omega]; exact (hL t (p + 6) ht (by omega)).1.symm
  unfold fc_holds fm_part
  rw [e0, e1, e2]
  rcases (hL t p ht (by omega)).2.1 with a | a | a <;> rcases (hL t (p + 3) ht (by omega)).2.1 with b | b | b <;> rcases (hL t (p + 6) ht (by omega)).2.1 with c | c | c <;> rw [a, b, c] <;> decide
theorem fm_part_01 (μ : wc_St) (t p : Nat) : fm_part μ t p = nI 0 ∨ fm_part μ t p = nI 1 := by
  unfold fm_part
  split
  · exact Or.inl rfl
  · exact Or.inr rfl
theorem ss_least {σ μ : wc_St} {t : Nat} (hL : sj_L σ μ) (ht : t < 5) : fc_least σ t = if fm_least μ t = 3 then -1 else nI (fm_least μ t) := by
  unfold fc_least fm_least
  rw [ss_holds hL ht (by omega), ss_holds hL ht (by omega), ss_holds hL ht (by omega)]
  by_cases h0 : fm_part μ t 0 = 0
  · rw [if_pos h0, if_pos h0]
    by_cases h1 : fm_part μ t 1 = 0
    · rw [if_pos h1, if_pos h1]
      by_cases h2 : fm_part μ t 2 = 0
      · rw [if_pos h2, if_pos h2, if_pos rfl]
      · rw [if_neg h2, if_neg h2, if_neg (by omega)]
    · rw [if_neg h1, if_neg h1, if_neg (by omega)]
  · rw [if_neg h0, if_neg h0, if_neg (by omega)]
theorem fm_least_spec {μ : wc_St} {t c : Nat} (h : fm_least μ t = c) (hc : c < 3) : ¬ fm_part μ t c = 0 ∧ ∀ p, p < c → fm_part μ t p = 0 := by
  unfold fm_least at h
  split at h
  · rename_i h0
    split at h
    · rename_i h1
      split at h
      · omega
      · rename_i h2
        subst h
        refine ⟨h2, fun p hp => ?_⟩
        rcases (show p = 0 ∨ p = 1 by omega) with rfl | rfl
        · exact h0
        · exact h1
    · rename_i h1
      subst h
      refine ⟨h1, fun p hp => ?_⟩
      obtain rfl : p = 0 := by omega
      exact h0
  · rename_i h0
    subst h
    exact ⟨h0, fun p hp => by omega⟩
theorem fm_least_3 {μ : wc_St} {t : Nat} (h : fm_least μ t = 3) : ∀ p, p < 3 → fm_part μ t p = 0 := by
  unfold fm_least at h
  split at h
  · rename_i h0
    split at h
    · rename_i h1
      split at h
      · rename_i h2
        intro p hp
        rcases (show p = 0 ∨ p = 1 ∨ p = 2 by omega) with rfl | rfl | rfl
        · exact h0
        · exact h1
        · exact h2
      · omega
    · omega
  · omega
theorem ss_part0 {σ μ : wc_St} {t p : Nat} (hL : sj_L σ μ) (ht : t < 5) (hp : p < 3) (h : fm_part μ t p = 0) : σ 15 t p = nI 0 ∧ σ 15 t (p + 3) = nI 0 ∧ σ 15 t (p + 6) = nI 0 := by
  rw [← ss_holds hL ht hp] at h
  unfold fc_holds at h
  split at h
  · rename_i h1
    split at h
    · rename_i h2
      split at h
      · rename_i h3
        exact ⟨by rw [h1, nI_0], by rw [h2, nI_0], by rw [h3, nI_0]⟩
      · exact absurd h (by decide)
    · exact absurd h (by decide)
  · exact absurd h (by decide)
/-! versions -/
theorem sj_lg_lt {μ μ' : wc_St} {k : Nat} : ∀ n, (∀ j, j < n → μ' 38 0 j = μ 38 0 j ∧ μ' 39 0 j = μ 39 0 j ∧ μ' 40 0 j = μ 40 0 j) → sj_lg μ' k n = sj_lg μ k n := by
  intro n
  induction n with
  | zero => intro _; rfl
  | succ n ih =>
    intro h
    unfold sj_lg
    rw [ih (fun j hj => h j (by omega)), (h n (by omega)).1, (h n (by omega)).2.1, (h n (by omega)).2.2]
theorem sj_wr_set {μ : wc_St} {a : Nat} (ha : a < 45) (h : ¬ μ 48 0 a = nI 0) : sj_wr μ = sj_wr (wc_st μ 48 0 a (nI 0)) + 1 := by
  unfold sj_wr
  refine sj_cnt_up (j := a) 45 ha (fun i _ hi => ?_) ?_ ?_
  · rw [wc_st_j hi]
  · simp [wc_st]
  · simp [h]
theorem sj_wr_le {μ : wc_St} {a : Nat} : sj_wr (wc_st μ 48 0 a (nI 0)) ≤ sj_wr μ := by
  unfold sj_wr
  refine sj_cnt_mono 45 (fun i _ hi => ?_)
  by_cases e : i = a
  · subst e; simp [wc_st] at hi
  · rw [wc_st_j e] at hi; exact hi
theorem mn_4 {L : Nat} (hL : L < 2 ^ 30) : wc_mn (nI (min 4 (L + 1)) + nI 1) (nI 4) = nI (min 4 (L + 1 + 1)) := by
  rw [nI_add]
  unfold wc_mn
  by_cases h : 4 < min 4 (L + 1) + 1
  · rw [if_pos (nI_lt h (by omega))]
    congr 1; omega
  · rw [if_neg (by rw [nI_ltI (by omega) (by omega)]; exact h)]
    congr 1; omega
theorem sj_lg_len {μ : wc_St} {k : Nat} : ∀ n, (sj_lg μ k n).length ≤ n := by
  intro n
  induction n with
  | zero => exact Nat.le_refl _
  | succ n ih =>
    unfold sj_lg
    split
    · simp; omega
    · omega
theorem mv_fin1 {N t k : Nat} {σ μ : wc_St} (hN : N ≤ 512) (ht : t < 5) (hk : k < 9) (h : sj_V N σ μ) (hw : μ 48 0 (9 * t + k) = (if σ 15 t k = nI 2 then nI 1 else nI 0)) (hv : σ 16 t k = μ 49 0 (9 * t + k)) (hs : σ 13 t 0 = μ 44 0 t) : sj_V N (fc_fin1 σ t k) (fm_fin1 μ t k) := by
  obtain ⟨V, a1, a2, a3⟩ := h
  by_cases hl : σ 15 t k = nI 2
  · rw [if_pos hl] at hw
    have hw0 : ¬ μ 48 0 (9 * t + k) = nI 0 := by rw [hw]; decide
    have e1 : fc_fin1 σ t k = fc_add σ k (σ 16 t k) (σ 13 t 0) := by unfold fc_fin1; rw [if_pos hl]
    have e2 : fm_fin1 μ t k = fm_clr (fm_add μ t k) t k := by unfold fm_fin1; rw [if_neg (by rw [hw]; decide)]
    have hV : fm_vers μ = V := fm_vers_eq a1 (by omega)
    rw [e1, e2]
    have w1 := sj_wr_set (μ := μ) (a := 9 * t + k) (by omega) hw0
    have w2 : sj_wr (fm_clr (fm_add μ t k) t k) = sj_wr (wc_st μ 48 0 (9 * t + k) (nI 0)) := by
      unfold sj_wr
      refine sj_cnt_congr 45 (fun i _ => ?_)
      simp [fm_clr, fm_add, wc_st]
    have g : ∀ k', sj_lg (fm_clr (fm_add μ t k) t k) k' (V + 1) = if nI k = nI k' then (μ 44 0 t, μ 49 0 (9 * t + k)) :: sj_lg μ k' V else sj_lg μ k' V := by
      intro k'
      have g1 : sj_lg (fm_clr (fm_add μ t k) t k) k' V = sj_lg μ k' V := by
        refine sj_lg_lt V (fun j hj => ?_)
        have hne : j ≠ V := by omega
        refine ⟨?_, ?_, ?_⟩ <;> simp [fm_clr, fm_add, wc_st, hV, hne]
      have b1 : fm_clr (fm_add μ t k) t k 38 0 V = nI k := by simp [fm_clr, fm_add, wc_st, hV]
      have b2 : fm_clr (fm_add μ t k) t k 39 0 V = μ 44 0 t := by simp [fm_clr, fm_add, wc_st, hV]
      have b3 : fm_clr (fm_add μ t k) t k 40 0 V = μ 49 0 (9 * t + k) := by simp [fm_clr, fm_add, wc_st, hV]
      rw [sj_lg, b1, b2, b3, g1]
    refine ⟨V + 1, ?_, by omega, ?_⟩
    · simp [fm_clr, fm_add, wc_st, hV]
    · intro k' hk'
      obtain ⟨c1, c2⟩ := a3 k' hk'
      by_cases e : k' = k
      · subst e
        have hlen := sj_lg_len (μ := μ) (k := k') V
        unfold sj_key
        rw [g, if_pos rfl]
        refine ⟨?_, fun i hi => ?_⟩
        · have : fc_add σ k' (σ 16 t k') (σ 13 t 0) 5 k' 0 = wc_mn (σ 5 k' 0 + nI 1) (nI 4) := by simp [fc_add, fc_cnt, fc_put0, fc_shift, wc_st]
          rw [this, c1, mn_4 (by omega)]
          rfl
        · rcases (show i = 0 ∨ i = 1 ∨ i = 2 ∨ i = 3 by omega) with rfl | rfl | rfl | rfl
          · exact ⟨by simp [fc_add, fc_cnt, fc_put0, fc_shift, wc_st, hs], by simp [fc_add, fc_cnt, fc_put0, fc_shift, wc_st, hv]⟩
          · refine ⟨?_, ?_⟩
            · rw [show fc_add σ k' (σ 16 t k') (σ 13 t 0) 7 k' 1 = σ 7 k' 0 by simp [fc_add, fc_cnt, fc_put0, fc_shift, wc_st], (c2 0 (by omega)).1]; rfl
            · rw [show fc_add σ k' (σ 16 t k') (σ 13 t 0) 6 k' 1 = σ 6 k' 0 by simp [fc_add, fc_cnt, fc_put0, fc_shift, wc_st], (c2 0 (by omega)).2]; rfl
          · refine ⟨?_, ?_⟩
            · rw [show fc_add σ k' (σ 16 t k') (σ 13 t 0) 7 k' 2 = σ 7 k' 1 by simp [fc_add, fc_cnt, fc_put0, fc_shift, wc_st], (c2 1 (by omega)).1]; rfl
            · rw [show fc_add σ k' (σ 16 t k') (σ 13 t 0) 6 k' 2 = σ 6 k' 1 by simp [fc_add, fc_cnt, fc_put0, fc_shift, wc_st], (c2 1 (by omega)).2]; rfl
          · refine ⟨?_, ?_⟩
            · rw [show fc_add σ k' (σ 16 t k') (σ 13 t 0) 7 k' 3 = σ 7 k' 2 by simp [fc_add, fc_cnt, fc_put0, fc_shift, wc_st], (c2 2 (by omega)).1]; rfl
            · rw [show fc_add σ k' (σ 16 t k') (σ 13 t 0) 6 k' 3 = σ 6 k' 2 by simp [fc_add, fc_cnt, fc_put0, fc_shift, wc_st], (c2 2 (by omega)).2]; rfl
      · unfold sj_key
        rw [g, if_neg (nI_ne (by omega) (by omega) (Ne.symm e))]
        refine ⟨?_, fun i hi => ?_⟩
        · rw [show fc_add σ k (σ 16 t k) (σ 13 t 0) 5 k' 0 = σ 5 k' 0 by simp [fc_add, fc_cnt, fc_put0, fc_shift, wc_st, e]]; exact c1
        · rw [show fc_add σ k (σ 16 t k) (σ 13 t 0) 7 k' i = σ 7 k' i by simp [fc_add, fc_cnt, fc_put0, fc_shift, wc_st, e], show fc_add σ k (σ 16 t k) (σ 13 t 0) 6 k' i = σ 6 k' i by simp [fc_add, fc_cnt, fc_put0, fc_shift, wc_st, e]]
          exact c2 i hi
  · rw [if_neg hl] at hw
    have e1 : fc_fin1 σ t k = σ := by unfold fc_fin1; rw [if_neg hl]
    have e2 : fm_fin1 μ t k = fm_clr μ t k := by unfold fm_fin1; rw [if_pos (by rw [hw]; decide)]
    rw [e1, e2]
    refine ⟨V, a1, ?_, fun k' hk' => ?_⟩
    · have : sj_wr (fm_clr μ t k) ≤ sj_wr μ := sj_wr_le (μ := wc_st μ 47 0 (9 * t + k) (nI 0)) (a := 9 * t + k)
      omega
    · have b := a3 k' hk'
      unfold sj_key at b ⊢
      rw [show sj_lg (fm_clr μ t k) k' V = sj_lg μ k' V from sj_lg_eq (μ := μ) (μ' := fm_clr μ t k) rfl rfl rfl V]
      exact b
