/-! Finishing at a site, as a whole. -/
theorem fc_fin1_c {σ : wc_St} {t k c : Nat} (h1 : c ≠ 5) (h2 : c ≠ 6) (h3 : c ≠ 7) : fc_fin1 σ t k c = σ c := by
  unfold fc_fin1
  split
  · funext i j
    simp [fc_add, fc_cnt, fc_put0, fc_shift, wc_st, h1, h2, h3]
  · rfl
theorem fm_fin1_c {μ : wc_St} {t k c : Nat} (h1 : c ≠ 37) (h2 : c ≠ 38) (h3 : c ≠ 39) (h4 : c ≠ 40) (h5 : c ≠ 47) (h6 : c ≠ 48) : fm_fin1 μ t k c = μ c := by
  unfold fm_fin1
  split
  · funext i j
    simp [fm_clr, wc_st, h5, h6]
  · funext i j
    simp [fm_clr, fm_add, wc_st, h1, h2, h3, h4, h5, h6]
theorem fm_fin1_lock {μ : wc_St} {t k j : Nat} : fm_fin1 μ t k 47 0 j = (if j = 9 * t + k then nI 0 else μ 47 0 j) := by
  unfold fm_fin1
  split <;> simp [fm_clr, fm_add, wc_st]
theorem fm_fin1_wrote {μ : wc_St} {t k j : Nat} : fm_fin1 μ t k 48 0 j = (if j = 9 * t + k then nI 0 else μ 48 0 j) := by
  unfold fm_fin1
  split <;> simp [fm_clr, fm_add, wc_st]
def sj_f3 (σ : wc_St) (t p : Nat) : wc_St := fc_unlock (fc_fin1 (fc_fin1 (fc_fin1 σ t p) t (p + 3)) t (p + 6)) t p
def sj_g3 (μ : wc_St) (t p : Nat) : wc_St := fm_fin1 (fm_fin1 (fm_fin1 μ t p) t (p + 3)) t (p + 6)
theorem sj_f3_c {σ : wc_St} {t p c : Nat} (h1 : c ≠ 5) (h2 : c ≠ 6) (h3 : c ≠ 7) (h4 : c ≠ 15) : sj_f3 σ t p c = σ c := by
  have : sj_f3 σ t p c = fc_fin1 (fc_fin1 (fc_fin1 σ t p) t (p + 3)) t (p + 6) c := by
    funext i j
    simp [sj_f3, fc_unlock, wc_st, h4]
  rw [this, fc_fin1_c h1 h2 h3, fc_fin1_c h1 h2 h3, fc_fin1_c h1 h2 h3]
theorem sj_g3_c {μ : wc_St} {t p c : Nat} (h1 : c ≠ 37) (h2 : c ≠ 38) (h3 : c ≠ 39) (h4 : c ≠ 40) (h5 : c ≠ 47) (h6 : c ≠ 48) : sj_g3 μ t p c = μ c := by
  unfold sj_g3
  rw [fm_fin1_c h1 h2 h3 h4 h5 h6, fm_fin1_c h1 h2 h3 h4 h5 h6, fm_fin1_c h1 h2 h3 h4 h5 h6]
theorem sj_f3_lck {σ : wc_St} {t p u k : Nat} (hp : p < 3) (hk : k < 9) : sj_f3 σ t p 15 u k = if u = t ∧ k % 3 = p then nI 0 else σ 15 u k := by
  have e : fc_fin1 (fc_fin1 (fc_fin1 σ t p) t (p + 3)) t (p + 6) 15 = σ 15 := by
    rw [fc_fin1_c (by decide) (by decide) (by decide), fc_fin1_c (by decide) (by decide) (by decide), fc_fin1_c (by decide) (by decide) (by decide)]
  by_cases h : u = t
  · subst h
    by_cases h1 : k % 3 = p
    · rw [if_pos ⟨rfl, h1⟩]
      rcases (show k = p ∨ k = p + 3 ∨ k = p + 6 by omega) with h2 | h2 | h2 <;> simp [sj_f3, fc_unlock, wc_st, h2]
    · rw [if_neg (fun q => h1 q.2)]
      have n1 : k ≠ p := by omega
      have n2 : k ≠ p + 3 := by omega
      have n3 : k ≠ p + 6 := by omega
      have : sj_f3 σ u p 15 u k = fc_fin1 (fc_fin1 (fc_fin1 σ u p) u (p + 3)) u (p + 6) 15 u k := by simp [sj_f3, fc_unlock, wc_st, n1, n2, n3]
      rw [this, e]
  · rw [if_neg (fun q => h q.1)]
    have : sj_f3 σ t p 15 u k = fc_fin1 (fc_fin1 (fc_fin1 σ t p) t (p + 3)) t (p + 6) 15 u k := by simp [sj_f3, fc_unlock, wc_st, h]
    rw [this, e]
theorem sj_g3_ix {t p u k : Nat} (ht : t < 5) (hu : u < 5) (hp : p < 3) (hk : k < 9) {x y : Int32} : (if 9 * u + k = 9 * t + (p + 6) then x else if 9 * u + k = 9 * t + (p + 3) then x else if 9 * u + k = 9 * t + p then x else y) = if u = t ∧ k % 3 = p then x else y := by
  by_cases h : u = t ∧ k % 3 = p
  · rw [if_pos h]
    obtain ⟨rfl, h1⟩ := h
    rcases (show k = p ∨ k = p + 3 ∨ k = p + 6 by omega) with h2 | h2 | h2
    · rw [if_neg (by omega), if_neg (by omega), if_pos (by omega)]
    · rw [if_neg (by omega), if_pos (by omega)]
    · rw [if_pos (by omega)]
  · rw [if_neg h, if_neg (by omega), if_neg (by omega), if_neg (by omega)]
theorem sj_g3_lock {μ : wc_St} {t p u k : Nat} (ht : t < 5) (hu : u < 5) (hp : p < 3) (hk : k < 9) : sj_g3 μ t p 47 0 (9 * u + k) = if u = t ∧ k % 3 = p then nI 0 else μ 47 0 (9 * u + k) := by
  unfold sj_g3
  rw [fm_fin1_lock, fm_fin1_lock, fm_fin1_lock]
  exact sj_g3_ix ht hu hp hk
theorem sj_g3_wrote {μ : wc_St} {t p u k : Nat} (ht : t < 5) (hu : u < 5) (hp : p < 3) (hk : k < 9) : sj_g3 μ t p 48 0 (9 * u + k) = if u = t ∧ k % 3 = p then nI 0 else μ 48 0 (9 * u + k) := by
  unfold sj_g3
  rw [fm_fin1_wrote, fm_fin1_wrote, fm_fin1_wrote]
  exact sj_g3_ix ht hu hp hk
theorem mb_fin3 {T B S N t p : Nat} {σ μ : wc_St} (h : sj_B T B S N σ μ) (hN : N ≤ 512) (ht : t < 5) (hp : p < 3) : sj_B T B S N (sj_f3 σ t p) (sj_g3 μ t p) := by
  obtain ⟨hS, hP, hT, hL, hM, hA, hG, hD, hU, hV⟩ := h
  have x : ∀ c, c ≠ 5 → c ≠ 6 → c ≠ 7 → c ≠ 15 → sj_f3 σ t p c = σ c := fun c h1 h2 h3 h4 => sj_f3_c h1 h2 h3 h4
  have y : ∀ c, c ≠ 37 → c ≠ 38 → c ≠ 39 → c ≠ 40 → c ≠ 47 → c ≠ 48 → sj_g3 μ t p c = μ c := fun c h1 h2 h3 h4 h5 h6 => sj_g3_c h1 h2 h3 h4 h5 h6
  refine ⟨?_, ?_, ?_, ?_, ?_, ?_, ?_, ?_, ?_, ?_⟩
  · unfold sj_S
    rw [x 22 (by decide) (by decide) (by decide) (by decide), x 23 (by decide) (by decide) (by decide) (by decide), x 24 (by decide) (by decide) (by decide) (by decide), x 25 (by decide) (by decide) (by decide) (by decide), y 30 (by decide) (by decide) (by decide) (by decide) (by decide) (by decide), y 31 (by decide) (by decide) (by decide) (by decide) (by decide) (by decide), y 41 (by decide) (by decide) (by decide) (by decide) (by decide) (by decide), y 52 (by decide) (by decide) (by decide) (by decide) (by decide) (by decide)]
    exact hS
  · unfold sj_P
    rw [x 0 (by decide) (by decide) (by decide) (by decide), x 1 (by decide) (by decide) (by decide) (by decide), x 2 (by decide) (by decide) (by decide) (by decide), x 4 (by decide) (by decide) (by decide) (by decide), x 3 (by decide) (by decide) (by decide) (by decide), y 32 (by decide) (by decide) (by decide) (by decide) (by decide) (by decide), y 33 (by decide) (by decide) (by decide) (by decide) (by decide) (by decide), y 34 (by decide) (by decide) (by decide) (by decide) (by decide) (by decide), y 36 (by decide) (by decide) (by decide) (by decide) (by decide) (by decide), y 35 (by decide) (by decide) (by decide) (by decide) (by decide) (by decide)]
    exact hP
  · unfold sj_T
    rw [x 8 (by decide) (by decide) (by decide) (by decide), x 13 (by decide) (by decide) (by decide) (by decide), x 14 (by decide) (by decide) (by decide) (by decide), x 11 (by decide) (by decide) (by decide) (by decide), y 42 (by decide) (by decide) (by decide) (by decide) (by decide) (by decide), y 44 (by decide) (by decide) (by decide) (by decide) (by decide) (by decide), y 46 (by decide) (by decide) (by decide) (by decide) (by decide) (by decide), y 45 (by decide) (by decide) (by decide) (by decide) (by decide) (by decide)]
    exact hT
  · intro u k hu hk
    obtain ⟨a1, a2, a3, a4⟩ := hL u k hu hk
    rw [sj_f3_lck hp hk, sj_g3_lock ht hu hp hk, sj_g3_wrote ht hu hp hk, x 16 (by decide) (by decide) (by decide) (by decide), y 49 (by decide) (by decide) (by decide) (by decide) (by decide) (by decide)]
    by_cases e : u = t ∧ k % 3 = p
    · rw [if_pos e, if_pos e, if_pos e]
      exact ⟨rfl, Or.inl rfl, a3, by rw [if_neg (by decide)]⟩
    · rw [if_neg e, if_neg e, if_neg e]
      exact ⟨a1, a2, a3, a4⟩
  · unfold sj_M
    rw [x 17 (by decide) (by decide) (by decide) (by decide), y 50 (by decide) (by decide) (by decide) (by decide) (by decide) (by decide), y 51 (by decide) (by decide) (by decide) (by decide) (by decide) (by decide)]
    exact hM
  · unfold sj_A
    rw [x 8 (by decide) (by decide) (by decide) (by decide), x 9 (by decide) (by decide) (by decide) (by decide), y 43 (by decide) (by decide) (by decide) (by decide) (by decide) (by decide)]
    exact hA
  · unfold sj_G sj_free sj_live
    rw [x 18 (by decide) (by decide) (by decide) (by decide), x 20 (by decide) (by decide) (by decide) (by decide), x 21 (by decide) (by decide) (by decide) (by decide), y 53 (by decide) (by decide) (by decide) (by decide) (by decide) (by decide), y 54 (by decide) (by decide) (by decide) (by decide) (by decide) (by decide)]
    exact hG
  · unfold sj_D
    rw [x 18 (by decide) (by decide) (by decide) (by decide), x 21 (by decide) (by decide) (by decide) (by decide)]
    exact hD
  · unfold sj_U
    rw [x 18 (by decide) (by decide) (by decide) (by decide), x 26 (by decide) (by decide) (by decide) (by decide)]
    exact hU
  · have s1 := mv_fin1 hN ht (k := p) (by omega) hV (hL t p ht (by omega)).2.2.2 (hL t p ht (by omega)).2.2.1 (hT t ht).2.2.1
    have s2 := mv_fin1 hN ht (k := p + 3) (by omega) s1 (by rw [fm_fin1_wrote, if_neg (by omega), fc_fin1_c (by decide) (by decide) (by decide)]; exact (hL t (p + 3) ht (by omega)).2.2.2)
      (by rw [fm_fin1_c (by decide) (by decide) (by decide) (by decide) (by decide) (by decide), fc_fin1_c (by decide) (by decide) (by decide)]; exact (hL t (p + 3) ht (by omega)).2.2.1)
      (by rw [fm_fin1_c (by decide) (by decide) (by decide) (by decide) (by decide) (by decide), fc_fin1_c (by decide) (by decide) (by decide)]; exact (hT t ht).2.2.1)
    have s3 := mv_fin1 hN ht (k := p + 6) (by omega) s2 (by rw [fm_fin1_wrote, if_neg (by omega), fm_fin1_wrote, if_neg (by omega), fc_fin1_c (by decide) (by decide) (by decide), fc_fin1_c (by decide) (by decide) (by decide)]; exact (hL t (p + 6) ht (by omega)).2.2.2)
      (by rw [fm_fin1_c (by decide) (by decide) (by decide) (by decide) (by decide) (by decide), fm_fin1_c (by decide) (by decide) (by decide) (by decide) (by decide) (by decide), fc_fin1_c (by decide) (by decide) (by decide), fc_fin1_c (by decide) (by decide) (by decide)]; exact (hL t (p + 6) ht (by omega)).2.2.1)
      (by rw [fm_fin1_c (by decide) (by decide) (by decide) (by decide) (by decide) (by decide), fm_fin1_c (by decide) (by decide) (by decide) (by decide) (by decide) (by decide), fc_fin1_c (by decide) (by decide) (by decide), fc_fin1_c (by decide) (by decide) (by decide)]; exact (hT t ht).2.2.1)
    exact sj_V_of s3 rfl rfl rfl rfl rfl rfl rfl rfl
theorem mb_finish {T B S N t p : Nat} {σ μ : wc_St} (h : sj_B T B S N σ μ) (hN : N ≤ 512) (ht : t < 5) (hp : p < 3) : sj_B T B S N (fc_finish σ t p) (fm_finish μ t p) := by
  have h3 := mb_unmark (t := t) (mb_fin3 h hN ht hp) hp
  have e : (wc_st (sj_f3 σ t p) 17 t p (nI 0)) 13 t 0 = (wc_st (sj_g3 μ t p) 50 0 (3 * t + p) (nI 0)) 44 0 t := (h3.2.2.1 t ht).2.2.1
  have h4 := mb_raise (r := (wc_st (sj_f3 σ t p) 17 t p (nI 0)) 13 t 0) h3 hp
  have h5 : fc_finish σ t p = fc_raise (wc_st (sj_f3 σ t p) 17 t p (nI 0)) p ((wc_st (sj_f3 σ t p) 17 t p (nI 0)) 13 t 0) := rfl
  have h6 : fm_finish μ t p = fm_raise (wc_st (sj_g3 μ t p) 50 0 (3 * t + p) (nI 0)) p ((wc_st (sj_g3 μ t p) 50 0 (3 * t + p) (nI 0)) 44 0 t) := rfl
  rw [h5, h6, ← e]
  exact h4
/-! Giving up. -/
theorem fm_forget_c {c : Nat} (h1 : c ≠ 47) (h2 : c ≠ 48) : ∀ (n k : Nat) (μ : wc_St), fm_forget n k μ c = μ c := by
  intro n
  induction n with
  | zero => intro k μ; rfl
  | succ n ih =>
    intro k μ
    unfold fm_forget
    rw [ih]
    funext i j
    simp [wc_st, h1, h2]
theorem fm_forget_l : ∀ (n k j : Nat) (μ : wc_St), fm_forget n k μ 47 0 j = if k ≤ j ∧ j < k + n then nI 0 else μ 47 0 j := by
  intro n
  induction n with
  | zero => intro k j μ; rw [if_neg (by omega)]; rfl
  | succ n ih =>
    intro k j μ
    unfold fm_forget
    rw [ih]
    by_cases e : j = k
    · subst e
      rw [if_neg (by omega), if_pos (by omega)]
      simp [wc_st]
    · by_cases h : k + 1 ≤ j ∧ j < k + 1 + n
      · rw [if_pos h, if_pos (by omega)]
      · rw [if_neg h, if_neg (by omega)]
        simp [wc_st, e]
theorem fm_forget_w : ∀ (n k j : Nat) (μ : wc_St), fm_forget n k μ 48 0 j = if k ≤ j ∧ j < k + n then nI 0 else μ 48 0 j := by
  intro n
  induction n with
  | zero => intro k j μ; rw [if_neg (by omega)]; rfl
  | succ n ih =>
    intro k j μ
    unfold fm_forget
    rw [ih]
    by_cases e : j = k
    · subst e
      rw [if_neg (by omega), if_pos (by omega)]
      simp [wc_st]
    · by_cases h : k + 1 ≤ j ∧ j < k + 1 + n
      · rw [if_pos h, if_pos (by omega)]
      · rw [if_neg h, if_neg (by omega)]
        simp [wc_st, e]
def sj_un (σ : wc_St) (t : Nat) : wc_St := fc_unlock (fc_unlock (fc_unlock σ t 0) t 1) t 2
theorem sj_un_c {σ : wc_St} {t c : Nat} (h : c ≠ 15) : sj_un σ t c = σ c := by
  funext i j
  simp [sj_un, fc_unlock, wc_st, h]
theorem sj_un_l {σ : wc_St} {t u k : Nat} (hk : k < 9) : sj_un σ t 15 u k = if u = t then nI 0 else σ 15 u k := by
  by_cases h : u = t
  · subst h
    rw [if_pos rfl]
    rcases (show k = 0 ∨ k = 1 ∨ k = 2 ∨ k = 3 ∨ k = 4 ∨ k = 5 ∨ k = 6 ∨ k = 7 ∨ k = 8 by omega) with rfl | rfl | rfl | rfl | rfl | rfl | rfl | rfl | rfl <;> simp [sj_un, fc_unlock, wc_st]
  · rw [if_neg h]
    simp [sj_un, fc_unlock, wc_st, h]
/-- all locks of t go, on both sides -/
theorem mb_clear {T B S N t : Nat} {σ μ : wc_St} (h : sj_B T B S N σ μ) (ht : t < 5) : sj_B T B S N (sj_un σ t) (fm_forget 9 (9 * t) μ) := by
  obtain ⟨hS, hP, hT, hL, hM, hA, hG, hD, hU, hV⟩ := h
  have x : ∀ c, c ≠ 15 → sj_un σ t c = σ c := fun c h => sj_un_c h
  have y : ∀ c, c ≠ 47 → c ≠ 48 → fm_forget 9 (9 * t) μ c = μ c := fun c h1 h2 => fm_forget_c h1 h2 9 (9 * t) μ
  refine ⟨?_, ?_, ?_, ?_, ?_, ?_, ?_, ?_, ?_, ?_⟩
  · unfold sj_S
    rw [x 22 (by decide), x 23 (by decide), x 24 (by decide), x 25 (by decide), y 30 (by decide) (by decide), y 31 (by decide) (by decide), y 41 (by decide) (by decide), y 52 (by decide) (by decide)]
    exact hS
  · unfold sj_P
    rw [x 0 (by decide), x 1 (by decide), x 2 (by decide), x 4 (by decide), x 3 (by decide), y 32 (by decide) (by decide), y 33 (by decide) (by decide), y 34 (by decide) (by decide), y 36 (by decide) (by decide), y 35 (by decide) (by decide)]
    exact hP
  · unfold sj_T
    rw [x 8 (by decide), x 13 (by decide), x 14 (by decide), x 11 (by decide), y 42 (by decide) (by decide), y 44 (by decide) (by decide), y 46 (by decide) (by decide), y 45 (by decide) (by decide)]
    exact hT
  · intro u k hu hk
    obtain ⟨a1, a2, a3, a4⟩ := hL u k hu hk
    rw [sj_un_l hk, fm_forget_l, fm_forget_w, x 16 (by decide), y 49 (by decide) (by decide)]
    by_cases e : u = t
    · rw [if_pos e, if_pos (by omega), if_pos (by omega)]
      exact ⟨rfl, Or.inl rfl, a3, by rw [if_neg (by decide)]⟩
    · rw [if_neg e, if_neg (by omega), if_neg (by omega)]
      exact ⟨a1, a2, a3, a4⟩
  · unfold sj_M
    rw [x 17 (by decide), y 50 (by decide) (by decide), y 51 (by decide) (by decide)]
    exact hM
  · unfold sj_A
    rw [x 8 (by decide), x 9 (by decide), y 43 (by decide) (by decide)]
    exact hA
  · unfold sj_G sj_free sj_live
    rw [x 18 (by decide), x 20 (by decide), x 21 (by decide), y 53 (by decide) (by decide), y 54 (by decide) (by decide)]
    exact hG
  · unfold sj_D
    rw [x 18 (by decide), x 21 (by decide)]
    exact hD
  · unfold sj_U
    rw [x 18 (by decide), x 26 (by decide)]
    exact hU
  · obtain ⟨V, a1, a2, a3⟩ := hV
    refine ⟨V, by rw [y 37 (by decide) (by decide)]; exact a1, ?_, fun k hk => ?_⟩
    · have : sj_wr (fm_forget 9 (9 * t) μ) ≤ sj_wr μ := by
        unfold sj_wr
        refine sj_cnt_mono 45 (fun i _ hi => ?_)
        rw [fm_forget_w] at hi
        split at hi
        · simp at hi
        · exact hi
      omega
    · have b := a3 k hk
      unfold sj_key at b ⊢
      rw [sj_lg_eq (y 38 (by decide) (by decide)) (y 39 (by decide) (by decide)) (y 40 (by decide) (by decide)), x 5 (by decide), x 7 (by decide), x 6 (by decide)]
      exact b
theorem mb_giveUp {T B S N t : Nat} {σ μ : wc_St} (h : sj_B T B S N σ μ) (ht : t < 5) (h0 : ¬ σ 8 t 0 = nI 0) : sj_B T B S N (fc_giveUp σ t) (fm_drop μ t) :=
  mb_sta (s := 5) (mb_clear h ht) (by omega) h0
