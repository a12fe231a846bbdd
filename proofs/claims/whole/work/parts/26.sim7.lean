/-! A message is dealt with. -/
theorem sj_F_k1 {σ μ : wc_St} {t p : Nat} (h : sj_F σ μ t) (hp : p < 3) (hk : σ 18 (t * 3 + p) 0 = nI 1) : σ 8 t 0 = nI 2 ∧ ∃ c, c < 3 ∧ σ 10 t 0 = nI c ∧ fm_least μ t = c ∧ nI 0 < σ 11 t 0 ∧ σ 12 t 0 = nI (sj_lv σ t) ∧ 0 < sj_lv σ t ∧ (∀ p, p < 3 → sj_2 σ μ t c p) ∧ c < p ∧ ¬ fm_part μ t p = 0 ∧ μ 50 0 (3 * t + p) = nI 0 := by
  rcases h with ⟨a, b, c⟩ | ⟨a, b⟩ | ⟨a, c, b1, b2, b3, b0, b4, b5, b6⟩ | ⟨a, c, b1, b2, b3, b4⟩ | ⟨a, b⟩
  · rw [(c p hp).1] at hk; exact absurd hk (by decide)
  · rw [(b p hp).1] at hk; exact absurd hk (by decide)
  · refine ⟨a, c, b1, b2, b3, b0, b4, b5, b6, ?_⟩
    rcases b6 p hp with ⟨d1, d2, ⟨d3, d4, -⟩ | ⟨d3, -⟩ | ⟨d3, -⟩⟩ | ⟨-, d3, -⟩
    · exact ⟨d1, d2, d4⟩
    · rw [d3] at hk; exact absurd hk (by decide)
    · rw [d3] at hk; exact absurd hk (by decide)
    · rw [d3] at hk; exact absurd hk (by decide)
  · rw [(b4 p hp).1] at hk; exact absurd hk (by decide)
  · rcases b p hp with ⟨-, d, -⟩ | ⟨-, d, -⟩ <;> rw [d] at hk <;> exact absurd hk (by decide)
theorem sj_F_k2 {σ μ : wc_St} {t p : Nat} (h : sj_F σ μ t) (hp : p < 3) (hk : σ 18 (t * 3 + p) 0 = nI 2) : σ 8 t 0 = nI 2 ∧ ∃ c, c < 3 ∧ σ 10 t 0 = nI c ∧ fm_least μ t = c ∧ nI 0 < σ 11 t 0 ∧ σ 12 t 0 = nI (sj_lv σ t) ∧ 0 < sj_lv σ t ∧ (∀ p, p < 3 → sj_2 σ μ t c p) ∧ c < p ∧ ¬ fm_part μ t p = 0 ∧ μ 50 0 (3 * t + p) = nI 1 ∧ σ 19 (t * 3 + p) 0 = nI c := by
  rcases h with ⟨a, b, c⟩ | ⟨a, b⟩ | ⟨a, c, b1, b2, b3, b0, b4, b5, b6⟩ | ⟨a, c, b1, b2, b3, b4⟩ | ⟨a, b⟩
  · rw [(c p hp).1] at hk; exact absurd hk (by decide)
  · rw [(b p hp).1] at hk; exact absurd hk (by decide)
  · refine ⟨a, c, b1, b2, b3, b0, b4, b5, b6, ?_⟩
    rcases b6 p hp with ⟨d1, d2, ⟨d3, -⟩ | ⟨d3, d4, d5⟩ | ⟨d3, -⟩⟩ | ⟨-, d3, -⟩
    · rw [d3] at hk; exact absurd hk (by decide)
    · exact ⟨d1, d2, d4, d5⟩
    · rw [d3] at hk; exact absurd hk (by decide)
    · rw [d3] at hk; exact absurd hk (by decide)
  · rw [(b4 p hp).1] at hk; exact absurd hk (by decide)
  · rcases b p hp with ⟨-, d, -⟩ | ⟨-, d, -⟩ <;> rw [d] at hk <;> exact absurd hk (by decide)
theorem sj_F_k3 {σ μ : wc_St} {t p : Nat} (h : sj_F σ μ t) (hp : p < 3) (hk : σ 18 (t * 3 + p) 0 = nI 3) : σ 8 t 0 = nI 4 ∧ ∀ p, p < 3 → sj_4 σ μ t p := by
  rcases h with ⟨a, b, c⟩ | ⟨a, b⟩ | ⟨a, c, b1, b2, b3, b0, b4, b5, b6⟩ | ⟨a, c, b1, b2, b3, b4⟩ | ⟨a, b⟩
  · rw [(c p hp).1] at hk; exact absurd hk (by decide)
  · rw [(b p hp).1] at hk; exact absurd hk (by decide)
  · rcases b6 p hp with ⟨d1, d2, ⟨d3, -⟩ | ⟨d3, -⟩ | ⟨d3, -⟩⟩ | ⟨-, d3, -⟩ <;> rw [d3] at hk <;> exact absurd hk (by decide)
  · rw [(b4 p hp).1] at hk; exact absurd hk (by decide)
  · exact ⟨a, b⟩
theorem mx_le (x y : Int32) : wc_mx x y = if x ≤ y then y else x := i_inj (by rw [mx_i, le_i])
/-- what a dealt message leaves of the slots: the others as they were, its own not due -/
def sj_after (T : Nat) (σ σ' : wc_St) (i : Nat) : Prop := (∀ j, j ≠ i → σ' 18 j 0 = σ 18 j 0 ∧ σ' 20 j 0 = σ 20 j 0 ∧ σ' 19 j 0 = σ 19 j 0) ∧ (σ' 18 i 0 = nI 0 ∨ nI T < σ' 20 i 0) ∧ σ' 23 = σ 23 ∧ σ' 3 = σ 3
theorem rr_deal1 {T B S N t p c : Nat} {σ μ : wc_St} (h : sj_R T B S N σ μ) (ht : t < 5) (hp : p < 3) (hT : T < 2 ^ 29) (hT1 : 0 < T) (hS : S + 1 < 2 ^ 30) (hk : σ 18 (t * 3 + p) 0 = nI 1) (hcr : σ 10 t 0 = nI c) (hc : c < 3) :
    sj_R T B (S + 1) N (fc_takePrepare (fc_deal0 σ (t * 3 + p)) t p c) (fm_prep (wc_st μ 53 0 (15 * 0 + (t * 3 + p)) (nI 0)) t p) ∧ sj_after T σ (fc_takePrepare (fc_deal0 σ (t * 3 + p)) t p c) (t * 3 + p) := by
  obtain ⟨hb, hF, hw⟩ := h
  obtain ⟨h2, c', hc', hcr', hl, hfl, haw, hlv, h2s, hcp, hpart, hmk⟩ := sj_F_k1 (hF t ht) hp hk
  have ecc : c' = c := by
    rw [hcr', nI_eq (by omega) (by omega)] at hcr
    exact hcr
  subst ecc
  have hi : t * 3 + p < 15 := by omega
  obtain ⟨b0, f0⟩ := mb_free hb hi (κ := 0) (by omega) (sj_slotl hb.2.2.2.2.2.2.1 hi (by omega) hk)
  have w0 : wc_wf (fc_deal0 σ (t * 3 + p)) := wf_deal0 hw
  have c0 : ∀ c', c' ≠ 18 → c' ≠ 26 → fc_deal0 σ (t * 3 + p) c' = σ c' := by
    intro c' q1 q2; funext i j; simp [fc_deal0, wc_st, q1, q2]
  have k0 : ∀ i, fc_deal0 σ (t * 3 + p) 18 i 0 = if i = t * 3 + p then nI 0 else σ 18 i 0 := by intro i; simp [fc_deal0, wc_st]
  have m0 : ∀ c', c' ≠ 53 → wc_st μ 53 0 (15 * 0 + (t * 3 + p)) (nI 0) c' = μ c' := fun c' q => wc_st_c q
  generalize e0 : fc_deal0 σ (t * 3 + p) = σ0 at *
  generalize e1 : wc_st μ 53 0 (15 * 0 + (t * 3 + p)) (nI 0) = μ0 at *
  obtain ⟨s1, s2, s3, s4, -⟩ := b0.1
  obtain ⟨a, ha, ea⟩ := (b0.2.1 p hp).2.2.1
  have eL := (b0.2.1 p hp).2.1
  have eb := (b0.2.1 p hp).2.2.2.2.2.1
  have hlat : fc_latest σ0 p = nI (T + a) := by unfold fc_latest; rw [s3, ea, nI_add]
  have hmkv : (if μ0 31 0 0 + μ0 33 0 p ≤ μ0 36 0 p + nI 1 then μ0 36 0 p + nI 1 else μ0 31 0 0 + μ0 33 0 p) = wc_mx (fc_latest σ0 p) (σ0 4 p 0 + nI 1) := by
    rw [mx_le, hlat, eb, s4, ← eL, ea, nI_add]
  generalize hx : wc_mx (fc_latest σ0 p) (σ0 4 p 0 + nI 1) = x at hmkv
  have hx0 : nI 0 < x := by
    rw [Int32.lt_iff_toInt_lt, ← hx, mx_i, hlat, nI_toInt (by omega), nI_toInt (by omega)]
    omega
  have b2 := mb_bnd (p := p) (x := x) (mb_mark (t := t) (p := p) b0 hp hx0)
  have f2 : sj_free (wc_st (wc_st σ0 17 t p x) 4 p 0 x) (wc_st (wc_st (wc_st μ0 50 0 (3 * t + p) (nI 1)) 51 0 (3 * t + p) x) 36 0 p x) (t * 3 + p) := f0
  have b3 := mb_send (t := t) (p := p) (c := c') (κ := 1) b2 ht hp hc (by omega) (by omega) (by omega) f2
  have tp : fc_takePrepare σ0 t p c' = fc_send (wc_st (wc_st σ0 17 t p x) 4 p 0 x) (nI (1 + 1)) t p c' := by
    unfold fc_takePrepare
    dsimp only
    rw [hx]
  have hl0 : fm_least (fm_put μ0 t p x) t = c' := by rw [fm_least_eq (μ := μ) (fun j => by show μ0 47 0 j = μ 47 0 j; rw [m0 47 (by decide)])]; exact hl
  have pp : fm_prep μ0 t p = fm_send (wc_st (wc_st (wc_st μ0 50 0 (3 * t + p) (nI 1)) 51 0 (3 * t + p) x) 36 0 p x) 1 t p c' := by
    unfold fm_prep
    dsimp only
    rw [hmkv, hl0]
    rfl
  have kk : ∀ i, fc_takePrepare σ0 t p c' 18 i 0 = if i = t * 3 + p then nI 2 else σ 18 i 0 := by
    intro i
    rw [tp]
    by_cases e : i = t * 3 + p
    · rw [if_pos e]; simp [fc_send, wc_st, e]
    · rw [if_neg e]
      have : fc_send (wc_st (wc_st σ0 17 t p x) 4 p 0 x) (nI (1 + 1)) t p c' 18 i 0 = σ0 18 i 0 := by simp [fc_send, wc_st, e]
      rw [this, k0, if_neg e]
  have rk : ∀ i, fc_takePrepare σ0 t p c' 19 i 0 = if i = t * 3 + p then nI c' else σ 19 i 0 := by
    intro i
    rw [tp]
    by_cases e : i = t * 3 + p
    · rw [if_pos e]; simp [fc_send, wc_st, e]
    · rw [if_neg e]
      have : fc_send (wc_st (wc_st σ0 17 t p x) 4 p 0 x) (nI (1 + 1)) t p c' 19 i 0 = σ0 19 i 0 := by simp [fc_send, wc_st, e]
      rw [this, c0 19 (by decide) (by decide)]
  have cc : ∀ c'', c'' ≠ 18 → c'' ≠ 19 → c'' ≠ 20 → c'' ≠ 21 → c'' ≠ 25 → c'' ≠ 26 → c'' ≠ 17 → c'' ≠ 4 → fc_takePrepare σ0 t p c' c'' = σ c'' := by
    intro c'' q1 q2 q3 q4 q5 q6 q7 q8
    rw [tp, fc_send_c q1 q2 q3 q4 q5 q6, wc_st_c q8, wc_st_c q7, c0 c'' q1 q6]
  have lk : ∀ j, fm_prep μ0 t p 47 0 j = μ 47 0 j := by
    intro j
    rw [pp, fm_send_c (by decide) (by decide) (by decide)]
    show μ0 47 0 j = _
    rw [m0 47 (by decide)]
  have mm : ∀ u q, q < 3 → fm_prep μ0 t p 50 0 (3 * u + q) = if u = t ∧ q = p then nI 1 else μ 50 0 (3 * u + q) := by
    intro u q hq
    rw [pp, fm_send_c (by decide) (by decide) (by decide)]
    show wc_st μ0 50 0 (3 * t + p) (nI 1) 50 0 (3 * u + q) = _
    by_cases e : u = t ∧ q = p
    · obtain ⟨rfl, rfl⟩ := e
      rw [if_pos ⟨rfl, rfl⟩, wc_st_self]
    · have e3 : ¬ (3 * u + q = 3 * t + p) := by rw [sj_i3 hp hq]; exact e
      rw [if_neg e, wc_st_j e3, m0 50 (by decide)]
  have wfN := wf_takePrepare (t := t) (p := p) (c := c') w0 hp hc
  have hB : sj_B T B (S + 1) N (fc_takePrepare σ0 t p c') (fm_prep μ0 t p) := by rw [tp, pp]; exact b3
  refine ⟨⟨hB, fun u hu => ?_, wfN⟩, ⟨fun j hj => ?_, Or.inr ?_, ?_, ?_⟩⟩
  · by_cases e : u = t
    · subst e
      have hpt : ∀ q, fm_part (fm_prep μ0 u p) u q = fm_part μ u q := fun q => fm_part_eq (fun j => lk j)
      have hlvn : sj_lv (fc_takePrepare σ0 u p c') u = sj_lv σ u := sj_cnt_congr 3 (fun q hq => by
        rw [kk]
        by_cases e2 : q = p
        · subst e2
          rw [if_pos rfl, hk]
          decide
        · rw [if_neg (by omega)])
      refine Or.inr (Or.inr (Or.inl ⟨by rw [cc 8 (by decide) (by decide) (by decide) (by decide) (by decide) (by decide) (by decide) (by decide)]; exact h2, c', hc, by rw [cc 10 (by decide) (by decide) (by decide) (by decide) (by decide) (by decide) (by decide) (by decide)]; exact hcr', by rw [fm_least_eq (fun j => lk j)]; exact hl, by rw [cc 11 (by decide) (by decide) (by decide) (by decide) (by decide) (by decide) (by decide) (by decide)]; exact hfl, by rw [cc 12 (by decide) (by decide) (by decide) (by decide) (by decide) (by decide) (by decide) (by decide), hlvn]; exact haw, by rw [hlvn]; exact hlv, fun q hq => ?_⟩))
      have := h2s q hq
      unfold sj_2 at this ⊢
      rw [kk, rk, hpt, mm u q hq]
      by_cases e2 : q = p
      · subst e2
        rw [if_pos rfl, if_pos rfl, if_pos ⟨rfl, rfl⟩]
        exact Or.inl ⟨hcp, hpart, Or.inr (Or.inl ⟨rfl, rfl, rfl⟩)⟩
      · have n1 : ¬ (u * 3 + q = u * 3 + p) := by omega
        simp only [n1, e2, and_false, if_false]
        exact this
    · refine sj_F_of (hF u hu) ?_ (fun k _ => ?_) (fun q hq => ?_) (fun q hq => ?_) ?_ ?_ ?_ (fun q hq => ?_) (fun k _ => lk _)
      · rw [cc 8 (by decide) (by decide) (by decide) (by decide) (by decide) (by decide) (by decide) (by decide)]
      · rw [cc 15 (by decide) (by decide) (by decide) (by decide) (by decide) (by decide) (by decide) (by decide)]
      · rw [kk, if_neg (by omega)]
      · rw [rk, if_neg (by omega)]
      · rw [cc 10 (by decide) (by decide) (by decide) (by decide) (by decide) (by decide) (by decide) (by decide)]
      · rw [cc 12 (by decide) (by decide) (by decide) (by decide) (by decide) (by decide) (by decide) (by decide)]
      · rw [cc 11 (by decide) (by decide) (by decide) (by decide) (by decide) (by decide) (by decide) (by decide)]
      · rw [mm u q hq, if_neg (fun q => e q.1)]
  · refine ⟨by rw [kk, if_neg hj], ?_, by rw [rk, if_neg hj]⟩
    rw [tp]
    have : fc_send (wc_st (wc_st σ0 17 t p x) 4 p 0 x) (nI (1 + 1)) t p c' 20 j 0 = σ0 20 j 0 := by simp [fc_send, wc_st, hj]
    rw [this, c0 20 (by decide) (by decide)]
  · rw [tp]
    have : fc_send (wc_st (wc_st σ0 17 t p x) 4 p 0 x) (nI (1 + 1)) t p c' 20 (t * 3 + p) 0 = σ0 23 0 0 + nI 1 + σ0 2 c' 0 + σ0 2 p 0 := by simp [fc_send, wc_st]
    obtain ⟨d1, hd1, ed1⟩ := (b0.2.1 c' hc).2.2.2.2.1
    obtain ⟨d2, hd2, ed2⟩ := (b0.2.1 p hp).2.2.2.2.1
    rw [this, s3, ed1, ed2, nI_add, nI_add, nI_add]
    exact nI_lt (by omega) (by omega)
  · exact cc 23 (by decide) (by decide) (by decide) (by decide) (by decide) (by decide) (by decide) (by decide)
  · exact cc 3 (by decide) (by decide) (by decide) (by decide) (by decide) (by decide) (by decide) (by decide)
theorem rr_deal2 {T B S N t p c : Nat} {σ μ : wc_St} (h : sj_R T B S N σ μ) (ht : t < 5) (hp : p < 3) (hk : σ 18 (t * 3 + p) 0 = nI 2) (hcr : σ 10 t 0 = nI c) (hc : c < 3) :
    sj_R T B S N (fc_takePrepared (fc_deal0 σ (t * 3 + p)) t c) (fm_stampIfAll (wc_st μ 53 0 (15 * 1 + (t * 3 + p)) (nI 0)) t) ∧ sj_after T σ (fc_takePrepared (fc_deal0 σ (t * 3 + p)) t c) (t * 3 + p) := by
  obtain ⟨hb, hF, hw⟩ := h
  obtain ⟨h2, c', hc', hcr', hl, hfl, haw, hlv, h2s, hcp, hpart, hmk, -⟩ := sj_F_k2 (hF t ht) hp hk
  have ecc : c' = c := by
    rw [hcr', nI_eq (by omega) (by omega)] at hcr
    exact hcr
  subst ecc
  have hi : t * 3 + p < 15 := by omega
  obtain ⟨b0, f0⟩ := mb_free hb hi (κ := 1) (by omega) (sj_slotl hb.2.2.2.2.2.2.1 hi (by omega) hk)
  have w0 : wc_wf (fc_deal0 σ (t * 3 + p)) := wf_deal0 hw
  have c0 : ∀ c', c' ≠ 18 → c' ≠ 26 → fc_deal0 σ (t * 3 + p) c' = σ c' := by
    intro c' q1 q2; funext i j; simp [fc_deal0, wc_st, q1, q2]
  have k0 : ∀ i, fc_deal0 σ (t * 3 + p) 18 i 0 = if i = t * 3 + p then nI 0 else σ 18 i 0 := by intro i; simp [fc_deal0, wc_st]
  have m0 : ∀ c', c' ≠ 53 → wc_st μ 53 0 (15 * 1 + (t * 3 + p)) (nI 0) c' = μ c' := fun c' q => wc_st_c q
  have lv0 : sj_lv σ t = sj_lv (fc_deal0 σ (t * 3 + p)) t + 1 := sj_cnt_up (j := p) 3 hp (fun q _ hq => by rw [k0, if_neg (by omega)]) (by rw [k0, if_pos rfl]; simp) (by rw [hk]; decide)
  generalize e0 : fc_deal0 σ (t * 3 + p) = σ0 at *
  generalize e1 : wc_st μ 53 0 (15 * 1 + (t * 3 + p)) (nI 0) = μ0 at *
  have hpt : ∀ u q, fm_part μ0 u q = fm_part μ u q := fun u q => fm_part_eq (fun j => by rw [m0 47 (by decide)])
  have hl0 : fm_least μ0 t = c' := by rw [fm_least_eq (μ := μ) (fun j => by rw [m0 47 (by decide)])]; exact hl
  have hmk0 : ∀ j, μ0 50 0 j = μ 50 0 j := fun j => by rw [m0 50 (by decide)]
  have lvle : sj_lv σ0 t ≤ 3 := sj_cnt_le 3
  have haw1 : σ0 12 t 0 - nI 1 = nI (sj_lv σ0 t) := by rw [c0 12 (by decide) (by decide), haw, lv0]; exact nI_pred _
  have tp : fc_takePrepared σ0 t c' = if nI (sj_lv σ0 t) = 0 then fc_choose (wc_st σ0 12 t 0 (nI (sj_lv σ0 t))) t c' else wc_st σ0 12 t 0 (nI (sj_lv σ0 t)) := by
    unfold fc_takePrepared
    dsimp only
    rw [haw1, wc_st_self]
  have ho : ∀ u, u < 5 → u ≠ t → sj_F (wc_st σ0 12 t 0 (nI (sj_lv σ0 t))) μ0 u := by
    intro u hu hne
    refine sj_F_of (hF u hu) ?_ (fun k _ => ?_) (fun q hq => ?_) (fun q hq => ?_) ?_ ?_ ?_ (fun q hq => hmk0 _) (fun k _ => by rw [m0 47 (by decide)])
    · show σ0 8 u 0 = _
      rw [c0 8 (by decide) (by decide)]
    · show σ0 15 u k = _
      rw [c0 15 (by decide) (by decide)]
    · show σ0 18 (u * 3 + q) 0 = _
      rw [k0, if_neg (by omega)]
    · show σ0 19 (u * 3 + q) 0 = _
      rw [c0 19 (by decide) (by decide)]
    · show σ0 10 u 0 = _
      rw [c0 10 (by decide) (by decide)]
    · simp only [wc_st, hne, and_false, false_and, if_false]
      rw [c0 12 (by decide) (by decide)]
    · show σ0 11 u 0 = _
      rw [c0 11 (by decide) (by decide)]
  have h20 : σ0 8 t 0 = nI 2 := by rw [c0 8 (by decide) (by decide)]; exact h2
  have hcr0 : σ0 10 t 0 = nI c' := by rw [c0 10 (by decide) (by decide)]; exact hcr'
  have hfl0 : nI 0 < σ0 11 t 0 := by rw [c0 11 (by decide) (by decide)]; exact hfl
  rw [tp]
  by_cases hz : sj_lv σ0 t = 0
  · rw [if_pos (by rw [hz]; decide)]
    have hk0 := sj_lv0 hz
    refine ⟨rr_choose (mb_awt b0) (wf_st w0 (by decide) (by decide) (by decide)) ht hc h20 hcr0 hl0 hfl0 hk0 (fun q hq => ?_) ho, ⟨fun j hj => ⟨?_, ?_, ?_⟩, Or.inl ?_, ?_, ?_⟩⟩
    · rw [hpt, hmk0]
      rcases h2s q hq with ⟨d1, d2, ⟨d3, -⟩ | ⟨-, d4, -⟩ | ⟨-, d4⟩⟩ | ⟨d1, -, d3⟩
      · exfalso
        have := hk0 q hq
        rw [k0] at this
        by_cases e2 : t * 3 + q = t * 3 + p
        · rw [e2, hk] at d3; exact absurd d3 (by decide)
        · rw [if_neg e2, d3] at this; exact absurd this (by decide)
      · exact Or.inl ⟨d1, d2, d4⟩
      · exact Or.inl ⟨d1, d2, d4⟩
      · exact Or.inr ⟨d1, d3⟩
    · show σ0 18 j 0 = _
      rw [k0, if_neg hj]
    · show σ0 20 j 0 = _
      rw [c0 20 (by decide) (by decide)]
    · show σ0 19 j 0 = _
      rw [c0 19 (by decide) (by decide)]
    · show σ0 18 (t * 3 + p) 0 = _
      rw [k0, if_pos rfl]
    · show σ0 23 = _
      rw [c0 23 (by decide) (by decide)]
    · show σ0 3 = _
      rw [c0 3 (by decide) (by decide)]
  · rw [if_neg (by rw [wc_nI0 (by omega)]; exact hz)]
    have hsi : fm_stampIfAll μ0 t = μ0 := by
      unfold fm_stampIfAll
      rw [hl0, sia_none (2 - c') (c' + 1) _ ?_]
      have : ∃ q, q < 3 ∧ ¬ σ0 18 (t * 3 + q) 0 = nI 0 := by
        refine Classical.byContradiction (fun q => hz ?_)
        have : sj_lv σ0 t = sj_cnt (fun _ => false) 3 := sj_cnt_congr 3 (fun q' hq' => by
          have : σ0 18 (t * 3 + q') 0 = nI 0 := Classical.byContradiction (fun q2 => q ⟨q', hq', q2⟩)
          rw [this]; simp)
        rw [this]; rfl
      obtain ⟨q, hq, hkn⟩ := this
      have hne : ¬ (t * 3 + q = t * 3 + p) := by
        intro e2
        rw [k0, if_pos e2] at hkn
        exact hkn rfl
      have hkq : σ0 18 (t * 3 + q) 0 = σ 18 (t * 3 + q) 0 := by rw [k0, if_neg hne]
      rw [hkq] at hkn
      rcases h2s q hq with ⟨d1, d2, ⟨d3, -⟩ | ⟨d3, -⟩ | ⟨d3, -⟩⟩ | ⟨-, d3, -⟩
      · have hlq := sj_slotl b0.2.2.2.2.2.2.1 (i := t * 3 + q) (κ := 0) (by omega) (by omega) (by rw [hkq]; exact d3)
        refine ⟨q, by omega, by omega, Or.inl ?_⟩
        have := hlq.2.1
        rw [show 15 * 0 + (t * 3 + q) = 3 * t + q by omega] at this
        rw [this, ← nI_0]
        exact hlq.2.2.2.1
      · have hlq := sj_slotl b0.2.2.2.2.2.2.1 (i := t * 3 + q) (κ := 1) (by omega) (by omega) (by rw [hkq]; exact d3)
        refine ⟨q, by omega, by omega, Or.inr ?_⟩
        have := hlq.2.1
        rw [show 15 * 1 + (t * 3 + q) = 15 + 3 * t + q by omega] at this
        rw [this, ← nI_0]
        exact hlq.2.2.2.1
      · exact absurd d3 hkn
      · exact absurd d3 hkn
    rw [hsi]
    refine ⟨⟨mb_awt b0, fun u hu => ?_, wf_st w0 (by decide) (by decide) (by decide)⟩, ⟨fun j hj => ⟨?_, ?_, ?_⟩, Or.inl ?_, ?_, ?_⟩⟩
    · by_cases e : u = t
      · subst e
        refine Or.inr (Or.inr (Or.inl ⟨h20, c', hc, hcr0, hl0, hfl0, by rw [wc_st_self]; rfl, by show 0 < sj_lv σ0 u; omega, fun q hq => ?_⟩))
        show sj_2 σ0 μ0 u c' q
        have := h2s q hq
        unfold sj_2 at this ⊢
        rw [k0, hpt, hmk0, c0 19 (by decide) (by decide)]
        by_cases e2 : u * 3 + q = u * 3 + p
        · have e3 : q = p := by omega
          subst e3
          rw [if_pos rfl]
          exact Or.inl ⟨hcp, hpart, Or.inr (Or.inr ⟨rfl, hmk⟩)⟩
        · rw [if_neg e2]; exact this
      · exact ho u hu e
    · show σ0 18 j 0 = _
      rw [k0, if_neg hj]
    · show σ0 20 j 0 = _
      rw [c0 20 (by decide) (by decide)]
    · show σ0 19 j 0 = _
      rw [c0 19 (by decide) (by decide)]
    · show σ0 18 (t * 3 + p) 0 = _
      rw [k0, if_pos rfl]
    · show σ0 23 = _
      rw [c0 23 (by decide) (by decide)]
    · show σ0 3 = _
      rw [c0 3 (by decide) (by decide)]

theorem fc_finish_c {σ : wc_St} {t p c : Nat} (h1 : c ≠ 5) (h2 : c ≠ 6) (h3 : c ≠ 7) (h4 : c ≠ 15) (h5 : c ≠ 17) (h6 : c ≠ 4) : fc_finish σ t p c = σ c := by
  have e : fc_finish σ t p = fc_raise (wc_st (sj_f3 σ t p) 17 t p (nI 0)) p ((wc_st (sj_f3 σ t p) 17 t p (nI 0)) 13 t 0) := rfl
  rw [e]
  unfold fc_raise
  rw [wc_st_c h6, wc_st_c h5, sj_f3_c h1 h2 h3 h4]
theorem fm_finish_c {μ : wc_St} {t p c : Nat} (h1 : c ≠ 37) (h2 : c ≠ 38) (h3 : c ≠ 39) (h4 : c ≠ 40) (h5 : c ≠ 47) (h6 : c ≠ 48) (h7 : c ≠ 50) (h8 : c ≠ 36) : fm_finish μ t p c = μ c := by
  have e : fm_finish μ t p = fm_raise (wc_st (sj_g3 μ t p) 50 0 (3 * t + p) (nI 0)) p ((wc_st (sj_g3 μ t p) 50 0 (3 * t + p) (nI 0)) 44 0 t) := rfl
  rw [e]
  unfold fm_raise
  rw [wc_st_c h8, wc_st_c h7, sj_g3_c h1 h2 h3 h4 h5 h6]
theorem fc_finish_lck {σ : wc_St} {t p u k : Nat} (hp : p < 3) (hk : k < 9) : fc_finish σ t p 15 u k = if u = t ∧ k % 3 = p then nI 0 else σ 15 u k := by
  have e : fc_finish σ t p 15 u k = sj_f3 σ t p 15 u k := rfl
  rw [e, sj_f3_lck hp hk]
theorem fm_finish_lock {μ : wc_St} {t p u k : Nat} (ht : t < 5) (hu : u < 5) (hp : p < 3) (hk : k < 9) : fm_finish μ t p 47 0 (9 * u + k) = if u = t ∧ k % 3 = p then nI 0 else μ 47 0 (9 * u + k) := by
  have e : fm_finish μ t p 47 0 (9 * u + k) = sj_g3 μ t p 47 0 (9 * u + k) := rfl
  rw [e, sj_g3_lock ht hu hp hk]
theorem fm_finish_marked {μ : wc_St} {t p u q : Nat} (hp : p < 3) (hq : q < 3) : fm_finish μ t p 50 0 (3 * u + q) = if u = t ∧ q = p then nI 0 else μ 50 0 (3 * u + q) := by
  have e : fm_finish μ t p 50 0 (3 * u + q) = wc_st (sj_g3 μ t p) 50 0 (3 * t + p) (nI 0) 50 0 (3 * u + q) := rfl
  rw [e]
  by_cases h : u = t ∧ q = p
  · obtain ⟨rfl, rfl⟩ := h
    rw [if_pos ⟨rfl, rfl⟩, wc_st_self]
  · have e3 : ¬ (3 * u + q = 3 * t + p) := by rw [sj_i3 hp hq]; exact h
    rw [if_neg h, wc_st_j e3, sj_g3_c (by decide) (by decide) (by decide) (by decide) (by decide) (by decide)]
theorem fm_finish_part {μ : wc_St} {t p u q : Nat} (ht : t < 5) (hu : u < 5) (hp : p < 3) (hq : q < 3) : fm_part (fm_finish μ t p) u q = if u = t ∧ q = p then nI 0 else fm_part μ u q := by
  have l : ∀ k, k < 9 → fm_finish μ t p 47 0 (9 * u + k) = if u = t ∧ k % 3 = p then nI 0 else μ 47 0 (9 * u + k) := fun k hk => fm_finish_lock ht hu hp hk
  unfold fm_part
  rw [show 9 * u + q + 3 = 9 * u + (q + 3) by omega, show 9 * u + q + 6 = 9 * u + (q + 6) by omega, l q (by omega), l (q + 3) (by omega), l (q + 6) (by omega)]
  by_cases e : u = t ∧ q = p
  · obtain ⟨rfl, rfl⟩ := e
    have n1 : u = u ∧ q % 3 = q := ⟨rfl, by omega⟩
    have n2 : u = u ∧ (q + 3) % 3 = q := ⟨rfl, by omega⟩
    have n3 : u = u ∧ (q + 6) % 3 = q := ⟨rfl, by omega⟩
    rw [if_pos n1, if_pos n2, if_pos n3, if_pos (show u = u ∧ q = q from ⟨rfl, rfl⟩)]
    decide
  · have n1 : ¬ (u = t ∧ q % 3 = p) := fun z => e ⟨z.1, by omega⟩
    have n2 : ¬ (u = t ∧ (q + 3) % 3 = p) := fun z => e ⟨z.1, by omega⟩
    have n3 : ¬ (u = t ∧ (q + 6) % 3 = p) := fun z => e ⟨z.1, by omega⟩
    rw [if_neg n1, if_neg n2, if_neg n3, if_neg e]
theorem rr_deal3 {T B S N t p : Nat} {σ μ : wc_St} (h : sj_R T B S N σ μ) (hN : N ≤ 512) (ht : t < 5) (hp : p < 3) (hk : σ 18 (t * 3 + p) 0 = nI 3) :
    sj_R T B S N (fc_finish (fc_deal0 σ (t * 3 + p)) t p) (fm_finish (wc_st μ 53 0 (15 * 2 + (t * 3 + p)) (nI 0)) t p) ∧ sj_after T σ (fc_finish (fc_deal0 σ (t * 3 + p)) t p) (t * 3 + p) := by
  obtain ⟨hb, hF, hw⟩ := h
  obtain ⟨h4, h4s⟩ := sj_F_k3 (hF t ht) hp hk
  have hi : t * 3 + p < 15 := by omega
  obtain ⟨b0, f0⟩ := mb_free hb hi (κ := 2) (by omega) (sj_slotl hb.2.2.2.2.2.2.1 hi (by omega) hk)
  have w0 : wc_wf (fc_deal0 σ (t * 3 + p)) := wf_deal0 hw
  have c0 : ∀ c', c' ≠ 18 → c' ≠ 26 → fc_deal0 σ (t * 3 + p) c' = σ c' := by
    intro c' q1 q2; funext i j; simp [fc_deal0, wc_st, q1, q2]
  have k0 : ∀ i, fc_deal0 σ (t * 3 + p) 18 i 0 = if i = t * 3 + p then nI 0 else σ 18 i 0 := by intro i; simp [fc_deal0, wc_st]
  have m0 : ∀ c', c' ≠ 53 → wc_st μ 53 0 (15 * 2 + (t * 3 + p)) (nI 0) c' = μ c' := fun c' q => wc_st_c q
  generalize e0 : fc_deal0 σ (t * 3 + p) = σ0 at *
  generalize e1 : wc_st μ 53 0 (15 * 2 + (t * 3 + p)) (nI 0) = μ0 at *
  have fc : ∀ c', c' ≠ 5 → c' ≠ 6 → c' ≠ 7 → c' ≠ 15 → c' ≠ 17 → c' ≠ 4 → fc_finish σ0 t p c' = σ0 c' := fun c' q1 q2 q3 q4 q5 q6 => fc_finish_c q1 q2 q3 q4 q5 q6
  have hpt : ∀ u q, fm_part μ0 u q = fm_part μ u q := fun u q => fm_part_eq (fun j => by rw [m0 47 (by decide)])
  have kk : ∀ i, fc_finish σ0 t p 18 i 0 = if i = t * 3 + p then nI 0 else σ 18 i 0 := fun i => by rw [fc 18 (by decide) (by decide) (by decide) (by decide) (by decide) (by decide)]; exact k0 i
  have cc : ∀ c', c' ≠ 5 → c' ≠ 6 → c' ≠ 7 → c' ≠ 15 → c' ≠ 17 → c' ≠ 4 → c' ≠ 18 → c' ≠ 26 → fc_finish σ0 t p c' = σ c' := fun c' q1 q2 q3 q4 q5 q6 q7 q8 => by rw [fc c' q1 q2 q3 q4 q5 q6, c0 c' q7 q8]
  refine ⟨⟨mb_finish b0 hN ht hp, fun u hu => ?_, wf_finish w0⟩, ⟨fun j hj => ⟨?_, ?_, ?_⟩, Or.inl ?_, ?_, ?_⟩⟩
  · by_cases e : u = t
    · subst e
      refine Or.inr (Or.inr (Or.inr (Or.inr ⟨by rw [cc 8 (by decide) (by decide) (by decide) (by decide) (by decide) (by decide) (by decide) (by decide)]; exact h4, fun q hq => ?_⟩)))
      have := h4s q hq
      unfold sj_4 at this ⊢
      rw [fm_finish_part ht hu hp hq, hpt, fm_finish_marked hp hq, m0 50 (by decide), kk, cc 19 (by decide) (by decide) (by decide) (by decide) (by decide) (by decide) (by decide) (by decide)]
      by_cases e2 : q = p
      · subst e2
        refine Or.inl ?_
        simp [nI_0]
      · have n1 : ¬ (u * 3 + q = u * 3 + p) := by omega
        have n2 : ¬ (u = u ∧ q = p) := fun z => e2 z.2
        rw [if_neg n2, if_neg n2, if_neg n1]
        exact this
    · refine sj_F_of (hF u hu) ?_ (fun k hk => ?_) (fun q hq => ?_) (fun q hq => ?_) ?_ ?_ ?_ (fun q hq => ?_) (fun k hk => ?_)
      · rw [cc 8 (by decide) (by decide) (by decide) (by decide) (by decide) (by decide) (by decide) (by decide)]
      · rw [fc_finish_lck hp hk, if_neg (fun z => e z.1), c0 15 (by decide) (by decide)]
      · rw [kk, if_neg (by omega)]
      · rw [cc 19 (by decide) (by decide) (by decide) (by decide) (by decide) (by decide) (by decide) (by decide)]
      · rw [cc 10 (by decide) (by decide) (by decide) (by decide) (by decide) (by decide) (by decide) (by decide)]
      · rw [cc 12 (by decide) (by decide) (by decide) (by decide) (by decide) (by decide) (by decide) (by decide)]
      · rw [cc 11 (by decide) (by decide) (by decide) (by decide) (by decide) (by decide) (by decide) (by decide)]
      · rw [fm_finish_marked hp hq, if_neg (fun z => e z.1), m0 50 (by decide)]
      · rw [fm_finish_lock ht hu hp hk, if_neg (fun z => e z.1), m0 47 (by decide)]
  · rw [kk, if_neg hj]
  · rw [cc 20 (by decide) (by decide) (by decide) (by decide) (by decide) (by decide) (by decide) (by decide)]
  · rw [cc 19 (by decide) (by decide) (by decide) (by decide) (by decide) (by decide) (by decide) (by decide)]
  · rw [kk, if_pos rfl]
  · exact cc 23 (by decide) (by decide) (by decide) (by decide) (by decide) (by decide) (by decide) (by decide)
  · exact cc 3 (by decide) (by decide) (by decide) (by decide) (by decide) (by decide) (by decide) (by decide)
/-- any message -/
theorem rr_deal {T B S N i κ : Nat} {σ μ : wc_St} (h : sj_R T B S N σ μ) (hN : N ≤ 512) (hi : i < 15) (hκ : κ < 3) (hT : T < 2 ^ 29) (hT1 : 0 < T) (hS : S + 1 < 2 ^ 30) (hk : σ 18 i 0 = nI (κ + 1)) :
    sj_R T B (if κ = 0 then S + 1 else S) N (fc_deal σ (i / 3) (i % 3) (fc_crd σ (i / 3))) (fm_deal μ (15 * κ + i)) ∧ sj_after T σ (fc_deal σ (i / 3) (i % 3) (fc_crd σ (i / 3))) i := by
  have ei : i = i / 3 * 3 + i % 3 := by omega
  have ht : i / 3 < 5 := by omega
  have hp : i % 3 < 3 := by omega
  obtain ⟨c, hc, hcr⟩ := h.2.2.1 (i / 3) ht
  rw [fc_crd_eq hcr hc]
  generalize i / 3 = t at *
  generalize i % 3 = p at *
  subst ei
  unfold fc_deal fm_deal
  dsimp only
  rw [hk]
  rcases (show κ = 0 ∨ κ = 1 ∨ κ = 2 by omega) with rfl | rfl | rfl
  · rw [if_pos (show (15 * 0 + (t * 3 + p)) / 15 = 0 by omega), show (15 * 0 + (t * 3 + p)) % 15 / 3 = t by omega, show (15 * 0 + (t * 3 + p)) % 3 = p by omega, if_pos rfl, if_pos rfl]
    exact rr_deal1 h ht hp hT hT1 hS hk hcr hc
  · rw [if_neg (show ¬ (15 * 1 + (t * 3 + p)) / 15 = 0 by omega), if_pos (show (15 * 1 + (t * 3 + p)) / 15 = 1 by omega), show (15 * 1 + (t * 3 + p)) % 15 / 3 = t by omega, if_neg (show ¬ nI (1 + 1) = nI 1 by decide), if_pos (show nI (1 + 1) = nI 2 from rfl), if_neg (show ¬ (1 = 0) by omega)]
    exact rr_deal2 h ht hp hk hcr hc
  · rw [if_neg (show ¬ (15 * 2 + (t * 3 + p)) / 15 = 0 by omega), if_neg (show ¬ (15 * 2 + (t * 3 + p)) / 15 = 1 by omega), show (15 * 2 + (t * 3 + p)) % 15 / 3 = t by omega, show (15 * 2 + (t * 3 + p)) % 3 = p by omega, if_neg (show ¬ nI (2 + 1) = nI 1 by decide), if_neg (show ¬ nI (2 + 1) = nI 2 by decide), if_neg (show ¬ (2 = 0) by omega)]
    exact rr_deal3 h hN ht hp hk
