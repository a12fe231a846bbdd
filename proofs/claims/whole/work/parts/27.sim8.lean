/-! A transaction ends. -/
theorem fin1_swap {μ : wc_St} {t k c j : Nat} {x : Int32} (hc : c = 53 ∨ c = 52 ∨ c = 54) : fm_fin1 (wc_st μ c 0 j x) t k = wc_st (fm_fin1 μ t k) c 0 j x := by
  have n1 : c ≠ 48 := by rcases hc with rfl | rfl | rfl <;> decide
  have n2 : c ≠ 37 := by rcases hc with rfl | rfl | rfl <;> decide
  have n3 : c ≠ 44 := by rcases hc with rfl | rfl | rfl <;> decide
  have n4 : c ≠ 49 := by rcases hc with rfl | rfl | rfl <;> decide
  have n5 : c ≠ 47 := by rcases hc with rfl | rfl | rfl <;> decide
  have n6 : c ≠ 38 := by rcases hc with rfl | rfl | rfl <;> decide
  have n7 : c ≠ 39 := by rcases hc with rfl | rfl | rfl <;> decide
  have n8 : c ≠ 40 := by rcases hc with rfl | rfl | rfl <;> decide
  have ev : fm_vers (wc_st μ c 0 j x) = fm_vers μ := by unfold fm_vers; rw [wc_st_c n2.symm]
  unfold fm_fin1
  rw [wc_st_c n1.symm]
  split
  · funext c' i' j'
    by_cases e : c' = c
    · subst e; simp [fm_clr, wc_st, n1, n5]
    · simp [fm_clr, wc_st, e]
  · funext c' i' j'
    by_cases e : c' = c
    · subst e; simp [fm_clr, fm_add, wc_st, n1, n2, n5, n6, n7, n8]
    · have q1 : wc_st μ c 0 j x 44 = μ 44 := wc_st_c n3.symm
      have q2 : wc_st μ c 0 j x 49 = μ 49 := wc_st_c n4.symm
      have q3 : wc_st μ c 0 j x c' = μ c' := wc_st_c e
      simp only [fm_clr, fm_add, ev]
      simp [wc_st, e, n3.symm, n4.symm]
theorem finish_swap {μ : wc_St} {t p c j : Nat} {x : Int32} (hc : c = 53 ∨ c = 52 ∨ c = 54) : fm_finish (wc_st μ c 0 j x) t p = wc_st (fm_finish μ t p) c 0 j x := by
  have e : ∀ ν, fm_finish ν t p = fm_raise (wc_st (sj_g3 ν t p) 50 0 (3 * t + p) (nI 0)) p ((wc_st (sj_g3 ν t p) 50 0 (3 * t + p) (nI 0)) 44 0 t) := fun ν => rfl
  have g : sj_g3 (wc_st μ c 0 j x) t p = wc_st (sj_g3 μ t p) c 0 j x := by
    unfold sj_g3
    rw [fin1_swap hc, fin1_swap hc, fin1_swap hc]
  have n1 : c ≠ 50 := by rcases hc with rfl | rfl | rfl <;> decide
  have n2 : c ≠ 36 := by rcases hc with rfl | rfl | rfl <;> decide
  have n3 : c ≠ 44 := by rcases hc with rfl | rfl | rfl <;> decide
  rw [e, e, g]
  generalize sj_g3 μ t p = ν
  unfold fm_raise
  funext c' i' j'
  by_cases e : c' = c
  · subst e; simp [wc_st, n1, n2]
  · simp [wc_st, e, n2.symm, n3.symm]
theorem send_swap {μ : wc_St} {κ t q o u p : Nat} : fm_finish (fm_send μ κ t q o) u p = fm_send (fm_finish μ u p) κ t q o := by
  unfold fm_send
  dsimp only
  rw [finish_swap (Or.inr (Or.inr rfl)), finish_swap (Or.inr (Or.inl rfl)), finish_swap (Or.inl rfl)]
  have a1 : fm_finish μ u p 31 = μ 31 := fm_finish_c (by decide) (by decide) (by decide) (by decide) (by decide) (by decide) (by decide) (by decide)
  have a2 : fm_finish μ u p 34 = μ 34 := fm_finish_c (by decide) (by decide) (by decide) (by decide) (by decide) (by decide) (by decide) (by decide)
  have a3 : fm_finish μ u p 52 = μ 52 := fm_finish_c (by decide) (by decide) (by decide) (by decide) (by decide) (by decide) (by decide) (by decide)
  rw [a1, a2]
  have b1 : wc_st (fm_finish μ u p) 53 0 (15 * κ + 3 * t + q) (μ 31 0 0 + nI 1 + μ 34 0 q + μ 34 0 o) 52 = μ 52 := by rw [wc_st_c (by decide), a3]
  have b2 : wc_st μ 53 0 (15 * κ + 3 * t + q) (μ 31 0 0 + nI 1 + μ 34 0 q + μ 34 0 o) 52 = μ 52 := by rw [wc_st_c (by decide)]
  rw [b1, b2, wc_st_self, wc_st_self]
theorem sendAll_swap {κ t c : Nat} (ht : t < 5) (hc : c < 3) : ∀ (n q : Nat) (μ : wc_St), c < q → q + n = 3 → fm_finish (fm_sendAll κ t c n q μ) t c = fm_sendAll κ t c n q (fm_finish μ t c) := by
  intro n
  induction n with
  | zero => intro q μ _ _; rfl
  | succ n ih =>
    intro q μ h1 h2
    unfold fm_sendAll
    rw [ih (q + 1) _ (by omega) (by omega), fm_finish_part ht ht hc (by omega), if_neg (show ¬ (t = t ∧ q = c) by omega)]
    split
    · rfl
    · rw [send_swap]
theorem rr_end {T B S N t c : Nat} {σ μ : wc_St} (h : sj_R T B S N σ μ) (hN : N ≤ 512) (ht : t < 5) (hT : T < 2 ^ 30) (hS : S + 3 < 2 ^ 30) (h3 : σ 8 t 0 = nI 3) (hcr : σ 10 t 0 = nI c) (hc : c < 3) : ∃ S', S' ≤ S + 2 ∧ sj_R T B S' N (fc_endOne σ t c) (fm_endOne μ t c) ∧ (fc_endOne σ t c 23 = σ 23) := by
  obtain ⟨hb, hF, hw⟩ := h
  obtain ⟨c', hc', hcr', hl, h3s⟩ := sj_F3 (hF t ht) h3
  have ecc : c' = c := by
    rw [hcr', nI_eq (by omega) (by omega)] at hcr
    exact hcr
  subst ecc
  obtain ⟨s1, s2, s3, s4, -⟩ := hb.1
  have b1 : sj_B T B S N (wc_st (wc_st σ 8 t 0 (nI 4)) 14 t 0 (nI T)) (wc_st (wc_st μ 42 0 t (nI 4)) 46 0 t (nI T)) := mb_end (mb_sta hb (by omega) (by rw [h3]; decide))
  have b2 := mb_finish b1 hN ht hc
  have x0 : ∀ c'', c'' ≠ 8 → c'' ≠ 14 → wc_st (wc_st σ 8 t 0 (nI 4)) 14 t 0 (nI T) c'' = σ c'' := fun c'' q1 q2 => by rw [wc_st_c q2, wc_st_c q1]
  have y0 : ∀ c'', c'' ≠ 42 → c'' ≠ 46 → wc_st (wc_st μ 42 0 t (nI 4)) 46 0 t (nI T) c'' = μ c'' := fun c'' q1 q2 => by rw [wc_st_c q2, wc_st_c q1]
  have st1 : ∀ u, wc_st (wc_st σ 8 t 0 (nI 4)) 14 t 0 (nI T) 8 u 0 = if u = t then nI 4 else σ 8 u 0 := by intro u; simp [wc_st]
  have ec : fc_endOne σ t c' = (fc_sto (nI 3) t c' 3 0 0 (fc_finish (wc_st (wc_st σ 8 t 0 (nI 4)) 14 t 0 (nI T)) t c')).2 := by
    unfold fc_endOne
    dsimp only
    rw [show wc_st σ 8 t 0 (nI 4) 23 0 0 = nI T from s3]
  have em : fm_endOne μ t c' = fm_sendAll 2 t c' (2 - c') (c' + 1) (fm_finish (wc_st (wc_st μ 42 0 t (nI 4)) 46 0 t (nI T)) t c') := by
    unfold fm_endOne
    dsimp only
    rw [show wc_st μ 42 0 t (nI 4) 31 0 0 = nI T from s4, sendAll_swap ht hc _ _ _ (by omega) (by omega)]
  have w1 : wc_wf (wc_st (wc_st σ 8 t 0 (nI 4)) 14 t 0 (nI T)) := wf_st (wf_st hw (by decide) (by decide) (by decide)) (by decide) (by decide) (by decide)
  generalize e1 : wc_st (wc_st σ 8 t 0 (nI 4)) 14 t 0 (nI T) = σ1 at *
  generalize e2 : wc_st (wc_st μ 42 0 t (nI 4)) 46 0 t (nI T) = μ1 at *
  have pt : ∀ u q, fm_part μ1 u q = fm_part μ u q := fun u q => fm_part_eq (fun j => by rw [y0 47 (by decide) (by decide)])
  have pt2 : ∀ u q, u < 5 → q < 3 → fm_part (fm_finish μ1 t c') u q = if u = t ∧ q = c' then nI 0 else fm_part μ u q := fun u q hu hq => by rw [fm_finish_part ht hu hc hq, pt]
  have hsk : fc_sto (nI 3) t c' 3 0 0 (fc_finish σ1 t c') = fc_sto (nI 3) t c' (2 - c') (c' + 1) 0 (fc_finish σ1 t c') := fc_sto_skip hc (fun p hp => by
    rw [ss_holds b2.2.2.2.1 ht (by omega), pt2 t p ht (by omega), if_neg (show ¬ (t = t ∧ p = c') by omega)]
    exact (fm_least_spec hl hc).2 p hp)
  have fc : ∀ c'', c'' ≠ 5 → c'' ≠ 6 → c'' ≠ 7 → c'' ≠ 15 → c'' ≠ 17 → c'' ≠ 4 → fc_finish σ1 t c' c'' = σ1 c'' := fun c'' q1 q2 q3 q4 q5 q6 => fc_finish_c q1 q2 q3 q4 q5 q6
  have k2 : ∀ i, fc_finish σ1 t c' 18 i 0 = σ 18 i 0 := fun i => by rw [fc 18 (by decide) (by decide) (by decide) (by decide) (by decide) (by decide), x0 18 (by decide) (by decide)]
  obtain ⟨S', g1, g2, g3, g4, -⟩ := rr_sto (κ := 2) ht hc (by omega) (by omega) hT (2 - c') (c' + 1) 0 (fc_finish σ1 t c') (fm_finish μ1 t c') S (by omega) (by omega) b2 (by omega) (fun p _ hp _ => sj_slot b2.2.2.2.2.2.2.1 (by omega) (by rw [k2]; exact (h3s p hp).1))
  have wf2 : wc_wf (fc_sto (nI 3) t c' 3 0 0 (fc_finish σ1 t c')).2 := wf_sto hc 3 0 0 _ (by omega) (wf_finish w1)
  rw [ec, em]
  rw [hsk] at wf2 ⊢
  have sc : ∀ c'', c'' ≠ 18 → c'' ≠ 19 → c'' ≠ 20 → c'' ≠ 21 → c'' ≠ 25 → c'' ≠ 26 → (fc_sto (nI (2 + 1)) t c' (2 - c') (c' + 1) 0 (fc_finish σ1 t c')).2 c'' = fc_finish σ1 t c' c'' := fun c'' q1 q2 q3 q4 q5 q6 => fc_sto_c q1 q2 q3 q4 q5 q6 _ _ _ _
  have mc : ∀ c'', c'' ≠ 53 → c'' ≠ 52 → c'' ≠ 54 → fm_sendAll 2 t c' (2 - c') (c' + 1) (fm_finish μ1 t c') c'' = fm_finish μ1 t c' c'' := fun c'' q1 q2 q3 => fm_sendAll_c q1 q2 q3 _ _ _
  have e3' : fc_sto (nI 3) t c' (2 - c') (c' + 1) 0 (fc_finish σ1 t c') = fc_sto (nI (2 + 1)) t c' (2 - c') (c' + 1) 0 (fc_finish σ1 t c') := rfl
  rw [e3'] at wf2 ⊢
  generalize e3 : fc_sto (nI (2 + 1)) t c' (2 - c') (c' + 1) 0 (fc_finish σ1 t c') = r at *
  generalize e4 : fm_sendAll 2 t c' (2 - c') (c' + 1) (fm_finish μ1 t c') = μ2 at *
  have pt3 : ∀ u q, u < 5 → q < 3 → fm_part μ2 u q = if u = t ∧ q = c' then nI 0 else fm_part μ u q := fun u q hu hq => by
    rw [fm_part_eq (μ := fm_finish μ1 t c') (fun j => by rw [mc 47 (by decide) (by decide) (by decide)])]
    exact pt2 u q hu hq
  have mk3 : ∀ u q, q < 3 → μ2 50 0 (3 * u + q) = if u = t ∧ q = c' then nI 0 else μ 50 0 (3 * u + q) := fun u q hq => by
    rw [mc 50 (by decide) (by decide) (by decide), fm_finish_marked hc hq, y0 50 (by decide) (by decide)]
  have lk3 : ∀ u k, u < 5 → k < 9 → μ2 47 0 (9 * u + k) = if u = t ∧ k % 3 = c' then nI 0 else μ 47 0 (9 * u + k) := fun u k hu hk => by
    rw [mc 47 (by decide) (by decide) (by decide), fm_finish_lock ht hu hc hk, y0 47 (by decide) (by decide)]
  have cc : ∀ c'', c'' ≠ 5 → c'' ≠ 6 → c'' ≠ 7 → c'' ≠ 15 → c'' ≠ 17 → c'' ≠ 4 → c'' ≠ 18 → c'' ≠ 19 → c'' ≠ 20 → c'' ≠ 21 → c'' ≠ 25 → c'' ≠ 26 → c'' ≠ 8 → c'' ≠ 14 → r.2 c'' = σ c'' := fun c'' q1 q2 q3 q4 q5 q6 q7 q8 q9 q10 q11 q12 q13 q14 => by
    rw [sc c'' q7 q8 q9 q10 q11 q12, fc c'' q1 q2 q3 q4 q5 q6, x0 c'' q13 q14]
  have sta : ∀ u, r.2 8 u 0 = if u = t then nI 4 else σ 8 u 0 := fun u => by
    rw [sc 8 (by decide) (by decide) (by decide) (by decide) (by decide) (by decide), fc 8 (by decide) (by decide) (by decide) (by decide) (by decide) (by decide), st1]
  have r2 : ∀ i, fc_finish σ1 t c' 19 i 0 = σ 19 i 0 := fun i => by rw [fc 19 (by decide) (by decide) (by decide) (by decide) (by decide) (by decide), x0 19 (by decide) (by decide)]
  refine ⟨S', by omega, ⟨g2, fun u hu => ?_, wf2⟩, cc 23 (by decide) (by decide) (by decide) (by decide) (by decide) (by decide) (by decide) (by decide) (by decide) (by decide) (by decide) (by decide) (by decide) (by decide)⟩
  by_cases e : u = t
  · subst e
    refine Or.inr (Or.inr (Or.inr (Or.inr ⟨by rw [sta, if_pos rfl], fun q hq => ?_⟩)))
    unfold sj_4
    rw [pt3 u q hu hq, mk3 u q hq]
    by_cases e5 : q = c'
    · subst e5
      rw [if_pos (show u = u ∧ q = q from ⟨rfl, rfl⟩), if_pos (show u = u ∧ q = q from ⟨rfl, rfl⟩)]
      refine Or.inl ⟨by decide, ?_, rfl⟩
      rw [(g4 (u * 3 + q) (fun p' _ _ _ => by omega)).1, k2]
      exact (h3s q hq).1
    · rw [if_neg (fun z => e5 z.2), if_neg (fun z => e5 z.2)]
      rcases (h3s q hq).2 with ⟨d1, d2⟩ | ⟨d1, d2⟩
      · refine Or.inl ⟨d1, ?_, d2⟩
        rw [(g4 (u * 3 + q) (fun p' h1' h2' h3' h4' => by
          have : p' = q := by omega
          subst this
          rw [pt2 u p' hu hq, if_neg (fun z => e5 z.2)] at h3'
          exact h3' d1)).1, k2]
        exact (h3s q hq).1
      · have hqc : c' < q := by
          refine Classical.byContradiction (fun z => d1 ?_)
          exact (fm_least_spec hl hc).2 q (by omega)
        have := g3 q (by omega) hq (by rw [pt2 u q hu hq, if_neg (fun z => e5 z.2)]; exact d1)
        exact Or.inr ⟨d1, this.1, d2, this.2⟩
  · refine sj_F_of (hF u hu) (by rw [sta, if_neg e]) (fun k hk => ?_) (fun q hq => ?_) (fun q hq => ?_) ?_ ?_ ?_ (fun q hq => ?_) (fun k hk => ?_)
    · rw [sc 15 (by decide) (by decide) (by decide) (by decide) (by decide) (by decide), fc_finish_lck hc hk, if_neg (fun z => e z.1), x0 15 (by decide) (by decide)]
    · rw [(g4 (u * 3 + q) (fun p' _ _ _ => by omega)).1, k2]
    · rw [(g4 (u * 3 + q) (fun p' _ _ _ => by omega)).2, r2]
    · rw [cc 10 (by decide) (by decide) (by decide) (by decide) (by decide) (by decide) (by decide) (by decide) (by decide) (by decide) (by decide) (by decide) (by decide) (by decide)]
    · rw [cc 12 (by decide) (by decide) (by decide) (by decide) (by decide) (by decide) (by decide) (by decide) (by decide) (by decide) (by decide) (by decide) (by decide) (by decide)]
    · rw [cc 11 (by decide) (by decide) (by decide) (by decide) (by decide) (by decide) (by decide) (by decide) (by decide) (by decide) (by decide) (by decide) (by decide) (by decide)]
    · rw [mk3 u q hq, if_neg (fun z => e z.1)]
    · rw [lk3 u k hu hk, if_neg (fun z => e z.1)]
