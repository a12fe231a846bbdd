/-! A stamp is chosen; commit; deal; end. -/
theorem sj_lv0 {σ : wc_St} {t : Nat} (h : sj_lv σ t = 0) : ∀ p, p < 3 → σ 18 (t * 3 + p) 0 = nI 0 := by
  intro p hp
  have := sj_cnt_zero 3 h p hp
  simpa using this
theorem sj_slot {S : Nat} {σ μ : wc_St} {i : Nat} (hG : sj_G S σ μ) (hi : i < 15) (h : σ 18 i 0 = nI 0) : sj_free σ μ i := by
  rcases hG i hi with a | ⟨κ, hκ, a, -⟩
  · exact a
  · rw [h] at a; exact absurd a (nI_ne (by omega) (by omega) (by omega))
theorem sj_slotl {S : Nat} {σ μ : wc_St} {i κ : Nat} (hG : sj_G S σ μ) (hi : i < 15) (hκ : κ < 3) (h : σ 18 i 0 = nI (κ + 1)) : sj_live S σ μ i κ := by
  rcases hG i hi with ⟨a, -⟩ | ⟨κ', hκ', a⟩
  · rw [h] at a; exact absurd a (nI_ne (by omega) (by omega) (by omega))
  · have : κ' = κ := by
      have b := a.1
      rw [h, nI_eq (by omega) (by omega)] at b
      omega
    subst this
    exact a
theorem rr_choose {T B S N t c : Nat} {σ μ : wc_St} (h : sj_B T B S N σ μ) (hw : wc_wf σ) (ht : t < 5) (hc : c < 3) (h2 : σ 8 t 0 = nI 2) (hcr : σ 10 t 0 = nI c) (hl : fm_least μ t = c) (hfl : nI 0 < σ 11 t 0) (hk : ∀ p, p < 3 → σ 18 (t * 3 + p) 0 = nI 0)
    (hm : ∀ p, p < 3 → (c < p ∧ ¬ fm_part μ t p = 0 ∧ μ 50 0 (3 * t + p) = nI 1) ∨ ((p ≤ c ∨ fm_part μ t p = 0) ∧ μ 50 0 (3 * t + p) = nI 0)) (ho : ∀ u, u < 5 → u ≠ t → sj_F σ μ u) : sj_R T B S N (fc_choose σ t c) (fm_stampIfAll μ t) := by
  have hx := ss_stamp h ht hc hfl hm
  generalize hxx : wc_mx (wc_mx (σ 11 t 0) (fc_gm σ t)) (σ 4 c 0 + nI 1) = x at hx
  have z : (nI 0).toInt = 0 := nI_toInt (by omega)
  have hx0 : nI 0 < x := by
    rw [Int32.lt_iff_toInt_lt] at hfl ⊢
    rw [← hxx, mx_i, mx_i]
    omega
  have e1 : fc_choose σ t c = wc_st (wc_st (wc_st (wc_st σ 13 t 0 x) 17 t c x) 4 c 0 x) 8 t 0 (nI 3) := by
    unfold fc_choose
    rw [hxx]
    have a1 : wc_st σ 13 t 0 x 13 t 0 = x := wc_st_self
    have a2 : wc_st (wc_st σ 13 t 0 x) 17 t c x 13 t 0 = x := wc_st_self
    dsimp only
    rw [a1, a2]
  have e2 : fm_stampIfAll μ t = wc_st (wc_st (wc_st (wc_st (wc_st μ 44 0 t x) 50 0 (3 * t + c) (nI 1)) 51 0 (3 * t + c) x) 36 0 c x) 42 0 t (nI 3) := by
    unfold fm_stampIfAll
    rw [hl, sia_some (2 - c) (c + 1) _ (fun p h3 h4 => by
      have f := sj_slot h.2.2.2.2.2.2.1 (i := t * 3 + p) (by omega) (hk p (by omega))
      refine ⟨?_, ?_⟩
      · have := f.2 0 (by omega)
        rw [show 15 * 0 + (t * 3 + p) = 3 * t + p by omega] at this
        exact this
      · have := f.2 1 (by omega)
        rw [show 15 * 1 + (t * 3 + p) = 15 + 3 * t + p by omega] at this
        exact this), ← hx]
    rfl
  rw [e1, e2]
  have pt : ∀ u p, fm_part (wc_st (wc_st (wc_st (wc_st (wc_st μ 44 0 t x) 50 0 (3 * t + c) (nI 1)) 51 0 (3 * t + c) x) 36 0 c x) 42 0 t (nI 3)) u p = fm_part μ u p := fun u p => fm_part_eq (fun j => rfl)
  have ls : ∀ u, fm_least (wc_st (wc_st (wc_st (wc_st (wc_st μ 44 0 t x) 50 0 (3 * t + c) (nI 1)) 51 0 (3 * t + c) x) 36 0 c x) 42 0 t (nI 3)) u = fm_least μ u := fun u => fm_least_eq (fun j => rfl)
  have mk : ∀ u p, p < 3 → (wc_st (wc_st (wc_st (wc_st (wc_st μ 44 0 t x) 50 0 (3 * t + c) (nI 1)) 51 0 (3 * t + c) x) 36 0 c x) 42 0 t (nI 3)) 50 0 (3 * u + p) = if u = t ∧ p = c then nI 1 else μ 50 0 (3 * u + p) := by
    intro u p hp
    by_cases e : u = t ∧ p = c
    · obtain ⟨rfl, rfl⟩ := e
      rw [if_pos ⟨rfl, rfl⟩]
      simp [wc_st]
    · have e3 : ¬ (3 * u + p = 3 * t + c) := by rw [sj_i3 hc hp]; exact e
      rw [if_neg e]
      simp [wc_st, e3]
  refine ⟨mb_sta (mb_bnd (mb_mark (mb_tst h) hc hx0)) (by omega) (by show ¬ σ 8 t 0 = nI 0; rw [h2]; decide), fun u hu => ?_, wf_st (wf_st (wf_st (wf_st hw (by decide) (by decide) (by decide)) (by decide) (by decide) (by decide)) (by decide) (by decide) (by decide)) (by decide) (by decide) (by decide)⟩
  by_cases e : u = t
  · subst e
    refine Or.inr (Or.inr (Or.inr (Or.inl ⟨wc_st_self, c, hc, hcr, by rw [ls]; exact hl, fun p hp => ⟨hk p hp, ?_⟩⟩)))
    rw [pt, mk u p hp]
    by_cases e4 : p = c
    · subst e4
      rw [if_pos ⟨rfl, rfl⟩]
      exact Or.inr ⟨(fm_least_spec hl hc).1, rfl⟩
    · rw [if_neg (fun q => e4 q.2)]
      rcases hm p hp with ⟨a1, a2, a3⟩ | ⟨a1, a2⟩
      · exact Or.inr ⟨a2, a3⟩
      · refine Or.inl ⟨?_, a2⟩
        rcases a1 with a1 | a1
        · exact (fm_least_spec hl hc).2 p (by omega)
        · exact a1
  · refine sj_F_of (ho u hu e) (by simp [wc_st, e]) (fun k hk => rfl) (fun p hp => rfl) (fun p hp => rfl) rfl rfl rfl (fun p hp => ?_) (fun k hk => rfl)
    rw [mk u p hp, if_neg (fun q => e q.1)]
theorem wc_st_id {σ : wc_St} {c i j : Nat} {x : Int32} (h : σ c i j = x) : wc_st σ c i j x = σ := by
  funext c' i' j'
  unfold wc_st
  split
  · rename_i e
    obtain ⟨rfl, rfl, rfl⟩ := e
    exact h.symm
  · rfl
theorem fm_clear_id {t : Nat} {μ : wc_St} (h : ∀ p, p < 3 → μ 50 0 (3 * t + p) = nI 0) : fm_clear t 3 0 μ = μ := by
  unfold fm_clear fm_clear fm_clear fm_clear
  rw [wc_st_id (h 0 (by omega)), wc_st_id (h 1 (by omega)), wc_st_id (h 2 (by omega))]
theorem rr_commit {T B S N t c : Nat} {σ μ : wc_St} (h : sj_R T B S N σ μ) (ht : t < 5) (hc : c < 3) (hT : T < 2 ^ 30) (hS : S + 3 < 2 ^ 30) (h1 : σ 8 t 0 = nI 1) (hl : fm_least μ t = c) : ∃ S', S' ≤ S + 2 ∧ sj_R T B S' N (fc_prepare (wc_st σ 10 t 0 (nI c)) t c) (fm_commit μ t c) := by
  obtain ⟨hb, hF, hw⟩ := h
  have hq := sj_F1 (hF t ht) h1
  obtain ⟨s1, s2, s3, s4, -⟩ := hb.1
  obtain ⟨a, ha, ea⟩ := (hb.2.1 c hc).2.2.1
  have eL := (hb.2.1 c hc).2.1
  have efl : σ 23 0 0 + σ 1 c 0 + nI 1 = nI (T + a + 1) := by rw [s3, ea, nI_add, nI_add]
  have efm : μ 31 0 0 + μ 33 0 c + nI 1 = nI (T + a + 1) := by rw [s4, ← eL, ea, nI_add, nI_add]
  have p1 : fc_prep1 (wc_st σ 10 t 0 (nI c)) t c = wc_st (wc_st (wc_st σ 10 t 0 (nI c)) 8 t 0 (nI 2)) 11 t 0 (nI (T + a + 1)) := by
    unfold fc_prep1 fc_latest
    dsimp only
    rw [← efl]
    rfl
  have b1 : sj_B T B S N (wc_st (wc_st (wc_st σ 10 t 0 (nI c)) 8 t 0 (nI 2)) 11 t 0 (nI (T + a + 1))) (wc_st (wc_st μ 42 0 t (nI 2)) 45 0 t (nI (T + a + 1))) := mb_flr (mb_sta (mb_crd hb) (by omega) (by show ¬ σ 8 t 0 = nI 0; rw [h1]; decide))
  generalize e1 : wc_st (wc_st (wc_st σ 10 t 0 (nI c)) 8 t 0 (nI 2)) 11 t 0 (nI (T + a + 1)) = σ1 at p1 b1
  generalize e2 : wc_st (wc_st μ 42 0 t (nI 2)) 45 0 t (nI (T + a + 1)) = μ1 at b1
  have k1 : ∀ i, σ1 18 i 0 = σ 18 i 0 := fun i => by rw [← e1]; rfl
  have pt : ∀ p, fm_part μ1 t p = fm_part μ t p := fun p => fm_part_eq (fun j => by rw [← e2]; rfl)
  have mk1 : ∀ j, μ1 50 0 j = μ 50 0 j := fun j => by rw [← e2]; rfl
  have ls1 : fm_least μ1 t = c := by rw [fm_least_eq (μ := μ) (fun j => by rw [← e2]; rfl)]; exact hl
  have hsk : fc_sto (nI 1) t c 3 0 0 σ1 = fc_sto (nI 1) t c (2 - c) (c + 1) 0 σ1 := fc_sto_skip hc (fun p hp => by
    rw [ss_holds b1.2.2.2.1 ht (by omega), pt]
    exact (fm_least_spec hl hc).2 p hp)
  have cm : fm_commit μ t c = fm_stampIfAll (fm_sendAll 0 t c (2 - c) (c + 1) μ1) t := by
    unfold fm_commit
    dsimp only
    have : wc_st (wc_st μ 42 0 t (nI 2)) 45 0 t (wc_st μ 42 0 t (nI 2) 31 0 0 + wc_st μ 42 0 t (nI 2) 33 0 c + nI 1) = μ1 := by
      rw [← e2, ← efm]; rfl
    rw [this, fm_clear_id (fun p hp => by rw [mk1]; exact (hq p hp).2)]
  obtain ⟨S', g1, g2, g3, g4, g5⟩ := rr_sto (κ := 0) ht hc (by omega) (by omega) hT (2 - c) (c + 1) 0 σ1 μ1 S (by omega) (by omega) b1 (by omega) (fun p _ h3 _ => sj_slot b1.2.2.2.2.2.2.1 (by omega) (by rw [k1]; exact (hq p h3).1))
  have lv1 : sj_lv σ1 t = 0 := by
    have : sj_lv σ1 t = sj_cnt (fun _ => false) 3 := sj_cnt_congr 3 (fun p hp => by rw [k1, (hq p hp).1]; simp)
    rw [this]; rfl
  have wf1 : wc_wf σ1 := by rw [← e1]; exact wf_st (wf_st (wf_crd hw hc rfl) (by decide) (by decide) (by decide)) (by decide) (by decide) (by decide)
  have wf2 : wc_wf (fc_sto (nI 1) t c 3 0 0 σ1).2 := wf_sto hc 3 0 0 σ1 (by omega) wf1
  have pr : fc_prep2 (wc_st σ 10 t 0 (nI c)) t c = wc_st (fc_sto (nI 1) t c 3 0 0 σ1).2 12 t 0 (nI (fc_sto (nI 1) t c 3 0 0 σ1).1) := by
    unfold fc_prep2
    dsimp only
    rw [p1]
  rw [cm]
  unfold fc_prepare
  dsimp only
  rw [pr]
  rw [hsk] at wf2 ⊢
  have sc : ∀ c', c' ≠ 18 → c' ≠ 19 → c' ≠ 20 → c' ≠ 21 → c' ≠ 25 → c' ≠ 26 → (fc_sto (nI 1) t c (2 - c) (c + 1) 0 σ1).2 c' = σ1 c' := fun c' q1 q2 q3 q4 q5 q6 => fc_sto_c q1 q2 q3 q4 q5 q6 _ _ _ _
  have mc : ∀ c', c' ≠ 53 → c' ≠ 52 → c' ≠ 54 → fm_sendAll 0 t c (2 - c) (c + 1) μ1 c' = μ1 c' := fun c' q1 q2 q3 => fm_sendAll_c q1 q2 q3 _ _ _
  generalize e3 : fc_sto (nI 1) t c (2 - c) (c + 1) 0 σ1 = r at *
  generalize e4 : fm_sendAll 0 t c (2 - c) (c + 1) μ1 = μ2 at *
  have pt2 : ∀ u p, fm_part μ2 u p = fm_part μ u p := fun u p => fm_part_eq (fun j => by rw [mc 47 (by decide) (by decide) (by decide), ← e2]; rfl)
  have ls2 : fm_least μ2 t = c := by rw [fm_least_eq (μ := μ1) (fun j => by rw [mc 47 (by decide) (by decide) (by decide)])]; exact ls1
  have mk2 : ∀ j, μ2 50 0 j = μ 50 0 j := fun j => by rw [mc 50 (by decide) (by decide) (by decide)]; exact mk1 j
  have st2 : r.2 8 t 0 = nI 2 := by rw [sc 8 (by decide) (by decide) (by decide) (by decide) (by decide) (by decide), ← e1]; simp [wc_st]
  have cr2 : r.2 10 t 0 = nI c := by rw [sc 10 (by decide) (by decide) (by decide) (by decide) (by decide) (by decide), ← e1]; simp [wc_st]
  have fl2 : nI 0 < r.2 11 t 0 := by
    rw [sc 11 (by decide) (by decide) (by decide) (by decide) (by decide) (by decide), ← e1, wc_st_self]
    exact nI_lt (by omega) (by omega)
  have ho : ∀ u, u < 5 → u ≠ t → sj_F (wc_st r.2 12 t 0 (nI r.1)) μ2 u := by
    intro u hu hne
    refine sj_F_of (hF u hu) ?_ (fun k hk => ?_) (fun p hp => ?_) (fun p hp => ?_) ?_ ?_ ?_ (fun p hp => mk2 _) (fun k hk => ?_)
    · show r.2 8 u 0 = _
      rw [sc 8 (by decide) (by decide) (by decide) (by decide) (by decide) (by decide), ← e1]; simp [wc_st, hne]
    · show r.2 15 u k = _
      rw [sc 15 (by decide) (by decide) (by decide) (by decide) (by decide) (by decide), ← e1]; rfl
    · show r.2 18 (u * 3 + p) 0 = _
      rw [(g4 (u * 3 + p) (fun p' _ _ _ => by omega)).1]; exact k1 _
    · show r.2 19 (u * 3 + p) 0 = _
      rw [(g4 (u * 3 + p) (fun p' _ _ _ => by omega)).2, ← e1]; rfl
    · show r.2 10 u 0 = _
      rw [sc 10 (by decide) (by decide) (by decide) (by decide) (by decide) (by decide), ← e1]; simp [wc_st, hne]
    · simp only [wc_st, hne, and_false, false_and, if_false]
      rw [sc 12 (by decide) (by decide) (by decide) (by decide) (by decide) (by decide), ← e1]; rfl
    · show r.2 11 u 0 = _
      rw [sc 11 (by decide) (by decide) (by decide) (by decide) (by decide) (by decide), ← e1]; simp [wc_st, hne]
    · rw [mc 47 (by decide) (by decide) (by decide), ← e2]; rfl
  have hr1 : r.1 = sj_lv r.2 t := by omega
  have lv3 : sj_lv r.2 t ≤ 3 := sj_cnt_le 3
  refine ⟨S', by omega, ?_⟩
  by_cases hz : r.1 = 0
  · rw [if_pos (by rw [wc_st_self, hz]; decide)]
    have hk0 := sj_lv0 (σ := r.2) (t := t) (by omega)
    refine rr_choose (mb_awt g2) (wf_st wf2 (by decide) (by decide) (by decide)) ht hc st2 cr2 ls2 fl2 hk0 (fun p hp => Or.inr ⟨?_, by rw [mk2]; exact (hq p hp).2⟩) ho
    by_cases e5 : p ≤ c
    · exact Or.inl e5
    · right
      by_cases e6 : fm_part μ t p = 0
      · rw [pt2]; exact e6
      · exfalso
        have := (g3 p (by omega) hp (by rw [pt]; exact e6)).1
        rw [hk0 p hp] at this
        exact absurd this (by decide)
  · rw [if_neg (by rw [wc_st_self, wc_nI0 (by omega)]; exact hz)]
    have hsi : fm_stampIfAll μ2 t = μ2 := by
      unfold fm_stampIfAll
      rw [ls2, sia_none (2 - c) (c + 1) _ ?_]
      have : ∃ p, p < 3 ∧ ¬ r.2 18 (t * 3 + p) 0 = nI 0 := by
        refine Classical.byContradiction (fun q => hz ?_)
        rw [hr1]
        have : sj_lv r.2 t = sj_cnt (fun _ => false) 3 := sj_cnt_congr 3 (fun p hp => by
          have : r.2 18 (t * 3 + p) 0 = nI 0 := Classical.byContradiction (fun q2 => q ⟨p, hp, q2⟩)
          rw [this]; simp)
        rw [this]; rfl
      obtain ⟨p, hp, hkn⟩ := this
      have hpc : c < p ∧ ¬ fm_part μ t p = 0 := by
        refine Classical.byContradiction (fun q => hkn ?_)
        rw [(g4 (t * 3 + p) (fun p' h1' h2' h3' h4' => by
          have : p' = p := by omega
          subst this
          rw [pt] at h3'
          exact q ⟨by omega, h3'⟩)).1, k1]
        exact (hq p hp).1
      have hkp := (g3 p (by omega) hp (by rw [pt]; exact hpc.2)).1
      have hlv := sj_slotl g2.2.2.2.2.2.2.1 (i := t * 3 + p) (κ := 0) (by omega) (by omega) hkp
      refine ⟨p, by omega, by omega, Or.inl ?_⟩
      have := hlv.2.1
      rw [show 15 * 0 + (t * 3 + p) = 3 * t + p by omega] at this
      rw [this, ← nI_0]
      exact hlv.2.2.2.1
    rw [hsi]
    refine ⟨mb_awt g2, fun u hu => ?_, wf_st wf2 (by decide) (by decide) (by decide)⟩
    by_cases e : u = t
    · subst e
      refine Or.inr (Or.inr (Or.inl ⟨st2, c, hc, cr2, ls2, fl2, by rw [wc_st_self, hr1]; rfl, by show 0 < sj_lv r.2 u; omega, fun p hp => ?_⟩))
      show sj_2 r.2 μ2 u c p
      unfold sj_2
      rw [pt2, mk2]
      by_cases e5 : c < p ∧ ¬ fm_part μ u p = 0
      · have := g3 p (by omega) hp (by rw [pt]; exact e5.2)
        exact Or.inl ⟨e5.1, e5.2, Or.inl ⟨this.1, (hq p hp).2, this.2⟩⟩
      · refine Or.inr ⟨?_, ?_, (hq p hp).2⟩
        · by_cases e6 : p ≤ c
          · exact Or.inl e6
          · exact Or.inr (Classical.byContradiction (fun q => e5 ⟨by omega, q⟩))
        · rw [(g4 (u * 3 + p) (fun p' h1' h2' h3' h4' => by
            have : p' = p := by omega
            subst this
            rw [pt] at h3'
            exact e5 ⟨by omega, h3'⟩)).1, k1]
          exact (hq p hp).1
    · exact ho u hu e
