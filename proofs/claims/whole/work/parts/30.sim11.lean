/-! The whole relation, and that each call keeps it and answers alike. -/
def sj_J (n : Nat) (σ μ : wc_St) : Prop := ∃ T B S N, T ≤ 500 * n ∧ B ≤ n ∧ S ≤ 30002 * n ∧ N ≤ n ∧ sj_R T B S N σ μ ∧ sj_X σ
theorem jj_mono {n : Nat} {σ μ : wc_St} (h : sj_J n σ μ) : sj_J (n + 1) σ μ := by
  obtain ⟨T, B, S, N, h1, h2, h3, h4, h5⟩ := h
  exact ⟨T, B, S, N, by omega, by omega, by omega, by omega, h5⟩
def sj_dec (σ σ' : wc_St) : Prop := ∀ u k, u < 5 → k < 9 → σ' 15 u k = σ 15 u k ∨ σ' 15 u k = nI 0
theorem X_dec {σ σ' : wc_St} (h : sj_X σ) (d : sj_dec σ σ') : sj_X σ' := by
  intro t u k ht hu hk hne e
  rcases d t k ht hk with a | a
  · rw [a] at e
    have := h t u k ht hu hk hne e
    rcases d u k hu hk with b | b
    · rw [b]; exact this
    · exact b
  · rw [a] at e; exact absurd e (by decide)
theorem dec_eq {σ σ' : wc_St} (h : σ' 15 = σ 15) : sj_dec σ σ' := fun u k _ _ => Or.inl (by rw [h])
theorem dec_trans {σ σ' σ'' : wc_St} (h : sj_dec σ σ') (g : sj_dec σ' σ'') : sj_dec σ σ'' := fun u k hu hk => by
  rcases g u k hu hk with b | b
  · rw [b]; exact h u k hu hk
  · exact Or.inr b
theorem dec_giveUp {σ : wc_St} {t : Nat} : sj_dec σ (fc_giveUp σ t) := fun u k _ hk => by
  have e : fc_giveUp σ t 15 u k = sj_un σ t 15 u k := rfl
  rw [e, sj_un_l hk]
  split
  · exact Or.inr rfl
  · exact Or.inl rfl
theorem dec_finish {σ : wc_St} {t p : Nat} (hp : p < 3) : sj_dec σ (fc_finish σ t p) := fun u k _ hk => by
  rw [fc_finish_lck hp hk]
  split
  · exact Or.inr rfl
  · exact Or.inl rfl
theorem dec_sto {kind : Int32} {t c n q a : Nat} {σ : wc_St} : sj_dec σ (fc_sto kind t c n q a σ).2 := dec_eq (fc_sto_c (by decide) (by decide) (by decide) (by decide) (by decide) (by decide) n q a σ)
theorem dec_choose {σ : wc_St} {t c : Nat} : sj_dec σ (fc_choose σ t c) := dec_eq rfl
theorem dec_deal {σ : wc_St} {t p c : Nat} (hp : p < 3) : sj_dec σ (fc_deal σ t p c) := by
  unfold fc_deal
  split
  · exact dec_eq (by
      have : fc_takePrepare (fc_deal0 σ (t * 3 + p)) t p c 15 = (fc_deal0 σ (t * 3 + p)) 15 := fc_send_c (by decide) (by decide) (by decide) (by decide) (by decide) (by decide)
      rw [this]; rfl)
  · split
    · unfold fc_takePrepared
      dsimp only
      split
      · exact dec_eq rfl
      · exact dec_eq rfl
    · exact dec_trans (σ' := fc_deal0 σ (t * 3 + p)) (dec_eq rfl) (dec_finish hp)
theorem dec_deliver : ∀ (n : Nat) (σ : wc_St), sj_dec σ (fc_deliver n σ) := by
  intro n
  induction n with
  | zero => intro σ; exact dec_eq rfl
  | succ n ih =>
    intro σ
    unfold fc_deliver
    split
    · exact dec_eq rfl
    · split
      · exact dec_eq rfl
      · exact dec_trans (dec_deal (by omega)) (ih _)
theorem dec_endOne {σ : wc_St} {t c : Nat} (hc : c < 3) : sj_dec σ (fc_endOne σ t c) :=
  dec_trans (σ' := fc_finish (wc_st (wc_st σ 8 t 0 (nI 4)) 14 t 0 (wc_st σ 8 t 0 (nI 4) 23 0 0)) t c) (dec_trans (σ' := wc_st (wc_st σ 8 t 0 (nI 4)) 14 t 0 (wc_st σ 8 t 0 (nI 4) 23 0 0)) (dec_eq rfl) (dec_finish hc)) dec_sto
theorem dec_ends : ∀ (n t a : Nat) (σ : wc_St), t + n ≤ 5 → wc_wf σ → sj_dec σ (fc_ends n t a σ).2 := by
  intro n
  induction n with
  | zero => intro t a σ _ _; exact dec_eq rfl
  | succ n ih =>
    intro t a σ ht hw
    unfold fc_ends
    split
    · exact ih _ _ _ (by omega) hw
    · have hc := wf_crd_lt hw (t := t) (by omega)
      exact dec_trans (dec_endOne hc) (ih _ _ _ (by omega) (wf_endOne hw hc))
theorem dec_steps : ∀ (n a : Nat) (σ : wc_St), wc_wf σ → sj_dec σ (fc_steps n a σ).2 := by
  intro n
  induction n with
  | zero => intro a σ _; exact dec_eq rfl
  | succ n ih =>
    intro a σ hw
    unfold fc_steps
    have w1 := wf_deliver 15 _ (wf_tick hw)
    exact dec_trans (dec_trans (dec_trans (σ' := fc_tick σ) (dec_eq rfl) (dec_deliver 15 _)) (dec_ends 5 0 0 _ (by omega) w1)) (ih _ _ (wf_ends 5 0 0 _ (by omega) w1))
theorem pushAll_lo {t k : Nat} {kind : Int32} : ∀ (n i : Nat) (σ : wc_St) (o : Nat), o < i → fc_pushAll t k kind n i σ 15 o = σ 15 o := by
  intro n
  induction n with
  | zero => intro i σ o _; rfl
  | succ n ih =>
    intro i σ o ho
    unfold fc_pushAll
    rw [ih (i + 1) _ o (by omega)]
    split
    · rfl
    · funext l
      have hne : o ≠ i := by omega
      simp [fc_giveUp, fc_unlock, wc_st, hne]
theorem dec_pushAll {t k : Nat} {kind : Int32} : ∀ (n i : Nat) (σ : wc_St), sj_dec σ (fc_pushAll t k kind n i σ) := by
  intro n
  induction n with
  | zero => intro i σ; exact dec_eq rfl
  | succ n ih =>
    intro i σ
    unfold fc_pushAll
    split
    · exact ih _ _
    · exact dec_trans dec_giveUp (ih _ _)
theorem conf_lck {σ σ' : wc_St} {o t k : Nat} {kind : Int32} (h : σ' 15 o = σ 15 o) : fc_conf σ' o t k kind = fc_conf σ o t k kind := by
  unfold fc_conf
  rw [h]
theorem pushAll_conf {t k : Nat} {kind : Int32} (hk : k < 9) : ∀ (n i : Nat) (σ : wc_St) (o : Nat), i ≤ o → o < i + n → fc_conf (fc_pushAll t k kind n i σ) o t k kind = 0 := by
  intro n
  induction n with
  | zero => intro i σ o h1 h2; omega
  | succ n ih =>
    intro i σ o h1 h2
    unfold fc_pushAll
    by_cases e : o = i
    · subst e
      rw [conf_lck (pushAll_lo n (o + 1) _ o (by omega))]
      by_cases q : fc_conf σ o t k kind = 0
      · rw [if_pos q]
        exact q
      · rw [if_neg q]
        have e2 : fc_giveUp σ o 15 o k = nI 0 := by
          have e : fc_giveUp σ o 15 o k = sj_un σ o 15 o k := rfl
          rw [e, sj_un_l hk, if_pos rfl]
        unfold fc_conf
        rw [e2]
        split
        · decide
        · rw [if_pos (by decide)]; decide
    · exact ih (i + 1) _ o (by omega) (by omega)
theorem conf0 {σ : wc_St} {o t k : Nat} {kind : Int32} (h : fc_conf σ o t k kind = 0) (hne : o ≠ t) : σ 15 o k = nI 0 ∨ (¬ kind = nI 2 ∧ ¬ σ 15 o k = nI 2) := by
  unfold fc_conf at h
  rw [if_neg hne] at h
  by_cases a : σ 15 o k = 0
  · exact Or.inl (by rw [a, nI_0])
  · rw [if_neg a] at h
    by_cases b : kind = nI 2
    · rw [if_pos b] at h; exact absurd h (by decide)
    · rw [if_neg b] at h
      by_cases c : σ 15 o k = nI 2
      · rw [if_pos c] at h; exact absurd h (by decide)
      · exact Or.inr ⟨b, c⟩
theorem X_set {σ : wc_St} {t k : Nat} {kind : Int32} (h : sj_X σ) (ht : t < 5) (hc : ∀ o, o < 5 → fc_conf σ o t k kind = 0) (hkd : kind = nI 1 ∨ kind = nI 2) : sj_X (wc_st σ 15 t k kind) := by
  have v : ∀ u l, wc_st σ 15 t k kind 15 u l = if u = t ∧ l = k then kind else σ 15 u l := by intro u l; simp [wc_st]
  intro a b l ha hb hl hne e
  rw [v] at e ⊢
  by_cases q1 : a = t ∧ l = k
  · obtain ⟨rfl, rfl⟩ := q1
    rw [if_pos ⟨rfl, rfl⟩] at e
    rw [if_neg (fun z => hne z.1.symm)]
    rcases conf0 (hc b hb) hne.symm with c | c
    · exact c
    · exact absurd e c.1
  · rw [if_neg q1] at e
    by_cases q2 : b = t ∧ l = k
    · obtain ⟨rfl, rfl⟩ := q2
      exfalso
      rcases conf0 (hc a ha) hne with c | c
      · rw [c] at e; exact absurd e (by decide)
      · exact c.2 e
    · rw [if_neg q2]
      exact h a b l ha hb hl hne e
theorem jj_active {T B S N t : Nat} {σ μ : wc_St} (h : sj_R T B S N σ μ) (ht : t < 5) : fc_active σ t = fm_active μ t ∧ (¬ fc_active σ t = 0 → σ 8 t 0 = nI 1) := by
  unfold fc_active fm_active
  rw [← (h.1.2.2.1 t ht).1]
  refine ⟨rfl, fun q => ?_⟩
  by_cases e : σ 8 t 0 = nI 1
  · exact e
  · rw [if_neg e] at q; exact absurd (by decide) q
theorem jj_read {n t k : Nat} {σ μ : wc_St} (h : sj_J n σ μ) (hn : n < 512) (ht : t < 5) (hk : k < 9) : (fc_read σ t k).1 = (fm_read μ t k).1 ∧ sj_J (n + 1) (fc_read σ t k).2 (fm_read μ t k).2 := by
  have hm := jj_mono h
  obtain ⟨T, B, S, N, h1, h2, h3, h4, hR, hX⟩ := h
  obtain ⟨a1, a2⟩ := jj_active hR ht
  unfold fc_read fm_read
  rw [← a1]
  generalize (1099511627776 : Int64) = rf
  by_cases q : fc_active σ t = 0
  · rw [if_pos q, if_pos q]
    exact ⟨rfl, hm⟩
  · rw [if_neg q, if_neg q]
    have hs := a2 q
    rcases ss_lock hR (by omega) ht hk hs (kind := nI 1) (Or.inl rfl) with ⟨e1, e2⟩ | ⟨e1, e2, e3⟩ | ⟨r, e1, e2, e3, e4, e5⟩
    · rw [e1, e2]
      have z0 : nI 0 = 0 := by decide
      dsimp only
      rw [if_pos z0, if_pos z0]
      exact ⟨rfl, hm⟩
    · rw [e1, e2]
      dsimp only
      have z1 : ¬ nI 1 = 0 := by decide
      have z0 : nI 0 = 0 := by decide
      simp only [z1, if_false]
      obtain ⟨l1, l2, l3, l4⟩ := hR.1.2.2.2.1 t k ht hk
      by_cases w : σ 15 t k = nI 2
      · rw [if_pos w] at l4
        simp only [w, l4, z1, if_true, if_false]
        exact ⟨by rw [l3], hm⟩
      · rw [if_neg w] at l4
        simp only [w, l4, z0, if_true, if_false]
        exact ⟨ss_value0 hR.1 (by omega) hk, hm⟩
    · rw [e1, e2]
      dsimp only
      have z1 : ¬ nI 1 = 0 := by decide
      have z0 : nI 0 = 0 := by decide
      simp only [z1, if_false]
      have h0 : fc_pushAll t k (nI 1) 5 0 σ 15 t k = nI 0 := by
        rcases (hR.1.2.2.2.1 t k ht hk).2.1 with c | c | c
        · rw [e4, c]
        · rw [c] at e5; exact absurd e5 (by decide)
        · rw [c] at e5; exact absurd e5 (by decide)
      have hr := rr_set1 r ht hk e3 h0
      obtain ⟨l1, l2, l3, l4⟩ := hr.1.2.2.2.1 t k ht hk
      have w : ¬ wc_st (fc_pushAll t k (nI 1) 5 0 σ) 15 t k (nI 1) 15 t k = nI 2 := by rw [wc_st_self]; decide
      rw [if_neg w] at l4
      simp only [w, l4, z0, if_true, if_false]
      refine ⟨ss_value0 hr.1 (by omega) hk, T, B, S, N, by omega, by omega, by omega, by omega, hr, ?_⟩
      exact X_set (X_dec hX (dec_pushAll 5 0 σ)) ht (fun o ho => pushAll_conf hk 5 0 σ o (by omega) (by omega)) (Or.inl rfl)
theorem jj_write {n t k : Nat} {v : Int32} {σ μ : wc_St} (h : sj_J n σ μ) (hn : n < 512) (ht : t < 5) (hk : k < 9) : (fc_write σ t k v).1 = (fm_write μ t k v).1 ∧ sj_J (n + 1) (fc_write σ t k v).2 (fm_write μ t k v).2 := by
  have hm := jj_mono h
  obtain ⟨T, B, S, N, h1, h2, h3, h4, hR, hX⟩ := h
  obtain ⟨a1, a2⟩ := jj_active hR ht
  unfold fc_write fm_write
  rw [← a1]
  by_cases q : fc_active σ t = 0
  · rw [if_pos q, if_pos q]
    exact ⟨rfl, hm⟩
  · rw [if_neg q, if_neg q]
    have hs := a2 q
    rcases ss_lock hR (by omega) ht hk hs (kind := nI 2) (Or.inr rfl) with ⟨e1, e2⟩ | ⟨e1, e2, e3⟩ | ⟨r, e1, e2, e3, e4, e5⟩
    · rw [e1, e2]
      exact ⟨rfl, hm⟩
    · rw [e1, e2]
      dsimp only
      have z1 : ¬ nI 1 = 0 := by decide
      have z0 : nI 0 = 0 := by decide
      simp only [z1, if_false]
      have w : σ 15 t k = nI 2 := by
        rcases (hR.1.2.2.2.1 t k ht hk).2.1 with c | c | c
        · rw [c] at e3; exact absurd (by decide) e3
        · rw [c] at e3; exact absurd (by decide) e3
        · exact c
      have hr := rr_set2 (v := v) hR ht hk hs
      rw [wc_st_id w, wc_st_id (show μ 47 0 (9 * t + k) = nI 2 by rw [← (hR.1.2.2.2.1 t k ht hk).1]; exact w)] at hr
      exact ⟨trivial, T, B, S, N + 1, by omega, by omega, by omega, by omega, hr, hX⟩
    · rw [e1, e2]
      dsimp only
      have z1 : ¬ nI 1 = 0 := by decide
      have z0 : nI 0 = 0 := by decide
      simp only [z1, if_false]
      have hr := rr_set2 (v := v) r ht hk e3
      refine ⟨trivial, T, B, S, N + 1, by omega, by omega, by omega, by omega, hr, ?_⟩
      exact X_set (X_dec hX (dec_pushAll 5 0 σ)) ht (fun o ho => pushAll_conf hk 5 0 σ o (by omega) (by omega)) (Or.inr rfl)
theorem jj_commit {n t : Nat} {σ μ : wc_St} (h : sj_J n σ μ) (hn : n < 512) (ht : t < 5) : (fc_commit σ t).1 = (fm_commit2 μ t).1 ∧ sj_J (n + 1) (fc_commit σ t).2 (fm_commit2 μ t).2 := by
  have hm := jj_mono h
  obtain ⟨T, B, S, N, h1, h2, h3, h4, hR, hX⟩ := h
  obtain ⟨a1, a2⟩ := jj_active hR ht
  unfold fc_commit fm_commit2
  rw [← a1]
  by_cases q : fc_active σ t = 0
  · rw [if_pos q, if_pos q]
    exact ⟨rfl, hm⟩
  · rw [if_neg q, if_neg q, ss_least hR.1.2.2.2.1 ht]
    have hle := fm_least_le μ t
    by_cases e : fm_least μ t = 3
    · rw [if_pos e, if_pos e, if_pos rfl]
      exact ⟨rfl, hm⟩
    · rw [if_neg e, if_neg e, if_neg (show ¬ nI (fm_least μ t) = -1 by rw [wc_nIm (by omega)]; exact id), nI_clamp (by omega)]
      have hud := sj_up hR.1 (p := fm_least μ t) (by omega)
      by_cases w : μ 35 0 (fm_least μ t) = 0
      · rw [if_pos w, if_neg (show ¬ σ 3 (fm_least μ t) 0 = 0 by rw [hud]; exact fun z => z w)]
        obtain ⟨S', s1, s2⟩ := rr_commit hR ht (c := fm_least μ t) (by omega) (by omega) (by omega) (a2 q) rfl
        generalize hν : fm_commit μ t (fm_least μ t) = ν at s2
        have d2 : sj_dec σ (fc_prep2 (wc_st σ 10 t 0 (nI (fm_least μ t))) t (fm_least μ t)) := by
          unfold fc_prep2
          dsimp only
          refine dec_trans (σ' := fc_prep1 (wc_st σ 10 t 0 (nI (fm_least μ t))) t (fm_least μ t)) ?_ (dec_trans (dec_sto (kind := nI 1) (t := t) (c := fm_least μ t) (n := 3) (q := 0) (a := 0)) ?_)
          · exact dec_eq (by unfold fc_prep1; rw [wc_st_c (by decide), wc_st_c (by decide), wc_st_c (by decide)])
          · exact dec_eq (by rw [wc_st_c (by decide)])
        have d3 : sj_dec σ (fc_prepare (wc_st σ 10 t 0 (nI (fm_least μ t))) t (fm_least μ t)) := by
          unfold fc_prepare
          dsimp only
          split
          · exact dec_trans d2 dec_choose
          · exact d2
        generalize fc_prepare (wc_st σ 10 t 0 (nI (fm_least μ t))) t (fm_least μ t) = σ9 at *
        exact ⟨rfl, T, B, S', N, by omega, by omega, by omega, by omega, s2, X_dec hX d3⟩
      · rw [if_neg w, if_pos (show σ 3 (fm_least μ t) 0 = 0 by rw [hud]; exact w)]
        exact ⟨rfl, hm⟩
theorem jj_abort {n t : Nat} {σ μ : wc_St} (h : sj_J n σ μ) (ht : t < 5) : (fc_abort σ t).1 = (fm_abort μ t).1 ∧ sj_J (n + 1) (fc_abort σ t).2 (fm_abort μ t).2 := by
  have hm := jj_mono h
  obtain ⟨T, B, S, N, h1, h2, h3, h4, hR, hX⟩ := h
  obtain ⟨a1, a2⟩ := jj_active hR ht
  unfold fc_abort fm_abort
  rw [← a1]
  by_cases q : fc_active σ t = 0
  · rw [if_pos q, if_pos q]
    exact ⟨rfl, hm⟩
  · rw [if_neg q, if_neg q]
    exact ⟨rfl, T, B, S, N, by omega, by omega, by omega, by omega, rr_giveUp hR ht (a2 q), X_dec hX dec_giveUp⟩
theorem jj_step {n N0 : Nat} {σ μ : wc_St} (h : sj_J n σ μ) (hn : n < 512) (hN0 : N0 ≤ 500) : (fc_steps N0 0 σ).1 = (fm_steps N0 0 μ).1 ∧ sj_J (n + 1) (fc_steps N0 0 σ).2 (fm_steps N0 0 μ).2 := by
  obtain ⟨T, B, S, N, h1, h2, h3, h4, hR, hX⟩ := h
  obtain ⟨S', s1, s2, s3⟩ := rr_steps (by omega) N0 0 0 σ μ T S hR (by omega) (by omega)
  exact ⟨by omega, T + N0, B, S', N, by omega, by omega, by omega, by omega, s2, X_dec hX (dec_steps N0 0 σ hR.2.2)⟩
