/-! Phases of a transaction. -/
def sj_q (σ μ : wc_St) (t : Nat) : Prop := ∀ p, p < 3 → σ 18 (t * 3 + p) 0 = nI 0 ∧ μ 50 0 (3 * t + p) = nI 0
def sj_lv (σ : wc_St) (t : Nat) : Nat := sj_cnt (fun p => decide (¬ σ 18 (t * 3 + p) 0 = nI 0)) 3
def sj_2 (σ μ : wc_St) (t c p : Nat) : Prop :=
  (c < p ∧ ¬ fm_part μ t p = 0 ∧ ((σ 18 (t * 3 + p) 0 = nI 1 ∧ μ 50 0 (3 * t + p) = nI 0 ∧ σ 19 (t * 3 + p) 0 = nI p) ∨ (σ 18 (t * 3 + p) 0 = nI 2 ∧ μ 50 0 (3 * t + p) = nI 1 ∧ σ 19 (t * 3 + p) 0 = nI c) ∨ (σ 18 (t * 3 + p) 0 = nI 0 ∧ μ 50 0 (3 * t + p) = nI 1))) ∨
  ((p ≤ c ∨ fm_part μ t p = 0) ∧ σ 18 (t * 3 + p) 0 = nI 0 ∧ μ 50 0 (3 * t + p) = nI 0)
def sj_3 (σ μ : wc_St) (t p : Nat) : Prop := σ 18 (t * 3 + p) 0 = nI 0 ∧ ((fm_part μ t p = 0 ∧ μ 50 0 (3 * t + p) = nI 0) ∨ (¬ fm_part μ t p = 0 ∧ μ 50 0 (3 * t + p) = nI 1))
def sj_4 (σ μ : wc_St) (t p : Nat) : Prop := (fm_part μ t p = 0 ∧ σ 18 (t * 3 + p) 0 = nI 0 ∧ μ 50 0 (3 * t + p) = nI 0) ∨ (¬ fm_part μ t p = 0 ∧ σ 18 (t * 3 + p) 0 = nI 3 ∧ μ 50 0 (3 * t + p) = nI 1 ∧ σ 19 (t * 3 + p) 0 = nI p)
def sj_F (σ μ : wc_St) (t : Nat) : Prop :=
  ((σ 8 t 0 = nI 0 ∨ σ 8 t 0 = nI 5) ∧ (∀ k, k < 9 → σ 15 t k = nI 0) ∧ sj_q σ μ t) ∨
  (σ 8 t 0 = nI 1 ∧ sj_q σ μ t) ∨
  (σ 8 t 0 = nI 2 ∧ ∃ c, c < 3 ∧ σ 10 t 0 = nI c ∧ fm_least μ t = c ∧ nI 0 < σ 11 t 0 ∧ σ 12 t 0 = nI (sj_lv σ t) ∧ 0 < sj_lv σ t ∧ ∀ p, p < 3 → sj_2 σ μ t c p) ∨
  (σ 8 t 0 = nI 3 ∧ ∃ c, c < 3 ∧ σ 10 t 0 = nI c ∧ fm_least μ t = c ∧ ∀ p, p < 3 → sj_3 σ μ t p) ∨
  (σ 8 t 0 = nI 4 ∧ ∀ p, p < 3 → sj_4 σ μ t p)
def sj_R (T B S N : Nat) (σ μ : wc_St) : Prop := sj_B T B S N σ μ ∧ (∀ t, t < 5 → sj_F σ μ t) ∧ wc_wf σ
theorem fm_least_p {μ μ' : wc_St} {t : Nat} (e : ∀ p, p < 3 → fm_part μ' t p = fm_part μ t p) : fm_least μ' t = fm_least μ t := by
  unfold fm_least
  rw [e 0 (by omega), e 1 (by omega), e 2 (by omega)]
theorem fm_part_p {μ μ' : wc_St} {t p : Nat} (hp : p < 3) (e : ∀ k, k < 9 → μ' 47 0 (9 * t + k) = μ 47 0 (9 * t + k)) : fm_part μ' t p = fm_part μ t p := by
  unfold fm_part
  rw [e p (by omega), show 9 * t + p + 3 = 9 * t + (p + 3) by omega, e (p + 3) (by omega), show 9 * t + p + 6 = 9 * t + (p + 6) by omega, e (p + 6) (by omega)]
theorem sj_F_of {σ μ σ' μ' : wc_St} {t : Nat} (h : sj_F σ μ t) (e1 : σ' 8 t 0 = σ 8 t 0) (e2 : ∀ k, k < 9 → σ' 15 t k = σ 15 t k) (e3 : ∀ p, p < 3 → σ' 18 (t * 3 + p) 0 = σ 18 (t * 3 + p) 0) (e4 : ∀ p, p < 3 → σ' 19 (t * 3 + p) 0 = σ 19 (t * 3 + p) 0) (e5 : σ' 10 t 0 = σ 10 t 0) (e6 : σ' 12 t 0 = σ 12 t 0) (e0 : σ' 11 t 0 = σ 11 t 0) (e7 : ∀ p, p < 3 → μ' 50 0 (3 * t + p) = μ 50 0 (3 * t + p)) (e8 : ∀ k, k < 9 → μ' 47 0 (9 * t + k) = μ 47 0 (9 * t + k)) : sj_F σ' μ' t := by
  have f : ∀ p, p < 3 → fm_part μ' t p = fm_part μ t p := fun p hp => fm_part_p hp e8
  have fl : fm_least μ' t = fm_least μ t := fm_least_p f
  have fv : sj_lv σ' t = sj_lv σ t := by
    unfold sj_lv
    exact sj_cnt_congr 3 (fun p hp => by rw [e3 p hp])
  rcases h with ⟨a, b, c⟩ | ⟨a, b⟩ | ⟨a, c, b1, b2, b3, b0, b4, b5, b6⟩ | ⟨a, c, b1, b2, b3, b4⟩ | ⟨a, b⟩
  · exact Or.inl ⟨by rw [e1]; exact a, fun k hk => by rw [e2 k hk]; exact b k hk, fun p hp => by rw [e3 p hp, e7 p hp]; exact c p hp⟩
  · exact Or.inr (Or.inl ⟨by rw [e1]; exact a, fun p hp => by rw [e3 p hp, e7 p hp]; exact b p hp⟩)
  · refine Or.inr (Or.inr (Or.inl ⟨by rw [e1]; exact a, c, b1, by rw [e5]; exact b2, by rw [fl]; exact b3, by rw [e0]; exact b0, by rw [e6, fv]; exact b4, by rw [fv]; exact b5, fun p hp => ?_⟩))
    have := b6 p hp
    unfold sj_2 at this ⊢
    rw [e3 p hp, e4 p hp, e7 p hp, f p hp]
    exact this
  · refine Or.inr (Or.inr (Or.inr (Or.inl ⟨by rw [e1]; exact a, c, b1, by rw [e5]; exact b2, by rw [fl]; exact b3, fun p hp => ?_⟩)))
    have := b4 p hp
    unfold sj_3 at this ⊢
    rw [e3 p hp, e7 p hp, f p hp]
    exact this
  · refine Or.inr (Or.inr (Or.inr (Or.inr ⟨by rw [e1]; exact a, fun p hp => ?_⟩)))
    have := b p hp
    unfold sj_4 at this ⊢
    rw [e3 p hp, e4 p hp, e7 p hp, f p hp]
    exact this
/-- the phase by the state's number -/
theorem sj_F1 {σ μ : wc_St} {t : Nat} (h : sj_F σ μ t) (e : σ 8 t 0 = nI 1) : sj_q σ μ t := by
  rcases h with ⟨a | a, b, c⟩ | ⟨a, b⟩ | ⟨a, c⟩ | ⟨a, c⟩ | ⟨a, b⟩
  · rw [a] at e; exact absurd e (by decide)
  · rw [a] at e; exact absurd e (by decide)
  · exact b
  · rw [a] at e; exact absurd e (by decide)
  · rw [a] at e; exact absurd e (by decide)
  · rw [a] at e; exact absurd e (by decide)
theorem sj_F3 {σ μ : wc_St} {t : Nat} (h : sj_F σ μ t) (e : σ 8 t 0 = nI 3) : ∃ c, c < 3 ∧ σ 10 t 0 = nI c ∧ fm_least μ t = c ∧ ∀ p, p < 3 → sj_3 σ μ t p := by
  rcases h with ⟨a | a, b, c⟩ | ⟨a, b⟩ | ⟨a, c⟩ | ⟨a, c⟩ | ⟨a, b⟩
  · rw [a] at e; exact absurd e (by decide)
  · rw [a] at e; exact absurd e (by decide)
  · rw [a] at e; exact absurd e (by decide)
  · rw [a] at e; exact absurd e (by decide)
  · exact c
  · rw [a] at e; exact absurd e (by decide)
theorem rr_giveUp {T B S N t : Nat} {σ μ : wc_St} (h : sj_R T B S N σ μ) (ht : t < 5) (h1 : σ 8 t 0 = nI 1) : sj_R T B S N (fc_giveUp σ t) (fm_drop μ t) := by
  refine ⟨mb_giveUp h.1 ht (by rw [h1]; decide), fun u hu => ?_, wf_giveUp h.2.2⟩
  by_cases e : u = t
  · subst e
    refine Or.inl ⟨Or.inr (by simp [fc_giveUp, wc_st]), fun k hk => ?_, fun p hp => ?_⟩
    · have : fc_giveUp σ u 15 u k = sj_un σ u 15 u k := rfl
      rw [this, sj_un_l hk, if_pos rfl]
    · have := sj_F1 (h.2.1 u hu) h1 p hp
      have e2 : fm_drop μ u 50 = μ 50 := fm_forget_c (c := 50) (by decide) (by decide) 9 (9 * u) μ
      rw [e2]
      exact this
  · refine sj_F_of (h.2.1 u hu) (by simp [fc_giveUp, fc_unlock, wc_st, e]) (fun k hk => ?_) (fun p hp => rfl) (fun p hp => rfl) rfl rfl rfl (fun p hp => ?_) (fun k hk => ?_)
    · have : fc_giveUp σ t 15 u k = sj_un σ t 15 u k := rfl
      rw [this, sj_un_l hk, if_neg e]
    · have e2 : fm_drop μ t 50 = μ 50 := fm_forget_c (c := 50) (by decide) (by decide) 9 (9 * t) μ
      rw [e2]
    · have e2 : fm_drop μ t 47 0 (9 * u + k) = fm_forget 9 (9 * t) μ 47 0 (9 * u + k) := rfl
      rw [e2, fm_forget_l, if_neg (by omega)]
/-! Locking. -/
theorem ss_conf {σ μ : wc_St} {o t k : Nat} {kind : Int32} (hL : sj_L σ μ) (ho : o < 5) (hk : k < 9) (hkd : kind = nI 1 ∨ kind = nI 2) : fc_conf σ o t k kind = fm_conf μ t o k kind := by
  unfold fc_conf fm_conf
  rw [← (hL o k ho hk).1]
  by_cases e : o = t
  · rw [if_pos e, if_pos e]
  · rw [if_neg e, if_neg e]
    rcases (hL o k ho hk).2.1 with a | a | a <;> rcases hkd with b | b <;> rw [a, b] <;> decide
theorem ss_blk {T B S N : Nat} {σ μ : wc_St} {t k : Nat} {kind : Int32} (h : sj_R T B S N σ μ) (hB : B < 2 ^ 30) (ht : t < 5) (h1 : σ 8 t 0 = nI 1) (hk : k < 9) (hkd : kind = nI 1 ∨ kind = nI 2) : ∀ n i, i + n = 5 → fc_blk σ t k kind n i = fm_blk μ t k kind n i := by
  obtain ⟨hS, hP, hT, hL, hM, hA, -⟩ := h.1
  intro n
  induction n with
  | zero => intro i _; rfl
  | succ n ih =>
    intro i hi
    unfold fc_blk fm_blk
    rw [ss_conf hL (by omega) hk hkd, ih (i + 1) (by omega)]
    by_cases hc : fm_conf μ t i k kind = 0
    · rw [if_pos hc, if_pos hc]
    · rw [if_neg hc, if_neg hc]
      have hne : i ≠ t := by
        intro e
        apply hc
        unfold fm_conf
        rw [if_pos e]
        decide
      rw [← (hT i (by omega)).1]
      unfold fc_push
      by_cases h2 : σ 8 i 0 = nI 1
      · rw [if_pos h2, if_pos h2]
        obtain ⟨o1, a1, a2, a3⟩ := hA.1 i (by omega) (by rw [h2]; decide)
        obtain ⟨o2, b1, b2, b3⟩ := hA.1 t ht (by rw [h1]; decide)
        have hd := hA.2 i t (by omega) ht hne (by rw [h2]; decide) (by rw [h1]; decide)
        rw [a2, b2] at hd ⊢
        rw [a3, b3]
        have hoo : o1 ≠ o2 := fun e => hd (by rw [e])
        by_cases hle : o1 ≤ o2
        · rw [if_pos (nI_le hle (by omega)), if_pos (by decide), if_neg (by rw [nI_leI (by omega) (by omega)]; omega)]
        · have q1 : ¬ nI o1 ≤ nI o2 := by rw [nI_leI (by omega) (by omega)]; exact hle
          have q2 : nI (o2 + 1) ≤ nI (o1 + 1) := nI_le (by omega) (by omega)
          rw [if_neg q1, if_neg (show ¬ nI 1 = 0 by decide), if_pos q2]
      · rw [if_neg h2, if_neg h2, if_pos (by decide)]
theorem fc_blk_act {σ : wc_St} {t k : Nat} {kind : Int32} : ∀ n i, fc_blk σ t k kind n i = false → ∀ o, i ≤ o → o < i + n → ¬ fc_conf σ o t k kind = 0 → σ 8 o 0 = nI 1 := by
  intro n
  induction n with
  | zero => intro i _ o h1 h2; omega
  | succ n ih =>
    intro i h o h1 h2 hc
    unfold fc_blk at h
    by_cases e : o = i
    · subst e
      rw [if_neg hc] at h
      split at h
      · cases h
      · rename_i hp
        unfold fc_push at hp
        by_cases q : σ 8 o 0 = nI 1
        · exact q
        · rw [if_neg q] at hp
          exact absurd (by decide) hp
    · split at h
      · exact ih (i + 1) h o (by omega) (by omega) hc
      · split at h
        · cases h
        · exact ih (i + 1) h o (by omega) (by omega) hc
theorem fc_giveUp_o {σ : wc_St} {o t k : Nat} {kind : Int32} {i : Nat} (h : o ≠ i) : fc_conf (fc_giveUp σ i) o t k kind = fc_conf σ o t k kind ∧ fc_giveUp σ i 8 o 0 = σ 8 o 0 := by
  have e : fc_giveUp σ i 15 o k = σ 15 o k := by simp [fc_giveUp, fc_unlock, wc_st, h]
  refine ⟨?_, by simp [fc_giveUp, fc_unlock, wc_st, h]⟩
  unfold fc_conf
  rw [e]
theorem rr_pushAll {T B S N : Nat} {t k : Nat} {kind : Int32} (ht : t < 5) (hk : k < 9) (hkd : kind = nI 1 ∨ kind = nI 2) : ∀ (n i : Nat) (σ μ : wc_St), i + n = 5 → sj_R T B S N σ μ → (∀ o, i ≤ o → o < 5 → ¬ fc_conf σ o t k kind = 0 → σ 8 o 0 = nI 1) → sj_R T B S N (fc_pushAll t k kind n i σ) (fm_pushAll t k kind n i μ) ∧ (fc_pushAll t k kind n i σ 8 t 0 = σ 8 t 0) ∧ ∀ l, fc_pushAll t k kind n i σ 15 t l = σ 15 t l := by
  intro n
  induction n with
  | zero => intro i σ μ _ h _; exact ⟨h, rfl, fun _ => rfl⟩
  | succ n ih =>
    intro i σ μ hi h ha
    unfold fc_pushAll fm_pushAll
    rw [← ss_conf h.1.2.2.2.1 (by omega) hk hkd]
    by_cases hc : fc_conf σ i t k kind = 0
    · rw [if_pos hc, if_pos hc]
      exact ih (i + 1) σ μ (by omega) h (fun o h1 h2 => ha o (by omega) h2)
    · rw [if_neg hc, if_neg hc]
      have hne : t ≠ i := by
        intro e
        apply hc
        unfold fc_conf
        rw [if_pos e.symm]
        decide
      have h1 := ha i (by omega) (by omega) hc
      obtain ⟨r1, r2, r3⟩ := ih (i + 1) _ _ (by omega) (rr_giveUp h (by omega) h1) (fun o h1 h2 h3 => by
        have g := fc_giveUp_o (σ := σ) (o := o) (t := t) (k := k) (kind := kind) (i := i) (by omega)
        rw [g.1] at h3
        rw [g.2]
        exact ha o (by omega) h2 h3)
      exact ⟨r1, by rw [r2]; simp [fc_giveUp, fc_unlock, wc_st, hne], fun l => by rw [r3]; simp [fc_giveUp, fc_unlock, wc_st, hne]⟩

theorem sj_wr_up {μ : wc_St} {a : Nat} {x : Int32} : sj_wr (wc_st μ 48 0 a x) ≤ sj_wr μ + 1 := by
  by_cases ha : a < 45
  · by_cases h : μ 48 0 a = nI 0
    · by_cases hx : x = nI 0
      · subst hx
        exact Nat.le_trans sj_wr_le (by omega)
      · have := sj_cnt_up (f := fun i => decide (¬ μ 48 0 i = nI 0)) (g := fun i => decide (¬ wc_st μ 48 0 a x 48 0 i = nI 0)) (j := a) 45 ha (fun i _ hi => by rw [wc_st_j hi]) (by simp [h]) (by simp [wc_st, hx])
        unfold sj_wr
        omega
    · have : sj_wr (wc_st μ 48 0 a x) ≤ sj_wr μ := by
        unfold sj_wr
        refine sj_cnt_mono 45 (fun i _ hi => ?_)
        by_cases e : i = a
        · subst e; simp [h]
        · rw [wc_st_j e] at hi; exact hi
      omega
  · have : sj_wr (wc_st μ 48 0 a x) = sj_wr μ := by
      unfold sj_wr
      exact sj_cnt_congr 45 (fun i hi => by rw [wc_st_j (by omega)])
    omega
/-- a shared lock is taken -/
theorem rr_set1 {T B S N t k : Nat} {σ μ : wc_St} (h : sj_R T B S N σ μ) (ht : t < 5) (hk : k < 9) (h1 : σ 8 t 0 = nI 1) (h0 : σ 15 t k = nI 0) : sj_R T B S N (wc_st σ 15 t k (nI 1)) (wc_st μ 47 0 (9 * t + k) (nI 1)) := by
  obtain ⟨⟨hS, hP, hT, hL, hM, hA, hG, hD, hU, hV⟩, hF, hw⟩ := h
  refine ⟨⟨hS, hP, hT, ?_, hM, hA, hG, hD, hU, sj_V_of hV rfl rfl rfl rfl rfl rfl rfl rfl⟩, fun u hu => ?_, wf_st hw (by decide) (by decide) (by decide)⟩
  · intro u l hu hl
    obtain ⟨a1, a2, a3, a4⟩ := hL u l hu hl
    by_cases e : u = t ∧ l = k
    · obtain ⟨rfl, rfl⟩ := e
      refine ⟨by simp [wc_st], Or.inr (Or.inl (by simp [wc_st])), a3, ?_⟩
      rw [h0, if_neg (by decide)] at a4
      rw [wc_st_self, if_neg (by decide)]
      exact a4
    · have e2 : ¬ (9 * u + l = 9 * t + k) := by rw [sj_i9 hk hl]; exact e
      have e3 : wc_st σ 15 t k (nI 1) 15 u l = σ 15 u l := by simp [wc_st, e]
      rw [e3, wc_st_j e2]
      exact ⟨a1, a2, a3, a4⟩
  · by_cases e : u = t
    · subst e
      have q := sj_F1 (hF u hu) h1
      exact Or.inr (Or.inl ⟨h1, q⟩)
    · refine sj_F_of (hF u hu) rfl (fun l hl => by simp [wc_st, e]) (fun p hp => rfl) (fun p hp => rfl) rfl rfl rfl (fun p hp => rfl) (fun l hl => ?_)
      rw [wc_st_j (by omega)]
/-- a write: the exclusive lock and its value -/
theorem rr_set2 {T B S N t k : Nat} {v : Int32} {σ μ : wc_St} (h : sj_R T B S N σ μ) (ht : t < 5) (hk : k < 9) (h1 : σ 8 t 0 = nI 1) : sj_R T B S (N + 1) (wc_st (wc_st σ 15 t k (nI 2)) 16 t k v) (wc_st (wc_st (wc_st μ 47 0 (9 * t + k) (nI 2)) 48 0 (9 * t + k) (nI 1)) 49 0 (9 * t + k) v) := by
  obtain ⟨⟨hS, hP, hT, hL, hM, hA, hG, hD, hU, hV⟩, hF, hw⟩ := h
  refine ⟨⟨hS, hP, hT, ?_, hM, hA, hG, hD, hU, ?_⟩, fun u hu => ?_, wf_st (wf_st hw (by decide) (by decide) (by decide)) (by decide) (by decide) (by decide)⟩
  · intro u l hu hl
    obtain ⟨a1, a2, a3, a4⟩ := hL u l hu hl
    by_cases e : u = t ∧ l = k
    · obtain ⟨rfl, rfl⟩ := e
      exact ⟨by simp [wc_st], Or.inr (Or.inr (by simp [wc_st])), by simp [wc_st], by simp [wc_st]⟩
    · have e2 : ¬ (9 * u + l = 9 * t + k) := by rw [sj_i9 hk hl]; exact e
      have e3 : wc_st (wc_st σ 15 t k (nI 2)) 16 t k v 15 u l = σ 15 u l := by simp [wc_st, e]
      have e4 : wc_st (wc_st σ 15 t k (nI 2)) 16 t k v 16 u l = σ 16 u l := by simp [wc_st, e]
      rw [e3, e4, wc_st_j e2, wc_st_j e2, wc_st_j e2, wc_st_j e2, wc_st_j e2, wc_st_j e2, wc_st_j e2, wc_st_j e2, wc_st_j e2]
      exact ⟨a1, a2, a3, a4⟩
  · obtain ⟨V, b1, b2, b3⟩ := hV
    refine ⟨V, b1, ?_, fun l hl => ?_⟩
    · have : sj_wr (wc_st (wc_st (wc_st μ 47 0 (9 * t + k) (nI 2)) 48 0 (9 * t + k) (nI 1)) 49 0 (9 * t + k) v) ≤ sj_wr μ + 1 := sj_wr_up (μ := wc_st μ 47 0 (9 * t + k) (nI 2)) (a := 9 * t + k) (x := nI 1)
      omega
    · have b := b3 l hl
      unfold sj_key at b ⊢
      rw [sj_lg_eq (μ := μ) (μ' := wc_st (wc_st (wc_st μ 47 0 (9 * t + k) (nI 2)) 48 0 (9 * t + k) (nI 1)) 49 0 (9 * t + k) v) rfl rfl rfl]
      exact b
  · by_cases e : u = t
    · subst e
      have q := sj_F1 (hF u hu) h1
      exact Or.inr (Or.inl ⟨h1, q⟩)
    · refine sj_F_of (hF u hu) rfl (fun l hl => by simp [wc_st, e]) (fun p hp => rfl) (fun p hp => rfl) rfl rfl rfl (fun p hp => rfl) (fun l hl => ?_)
      rw [wc_st_j (by omega), wc_st_j (by omega), wc_st_j (by omega)]
theorem sj_up {T B S N p : Nat} {σ μ : wc_St} (h : sj_B T B S N σ μ) (hp : p < 3) : (σ 3 p 0 = 0) = (¬ μ 35 0 p = 0) := by
  rcases (h.2.1 p hp).2.2.2.2.2.2 with ⟨a, b⟩ | ⟨a, b⟩ <;> rw [a, b] <;> decide
/-- the two ways into a lock agree -/
theorem ss_lock {T B S N t k : Nat} {σ μ : wc_St} {kind : Int32} (h : sj_R T B S N σ μ) (hB : B < 2 ^ 30) (ht : t < 5) (hk : k < 9) (h1 : σ 8 t 0 = nI 1) (hkd : kind = nI 1 ∨ kind = nI 2) :
    (fc_lock σ t k kind = (nI 0, σ) ∧ fm_take μ t k kind = (nI 0, μ)) ∨
    (fc_lock σ t k kind = (nI 1, σ) ∧ fm_take μ t k kind = (nI 1, μ) ∧ ¬ σ 15 t k < kind) ∨
    (sj_R T B S N (fc_pushAll t k kind 5 0 σ) (fm_pushAll t k kind 5 0 μ) ∧ fc_lock σ t k kind = (nI 1, wc_st (fc_pushAll t k kind 5 0 σ) 15 t k kind) ∧ fm_take μ t k kind = (nI 1, wc_st (fm_pushAll t k kind 5 0 μ) 47 0 (9 * t + k) kind) ∧ fc_pushAll t k kind 5 0 σ 8 t 0 = nI 1 ∧ fc_pushAll t k kind 5 0 σ 15 t k = σ 15 t k ∧ σ 15 t k < kind) := by
  have hu := sj_up h.1 (p := k % 3) (by omega)
  have hl : μ 47 0 (9 * t + k) = σ 15 t k := (h.1.2.2.2.1 t k ht hk).1.symm
  unfold fc_lock fm_take
  by_cases e : σ 3 (k % 3) 0 = 0
  · have e' : ¬ μ 35 0 (k % 3) = 0 := by rw [hu] at e; exact e
    rw [if_pos e, if_neg e']
    exact Or.inl ⟨rfl, rfl⟩
  · have e' : μ 35 0 (k % 3) = 0 := Classical.byContradiction (fun q => e (by rw [hu]; exact q))
    rw [if_neg e, if_pos e', hl]
    by_cases e2 : σ 15 t k < kind
    · rw [if_pos e2, if_pos e2, ← ss_blk h hB ht h1 hk hkd 5 0 rfl]
      by_cases e3 : fc_blk σ t k kind 5 0 = true
      · rw [if_pos e3, if_pos e3]
        exact Or.inl ⟨rfl, rfl⟩
      · rw [if_neg e3, if_neg e3]
        obtain ⟨r1, r2, r3⟩ := rr_pushAll ht hk hkd 5 0 σ μ rfl h (fun o _ ho hc => fc_blk_act 5 0 (by simpa using e3) o (by omega) (by omega) hc)
        exact Or.inr (Or.inr ⟨r1, rfl, rfl, by rw [r2]; exact h1, r3 k, e2⟩)
    · rw [if_neg e2, if_neg e2]
      exact Or.inr (Or.inl ⟨rfl, rfl, e2⟩)
