theorem wc_in2_err {σ : wc_St} {b : Int32} {e : Nat} (he : σ 22 0 0 = nI e) (h : e ≤ 20) : fc_isError σ b = wc_in2 b (nI e + nI 1) := by
  unfold fc_isError wc_in2
  rw [he, nI_add]
  by_cases q : b < 0
  · rw [if_pos q, if_pos q]
  · rw [if_neg q, if_neg q]
    by_cases w : nI e < b
    · rw [if_pos w, if_pos]
      rw [Int32.lt_iff_toInt_lt, nI_toInt (by omega)] at w
      rw [Int32.le_iff_toInt_le, nI_toInt (by omega)]
      omega
    · rw [if_neg w, if_neg]
      rw [Int32.lt_iff_toInt_lt, nI_toInt (by omega)] at w
      rw [Int32.le_iff_toInt_le, nI_toInt (by omega)]
      omega
theorem err_ok {σ : wc_St} {b : Int32} {e : Nat} (he : σ 22 0 0 = nI e) (h : e ≤ 20) (hb : ¬ fc_isError σ b = 0) : ∃ a, a ≤ 20 ∧ b = nI a := by
  unfold fc_isError at hb
  by_cases q : b < 0
  · rw [if_pos q] at hb; exact absurd (by decide) hb
  · rw [if_neg q] at hb
    by_cases w : σ 22 0 0 < b
    · rw [if_pos w] at hb; exact absurd (by decide) hb
    · rcases pk_ix b (n := 21) (by decide) with z | z | ⟨j, hj, z⟩
      · exact absurd z q
      · exfalso
        apply w
        rw [he]
        rw [Int32.le_iff_toInt_le, nI_toInt (by omega)] at z
        rw [Int32.lt_iff_toInt_lt, nI_toInt (by omega)]
        omega
      · exact ⟨j, by omega, z⟩
theorem jj_clock {n q : Nat} {b d : Int32} {σ μ : wc_St} (h : sj_J n σ μ) (hq : q < 3) : (fc_clock σ q b d).1 = (fm_clock μ q b d).1 ∧ sj_J (n + 1) (fc_clock σ q b d).2 (fm_clock μ q b d).2 := by
  have hm := jj_mono h
  obtain ⟨T, B, S, N, h1, h2, h3, h4, hR, hX⟩ := h
  obtain ⟨⟨⟨s1, ⟨e, he, s2⟩, s3⟩, hP, hT, hL, hM, hA, hG, hD, hU, hV⟩, hF, hw⟩ := hR
  unfold fc_clock fm_clock
  rw [← s1, s2, ← wc_in2_err s2 he, ← wc_in2_err s2 he]
  by_cases x : fc_isError σ b = 0
  · rw [if_pos x, if_pos x]
    exact ⟨rfl, hm⟩
  · rw [if_neg x, if_neg x]
    by_cases y : fc_isError σ d = 0
    · rw [if_pos y, if_pos y]
      exact ⟨rfl, hm⟩
    · rw [if_neg y, if_neg y]
      obtain ⟨a, ha, ea⟩ := err_ok s2 he y
      refine ⟨rfl, T, B, S, N, by omega, by omega, by omega, by omega, ⟨⟨⟨s1, ⟨e, he, s2⟩, s3⟩, ?_, hT, hL, hM, hA, hG, hD, hU, sj_V_of hV rfl rfl rfl rfl rfl rfl rfl rfl⟩, fun u hu => ?_, wf_st (wf_st hw (by decide) (by decide) (by decide)) (by decide) (by decide) (by decide)⟩, hX⟩
      · intro p hp
        obtain ⟨a1, a2, a3, a4⟩ := hP p hp
        by_cases z : p = q
        · subst z
          exact ⟨by simp [wc_st], by simp [wc_st], ⟨a, ha, by simp [wc_st, ea]⟩, a4⟩
        · exact ⟨by simpa [wc_st, z] using a1, by simpa [wc_st, z] using a2, by simpa [wc_st, z] using a3, a4⟩
      · exact sj_F_of (hF u hu) rfl (fun k _ => rfl) (fun p _ => rfl) (fun p _ => rfl) rfl rfl rfl (fun p _ => rfl) (fun k _ => rfl)
theorem jj_delay {n q : Nat} {d : Int32} {σ μ : wc_St} (h : sj_J n σ μ) (hq : q < 3) : (fc_delay σ q d).1 = (fm_delay μ q d).1 ∧ sj_J (n + 1) (fc_delay σ q d).2 (fm_delay μ q d).2 := by
  have hm := jj_mono h
  obtain ⟨T, B, S, N, h1, h2, h3, h4, hR, hX⟩ := h
  obtain ⟨⟨hS, hP, hT, hL, hM, hA, hG, hD, hU, hV⟩, hF, hw⟩ := hR
  unfold fc_delay fm_delay wc_in
  by_cases x : d < 0
  · rw [if_pos x, if_pos x, if_pos (by decide)]
    exact ⟨rfl, hm⟩
  · rw [if_neg x, if_neg x]
    by_cases y : d ≤ nI 9
    · have y2 : ¬ nI 10 ≤ d := by
        rw [Int32.le_iff_toInt_le, nI_toInt (by omega)] at y ⊢
        omega
      rw [if_pos y, if_neg y2, if_neg (by decide)]
      have : ∃ j, j < 10 ∧ d = nI j := by
        rcases pk_ix d (n := 10) (by decide) with z | z | z
        · exact absurd z x
        · exact absurd z y2
        · exact z
      obtain ⟨j, hj, ej⟩ := this
      refine ⟨rfl, T, B, S, N, by omega, by omega, by omega, by omega, ⟨⟨hS, ?_, hT, hL, hM, hA, hG, hD, hU, sj_V_of hV rfl rfl rfl rfl rfl rfl rfl rfl⟩, fun u hu => ?_, wf_st hw (by decide) (by decide) (by decide)⟩, hX⟩
      · intro p hp
        obtain ⟨a1, a2, a3, a4, a5, a6⟩ := hP p hp
        by_cases z : p = q
        · subst z
          exact ⟨a1, a2, a3, by simp [wc_st], ⟨j, hj, by simp [wc_st, ej]⟩, a6⟩
        · exact ⟨a1, a2, a3, by simpa [wc_st, z] using a4, by simpa [wc_st, z] using a5, a6⟩
      · exact sj_F_of (hF u hu) rfl (fun k _ => rfl) (fun p _ => rfl) (fun p _ => rfl) rfl rfl rfl (fun p _ => rfl) (fun k _ => rfl)
    · have y2 : nI 10 ≤ d := by
        rw [Int32.le_iff_toInt_le, nI_toInt (by omega)] at y ⊢
        omega
      rw [if_neg y, if_pos y2, if_pos (by decide)]
      exact ⟨rfl, hm⟩
theorem jj_power {n q : Nat} {u : Int32} {σ μ : wc_St} (h : sj_J n σ μ) (hq : q < 3) (hu : u = nI 0 ∨ u = nI 1) : (fc_power σ q u).1 = (fm_power μ q u).1 ∧ sj_J (n + 1) (fc_power σ q u).2 (fm_power μ q u).2 := by
  have hm := jj_mono h
  obtain ⟨T, B, S, N, h1, h2, h3, h4, hR, hX⟩ := h
  obtain ⟨⟨hS, hP, hT, hL, hM, hA, hG, hD, hU, hV⟩, hF, hw⟩ := hR
  have key : ∀ x y : Int32, ((x = nI 1 ∧ y = nI 0) ∨ (x = nI 0 ∧ y = nI 1)) → sj_J (n + 1) (wc_st σ 3 q 0 x) (wc_st μ 35 0 q y) := by
    intro x y hxy
    refine ⟨T, B, S, N, by omega, by omega, by omega, by omega, ⟨⟨hS, ?_, hT, hL, hM, hA, hG, hD, hU, sj_V_of hV rfl rfl rfl rfl rfl rfl rfl rfl⟩, fun w hw => ?_, wf_st hw (by decide) (by decide) (by decide)⟩, hX⟩
    · intro p hp
      obtain ⟨a1, a2, a3, a4, a5, a6, a7⟩ := hP p hp
      by_cases z : p = q
      · subst z
        exact ⟨a1, a2, a3, a4, a5, a6, by simpa [wc_st] using hxy⟩
      · exact ⟨a1, a2, a3, a4, a5, a6, by simpa [wc_st, z] using a7⟩
    · exact sj_F_of (hF w hw) rfl (fun k _ => rfl) (fun p _ => rfl) (fun p _ => rfl) rfl rfl rfl (fun p _ => rfl) (fun k _ => rfl)
  unfold fc_power fm_power
  have z10 : ¬ nI 1 = nI 0 := by decide
  have z01 : ¬ nI 0 = nI 1 := by decide
  have z0 : nI 0 = 0 := by decide
  have z1 : ¬ nI 1 = 0 := by decide
  rcases (hP q hq).2.2.2.2.2.2 with ⟨a, b⟩ | ⟨a, b⟩ <;> rcases hu with rfl | rfl <;> rw [a, b]
  · rw [if_neg z10, if_pos rfl, if_pos z0]
    exact ⟨rfl, key _ _ (Or.inr ⟨rfl, rfl⟩)⟩
  · rw [if_pos rfl, if_neg z01]
    exact ⟨rfl, hm⟩
  · rw [if_pos rfl, if_neg z10]
    exact ⟨rfl, hm⟩
  · rw [if_neg z01, if_pos rfl, if_neg z1]
    exact ⟨rfl, key _ _ (Or.inl ⟨rfl, rfl⟩)⟩
theorem fm_forget_id : ∀ (n k : Nat) (μ : wc_St), (∀ j, k ≤ j → j < k + n → μ 47 0 j = nI 0 ∧ μ 48 0 j = nI 0) → fm_forget n k μ = μ := by
  intro n
  induction n with
  | zero => intro k μ _; rfl
  | succ n ih =>
    intro k μ h
    unfold fm_forget
    obtain ⟨a, b⟩ := h k (by omega) (by omega)
    rw [wc_st_id a, wc_st_id b]
    exact ih (k + 1) μ (fun j h1 h2 => h j (by omega) (by omega))
theorem rr_begin {T B S N t : Nat} {σ μ : wc_St} (h : sj_R T B S N σ μ) (hB : B < 2 ^ 30) (ht : t < 5) (hl : ∀ k, k < 9 → σ 15 t k = nI 0) (hq : sj_q σ μ t) : sj_R T (B + 1) S N (fc_begin1 σ t) (fm_begin μ t) := by
  obtain ⟨⟨⟨s1, s2, s3, s4, s5, s6, s7⟩, hP, hT, hL, hM, hA, hG, hD, hU, hV⟩, hF, hw⟩ := h
  have ef : fm_forget 9 (9 * t) μ = μ := fm_forget_id 9 (9 * t) μ (fun j h1 h2 => by
    obtain ⟨l1, l2, l3, l4⟩ := hL t (j - 9 * t) ht (by omega)
    rw [show 9 * t + (j - 9 * t) = j by omega] at l1 l4
    rw [hl (j - 9 * t) (by omega)] at l1 l4
    rw [if_neg (by decide)] at l4
    exact ⟨l1.symm, l4⟩)
  have e1 : fc_begin1 σ t = wc_st (wc_st (wc_st σ 8 t 0 (nI 1)) 9 t 0 (nI B)) 24 0 0 (nI (B + 1)) := by
    unfold fc_begin1
    dsimp only
    rw [show wc_st σ 8 t 0 (nI 1) 24 0 0 = nI B from s5, show wc_st (wc_st σ 8 t 0 (nI 1)) 9 t 0 (nI B) 24 0 0 = nI B from s5, nI_add]
  have e2 : fm_begin μ t = wc_st (wc_st (wc_st μ 42 0 t (nI 1)) 41 0 0 (nI (B + 1))) 43 0 t (nI (B + 1)) := by
    unfold fm_begin
    dsimp only
    rw [ef, show wc_st μ 42 0 t (nI 1) 41 0 0 = nI B from s6, nI_add, wc_st_self]
  rw [e1, e2]
  refine ⟨⟨⟨s1, s2, s3, s4, wc_st_self, ?_, s7⟩, hP, ?_, hL, hM, ⟨?_, ?_⟩, hG, hD, hU, sj_V_of hV rfl rfl rfl rfl rfl rfl rfl rfl⟩, fun u hu => ?_, wf_st (wf_st (wf_st hw (by decide) (by decide) (by decide)) (by decide) (by decide) (by decide)) (by decide) (by decide) (by decide)⟩
  · simp [wc_st]
  · intro u hu
    obtain ⟨a1, a2, a3⟩ := hT u hu
    by_cases e : u = t
    · subst e
      exact ⟨by simp [wc_st], ⟨1, by omega, by simp [wc_st]⟩, a3⟩
    · exact ⟨by simpa [wc_st, e] using a1, by simpa [wc_st, e] using a2, a3⟩
  · intro u hu hn
    by_cases e : u = t
    · subst e
      exact ⟨B, by omega, by simp [wc_st], by simp [wc_st]⟩
    · obtain ⟨o, o1, o2, o3⟩ := hA.1 u hu (by simpa [wc_st, e] using hn)
      exact ⟨o, by omega, by simpa [wc_st, e] using o2, by simpa [wc_st, e] using o3⟩
  · intro u w hu hw' huw g1 g2
    have sta : ∀ x, wc_st (wc_st (wc_st σ 8 t 0 (nI 1)) 9 t 0 (nI B)) 24 0 0 (nI (B + 1)) 8 x 0 = if x = t then nI 1 else σ 8 x 0 := by intro x; simp [wc_st]
    have bir : ∀ x, wc_st (wc_st (wc_st σ 8 t 0 (nI 1)) 9 t 0 (nI B)) 24 0 0 (nI (B + 1)) 9 x 0 = if x = t then nI B else σ 9 x 0 := by intro x; simp [wc_st]
    rw [sta] at g1 g2
    rw [bir, bir]
    by_cases e : u = t
    · have e2 : w ≠ t := by omega
      rw [if_neg e2] at g2
      rw [if_pos e, if_neg e2]
      obtain ⟨o, o1, o2, o3⟩ := hA.1 w hw' g2
      rw [o2]
      exact nI_ne (by omega) (by omega) (by omega)
    · rw [if_neg e] at g1
      rw [if_neg e]
      by_cases e2 : w = t
      · rw [if_pos e2]
        obtain ⟨o, o1, o2, o3⟩ := hA.1 u hu g1
        rw [o2]
        exact nI_ne (by omega) (by omega) (by omega)
      · rw [if_neg e2] at g2 ⊢
        exact hA.2 u w hu hw' huw g1 g2
  · by_cases e : u = t
    · subst e
      exact Or.inr (Or.inl ⟨by simp [wc_st], hq⟩)
    · exact sj_F_of (hF u hu) (by simp [wc_st, e]) (fun k _ => rfl) (fun p _ => rfl) (fun p _ => rfl) rfl rfl rfl (fun p _ => rfl) (fun k _ => rfl)
theorem jj_begin {n t : Nat} {σ μ : wc_St} (h : sj_J n σ μ) (hn : n < 512) (ht : t < 5) : (fc_begin σ t).1 = (fm_begin2 μ t).1 ∧ sj_J (n + 1) (fc_begin σ t).2 (fm_begin2 μ t).2 := by
  have hm := jj_mono h
  obtain ⟨T, B, S, N, h1, h2, h3, h4, hR, hX⟩ := h
  have hle := fm_least_le μ t
  have hsl := ss_least hR.1.2.2.2.1 ht
  obtain ⟨e1, -⟩ := hR.1.2.2.1 t ht
  have z0 : nI 0 = 0 := by decide
  have z1 : ¬ nI 1 = 0 := by decide
  have good : (∀ k, k < 9 → σ 15 t k = nI 0) → sj_q σ μ t → sj_J (n + 1) (fc_begin1 σ t) (fm_begin μ t) := fun a b => ⟨T, B + 1, S, N, by omega, by omega, by omega, by omega, rr_begin hR (by omega) ht a b, X_dec hX (dec_eq rfl)⟩
  unfold fc_begin fm_begin2 fc_canBegin
  rw [← e1]
  rcases hR.2.1 t ht with ⟨a | a, b, c⟩ | ⟨a, b⟩ | ⟨a, -⟩ | ⟨a, -⟩ | ⟨a, b⟩
  · rw [a, if_pos z0, if_neg z1, if_pos (show wc_in (nI 0 - nI 1) 3 = 0 by decide), if_neg (show ¬ nI 0 = nI 4 by decide)]
    exact ⟨rfl, good b c⟩
  · rw [a, if_neg (show ¬ nI 5 = 0 by decide), if_pos rfl, if_neg z1, if_pos (show wc_in (nI 5 - nI 1) 3 = 0 by decide), if_neg (show ¬ nI 5 = nI 4 by decide)]
    exact ⟨rfl, good b c⟩
  · have ov : fc_over σ t = nI 0 := by unfold fc_over; rw [a, if_neg (by decide)]
    rw [a, if_neg z1, if_neg (show ¬ nI 1 = nI 5 by decide), ov, if_pos z0, if_pos z0, if_neg (show ¬ wc_in (nI 1 - nI 1) 3 = 0 by decide)]
    exact ⟨rfl, hm⟩
  · have ov : fc_over σ t = nI 0 := by unfold fc_over; rw [a, if_neg (by decide)]
    rw [a, if_neg (show ¬ nI 2 = 0 by decide), if_neg (show ¬ nI 2 = nI 5 by decide), ov, if_pos z0, if_pos z0, if_neg (show ¬ wc_in (nI 2 - nI 1) 3 = 0 by decide)]
    exact ⟨rfl, hm⟩
  · have ov : fc_over σ t = nI 0 := by unfold fc_over; rw [a, if_neg (by decide)]
    rw [a, if_neg (show ¬ nI 3 = 0 by decide), if_neg (show ¬ nI 3 = nI 5 by decide), ov, if_pos z0, if_pos z0, if_neg (show ¬ wc_in (nI 3 - nI 1) 3 = 0 by decide)]
    exact ⟨rfl, hm⟩
  · by_cases q : fm_least μ t = 3
    · have ov : fc_over σ t = nI 1 := by unfold fc_over; rw [a, if_pos rfl, hsl, if_pos q, if_pos rfl]
      rw [a, if_neg (show ¬ nI 4 = 0 by decide), if_neg (show ¬ nI 4 = nI 5 by decide), ov, if_neg z1, if_neg z1, if_pos (show wc_in (nI 4 - nI 1) 3 = 0 by decide), if_pos rfl, if_pos (show 3 ≤ fm_least μ t by omega)]
      refine ⟨rfl, good (fun k hk => ?_) (fun p hp => ?_)⟩
      · obtain ⟨l1, l2, l3⟩ := ss_part0 hR.1.2.2.2.1 ht (p := k % 3) (by omega) (fm_least_3 q (k % 3) (by omega))
        rcases (show k = k % 3 ∨ k = k % 3 + 3 ∨ k = k % 3 + 6 by omega) with w | w | w
        · rw [w]; exact l1
        · rw [w]; exact l2
        · rw [w]; exact l3
      · rcases b p hp with ⟨-, d2, d3⟩ | ⟨d1, -⟩
        · exact ⟨d2, d3⟩
        · exact absurd (fm_least_3 q p hp) d1
    · have ov : fc_over σ t = nI 0 := by
        unfold fc_over
        rw [a, if_pos rfl, hsl, if_neg q, if_neg (by rw [wc_nIm (by omega)]; exact id)]
      rw [a, if_neg (show ¬ nI 4 = 0 by decide), if_neg (show ¬ nI 4 = nI 5 by decide), ov, if_pos z0, if_pos z0, if_pos (show wc_in (nI 4 - nI 1) 3 = 0 by decide), if_pos rfl, if_neg (show ¬ 3 ≤ fm_least μ t by omega)]
      exact ⟨rfl, hm⟩
theorem jj_readAt {n k : Nat} {r : Int32} {σ μ : wc_St} (h : sj_J n σ μ) (hn : n < 512) (hk : k < 9) : (fc_readAt σ k r).1 = (fm_readAt μ k r).1 ∧ sj_J (n + 1) (fc_readAt σ k r).2 (fm_readAt μ k r).2 := by
  have hm := jj_mono h
  obtain ⟨T, B, S, N, h1, h2, h3, h4, hR, hX⟩ := h
  have hud := sj_up hR.1 (p := k % 3) (by omega)
  unfold fc_readAt fm_readAt fm_safe2
  generalize (1099511627776 : Int64) = rf
  by_cases w : μ 35 0 (k % 3) = 0
  · rw [if_neg (show ¬ σ 3 (k % 3) 0 = 0 by rw [hud]; exact fun z => z w), if_pos w, if_pos w, ← ss_ready hR.1 (by omega) (p := k % 3) (by omega)]
    by_cases q : r ≤ fc_ready σ (k % 3)
    · rw [if_pos q, if_pos q]
      have hb := mb_raise (r := r) hR.1 (p := k % 3) (by omega)
      refine ⟨ss_vat hb (by omega) hk 4 0 rfl, T, B, S, N, by omega, by omega, by omega, by omega, ⟨hb, fun u hu => ?_, wf_raise hR.2.2⟩, X_dec hX (dec_eq rfl)⟩
      exact sj_F_of (hR.2.1 u hu) rfl (fun k _ => rfl) (fun p _ => rfl) (fun p _ => rfl) rfl rfl rfl (fun p _ => rfl) (fun k _ => rfl)
    · rw [if_neg q, if_neg q]
      exact ⟨rfl, hm⟩
  · rw [if_pos (show σ 3 (k % 3) 0 = 0 by rw [hud]; exact w), if_neg w]
    exact ⟨rfl, hm⟩
/-! what the walks of the reference ask -/
theorem fm_w_le {μ : wc_St} {t p : Nat} (ht : t < 5) (hp : p < 3) : fm_w μ t 3 p ≤ sj_wr μ := by
  have z : ∀ j, (μ 48 0 j = 0) = (μ 48 0 j = nI 0) := fun j => by rw [nI_0]
  unfold fm_w fm_w fm_w fm_w sj_wr
  have i1 : 9 * t + p < 45 := by omega
  have i2 : 9 * t + (p + 3) < 45 := by omega
  have i3 : 9 * t + (p + 3 + 3) < 45 := by omega
  have g := cnt_add (f := fun a => decide (¬ μ 48 0 a = nI 0)) (9 * t + (p + 3)) (45 - (9 * t + (p + 3)))
  rw [show 9 * t + (p + 3) + (45 - (9 * t + (p + 3))) = 45 by omega] at g
  have g2 : sj_cnt (fun a => decide (¬ μ 48 0 a = nI 0)) (9 * t + (p + 3)) ≥ (if μ 48 0 (9 * t + p) = 0 then 0 else 1) := by
    split
    · omega
    · rename_i q
      exact sj_cnt_pos _ (show 9 * t + p < 9 * t + (p + 3) by omega) (by rw [z] at q; simpa using q)
  have g3 := cnt_add (f := fun i => decide (¬ μ 48 0 (9 * t + (p + 3) + i) = nI 0)) 1 (45 - (9 * t + (p + 3)) - 1)
  rw [show 1 + (45 - (9 * t + (p + 3)) - 1) = 45 - (9 * t + (p + 3)) by omega] at g3
  have g4 : sj_cnt (fun i => decide (¬ μ 48 0 (9 * t + (p + 3) + i) = nI 0)) 1 = (if μ 48 0 (9 * t + (p + 3)) = 0 then 0 else 1) := by
    unfold sj_cnt sj_cnt
    by_cases q : μ 48 0 (9 * t + (p + 3)) = 0
    · rw [if_pos q]
      simp [q, nI_0]
    · have q2 : ¬ μ 48 0 (9 * t + (p + 3)) = nI 0 := by rw [nI_0]; exact q
      rw [if_neg q]
      simp [q2]
  have g5 : sj_cnt (fun i => decide (¬ μ 48 0 (9 * t + (p + 3) + (1 + i)) = nI 0)) (45 - (9 * t + (p + 3)) - 1) ≥ (if μ 48 0 (9 * t + (p + 3 + 3)) = 0 then 0 else 1) := by
    split
    · omega
    · rename_i q
      refine sj_cnt_pos (j := 2) _ (by omega) ?_
      rw [show 9 * t + (p + 3) + (1 + 2) = 9 * t + (p + 3 + 3) by omega]
      rw [z] at q
      simpa using q
  omega
def sj_PP (T0 B N I : Nat) (i c : Nat) (μ : wc_St) : Prop := i ≤ I ∧ ∃ σ S, S ≤ c ∧ sj_R (T0 + i) B S N σ μ
theorem sj_vb {T B S N : Nat} {σ μ : wc_St} (h : sj_R T B S N σ μ) (hN : N ≤ 512) : ∃ V, μ 37 0 0 = nI V ∧ V ≤ 512 ∧ ∀ t p, t < 5 → p < 3 → V + fm_w μ t 3 p ≤ 512 := by
  obtain ⟨V, a1, a2, -⟩ := h.1.2.2.2.2.2.2.2.2.2
  exact ⟨V, a1, by omega, fun t p ht hp => by have := fm_w_le (μ := μ) ht hp; omega⟩

theorem mj_step (l : Launch) (Γ : wc_G) (σ0 : wc_St) {n N0 : Nat} {σ μ : wc_St} (h : sj_J n σ μ) (hn : n < 512) (hN0 : N0 ≤ 500) : wc_M l yM_step cM_step 7 (some .int) 4 Γ [.ref (Γ.2.2 70), .int (nI N0)] σ0 μ (some (.int (nI (fm_steps N0 0 μ).1))) σ0 (fm_steps N0 0 μ).2 := by
  obtain ⟨T, B, S, N, h1, h2, h3, h4, hR, hX⟩ := h
  refine mm_stepI l Γ σ0 μ hN0 (sj_PP T B N N0) N0 (S + 60 * N0) ?_ ?_ ?_ ?_ ?_ 0 (by omega) S ⟨by omega, σ, S, by omega, hR⟩ (Nat.le_refl _)
  · rintro i c c' ν ⟨a, σ1, S1, b1, b2⟩ hc
    exact ⟨a, σ1, S1, by omega, b2⟩
  · rintro i c ν ⟨a, σ1, S1, b1, b2⟩ hi
    exact ⟨by omega, fc_tick σ1, S1, b1, rr_tick b2⟩
  · rintro i c ν ⟨a, σ1, S1, b1, b2⟩ x hx h53 h15
    obtain ⟨j, κ, hj, hκ, rfl, hk⟩ := can_live b2 hx h53
    obtain ⟨r, -, -, -, g⟩ := ss_rcv b2 hj hκ hk
    rw [show (15 * κ + j) % 15 / 3 = j / 3 by omega]
    exact g (by omega)
  · rintro i c ν x hc ⟨a, σ1, S1, b1, b2⟩ hx
    rcases ss_first b2 (by omega) with ⟨-, f2⟩ | ⟨j, κ, hj, hκ, hk, hdu, f1, f2⟩
    · rw [hx] at f2; cases f2
    · rw [hx] at f2
      obtain rfl : x = 15 * κ + j := Option.some.inj f2
      obtain ⟨r, -, -, -, g⟩ := ss_rcv b2 hj hκ hk
      obtain ⟨V, v1, v2, v3⟩ := sj_vb b2 (by omega)
      have hT1 : 0 < T + i := by
        have l := (sj_slotl b2.1.2.2.2.2.2.2.1 hj hκ hk).2.2.2.1
        have hnz : ¬ σ1 18 j 0 = nI 0 := by rw [hk]; exact nI_ne (by omega) (by omega) (by omega)
        refine Classical.byContradiction (fun q => hdu ?_)
        unfold fc_isDue
        rw [if_neg (show ¬ σ1 18 j 0 = 0 by rw [← nI_0]; exact hnz), if_pos (show σ1 23 0 0 < σ1 20 j 0 by rw [b2.1.1.2.2.1, show T + i = 0 by omega]; exact l)]
        decide
      obtain ⟨r1, -⟩ := rr_deal b2 (by omega) hj hκ (by omega) hT1 (by omega) hk
      refine ⟨fun z => ?_, ⟨V, v1, fun _ => v3 _ _ (by omega) (by omega)⟩, a, _, (if κ = 0 then S1 + 1 else S1), by split <;> omega, r1⟩
      rw [show (15 * κ + j) % 15 / 3 = j / 3 by omega]
      exact g (by omega)
  · rintro i c ν t hc ⟨a, σ1, S1, b1, b2⟩ ht h42
    have h3' : σ1 8 t 0 = nI 3 := by rw [(b2.1.2.2.1 t ht).1]; exact h42
    obtain ⟨c', hc', hcr, hl, -⟩ := sj_F3 (b2.2.1 t ht) h3'
    obtain ⟨V, v1, v2, v3⟩ := sj_vb b2 (by omega)
    refine ⟨by omega, ⟨V, v1, v3 _ _ ht (by omega)⟩, fun _ => ?_⟩
    obtain ⟨S', s1, s2, -⟩ := rr_end b2 (by omega) ht (by omega) (by omega) h3' hcr hc'
    rw [hl]
    exact ⟨a, _, S', by omega, s2⟩
