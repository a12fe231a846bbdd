/-! The class's state σ and the reference's state μ say the same: base (this part) and phases. -/
def sj_cnt (f : Nat → Bool) : Nat → Nat
  | 0 => 0
  | n + 1 => sj_cnt f n + (if f n = true then 1 else 0)
def sj_lg (μ : wc_St) (k : Nat) : Nat → List (Int32 × Int32)
  | 0 => []
  | n + 1 => if μ 38 0 n = nI k then (μ 39 0 n, μ 40 0 n) :: sj_lg μ k n else sj_lg μ k n
def sj_wr (μ : wc_St) : Nat := sj_cnt (fun a => decide (¬ μ 48 0 a = nI 0)) 45
def sj_S (T B S : Nat) (σ μ : wc_St) : Prop := σ 22 0 0 = μ 30 0 0 ∧ (∃ e, e ≤ 20 ∧ σ 22 0 0 = nI e) ∧ σ 23 0 0 = nI T ∧ μ 31 0 0 = nI T ∧ σ 24 0 0 = nI B ∧ μ 41 0 0 = nI B ∧ σ 25 0 0 = nI S ∧ μ 52 0 0 = nI S
def sj_P (σ μ : wc_St) : Prop := ∀ p, p < 3 → σ 0 p 0 = μ 32 0 p ∧ σ 1 p 0 = μ 33 0 p ∧ (∃ a, a ≤ 20 ∧ σ 1 p 0 = nI a) ∧ σ 2 p 0 = μ 34 0 p ∧ (∃ d, d < 10 ∧ σ 2 p 0 = nI d) ∧ σ 4 p 0 = μ 36 0 p ∧ ((σ 3 p 0 = nI 1 ∧ μ 35 0 p = nI 0) ∨ (σ 3 p 0 = nI 0 ∧ μ 35 0 p = nI 1))
def sj_T (σ μ : wc_St) : Prop := ∀ t, t < 5 → σ 8 t 0 = μ 42 0 t ∧ (∃ s, s ≤ 5 ∧ σ 8 t 0 = nI s) ∧ σ 13 t 0 = μ 44 0 t ∧ σ 14 t 0 = μ 46 0 t ∧ σ 11 t 0 = μ 45 0 t
def sj_L (σ μ : wc_St) : Prop := ∀ t k, t < 5 → k < 9 → σ 15 t k = μ 47 0 (9 * t + k) ∧ (σ 15 t k = nI 0 ∨ σ 15 t k = nI 1 ∨ σ 15 t k = nI 2) ∧ σ 16 t k = μ 49 0 (9 * t + k) ∧ μ 48 0 (9 * t + k) = (if σ 15 t k = nI 2 then nI 1 else nI 0)
def sj_M (σ μ : wc_St) : Prop := ∀ t p, t < 5 → p < 3 → (μ 50 0 (3 * t + p) = nI 0 ∧ σ 17 t p = nI 0) ∨ (μ 50 0 (3 * t + p) = nI 1 ∧ σ 17 t p = μ 51 0 (3 * t + p) ∧ nI 0 < σ 17 t p)
def sj_A (B : Nat) (σ μ : wc_St) : Prop := (∀ t, t < 5 → ¬ σ 8 t 0 = nI 0 → ∃ o, o < B ∧ σ 9 t 0 = nI o ∧ μ 43 0 t = nI (o + 1)) ∧ ∀ t u, t < 5 → u < 5 → t ≠ u → ¬ σ 8 t 0 = nI 0 → ¬ σ 8 u 0 = nI 0 → ¬ σ 9 t 0 = σ 9 u 0
def sj_live (S : Nat) (σ μ : wc_St) (i κ : Nat) : Prop := σ 18 i 0 = nI (κ + 1) ∧ μ 53 0 (15 * κ + i) = σ 20 i 0 ∧ (∀ κ', κ' < 3 → κ' ≠ κ → μ 53 0 (15 * κ' + i) = nI 0) ∧ nI 0 < σ 20 i 0 ∧ ∃ o, o < S ∧ σ 21 i 0 = nI o ∧ μ 54 0 (15 * κ + i) = nI (o + 1)
def sj_free (σ μ : wc_St) (i : Nat) : Prop := σ 18 i 0 = nI 0 ∧ ∀ κ, κ < 3 → μ 53 0 (15 * κ + i) = nI 0
def sj_G (S : Nat) (σ μ : wc_St) : Prop := ∀ i, i < 15 → sj_free σ μ i ∨ ∃ κ, κ < 3 ∧ sj_live S σ μ i κ
def sj_D (σ : wc_St) : Prop := ∀ i j, i < 15 → j < 15 → i ≠ j → ¬ σ 18 i 0 = nI 0 → ¬ σ 18 j 0 = nI 0 → ¬ σ 21 i 0 = σ 21 j 0
def sj_U (σ : wc_St) : Prop := σ 26 0 0 = nI (sj_cnt (fun i => decide (¬ σ 18 i 0 = nI 0)) 15)
def sj_key (σ μ : wc_St) (V k : Nat) : Prop := σ 5 k 0 = nI (min 4 ((sj_lg μ k V).length + 1)) ∧ ∀ i, i < 4 → σ 7 k i = (((sj_lg μ k V)[i]?).map Prod.fst).getD (nI 0) ∧ σ 6 k i = (((sj_lg μ k V)[i]?).map Prod.snd).getD (nI 0)
def sj_V (N : Nat) (σ μ : wc_St) : Prop := ∃ V, μ 37 0 0 = nI V ∧ V + sj_wr μ ≤ N ∧ ∀ k, k < 9 → sj_key σ μ V k
def sj_B (T B S N : Nat) (σ μ : wc_St) : Prop := sj_S T B S σ μ ∧ sj_P σ μ ∧ sj_T σ μ ∧ sj_L σ μ ∧ sj_M σ μ ∧ sj_A B σ μ ∧ sj_G S σ μ ∧ sj_D σ ∧ sj_U σ ∧ sj_V N σ μ
theorem sj_cnt_congr {f g : Nat → Bool} : ∀ n, (∀ i, i < n → f i = g i) → sj_cnt f n = sj_cnt g n := by
  intro n
  induction n with
  | zero => intro _; rfl
  | succ n ih =>
    intro h
    unfold sj_cnt
    rw [ih (fun i hi => h i (by omega)), h n (by omega)]
theorem sj_cnt_le {f : Nat → Bool} : ∀ n, sj_cnt f n ≤ n := by
  intro n
  induction n with
  | zero => exact Nat.le_refl _
  | succ n ih =>
    unfold sj_cnt
    split <;> omega
/-- one place goes from false to true -/
theorem sj_cnt_up {f g : Nat → Bool} {j : Nat} : ∀ n, j < n → (∀ i, i < n → i ≠ j → g i = f i) → f j = false → g j = true → sj_cnt g n = sj_cnt f n + 1 := by
  intro n
  induction n with
  | zero => intro h; omega
  | succ n ih =>
    intro hj h h1 h2
    unfold sj_cnt
    by_cases e : j = n
    · subst e
      rw [sj_cnt_congr (f := g) (g := f) j (fun i hi => h i (by omega) (by omega)), h1, h2]
      simp
    · rw [ih (by omega) (fun i hi hne => h i (by omega) hne) h1 h2, h n (by omega) (by omega)]
      omega
theorem sj_cnt_pos {f : Nat → Bool} {j : Nat} : ∀ n, j < n → f j = true → 0 < sj_cnt f n := by
  intro n
  induction n with
  | zero => intro h; omega
  | succ n ih =>
    intro hj h
    unfold sj_cnt
    by_cases e : j = n
    · subst e
      rw [h]
      simp
    · have := ih (by omega) h
      omega
theorem sj_cnt_zero {f : Nat → Bool} : ∀ n, sj_cnt f n = 0 → ∀ i, i < n → f i = false := by
  intro n h i hi
  cases hf : f i with
  | false => rfl
  | true => have := sj_cnt_pos n hi hf; omega
theorem wc_st_j {σ : wc_St} {c i j c' i' j' : Nat} {x : Int32} (h : j' ≠ j) : wc_st σ c i j x c' i' j' = σ c' i' j' := by
  simp [wc_st, h]
theorem nI_ne {a b : Nat} (ha : a < 2 ^ 31) (hb : b < 2 ^ 31) (h : a ≠ b) : ¬ nI a = nI b := fun q => h ((nI_eq ha hb).mp q)
theorem sj_lg_eq {μ μ' : wc_St} {k : Nat} (h1 : μ' 38 = μ 38) (h2 : μ' 39 = μ 39) (h3 : μ' 40 = μ 40) : ∀ n, sj_lg μ' k n = sj_lg μ k n := by
  intro n
  induction n with
  | zero => rfl
  | succ n ih =>
    unfold sj_lg
    rw [ih, h1, h2, h3]
theorem sj_V_of {N : Nat} {σ μ σ' μ' : wc_St} (h : sj_V N σ μ) (h1 : σ' 5 = σ 5) (h2 : σ' 7 = σ 7) (h3 : σ' 6 = σ 6) (m1 : μ' 37 = μ 37) (m2 : μ' 38 = μ 38) (m3 : μ' 39 = μ 39) (m4 : μ' 40 = μ 40) (m5 : μ' 48 = μ 48) : sj_V N σ' μ' := by
  obtain ⟨V, a1, a2, a3⟩ := h
  refine ⟨V, by rw [m1]; exact a1, ?_, fun k hk => ?_⟩
  · unfold sj_wr at a2 ⊢
    rw [m5]; exact a2
  · have b := a3 k hk
    unfold sj_key at b ⊢
    rw [sj_lg_eq m2 m3 m4, h1, h2, h3]
    exact b
/-! Small steps, one on each side. -/
theorem mb_sta {T B S N t s : Nat} {σ μ : wc_St} (h : sj_B T B S N σ μ) (hs : s ≤ 5) (h0 : ¬ σ 8 t 0 = nI 0) : sj_B T B S N (wc_st σ 8 t 0 (nI s)) (wc_st μ 42 0 t (nI s)) := by
  obtain ⟨hS, hP, hT, hL, hM, hA, hG, hD, hU, hV⟩ := h
  refine ⟨hS, hP, ?_, hL, hM, ⟨?_, ?_⟩, hG, hD, hU, sj_V_of hV rfl rfl rfl rfl rfl rfl rfl rfl⟩
  · intro u hu
    obtain ⟨a1, a2, a3⟩ := hT u hu
    by_cases e : u = t
    · subst e
      exact ⟨by simp [wc_st], ⟨s, hs, by simp [wc_st]⟩, a3⟩
    · exact ⟨by simpa [wc_st, e] using a1, by simpa [wc_st, e] using a2, a3⟩
  · intro u hu hn
    by_cases e : u = t
    · subst e
      exact hA.1 u hu h0
    · exact hA.1 u hu (by simpa [wc_st, e] using hn)
  · intro u w hu hw huw h1 h2
    refine hA.2 u w hu hw huw ?_ ?_
    · by_cases e : u = t
      · subst e; exact h0
      · simpa [wc_st, e] using h1
    · by_cases e : w = t
      · subst e; exact h0
      · simpa [wc_st, e] using h2
theorem mb_flr {T B S N t : Nat} {x : Int32} {σ μ : wc_St} (h : sj_B T B S N σ μ) : sj_B T B S N (wc_st σ 11 t 0 x) (wc_st μ 45 0 t x) := by
  obtain ⟨hS, hP, hT, hL, hM, hA, hG, hD, hU, hV⟩ := h
  refine ⟨hS, hP, ?_, hL, hM, hA, hG, hD, hU, sj_V_of hV rfl rfl rfl rfl rfl rfl rfl rfl⟩
  intro u hu
  obtain ⟨a1, a2, a3, a4, a5⟩ := hT u hu
  refine ⟨a1, a2, a3, a4, ?_⟩
  by_cases e : u = t
  · subst e; simp [wc_st]
  · simpa [wc_st, e] using a5
theorem mb_tst {T B S N t : Nat} {x : Int32} {σ μ : wc_St} (h : sj_B T B S N σ μ) : sj_B T B S N (wc_st σ 13 t 0 x) (wc_st μ 44 0 t x) := by
  obtain ⟨hS, hP, hT, hL, hM, hA, hG, hD, hU, hV⟩ := h
  refine ⟨hS, hP, ?_, hL, hM, hA, hG, hD, hU, sj_V_of hV rfl rfl rfl rfl rfl rfl rfl rfl⟩
  intro u hu
  obtain ⟨a1, a2, a3, a4, a5⟩ := hT u hu
  refine ⟨a1, a2, ?_, a4, a5⟩
  by_cases e : u = t
  · subst e; simp [wc_st]
  · simpa [wc_st, e] using a3
theorem mb_end {T B S N t : Nat} {x : Int32} {σ μ : wc_St} (h : sj_B T B S N σ μ) : sj_B T B S N (wc_st σ 14 t 0 x) (wc_st μ 46 0 t x) := by
  obtain ⟨hS, hP, hT, hL, hM, hA, hG, hD, hU, hV⟩ := h
  refine ⟨hS, hP, ?_, hL, hM, hA, hG, hD, hU, sj_V_of hV rfl rfl rfl rfl rfl rfl rfl rfl⟩
  intro u hu
  obtain ⟨a1, a2, a3, a4, a5⟩ := hT u hu
  refine ⟨a1, a2, a3, ?_, a5⟩
  by_cases e : u = t
  · subst e; simp [wc_st]
  · simpa [wc_st, e] using a4
theorem mb_crd {T B S N t : Nat} {x : Int32} {σ μ : wc_St} (h : sj_B T B S N σ μ) : sj_B T B S N (wc_st σ 10 t 0 x) μ := h
theorem mb_awt {T B S N t : Nat} {x : Int32} {σ μ : wc_St} (h : sj_B T B S N σ μ) : sj_B T B S N (wc_st σ 12 t 0 x) μ := h
/-- a site's bound -/
theorem mb_bnd {T B S N p : Nat} {x : Int32} {σ μ : wc_St} (h : sj_B T B S N σ μ) : sj_B T B S N (wc_st σ 4 p 0 x) (wc_st μ 36 0 p x) := by
  obtain ⟨hS, hP, hT, hL, hM, hA, hG, hD, hU, hV⟩ := h
  refine ⟨hS, ?_, hT, hL, hM, hA, hG, hD, hU, sj_V_of hV rfl rfl rfl rfl rfl rfl rfl rfl⟩
  intro q hq
  obtain ⟨a1, a2, a3, a4, a5, a6, a7⟩ := hP q hq
  refine ⟨a1, a2, a3, a4, a5, ?_, a7⟩
  by_cases e : q = p
  · subst e; simp [wc_st]
  · simpa [wc_st, e] using a6
theorem mb_raise {T B S N p : Nat} {r : Int32} {σ μ : wc_St} (h : sj_B T B S N σ μ) (hp : p < 3) : sj_B T B S N (fc_raise σ p r) (fm_raise μ p r) := by
  have e : wc_mx (σ 4 p 0) r = (if r ≤ μ 36 0 p then μ 36 0 p else r) := by
    rw [(h.2.1 p hp).2.2.2.2.2.1]
    unfold wc_mx
    by_cases q : μ 36 0 p < r
    · rw [if_pos q, if_neg (by rw [wc_notle]; exact q)]
    · rw [if_neg q, if_pos (by rw [wc_notlt] at q; exact q)]
  unfold fc_raise fm_raise
  rw [e]
  exact mb_bnd h
theorem sj_i3 {t p u q : Nat} (hp : p < 3) (hq : q < 3) : (3 * u + q = 3 * t + p) = (u = t ∧ q = p) := propext ⟨fun h => by omega, fun h => by omega⟩
theorem sj_i9 {t k u l : Nat} (hk : k < 9) (hl : l < 9) : (9 * u + l = 9 * t + k) = (u = t ∧ l = k) := propext ⟨fun h => by omega, fun h => by omega⟩
/-- a mark is put -/
theorem mb_mark {T B S N t p : Nat} {x : Int32} {σ μ : wc_St} (h : sj_B T B S N σ μ) (hp : p < 3) (hx : nI 0 < x) : sj_B T B S N (wc_st σ 17 t p x) (wc_st (wc_st μ 50 0 (3 * t + p) (nI 1)) 51 0 (3 * t + p) x) := by
  obtain ⟨hS, hP, hT, hL, hM, hA, hG, hD, hU, hV⟩ := h
  refine ⟨hS, hP, hT, hL, ?_, hA, hG, hD, hU, sj_V_of hV rfl rfl rfl rfl rfl rfl rfl rfl⟩
  intro u q hu hq
  by_cases e : u = t ∧ q = p
  · obtain ⟨rfl, rfl⟩ := e
    exact Or.inr ⟨by simp [wc_st], by simp [wc_st], by simpa [wc_st] using hx⟩
  · have e2 : ¬ (3 * u + q = 3 * t + p) := by rw [sj_i3 hp hq]; exact e
    simpa [wc_st, e, e2] using hM u q hu hq
theorem mb_unmark {T B S N t p : Nat} {σ μ : wc_St} (h : sj_B T B S N σ μ) (hp : p < 3) : sj_B T B S N (wc_st σ 17 t p (nI 0)) (wc_st μ 50 0 (3 * t + p) (nI 0)) := by
  obtain ⟨hS, hP, hT, hL, hM, hA, hG, hD, hU, hV⟩ := h
  refine ⟨hS, hP, hT, hL, ?_, hA, hG, hD, hU, sj_V_of hV rfl rfl rfl rfl rfl rfl rfl rfl⟩
  intro u q hu hq
  by_cases e : u = t ∧ q = p
  · obtain ⟨rfl, rfl⟩ := e
    exact Or.inl ⟨by simp [wc_st], by simp [wc_st]⟩
  · have e2 : ¬ (3 * u + q = 3 * t + p) := by rw [sj_i3 hp hq]; exact e
    simpa [wc_st, e, e2] using hM u q hu hq
/-- a message's slot is freed -/
theorem mb_free {T B S N i κ : Nat} {σ μ : wc_St} (h : sj_B T B S N σ μ) (hi : i < 15) (hκ : κ < 3) (hl : sj_live S σ μ i κ) : sj_B T B S N (fc_deal0 σ i) (wc_st μ 53 0 (15 * κ + i) (nI 0)) ∧ sj_free (fc_deal0 σ i) (wc_st μ 53 0 (15 * κ + i) (nI 0)) i := by
  obtain ⟨hS, hP, hT, hL, hM, hA, hG, hD, hU, hV⟩ := h
  have hk : ∀ j, fc_deal0 σ i 18 j 0 = if j = i then nI 0 else σ 18 j 0 := by intro j; simp [fc_deal0, wc_st]
  have hfree : sj_free (fc_deal0 σ i) (wc_st μ 53 0 (15 * κ + i) (nI 0)) i := by
    refine ⟨by rw [hk, if_pos rfl], ?_⟩
    intro κ' hκ'
    by_cases e : κ' = κ
    · subst e; simp [wc_st]
    · have e2 : ¬ (15 * κ' + i = 15 * κ + i) := by omega
      rw [wc_st_j e2]; exact hl.2.2.1 κ' hκ' e
  refine ⟨⟨hS, hP, hT, hL, hM, hA, ?_, ?_, ?_, sj_V_of hV rfl rfl rfl rfl rfl rfl rfl rfl⟩, hfree⟩
  · intro j hj
    by_cases e : j = i
    · subst e; exact Or.inl hfree
    · have e2 : ∀ κ', κ' < 3 → ¬ (15 * κ' + j = 15 * κ + i) := by intro κ' _; omega
      rcases hG j hj with ⟨a1, a2⟩ | ⟨κ1, h1, a1, a2, a3, a4, o, a5, a6, a7⟩
      · refine Or.inl ⟨by rw [hk, if_neg e]; exact a1, fun κ' h' => ?_⟩
        rw [wc_st_j (e2 κ' h')]; exact a2 κ' h'
      · refine Or.inr ⟨κ1, h1, by rw [hk, if_neg e]; exact a1, ?_, ?_, a4, o, a5, a6, a7⟩
        · rw [wc_st_j (e2 κ1 h1)]; exact a2
        · intro κ' h' hne
          rw [wc_st_j (e2 κ' h')]; exact a3 κ' h' hne
  · intro a b ha hb hab h1 h2
    rw [hk] at h1 h2
    by_cases e1 : a = i
    · rw [if_pos e1] at h1; exact absurd rfl h1
    · by_cases e2 : b = i
      · rw [if_pos e2] at h2; exact absurd rfl h2
      · rw [if_neg e1] at h1; rw [if_neg e2] at h2
        exact hD a b ha hb hab h1 h2
  · have hne : ¬ σ 18 i 0 = nI 0 := by rw [hl.1]; exact nI_ne (by omega) (by omega) (by omega)
    have hc := sj_cnt_up (f := fun j => decide (¬ fc_deal0 σ i 18 j 0 = nI 0)) (g := fun j => decide (¬ σ 18 j 0 = nI 0)) 15 hi (fun j _ hj => by rw [hk, if_neg hj]) (by rw [hk, if_pos rfl]; simp) (by simp [hne])
    unfold sj_U at hU ⊢
    have e : fc_deal0 σ i 26 0 0 = σ 26 0 0 - nI 1 := by simp [fc_deal0, wc_st]
    rw [e, hU, hc]
    exact nI_pred _
/-- a message is sent into a free slot -/
theorem mb_send {T B S N t p c κ : Nat} {σ μ : wc_St} (h : sj_B T B S N σ μ) (ht : t < 5) (hp : p < 3) (hc : c < 3) (hκ : κ < 3) (hT : T < 2 ^ 30) (hS0 : S < 2 ^ 30) (hf : sj_free σ μ (t * 3 + p)) : sj_B T B (S + 1) N (fc_send σ (nI (κ + 1)) t p c) (fm_send μ κ t p c) := by
  obtain ⟨hS, hP, hTt, hL, hM, hA, hG, hD, hU, hV⟩ := h
  obtain ⟨s1, s2, s3, s4, s5, s6, s7, s8⟩ := hS
  have hi : t * 3 + p < 15 := by omega
  have hk : ∀ j, fc_send σ (nI (κ + 1)) t p c 18 j 0 = if j = t * 3 + p then nI (κ + 1) else σ 18 j 0 := by intro j; simp [fc_send, wc_st]
  have hor : ∀ j, fc_send σ (nI (κ + 1)) t p c 21 j 0 = if j = t * 3 + p then nI S else σ 21 j 0 := by intro j; simp [fc_send, wc_st, s7]
  have har : ∀ j, fc_send σ (nI (κ + 1)) t p c 20 j 0 = if j = t * 3 + p then σ 23 0 0 + nI 1 + σ 2 c 0 + σ 2 p 0 else σ 20 j 0 := by intro j; simp [fc_send, wc_st]
  have hav : ∀ j, fm_send μ κ t p c 53 0 j = if j = 15 * κ + 3 * t + p then μ 31 0 0 + nI 1 + μ 34 0 p + μ 34 0 c else μ 53 0 j := by intro j; simp [fm_send, wc_st]
  have hnu : ∀ j, fm_send μ κ t p c 54 0 j = if j = 15 * κ + 3 * t + p then nI (S + 1) else μ 54 0 j := by
    intro j; simp [fm_send, wc_st, s8, nI_add]
  obtain ⟨d1, hd1, e1⟩ := (hP c hc).2.2.2.2.1
  obtain ⟨d2, hd2, e2⟩ := (hP p hp).2.2.2.2.1
  have hval : σ 23 0 0 + nI 1 + σ 2 c 0 + σ 2 p 0 = nI (T + 1 + d1 + d2) := by rw [s3, e1, e2, nI_add, nI_add, nI_add]
  have hval2 : μ 31 0 0 + nI 1 + μ 34 0 p + μ 34 0 c = nI (T + 1 + d1 + d2) := by
    rw [s4, ← (hP c hc).2.2.2.1, ← (hP p hp).2.2.2.1, e1, e2, nI_add, nI_add, nI_add]
    congr 1; omega
  refine ⟨⟨s1, s2, s3, s4, s5, s6, ?_, ?_⟩, hP, hTt, hL, hM, hA, ?_, ?_, ?_, sj_V_of hV rfl rfl rfl rfl rfl rfl rfl rfl⟩
  · simp [fc_send, wc_st, s7, nI_add]
  · simp [fm_send, wc_st, s8, nI_add]
  · intro j hj
    by_cases e : j = t * 3 + p
    · refine Or.inr ⟨κ, hκ, ?_, ?_, ?_, ?_, S, by omega, ?_, ?_⟩
      · rw [hk, if_pos e]
      · rw [hav, har, if_pos (by omega), if_pos e, hval, hval2]
      · intro κ' h' hne
        rw [hav, if_neg (by omega), e]
        exact hf.2 κ' h'
      · rw [har, if_pos e, hval]
        exact nI_lt (by omega) (by omega)
      · rw [hor, if_pos e]
      · rw [hnu, if_pos (by omega)]
    · have e3 : ∀ κ', κ' < 3 → ¬ (15 * κ' + j = 15 * κ + 3 * t + p) := by intro κ' _; omega
      rcases hG j hj with ⟨a1, a2⟩ | ⟨κ1, h1, a1, a2, a3, a4, o, a5, a6, a7⟩
      · refine Or.inl ⟨by rw [hk, if_neg e]; exact a1, fun κ' h' => ?_⟩
        rw [hav, if_neg (e3 κ' h')]; exact a2 κ' h'
      · refine Or.inr ⟨κ1, h1, by rw [hk, if_neg e]; exact a1, ?_, ?_, by rw [har, if_neg e]; exact a4, o, by omega, by rw [hor, if_neg e]; exact a6, by rw [hnu, if_neg (e3 κ1 h1)]; exact a7⟩
        · rw [hav, if_neg (e3 κ1 h1), har, if_neg e]; exact a2
        · intro κ' h' hne
          rw [hav, if_neg (e3 κ' h')]; exact a3 κ' h' hne
  · have old : ∀ b, b < 15 → ¬ σ 18 b 0 = nI 0 → ¬ nI S = σ 21 b 0 := by
      intro b hb hn
      rcases hG b hb with ⟨a1, -⟩ | ⟨κ1, h1, a1, a2, a3, a4, o, a5, a6, a7⟩
      · exact absurd a1 hn
      · rw [a6]; exact nI_ne (by omega) (by omega) (by omega)
    intro a b ha hb hab h1 h2
    rw [hk] at h1 h2
    rw [hor, hor]
    by_cases ea : a = t * 3 + p
    · by_cases eb : b = t * 3 + p
      · omega
      · rw [if_pos ea, if_neg eb]; rw [if_neg eb] at h2; exact old b hb h2
    · rw [if_neg ea] at h1
      by_cases eb : b = t * 3 + p
      · rw [if_neg ea, if_pos eb]; exact fun q => old a ha h1 q.symm
      · rw [if_neg ea, if_neg eb]; rw [if_neg eb] at h2; exact hD a b ha hb hab h1 h2
  · have hc := sj_cnt_up (f := fun j => decide (¬ σ 18 j 0 = nI 0)) (g := fun j => decide (¬ fc_send σ (nI (κ + 1)) t p c 18 j 0 = nI 0)) 15 hi (fun j _ hj => by rw [hk, if_neg hj]) (by simp [hf.1]) (by rw [hk, if_pos rfl]; simpa using nI_ne (a := κ + 1) (b := 0) (by omega) (by omega) (by omega))
    unfold sj_U at hU ⊢
    have e : fc_send σ (nI (κ + 1)) t p c 26 0 0 = σ 26 0 0 + nI 1 := by simp [fc_send, wc_st]
    rw [e, hU, hc, nI_add]
