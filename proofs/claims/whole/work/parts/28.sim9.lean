/-! Which message comes next: both sides choose the same. -/
def sj_lt (σ : wc_St) (i j : Nat) : Prop := (σ 20 i 0).toInt < (σ 20 j 0).toInt ∨ ((σ 20 i 0).toInt = (σ 20 j 0).toInt ∧ (σ 21 i 0).toInt < (σ 21 j 0).toInt)
def sj_ltm (μ : wc_St) (a b : Nat) : Prop := (μ 53 0 a).toInt < (μ 53 0 b).toInt ∨ ((μ 53 0 a).toInt = (μ 53 0 b).toInt ∧ (μ 54 0 a).toInt < (μ 54 0 b).toInt)
theorem eq_i {x y : Int32} : x = y ↔ x.toInt = y.toInt := ⟨fun h => by rw [h], i_inj⟩
theorem before_iff {σ : wc_St} {i j : Nat} : (fc_before σ i j = 0) ↔ ¬ sj_lt σ i j := by
  unfold fc_before sj_lt
  by_cases h1 : σ 20 i 0 < σ 20 j 0
  · rw [if_pos h1]
    rw [Int32.lt_iff_toInt_lt] at h1
    exact ⟨fun h => absurd h (by decide), fun h => absurd (Or.inl h1) h⟩
  · rw [if_neg h1]
    rw [Int32.lt_iff_toInt_lt] at h1
    by_cases h2 : σ 20 i 0 = σ 20 j 0
    · rw [if_pos h2]
      rw [eq_i] at h2
      by_cases h3 : σ 21 j 0 ≤ σ 21 i 0
      · rw [if_pos h3]
        rw [Int32.le_iff_toInt_le] at h3
        exact ⟨fun _ => by omega, fun _ => by decide⟩
      · rw [if_neg h3]
        rw [Int32.le_iff_toInt_le] at h3
        exact ⟨fun h => absurd h (by decide), fun h => absurd (Or.inr ⟨h2, by omega⟩) h⟩
    · rw [if_neg h2]
      rw [eq_i] at h2
      exact ⟨fun _ => by omega, fun _ => by decide⟩
theorem first_iff {μ : wc_St} {a b : Nat} : (fm_1st μ a (some b) = 0) ↔ ¬ sj_ltm μ a b := by
  unfold fm_1st sj_ltm
  dsimp only
  by_cases h1 : μ 53 0 a < μ 53 0 b
  · rw [if_pos h1]
    rw [Int32.lt_iff_toInt_lt] at h1
    exact ⟨fun h => absurd h (by decide), fun h => absurd (Or.inl h1) h⟩
  · rw [if_neg h1]
    rw [Int32.lt_iff_toInt_lt] at h1
    by_cases h2 : μ 53 0 a = μ 53 0 b
    · rw [if_pos h2]
      rw [eq_i] at h2
      by_cases h3 : μ 54 0 b ≤ μ 54 0 a
      · rw [if_pos h3]
        rw [Int32.le_iff_toInt_le] at h3
        exact ⟨fun _ => by omega, fun _ => by decide⟩
      · rw [if_neg h3]
        rw [Int32.le_iff_toInt_le] at h3
        exact ⟨fun h => absurd h (by decide), fun h => absurd (Or.inr ⟨h2, by omega⟩) h⟩
    · rw [if_neg h2]
      rw [eq_i] at h2
      exact ⟨fun _ => by omega, fun _ => by decide⟩
def sj_inv (due : Nat → Prop) (lt : Nat → Nat → Prop) (i : Nat) (a : Option Nat) : Prop := (a = none → ∀ j, j < i → ¬ due j) ∧ ∀ m, a = some m → m < i ∧ due m ∧ ∀ j, j < i → due j → j ≠ m → lt m j
theorem first_spec {σ : wc_St} (htot : ∀ i j, i < 15 → j < 15 → i ≠ j → ¬ fc_isDue σ i = 0 → ¬ fc_isDue σ j = 0 → ¬ sj_lt σ i j → sj_lt σ j i) : ∀ (n i : Nat) (a : Option Nat), i + n = 15 → sj_inv (fun j => ¬ fc_isDue σ j = 0) (sj_lt σ) i a → sj_inv (fun j => ¬ fc_isDue σ j = 0) (sj_lt σ) 15 (fc_first σ n i a) := by
  intro n
  induction n with
  | zero =>
    intro i a hi h
    obtain rfl : i = 15 := by omega
    exact h
  | succ n ih =>
    intro i a hi h
    unfold fc_first
    refine ih (i + 1) _ (by omega) ?_
    by_cases hd : fc_isDue σ i = 0
    · rw [if_pos hd]
      refine ⟨fun e j hj => ?_, fun m e => ?_⟩
      · by_cases q : j = i
        · subst q; exact fun z => z hd
        · exact h.1 e j (by omega)
      · obtain ⟨b1, b2, b3⟩ := h.2 m e
        refine ⟨by omega, b2, fun j hj hj2 hj3 => ?_⟩
        by_cases q : j = i
        · subst q; exact absurd hd hj2
        · exact b3 j (by omega) hj2 hj3
    · rw [if_neg hd]
      rcases a with _ | m
      · refine ⟨(fun e => by cases e), fun m e => ?_⟩
        cases e
        refine ⟨by omega, hd, fun j hj hj2 hj3 => ?_⟩
        exact absurd hj2 (h.1 rfl j (by omega))
      · obtain ⟨b1, b2, b3⟩ := h.2 m rfl
        dsimp only
        by_cases hb : fc_before σ i m = 0
        · rw [if_pos hb]
          rw [before_iff] at hb
          refine ⟨(fun e => by cases e), fun m' e => ?_⟩
          cases e
          refine ⟨by omega, b2, fun j hj hj2 hj3 => ?_⟩
          by_cases q : j = i
          · subst q
            exact htot j m (by omega) (by omega) (by omega) hd b2 hb
          · exact b3 j (by omega) hj2 hj3
        · rw [if_neg hb]
          have hb' : sj_lt σ i m := Classical.byContradiction (fun z => hb (before_iff.mpr z))
          refine ⟨(fun e => by cases e), fun m' e => ?_⟩
          cases e
          refine ⟨by omega, hd, fun j hj hj2 hj3 => ?_⟩
          by_cases q : j = m
          · subst q; exact hb'
          · have := b3 j (by omega) hj2 q
            unfold sj_lt at this hb' ⊢
            omega
theorem next_spec {μ : wc_St} (htot : ∀ i j, i < 45 → j < 45 → i ≠ j → ¬ fm_can μ i = 0 → ¬ fm_can μ j = 0 → ¬ sj_ltm μ i j → sj_ltm μ j i) : ∀ (n i : Nat) (a : Option Nat), i + n = 45 → sj_inv (fun j => ¬ fm_can μ j = 0) (sj_ltm μ) i a → sj_inv (fun j => ¬ fm_can μ j = 0) (sj_ltm μ) 45 (fm_next μ n i a) := by
  intro n
  induction n with
  | zero =>
    intro i a hi h
    obtain rfl : i = 45 := by omega
    exact h
  | succ n ih =>
    intro i a hi h
    unfold fm_next
    refine ih (i + 1) _ (by omega) ?_
    by_cases hd : fm_can μ i = 0
    · rw [if_pos hd]
      refine ⟨fun e j hj => ?_, fun m e => ?_⟩
      · by_cases q : j = i
        · subst q; exact fun z => z hd
        · exact h.1 e j (by omega)
      · obtain ⟨b1, b2, b3⟩ := h.2 m e
        refine ⟨by omega, b2, fun j hj hj2 hj3 => ?_⟩
        by_cases q : j = i
        · subst q; exact absurd hd hj2
        · exact b3 j (by omega) hj2 hj3
    · rw [if_neg hd]
      rcases a with _ | m
      · rw [if_neg (show ¬ fm_1st μ i none = 0 from (by decide : ¬ nI 1 = 0))]
        refine ⟨(fun e => by cases e), fun m e => ?_⟩
        cases e
        refine ⟨by omega, hd, fun j hj hj2 hj3 => ?_⟩
        exact absurd hj2 (h.1 rfl j (by omega))
      · obtain ⟨b1, b2, b3⟩ := h.2 m rfl
        by_cases hb : fm_1st μ i (some m) = 0
        · rw [if_pos hb]
          rw [first_iff] at hb
          refine ⟨(fun e => by cases e), fun m' e => ?_⟩
          cases e
          refine ⟨by omega, b2, fun j hj hj2 hj3 => ?_⟩
          by_cases q : j = i
          · subst q
            exact htot j m (by omega) (by omega) (by omega) hd b2 hb
          · exact b3 j (by omega) hj2 hj3
        · rw [if_neg hb]
          have hb' : sj_ltm μ i m := Classical.byContradiction (fun z => hb (first_iff.mpr z))
          refine ⟨(fun e => by cases e), fun m' e => ?_⟩
          cases e
          refine ⟨by omega, hd, fun j hj hj2 hj3 => ?_⟩
          by_cases q : j = m
          · subst q; exact hb'
          · have := b3 j (by omega) hj2 q
            unfold sj_ltm at this hb' ⊢
            omega
/-- a live message's receiver -/
theorem ss_rcv {T B S N i κ : Nat} {σ μ : wc_St} (h : sj_R T B S N σ μ) (hi : i < 15) (hκ : κ < 3) (hk : σ 18 i 0 = nI (κ + 1)) : ∃ r, r < 3 ∧ σ 19 i 0 = nI r ∧ fm_to μ (15 * κ + i) = r ∧ (κ < 2 → fm_least μ (i / 3) < 3) := by
  have ei : i = i / 3 * 3 + i % 3 := by omega
  have ht : i / 3 < 5 := by omega
  have hp : i % 3 < 3 := by omega
  have q1 : (15 * κ + i) / 15 = κ := by omega
  have q2 : (15 * κ + i) % 15 / 3 = i / 3 := by omega
  have q3 : (15 * κ + i) % 3 = i % 3 := by omega
  unfold fm_to
  rw [q1, q2, q3]
  have hF := h.2.1 (i / 3) ht
  rw [ei] at hk
  rw [show σ 19 i 0 = σ 19 (i / 3 * 3 + i % 3) 0 by rw [← ei]]
  rcases (show κ = 0 ∨ κ = 1 ∨ κ = 2 by omega) with rfl | rfl | rfl
  · obtain ⟨-, c, hc, -, hl, -, -, -, h2s, -⟩ := sj_F_k1 hF hp hk
    refine ⟨i % 3, hp, ?_, by rw [if_neg (by omega)], fun _ => by omega⟩
    rcases h2s (i % 3) hp with ⟨d1, d2, ⟨d3, d4, d5⟩ | ⟨d3, -⟩ | ⟨d3, -⟩⟩ | ⟨-, d3, -⟩
    · exact d5
    · rw [d3] at hk; exact absurd hk (by decide)
    · rw [d3] at hk; exact absurd hk (by decide)
    · rw [d3] at hk; exact absurd hk (by decide)
  · obtain ⟨-, c, hc, -, hl, -, -, -, -, -, -, -, hr⟩ := sj_F_k2 hF hp hk
    exact ⟨c, hc, hr, by rw [if_pos rfl]; exact hl, fun _ => by omega⟩
  · obtain ⟨-, h4s⟩ := sj_F_k3 hF hp hk
    refine ⟨i % 3, hp, ?_, by rw [if_neg (by omega)], fun z => by omega⟩
    rcases h4s (i % 3) hp with ⟨-, d3, -⟩ | ⟨-, -, -, d5⟩
    · rw [d3] at hk; exact absurd hk (by decide)
    · exact d5
theorem ss_due {T B S N i κ : Nat} {σ μ : wc_St} (h : sj_R T B S N σ μ) (hi : i < 15) (hκ : κ < 3) (hk : σ 18 i 0 = nI (κ + 1)) : fc_isDue σ i = fm_can μ (15 * κ + i) := by
  obtain ⟨r, hr, e1, e2, -⟩ := ss_rcv h hi hκ hk
  obtain ⟨l1, l2, l3, l4, -⟩ := sj_slotl h.1.2.2.2.2.2.2.1 hi hκ hk
  obtain ⟨s1, s2, s3, s4, -⟩ := h.1.1
  unfold fc_isDue fm_can
  rw [e1, e2, nI_clamp (by omega), l2, s3, s4, if_neg (show ¬ σ 18 i 0 = 0 by rw [hk, wc_nI0 (by omega)]; omega), if_neg (show ¬ σ 20 i 0 ≤ 0 by rw [wc_notle, ← nI_0]; exact l4)]
  split
  · rfl
  · have hud := sj_up h.1 hr
    by_cases q : μ 35 0 r = 0
    · rw [if_pos q, if_neg (show ¬ σ 3 r 0 = 0 by rw [hud]; exact fun z => z q)]
    · rw [if_neg q, if_pos (show σ 3 r 0 = 0 by rw [hud]; exact q)]
theorem due_live {T B S N i : Nat} {σ μ : wc_St} (h : sj_R T B S N σ μ) (hi : i < 15) (hd : ¬ fc_isDue σ i = 0) : ∃ κ, κ < 3 ∧ σ 18 i 0 = nI (κ + 1) := by
  rcases h.1.2.2.2.2.2.2.1 i hi with ⟨a, -⟩ | ⟨κ, hκ, a, -⟩
  · exfalso
    apply hd
    unfold fc_isDue
    rw [if_pos (by rw [a]; decide)]
    decide
  · exact ⟨κ, hκ, a⟩
theorem can_live {T B S N a : Nat} {σ μ : wc_St} (h : sj_R T B S N σ μ) (ha : a < 45) (hd : ¬ μ 53 0 a ≤ 0) : ∃ i κ, i < 15 ∧ κ < 3 ∧ a = 15 * κ + i ∧ σ 18 i 0 = nI (κ + 1) := by
  have ea : a = 15 * (a / 15) + a % 15 := by omega
  rcases h.1.2.2.2.2.2.2.1 (a % 15) (by omega) with ⟨b, c⟩ | ⟨κ, hκ, b, c, d, -⟩
  · exfalso
    apply hd
    have := c (a / 15) (by omega)
    rw [← ea] at this
    rw [this]; decide
  · by_cases q : a / 15 = κ
    · exact ⟨a % 15, κ, by omega, hκ, by omega, b⟩
    · exfalso
      apply hd
      have := d (a / 15) (by omega) q
      rw [← ea] at this
      rw [this]; decide
theorem can_arrv {μ : wc_St} {a : Nat} (h : ¬ fm_can μ a = 0) : ¬ μ 53 0 a ≤ 0 := by
  intro q
  apply h
  unfold fm_can
  rw [if_pos q]
  decide
/-- order on both sides -/
theorem ss_ltm {T B S N i κ j κ' : Nat} {σ μ : wc_St} (h : sj_R T B S N σ μ) (hS : S < 2 ^ 30) (hi : i < 15) (hκ : κ < 3) (hk : σ 18 i 0 = nI (κ + 1)) (hj : j < 15) (hκ' : κ' < 3) (hk' : σ 18 j 0 = nI (κ' + 1)) : sj_ltm μ (15 * κ + i) (15 * κ' + j) ↔ sj_lt σ i j := by
  obtain ⟨-, l2, -, -, o, l5, l6, l7⟩ := sj_slotl h.1.2.2.2.2.2.2.1 hi hκ hk
  obtain ⟨-, m2, -, -, o', m5, m6, m7⟩ := sj_slotl h.1.2.2.2.2.2.2.1 hj hκ' hk'
  unfold sj_ltm sj_lt
  rw [l2, m2, l6, l7, m6, m7, nI_toInt (by omega), nI_toInt (by omega), nI_toInt (by omega), nI_toInt (by omega)]
  omega
theorem ss_tot {T B S N i j : Nat} {σ μ : wc_St} (h : sj_R T B S N σ μ) (hi : i < 15) (hj : j < 15) (hne : i ≠ j) (h1 : ¬ σ 18 i 0 = nI 0) (h2 : ¬ σ 18 j 0 = nI 0) (hn : ¬ sj_lt σ i j) : sj_lt σ j i := by
  have := h.1.2.2.2.2.2.2.2.1 i j hi hj hne h1 h2
  rw [eq_i] at this
  unfold sj_lt at hn ⊢
  omega
theorem ss_first {T B S N : Nat} {σ μ : wc_St} (h : sj_R T B S N σ μ) (hS : S < 2 ^ 30) : (fc_first σ 15 0 none = none ∧ fm_next μ 45 0 none = none) ∨ ∃ i κ, i < 15 ∧ κ < 3 ∧ σ 18 i 0 = nI (κ + 1) ∧ ¬ fc_isDue σ i = 0 ∧ fc_first σ 15 0 none = some i ∧ fm_next μ 45 0 none = some (15 * κ + i) := by
  have nz : ∀ κ, κ < 3 → ¬ nI (κ + 1) = nI 0 := fun κ hκ => nI_ne (by omega) (by omega) (by omega)
  have f := first_spec (σ := σ) (fun i j hi hj hne d1 d2 hn => by
    obtain ⟨κ, hκ, e⟩ := due_live h hi d1
    obtain ⟨κ', hκ', e'⟩ := due_live h hj d2
    exact ss_tot h hi hj hne (by rw [e]; exact nz κ hκ) (by rw [e']; exact nz κ' hκ') hn) 15 0 none rfl ⟨(fun _ j hj => by omega), (fun m e => by cases e)⟩
  have g := next_spec (μ := μ) (fun a b ha hb hne d1 d2 hn => by
    obtain ⟨i, κ, hi, hκ, rfl, e⟩ := can_live h ha (can_arrv d1)
    obtain ⟨j, κ', hj, hκ', rfl, e'⟩ := can_live h hb (can_arrv d2)
    rw [ss_ltm h hS hi hκ e hj hκ' e'] at hn
    rw [ss_ltm h hS hj hκ' e' hi hκ e]
    refine ss_tot h hi hj ?_ (by rw [e]; exact nz κ hκ) (by rw [e']; exact nz κ' hκ') hn
    intro q
    subst q
    rw [e, nI_eq (by omega) (by omega)] at e'
    omega) 45 0 none rfl ⟨(fun _ j hj => by omega), (fun m e => by cases e)⟩
  generalize fc_first σ 15 0 none = x at f
  generalize fm_next μ 45 0 none = y at g
  rcases x with _ | i
  · rcases y with _ | a
    · exact Or.inl ⟨rfl, rfl⟩
    · exfalso
      obtain ⟨b1, b2, -⟩ := g.2 a rfl
      obtain ⟨i, κ, hi, hκ, rfl, e⟩ := can_live h b1 (can_arrv b2)
      exact f.1 rfl i hi (show ¬ fc_isDue σ i = 0 by rw [ss_due h hi hκ e]; exact b2)
  · obtain ⟨c1, c2, c3⟩ := f.2 i rfl
    obtain ⟨κ, hκ, e⟩ := due_live h c1 c2
    rcases y with _ | a
    · exfalso
      exact g.1 rfl (15 * κ + i) (by omega) (show ¬ fm_can μ (15 * κ + i) = 0 by rw [← ss_due h c1 hκ e]; exact c2)
    · obtain ⟨b1, b2, b3⟩ := g.2 a rfl
      obtain ⟨j, κ', hj, hκ', rfl, e'⟩ := can_live h b1 (can_arrv b2)
      right
      by_cases q : j = i
      · subst q
        have : κ' = κ := by
          rw [e, nI_eq (by omega) (by omega)] at e'
          omega
        subst this
        exact ⟨j, κ', hj, hκ', e, c2, rfl, rfl⟩
      · exfalso
        have d1 := c3 j hj (show ¬ fc_isDue σ j = 0 by rw [ss_due h hj hκ' e']; exact b2) q
        have d2 := b3 (15 * κ + i) (by omega) (show ¬ fm_can μ (15 * κ + i) = 0 by rw [← ss_due h c1 hκ e]; exact c2) (by
          intro z
          have : i = j := by omega
          exact q this.symm)
        rw [ss_ltm h hS hj hκ' e' c1 hκ e] at d2
        unfold sj_lt at d1 d2
        omega

theorem sj_cnt_lt {f g : Nat → Bool} {j : Nat} : ∀ n, j < n → (∀ i, i < n → g i = true → f i = true) → f j = true → g j = false → sj_cnt g n < sj_cnt f n := by
  intro n
  induction n with
  | zero => intro h; omega
  | succ n ih =>
    intro hj h h1 h2
    unfold sj_cnt
    by_cases e : j = n
    · subst e
      rw [h1, h2]
      have := sj_cnt_mono (f := g) (g := f) j (fun i hi => h i (by omega))
      simp
      omega
    · have a := ih (by omega) (fun i hi => h i (by omega)) h1 h2
      have b := h n (by omega)
      by_cases q : g n = true
      · rw [if_pos q, if_pos (b q)]; omega
      · rw [if_neg q]
        split <;> omega
def sj_due (σ : wc_St) : Nat := sj_cnt (fun i => decide (¬ fc_isDue σ i = 0)) 15
theorem after_due {T i j : Nat} {σ σ' : wc_St} (hs : σ 23 0 0 = nI T) (ha : sj_after T σ σ' i) : (j ≠ i → fc_isDue σ' j = fc_isDue σ j) ∧ fc_isDue σ' i = nI 0 := by
  obtain ⟨a1, a2, a3, a4⟩ := ha
  refine ⟨fun hj => ?_, ?_⟩
  · obtain ⟨b1, b2, b3⟩ := a1 j hj
    unfold fc_isDue
    rw [b1, b2, b3, a3, a4]
  · unfold fc_isDue
    rcases a2 with a2 | a2
    · rw [if_pos (by rw [a2]; decide)]
    · rw [a3, hs]
      split
      · rfl
      · first | rfl | rw [if_pos a2]
theorem rr_deliver {T B N : Nat} (hN : N ≤ 512) (hT : T < 2 ^ 29) : ∀ (D n n' : Nat) (σ μ : wc_St) (S : Nat), sj_R T B S N σ μ → sj_due σ ≤ D → D ≤ n → D ≤ n' → S + D < 2 ^ 29 → ∃ S', S' ≤ S + D ∧ sj_R T B S' N (fc_deliver n σ) (fm_deliver n' (fm_next μ 45 0 none) μ) := by
  intro D
  induction D with
  | zero =>
    intro n n' σ μ S h hd _ _ hS
    rcases ss_first h (by omega) with ⟨f1, f2⟩ | ⟨i, κ, hi, hκ, hk, hdu, f1, f2⟩
    · refine ⟨S, by omega, ?_⟩
      rw [f2]
      have e1 : fc_deliver n σ = σ := by
        cases n with
        | zero => rfl
        | succ n =>
          unfold fc_deliver
          rw [f1]
          split <;> rfl
      have e2 : fm_deliver n' none μ = μ := by cases n' <;> rfl
      rw [e1, e2]; exact h
    · exfalso
      have : 0 < sj_due σ := sj_cnt_pos 15 hi (by simpa using hdu)
      omega
  | succ D ih =>
    intro n n' σ μ S h hd hn hn' hS
    rcases ss_first h (by omega) with ⟨f1, f2⟩ | ⟨i, κ, hi, hκ, hk, hdu, f1, f2⟩
    · refine ⟨S, by omega, ?_⟩
      rw [f2]
      have e1 : fc_deliver n σ = σ := by
        cases n with
        | zero => rfl
        | succ n =>
          unfold fc_deliver
          rw [f1]
          split <;> rfl
      have e2 : fm_deliver n' none μ = μ := by cases n' <;> rfl
      rw [e1, e2]; exact h
    · obtain ⟨n, rfl⟩ : ∃ m, n = m + 1 := ⟨n - 1, by omega⟩
      obtain ⟨n', rfl⟩ : ∃ m, n' = m + 1 := ⟨n' - 1, by omega⟩
      have hnz : ¬ σ 18 i 0 = nI 0 := by rw [hk]; exact nI_ne (by omega) (by omega) (by omega)
      have hT1 : 0 < T := by
        have l := (sj_slotl h.1.2.2.2.2.2.2.1 hi hκ hk).2.2.2.1
        refine Classical.byContradiction (fun q => hdu ?_)
        unfold fc_isDue
        rw [if_neg (show ¬ σ 18 i 0 = 0 by rw [← nI_0]; exact hnz), if_pos (show σ 23 0 0 < σ 20 i 0 by rw [h.1.1.2.2.1, show T = 0 by omega]; exact l)]
        decide
      have hu : ¬ σ 26 0 0 ≤ 0 := by
        rw [h.1.2.2.2.2.2.2.2.2.1]
        have c1 := sj_cnt_pos (f := fun i => decide (¬ σ 18 i 0 = nI 0)) 15 hi (by simpa using hnz)
        have c2 := sj_cnt_le (f := fun i => decide (¬ σ 18 i 0 = nI 0)) 15
        exact nI_nle c1 (by omega)
      obtain ⟨r1, r2⟩ := rr_deal h hN hi hκ hT hT1 (by omega) hk
      have e1 : fc_deliver (n + 1) σ = fc_deliver n (fc_deal σ (i / 3) (i % 3) (fc_crd σ (i / 3))) := by
        rw [fc_deliver, if_neg hu, f1]
      have e2 : fm_deliver (n' + 1) (fm_next μ 45 0 none) μ = fm_deliver n' (fm_next (fm_deal μ (15 * κ + i)) 45 0 none) (fm_deal μ (15 * κ + i)) := by
        rw [f2, fm_deliver]
      rw [e1, e2]
      have hds : sj_due (fc_deal σ (i / 3) (i % 3) (fc_crd σ (i / 3))) < sj_due σ := by
        refine sj_cnt_lt (j := i) 15 hi (fun j hj hg => ?_) (by simpa using hdu) (by rw [(after_due (j := 0) h.1.1.2.2.1 r2).2]; decide)
        by_cases q : j = i
        · subst q
          simpa using hdu
        · rw [(after_due (j := j) h.1.1.2.2.1 r2).1 q] at hg
          exact hg
      by_cases q : κ = 0
      · rw [if_pos q] at r1
        obtain ⟨S', g1, g2⟩ := ih n n' _ _ (S + 1) r1 (by omega) (by omega) (by omega) (by omega)
        exact ⟨S', by omega, g2⟩
      · rw [if_neg q] at r1
        obtain ⟨S', g1, g2⟩ := ih n n' _ _ S r1 (by omega) (by omega) (by omega) (by omega)
        exact ⟨S', by omega, g2⟩
theorem ss_mayEnd {T B S N t : Nat} {σ μ : wc_St} (h : sj_R T B S N σ μ) (ht : t < 5) : (fc_mayEnd σ t = 0 ∧ fm_mayEnd μ t = false) ∨ (¬ fc_mayEnd σ t = 0 ∧ fm_mayEnd μ t = true ∧ σ 8 t 0 = nI 3 ∧ ∃ c, c < 3 ∧ σ 10 t 0 = nI c ∧ fm_least μ t = c) := by
  obtain ⟨e1, -, e3, -, -⟩ := h.1.2.2.1 t ht
  unfold fc_mayEnd fm_mayEnd
  rw [← e1]
  by_cases h3 : σ 8 t 0 = nI 3
  · rw [if_pos h3, if_pos h3]
    obtain ⟨c, hc, hcr, hl, -⟩ := sj_F3 (h.2.1 t ht) h3
    rw [fc_crd_eq hcr hc, hl]
    have hud := sj_up h.1 hc
    obtain ⟨s1, s2, s3, s4, -⟩ := h.1.1
    have hb := (h.1.2.1 c hc).1
    have he : fc_earliest σ c = μ 31 0 0 - μ 32 0 c := by unfold fc_earliest; rw [s3, s4, hb]
    rw [he, e3]
    by_cases q : μ 35 0 c = 0
    · rw [if_pos q, if_neg (show ¬ σ 3 c 0 = 0 by rw [hud]; exact fun z => z q)]
      split
      · exact Or.inl ⟨by decide, rfl⟩
      · exact Or.inr ⟨by decide, rfl, h3, c, hc, hcr, rfl⟩
    · rw [if_neg q, if_pos (show σ 3 c 0 = 0 by rw [hud]; exact q)]
      exact Or.inl ⟨by decide, rfl⟩
  · rw [if_neg h3, if_neg h3]
    exact Or.inl ⟨by decide, rfl⟩
theorem rr_ends {T B N : Nat} (hN : N ≤ 512) (hT : T < 2 ^ 29) : ∀ (n t a d : Nat) (σ μ : wc_St) (S : Nat), t + n = 5 → sj_R T B S N σ μ → S + 2 * n < 2 ^ 29 → ∃ S', S' ≤ S + 2 * n ∧ sj_R T B S' N (fc_ends n t a σ).2 (fm_ends n t d μ).2 ∧ (fc_ends n t a σ).1 + d = (fm_ends n t d μ).1 + a := by
  intro n
  induction n with
  | zero => intro t a d σ μ S _ h _; exact ⟨S, by omega, h, by simp only [fc_ends, fm_ends]; omega⟩
  | succ n ih =>
    intro t a d σ μ S ht h hS
    unfold fc_ends fm_ends
    rcases ss_mayEnd h (t := t) (by omega) with ⟨m1, m2⟩ | ⟨m1, m2, h3, c, hc, hcr, hl⟩
    · rw [if_pos m1, m2, if_neg (by decide)]
      obtain ⟨S', g1, g2, g3⟩ := ih (t + 1) a d σ μ S (by omega) h (by omega)
      exact ⟨S', by omega, g2, g3⟩
    · rw [if_neg m1, if_pos m2, fc_crd_eq hcr hc, hl]
      obtain ⟨S1, k1, k2, -⟩ := rr_end h hN (t := t) (by omega) (by omega) (by omega) h3 hcr hc
      obtain ⟨S', g1, g2, g3⟩ := ih (t + 1) (a + 1) (d + 1) _ _ S1 (by omega) k2 (by omega)
      exact ⟨S', by omega, g2, by omega⟩
theorem rr_tick {T B S N : Nat} {σ μ : wc_St} (h : sj_R T B S N σ μ) : sj_R (T + 1) B S N (fc_tick σ) (fm_tick μ) := by
  obtain ⟨⟨⟨s1, s2, s3, s4, s5⟩, hP, hT, hL, hM, hA, hG, hD, hU, hV⟩, hF, hw⟩ := h
  refine ⟨⟨⟨s1, s2, ?_, ?_, s5⟩, hP, hT, hL, hM, hA, hG, hD, hU, sj_V_of hV rfl rfl rfl rfl rfl rfl rfl rfl⟩, fun u hu => ?_, wf_tick hw⟩
  · simp [fc_tick, wc_st, s3, nI_add]
  · simp [fm_tick, wc_st, s4, nI_add]
  · exact sj_F_of (hF u hu) rfl (fun k _ => rfl) (fun p _ => rfl) (fun p _ => rfl) rfl rfl rfl (fun p _ => rfl) (fun k _ => rfl)
theorem rr_steps {B N : Nat} (hN : N ≤ 512) : ∀ (n a d : Nat) (σ μ : wc_St) (T S : Nat), sj_R T B S N σ μ → T + n < 2 ^ 29 → S + 60 * n < 2 ^ 29 → ∃ S', S' ≤ S + 60 * n ∧ sj_R (T + n) B S' N (fc_steps n a σ).2 (fm_steps n d μ).2 ∧ (fc_steps n a σ).1 + d = (fm_steps n d μ).1 + a := by
  intro n
  induction n with
  | zero => intro a d σ μ T S h _ _; exact ⟨S, by omega, h, by simp only [fc_steps, fm_steps]; omega⟩
  | succ n ih =>
    intro a d σ μ T S h hT hS
    unfold fc_steps fm_steps
    obtain ⟨S1, a1, a2⟩ := rr_deliver hN (T := T + 1) (by omega) 15 15 45 (fc_tick σ) (fm_tick μ) S (rr_tick h) (sj_cnt_le 15) (by omega) (by omega) (by omega)
    obtain ⟨S2, b1, b2, b3⟩ := rr_ends hN (T := T + 1) (by omega) 5 0 0 d _ _ S1 rfl a2 (by omega)
    obtain ⟨S3, c1, c2, c3⟩ := ih (a + (fc_ends 5 0 0 (fc_deliver 15 (fc_tick σ))).1) _ _ _ (T + 1) S2 b2 (by omega) (by omega)
    refine ⟨S3, by omega, ?_, ?_⟩
    · rw [show T + (n + 1) = T + 1 + n by omega]; exact c2
    · omega
