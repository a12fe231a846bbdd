/-! Sending on both sides; choosing a stamp. -/
theorem fc_send_c {σ : wc_St} {kind : Int32} {t p c c' : Nat} (h1 : c' ≠ 18) (h2 : c' ≠ 19) (h3 : c' ≠ 20) (h4 : c' ≠ 21) (h5 : c' ≠ 25) (h6 : c' ≠ 26) : fc_send σ kind t p c c' = σ c' := by
  funext i j
  simp [fc_send, wc_st, h1, h2, h3, h4, h5, h6]
theorem fc_sto_c {kind : Int32} {t c c' : Nat} (h1 : c' ≠ 18) (h2 : c' ≠ 19) (h3 : c' ≠ 20) (h4 : c' ≠ 21) (h5 : c' ≠ 25) (h6 : c' ≠ 26) : ∀ (n p a : Nat) (σ : wc_St), (fc_sto kind t c n p a σ).2 c' = σ c' := by
  intro n
  induction n with
  | zero => intro p a σ; rfl
  | succ n ih =>
    intro p a σ
    unfold fc_sto
    split
    · exact ih _ _ _
    · split
      · exact ih _ _ _
      · rw [ih, fc_send_c h1 h2 h3 h4 h5 h6]
theorem fc_sto_skip {kind : Int32} {t c : Nat} {σ : wc_St} (hc : c < 3) (h : ∀ p, p < c → fc_holds σ t p = 0) : fc_sto kind t c 3 0 0 σ = fc_sto kind t c (2 - c) (c + 1) 0 σ := by
  rcases (show c = 0 ∨ c = 1 ∨ c = 2 by omega) with rfl | rfl | rfl
  · rw [fc_sto, if_pos rfl]
  · rw [fc_sto, if_neg (by omega), if_pos (h 0 (by omega)), fc_sto, if_pos rfl]
  · simp [fc_sto, h 0 (by omega), h 1 (by omega)]
theorem rr_sto {T B N t c κ : Nat} (ht : t < 5) (hc : c < 3) (hκ : κ < 3) (hκ1 : κ ≠ 1) (hT : T < 2 ^ 30) : ∀ (n q a : Nat) (σ μ : wc_St) (S : Nat), q + n = 3 → c < q → sj_B T B S N σ μ → S + n < 2 ^ 30 → (∀ p, q ≤ p → p < 3 → ¬ fm_part μ t p = 0 → sj_free σ μ (t * 3 + p)) →
    ∃ S', S' ≤ S + n ∧ sj_B T B S' N (fc_sto (nI (κ + 1)) t c n q a σ).2 (fm_sendAll κ t c n q μ) ∧
      (∀ p, q ≤ p → p < 3 → ¬ fm_part μ t p = 0 → (fc_sto (nI (κ + 1)) t c n q a σ).2 18 (t * 3 + p) 0 = nI (κ + 1) ∧ (fc_sto (nI (κ + 1)) t c n q a σ).2 19 (t * 3 + p) 0 = nI p) ∧
      (∀ i, (∀ p, q ≤ p → p < 3 → ¬ fm_part μ t p = 0 → i ≠ t * 3 + p) → (fc_sto (nI (κ + 1)) t c n q a σ).2 18 i 0 = σ 18 i 0 ∧ (fc_sto (nI (κ + 1)) t c n q a σ).2 19 i 0 = σ 19 i 0) ∧
      (fc_sto (nI (κ + 1)) t c n q a σ).1 + sj_lv σ t = a + sj_lv (fc_sto (nI (κ + 1)) t c n q a σ).2 t := by
  intro n
  induction n with
  | zero => intro q a σ μ S hq hcq h _ _; exact ⟨S, by omega, h, fun p h1 h2 => by omega, fun i _ => ⟨rfl, rfl⟩, rfl⟩
  | succ n ih =>
    intro q a σ μ S hq hcq h hS hfr
    have hh := ss_holds h.2.2.2.1 ht (p := q) (by omega)
    unfold fc_sto fm_sendAll
    rw [if_neg (show ¬ q = c by omega), hh]
    by_cases e : fm_part μ t q = 0
    · rw [if_pos e, if_pos e]
      obtain ⟨S', g1, g2, g3, g4, g5⟩ := ih (q + 1) a σ μ S (by omega) (by omega) h (by omega) (fun p h1 h2 h3 => hfr p (by omega) h2 h3)
      refine ⟨S', by omega, g2, fun p h1 h2 h3 => ?_, fun i hi => g4 i (fun p h1 h2 h3 => hi p (by omega) h2 h3), g5⟩
      by_cases e2 : p = q
      · subst e2; exact absurd e h3
      · exact g3 p (by omega) h2 h3
    · rw [if_neg e, if_neg e]
      have hf := hfr q (Nat.le_refl _) (by omega) e
      have hb := mb_send (t := t) (p := q) (c := c) (κ := κ) h ht (by omega) hc hκ hT (by omega) hf
      have hk : ∀ i, fc_send σ (nI (κ + 1)) t q c 18 i 0 = if i = t * 3 + q then nI (κ + 1) else σ 18 i 0 := by intro i; simp [fc_send, wc_st]
      have hrc : ∀ i, fc_send σ (nI (κ + 1)) t q c 19 i 0 = if i = t * 3 + q then nI q else σ 19 i 0 := by
        intro i
        have : ¬ nI (κ + 1) = nI 2 := nI_ne (by omega) (by omega) (by omega)
        simp [fc_send, wc_st, this]
      have hp : ∀ p, fm_part (fm_send μ κ t q c) t p = fm_part μ t p := fun p => fm_part_eq (fun j => by rw [fm_send_c (by decide) (by decide) (by decide)])
      obtain ⟨S', g1, g2, g3, g4, g5⟩ := ih (q + 1) (a + 1) _ _ (S + 1) (by omega) (by omega) hb (by omega) (fun p h1 h2 h3 => by
        rw [hp] at h3
        obtain ⟨f1, f2⟩ := hfr p (by omega) h2 h3
        refine ⟨by rw [hk, if_neg (by omega)]; exact f1, fun κ' hκ' => ?_⟩
        have : fm_send μ κ t q c 53 0 (15 * κ' + (t * 3 + p)) = μ 53 0 (15 * κ' + (t * 3 + p)) := by
          have hne : ¬ (15 * κ' + (t * 3 + p) = 15 * κ + 3 * t + q) := by omega
          simp [fm_send, wc_st, hne]
        rw [this]; exact f2 κ' hκ')
      refine ⟨S', by omega, g2, fun p h1 h2 h3 => ?_, fun i hi => ?_, ?_⟩
      · by_cases e2 : p = q
        · subst e2
          have := g4 (t * 3 + p) (fun p' h1' h2' h3' => by omega)
          rw [this.1, this.2, hk, hrc, if_pos rfl, if_pos rfl]
          exact ⟨rfl, rfl⟩
        · exact g3 p (by omega) h2 (by rw [hp]; exact h3)
      · have := g4 i (fun p h1 h2 h3 => hi p (by omega) h2 (by rw [hp] at h3; exact h3))
        have hne := hi q (Nat.le_refl _) (by omega) e
        rw [this.1, this.2, hk, hrc, if_neg hne, if_neg hne]
        exact ⟨rfl, rfl⟩
      · have hc := sj_cnt_up (f := fun p => decide (¬ σ 18 (t * 3 + p) 0 = nI 0)) (g := fun p => decide (¬ fc_send σ (nI (κ + 1)) t q c 18 (t * 3 + p) 0 = nI 0)) (j := q) 3 (by omega) (fun i _ hi => by rw [hk, if_neg (by omega)]) (by simp [hf.1]) (by rw [hk, if_pos rfl]; simpa using nI_ne (a := κ + 1) (b := 0) (by omega) (by omega) (by omega))
        have : sj_lv (fc_send σ (nI (κ + 1)) t q c) t = sj_lv σ t + 1 := hc
        omega
theorem mx_i (x y : Int32) : (wc_mx x y).toInt = max x.toInt y.toInt := by
  unfold wc_mx
  split
  · rename_i h; rw [Int32.lt_iff_toInt_lt] at h; omega
  · rename_i h; rw [Int32.lt_iff_toInt_lt] at h; omega
theorem le_i {x y : Int32} : (if x ≤ y then y else x).toInt = max x.toInt y.toInt := by
  split
  · rename_i h; rw [Int32.le_iff_toInt_le] at h; omega
  · rename_i h; rw [Int32.le_iff_toInt_le] at h; omega
theorem i_inj {x y : Int32} (h : x.toInt = y.toInt) : x = y := Int32.toInt_inj.mp h
theorem sia_none {μ : wc_St} {t : Nat} : ∀ (n q : Nat) (x : Int32), (∃ p, q ≤ p ∧ p < q + n ∧ (0 < μ 53 0 (3 * t + p) ∨ 0 < μ 53 0 (15 + 3 * t + p))) → fm_sia μ t n q x = none := by
  intro n
  induction n with
  | zero => intro q x ⟨p, h1, h2, _⟩; omega
  | succ n ih =>
    intro q x ⟨p, h1, h2, h3⟩
    unfold fm_sia
    by_cases e : p = q
    · subst e
      by_cases a : 0 < μ 53 0 (3 * t + p)
      · rw [if_pos a]
      · rw [if_neg a, if_neg]
        rw [wc_notle]
        exact h3.resolve_left a
    · have hr : ∀ y, fm_sia μ t n (q + 1) y = none := fun y => ih (q + 1) y ⟨p, by omega, by omega, h3⟩
      simp [hr]
def sj_fold (μ : wc_St) (t : Nat) : Nat → Nat → Int32 → Int32
  | 0, _, x => x
  | n + 1, p, x => sj_fold μ t n (p + 1) (if fm_part μ t p = 0 then x else if μ 51 0 (3 * t + p) ≤ x then x else μ 51 0 (3 * t + p))
theorem sia_some {μ : wc_St} {t : Nat} : ∀ (n q : Nat) (x : Int32), (∀ p, q ≤ p → p < q + n → μ 53 0 (3 * t + p) = nI 0 ∧ μ 53 0 (15 + 3 * t + p) = nI 0) → fm_sia μ t n q x = some (sj_fold μ t n q x) := by
  intro n
  induction n with
  | zero => intro q x _; rfl
  | succ n ih =>
    intro q x h
    obtain ⟨h1, h2⟩ := h q (Nat.le_refl _) (by omega)
    have hr : ∀ y, fm_sia μ t n (q + 1) y = some (sj_fold μ t n (q + 1) y) := fun y => ih (q + 1) y (fun p h3 h4 => h p (by omega) (by omega))
    unfold fm_sia sj_fold
    rw [h1, h2, if_neg (show ¬ 0 < nI 0 by decide), if_pos (show nI 0 ≤ 0 by decide)]
    simp only [hr]
    by_cases e : fm_part μ t q = 0
    · rw [if_pos e, if_pos e]
    · rw [if_neg e, if_neg e]
      split <;> rfl
theorem fold_i {μ : wc_St} {t p : Nat} {x : Int32} : (if fm_part μ t p = 0 then x else if μ 51 0 (3 * t + p) ≤ x then x else μ 51 0 (3 * t + p)).toInt = max x.toInt (if fm_part μ t p = 0 then x.toInt else (μ 51 0 (3 * t + p)).toInt) := by
  split
  · omega
  · rw [le_i]; omega
/-- the stamp that both choose -/
theorem ss_stamp {T B S N t c : Nat} {σ μ : wc_St} (h : sj_B T B S N σ μ) (ht : t < 5) (hc : c < 3) (hfl : nI 0 < σ 11 t 0) (hm : ∀ p, p < 3 → (c < p ∧ ¬ fm_part μ t p = 0 ∧ μ 50 0 (3 * t + p) = nI 1) ∨ ((p ≤ c ∨ fm_part μ t p = 0) ∧ μ 50 0 (3 * t + p) = nI 0)) :
    wc_mx (wc_mx (σ 11 t 0) (fc_gm σ t)) (σ 4 c 0 + nI 1) = sj_fold μ t (2 - c) (c + 1) (fm_s0 μ t c) := by
  have hb := (h.2.1 c hc).2.2.2.2.2.1
  have hf := (h.2.2.1 t ht).2.2.2.2
  have z : (nI 0).toInt = 0 := nI_toInt (by omega)
  rw [Int32.lt_iff_toInt_lt, z] at hfl
  have g : ∀ p, p < 3 → (c < p ∧ ¬ fm_part μ t p = 0 ∧ σ 17 t p = μ 51 0 (3 * t + p)) ∨ ((p ≤ c ∨ fm_part μ t p = 0) ∧ σ 17 t p = nI 0) := by
    intro p hp
    rcases hm p hp with ⟨a1, a2, a3⟩ | ⟨a1, a2⟩
    · rcases h.2.2.2.2.1 t p ht hp with ⟨b1, b2⟩ | ⟨b1, b2, b3⟩
      · rw [a3] at b1; exact absurd b1 (by decide)
      · exact Or.inl ⟨a1, a2, b2⟩
    · rcases h.2.2.2.2.1 t p ht hp with ⟨b1, b2⟩ | ⟨b1, b2, b3⟩
      · exact Or.inr ⟨a1, b2⟩
      · rw [a2] at b1; exact absurd b1 (by decide)
  have s0 : (fm_s0 μ t c).toInt = max (σ 11 t 0).toInt (σ 4 c 0 + nI 1).toInt := by
    unfold fm_s0
    rw [← hb, ← hf, le_i]
  apply i_inj
  rw [mx_i, mx_i]
  unfold fc_gm
  rw [mx_i, mx_i, mx_i, z]
  generalize (σ 11 t 0).toInt = F at *
  generalize (σ 4 c 0 + nI 1).toInt = D at *
  have m0 := g 0 (by omega)
  have m1 := g 1 (by omega)
  have m2 := g 2 (by omega)
  rcases (show c = 0 ∨ c = 1 ∨ c = 2 by omega) with rfl | rfl | rfl
  · rcases m0 with ⟨a, -⟩ | ⟨-, a0⟩
    · omega
    · rw [a0, z]
      show _ = (sj_fold μ t 2 1 (fm_s0 μ t 0)).toInt
      unfold sj_fold sj_fold sj_fold
      simp only [Nat.reduceAdd]
      generalize hY : (if fm_part μ t 1 = 0 then fm_s0 μ t 0 else if μ 51 0 (3 * t + 1) ≤ fm_s0 μ t 0 then fm_s0 μ t 0 else μ 51 0 (3 * t + 1)) = Y
      have hYi : Y.toInt = max (fm_s0 μ t 0).toInt (if fm_part μ t 1 = 0 then (fm_s0 μ t 0).toInt else (μ 51 0 (3 * t + 1)).toInt) := by rw [← hY, fold_i]
      rw [fold_i]
      rw [s0] at hYi
      rcases m1 with ⟨-, a1, a2⟩ | ⟨a1 | a1, a2⟩
      · rw [if_neg a1] at hYi
        rw [a2]
        rcases m2 with ⟨-, b1, b2⟩ | ⟨b1 | b1, b2⟩
        · rw [if_neg b1, b2]; omega
        · omega
        · rw [if_pos b1, b2, z]; omega
      · omega
      · rw [if_pos a1] at hYi
        rw [a2, z]
        rcases m2 with ⟨-, b1, b2⟩ | ⟨b1 | b1, b2⟩
        · rw [if_neg b1, b2]; omega
        · omega
        · rw [if_pos b1, b2, z]; omega
  · rcases m0 with ⟨a, -⟩ | ⟨-, a0⟩
    · omega
    · rcases m1 with ⟨a, -⟩ | ⟨-, a1⟩
      · omega
      · rw [a0, a1, z]
        show _ = (sj_fold μ t 1 2 (fm_s0 μ t 1)).toInt
        unfold sj_fold sj_fold
        rw [fold_i, s0]
        rcases m2 with ⟨-, b1, b2⟩ | ⟨b1 | b1, b2⟩
        · rw [if_neg b1, b2]; omega
        · omega
        · rw [if_pos b1, b2, z]; omega
  · rcases m0 with ⟨a, -⟩ | ⟨-, a0⟩
    · omega
    · rcases m1 with ⟨a, -⟩ | ⟨-, a1⟩
      · omega
      · rcases m2 with ⟨a, -⟩ | ⟨-, a2⟩
        · omega
        · rw [a0, a1, a2, z]
          show _ = (sj_fold μ t 0 3 (fm_s0 μ t 2)).toInt
          unfold sj_fold
          rw [s0]; omega
