/-! What the class's walks need of a state, and that each call keeps it. -/
def wc_wf (σ : wc_St) : Prop := (∀ t, t < 5 → ∃ c, c < 3 ∧ σ 10 t 0 = nI c) ∧ (∀ i, i < 15 → ∃ r, r < 3 ∧ σ 19 i 0 = nI r) ∧ ∀ k, k < 9 → σ 5 k 0 ≤ nI 4
theorem wc_st_c {σ : wc_St} {c i j c' : Nat} {x : Int32} (h : c' ≠ c) : wc_st σ c i j x c' = σ c' := by
  funext i' j'
  simp [wc_st, h]
theorem wf_st {σ : wc_St} {c i j : Nat} {x : Int32} (hw : wc_wf σ) (h1 : 10 ≠ c) (h2 : 19 ≠ c) (h3 : 5 ≠ c) : wc_wf (wc_st σ c i j x) := by
  refine ⟨fun t ht => ?_, fun i' hi => ?_, fun k hk => ?_⟩
  · rw [wc_st_c h1]; exact hw.1 t ht
  · rw [wc_st_c h2]; exact hw.2.1 i' hi
  · rw [wc_st_c h3]; exact hw.2.2 k hk
theorem wf_rcv {σ : wc_St} {i r : Nat} {x : Int32} (hw : wc_wf σ) (hr : r < 3) (hx : x = nI r) : wc_wf (wc_st σ 19 i 0 x) := by
  refine ⟨fun t ht => ?_, fun i' hi => ?_, fun k hk => ?_⟩
  · rw [wc_st_c (by decide)]; exact hw.1 t ht
  · by_cases h : i' = i
    · subst h
      exact ⟨r, hr, by rw [wc_st_self]; exact hx⟩
    · rw [wc_st_ne h]; exact hw.2.1 i' hi
  · rw [wc_st_c (by decide)]; exact hw.2.2 k hk
theorem wf_crd {σ : wc_St} {t r : Nat} {x : Int32} (hw : wc_wf σ) (hr : r < 3) (hx : x = nI r) : wc_wf (wc_st σ 10 t 0 x) := by
  refine ⟨fun u hu => ?_, fun i' hi => ?_, fun k hk => ?_⟩
  · by_cases h : u = t
    · subst h
      exact ⟨r, hr, by rw [wc_st_self]; exact hx⟩
    · rw [wc_st_ne h]; exact hw.1 u hu
  · rw [wc_st_c (by decide)]; exact hw.2.1 i' hi
  · rw [wc_st_c (by decide)]; exact hw.2.2 k hk
theorem wc_mn_le {x y : Int32} : wc_mn x y ≤ y := by
  unfold wc_mn
  split
  · exact Int32.le_refl _
  · rename_i h
    rw [wc_notlt] at h
    exact h
theorem wf_cnt {σ : wc_St} {k : Nat} {x : Int32} (hw : wc_wf σ) (hx : x ≤ nI 4) : wc_wf (wc_st σ 5 k 0 x) := by
  refine ⟨fun u hu => ?_, fun i' hi => ?_, fun k' hk => ?_⟩
  · rw [wc_st_c (by decide)]; exact hw.1 u hu
  · rw [wc_st_c (by decide)]; exact hw.2.1 i' hi
  · by_cases h : k' = k
    · subst h
      rw [wc_st_self]; exact hx
    · rw [wc_st_ne h]; exact hw.2.2 k' hk
theorem wf_send {σ : wc_St} {kind : Int32} {t p c : Nat} (hw : wc_wf σ) (hp : p < 3) (hc : c < 3) : wc_wf (fc_send σ kind t p c) := by
  unfold fc_send
  refine wf_st (wf_st (wf_st (wf_st ?_ (by decide) (by decide) (by decide)) (by decide) (by decide) (by decide)) (by decide) (by decide) (by decide)) (by decide) (by decide) (by decide)
  by_cases h : kind = nI 2
  · exact wf_rcv (wf_st hw (by decide) (by decide) (by decide)) hc (by rw [if_pos h])
  · exact wf_rcv (wf_st hw (by decide) (by decide) (by decide)) hp (by rw [if_neg h])
theorem wf_sto {kind : Int32} {t c : Nat} (hc : c < 3) : ∀ (n p a : Nat) (σ : wc_St), p + n ≤ 3 → wc_wf σ → wc_wf (fc_sto kind t c n p a σ).2 := by
  intro n
  induction n with
  | zero => intro p a σ _ hw; exact hw
  | succ n ih =>
    intro p a σ hp hw
    unfold fc_sto
    split
    · exact ih _ _ _ (by omega) hw
    · split
      · exact ih _ _ _ (by omega) hw
      · exact ih _ _ _ (by omega) (wf_send hw (by omega) hc)
theorem fc_sto_crd {kind : Int32} {t c u : Nat} : ∀ (n p a : Nat) (σ : wc_St), (fc_sto kind t c n p a σ).2 10 u 0 = σ 10 u 0 := by
  intro n
  induction n with
  | zero => intro p a σ; rfl
  | succ n ih =>
    intro p a σ
    unfold fc_sto
    split
    · exact ih _ _ _
    · split
      · exact ih _ _ _
      · rw [ih, fc_send_crd]
theorem wf_raise {σ : wc_St} {p : Nat} {r : Int32} (hw : wc_wf σ) : wc_wf (fc_raise σ p r) := wf_st hw (by decide) (by decide) (by decide)
theorem wf_shift {σ : wc_St} {k i : Nat} (hw : wc_wf σ) : wc_wf (fc_shift σ k i) := wf_st (wf_st hw (by decide) (by decide) (by decide)) (by decide) (by decide) (by decide)
theorem wf_add {σ : wc_St} {k : Nat} {v s : Int32} (hw : wc_wf σ) : wc_wf (fc_add σ k v s) :=
  wf_cnt (wf_st (wf_st (wf_shift (wf_shift (wf_shift hw))) (by decide) (by decide) (by decide)) (by decide) (by decide) (by decide)) wc_mn_le
theorem wf_fin1 {σ : wc_St} {t k : Nat} (hw : wc_wf σ) : wc_wf (fc_fin1 σ t k) := by
  unfold fc_fin1
  split
  · exact wf_add hw
  · exact hw
theorem wf_unlock {σ : wc_St} {t p : Nat} (hw : wc_wf σ) : wc_wf (fc_unlock σ t p) := wf_st (wf_st (wf_st hw (by decide) (by decide) (by decide)) (by decide) (by decide) (by decide)) (by decide) (by decide) (by decide)
theorem wf_giveUp {σ : wc_St} {t : Nat} (hw : wc_wf σ) : wc_wf (fc_giveUp σ t) := wf_st (wf_unlock (wf_unlock (wf_unlock hw))) (by decide) (by decide) (by decide)
theorem wf_finish {σ : wc_St} {t p : Nat} (hw : wc_wf σ) : wc_wf (fc_finish σ t p) :=
  wf_raise (wf_st (wf_unlock (wf_fin1 (wf_fin1 (wf_fin1 hw)))) (by decide) (by decide) (by decide))
theorem fc_fin1_crd {σ : wc_St} {t k u : Nat} : fc_fin1 σ t k 10 u 0 = σ 10 u 0 := by
  unfold fc_fin1
  split
  · simp [fc_add, fc_cnt, fc_put0, fc_shift, wc_st]
  · rfl
theorem fc_finish_crd {σ : wc_St} {t p u : Nat} : fc_finish σ t p 10 u 0 = σ 10 u 0 := by
  simp [fc_finish, fc_raise, fc_unlock, wc_st, fc_fin1_crd]
theorem wf_choose {σ : wc_St} {t c : Nat} (hw : wc_wf σ) : wc_wf (fc_choose σ t c) :=
  wf_st (wf_st (wf_st (wf_st hw (by decide) (by decide) (by decide)) (by decide) (by decide) (by decide)) (by decide) (by decide) (by decide)) (by decide) (by decide) (by decide)
theorem wf_takePrepare {σ : wc_St} {t p c : Nat} (hw : wc_wf σ) (hp : p < 3) (hc : c < 3) : wc_wf (fc_takePrepare σ t p c) :=
  wf_send (wf_st (wf_st hw (by decide) (by decide) (by decide)) (by decide) (by decide) (by decide)) hp hc
theorem wf_takePrepared {σ : wc_St} {t c : Nat} (hw : wc_wf σ) : wc_wf (fc_takePrepared σ t c) := by
  unfold fc_takePrepared
  have h : wc_wf (wc_st σ 12 t 0 (σ 12 t 0 - nI 1)) := wf_st hw (by decide) (by decide) (by decide)
  dsimp only
  split
  · exact wf_choose h
  · exact h
theorem wf_deal0 {σ : wc_St} {i : Nat} (hw : wc_wf σ) : wc_wf (fc_deal0 σ i) := wf_st (wf_st hw (by decide) (by decide) (by decide)) (by decide) (by decide) (by decide)
theorem wf_deal {σ : wc_St} {t p c : Nat} (hw : wc_wf σ) (hp : p < 3) (hc : c < 3) : wc_wf (fc_deal σ t p c) := by
  unfold fc_deal
  split
  · exact wf_takePrepare (wf_deal0 hw) hp hc
  · split
    · exact wf_takePrepared (wf_deal0 hw)
    · exact wf_finish (wf_deal0 hw)
theorem fc_crd_eq {σ : wc_St} {t c : Nat} (h : σ 10 t 0 = nI c) (hc : c < 3) : fc_crd σ t = c := by
  unfold fc_crd
  rw [h, nI_clamp (by omega)]
theorem wf_crd_lt {σ : wc_St} {t : Nat} (hw : wc_wf σ) (ht : t < 5) : fc_crd σ t < 3 := by
  obtain ⟨c, h1, h2⟩ := hw.1 t ht
  rw [fc_crd_eq h2 h1]
  exact h1
theorem fc_first_lt {σ : wc_St} : ∀ (n i : Nat) (a : Option Nat) (j : Nat), i + n ≤ 15 → (∀ j, a = some j → j < 15) → fc_first σ n i a = some j → j < 15 := by
  intro n
  induction n with
  | zero => intro i a j _ ha h; exact ha j h
  | succ n ih =>
    intro i a j hi ha h
    unfold fc_first at h
    refine ih (i + 1) _ j (by omega) ?_ h
    intro j' hj'
    split at hj'
    · exact ha j' hj'
    · split at hj'
      · cases hj'; omega
      · rename_i j2
        split at hj'
        · cases hj'; exact ha j' rfl
        · cases hj'; omega
theorem wf_deliver : ∀ (n : Nat) (σ : wc_St), wc_wf σ → wc_wf (fc_deliver n σ) := by
  intro n
  induction n with
  | zero => intro σ hw; exact hw
  | succ n ih =>
    intro σ hw
    unfold fc_deliver
    split
    · exact hw
    · split
      · exact hw
      · rename_i j hj
        have hj15 := fc_first_lt 15 0 none j (by omega) (fun _ h => by cases h) hj
        exact ih _ (wf_deal hw (Nat.mod_lt _ (by omega)) (wf_crd_lt hw (by omega)))
theorem wf_endOne {σ : wc_St} {t c : Nat} (hw : wc_wf σ) (hc : c < 3) : wc_wf (fc_endOne σ t c) :=
  wf_sto hc 3 0 0 _ (by omega) (wf_finish (wf_st (wf_st hw (by decide) (by decide) (by decide)) (by decide) (by decide) (by decide)))
theorem wf_ends : ∀ (n t a : Nat) (σ : wc_St), t + n ≤ 5 → wc_wf σ → wc_wf (fc_ends n t a σ).2 := by
  intro n
  induction n with
  | zero => intro t a σ _ hw; exact hw
  | succ n ih =>
    intro t a σ ht hw
    unfold fc_ends
    split
    · exact ih _ _ _ (by omega) hw
    · exact ih _ _ _ (by omega) (wf_endOne hw (wf_crd_lt hw (by omega)))
theorem wf_tick {σ : wc_St} (hw : wc_wf σ) : wc_wf (fc_tick σ) := wf_st hw (by decide) (by decide) (by decide)
theorem wf_steps : ∀ (n a : Nat) (σ : wc_St), wc_wf σ → wc_wf (fc_steps n a σ).2 := by
  intro n
  induction n with
  | zero => intro a σ hw; exact hw
  | succ n ih =>
    intro a σ hw
    unfold fc_steps
    exact ih _ _ (wf_ends 5 0 0 _ (by omega) (wf_deliver 15 _ (wf_tick hw)))
theorem wf_pushAll {t k : Nat} {kind : Int32} : ∀ (n i : Nat) (σ : wc_St), wc_wf σ → wc_wf (fc_pushAll t k kind n i σ) := by
  intro n
  induction n with
  | zero => intro i σ hw; exact hw
  | succ n ih =>
    intro i σ hw
    unfold fc_pushAll
    refine ih _ _ ?_
    split
    · exact hw
    · exact wf_giveUp hw
theorem wf_lock {σ : wc_St} {t k : Nat} {kind : Int32} (hw : wc_wf σ) : wc_wf (fc_lock σ t k kind).2 := by
  unfold fc_lock
  split
  · exact hw
  · split
    · split
      · exact hw
      · exact wf_st (wf_pushAll 5 0 σ hw) (by decide) (by decide) (by decide)
    · exact hw
theorem wf_prepare {σ : wc_St} {t c : Nat} (hw : wc_wf σ) (hc : c < 3) : wc_wf (fc_prepare σ t c) := by
  have h1 : wc_wf (fc_prep1 σ t c) := wf_st (wf_st hw (by decide) (by decide) (by decide)) (by decide) (by decide) (by decide)
  have h2 : wc_wf (fc_prep2 σ t c) := wf_st (wf_sto hc 3 0 0 _ (by omega) h1) (by decide) (by decide) (by decide)
  unfold fc_prepare
  dsimp only
  split
  · exact wf_choose h2
  · exact h2
def wc_rv (Γ : wc_G) (a : Option Nat) : Value := match a with
  | none => .null
  | some j => .ref (Γ.2.2 (55 + j))
