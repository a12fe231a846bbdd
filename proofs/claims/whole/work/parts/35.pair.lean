/-! Each public call, of class and reference, from any ints: the answers are equal, and the relation holds after. -/
def lj_I (l : Launch) (Γ : wc_G) (n : Nat) (yw : MethodName) (cw : ByteArray) (lw : Nat) (rw : FieldType) (dw : Nat) (ym : MethodName) (cm : ByteArray) (lm dm : Nat) (as : List Value) (σ μ : wc_St) : Prop :=
  ∃ (v : Int32) (σ' μ' : wc_St), wc_M l yw cw lw (some rw) dw Γ (.ref (Γ.2.2 0) :: as) σ μ (some (.int v)) σ' μ ∧ wc_M l ym cm lm (some rw) dm Γ (.ref (Γ.2.2 70) :: as) σ' μ (some (.int v)) σ' μ' ∧ sj_J (n + 1) σ' μ'
def lj_L (l : Launch) (Γ : wc_G) (n : Nat) (yw : MethodName) (cw : ByteArray) (lw : Nat) (rw : FieldType) (dw : Nat) (ym : MethodName) (cm : ByteArray) (lm dm : Nat) (as : List Value) (σ μ : wc_St) : Prop :=
  ∃ (v : Int64) (σ' μ' : wc_St), wc_M l yw cw lw (some rw) dw Γ (.ref (Γ.2.2 0) :: as) σ μ (some (.long v)) σ' μ ∧ wc_M l ym cm lm (some rw) dm Γ (.ref (Γ.2.2 70) :: as) σ' μ (some (.long v)) σ' μ' ∧ sj_J (n + 1) σ' μ'
theorem fm_forget_v : ∀ (m a : Nat) (μ : wc_St), fm_forget m a μ 37 0 0 = μ 37 0 0 := by
  intro m
  induction m with
  | zero => intro a μ; rfl
  | succ m ih => intro a μ; unfold fm_forget; rw [ih]; rfl
theorem fm_pushAll_v (t k : Nat) (how : Int32) : ∀ (m u : Nat) (μ : wc_St), fm_pushAll t k how m u μ 37 0 0 = μ 37 0 0 := by
  intro m
  induction m with
  | zero => intro u μ; rfl
  | succ m ih =>
    intro u μ
    unfold fm_pushAll
    rw [ih]
    split
    · rfl
    · exact fm_forget_v _ _ _
theorem fm_take_v (μ : wc_St) (t k : Nat) (how : Int32) : (fm_take μ t k how).2 37 0 0 = μ 37 0 0 := by
  unfold fm_take
  split
  · split
    · split
      · rfl
      · exact fm_pushAll_v t k how 5 0 μ
    · rfl
  · rfl
theorem lj_v {n : Nat} {σ μ : wc_St} (h : sj_J n σ μ) (hn : n < 512) : ∃ V, μ 37 0 0 = nI V ∧ V ≤ 512 := by
  obtain ⟨T, B, S, N, h1, h2, h3, h4, hR, hX⟩ := h
  obtain ⟨V, a, b, _⟩ := sj_vb hR (by omega)
  exact ⟨V, a, b⟩
theorem lj_c {n k : Nat} {σ μ : wc_St} (h : sj_J n σ μ) (hk : k < 9) : σ 5 k 0 ≤ nI 4 := by
  obtain ⟨T, B, S, N, h1, h2, h3, h4, hR, hX⟩ := h
  exact hR.2.2.2.2 k hk
theorem lj_clock (l : Launch) (Γ : wc_G) {n : Nat} {σ μ : wc_St} (hJ : sj_J n σ μ) (hn : n < 512) (a b d : Int32) : lj_I l Γ n yW_clock cW_clock 4 .boolean 1 yM_clock cM_clock 4 1 [.int a, .int b, .int d] σ μ := by
  by_cases h : wc_out a 3
  · exact ⟨nI 0, σ, μ, mc_clockO l Γ σ μ a h b d, mm_clockO l Γ σ μ a h b d, jj_mono hJ⟩
  · obtain ⟨q, hq, rfl⟩ := wc_out_not h (by decide)
    obtain ⟨e, hJ'⟩ := (jj_clock hJ hq : (fc_clock σ q b d).1 = (fm_clock μ q b d).1 ∧ sj_J (n + 1) (fc_clock σ q b d).2 (fm_clock μ q b d).2)
    exact ⟨(fc_clock σ q b d).1, _, _, mc_clockI l Γ σ μ hq b d, by rw [e]; exact mm_clockI l Γ _ μ hq b d, hJ'⟩
theorem lj_delay (l : Launch) (Γ : wc_G) {n : Nat} {σ μ : wc_St} (hJ : sj_J n σ μ) (hn : n < 512) (a b : Int32) : lj_I l Γ n yW_delay cW_delay 3 .boolean 1 yM_delay cM_delay 3 1 [.int a, .int b] σ μ := by
  by_cases h : wc_out a 3
  · exact ⟨nI 0, σ, μ, mc_delayO l Γ σ μ a h b, mm_delayO l Γ σ μ a h b, jj_mono hJ⟩
  · obtain ⟨q, hq, rfl⟩ := wc_out_not h (by decide)
    obtain ⟨e, hJ'⟩ := (jj_delay hJ hq : (fc_delay σ q b).1 = (fm_delay μ q b).1 ∧ sj_J (n + 1) (fc_delay σ q b).2 (fm_delay μ q b).2)
    exact ⟨(fc_delay σ q b).1, _, _, mc_delayI l Γ σ μ hq b, by rw [e]; exact mm_delayI l Γ _ μ hq b, hJ'⟩
theorem lj_begin (l : Launch) (Γ : wc_G) {n : Nat} {σ μ : wc_St} (hJ : sj_J n σ μ) (hn : n < 512) (a : Int32) : lj_I l Γ n yW_begin cW_begin 2 .boolean 3 yM_begin cM_begin 2 2 [.int a] σ μ := by
  by_cases h : wc_out a 5
  · exact ⟨nI 0, σ, μ, mc_beginO l Γ σ μ a h , mm_beginO l Γ σ μ a h , jj_mono hJ⟩
  · obtain ⟨q, hq, rfl⟩ := wc_out_not h (by decide)
    obtain ⟨e, hJ'⟩ := (jj_begin hJ hn hq : (fc_begin σ q ).1 = (fm_begin2 μ q ).1 ∧ sj_J (n + 1) (fc_begin σ q ).2 (fm_begin2 μ q ).2)
    exact ⟨(fc_begin σ q ).1, _, _, mc_beginI l Γ σ μ hq , by rw [e]; exact mm_beginI l Γ _ μ hq , hJ'⟩
theorem lj_commit (l : Launch) (Γ : wc_G) {n : Nat} {σ μ : wc_St} (hJ : sj_J n σ μ) (hn : n < 512) (a : Int32) : lj_I l Γ n yW_commit cW_commit 3 .boolean 4 yM_commit cM_commit 4 3 [.int a] σ μ := by
  by_cases h : wc_out a 5
  · exact ⟨nI 0, σ, μ, mc_commitO l Γ σ μ a h , mm_commitO l Γ σ μ a h , jj_mono hJ⟩
  · obtain ⟨q, hq, rfl⟩ := wc_out_not h (by decide)
    obtain ⟨e, hJ'⟩ := (jj_commit hJ hn hq : (fc_commit σ q ).1 = (fm_commit2 μ q ).1 ∧ sj_J (n + 1) (fc_commit σ q ).2 (fm_commit2 μ q ).2)
    exact ⟨(fc_commit σ q ).1, _, _, mc_commitI l Γ σ μ hq , by rw [e]; exact mm_commitI l Γ _ μ hq , hJ'⟩
theorem lj_abort (l : Launch) (Γ : wc_G) {n : Nat} {σ μ : wc_St} (hJ : sj_J n σ μ) (hn : n < 512) (a : Int32) : lj_I l Γ n yW_abort cW_abort 2 .boolean 2 yM_abort cM_abort 2 2 [.int a] σ μ := by
  by_cases h : wc_out a 5
  · exact ⟨nI 0, σ, μ, mc_abortO l Γ σ μ a h , mm_abortO l Γ σ μ a h , jj_mono hJ⟩
  · obtain ⟨q, hq, rfl⟩ := wc_out_not h (by decide)
    obtain ⟨e, hJ'⟩ := (jj_abort hJ hq : (fc_abort σ q ).1 = (fm_abort μ q ).1 ∧ sj_J (n + 1) (fc_abort σ q ).2 (fm_abort μ q ).2)
    exact ⟨(fc_abort σ q ).1, _, _, mc_abortI l Γ σ μ hq , by rw [e]; exact mm_abortI l Γ _ μ hq , hJ'⟩
theorem lj_power (l : Launch) (Γ : wc_G) {n : Nat} {σ μ : wc_St} (hJ : sj_J n σ μ) (hn : n < 512) (a b : Int32) (hu : b = nI 0 ∨ b = nI 1) : lj_I l Γ n yW_power cW_power 3 .boolean 1 yM_power cM_power 3 1 [.int a, .int b] σ μ := by
  by_cases h : wc_out a 3
  · exact ⟨nI 0, σ, μ, mc_powerO l Γ σ μ a h b, mm_powerO l Γ σ μ a h b, jj_mono hJ⟩
  · obtain ⟨q, hq, rfl⟩ := wc_out_not h (by decide)
    obtain ⟨e, hJ'⟩ := jj_power hJ hq hu
    exact ⟨(fc_power σ q b).1, _, _, mc_powerI l Γ σ μ hq b (by rcases hu with h | h <;> rw [h] <;> decide +kernel) (by rcases hu with h | h <;> rw [h] <;> decide +kernel), by rw [e]; exact mm_powerI l Γ _ μ hq b, hJ'⟩
theorem lj_read (l : Launch) (Γ : wc_G) {n : Nat} {σ μ : wc_St} (hJ : sj_J n σ μ) (hn : n < 512) (a b : Int32) : lj_L l Γ n yW_read cW_read 3 .long 3 yM_read cM_read 4 3 [.int a, .int b] σ μ := by
  by_cases h : wc_out a 5
  · exact ⟨_, σ, μ, mc_readO l Γ σ μ a b h, mm_readO l Γ σ μ a b h, jj_mono hJ⟩
  · obtain ⟨t, ht, rfl⟩ := wc_out_not h (by decide)
    by_cases h2 : wc_out b 9
    · exact ⟨_, σ, μ, mc_readK l Γ σ μ ht b h2, mm_readK l Γ σ μ ht b h2, jj_mono hJ⟩
    · obtain ⟨k, hk, rfl⟩ := wc_out_not h2 (by decide)
      obtain ⟨e, hJ'⟩ := jj_read hJ hn ht hk
      obtain ⟨V, v1, v2⟩ := lj_v hJ hn
      exact ⟨(fc_read σ t k).1, _, _, mc_readI l Γ σ μ ht hk, by rw [e]; exact mm_readI l Γ _ μ ht hk V ((fm_take_v μ t k (nI 1)).trans v1) v2, hJ'⟩
theorem lj_write (l : Launch) (Γ : wc_G) {n : Nat} {σ μ : wc_St} (hJ : sj_J n σ μ) (hn : n < 512) (a b d : Int32) : lj_I l Γ n yW_write cW_write 4 .boolean 3 yM_write cM_write 4 3 [.int a, .int b, .int d] σ μ := by
  by_cases h : wc_out a 5
  · exact ⟨nI 0, σ, μ, mc_writeO l Γ σ μ a b d h, mm_writeO l Γ σ μ a b d h, jj_mono hJ⟩
  · obtain ⟨t, ht, rfl⟩ := wc_out_not h (by decide)
    by_cases h2 : wc_out b 9
    · exact ⟨nI 0, σ, μ, mc_writeK l Γ σ μ ht b d h2, mm_writeK l Γ σ μ ht b d h2, jj_mono hJ⟩
    · obtain ⟨k, hk, rfl⟩ := wc_out_not h2 (by decide)
      obtain ⟨e, hJ'⟩ := jj_write (v := d) hJ hn ht hk
      exact ⟨(fc_write σ t k d).1, _, _, mc_writeI l Γ σ μ ht hk d, by rw [e]; exact mm_writeI l Γ _ μ ht hk d, hJ'⟩
theorem lj_readAt (l : Launch) (Γ : wc_G) {n : Nat} {σ μ : wc_St} (hJ : sj_J n σ μ) (hn : n < 512) (a b : Int32) : lj_L l Γ n yW_readAt cW_readAt 3 .long 3 yM_readAt cM_readAt 5 2 [.int a, .int b] σ μ := by
  by_cases h : wc_out a 9
  · exact ⟨_, σ, μ, mc_readAtO l Γ σ μ a h b, mm_readAtO l Γ σ μ a h b, jj_mono hJ⟩
  · obtain ⟨k, hk, rfl⟩ := wc_out_not h (by decide)
    obtain ⟨e, hJ'⟩ := jj_readAt (r := b) hJ hn hk
    obtain ⟨V, v1, v2⟩ := lj_v hJ hn
    exact ⟨(fc_readAt σ k b).1, _, _, mc_readAtI l Γ σ μ hk b (lj_c hJ hk), by rw [e]; exact mm_readAtI l Γ _ μ hk b V v1 v2, hJ'⟩
theorem lj_step (l : Launch) (Γ : wc_G) {n : Nat} {σ μ : wc_St} (hJ : sj_J n σ μ) (hn : n < 512) (a : Int32) : lj_I l Γ n yW_step cW_step 4 .int 6 yM_step cM_step 7 4 [.int a] σ μ := by
  by_cases h : wc_out a 501
  · refine ⟨-1, σ, μ, mc_stepO l Γ σ μ a (h.imp id (fun q => ?_)), mm_stepO l Γ σ μ a h, jj_mono hJ⟩
    rw [Int32.le_iff_toInt_le, nI_toInt (by decide)] at q
    rw [Int32.le_iff_toInt_le, nI_toInt (by decide)]
    omega
  · obtain ⟨N, hN, rfl⟩ := wc_out_not h (by decide)
    have hw : wc_wf σ := by
      obtain ⟨T, B, S, N, h1, h2, h3, h4, hR, hX⟩ := hJ
      exact hR.2.2
    obtain ⟨e, hJ'⟩ := jj_step (N0 := N) hJ hn (by omega)
    exact ⟨nI (fc_steps N 0 σ).1, _, _, mc_stepI l Γ σ μ (by omega) hw, by rw [e]; exact mj_step l Γ _ hJ hn (by omega), hJ'⟩
theorem lj_now (l : Launch) (Γ : wc_G) {n : Nat} {σ μ : wc_St} (hJ : sj_J n σ μ) (hn : n < 512) : lj_I l Γ n yW_now cW_now 1 .int 0 yM_now cM_now 1 0 [] σ μ := by
  have hJ0 := jj_mono hJ
  obtain ⟨T, B, S, N, h1, h2, h3, h4, hR, hX⟩ := hJ
  exact ⟨σ 23 0 0, σ, μ, mc_now l Γ σ μ, by rw [show σ 23 0 0 = μ 31 0 0 from hR.1.1.2.2.1.trans hR.1.1.2.2.2.1.symm]; exact mm_now l Γ σ μ, hJ0⟩
theorem lj_messages (l : Launch) (Γ : wc_G) {n : Nat} {σ μ : wc_St} (hJ : sj_J n σ μ) (hn : n < 512) : lj_I l Γ n yW_messages cW_messages 1 .int 0 yM_messages cM_messages 3 0 [] σ μ := by
  have hJ0 := jj_mono hJ
  obtain ⟨T, B, S, N, h1, h2, h3, h4, hR, hX⟩ := hJ
  exact ⟨σ 26 0 0, σ, μ, mc_messages l Γ σ μ, by rw [ss_messages hR.1]; exact mm_messages l Γ σ μ, hJ0⟩
theorem lj_state (l : Launch) (Γ : wc_G) {n : Nat} {σ μ : wc_St} (hJ : sj_J n σ μ) (hn : n < 512) (a : Int32) : lj_I l Γ n yW_state cW_state 2 .int 1 yM_state cM_state 2 1 [.int a] σ μ := by
  by_cases h : wc_out a 5
  · exact ⟨-1, σ, μ, mc_stateO l Γ σ μ a h, mm_stateO l Γ σ μ a h, jj_mono hJ⟩
  · obtain ⟨q, hq, rfl⟩ := wc_out_not h (by decide)
    have hJ0 := jj_mono hJ
    obtain ⟨T, B, S, N, h1, h2, h3, h4, hR, hX⟩ := hJ
    have e := (hR.1.2.2.1 q hq).1
    exact ⟨σ 8 q 0, σ, μ, mc_stateI l Γ σ μ hq, by rw [e]; exact mm_stateI l Γ σ μ hq, hJ0⟩
theorem lj_stp {T B S N q : Nat} {σ μ : wc_St} (h : sj_B T B S N σ μ) (hq : q < 5) : fc_stamp σ q = fm_stamp μ q := by
  obtain ⟨a, _, b, _⟩ := h.2.2.1 q hq
  unfold fc_stamp fm_stamp
  rw [a, b]
theorem lj_en {T B S N q : Nat} {σ μ : wc_St} (h : sj_B T B S N σ μ) (hq : q < 5) : fc_end σ q = fm_end μ q := by
  obtain ⟨a, _, _, b, _⟩ := h.2.2.1 q hq
  unfold fc_end fm_end
  rw [a, b]
theorem lj_sf {T B S N q : Nat} {σ μ : wc_St} (h : sj_B T B S N σ μ) (hT : T < 2 ^ 29) (hq : q < 3) : fc_safe σ q = fm_safe2 μ q := by
  have hud := sj_up h hq
  unfold fc_safe fm_safe2
  by_cases w : μ 35 0 q = 0
  · rw [if_neg (show ¬ σ 3 q 0 = 0 by rw [hud]; exact fun z => z w), if_pos w, ss_ready h hT hq]
  · rw [if_pos (show σ 3 q 0 = 0 by rw [hud]; exact w), if_neg w]
theorem lj_stamp (l : Launch) (Γ : wc_G) {n : Nat} {σ μ : wc_St} (hJ : sj_J n σ μ) (hn : n < 512) (a : Int32) : lj_I l Γ n yW_stamp cW_stamp 3 .int 2 yM_stamp cM_stamp 2 1 [.int a] σ μ := by
  by_cases h : wc_out a 5
  · exact ⟨-1, σ, μ, mc_stampO l Γ σ μ a h, mm_stampO l Γ σ μ a h, jj_mono hJ⟩
  · obtain ⟨q, hq, rfl⟩ := wc_out_not h (by decide)
    have hJ0 := jj_mono hJ
    obtain ⟨T, B, S, N, h1, h2, h3, h4, hR, hX⟩ := hJ
    have e := lj_stp hR.1 hq
    exact ⟨fc_stamp σ q, σ, μ, mc_stampI l Γ σ μ hq, by rw [e]; exact mm_stampI l Γ σ μ hq, hJ0⟩
theorem lj_end (l : Launch) (Γ : wc_G) {n : Nat} {σ μ : wc_St} (hJ : sj_J n σ μ) (hn : n < 512) (a : Int32) : lj_I l Γ n yW_end cW_end 2 .int 2 yM_end cM_end 2 1 [.int a] σ μ := by
  by_cases h : wc_out a 5
  · exact ⟨-1, σ, μ, mc_endO l Γ σ μ a h, mm_endO l Γ σ μ a h, jj_mono hJ⟩
  · obtain ⟨q, hq, rfl⟩ := wc_out_not h (by decide)
    have hJ0 := jj_mono hJ
    obtain ⟨T, B, S, N, h1, h2, h3, h4, hR, hX⟩ := hJ
    have e := lj_en hR.1 hq
    exact ⟨fc_end σ q, σ, μ, mc_endI l Γ σ μ hq, by rw [e]; exact mm_endI l Γ σ μ hq, hJ0⟩
theorem lj_marks (l : Launch) (Γ : wc_G) {n : Nat} {σ μ : wc_St} (hJ : sj_J n σ μ) (hn : n < 512) (a : Int32) : lj_I l Γ n yW_marks cW_marks 4 .int 2 yM_marks cM_marks 5 1 [.int a] σ μ := by
  by_cases h : wc_out a 3
  · exact ⟨nI 0, σ, μ, mc_marksO l Γ σ μ a h, mm_marksO l Γ σ μ a h, jj_mono hJ⟩
  · obtain ⟨q, hq, rfl⟩ := wc_out_not h (by decide)
    have hJ0 := jj_mono hJ
    obtain ⟨T, B, S, N, h1, h2, h3, h4, hR, hX⟩ := hJ
    have e := ss_marks2 hR.1 hq
    exact ⟨fc_marks2 σ q, σ, μ, mc_marksI l Γ σ μ hq, by rw [e]; exact mm_marksI l Γ σ μ hq, hJ0⟩
theorem lj_safe (l : Launch) (Γ : wc_G) {n : Nat} {σ μ : wc_St} (hJ : sj_J n σ μ) (hn : n < 512) (a : Int32) : lj_I l Γ n yW_safe cW_safe 2 .int 3 yM_safe cM_safe 4 1 [.int a] σ μ := by
  by_cases h : wc_out a 3
  · exact ⟨-1, σ, μ, mc_safeO l Γ σ μ a h, mm_safeO l Γ σ μ a h, jj_mono hJ⟩
  · obtain ⟨q, hq, rfl⟩ := wc_out_not h (by decide)
    have hJ0 := jj_mono hJ
    obtain ⟨T, B, S, N, h1, h2, h3, h4, hR, hX⟩ := hJ
    have e := lj_sf hR.1 (by omega) hq
    exact ⟨fc_safe σ q, σ, μ, mc_safeI l Γ σ μ hq, by rw [e]; exact mm_safeI l Γ σ μ hq, hJ0⟩
theorem lj_bound (l : Launch) (Γ : wc_G) {n : Nat} {σ μ : wc_St} (hJ : sj_J n σ μ) (hn : n < 512) (a : Int32) : lj_I l Γ n yW_bound cW_bound 2 .int 1 yM_bound cM_bound 2 1 [.int a] σ μ := by
  by_cases h : wc_out a 3
  · exact ⟨-1, σ, μ, mc_boundO l Γ σ μ a h, mm_boundO l Γ σ μ a h, jj_mono hJ⟩
  · obtain ⟨q, hq, rfl⟩ := wc_out_not h (by decide)
    have hJ0 := jj_mono hJ
    obtain ⟨T, B, S, N, h1, h2, h3, h4, hR, hX⟩ := hJ
    have e := (hR.1.2.1 q hq).2.2.2.2.2.1
    exact ⟨σ 4 q 0, σ, μ, mc_boundI l Γ σ μ hq, by rw [e]; exact mm_boundI l Γ σ μ hq, hJ0⟩
theorem lj_holders (l : Launch) (Γ : wc_G) {n : Nat} {σ μ : wc_St} (hJ : sj_J n σ μ) (hn : n < 512) (a : Int32) : lj_I l Γ n yW_holders cW_holders 4 .int 1 yM_holders cM_holders 4 1 [.int a] σ μ := by
  by_cases h : wc_out a 9
  · exact ⟨nI 0, σ, μ, mc_holdersO l Γ σ μ a h, mm_holdersO l Γ σ μ a h, jj_mono hJ⟩
  · obtain ⟨q, hq, rfl⟩ := wc_out_not h (by decide)
    have hJ0 := jj_mono hJ
    obtain ⟨T, B, S, N, h1, h2, h3, h4, hR, hX⟩ := hJ
    have e := ss_holders hR.1 hX hq
    exact ⟨fc_holders σ q 5 0 (nI 0), σ, μ, mc_holdersI l Γ σ μ hq, by rw [e]; exact mm_holdersI l Γ σ μ hq, hJ0⟩
theorem lj_version (l : Launch) (Γ : wc_G) {n : Nat} {σ μ : wc_St} (hJ : sj_J n σ μ) (hn : n < 512) (a b : Int32) : lj_I l Γ n yW_version cW_version 3 .int 1 yM_version cM_version 4 2 [.int a, .int b] σ μ := by
  by_cases h : wc_out a 9
  · exact ⟨-1, σ, μ, mc_versionO l Γ σ μ a b h, mm_versionO l Γ σ μ a b h, jj_mono hJ⟩
  · obtain ⟨k, hk, rfl⟩ := wc_out_not h (by decide)
    have hJ0 := jj_mono hJ
    have hc := lj_c hJ hk
    by_cases h2 : wc_out b 4
    · have e : fc_version σ k b = -1 := by
        unfold fc_version
        by_cases q : b < 0
        · rw [if_pos q]
        · have q2 : ¬ b < σ 5 k 0 := by
            rcases h2 with z | z
            · exact absurd z q
            · rw [Int32.le_iff_toInt_le] at z hc
              rw [Int32.lt_iff_toInt_lt]
              omega
          rw [if_neg q, if_neg q2]
      exact ⟨fc_version σ k b, σ, μ, mc_versionI l Γ σ μ hk b hc, by rw [e]; exact mm_versionK l Γ σ μ hk b h2, hJ0⟩
    · obtain ⟨i, hi, rfl⟩ := wc_out_not h2 (by decide)
      obtain ⟨T, B, S, N, h1, h2, h3, h4, hR, hX⟩ := hJ
      obtain ⟨V, v1, v2, e⟩ := ss_version hR.1 (by omega) hk hi
      exact ⟨fc_version σ k (nI i), σ, μ, mc_versionI l Γ σ μ hk (nI i) hc, by rw [e]; exact mm_versionI l Γ σ μ hk hi V v1 v2, hJ0⟩
