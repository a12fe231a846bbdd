set_option maxRecDepth 100000 in
set_option maxHeartbeats 4000000 in
theorem mm_in (l : Launch) (Γ : wc_G) (σ μ : wc_St) (a b : Int32) : wc_M l yM_in cM_in 2 (some .boolean) 0 Γ [.int a, .int b] σ μ (some (.int (wc_in2 a b))) σ (μ) := by
  refine wc_enter "WaitedCommitsModel" (by decide) rfl (Nat.le_of_ble_eq_true rfl) ?_
  intro P0 E0 S0 M0 A0 B0 T0 K0 C hr hlk
  refine wr_vs (vs' := [(0, .int a), (1, .int b)]) rfl ?_
  refine wr_iload_n C 0 dM_in_0 rfl rfl ?_
  refine wr_if_lt C (tgt := 13) dM_in_1 (by decide) (fun h1 => ?_) (fun h1 => ?_)
  ·
    refine wr_iconst C (v := nI 0) dM_in_13 (by decide) ?_
    exact wr_iret C hr rfl hlk dM_in_14 (by subst_vars; first | (simp [wc_in2, wc_nIe, wc_nI0, wc_nIm, *]; done) | (simp_all [wc_in2, wc_nIe, wc_nI0, wc_nIm]; done)) (by rfl) (by rfl)
  ·
    refine wr_iload_n C 0 dM_in_4 rfl rfl ?_
    refine wr_iload_n C 1 dM_in_5 rfl rfl ?_
    refine wr_icmp_ge C (tgt := 13) dM_in_6 (by decide) (fun h2 => ?_) (fun h2 => ?_)
    ·
      refine wr_iconst C (v := nI 0) dM_in_13 (by decide) ?_
      exact wr_iret C hr rfl hlk dM_in_14 (by subst_vars; first | (simp [wc_in2, wc_nIe, wc_nI0, wc_nIm, *]; done) | (simp_all [wc_in2, wc_nIe, wc_nI0, wc_nIm]; done)) (by rfl) (by rfl)
    ·
      refine wr_iconst C (v := nI 1) dM_in_9 (by decide) ?_
      refine wr_goto C (tgt := 14) dM_in_10 (by decide) ?_
      exact wr_iret C hr rfl hlk dM_in_14 (by subst_vars; first | (simp [wc_in2, wc_nIe, wc_nI0, wc_nIm, *]; done) | (simp_all [wc_in2, wc_nIe, wc_nI0, wc_nIm]; done)) (by rfl) (by rfl)
theorem mm_inN (l : Launch) (Γ : wc_G) (σ μ : wc_St) (a : Int32) (N : Nat) : wc_M l yM_in cM_in 2 (some .boolean) 0 Γ [.int a, .int (nI N)] σ μ (some (.int (wc_in a N))) σ μ := mm_in l Γ σ μ a (nI N)
theorem mm_inI (l : Launch) (Γ : wc_G) (σ μ : wc_St) {j N : Nat} (hj : j < N) (hN : N < 2 ^ 31) : wc_M l yM_in cM_in 2 (some .boolean) 0 Γ [.int (nI j), .int (nI N)] σ μ (some (.int (nI 1))) σ μ := by
  have h := mm_inN l Γ σ μ (nI j) N
  rw [wc_in_I hj hN] at h
  exact h
theorem mm_inO (l : Launch) (Γ : wc_G) (σ μ : wc_St) (a : Int32) {N : Nat} (h : a < 0 ∨ nI N ≤ a) : wc_M l yM_in cM_in 2 (some .boolean) 0 Γ [.int a, .int (nI N)] σ μ (some (.int (nI 0))) σ μ := by
  have h2 := mm_inN l Γ σ μ a N
  rw [wc_in_O h] at h2
  exact h2
set_option maxRecDepth 100000 in
set_option maxHeartbeats 4000000 in
theorem mm_raise (l : Launch) (Γ : wc_G) (σ μ : wc_St) {q : Nat} (hq : q < 3) (r : Int32) : wc_M l yM_raise cM_raise 3 none 0 Γ [.ref (Γ.2.2 70), .int (nI q), .int r] σ μ none σ (fm_raise μ q r) := by
  refine wc_enter "WaitedCommitsModel" (by decide) rfl (Nat.le_of_ble_eq_true rfl) ?_
  intro P0 E0 S0 M0 A0 B0 T0 K0 C hr hlk
  refine wr_vs (vs' := [(0, .ref (Γ.2.2 70)), (1, .int (nI q)), (2, .int r)]) rfl ?_
  refine wr_aload_n C 0 dM_raise_0 rfl rfl ?_
  refine wf_Model_bound C  (Or.inl tw_351) dM_raise_1 ?_
  refine wr_iload_n C 1 dM_raise_4 rfl rfl ?_
  refine wr_aload_n C 0 dM_raise_5 rfl rfl ?_
  refine wf_Model_bound C  (Or.inl tw_351) dM_raise_6 ?_
  refine wr_iload_n C 1 dM_raise_9 rfl rfl ?_
  refine wa_m_bound C (by omega) dM_raise_10 ?_
  refine wr_iload_n C 2 dM_raise_11 rfl rfl ?_
  refine wr_icmp_ge C (tgt := 19) dM_raise_12 (by decide) (fun h1 => ?_) (fun h1 => ?_)
  ·
    refine wr_aload_n C 0 dM_raise_19 rfl rfl ?_
    refine wf_Model_bound C  (Or.inl tw_351) dM_raise_20 ?_
    refine wr_iload_n C 1 dM_raise_23 rfl rfl ?_
    refine wa_m_bound C (by omega) dM_raise_24 ?_
    refine ws_m_bound C (by omega) dM_raise_25 ?_
    generalize hs1 : wc_st μ 36 0 q (μ 36 0 q) = μ1
    exact wr_vret C hr hlk dM_raise_26 rfl (by first | rfl | (subst_vars; simp [fm_raise, *]; done)) (by first | rfl | (subst_vars; simp [fm_raise, *]; done))
  ·
    refine wr_iload_n C 2 dM_raise_15 rfl rfl ?_
    refine wr_goto C (tgt := 25) dM_raise_16 (by decide) ?_
    refine ws_m_bound C (by omega) dM_raise_25 ?_
    generalize hs2 : wc_st μ 36 0 q r = μ2
    exact wr_vret C hr hlk dM_raise_26 rfl (by first | rfl | (subst_vars; simp [fm_raise, *]; done)) (by first | rfl | (subst_vars; simp [fm_raise, *]; done))
set_option maxRecDepth 100000 in
set_option maxHeartbeats 4000000 in
theorem mm_activeI (l : Launch) (Γ : wc_G) (σ μ : wc_St) {t : Nat} (ht : t < 5) : wc_M l yM_active cM_active 2 (some .boolean) 1 Γ [.ref (Γ.2.2 70), .int (nI t)] σ μ (some (.int (fm_active μ t))) σ (μ) := by
  refine wc_enter "WaitedCommitsModel" (by decide) rfl (Nat.le_of_ble_eq_true rfl) ?_
  intro P0 E0 S0 M0 A0 B0 T0 K0 C hr hlk
  refine wr_vs (vs' := [(0, .ref (Γ.2.2 70)), (1, .int (nI t))]) rfl ?_
  refine wr_iload_n C 1 dM_active_0 rfl rfl ?_
  refine wr_iconst C (v := nI 5) dM_active_1 (by decide) ?_
  refine wr_callS1 C (As := [.int (nI t), .int (nI 5)]) (rest := []) (mm_inI l Γ σ μ (j := t) (N := 5) (by omega) (by decide)) cb_M_in (Or.inl tw_399) tw_400 (by decide) (by decide) rfl rfl (Nat.le_of_ble_eq_true rfl) ⟨Nat.le_refl _, Nat.le_refl _⟩ dM_active_2 ?_
  refine wr_if_eq C (tgt := 22) dM_active_5 (by decide) (fun h1 => absurd h1 (by decide)) (fun _ => ?_)
  refine wr_aload_n C 0 dM_active_8 rfl rfl ?_
  refine wf_Model_state C  (Or.inl tw_357) dM_active_9 ?_
  refine wr_iload_n C 1 dM_active_12 rfl rfl ?_
  refine wa_m_state C (by omega) dM_active_13 ?_
  refine wr_iconst C (v := nI 1) dM_active_14 (by decide) ?_
  refine wr_icmp_ne C (tgt := 22) dM_active_15 (by decide) (fun h2 => ?_) (fun h2 => ?_)
  ·
    refine wr_iconst C (v := nI 0) dM_active_22 (by decide) ?_
    exact wr_iret C hr rfl hlk dM_active_23 (by subst_vars; first | (simp [fm_active, wc_nIe, wc_nI0, wc_nIm, *]; done) | (simp_all [fm_active, wc_nIe, wc_nI0, wc_nIm]; done)) (by rfl) (by rfl)
  ·
    refine wr_iconst C (v := nI 1) dM_active_18 (by decide) ?_
    refine wr_goto C (tgt := 23) dM_active_19 (by decide) ?_
    exact wr_iret C hr rfl hlk dM_active_23 (by subst_vars; first | (simp [fm_active, wc_nIe, wc_nI0, wc_nIm, *]; done) | (simp_all [fm_active, wc_nIe, wc_nI0, wc_nIm]; done)) (by rfl) (by rfl)
set_option maxRecDepth 100000 in
set_option maxHeartbeats 4000000 in
theorem mm_activeO (l : Launch) (Γ : wc_G) (σ μ : wc_St) (a : Int32) (ha : a < 0 ∨ nI 5 ≤ a) : wc_M l yM_active cM_active 2 (some .boolean) 1 Γ [.ref (Γ.2.2 70), .int a] σ μ (some (.int (nI 0))) σ (μ) := by
  refine wc_enter "WaitedCommitsModel" (by decide) rfl (Nat.le_of_ble_eq_true rfl) ?_
  intro P0 E0 S0 M0 A0 B0 T0 K0 C hr hlk
  refine wr_vs (vs' := [(0, .ref (Γ.2.2 70)), (1, .int a)]) rfl ?_
  refine wr_iload_n C 1 dM_active_0 rfl rfl ?_
  refine wr_iconst C (v := nI 5) dM_active_1 (by decide) ?_
  refine wr_callS1 C (As := [.int a, .int (nI 5)]) (rest := []) (mm_inO l Γ σ μ a (N := 5) ha) cb_M_in (Or.inl tw_399) tw_400 (by decide) (by decide) rfl rfl (Nat.le_of_ble_eq_true rfl) ⟨Nat.le_refl _, Nat.le_refl _⟩ dM_active_2 ?_
  refine wr_if_eq C (tgt := 22) dM_active_5 (by decide) (fun _ => ?_) (fun h1 => absurd (by decide) h1)
  refine wr_iconst C (v := nI 0) dM_active_22 (by decide) ?_
  exact wr_iret C hr rfl hlk dM_active_23 (by rfl) (by rfl) (by rfl)
set_option maxRecDepth 100000 in
set_option maxHeartbeats 4000000 in
theorem mm_part (l : Launch) (Γ : wc_G) (σ μ : wc_St) {t : Nat} (ht : t < 5) {q : Nat} (hq : q < 3) : wc_M l yM_takesPart cM_takesPart 3 (some .boolean) 0 Γ [.ref (Γ.2.2 70), .int (nI t), .int (nI q)] σ μ (some (.int (fm_part μ t q))) σ (μ) := by
  refine wc_enter "WaitedCommitsModel" (by decide) rfl (Nat.le_of_ble_eq_true rfl) ?_
  intro P0 E0 S0 M0 A0 B0 T0 K0 C hr hlk
  refine wr_vs (vs' := [(0, .ref (Γ.2.2 70)), (1, .int (nI t)), (2, .int (nI q))]) rfl ?_
  refine wr_aload_n C 0 dM_takesPart_0 rfl rfl ?_
  refine wf_Model_lock C  (Or.inl tw_362) dM_takesPart_1 ?_
  refine wr_bipush C (v := nI 9) dM_takesPart_4 (by decide) ?_
  refine wr_iload_n C 1 dM_takesPart_6 rfl rfl ?_
  refine wr_imul C (z := nI (9 * t)) dM_takesPart_7 (pk_mul 9 t) ?_
  refine wr_iload_n C 2 dM_takesPart_8 rfl rfl ?_
  refine wr_iadd C (z := nI (9 * t + q)) dM_takesPart_9 (nI_add (9 * t) q) ?_
  refine wa_m_lock C (by omega) dM_takesPart_10 ?_
  refine wr_aload_n C 0 dM_takesPart_11 rfl rfl ?_
  refine wf_Model_lock C  (Or.inl tw_362) dM_takesPart_12 ?_
  refine wr_bipush C (v := nI 9) dM_takesPart_15 (by decide) ?_
  refine wr_iload_n C 1 dM_takesPart_17 rfl rfl ?_
  refine wr_imul C (z := nI (9 * t)) dM_takesPart_18 (pk_mul 9 t) ?_
  refine wr_iload_n C 2 dM_takesPart_19 rfl rfl ?_
  refine wr_iadd C (z := nI (9 * t + q)) dM_takesPart_20 (nI_add (9 * t) q) ?_
  refine wr_iconst C (v := nI 3) dM_takesPart_21 (by decide) ?_
  refine wr_iadd C (z := nI (9 * t + q + 3)) dM_takesPart_22 (nI_add (9 * t + q) 3) ?_
  refine wa_m_lock C (by omega) dM_takesPart_23 ?_
  refine wr_iadd C (z := (μ 47 0 (9 * t + q)) + (μ 47 0 (9 * t + q + 3))) dM_takesPart_24 rfl ?_
  refine wr_aload_n C 0 dM_takesPart_25 rfl rfl ?_
  refine wf_Model_lock C  (Or.inl tw_362) dM_takesPart_26 ?_
  refine wr_bipush C (v := nI 9) dM_takesPart_29 (by decide) ?_
  refine wr_iload_n C 1 dM_takesPart_31 rfl rfl ?_
  refine wr_imul C (z := nI (9 * t)) dM_takesPart_32 (pk_mul 9 t) ?_
  refine wr_iload_n C 2 dM_takesPart_33 rfl rfl ?_
  refine wr_iadd C (z := nI (9 * t + q)) dM_takesPart_34 (nI_add (9 * t) q) ?_
  refine wr_bipush C (v := nI 6) dM_takesPart_35 (by decide) ?_
  refine wr_iadd C (z := nI (9 * t + q + 6)) dM_takesPart_37 (nI_add (9 * t + q) 6) ?_
  refine wa_m_lock C (by omega) dM_takesPart_38 ?_
  refine wr_iadd C (z := ((μ 47 0 (9 * t + q)) + (μ 47 0 (9 * t + q + 3))) + (μ 47 0 (9 * t + q + 6))) dM_takesPart_39 rfl ?_
  refine wr_if_le C (tgt := 47) dM_takesPart_40 (by decide) (fun h1 => ?_) (fun h1 => ?_)
  ·
    refine wr_iconst C (v := nI 0) dM_takesPart_47 (by decide) ?_
    exact wr_iret C hr rfl hlk dM_takesPart_48 (by subst_vars; first | (simp [fm_part, wc_nIe, wc_nI0, wc_nIm, *]; done) | (simp_all [fm_part, wc_nIe, wc_nI0, wc_nIm]; done)) (by rfl) (by rfl)
  ·
    refine wr_iconst C (v := nI 1) dM_takesPart_43 (by decide) ?_
    refine wr_goto C (tgt := 48) dM_takesPart_44 (by decide) ?_
    exact wr_iret C hr rfl hlk dM_takesPart_48 (by subst_vars; first | (simp [fm_part, wc_nIe, wc_nI0, wc_nIm, *]; done) | (simp_all [fm_part, wc_nIe, wc_nI0, wc_nIm]; done)) (by rfl) (by rfl)
set_option maxRecDepth 100000 in
set_option maxHeartbeats 4000000 in
theorem mm_least (l : Launch) (Γ : wc_G) (σ μ : wc_St) {t : Nat} (ht : t < 5) : wc_M l yM_least cM_least 2 (some .int) 1 Γ [.ref (Γ.2.2 70), .int (nI t)] σ μ (some (.int (nI (fm_least μ t)))) σ (μ) := by
  refine wc_enter "WaitedCommitsModel" (by decide) rfl (Nat.le_of_ble_eq_true rfl) ?_
  intro P0 E0 S0 M0 A0 B0 T0 K0 C hr hlk
  refine wr_vs (vs' := [(0, .ref (Γ.2.2 70)), (1, .int (nI t))]) rfl ?_
  refine wr_aload_n C 0 dM_least_0 rfl rfl ?_
  refine wr_iload_n C 1 dM_least_1 rfl rfl ?_
  refine wr_iconst C (v := nI 0) dM_least_2 (by decide) ?_
  refine wr_callV1 C (As := [.int (nI t), .int (nI 0)]) (rest := []) (mm_part l Γ σ μ (t := t) (q := 0) (by omega) (by omega)) cb_M_takesPart (Or.inl tw_417) tw_418 tw_560 (by omega) (wc_c_Model) rfl (by decide) (by decide) rfl rfl (Nat.le_of_ble_eq_true rfl) ⟨Nat.le_refl _, Nat.le_refl _⟩ dM_least_3 ?_
  refine wr_if_eq C (tgt := 13) dM_least_6 (by decide) (fun h1 => ?_) (fun h1 => ?_)
  ·
    refine wr_aload_n C 0 dM_least_13 rfl rfl ?_
    refine wr_iload_n C 1 dM_least_14 rfl rfl ?_
    refine wr_iconst C (v := nI 1) dM_least_15 (by decide) ?_
    refine wr_callV1 C (As := [.int (nI t), .int (nI 1)]) (rest := []) (mm_part l Γ σ μ (t := t) (q := 1) (by omega) (by omega)) cb_M_takesPart (Or.inl tw_417) tw_418 tw_560 (by omega) (wc_c_Model) rfl (by decide) (by decide) rfl rfl (Nat.le_of_ble_eq_true rfl) ⟨Nat.le_refl _, Nat.le_refl _⟩ dM_least_16 ?_
    refine wr_if_eq C (tgt := 26) dM_least_19 (by decide) (fun h2 => ?_) (fun h2 => ?_)
    ·
      refine wr_aload_n C 0 dM_least_26 rfl rfl ?_
      refine wr_iload_n C 1 dM_least_27 rfl rfl ?_
      refine wr_iconst C (v := nI 2) dM_least_28 (by decide) ?_
      refine wr_callV1 C (As := [.int (nI t), .int (nI 2)]) (rest := []) (mm_part l Γ σ μ (t := t) (q := 2) (by omega) (by omega)) cb_M_takesPart (Or.inl tw_417) tw_418 tw_560 (by omega) (wc_c_Model) rfl (by decide) (by decide) rfl rfl (Nat.le_of_ble_eq_true rfl) ⟨Nat.le_refl _, Nat.le_refl _⟩ dM_least_29 ?_
      refine wr_if_eq C (tgt := 39) dM_least_32 (by decide) (fun h3 => ?_) (fun h3 => ?_)
      ·
        refine wr_iconst C (v := nI 3) dM_least_39 (by decide) ?_
        exact wr_iret C hr rfl hlk dM_least_40 (by subst_vars; first | (simp [fm_least, wc_nIe, wc_nI0, wc_nIm, *]; done) | (simp_all [fm_least, wc_nIe, wc_nI0, wc_nIm]; done)) (by rfl) (by rfl)
      ·
        refine wr_iconst C (v := nI 2) dM_least_35 (by decide) ?_
        refine wr_goto C (tgt := 40) dM_least_36 (by decide) ?_
        exact wr_iret C hr rfl hlk dM_least_40 (by subst_vars; first | (simp [fm_least, wc_nIe, wc_nI0, wc_nIm, *]; done) | (simp_all [fm_least, wc_nIe, wc_nI0, wc_nIm]; done)) (by rfl) (by rfl)
    ·
      refine wr_iconst C (v := nI 1) dM_least_22 (by decide) ?_
      refine wr_goto C (tgt := 40) dM_least_23 (by decide) ?_
      exact wr_iret C hr rfl hlk dM_least_40 (by subst_vars; first | (simp [fm_least, wc_nIe, wc_nI0, wc_nIm, *]; done) | (simp_all [fm_least, wc_nIe, wc_nI0, wc_nIm]; done)) (by rfl) (by rfl)
  ·
    refine wr_iconst C (v := nI 0) dM_least_9 (by decide) ?_
    refine wr_goto C (tgt := 40) dM_least_10 (by decide) ?_
    exact wr_iret C hr rfl hlk dM_least_40 (by subst_vars; first | (simp [fm_least, wc_nIe, wc_nI0, wc_nIm, *]; done) | (simp_all [fm_least, wc_nIe, wc_nI0, wc_nIm]; done)) (by rfl) (by rfl)
set_option maxRecDepth 100000 in
set_option maxHeartbeats 4000000 in
theorem mn_forget {P0 : Program} {l : Launch} {E0 : Env} {S0 : State} {M0 : MethodId} {A0 : Array Value} {B0 : List Frame} {T0 : Method} {K0 : Code} {Γ : wc_G} {A : Nat → Prop} {v : Option Value} {σ' μ' : wc_St} (C : wc_C P0 S0 M0 A0 K0 cM_forget 3 "WaitedCommitsModel" Γ A) (hr : T0.sig.returnType = none) (hlk : T0.locks = false) {t : Nat} (ht : t < 5) (σ : wc_St) (hσ : σ = σ') (hv : none = v) : ∀ (n : Nat) (k : Nat) (μ : wc_St), k + n = 9 * t + 9 → fm_forget n k μ = μ' → wc_K P0 l E0 (wc_rm 0) S0 M0 A0 B0 T0 K0 3 Γ A (MQ B0 (wc_Qw Γ A v σ' μ') A0 S0 0 0 A) 0 0 5 [(2, .int (nI k)), (0, .ref (Γ.2.2 70)), (1, .int (nI t))] [] σ μ := by
  subst hσ
  intro n
  induction n with
  | zero =>
    intro k μ hk hres
    obtain rfl : k = 9 * t + 9 := by omega
    refine wr_iload_n C 0 dM_forget_5 rfl rfl ?_
    refine wr_bipush C (v := nI 9) dM_forget_6 (by decide) ?_
    refine wr_iload_n C 2 dM_forget_8 rfl rfl ?_
    refine wr_imul C (z := nI (9 * t)) dM_forget_9 (pk_mul 9 t) ?_
    refine wr_bipush C (v := nI 9) dM_forget_10 (by decide) ?_
    refine wr_iadd C (z := nI (9 * t + 9)) dM_forget_12 (nI_add (9 * t) 9) ?_
    refine wr_icmp_ge C (tgt := 36) dM_forget_13 (by decide) (fun h1 => ?_) (fun h1 => ?_)
    ·
      rw [nI_leI (by omega) (by omega)] at h1
      exact wr_vret C hr hlk dM_forget_36 hv (by first | rfl | exact hres) (by first | rfl | exact hres)
    ·
      rw [nI_leI (by omega) (by omega)] at h1
      exact absurd h1 (by omega)
  | succ n ih =>
    intro k μ hk hres
    refine wr_iload_n C 0 dM_forget_5 rfl rfl ?_
    refine wr_bipush C (v := nI 9) dM_forget_6 (by decide) ?_
    refine wr_iload_n C 2 dM_forget_8 rfl rfl ?_
    refine wr_imul C (z := nI (9 * t)) dM_forget_9 (pk_mul 9 t) ?_
    refine wr_bipush C (v := nI 9) dM_forget_10 (by decide) ?_
    refine wr_iadd C (z := nI (9 * t + 9)) dM_forget_12 (nI_add (9 * t) 9) ?_
    refine wr_icmp_ge C (tgt := 36) dM_forget_13 (by decide) (fun h1 => ?_) (fun h1 => ?_)
    ·
      rw [nI_leI (by omega) (by omega)] at h1
      exact absurd h1 (by omega)
    ·
      rw [nI_leI (by omega) (by omega)] at h1
      refine wr_aload_n C 1 dM_forget_16 rfl rfl ?_
      refine wf_Model_lock C  (Or.inl tw_362) dM_forget_17 ?_
      refine wr_iload_n C 0 dM_forget_20 rfl rfl ?_
      refine wr_iconst C (v := nI 0) dM_forget_21 (by decide) ?_
      refine ws_m_lock C (by omega) dM_forget_22 ?_
      generalize hs1 : wc_st μ 47 0 k (nI 0) = μ1
      refine wr_aload_n C 1 dM_forget_23 rfl rfl ?_
      refine wf_Model_wrote C  (Or.inl tw_363) dM_forget_24 ?_
      refine wr_iload_n C 0 dM_forget_27 rfl rfl ?_
      refine wr_iconst C (v := nI 0) dM_forget_28 (by decide) ?_
      refine ws_m_wrote C (by decide) (by omega) dM_forget_29 ?_
      generalize hs2 : wc_st μ1 48 0 k (nI 0) = μ2
      refine wr_iinc C (v := nI (k + 1)) (vs' := [(2, .int (nI (k + 1))), (0, .ref (Γ.2.2 70)), (1, .int (nI t))]) 0 dM_forget_30 rfl (wc_inc1 k) (by decide) rfl ?_
      refine wr_goto C (tgt := 5) dM_forget_33 (by decide) ?_
      refine wr_sub [0, 1, 2] rfl ?_
      exact ih (k + 1) μ2 (by omega) (by rw [← hres]; subst_vars; rfl)
set_option maxRecDepth 100000 in
set_option maxHeartbeats 4000000 in
theorem mm_forget (l : Launch) (Γ : wc_G) (σ μ : wc_St) {t : Nat} (ht : t < 5) : wc_M l yM_forget cM_forget 3 none 0 Γ [.ref (Γ.2.2 70), .int (nI t)] σ μ none σ (fm_forget 9 (9 * t) μ) := by
  refine wc_enter "WaitedCommitsModel" (by decide) rfl (Nat.le_of_ble_eq_true rfl) ?_
  intro P0 E0 S0 M0 A0 B0 T0 K0 C hr hlk
  refine wr_vs (vs' := [(0, .ref (Γ.2.2 70)), (1, .int (nI t))]) rfl ?_
  refine wr_bipush C (v := nI 9) dM_forget_0 (by decide) ?_
  refine wr_iload_n C 1 dM_forget_2 rfl rfl ?_
  refine wr_imul C (z := nI (9 * t)) dM_forget_3 (pk_mul 9 t) ?_
  refine wr_istore_n C (vs' := [(2, .int (nI (9 * t))), (0, .ref (Γ.2.2 70)), (1, .int (nI t))]) dM_forget_4 rfl (by decide) rfl ?_
  refine wr_sub [0, 1, 2] rfl ?_
  exact mn_forget C hr hlk ht σ rfl rfl 9 (9 * t) μ rfl rfl
set_option maxRecDepth 100000 in
set_option maxHeartbeats 4000000 in
theorem mm_drop (l : Launch) (Γ : wc_G) (σ μ : wc_St) {t : Nat} (ht : t < 5) : wc_M l yM_drop cM_drop 2 none 1 Γ [.ref (Γ.2.2 70), .int (nI t)] σ μ none σ (fm_drop μ t) := by
  refine wc_enter "WaitedCommitsModel" (by decide) rfl (Nat.le_of_ble_eq_true rfl) ?_
  intro P0 E0 S0 M0 A0 B0 T0 K0 C hr hlk
  refine wr_vs (vs' := [(0, .ref (Γ.2.2 70)), (1, .int (nI t))]) rfl ?_
  refine wr_aload_n C 0 dM_drop_0 rfl rfl ?_
  refine wr_iload_n C 1 dM_drop_1 rfl rfl ?_
  refine wr_callV0 C (As := [.int (nI t)]) (rest := []) (mm_forget l Γ σ μ (t := t) (by omega)) cb_M_forget (Or.inl tw_420) tw_421 tw_561 (by omega) (wc_c_Model) rfl (by decide) (by decide) rfl rfl (Nat.le_of_ble_eq_true rfl) ⟨Nat.le_refl _, Nat.le_refl _⟩ dM_drop_2 ?_
  generalize hs1 : fm_forget 9 (9 * t) μ = μ1
  refine wr_aload_n C 0 dM_drop_5 rfl rfl ?_
  refine wf_Model_state C  (Or.inl tw_357) dM_drop_6 ?_
  refine wr_iload_n C 1 dM_drop_9 rfl rfl ?_
  refine wr_iconst C (v := nI 5) dM_drop_10 (by decide) ?_
  refine ws_m_state C (by omega) dM_drop_11 ?_
  generalize hs2 : wc_st μ1 42 0 t (nI 5) = μ2
  exact wr_vret C hr hlk dM_drop_12 rfl (by subst_vars; rfl) (by subst_vars; rfl)
set_option maxRecDepth 100000 in
set_option maxHeartbeats 4000000 in
theorem mm_conf (l : Launch) (Γ : wc_G) (σ μ : wc_St) {t u k : Nat} (ht : t < 5) (hu : u < 5) (hk : k < 9) (how : Int32) : wc_M l yM_conflicts cM_conflicts 5 (some .boolean) 0 Γ [.ref (Γ.2.2 70), .int (nI t), .int (nI u), .int (nI k), .int how] σ μ (some (.int (fm_conf μ t u k how))) σ (μ) := by
  refine wc_enter "WaitedCommitsModel" (by decide) rfl (Nat.le_of_ble_eq_true rfl) ?_
  intro P0 E0 S0 M0 A0 B0 T0 K0 C hr hlk
  refine wr_vs (vs' := [(0, .ref (Γ.2.2 70)), (1, .int (nI t)), (2, .int (nI u)), (3, .int (nI k)), (4, .int how)]) rfl ?_
  refine wr_iload_n C 2 dM_conflicts_0 rfl rfl ?_
  refine wr_iload_n C 1 dM_conflicts_1 rfl rfl ?_
  refine wr_icmp_eq C (tgt := 41) dM_conflicts_2 (by decide) (fun h1 => ?_) (fun h1 => ?_)
  ·
    rw [nI_eq (by omega) (by omega)] at h1
    refine wr_iconst C (v := nI 0) dM_conflicts_41 (by decide) ?_
    exact wr_iret C hr rfl hlk dM_conflicts_42 (by first | (simp [fm_conf, *]; done) | (simp_all [fm_conf]; done)) (by rfl) (by rfl)
  ·
    rw [nI_eq (by omega) (by omega)] at h1
    refine wr_aload_n C 0 dM_conflicts_5 rfl rfl ?_
    refine wf_Model_lock C  (Or.inl tw_362) dM_conflicts_6 ?_
    refine wr_bipush C (v := nI 9) dM_conflicts_9 (by decide) ?_
    refine wr_iload_n C 2 dM_conflicts_11 rfl rfl ?_
    refine wr_imul C (z := nI (9 * u)) dM_conflicts_12 (pk_mul 9 u) ?_
    refine wr_iload_n C 3 dM_conflicts_13 rfl rfl ?_
    refine wr_iadd C (z := nI (9 * u + k)) dM_conflicts_14 (nI_add (9 * u) k) ?_
    refine wa_m_lock C (by omega) dM_conflicts_15 ?_
    refine wr_iload C 4 dM_conflicts_16 rfl ?_
    refine wr_iadd C (z := (μ 47 0 (9 * u + k)) + how) dM_conflicts_18 rfl ?_
    refine wr_iconst C (v := nI 2) dM_conflicts_19 (by decide) ?_
    refine wr_icmp_le C (tgt := 41) dM_conflicts_20 (by decide) (fun h2 => ?_) (fun h2 => ?_)
    ·
      refine wr_iconst C (v := nI 0) dM_conflicts_41 (by decide) ?_
      exact wr_iret C hr rfl hlk dM_conflicts_42 (by first | (simp [fm_conf, *]; done) | (simp_all [fm_conf]; done)) (by rfl) (by rfl)
    ·
      refine wr_aload_n C 0 dM_conflicts_23 rfl rfl ?_
      refine wf_Model_lock C  (Or.inl tw_362) dM_conflicts_24 ?_
      refine wr_bipush C (v := nI 9) dM_conflicts_27 (by decide) ?_
      refine wr_iload_n C 2 dM_conflicts_29 rfl rfl ?_
      refine wr_imul C (z := nI (9 * u)) dM_conflicts_30 (pk_mul 9 u) ?_
      refine wr_iload_n C 3 dM_conflicts_31 rfl rfl ?_
      refine wr_iadd C (z := nI (9 * u + k)) dM_conflicts_32 (nI_add (9 * u) k) ?_
      refine wa_m_lock C (by omega) dM_conflicts_33 ?_
      refine wr_if_le C (tgt := 41) dM_conflicts_34 (by decide) (fun h3 => ?_) (fun h3 => ?_)
      ·
        refine wr_iconst C (v := nI 0) dM_conflicts_41 (by decide) ?_
        exact wr_iret C hr rfl hlk dM_conflicts_42 (by first | (simp [fm_conf, *]; done) | (simp_all [fm_conf]; done)) (by rfl) (by rfl)
      ·
        refine wr_iconst C (v := nI 1) dM_conflicts_37 (by decide) ?_
        refine wr_goto C (tgt := 42) dM_conflicts_38 (by decide) ?_
        exact wr_iret C hr rfl hlk dM_conflicts_42 (by first | (simp [fm_conf, *]; done) | (simp_all [fm_conf]; done)) (by rfl) (by rfl)
set_option maxRecDepth 100000 in
set_option maxHeartbeats 4000000 in
theorem mn_take1 {P0 : Program} {l : Launch} {E0 : Env} {S0 : State} {M0 : MethodId} {A0 : Array Value} {B0 : List Frame} {T0 : Method} {K0 : Code} {Γ : wc_G} {A : Nat → Prop} {v : Option Value} {σ' μ' : wc_St} (C : wc_C P0 S0 M0 A0 K0 cM_take 5 "WaitedCommitsModel" Γ A) (hr : T0.sig.returnType = (some .boolean)) (hlk : T0.locks = false) {t k : Nat} (ht : t < 5) (hk : k < 9) (how : Int32) (σ μ : wc_St) (b : Bool) (hx : b = false → wc_K P0 l E0 (wc_rm 2) S0 M0 A0 B0 T0 K0 5 Γ A (MQ B0 (wc_Qw Γ A v σ' μ') A0 S0 0 0 A) 0 0 86 [(4, .int (nI 5)), (0, .ref (Γ.2.2 70)), (1, .int (nI t)), (2, .int (nI k)), (3, .int how)] [] σ μ) (hb : b = true → some (.int (nI 0)) = v ∧ σ = σ' ∧ μ = μ') : ∀ (n : Nat) (u : Nat), u + n = 5 → fm_blk μ t k how n u = b → wc_K P0 l E0 (wc_rm 2) S0 M0 A0 B0 T0 K0 5 Γ A (MQ B0 (wc_Qw Γ A v σ' μ') A0 S0 0 0 A) 0 0 33 [(4, .int (nI u)), (0, .ref (Γ.2.2 70)), (1, .int (nI t)), (2, .int (nI k)), (3, .int how)] [] σ μ := by
  intro n
  induction n with
  | zero =>
    intro u hu hv
    obtain rfl : u = 5 := by omega
    refine wr_iload C 0 dM_take_33 rfl ?_
    refine wr_iconst C (v := nI 5) dM_take_35 (by decide) ?_
    refine wr_icmp_ge C (tgt := 86) dM_take_36 (by decide) (fun _ => ?_) (fun h1 => absurd (by decide) h1)
    exact hx (by rw [← hv]; rfl)
  | succ n ih =>
    intro u hu hv
    refine wr_iload C 0 dM_take_33 rfl ?_
    refine wr_iconst C (v := nI 5) dM_take_35 (by decide) ?_
    refine wr_icmp_ge C (tgt := 86) dM_take_36 (by decide) (fun h1 => absurd h1 (wc_noge (by omega) (by omega) (by omega))) (fun _ => ?_)
    refine wr_aload_n C 1 dM_take_39 rfl rfl ?_
    refine wr_iload_n C 2 dM_take_40 rfl rfl ?_
    refine wr_iload C 0 dM_take_41 rfl ?_
    refine wr_iload_n C 3 dM_take_43 rfl rfl ?_
    refine wr_iload_n C 4 dM_take_44 rfl rfl ?_
    refine wr_callV1 C (As := [.int (nI t), .int (nI u), .int (nI k), .int how]) (rest := []) (mm_conf l Γ σ μ (t := t) (u := u) (k := k) (by omega) (by omega) (by omega) how) cb_M_conflicts (Or.inl tw_433) tw_434 tw_564 (by omega) (wc_c_Model) rfl (by decide) (by decide) rfl rfl (Nat.le_of_ble_eq_true rfl) ⟨Nat.le_refl _, Nat.le_refl _⟩ dM_take_45 ?_
    refine wr_if_eq C (tgt := 80) dM_take_48 (by decide) (fun h2 => ?_) (fun h2 => ?_)
    ·
      refine wr_iinc C (v := nI (u + 1)) (vs' := [(4, .int (nI (u + 1))), (0, .ref (Γ.2.2 70)), (1, .int (nI t)), (2, .int (nI k)), (3, .int how)]) 0 dM_take_80 rfl (wc_inc1 u) (by decide) rfl ?_
      refine wr_goto C (tgt := 33) dM_take_83 (by decide) ?_
      refine wr_sub [0, 1, 2, 3, 4] rfl ?_
      exact ih (u + 1) (by omega) (by rw [← hv]; simp [fm_blk, *])
    ·
      refine wr_aload_n C 1 dM_take_51 rfl rfl ?_
      refine wf_Model_state C  (Or.inl tw_357) dM_take_52 ?_
      refine wr_iload C 0 dM_take_55 rfl ?_
      refine wa_m_state C (by omega) dM_take_57 ?_
      refine wr_iconst C (v := nI 1) dM_take_58 (by decide) ?_
      refine wr_icmp_ne C (tgt := 78) dM_take_59 (by decide) (fun h3 => ?_) (fun h3 => ?_)
      ·
        refine wr_iconst C (v := nI 0) dM_take_78 (by decide) ?_
        exact wr_iret C hr rfl hlk dM_take_79 (by exact (hb (by rw [← hv]; simp [fm_blk, *])).1) (by first | exact (hb (by rw [← hv]; simp [fm_blk, *])).2.1 | exact (hb (by rw [← hv]; simp [fm_blk, *])).2.2) (by first | exact (hb (by rw [← hv]; simp [fm_blk, *])).2.1 | exact (hb (by rw [← hv]; simp [fm_blk, *])).2.2)
      ·
        refine wr_aload_n C 1 dM_take_62 rfl rfl ?_
        refine wf_Model_age C  (Or.inl tw_358) dM_take_63 ?_
        refine wr_iload C 0 dM_take_66 rfl ?_
        refine wa_m_age C (by omega) dM_take_68 ?_
        refine wr_aload_n C 1 dM_take_69 rfl rfl ?_
        refine wf_Model_age C  (Or.inl tw_358) dM_take_70 ?_
        refine wr_iload_n C 2 dM_take_73 rfl rfl ?_
        refine wa_m_age C (by omega) dM_take_74 ?_
        refine wr_icmp_ge C (tgt := 80) dM_take_75 (by decide) (fun h4 => ?_) (fun h4 => ?_)
        ·
          refine wr_iinc C (v := nI (u + 1)) (vs' := [(4, .int (nI (u + 1))), (0, .ref (Γ.2.2 70)), (1, .int (nI t)), (2, .int (nI k)), (3, .int how)]) 0 dM_take_80 rfl (wc_inc1 u) (by decide) rfl ?_
          refine wr_goto C (tgt := 33) dM_take_83 (by decide) ?_
          refine wr_sub [0, 1, 2, 3, 4] rfl ?_
          exact ih (u + 1) (by omega) (by rw [← hv]; simp [fm_blk, *])
        ·
          refine wr_iconst C (v := nI 0) dM_take_78 (by decide) ?_
          exact wr_iret C hr rfl hlk dM_take_79 (by exact (hb (by rw [← hv]; simp [fm_blk, *])).1) (by first | exact (hb (by rw [← hv]; simp [fm_blk, *])).2.1 | exact (hb (by rw [← hv]; simp [fm_blk, *])).2.2) (by first | exact (hb (by rw [← hv]; simp [fm_blk, *])).2.1 | exact (hb (by rw [← hv]; simp [fm_blk, *])).2.2)
set_option maxRecDepth 100000 in
set_option maxHeartbeats 4000000 in
theorem mn_take2 {P0 : Program} {l : Launch} {E0 : Env} {S0 : State} {M0 : MethodId} {A0 : Array Value} {B0 : List Frame} {T0 : Method} {K0 : Code} {Γ : wc_G} {A : Nat → Prop} {v : Option Value} {σ' μ' : wc_St} (C : wc_C P0 S0 M0 A0 K0 cM_take 5 "WaitedCommitsModel" Γ A) (hr : T0.sig.returnType = (some .boolean)) (hlk : T0.locks = false) {t k : Nat} (ht : t < 5) (hk : k < 9) (how : Int32) (σ : wc_St) (μe : wc_St) (hx : wc_K P0 l E0 (wc_rm 2) S0 M0 A0 B0 T0 K0 5 Γ A (MQ B0 (wc_Qw Γ A v σ' μ') A0 S0 0 0 A) 0 0 119 [(4, .int (nI 5)), (0, .ref (Γ.2.2 70)), (1, .int (nI t)), (2, .int (nI k)), (3, .int how)] [] σ μe) : ∀ (n : Nat) (u : Nat) (μ : wc_St), u + n = 5 → fm_pushAll t k how n u μ = μe → wc_K P0 l E0 (wc_rm 2) S0 M0 A0 B0 T0 K0 5 Γ A (MQ B0 (wc_Qw Γ A v σ' μ') A0 S0 0 0 A) 0 0 89 [(4, .int (nI u)), (0, .ref (Γ.2.2 70)), (1, .int (nI t)), (2, .int (nI k)), (3, .int how)] [] σ μ := by
  intro n
  induction n with
  | zero =>
    intro u μ hu hv
    obtain rfl : u = 5 := by omega
    refine wr_iload C 0 dM_take_89 rfl ?_
    refine wr_iconst C (v := nI 5) dM_take_91 (by decide) ?_
    refine wr_icmp_ge C (tgt := 119) dM_take_92 (by decide) (fun _ => ?_) (fun h1 => absurd (by decide) h1)
    obtain rfl : μ = μe := hv
    exact hx
  | succ n ih =>
    intro u μ hu hv
    refine wr_iload C 0 dM_take_89 rfl ?_
    refine wr_iconst C (v := nI 5) dM_take_91 (by decide) ?_
    refine wr_icmp_ge C (tgt := 119) dM_take_92 (by decide) (fun h1 => absurd h1 (wc_noge (by omega) (by omega) (by omega))) (fun _ => ?_)
    refine wr_aload_n C 1 dM_take_95 rfl rfl ?_
    refine wr_iload_n C 2 dM_take_96 rfl rfl ?_
    refine wr_iload C 0 dM_take_97 rfl ?_
    refine wr_iload_n C 3 dM_take_99 rfl rfl ?_
    refine wr_iload_n C 4 dM_take_100 rfl rfl ?_
    refine wr_callV1 C (As := [.int (nI t), .int (nI u), .int (nI k), .int how]) (rest := []) (mm_conf l Γ σ μ (t := t) (u := u) (k := k) (by omega) (by omega) (by omega) how) cb_M_conflicts (Or.inl tw_433) tw_434 tw_564 (by omega) (wc_c_Model) rfl (by decide) (by decide) rfl rfl (Nat.le_of_ble_eq_true rfl) ⟨Nat.le_refl _, Nat.le_refl _⟩ dM_take_101 ?_
    refine wr_if_eq C (tgt := 113) dM_take_104 (by decide) (fun h2 => ?_) (fun h2 => ?_)
    ·
      refine wr_iinc C (v := nI (u + 1)) (vs' := [(4, .int (nI (u + 1))), (0, .ref (Γ.2.2 70)), (1, .int (nI t)), (2, .int (nI k)), (3, .int how)]) 0 dM_take_113 rfl (wc_inc1 u) (by decide) rfl ?_
      refine wr_goto C (tgt := 89) dM_take_116 (by decide) ?_
      refine wr_sub [0, 1, 2, 3, 4] rfl ?_
      exact ih (u + 1) μ (by omega) (by rw [← hv]; simp [fm_pushAll, *])
    ·
      refine wr_aload_n C 1 dM_take_107 rfl rfl ?_
      refine wr_iload C 0 dM_take_108 rfl ?_
      refine wr_callV0 C (As := [.int (nI u)]) (rest := []) (mm_drop l Γ σ μ (t := u) (by omega)) cb_M_drop (Or.inl tw_436) tw_437 tw_565 (by omega) (wc_c_Model) rfl (by decide) (by decide) rfl rfl (Nat.le_of_ble_eq_true rfl) ⟨Nat.le_refl _, Nat.le_refl _⟩ dM_take_110 ?_
      generalize hs1 : fm_drop μ u = μ1
      refine wr_iinc C (v := nI (u + 1)) (vs' := [(4, .int (nI (u + 1))), (0, .ref (Γ.2.2 70)), (1, .int (nI t)), (2, .int (nI k)), (3, .int how)]) 0 dM_take_113 rfl (wc_inc1 u) (by decide) rfl ?_
      refine wr_goto C (tgt := 89) dM_take_116 (by decide) ?_
      refine wr_sub [0, 1, 2, 3, 4] rfl ?_
      exact ih (u + 1) μ1 (by omega) (by rw [← hv]; simp [fm_pushAll, *])
set_option maxRecDepth 100000 in
set_option maxHeartbeats 4000000 in
theorem mm_take (l : Launch) (Γ : wc_G) (σ μ : wc_St) {t k : Nat} (ht : t < 5) (hk : k < 9) (how : Int32) : wc_M l yM_take cM_take 5 (some .boolean) 2 Γ [.ref (Γ.2.2 70), .int (nI t), .int (nI k), .int how] σ μ (some (.int ((fm_take μ t k how).1))) σ ((fm_take μ t k how).2) := by
  refine wc_enter "WaitedCommitsModel" (by decide) rfl (Nat.le_of_ble_eq_true rfl) ?_
  intro P0 E0 S0 M0 A0 B0 T0 K0 C hr hlk
  refine wr_vs (vs' := [(0, .ref (Γ.2.2 70)), (1, .int (nI t)), (2, .int (nI k)), (3, .int how)]) rfl ?_
  refine wr_aload_n C 0 dM_take_0 rfl rfl ?_
  refine wf_Model_down C  (Or.inl tw_350) dM_take_1 ?_
  refine wr_iload_n C 2 dM_take_4 rfl rfl ?_
  refine wr_iconst C (v := nI 3) dM_take_5 (by decide) ?_
  refine wr_irem C (z := nI (k % 3)) dM_take_6 (by decide) (pk_rem (by omega) (by omega) (by omega)) ?_
  refine wa_m_down C (by omega) dM_take_7 ?_
  refine wr_if_eq C (tgt := 13) dM_take_8 (by decide) (fun h1 => ?_) (fun h1 => ?_)
  ·
    refine wr_aload_n C 0 dM_take_13 rfl rfl ?_
    refine wf_Model_lock C  (Or.inl tw_362) dM_take_14 ?_
    refine wr_bipush C (v := nI 9) dM_take_17 (by decide) ?_
    refine wr_iload_n C 1 dM_take_19 rfl rfl ?_
    refine wr_imul C (z := nI (9 * t)) dM_take_20 (pk_mul 9 t) ?_
    refine wr_iload_n C 2 dM_take_21 rfl rfl ?_
    refine wr_iadd C (z := nI (9 * t + k)) dM_take_22 (nI_add (9 * t) k) ?_
    refine wa_m_lock C (by omega) dM_take_23 ?_
    refine wr_iload_n C 3 dM_take_24 rfl rfl ?_
    refine wr_icmp_lt C (tgt := 30) dM_take_25 (by decide) (fun h2 => ?_) (fun h2 => ?_)
    ·
      refine wr_iconst C (v := nI 0) dM_take_30 (by decide) ?_
      refine wr_istore C (vs' := [(4, .int (nI 0)), (0, .ref (Γ.2.2 70)), (1, .int (nI t)), (2, .int (nI k)), (3, .int how)]) dM_take_31 (by decide) rfl ?_
      refine wr_sub [0, 1, 2, 3, 4] rfl ?_
      refine mn_take1 C hr hlk ht hk how σ μ (fm_blk μ t k how 5 0) (fun hb => ?_) (fun hb => ⟨by simp [fm_take, *], rfl, by simp [fm_take, *]⟩) 5 0 rfl rfl
      refine wr_iconst C (v := nI 0) dM_take_86 (by decide) ?_
      refine wr_istore C (vs' := [(4, .int (nI 0)), (0, .ref (Γ.2.2 70)), (1, .int (nI t)), (2, .int (nI k)), (3, .int how)]) dM_take_87 (by decide) rfl ?_
      refine wr_sub [0, 1, 2, 3, 4] rfl ?_
      generalize he : fm_pushAll t k how 5 0 μ = μe
      refine mn_take2 C hr hlk ht hk how σ μe ?_ 5 0 μ rfl he
      refine wr_aload_n C 1 dM_take_119 rfl rfl ?_
      refine wf_Model_lock C  (Or.inl tw_362) dM_take_120 ?_
      refine wr_bipush C (v := nI 9) dM_take_123 (by decide) ?_
      refine wr_iload_n C 2 dM_take_125 rfl rfl ?_
      refine wr_imul C (z := nI (9 * t)) dM_take_126 (pk_mul 9 t) ?_
      refine wr_iload_n C 3 dM_take_127 rfl rfl ?_
      refine wr_iadd C (z := nI (9 * t + k)) dM_take_128 (nI_add (9 * t) k) ?_
      refine wr_iload_n C 4 dM_take_129 rfl rfl ?_
      refine ws_m_lock C (by omega) dM_take_130 ?_
      generalize hs1 : wc_st μe 47 0 (9 * t + k) how = μ1
      refine wr_iconst C (v := nI 1) dM_take_131 (by decide) ?_
      exact wr_iret C hr rfl hlk dM_take_132 (by subst_vars; simp [fm_take, *]) (by first | rfl | (subst_vars; simp [fm_take, *]; done)) (by first | rfl | (subst_vars; simp [fm_take, *]; done))
    ·
      refine wr_iconst C (v := nI 1) dM_take_28 (by decide) ?_
      exact wr_iret C hr rfl hlk dM_take_29 (by subst_vars; simp [fm_take, *]) (by first | rfl | (subst_vars; simp [fm_take, *]; done)) (by first | rfl | (subst_vars; simp [fm_take, *]; done))
  ·
    refine wr_iconst C (v := nI 0) dM_take_11 (by decide) ?_
    exact wr_iret C hr rfl hlk dM_take_12 (by subst_vars; simp [fm_take, *]) (by first | rfl | (subst_vars; simp [fm_take, *]; done)) (by first | rfl | (subst_vars; simp [fm_take, *]; done))
set_option maxRecDepth 100000 in
set_option maxHeartbeats 4000000 in
theorem mm_send (l : Launch) (Γ : wc_G) (σ μ : wc_St) {kd t q o : Nat} (hkd : kd < 3) (ht : t < 5) (hq : q < 3) (ho : o < 3) : wc_M l yM_send cM_send 6 none 0 Γ [.ref (Γ.2.2 70), .int (nI kd), .int (nI t), .int (nI q), .int (nI o)] σ μ none σ (fm_send μ kd t q o) := by
  refine wc_enter "WaitedCommitsModel" (by decide) rfl (Nat.le_of_ble_eq_true rfl) ?_
  intro P0 E0 S0 M0 A0 B0 T0 K0 C hr hlk
  refine wr_vs (vs' := [(0, .ref (Γ.2.2 70)), (1, .int (nI kd)), (2, .int (nI t)), (3, .int (nI q)), (4, .int (nI o))]) rfl ?_
  refine wr_bipush C (v := nI 15) dM_send_0 (by decide) ?_
  refine wr_iload_n C 1 dM_send_2 rfl rfl ?_
  refine wr_imul C (z := nI (15 * kd)) dM_send_3 (pk_mul 15 kd) ?_
  refine wr_iconst C (v := nI 3) dM_send_4 (by decide) ?_
  refine wr_iload_n C 2 dM_send_5 rfl rfl ?_
  refine wr_imul C (z := nI (3 * t)) dM_send_6 (pk_mul 3 t) ?_
  refine wr_iadd C (z := nI (15 * kd + 3 * t)) dM_send_7 (nI_add (15 * kd) (3 * t)) ?_
  refine wr_iload_n C 3 dM_send_8 rfl rfl ?_
  refine wr_iadd C (z := nI (15 * kd + 3 * t + q)) dM_send_9 (nI_add (15 * kd + 3 * t) q) ?_
  refine wr_istore C (vs' := [(5, .int (nI (15 * kd + 3 * t + q))), (0, .ref (Γ.2.2 70)), (1, .int (nI kd)), (2, .int (nI t)), (3, .int (nI q)), (4, .int (nI o))]) dM_send_10 (by decide) rfl ?_
  refine wr_aload_n C 1 dM_send_12 rfl rfl ?_
  refine wf_Model_arrives C  (Or.inl tw_368) dM_send_13 ?_
  refine wr_iload C 0 dM_send_16 rfl ?_
  refine wr_aload_n C 1 dM_send_18 rfl rfl ?_
  refine wf_Model_now C  (Or.inl tw_346) dM_send_19 ?_
  refine wr_iconst C (v := nI 1) dM_send_22 (by decide) ?_
  refine wr_iadd C (z := (μ 31 0 0) + (nI 1)) dM_send_23 rfl ?_
  refine wr_aload_n C 1 dM_send_24 rfl rfl ?_
  refine wf_Model_slow C  (Or.inl tw_349) dM_send_25 ?_
  refine wr_iload_n C 4 dM_send_28 rfl rfl ?_
  refine wa_m_slow C (by omega) dM_send_29 ?_
  refine wr_iadd C (z := ((μ 31 0 0) + (nI 1)) + (μ 34 0 q)) dM_send_30 rfl ?_
  refine wr_aload_n C 1 dM_send_31 rfl rfl ?_
  refine wf_Model_slow C  (Or.inl tw_349) dM_send_32 ?_
  refine wr_iload C 5 dM_send_35 rfl ?_
  refine wa_m_slow C (by omega) dM_send_37 ?_
  refine wr_iadd C (z := (((μ 31 0 0) + (nI 1)) + (μ 34 0 q)) + (μ 34 0 o)) dM_send_38 rfl ?_
  refine ws_m_arrives C (by omega) dM_send_39 ?_
  generalize hs1 : wc_st μ 53 0 (15 * kd + 3 * t + q) ((((μ 31 0 0) + (nI 1)) + (μ 34 0 q)) + (μ 34 0 o)) = μ1
  refine wr_aload_n C 1 dM_send_40 rfl rfl ?_
  refine wr_dup C dM_send_41 rfl ?_
  refine wf_Model_sent C  (Or.inl tw_367) dM_send_42 ?_
  refine wr_iconst C (v := nI 1) dM_send_45 (by decide) ?_
  refine wr_iadd C (z := (μ1 52 0 0) + (nI 1)) dM_send_46 rfl ?_
  refine wp_Model_sent C  (Or.inl tw_367) dM_send_47 ?_
  generalize hs2 : wc_st μ1 52 0 0 ((μ1 52 0 0) + (nI 1)) = μ2
  refine wr_aload_n C 1 dM_send_50 rfl rfl ?_
  refine wf_Model_number C  (Or.inl tw_369) dM_send_51 ?_
  refine wr_iload C 0 dM_send_54 rfl ?_
  refine wr_aload_n C 1 dM_send_56 rfl rfl ?_
  refine wf_Model_sent C  (Or.inl tw_367) dM_send_57 ?_
  refine ws_m_number C (by omega) dM_send_60 ?_
  generalize hs3 : wc_st μ2 54 0 (15 * kd + 3 * t + q) (μ2 52 0 0) = μ3
  exact wr_vret C hr hlk dM_send_61 rfl (by subst_vars; rfl) (by subst_vars; rfl)
set_option maxRecDepth 100000 in
set_option maxHeartbeats 4000000 in
theorem mm_put (l : Launch) (Γ : wc_G) (σ μ : wc_St) {t : Nat} (ht : t < 5) {q : Nat} (hq : q < 3) (y : Int32) : wc_M l yM_put cM_put 4 none 0 Γ [.ref (Γ.2.2 70), .int (nI t), .int (nI q), .int y] σ μ none σ (fm_put μ t q y) := by
  refine wc_enter "WaitedCommitsModel" (by decide) rfl (Nat.le_of_ble_eq_true rfl) ?_
  intro P0 E0 S0 M0 A0 B0 T0 K0 C hr hlk
  refine wr_vs (vs' := [(0, .ref (Γ.2.2 70)), (1, .int (nI t)), (2, .int (nI q)), (3, .int y)]) rfl ?_
  refine wr_aload_n C 0 dM_put_0 rfl rfl ?_
  refine wf_Model_marked C  (Or.inl tw_365) dM_put_1 ?_
  refine wr_iconst C (v := nI 3) dM_put_4 (by decide) ?_
  refine wr_iload_n C 1 dM_put_5 rfl rfl ?_
  refine wr_imul C (z := nI (3 * t)) dM_put_6 (pk_mul 3 t) ?_
  refine wr_iload_n C 2 dM_put_7 rfl rfl ?_
  refine wr_iadd C (z := nI (3 * t + q)) dM_put_8 (nI_add (3 * t) q) ?_
  refine wr_iconst C (v := nI 1) dM_put_9 (by decide) ?_
  refine ws_m_marked C (by decide) (by omega) dM_put_10 ?_
  generalize hs1 : wc_st μ 50 0 (3 * t + q) (nI 1) = μ1
  refine wr_aload_n C 0 dM_put_11 rfl rfl ?_
  refine wf_Model_mark C  (Or.inl tw_366) dM_put_12 ?_
  refine wr_iconst C (v := nI 3) dM_put_15 (by decide) ?_
  refine wr_iload_n C 1 dM_put_16 rfl rfl ?_
  refine wr_imul C (z := nI (3 * t)) dM_put_17 (pk_mul 3 t) ?_
  refine wr_iload_n C 2 dM_put_18 rfl rfl ?_
  refine wr_iadd C (z := nI (3 * t + q)) dM_put_19 (nI_add (3 * t) q) ?_
  refine wr_iload_n C 3 dM_put_20 rfl rfl ?_
  refine ws_m_mark C (by omega) dM_put_21 ?_
  generalize hs2 : wc_st μ1 51 0 (3 * t + q) y = μ2
  refine wr_aload_n C 0 dM_put_22 rfl rfl ?_
  refine wf_Model_bound C  (Or.inl tw_351) dM_put_23 ?_
  refine wr_iload_n C 2 dM_put_26 rfl rfl ?_
  refine wr_iload_n C 3 dM_put_27 rfl rfl ?_
  refine ws_m_bound C (by omega) dM_put_28 ?_
  generalize hs3 : wc_st μ2 36 0 q y = μ3
  exact wr_vret C hr hlk dM_put_29 rfl (by subst_vars; rfl) (by subst_vars; rfl)
set_option maxRecDepth 100000 in
set_option maxHeartbeats 4000000 in
theorem mn_sendAll {P0 : Program} {l : Launch} {E0 : Env} {S0 : State} {M0 : MethodId} {A0 : Array Value} {B0 : List Frame} {T0 : Method} {K0 : Code} {Γ : wc_G} {A : Nat → Prop} {v : Option Value} {σ' μ' : wc_St} (C : wc_C P0 S0 M0 A0 K0 cM_sendAll 5 "WaitedCommitsModel" Γ A) (hr : T0.sig.returnType = none) (hlk : T0.locks = false) {kd t o : Nat} (hkd : kd < 3) (ht : t < 5) (ho : o < 3) (σ : wc_St) (hσ : σ = σ') (hv : none = v) : ∀ (n : Nat) (q : Nat) (μ : wc_St), q + n = 3 → fm_sendAll kd t o n q μ = μ' → wc_K P0 l E0 (wc_rm 1) S0 M0 A0 B0 T0 K0 5 Γ A (MQ B0 (wc_Qw Γ A v σ' μ') A0 S0 0 0 A) 0 0 5 [(4, .int (nI q)), (0, .ref (Γ.2.2 70)), (1, .int (nI kd)), (2, .int (nI t)), (3, .int (nI o))] [] σ μ := by
  subst hσ
  intro n
  induction n with
  | zero =>
    intro q μ hq hres
    obtain rfl : q = 3 := by omega
    refine wr_iload C 0 dM_sendAll_5 rfl ?_
    refine wr_iconst C (v := nI 3) dM_sendAll_7 (by decide) ?_
    refine wr_icmp_ge C (tgt := 36) dM_sendAll_8 (by decide) (fun _ => ?_) (fun h1 => absurd (by decide) h1)
    exact wr_vret C hr hlk dM_sendAll_36 hv (by first | rfl | exact hres) (by first | rfl | exact hres)
  | succ n ih =>
    intro q μ hq hres
    refine wr_iload C 0 dM_sendAll_5 rfl ?_
    refine wr_iconst C (v := nI 3) dM_sendAll_7 (by decide) ?_
    refine wr_icmp_ge C (tgt := 36) dM_sendAll_8 (by decide) (fun h1 => absurd h1 (wc_noge (by omega) (by omega) (by omega))) (fun _ => ?_)
    refine wr_aload_n C 1 dM_sendAll_11 rfl rfl ?_
    refine wr_iload_n C 3 dM_sendAll_12 rfl rfl ?_
    refine wr_iload C 0 dM_sendAll_13 rfl ?_
    refine wr_callV1 C (As := [.int (nI t), .int (nI q)]) (rest := []) (mm_part l Γ σ μ (t := t) (q := q) (by omega) (by omega)) cb_M_takesPart (Or.inl tw_417) tw_418 tw_560 (by omega) (wc_c_Model) rfl (by decide) (by decide) rfl rfl (Nat.le_of_ble_eq_true rfl) ⟨Nat.le_refl _, Nat.le_refl _⟩ dM_sendAll_15 ?_
    refine wr_if_eq C (tgt := 30) dM_sendAll_18 (by decide) (fun h2 => ?_) (fun h2 => ?_)
    ·
      refine wr_iinc C (v := nI (q + 1)) (vs' := [(4, .int (nI (q + 1))), (0, .ref (Γ.2.2 70)), (1, .int (nI kd)), (2, .int (nI t)), (3, .int (nI o))]) 0 dM_sendAll_30 rfl (wc_inc1 q) (by decide) rfl ?_
      refine wr_goto C (tgt := 5) dM_sendAll_33 (by decide) ?_
      refine wr_sub [0, 1, 2, 3, 4] rfl ?_
      exact ih (q + 1) μ (by omega) (by rw [← hres]; simp [fm_sendAll, *])
    ·
      refine wr_aload_n C 1 dM_sendAll_21 rfl rfl ?_
      refine wr_iload_n C 2 dM_sendAll_22 rfl rfl ?_
      refine wr_iload_n C 3 dM_sendAll_23 rfl rfl ?_
      refine wr_iload C 0 dM_sendAll_24 rfl ?_
      refine wr_iload_n C 4 dM_sendAll_26 rfl rfl ?_
      refine wr_callV0 C (As := [.int (nI kd), .int (nI t), .int (nI q), .int (nI o)]) (rest := []) (mm_send l Γ σ μ (kd := kd) (t := t) (q := q) (o := o) (by omega) (by omega) (by omega) (by omega)) cb_M_send (Or.inl tw_458) tw_459 tw_568 (by omega) (wc_c_Model) rfl (by decide) (by decide) rfl rfl (Nat.le_of_ble_eq_true rfl) ⟨Nat.le_refl _, Nat.le_refl _⟩ dM_sendAll_27 ?_
      generalize hs1 : fm_send μ kd t q o = μ1
      refine wr_iinc C (v := nI (q + 1)) (vs' := [(4, .int (nI (q + 1))), (0, .ref (Γ.2.2 70)), (1, .int (nI kd)), (2, .int (nI t)), (3, .int (nI o))]) 0 dM_sendAll_30 rfl (wc_inc1 q) (by decide) rfl ?_
      refine wr_goto C (tgt := 5) dM_sendAll_33 (by decide) ?_
      refine wr_sub [0, 1, 2, 3, 4] rfl ?_
      exact ih (q + 1) μ1 (by omega) (by rw [← hres]; simp [fm_sendAll, *])
set_option maxRecDepth 100000 in
set_option maxHeartbeats 4000000 in
theorem mm_sendAll (l : Launch) (Γ : wc_G) (σ μ : wc_St) {kd t o : Nat} (hkd : kd < 3) (ht : t < 5) (ho : o < 3) : wc_M l yM_sendAll cM_sendAll 5 none 1 Γ [.ref (Γ.2.2 70), .int (nI kd), .int (nI t), .int (nI o)] σ μ none σ (fm_sendAll kd t o (2 - o) (o + 1) μ) := by
  refine wc_enter "WaitedCommitsModel" (by decide) rfl (Nat.le_of_ble_eq_true rfl) ?_
  intro P0 E0 S0 M0 A0 B0 T0 K0 C hr hlk
  refine wr_vs (vs' := [(0, .ref (Γ.2.2 70)), (1, .int (nI kd)), (2, .int (nI t)), (3, .int (nI o))]) rfl ?_
  refine wr_iload_n C 3 dM_sendAll_0 rfl rfl ?_
  refine wr_iconst C (v := nI 1) dM_sendAll_1 (by decide) ?_
  refine wr_iadd C (z := nI (o + 1)) dM_sendAll_2 (nI_add o 1) ?_
  refine wr_istore C (vs' := [(4, .int (nI (o + 1))), (0, .ref (Γ.2.2 70)), (1, .int (nI kd)), (2, .int (nI t)), (3, .int (nI o))]) dM_sendAll_3 (by decide) rfl ?_
  refine wr_sub [0, 1, 2, 3, 4] rfl ?_
  exact mn_sendAll C hr hlk hkd ht ho σ rfl rfl (2 - o) (o + 1) μ (by omega) rfl
