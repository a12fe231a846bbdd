set_option maxRecDepth 100000 in
set_option maxHeartbeats 4000000 in
theorem mc_clockO (l : Launch) (Γ : wc_G) (σ μ : wc_St) (a : Int32) (ha : a < 0 ∨ nI 3 ≤ a) (b d : Int32) : wc_M l yW_clock cW_clock 4 (some .boolean) 1 Γ [.ref (Γ.2.2 0), .int a, .int b, .int d] σ μ (some (.int (nI 0))) (σ) μ := by
  refine wc_enter "WaitedCommits" (by decide) rfl (Nat.le_of_ble_eq_true rfl) ?_
  intro P0 E0 S0 M0 A0 B0 T0 K0 C hr hlk
  refine wr_vs (vs' := [(0, .ref (Γ.2.2 0)), (1, .int a), (2, .int b), (3, .int d)]) rfl ?_
  refine wr_iload_n C 1 dW_clock_0 rfl rfl ?_
  refine wr_callS1 C (As := [.int a]) (rest := []) (mc_isSiteO l Γ σ μ a ha) cb_W_isSite (Or.inl tw_140) tw_141 (by decide) (by decide) rfl rfl (Nat.le_of_ble_eq_true rfl) ⟨Nat.le_refl _, Nat.le_refl _⟩ dW_clock_1 ?_
  refine wr_if_eq C (tgt := 23) dW_clock_4 (by decide) (fun _ => ?_) (fun h1 => absurd (by decide) h1)
  refine wr_iconst C (v := nI 0) dW_clock_23 (by decide) ?_
  exact wr_iret C hr rfl hlk dW_clock_24 (by rfl) (by rfl) (by rfl)
set_option maxRecDepth 100000 in
set_option maxHeartbeats 4000000 in
theorem mc_clockI (l : Launch) (Γ : wc_G) (σ μ : wc_St) {q : Nat} (hq : q < 3) (b d : Int32) : wc_M l yW_clock cW_clock 4 (some .boolean) 1 Γ [.ref (Γ.2.2 0), .int (nI q), .int b, .int d] σ μ (some (.int ((fc_clock σ q b d).1))) ((fc_clock σ q b d).2) μ := by
  refine wc_enter "WaitedCommits" (by decide) rfl (Nat.le_of_ble_eq_true rfl) ?_
  intro P0 E0 S0 M0 A0 B0 T0 K0 C hr hlk
  refine wr_vs (vs' := [(0, .ref (Γ.2.2 0)), (1, .int (nI q)), (2, .int b), (3, .int d)]) rfl ?_
  refine wr_iload_n C 1 dW_clock_0 rfl rfl ?_
  refine wr_callS1 C (As := [.int (nI q)]) (rest := []) (mc_isSiteI l Γ σ μ (j := q) (by omega)) cb_W_isSite (Or.inl tw_140) tw_141 (by decide) (by decide) rfl rfl (Nat.le_of_ble_eq_true rfl) ⟨Nat.le_refl _, Nat.le_refl _⟩ dW_clock_1 ?_
  refine wr_if_eq C (tgt := 23) dW_clock_4 (by decide) (fun h1 => absurd h1 (by decide)) (fun _ => ?_)
  refine wr_aload_n C 0 dW_clock_7 rfl rfl ?_
  refine wr_iload_n C 2 dW_clock_8 rfl rfl ?_
  refine wr_callV1 C (As := [.int b]) (rest := []) (mc_isError l Γ σ μ b) cb_W_isError (Or.inl tw_143) tw_144 tw_529 (by omega) (wc_c_WC) rfl (by decide) (by decide) rfl rfl (Nat.le_of_ble_eq_true rfl) ⟨Nat.le_refl _, Nat.le_refl _⟩ dW_clock_9 ?_
  refine wr_if_eq C (tgt := 23) dW_clock_12 (by decide) (fun h2 => ?_) (fun h2 => ?_)
  ·
    refine wr_iconst C (v := nI 0) dW_clock_23 (by decide) ?_
    exact wr_iret C hr rfl hlk dW_clock_24 (by subst_vars; first | (simp [fc_clock, wc_nIe, wc_nI0, wc_nIm, *]; done) | (simp_all [fc_clock, wc_nIe, wc_nI0, wc_nIm]; done)) (by first | rfl | (subst_vars; first | (simp [fc_clock, wc_nIe, wc_nI0, wc_nIm, *]; done) | (simp_all [fc_clock, wc_nIe, wc_nI0, wc_nIm]; done))) (by first | rfl | (subst_vars; first | (simp [fc_clock, wc_nIe, wc_nI0, wc_nIm, *]; done) | (simp_all [fc_clock, wc_nIe, wc_nI0, wc_nIm]; done)))
  ·
    refine wr_aload_n C 0 dW_clock_15 rfl rfl ?_
    refine wr_iload_n C 3 dW_clock_16 rfl rfl ?_
    refine wr_callV1 C (As := [.int d]) (rest := []) (mc_isError l Γ σ μ d) cb_W_isError (Or.inl tw_143) tw_144 tw_529 (by omega) (wc_c_WC) rfl (by decide) (by decide) rfl rfl (Nat.le_of_ble_eq_true rfl) ⟨Nat.le_refl _, Nat.le_refl _⟩ dW_clock_17 ?_
    refine wr_if_ne C (tgt := 25) dW_clock_20 (by decide) (fun h3 => ?_) (fun h3 => ?_)
    ·
      refine wr_aload_n C 0 dW_clock_25 rfl rfl ?_
      refine wf_WC_sites C  (Or.inl tw_119) dW_clock_26 ?_
      refine wr_iload_n C 1 dW_clock_29 rfl rfl ?_
      refine wa_sites C (by omega) dW_clock_30 ?_
      refine wr_iload_n C 2 dW_clock_31 rfl rfl ?_
      refine wp_Site_before C (by omega) (Or.inr ⟨_, tw_32⟩) dW_clock_32 ?_
      generalize hs1 : wc_st σ 0 q 0 b = σ1
      refine wr_aload_n C 0 dW_clock_35 rfl rfl ?_
      refine wf_WC_sites C  (Or.inl tw_119) dW_clock_36 ?_
      refine wr_iload_n C 1 dW_clock_39 rfl rfl ?_
      refine wa_sites C (by omega) dW_clock_40 ?_
      refine wr_iload_n C 3 dW_clock_41 rfl rfl ?_
      refine wp_Site_after C (by omega) (Or.inr ⟨_, tw_34⟩) dW_clock_42 ?_
      generalize hs2 : wc_st σ1 1 q 0 d = σ2
      refine wr_iconst C (v := nI 1) dW_clock_45 (by decide) ?_
      exact wr_iret C hr rfl hlk dW_clock_46 (by subst_vars; first | (simp [fc_clock, wc_nIe, wc_nI0, wc_nIm, *]; done) | (simp_all [fc_clock, wc_nIe, wc_nI0, wc_nIm]; done)) (by first | rfl | (subst_vars; first | (simp [fc_clock, wc_nIe, wc_nI0, wc_nIm, *]; done) | (simp_all [fc_clock, wc_nIe, wc_nI0, wc_nIm]; done))) (by first | rfl | (subst_vars; first | (simp [fc_clock, wc_nIe, wc_nI0, wc_nIm, *]; done) | (simp_all [fc_clock, wc_nIe, wc_nI0, wc_nIm]; done)))
    ·
      refine wr_iconst C (v := nI 0) dW_clock_23 (by decide) ?_
      exact wr_iret C hr rfl hlk dW_clock_24 (by subst_vars; first | (simp [fc_clock, wc_nIe, wc_nI0, wc_nIm, *]; done) | (simp_all [fc_clock, wc_nIe, wc_nI0, wc_nIm]; done)) (by first | rfl | (subst_vars; first | (simp [fc_clock, wc_nIe, wc_nI0, wc_nIm, *]; done) | (simp_all [fc_clock, wc_nIe, wc_nI0, wc_nIm]; done))) (by first | rfl | (subst_vars; first | (simp [fc_clock, wc_nIe, wc_nI0, wc_nIm, *]; done) | (simp_all [fc_clock, wc_nIe, wc_nI0, wc_nIm]; done)))
set_option maxRecDepth 100000 in
set_option maxHeartbeats 4000000 in
theorem mc_delayO (l : Launch) (Γ : wc_G) (σ μ : wc_St) (a : Int32) (ha : a < 0 ∨ nI 3 ≤ a) (b : Int32) : wc_M l yW_delay cW_delay 3 (some .boolean) 1 Γ [.ref (Γ.2.2 0), .int a, .int b] σ μ (some (.int (nI 0))) (σ) μ := by
  refine wc_enter "WaitedCommits" (by decide) rfl (Nat.le_of_ble_eq_true rfl) ?_
  intro P0 E0 S0 M0 A0 B0 T0 K0 C hr hlk
  refine wr_vs (vs' := [(0, .ref (Γ.2.2 0)), (1, .int a), (2, .int b)]) rfl ?_
  refine wr_iload_n C 1 dW_delay_0 rfl rfl ?_
  refine wr_callS1 C (As := [.int a]) (rest := []) (mc_isSiteO l Γ σ μ a ha) cb_W_isSite (Or.inl tw_140) tw_141 (by decide) (by decide) rfl rfl (Nat.le_of_ble_eq_true rfl) ⟨Nat.le_refl _, Nat.le_refl _⟩ dW_delay_1 ?_
  refine wr_if_eq C (tgt := 17) dW_delay_4 (by decide) (fun _ => ?_) (fun h1 => absurd (by decide) h1)
  refine wr_iconst C (v := nI 0) dW_delay_17 (by decide) ?_
  exact wr_iret C hr rfl hlk dW_delay_18 (by rfl) (by rfl) (by rfl)
set_option maxRecDepth 100000 in
set_option maxHeartbeats 4000000 in
theorem mc_delayI (l : Launch) (Γ : wc_G) (σ μ : wc_St) {q : Nat} (hq : q < 3) (b : Int32) : wc_M l yW_delay cW_delay 3 (some .boolean) 1 Γ [.ref (Γ.2.2 0), .int (nI q), .int b] σ μ (some (.int ((fc_delay σ q b).1))) ((fc_delay σ q b).2) μ := by
  refine wc_enter "WaitedCommits" (by decide) rfl (Nat.le_of_ble_eq_true rfl) ?_
  intro P0 E0 S0 M0 A0 B0 T0 K0 C hr hlk
  refine wr_vs (vs' := [(0, .ref (Γ.2.2 0)), (1, .int (nI q)), (2, .int b)]) rfl ?_
  refine wr_iload_n C 1 dW_delay_0 rfl rfl ?_
  refine wr_callS1 C (As := [.int (nI q)]) (rest := []) (mc_isSiteI l Γ σ μ (j := q) (by omega)) cb_W_isSite (Or.inl tw_140) tw_141 (by decide) (by decide) rfl rfl (Nat.le_of_ble_eq_true rfl) ⟨Nat.le_refl _, Nat.le_refl _⟩ dW_delay_1 ?_
  refine wr_if_eq C (tgt := 17) dW_delay_4 (by decide) (fun h1 => absurd h1 (by decide)) (fun _ => ?_)
  refine wr_iload_n C 2 dW_delay_7 rfl rfl ?_
  refine wr_if_lt C (tgt := 17) dW_delay_8 (by decide) (fun h2 => ?_) (fun h2 => ?_)
  ·
    refine wr_iconst C (v := nI 0) dW_delay_17 (by decide) ?_
    exact wr_iret C hr rfl hlk dW_delay_18 (by subst_vars; first | (simp [fc_delay, wc_nIe, wc_nI0, wc_nIm, *]; done) | (simp_all [fc_delay, wc_nIe, wc_nI0, wc_nIm]; done)) (by first | rfl | (subst_vars; first | (simp [fc_delay, wc_nIe, wc_nI0, wc_nIm, *]; done) | (simp_all [fc_delay, wc_nIe, wc_nI0, wc_nIm]; done))) (by first | rfl | (subst_vars; first | (simp [fc_delay, wc_nIe, wc_nI0, wc_nIm, *]; done) | (simp_all [fc_delay, wc_nIe, wc_nI0, wc_nIm]; done)))
  ·
    refine wr_iload_n C 2 dW_delay_11 rfl rfl ?_
    refine wr_bipush C (v := nI 9) dW_delay_12 (by decide) ?_
    refine wr_icmp_le C (tgt := 19) dW_delay_14 (by decide) (fun h3 => ?_) (fun h3 => ?_)
    ·
      refine wr_aload_n C 0 dW_delay_19 rfl rfl ?_
      refine wf_WC_sites C  (Or.inl tw_119) dW_delay_20 ?_
      refine wr_iload_n C 1 dW_delay_23 rfl rfl ?_
      refine wa_sites C (by omega) dW_delay_24 ?_
      refine wr_iload_n C 2 dW_delay_25 rfl rfl ?_
      refine wp_Site_delay C (by omega) (Or.inr ⟨_, tw_36⟩) dW_delay_26 ?_
      generalize hs1 : wc_st σ 2 q 0 b = σ1
      refine wr_iconst C (v := nI 1) dW_delay_29 (by decide) ?_
      exact wr_iret C hr rfl hlk dW_delay_30 (by subst_vars; first | (simp [fc_delay, wc_nIe, wc_nI0, wc_nIm, *]; done) | (simp_all [fc_delay, wc_nIe, wc_nI0, wc_nIm]; done)) (by first | rfl | (subst_vars; first | (simp [fc_delay, wc_nIe, wc_nI0, wc_nIm, *]; done) | (simp_all [fc_delay, wc_nIe, wc_nI0, wc_nIm]; done))) (by first | rfl | (subst_vars; first | (simp [fc_delay, wc_nIe, wc_nI0, wc_nIm, *]; done) | (simp_all [fc_delay, wc_nIe, wc_nI0, wc_nIm]; done)))
    ·
      refine wr_iconst C (v := nI 0) dW_delay_17 (by decide) ?_
      exact wr_iret C hr rfl hlk dW_delay_18 (by subst_vars; first | (simp [fc_delay, wc_nIe, wc_nI0, wc_nIm, *]; done) | (simp_all [fc_delay, wc_nIe, wc_nI0, wc_nIm]; done)) (by first | rfl | (subst_vars; first | (simp [fc_delay, wc_nIe, wc_nI0, wc_nIm, *]; done) | (simp_all [fc_delay, wc_nIe, wc_nI0, wc_nIm]; done))) (by first | rfl | (subst_vars; first | (simp [fc_delay, wc_nIe, wc_nI0, wc_nIm, *]; done) | (simp_all [fc_delay, wc_nIe, wc_nI0, wc_nIm]; done)))
set_option maxRecDepth 100000 in
set_option maxHeartbeats 4000000 in
theorem mc_powerO (l : Launch) (Γ : wc_G) (σ μ : wc_St) (a : Int32) (ha : a < 0 ∨ nI 3 ≤ a) (b : Int32) : wc_M l yW_power cW_power 3 (some .boolean) 1 Γ [.ref (Γ.2.2 0), .int a, .int b] σ μ (some (.int (nI 0))) (σ) μ := by
  refine wc_enter "WaitedCommits" (by decide) rfl (Nat.le_of_ble_eq_true rfl) ?_
  intro P0 E0 S0 M0 A0 B0 T0 K0 C hr hlk
  refine wr_vs (vs' := [(0, .ref (Γ.2.2 0)), (1, .int a), (2, .int b)]) rfl ?_
  refine wr_iload_n C 1 dW_power_0 rfl rfl ?_
  refine wr_callS1 C (As := [.int a]) (rest := []) (mc_isSiteO l Γ σ μ a ha) cb_W_isSite (Or.inl tw_140) tw_141 (by decide) (by decide) rfl rfl (Nat.le_of_ble_eq_true rfl) ⟨Nat.le_refl _, Nat.le_refl _⟩ dW_power_1 ?_
  refine wr_if_eq C (tgt := 20) dW_power_4 (by decide) (fun _ => ?_) (fun h1 => absurd (by decide) h1)
  refine wr_iconst C (v := nI 0) dW_power_20 (by decide) ?_
  exact wr_iret C hr rfl hlk dW_power_21 (by rfl) (by rfl) (by rfl)
set_option maxRecDepth 100000 in
set_option maxHeartbeats 4000000 in
theorem mc_powerI (l : Launch) (Γ : wc_G) (σ μ : wc_St) {q : Nat} (hq : q < 3) (b : Int32) (hup1 : narrow .boolean (.int b) = .int b) (hup2 : fits .boolean (.int b) = true) : wc_M l yW_power cW_power 3 (some .boolean) 1 Γ [.ref (Γ.2.2 0), .int (nI q), .int b] σ μ (some (.int ((fc_power σ q b).1))) ((fc_power σ q b).2) μ := by
  refine wc_enter "WaitedCommits" (by decide) rfl (Nat.le_of_ble_eq_true rfl) ?_
  intro P0 E0 S0 M0 A0 B0 T0 K0 C hr hlk
  refine wr_vs (vs' := [(0, .ref (Γ.2.2 0)), (1, .int (nI q)), (2, .int b)]) rfl ?_
  refine wr_iload_n C 1 dW_power_0 rfl rfl ?_
  refine wr_callS1 C (As := [.int (nI q)]) (rest := []) (mc_isSiteI l Γ σ μ (j := q) (by omega)) cb_W_isSite (Or.inl tw_140) tw_141 (by decide) (by decide) rfl rfl (Nat.le_of_ble_eq_true rfl) ⟨Nat.le_refl _, Nat.le_refl _⟩ dW_power_1 ?_
  refine wr_if_eq C (tgt := 20) dW_power_4 (by decide) (fun h1 => absurd h1 (by decide)) (fun _ => ?_)
  refine wr_aload_n C 0 dW_power_7 rfl rfl ?_
  refine wf_WC_sites C  (Or.inl tw_119) dW_power_8 ?_
  refine wr_iload_n C 1 dW_power_11 rfl rfl ?_
  refine wa_sites C (by omega) dW_power_12 ?_
  refine wf_Site_isUp C (by omega) (Or.inr ⟨_, tw_38⟩) dW_power_13 ?_
  refine wr_iload_n C 2 dW_power_16 rfl rfl ?_
  refine wr_icmp_ne C (tgt := 22) dW_power_17 (by decide) (fun h2 => ?_) (fun h2 => ?_)
  ·
    refine wr_aload_n C 0 dW_power_22 rfl rfl ?_
    refine wf_WC_sites C  (Or.inl tw_119) dW_power_23 ?_
    refine wr_iload_n C 1 dW_power_26 rfl rfl ?_
    refine wa_sites C (by omega) dW_power_27 ?_
    refine wr_iload_n C 2 dW_power_28 rfl rfl ?_
    refine wp_Site_isUp C (by omega) hup1 hup2 (Or.inr ⟨_, tw_38⟩) dW_power_29 ?_
    generalize hs1 : wc_st σ 3 q 0 b = σ1
    refine wr_iconst C (v := nI 1) dW_power_32 (by decide) ?_
    exact wr_iret C hr rfl hlk dW_power_33 (by subst_vars; first | (simp [fc_power, wc_nIe, wc_nI0, wc_nIm, *]; done) | (simp_all [fc_power, wc_nIe, wc_nI0, wc_nIm]; done)) (by first | rfl | (subst_vars; first | (simp [fc_power, wc_nIe, wc_nI0, wc_nIm, *]; done) | (simp_all [fc_power, wc_nIe, wc_nI0, wc_nIm]; done))) (by first | rfl | (subst_vars; first | (simp [fc_power, wc_nIe, wc_nI0, wc_nIm, *]; done) | (simp_all [fc_power, wc_nIe, wc_nI0, wc_nIm]; done)))
  ·
    refine wr_iconst C (v := nI 0) dW_power_20 (by decide) ?_
    exact wr_iret C hr rfl hlk dW_power_21 (by subst_vars; first | (simp [fc_power, wc_nIe, wc_nI0, wc_nIm, *]; done) | (simp_all [fc_power, wc_nIe, wc_nI0, wc_nIm]; done)) (by first | rfl | (subst_vars; first | (simp [fc_power, wc_nIe, wc_nI0, wc_nIm, *]; done) | (simp_all [fc_power, wc_nIe, wc_nI0, wc_nIm]; done))) (by first | rfl | (subst_vars; first | (simp [fc_power, wc_nIe, wc_nI0, wc_nIm, *]; done) | (simp_all [fc_power, wc_nIe, wc_nI0, wc_nIm]; done)))
set_option maxRecDepth 100000 in
set_option maxHeartbeats 4000000 in
theorem mc_beginO (l : Launch) (Γ : wc_G) (σ μ : wc_St) (a : Int32) (ha : a < 0 ∨ nI 5 ≤ a) : wc_M l yW_begin cW_begin 2 (some .boolean) 3 Γ [.ref (Γ.2.2 0), .int a] σ μ (some (.int (nI 0))) (σ) μ := by
  refine wc_enter "WaitedCommits" (by decide) rfl (Nat.le_of_ble_eq_true rfl) ?_
  intro P0 E0 S0 M0 A0 B0 T0 K0 C hr hlk
  refine wr_vs (vs' := [(0, .ref (Γ.2.2 0)), (1, .int a)]) rfl ?_
  refine wr_iload_n C 1 dW_begin_0 rfl rfl ?_
  refine wr_callS1 C (As := [.int a]) (rest := []) (mc_isTxO l Γ σ μ a ha) cb_W_isTransaction (Or.inl tw_158) tw_159 (by decide) (by decide) rfl rfl (Nat.le_of_ble_eq_true rfl) ⟨Nat.le_refl _, Nat.le_refl _⟩ dW_begin_1 ?_
  refine wr_if_eq C (tgt := 19) dW_begin_4 (by decide) (fun _ => ?_) (fun h1 => absurd (by decide) h1)
  refine wr_iconst C (v := nI 0) dW_begin_19 (by decide) ?_
  exact wr_iret C hr rfl hlk dW_begin_20 (by rfl) (by rfl) (by rfl)
set_option maxRecDepth 100000 in
set_option maxHeartbeats 4000000 in
theorem mc_beginI (l : Launch) (Γ : wc_G) (σ μ : wc_St) {t : Nat} (ht : t < 5) : wc_M l yW_begin cW_begin 2 (some .boolean) 3 Γ [.ref (Γ.2.2 0), .int (nI t)] σ μ (some (.int ((fc_begin σ t).1))) ((fc_begin σ t).2) μ := by
  refine wc_enter "WaitedCommits" (by decide) rfl (Nat.le_of_ble_eq_true rfl) ?_
  intro P0 E0 S0 M0 A0 B0 T0 K0 C hr hlk
  refine wr_vs (vs' := [(0, .ref (Γ.2.2 0)), (1, .int (nI t))]) rfl ?_
  refine wr_iload_n C 1 dW_begin_0 rfl rfl ?_
  refine wr_callS1 C (As := [.int (nI t)]) (rest := []) (mc_isTxI l Γ σ μ (j := t) (by omega)) cb_W_isTransaction (Or.inl tw_158) tw_159 (by decide) (by decide) rfl rfl (Nat.le_of_ble_eq_true rfl) ⟨Nat.le_refl _, Nat.le_refl _⟩ dW_begin_1 ?_
  refine wr_if_eq C (tgt := 19) dW_begin_4 (by decide) (fun h1 => absurd h1 (by decide)) (fun _ => ?_)
  refine wr_aload_n C 0 dW_begin_7 rfl rfl ?_
  refine wf_WC_transactions C  (Or.inl tw_121) dW_begin_8 ?_
  refine wr_iload_n C 1 dW_begin_11 rfl rfl ?_
  refine wa_txs C (by omega) dW_begin_12 ?_
  refine wr_callS1 C (As := [.ref (Γ.2.2 (35 + t))]) (rest := []) (mc_canBegin l Γ σ μ (t := t) (by omega)) cb_W_canBegin (Or.inl tw_161) tw_162 (by decide) (by decide) rfl rfl (Nat.le_of_ble_eq_true rfl) ⟨Nat.le_refl _, Nat.le_refl _⟩ dW_begin_13 ?_
  refine wr_if_ne C (tgt := 21) dW_begin_16 (by decide) (fun h2 => ?_) (fun h2 => ?_)
  ·
    refine wr_aload_n C 0 dW_begin_21 rfl rfl ?_
    refine wf_WC_transactions C  (Or.inl tw_121) dW_begin_22 ?_
    refine wr_iload_n C 1 dW_begin_25 rfl rfl ?_
    refine wa_txs C (by omega) dW_begin_26 ?_
    refine wr_iconst C (v := nI 1) dW_begin_27 (by decide) ?_
    refine wp_Tx_state C (by omega) (Or.inr ⟨_, tw_66⟩) dW_begin_28 ?_
    generalize hs1 : wc_st σ 8 t 0 (nI 1) = σ1
    refine wr_aload_n C 0 dW_begin_31 rfl rfl ?_
    refine wf_WC_transactions C  (Or.inl tw_121) dW_begin_32 ?_
    refine wr_iload_n C 1 dW_begin_35 rfl rfl ?_
    refine wa_txs C (by omega) dW_begin_36 ?_
    refine wr_aload_n C 0 dW_begin_37 rfl rfl ?_
    refine wf_WC_begun C  (Or.inl tw_124) dW_begin_38 ?_
    refine wp_Tx_birth C (by omega) (Or.inr ⟨_, tw_68⟩) dW_begin_41 ?_
    generalize hs2 : wc_st σ1 9 t 0 (σ1 24 0 0) = σ2
    refine wr_aload_n C 0 dW_begin_44 rfl rfl ?_
    refine wr_dup C dW_begin_45 rfl ?_
    refine wf_WC_begun C  (Or.inl tw_124) dW_begin_46 ?_
    refine wr_iconst C (v := nI 1) dW_begin_49 (by decide) ?_
    refine wr_iadd C (z := (σ2 24 0 0) + (nI 1)) dW_begin_50 rfl ?_
    refine wp_WC_begun C  (Or.inl tw_124) dW_begin_51 ?_
    generalize hs3 : wc_st σ2 24 0 0 ((σ2 24 0 0) + (nI 1)) = σ3
    refine wr_iconst C (v := nI 1) dW_begin_54 (by decide) ?_
    exact wr_iret C hr rfl hlk dW_begin_55 (by subst_vars; first | (simp [fc_begin, wc_nIe, wc_nI0, wc_nIm, *]; done) | (simp_all [fc_begin, wc_nIe, wc_nI0, wc_nIm]; done)) (by first | rfl | (subst_vars; first | (simp [fc_begin, fc_begin1, wc_nIe, wc_nI0, wc_nIm, *]; done) | (simp_all [fc_begin, fc_begin1, wc_nIe, wc_nI0, wc_nIm]; done))) (by first | rfl | (subst_vars; first | (simp [fc_begin, fc_begin1, wc_nIe, wc_nI0, wc_nIm, *]; done) | (simp_all [fc_begin, fc_begin1, wc_nIe, wc_nI0, wc_nIm]; done)))
  ·
    refine wr_iconst C (v := nI 0) dW_begin_19 (by decide) ?_
    exact wr_iret C hr rfl hlk dW_begin_20 (by subst_vars; first | (simp [fc_begin, wc_nIe, wc_nI0, wc_nIm, *]; done) | (simp_all [fc_begin, wc_nIe, wc_nI0, wc_nIm]; done)) (by first | rfl | (subst_vars; first | (simp [fc_begin, fc_begin1, wc_nIe, wc_nI0, wc_nIm, *]; done) | (simp_all [fc_begin, fc_begin1, wc_nIe, wc_nI0, wc_nIm]; done))) (by first | rfl | (subst_vars; first | (simp [fc_begin, fc_begin1, wc_nIe, wc_nI0, wc_nIm, *]; done) | (simp_all [fc_begin, fc_begin1, wc_nIe, wc_nI0, wc_nIm]; done)))
set_option maxRecDepth 100000 in
set_option maxHeartbeats 4000000 in
theorem mc_readO (l : Launch) (Γ : wc_G) (σ μ : wc_St) (a b : Int32) (ha : a < 0 ∨ nI 5 ≤ a) : wc_M l yW_read cW_read 3 (some .long) 3 Γ [.ref (Γ.2.2 0), .int a, .int b] σ μ (some (.long 1099511627776)) (σ) μ := by
  refine wc_enter "WaitedCommits" (by decide) rfl (Nat.le_of_ble_eq_true rfl) ?_
  intro P0 E0 S0 M0 A0 B0 T0 K0 C hr hlk
  refine wr_vs (vs' := [(0, .ref (Γ.2.2 0)), (1, .int a), (2, .int b)]) rfl ?_
  refine wr_aload_n C 0 dW_read_0 rfl rfl ?_
  refine wr_iload_n C 1 dW_read_1 rfl rfl ?_
  refine wr_callV1 C (As := [.int a]) (rest := []) (mc_isActiveO l Γ σ μ a ha) cb_W_isActive (Or.inl tw_174) tw_175 tw_532 (by omega) (wc_c_WC) rfl (by decide) (by decide) rfl rfl (Nat.le_of_ble_eq_true rfl) ⟨Nat.le_refl _, Nat.le_refl _⟩ dW_read_2 ?_
  refine wr_if_eq C (tgt := 30) dW_read_5 (by decide) (fun _ => ?_) (fun h1 => absurd (by decide) h1)
  refine wr_ldc2 C dW_read_30 tw_198 ?_
  exact wr_lret C hr hlk dW_read_33 (by rfl) (by rfl) (by rfl)
set_option maxRecDepth 100000 in
set_option maxHeartbeats 4000000 in
theorem mc_readK (l : Launch) (Γ : wc_G) (σ μ : wc_St) {t : Nat} (ht : t < 5) (b : Int32) (hb : b < 0 ∨ nI 9 ≤ b) : wc_M l yW_read cW_read 3 (some .long) 3 Γ [.ref (Γ.2.2 0), .int (nI t), .int b] σ μ (some (.long 1099511627776)) (σ) μ := by
  refine wc_enter "WaitedCommits" (by decide) rfl (Nat.le_of_ble_eq_true rfl) ?_
  intro P0 E0 S0 M0 A0 B0 T0 K0 C hr hlk
  refine wr_vs (vs' := [(0, .ref (Γ.2.2 0)), (1, .int (nI t)), (2, .int b)]) rfl ?_
  refine wr_aload_n C 0 dW_read_0 rfl rfl ?_
  refine wr_iload_n C 1 dW_read_1 rfl rfl ?_
  refine wr_callV1 C (As := [.int (nI t)]) (rest := []) (mc_isActiveI l Γ σ μ (t := t) (by omega)) cb_W_isActive (Or.inl tw_174) tw_175 tw_532 (by omega) (wc_c_WC) rfl (by decide) (by decide) rfl rfl (Nat.le_of_ble_eq_true rfl) ⟨Nat.le_refl _, Nat.le_refl _⟩ dW_read_2 ?_
  refine wr_if_eq C (tgt := 30) dW_read_5 (by decide) (fun h1 => ?_) (fun h1 => ?_)
  ·
    refine wr_ldc2 C dW_read_30 tw_198 ?_
    exact wr_lret C hr hlk dW_read_33 (by rfl) (by rfl) (by rfl)
  ·
    refine wr_iload_n C 2 dW_read_8 rfl rfl ?_
    refine wr_callS1 C (As := [.int b]) (rest := []) (mc_isKeyO l Γ σ μ b hb) cb_W_isKey (Or.inl tw_177) tw_178 (by decide) (by decide) rfl rfl (Nat.le_of_ble_eq_true rfl) ⟨Nat.le_refl _, Nat.le_refl _⟩ dW_read_9 ?_
    refine wr_if_eq C (tgt := 30) dW_read_12 (by decide) (fun _ => ?_) (fun h2 => absurd (by decide) h2)
    refine wr_ldc2 C dW_read_30 tw_198 ?_
    exact wr_lret C hr hlk dW_read_33 (by rfl) (by rfl) (by rfl)
set_option maxRecDepth 100000 in
set_option maxHeartbeats 4000000 in
theorem mc_readI (l : Launch) (Γ : wc_G) (σ μ : wc_St) {t : Nat} (ht : t < 5) {k : Nat} (hk : k < 9) : wc_M l yW_read cW_read 3 (some .long) 3 Γ [.ref (Γ.2.2 0), .int (nI t), .int (nI k)] σ μ (some (.long ((fc_read σ t k).1))) ((fc_read σ t k).2) μ := by
  refine wc_enter "WaitedCommits" (by decide) rfl (Nat.le_of_ble_eq_true rfl) ?_
  intro P0 E0 S0 M0 A0 B0 T0 K0 C hr hlk
  refine wr_vs (vs' := [(0, .ref (Γ.2.2 0)), (1, .int (nI t)), (2, .int (nI k))]) rfl ?_
  refine wr_aload_n C 0 dW_read_0 rfl rfl ?_
  refine wr_iload_n C 1 dW_read_1 rfl rfl ?_
  refine wr_callV1 C (As := [.int (nI t)]) (rest := []) (mc_isActiveI l Γ σ μ (t := t) (by omega)) cb_W_isActive (Or.inl tw_174) tw_175 tw_532 (by omega) (wc_c_WC) rfl (by decide) (by decide) rfl rfl (Nat.le_of_ble_eq_true rfl) ⟨Nat.le_refl _, Nat.le_refl _⟩ dW_read_2 ?_
  refine wr_if_eq C (tgt := 30) dW_read_5 (by decide) (fun h1 => ?_) (fun h1 => ?_)
  ·
    refine wr_ldc2 C dW_read_30 tw_198 ?_
    exact wr_lret C hr hlk dW_read_33 (by subst_vars; first | (simp [fc_read, wc_nIe, wc_nI0, wc_nIm, *]; done) | (simp_all [fc_read, wc_nIe, wc_nI0, wc_nIm]; done)) (by first | rfl | (subst_vars; first | (simp [fc_read, wc_nIe, wc_nI0, wc_nIm, *]; done) | (simp_all [fc_read, wc_nIe, wc_nI0, wc_nIm]; done))) (by first | rfl | (subst_vars; first | (simp [fc_read, wc_nIe, wc_nI0, wc_nIm, *]; done) | (simp_all [fc_read, wc_nIe, wc_nI0, wc_nIm]; done)))
  ·
    refine wr_iload_n C 2 dW_read_8 rfl rfl ?_
    refine wr_callS1 C (As := [.int (nI k)]) (rest := []) (mc_isKeyI l Γ σ μ (j := k) (by omega)) cb_W_isKey (Or.inl tw_177) tw_178 (by decide) (by decide) rfl rfl (Nat.le_of_ble_eq_true rfl) ⟨Nat.le_refl _, Nat.le_refl _⟩ dW_read_9 ?_
    refine wr_if_eq C (tgt := 30) dW_read_12 (by decide) (fun h2 => absurd h2 (by decide)) (fun _ => ?_)
    refine wr_aload_n C 0 dW_read_15 rfl rfl ?_
    refine wr_aload_n C 0 dW_read_16 rfl rfl ?_
    refine wf_WC_transactions C  (Or.inl tw_121) dW_read_17 ?_
    refine wr_iload_n C 1 dW_read_20 rfl rfl ?_
    refine wa_txs C (by omega) dW_read_21 ?_
    refine wr_iload_n C 2 dW_read_22 rfl rfl ?_
    refine wr_iconst C (v := nI 1) dW_read_23 (by decide) ?_
    refine wr_callV1 C (As := [.ref (Γ.2.2 (35 + t)), .int (nI k), .int (nI 1)]) (rest := []) (mc_lock l Γ σ μ (t := t) (k := k) (by omega) (by omega) (nI 1)) cb_W_lock (Or.inl tw_180) tw_181 tw_533 (by omega) (wc_c_WC) rfl (by decide) (by decide) rfl rfl (Nat.le_of_ble_eq_true rfl) ⟨Nat.le_refl _, Nat.le_refl _⟩ dW_read_24 ?_
    generalize hs1 : (fc_lock σ t k (nI 1)).2 = σ1
    refine wr_if_ne C (tgt := 34) dW_read_27 (by decide) (fun h3 => ?_) (fun h3 => ?_)
    ·
      refine wr_aload_n C 0 dW_read_34 rfl rfl ?_
      refine wf_WC_transactions C  (Or.inl tw_121) dW_read_35 ?_
      refine wr_iload_n C 1 dW_read_38 rfl rfl ?_
      refine wa_txs C (by omega) dW_read_39 ?_
      refine wf_Tx_locks C (by omega) (Or.inr ⟨_, tw_80⟩) dW_read_40 ?_
      refine wr_iload_n C 2 dW_read_43 rfl rfl ?_
      refine wa_locks C (by omega) (by omega) dW_read_44 ?_
      refine wr_iconst C (v := nI 2) dW_read_45 (by decide) ?_
      refine wr_icmp_ne C (tgt := 62) dW_read_46 (by decide) (fun h4 => ?_) (fun h4 => ?_)
      ·
        refine wr_aload_n C 0 dW_read_62 rfl rfl ?_
        refine wf_WC_keys C  (Or.inl tw_120) dW_read_63 ?_
        refine wr_iload_n C 2 dW_read_66 rfl rfl ?_
        refine wa_keys C (by omega) dW_read_67 ?_
        refine wf_Key_values C (by omega) (Or.inr ⟨_, tw_52⟩) dW_read_68 ?_
        refine wr_iconst C (v := nI 0) dW_read_71 (by decide) ?_
        refine wa_values C (by omega) (by omega) dW_read_72 ?_
        refine wr_i2l C dW_read_73 ?_
        exact wr_lret C hr hlk dW_read_74 (by subst_vars; first | (simp [fc_read, wc_nIe, wc_nI0, wc_nIm, *]; done) | (simp_all [fc_read, wc_nIe, wc_nI0, wc_nIm]; done)) (by first | rfl | (subst_vars; first | (simp [fc_read, wc_nIe, wc_nI0, wc_nIm, *]; done) | (simp_all [fc_read, wc_nIe, wc_nI0, wc_nIm]; done))) (by first | rfl | (subst_vars; first | (simp [fc_read, wc_nIe, wc_nI0, wc_nIm, *]; done) | (simp_all [fc_read, wc_nIe, wc_nI0, wc_nIm]; done)))
      ·
        refine wr_aload_n C 0 dW_read_49 rfl rfl ?_
        refine wf_WC_transactions C  (Or.inl tw_121) dW_read_50 ?_
        refine wr_iload_n C 1 dW_read_53 rfl rfl ?_
        refine wa_txs C (by omega) dW_read_54 ?_
        refine wf_Tx_written C (by omega) (Or.inr ⟨_, tw_82⟩) dW_read_55 ?_
        refine wr_iload_n C 2 dW_read_58 rfl rfl ?_
        refine wa_written C (by omega) (by omega) dW_read_59 ?_
        refine wr_i2l C dW_read_60 ?_
        exact wr_lret C hr hlk dW_read_61 (by subst_vars; first | (simp [fc_read, wc_nIe, wc_nI0, wc_nIm, *]; done) | (simp_all [fc_read, wc_nIe, wc_nI0, wc_nIm]; done)) (by first | rfl | (subst_vars; first | (simp [fc_read, wc_nIe, wc_nI0, wc_nIm, *]; done) | (simp_all [fc_read, wc_nIe, wc_nI0, wc_nIm]; done))) (by first | rfl | (subst_vars; first | (simp [fc_read, wc_nIe, wc_nI0, wc_nIm, *]; done) | (simp_all [fc_read, wc_nIe, wc_nI0, wc_nIm]; done)))
    ·
      refine wr_ldc2 C dW_read_30 tw_198 ?_
      exact wr_lret C hr hlk dW_read_33 (by subst_vars; first | (simp [fc_read, wc_nIe, wc_nI0, wc_nIm, *]; done) | (simp_all [fc_read, wc_nIe, wc_nI0, wc_nIm]; done)) (by first | rfl | (subst_vars; first | (simp [fc_read, wc_nIe, wc_nI0, wc_nIm, *]; done) | (simp_all [fc_read, wc_nIe, wc_nI0, wc_nIm]; done))) (by first | rfl | (subst_vars; first | (simp [fc_read, wc_nIe, wc_nI0, wc_nIm, *]; done) | (simp_all [fc_read, wc_nIe, wc_nI0, wc_nIm]; done)))
set_option maxRecDepth 100000 in
set_option maxHeartbeats 4000000 in
theorem mc_writeO (l : Launch) (Γ : wc_G) (σ μ : wc_St) (a b d : Int32) (ha : a < 0 ∨ nI 5 ≤ a) : wc_M l yW_write cW_write 4 (some .boolean) 3 Γ [.ref (Γ.2.2 0), .int a, .int b, .int d] σ μ (some (.int (nI 0))) (σ) μ := by
  refine wc_enter "WaitedCommits" (by decide) rfl (Nat.le_of_ble_eq_true rfl) ?_
  intro P0 E0 S0 M0 A0 B0 T0 K0 C hr hlk
  refine wr_vs (vs' := [(0, .ref (Γ.2.2 0)), (1, .int a), (2, .int b), (3, .int d)]) rfl ?_
  refine wr_aload_n C 0 dW_write_0 rfl rfl ?_
  refine wr_iload_n C 1 dW_write_1 rfl rfl ?_
  refine wr_callV1 C (As := [.int a]) (rest := []) (mc_isActiveO l Γ σ μ a ha) cb_W_isActive (Or.inl tw_174) tw_175 tw_532 (by omega) (wc_c_WC) rfl (by decide) (by decide) rfl rfl (Nat.le_of_ble_eq_true rfl) ⟨Nat.le_refl _, Nat.le_refl _⟩ dW_write_2 ?_
  refine wr_if_eq C (tgt := 30) dW_write_5 (by decide) (fun _ => ?_) (fun h1 => absurd (by decide) h1)
  refine wr_iconst C (v := nI 0) dW_write_30 (by decide) ?_
  exact wr_iret C hr rfl hlk dW_write_31 (by rfl) (by rfl) (by rfl)
set_option maxRecDepth 100000 in
set_option maxHeartbeats 4000000 in
theorem mc_writeK (l : Launch) (Γ : wc_G) (σ μ : wc_St) {t : Nat} (ht : t < 5) (b d : Int32) (hb : b < 0 ∨ nI 9 ≤ b) : wc_M l yW_write cW_write 4 (some .boolean) 3 Γ [.ref (Γ.2.2 0), .int (nI t), .int b, .int d] σ μ (some (.int (nI 0))) (σ) μ := by
  refine wc_enter "WaitedCommits" (by decide) rfl (Nat.le_of_ble_eq_true rfl) ?_
  intro P0 E0 S0 M0 A0 B0 T0 K0 C hr hlk
  refine wr_vs (vs' := [(0, .ref (Γ.2.2 0)), (1, .int (nI t)), (2, .int b), (3, .int d)]) rfl ?_
  refine wr_aload_n C 0 dW_write_0 rfl rfl ?_
  refine wr_iload_n C 1 dW_write_1 rfl rfl ?_
  refine wr_callV1 C (As := [.int (nI t)]) (rest := []) (mc_isActiveI l Γ σ μ (t := t) (by omega)) cb_W_isActive (Or.inl tw_174) tw_175 tw_532 (by omega) (wc_c_WC) rfl (by decide) (by decide) rfl rfl (Nat.le_of_ble_eq_true rfl) ⟨Nat.le_refl _, Nat.le_refl _⟩ dW_write_2 ?_
  refine wr_if_eq C (tgt := 30) dW_write_5 (by decide) (fun h1 => ?_) (fun h1 => ?_)
  ·
    refine wr_iconst C (v := nI 0) dW_write_30 (by decide) ?_
    exact wr_iret C hr rfl hlk dW_write_31 (by rfl) (by rfl) (by rfl)
  ·
    refine wr_iload_n C 2 dW_write_8 rfl rfl ?_
    refine wr_callS1 C (As := [.int b]) (rest := []) (mc_isKeyO l Γ σ μ b hb) cb_W_isKey (Or.inl tw_177) tw_178 (by decide) (by decide) rfl rfl (Nat.le_of_ble_eq_true rfl) ⟨Nat.le_refl _, Nat.le_refl _⟩ dW_write_9 ?_
    refine wr_if_eq C (tgt := 30) dW_write_12 (by decide) (fun _ => ?_) (fun h2 => absurd (by decide) h2)
    refine wr_iconst C (v := nI 0) dW_write_30 (by decide) ?_
    exact wr_iret C hr rfl hlk dW_write_31 (by rfl) (by rfl) (by rfl)
set_option maxRecDepth 100000 in
set_option maxHeartbeats 4000000 in
theorem mc_writeI (l : Launch) (Γ : wc_G) (σ μ : wc_St) {t : Nat} (ht : t < 5) {k : Nat} (hk : k < 9) (d : Int32) : wc_M l yW_write cW_write 4 (some .boolean) 3 Γ [.ref (Γ.2.2 0), .int (nI t), .int (nI k), .int d] σ μ (some (.int ((fc_write σ t k d).1))) ((fc_write σ t k d).2) μ := by
  refine wc_enter "WaitedCommits" (by decide) rfl (Nat.le_of_ble_eq_true rfl) ?_
  intro P0 E0 S0 M0 A0 B0 T0 K0 C hr hlk
  refine wr_vs (vs' := [(0, .ref (Γ.2.2 0)), (1, .int (nI t)), (2, .int (nI k)), (3, .int d)]) rfl ?_
  refine wr_aload_n C 0 dW_write_0 rfl rfl ?_
  refine wr_iload_n C 1 dW_write_1 rfl rfl ?_
  refine wr_callV1 C (As := [.int (nI t)]) (rest := []) (mc_isActiveI l Γ σ μ (t := t) (by omega)) cb_W_isActive (Or.inl tw_174) tw_175 tw_532 (by omega) (wc_c_WC) rfl (by decide) (by decide) rfl rfl (Nat.le_of_ble_eq_true rfl) ⟨Nat.le_refl _, Nat.le_refl _⟩ dW_write_2 ?_
  refine wr_if_eq C (tgt := 30) dW_write_5 (by decide) (fun h1 => ?_) (fun h1 => ?_)
  ·
    refine wr_iconst C (v := nI 0) dW_write_30 (by decide) ?_
    exact wr_iret C hr rfl hlk dW_write_31 (by subst_vars; first | (simp [fc_write, wc_nIe, wc_nI0, wc_nIm, *]; done) | (simp_all [fc_write, wc_nIe, wc_nI0, wc_nIm]; done)) (by first | rfl | (subst_vars; first | (simp [fc_write, wc_nIe, wc_nI0, wc_nIm, *]; done) | (simp_all [fc_write, wc_nIe, wc_nI0, wc_nIm]; done))) (by first | rfl | (subst_vars; first | (simp [fc_write, wc_nIe, wc_nI0, wc_nIm, *]; done) | (simp_all [fc_write, wc_nIe, wc_nI0, wc_nIm]; done)))
  ·
    refine wr_iload_n C 2 dW_write_8 rfl rfl ?_
    refine wr_callS1 C (As := [.int (nI k)]) (rest := []) (mc_isKeyI l Γ σ μ (j := k) (by omega)) cb_W_isKey (Or.inl tw_177) tw_178 (by decide) (by decide) rfl rfl (Nat.le_of_ble_eq_true rfl) ⟨Nat.le_refl _, Nat.le_refl _⟩ dW_write_9 ?_
    refine wr_if_eq C (tgt := 30) dW_write_12 (by decide) (fun h2 => absurd h2 (by decide)) (fun _ => ?_)
    refine wr_aload_n C 0 dW_write_15 rfl rfl ?_
    refine wr_aload_n C 0 dW_write_16 rfl rfl ?_
    refine wf_WC_transactions C  (Or.inl tw_121) dW_write_17 ?_
    refine wr_iload_n C 1 dW_write_20 rfl rfl ?_
    refine wa_txs C (by omega) dW_write_21 ?_
    refine wr_iload_n C 2 dW_write_22 rfl rfl ?_
    refine wr_iconst C (v := nI 2) dW_write_23 (by decide) ?_
    refine wr_callV1 C (As := [.ref (Γ.2.2 (35 + t)), .int (nI k), .int (nI 2)]) (rest := []) (mc_lock l Γ σ μ (t := t) (k := k) (by omega) (by omega) (nI 2)) cb_W_lock (Or.inl tw_180) tw_181 tw_533 (by omega) (wc_c_WC) rfl (by decide) (by decide) rfl rfl (Nat.le_of_ble_eq_true rfl) ⟨Nat.le_refl _, Nat.le_refl _⟩ dW_write_24 ?_
    generalize hs1 : (fc_lock σ t k (nI 2)).2 = σ1
    refine wr_if_ne C (tgt := 32) dW_write_27 (by decide) (fun h3 => ?_) (fun h3 => ?_)
    ·
      refine wr_aload_n C 0 dW_write_32 rfl rfl ?_
      refine wf_WC_transactions C  (Or.inl tw_121) dW_write_33 ?_
      refine wr_iload_n C 1 dW_write_36 rfl rfl ?_
      refine wa_txs C (by omega) dW_write_37 ?_
      refine wf_Tx_written C (by omega) (Or.inr ⟨_, tw_82⟩) dW_write_38 ?_
      refine wr_iload_n C 2 dW_write_41 rfl rfl ?_
      refine wr_iload_n C 3 dW_write_42 rfl rfl ?_
      refine ws_written C (by omega) (by omega) dW_write_43 ?_
      generalize hs2 : wc_st σ1 16 t k d = σ2
      refine wr_iconst C (v := nI 1) dW_write_44 (by decide) ?_
      exact wr_iret C hr rfl hlk dW_write_45 (by subst_vars; first | (simp [fc_write, wc_nIe, wc_nI0, wc_nIm, *]; done) | (simp_all [fc_write, wc_nIe, wc_nI0, wc_nIm]; done)) (by first | rfl | (subst_vars; first | (simp [fc_write, wc_nIe, wc_nI0, wc_nIm, *]; done) | (simp_all [fc_write, wc_nIe, wc_nI0, wc_nIm]; done))) (by first | rfl | (subst_vars; first | (simp [fc_write, wc_nIe, wc_nI0, wc_nIm, *]; done) | (simp_all [fc_write, wc_nIe, wc_nI0, wc_nIm]; done)))
    ·
      refine wr_iconst C (v := nI 0) dW_write_30 (by decide) ?_
      exact wr_iret C hr rfl hlk dW_write_31 (by subst_vars; first | (simp [fc_write, wc_nIe, wc_nI0, wc_nIm, *]; done) | (simp_all [fc_write, wc_nIe, wc_nI0, wc_nIm]; done)) (by first | rfl | (subst_vars; first | (simp [fc_write, wc_nIe, wc_nI0, wc_nIm, *]; done) | (simp_all [fc_write, wc_nIe, wc_nI0, wc_nIm]; done))) (by first | rfl | (subst_vars; first | (simp [fc_write, wc_nIe, wc_nI0, wc_nIm, *]; done) | (simp_all [fc_write, wc_nIe, wc_nI0, wc_nIm]; done)))
set_option maxRecDepth 100000 in
set_option maxHeartbeats 4000000 in
theorem mc_commitO (l : Launch) (Γ : wc_G) (σ μ : wc_St) (a : Int32) (ha : a < 0 ∨ nI 5 ≤ a) : wc_M l yW_commit cW_commit 3 (some .boolean) 4 Γ [.ref (Γ.2.2 0), .int a] σ μ (some (.int (nI 0))) (σ) μ := by
  refine wc_enter "WaitedCommits" (by decide) rfl (Nat.le_of_ble_eq_true rfl) ?_
  intro P0 E0 S0 M0 A0 B0 T0 K0 C hr hlk
  refine wr_vs (vs' := [(0, .ref (Γ.2.2 0)), (1, .int a)]) rfl ?_
  refine wr_aload_n C 0 dW_commit_0 rfl rfl ?_
  refine wr_iload_n C 1 dW_commit_1 rfl rfl ?_
  refine wr_callV1 C (As := [.int a]) (rest := []) (mc_isActiveO l Γ σ μ a ha) cb_W_isActive (Or.inl tw_174) tw_175 tw_532 (by omega) (wc_c_WC) rfl (by decide) (by decide) rfl rfl (Nat.le_of_ble_eq_true rfl) ⟨Nat.le_refl _, Nat.le_refl _⟩ dW_commit_2 ?_
  refine wr_if_ne C (tgt := 10) dW_commit_5 (by decide) (fun h1 => absurd (by decide) h1) (fun _ => ?_)
  refine wr_iconst C (v := nI 0) dW_commit_8 (by decide) ?_
  exact wr_iret C hr rfl hlk dW_commit_9 (by rfl) (by rfl) (by rfl)
set_option maxRecDepth 100000 in
set_option maxHeartbeats 4000000 in
theorem mc_commitI (l : Launch) (Γ : wc_G) (σ μ : wc_St) {t : Nat} (ht : t < 5) : wc_M l yW_commit cW_commit 3 (some .boolean) 4 Γ [.ref (Γ.2.2 0), .int (nI t)] σ μ (some (.int ((fc_commit σ t).1))) ((fc_commit σ t).2) μ := by
  refine wc_enter "WaitedCommits" (by decide) rfl (Nat.le_of_ble_eq_true rfl) ?_
  intro P0 E0 S0 M0 A0 B0 T0 K0 C hr hlk
  refine wr_vs (vs' := [(0, .ref (Γ.2.2 0)), (1, .int (nI t))]) rfl ?_
  refine wr_aload_n C 0 dW_commit_0 rfl rfl ?_
  refine wr_iload_n C 1 dW_commit_1 rfl rfl ?_
  refine wr_callV1 C (As := [.int (nI t)]) (rest := []) (mc_isActiveI l Γ σ μ (t := t) (by omega)) cb_W_isActive (Or.inl tw_174) tw_175 tw_532 (by omega) (wc_c_WC) rfl (by decide) (by decide) rfl rfl (Nat.le_of_ble_eq_true rfl) ⟨Nat.le_refl _, Nat.le_refl _⟩ dW_commit_2 ?_
  refine wr_if_ne C (tgt := 10) dW_commit_5 (by decide) (fun h1 => ?_) (fun h1 => ?_)
  ·
    refine wr_aload_n C 0 dW_commit_10 rfl rfl ?_
    refine wf_WC_transactions C  (Or.inl tw_121) dW_commit_11 ?_
    refine wr_iload_n C 1 dW_commit_14 rfl rfl ?_
    refine wa_txs C (by omega) dW_commit_15 ?_
    refine wr_callV1 C (As := []) (rest := []) (mc_least l Γ σ μ (t := t) (by omega)) cb_T_leastParticipant (Or.inr ⟨_, tw_164⟩) tw_165 tw_530 (by omega) (wc_c_Tx (by omega)) rfl (by decide) (by decide) rfl rfl (Nat.le_of_ble_eq_true rfl) ⟨Nat.le_refl _, Nat.le_refl _⟩ dW_commit_16 ?_
    refine wr_istore_n C (vs' := [(2, .int (fc_least σ t)), (0, .ref (Γ.2.2 0)), (1, .int (nI t))]) dW_commit_19 rfl (by decide) rfl ?_
    refine wr_iload_n C 0 dW_commit_20 rfl rfl ?_
    refine wr_iconst C (v := -1) dW_commit_21 (by decide) ?_
    refine wr_icmp_eq C (tgt := 37) dW_commit_22 (by decide) (fun h2 => ?_) (fun h2 => ?_)
    ·
      refine wr_iconst C (v := nI 0) dW_commit_37 (by decide) ?_
      exact wr_iret C hr rfl hlk dW_commit_38 (by subst_vars; (try rw [hcc] at h2); first | (simp [fc_commit, *]; done) | (simp [fc_commit, nI_clamp (show c < 2 ^ 31 by omega), *]; done) | (simp_all [fc_commit]; done)) (by first | rfl | (subst_vars; (try rw [hcc] at h2); first | (simp [fc_commit, *]; done) | (simp [fc_commit, nI_clamp (show c < 2 ^ 31 by omega), *]; done) | (simp_all [fc_commit]; done))) (by first | rfl | (subst_vars; (try rw [hcc] at h2); first | (simp [fc_commit, *]; done) | (simp [fc_commit, nI_clamp (show c < 2 ^ 31 by omega), *]; done) | (simp_all [fc_commit]; done)))
    ·
      obtain ⟨c, hc3, hcc⟩ := fc_least_some h2
      refine wr_vs (vs' := [(2, .int (nI c)), (0, .ref (Γ.2.2 0)), (1, .int (nI t))]) (by rw [hcc]) ?_
      refine wr_aload_n C 1 dW_commit_25 rfl rfl ?_
      refine wf_WC_sites C  (Or.inl tw_119) dW_commit_26 ?_
      refine wr_iload_n C 0 dW_commit_29 rfl rfl ?_
      refine wa_sites C (by omega) dW_commit_30 ?_
      refine wf_Site_isUp C (by omega) (Or.inr ⟨_, tw_38⟩) dW_commit_31 ?_
      refine wr_if_ne C (tgt := 39) dW_commit_34 (by decide) (fun h3 => ?_) (fun h3 => ?_)
      ·
        refine wr_aload_n C 1 dW_commit_39 rfl rfl ?_
        refine wf_WC_transactions C  (Or.inl tw_121) dW_commit_40 ?_
        refine wr_iload_n C 2 dW_commit_43 rfl rfl ?_
        refine wa_txs C (by omega) dW_commit_44 ?_
        refine wr_iload_n C 0 dW_commit_45 rfl rfl ?_
        refine wp_Tx_coordinator C (by omega) (Or.inr ⟨_, tw_70⟩) dW_commit_46 ?_
        generalize hs1 : wc_st σ 10 t 0 (nI c) = σ1
        refine wr_aload_n C 1 dW_commit_49 rfl rfl ?_
        refine wr_iload_n C 2 dW_commit_50 rfl rfl ?_
        refine wr_callV0 C (As := [.int (nI t)]) (rest := []) (mc_prepare l Γ σ1 μ (t := t) (c := c) (by omega) (by omega) (by subst_vars; simp [wc_st])) cb_W_prepare (Or.inl tw_207) tw_208 tw_536 (by omega) (wc_c_WC) rfl (by decide) (by decide) rfl rfl (Nat.le_of_ble_eq_true rfl) ⟨Nat.le_refl _, Nat.le_refl _⟩ dW_commit_51 ?_
        generalize hs2 : fc_prepare σ1 t c = σ2
        refine wr_iconst C (v := nI 1) dW_commit_54 (by decide) ?_
        exact wr_iret C hr rfl hlk dW_commit_55 (by subst_vars; (try rw [hcc] at h2); first | (simp [fc_commit, *]; done) | (simp [fc_commit, nI_clamp (show c < 2 ^ 31 by omega), *]; done) | (simp_all [fc_commit]; done)) (by first | rfl | (subst_vars; (try rw [hcc] at h2); first | (simp [fc_commit, *]; done) | (simp [fc_commit, nI_clamp (show c < 2 ^ 31 by omega), *]; done) | (simp_all [fc_commit]; done))) (by first | rfl | (subst_vars; (try rw [hcc] at h2); first | (simp [fc_commit, *]; done) | (simp [fc_commit, nI_clamp (show c < 2 ^ 31 by omega), *]; done) | (simp_all [fc_commit]; done)))
      ·
        refine wr_iconst C (v := nI 0) dW_commit_37 (by decide) ?_
        exact wr_iret C hr rfl hlk dW_commit_38 (by subst_vars; (try rw [hcc] at h2); first | (simp [fc_commit, *]; done) | (simp [fc_commit, nI_clamp (show c < 2 ^ 31 by omega), *]; done) | (simp_all [fc_commit]; done)) (by first | rfl | (subst_vars; (try rw [hcc] at h2); first | (simp [fc_commit, *]; done) | (simp [fc_commit, nI_clamp (show c < 2 ^ 31 by omega), *]; done) | (simp_all [fc_commit]; done))) (by first | rfl | (subst_vars; (try rw [hcc] at h2); first | (simp [fc_commit, *]; done) | (simp [fc_commit, nI_clamp (show c < 2 ^ 31 by omega), *]; done) | (simp_all [fc_commit]; done)))
  ·
    refine wr_iconst C (v := nI 0) dW_commit_8 (by decide) ?_
    exact wr_iret C hr rfl hlk dW_commit_9 (by subst_vars; (try rw [hcc] at h2); first | (simp [fc_commit, *]; done) | (simp [fc_commit, nI_clamp (show c < 2 ^ 31 by omega), *]; done) | (simp_all [fc_commit]; done)) (by first | rfl | (subst_vars; (try rw [hcc] at h2); first | (simp [fc_commit, *]; done) | (simp [fc_commit, nI_clamp (show c < 2 ^ 31 by omega), *]; done) | (simp_all [fc_commit]; done))) (by first | rfl | (subst_vars; (try rw [hcc] at h2); first | (simp [fc_commit, *]; done) | (simp [fc_commit, nI_clamp (show c < 2 ^ 31 by omega), *]; done) | (simp_all [fc_commit]; done)))
set_option maxRecDepth 100000 in
set_option maxHeartbeats 4000000 in
theorem mc_abortO (l : Launch) (Γ : wc_G) (σ μ : wc_St) (a : Int32) (ha : a < 0 ∨ nI 5 ≤ a) : wc_M l yW_abort cW_abort 2 (some .boolean) 2 Γ [.ref (Γ.2.2 0), .int a] σ μ (some (.int (nI 0))) (σ) μ := by
  refine wc_enter "WaitedCommits" (by decide) rfl (Nat.le_of_ble_eq_true rfl) ?_
  intro P0 E0 S0 M0 A0 B0 T0 K0 C hr hlk
  refine wr_vs (vs' := [(0, .ref (Γ.2.2 0)), (1, .int a)]) rfl ?_
  refine wr_aload_n C 0 dW_abort_0 rfl rfl ?_
  refine wr_iload_n C 1 dW_abort_1 rfl rfl ?_
  refine wr_callV1 C (As := [.int a]) (rest := []) (mc_isActiveO l Γ σ μ a ha) cb_W_isActive (Or.inl tw_174) tw_175 tw_532 (by omega) (wc_c_WC) rfl (by decide) (by decide) rfl rfl (Nat.le_of_ble_eq_true rfl) ⟨Nat.le_refl _, Nat.le_refl _⟩ dW_abort_2 ?_
  refine wr_if_ne C (tgt := 10) dW_abort_5 (by decide) (fun h1 => absurd (by decide) h1) (fun _ => ?_)
  refine wr_iconst C (v := nI 0) dW_abort_8 (by decide) ?_
  exact wr_iret C hr rfl hlk dW_abort_9 (by rfl) (by rfl) (by rfl)
set_option maxRecDepth 100000 in
set_option maxHeartbeats 4000000 in
theorem mc_abortI (l : Launch) (Γ : wc_G) (σ μ : wc_St) {t : Nat} (ht : t < 5) : wc_M l yW_abort cW_abort 2 (some .boolean) 2 Γ [.ref (Γ.2.2 0), .int (nI t)] σ μ (some (.int ((fc_abort σ t).1))) ((fc_abort σ t).2) μ := by
  refine wc_enter "WaitedCommits" (by decide) rfl (Nat.le_of_ble_eq_true rfl) ?_
  intro P0 E0 S0 M0 A0 B0 T0 K0 C hr hlk
  refine wr_vs (vs' := [(0, .ref (Γ.2.2 0)), (1, .int (nI t))]) rfl ?_
  refine wr_aload_n C 0 dW_abort_0 rfl rfl ?_
  refine wr_iload_n C 1 dW_abort_1 rfl rfl ?_
  refine wr_callV1 C (As := [.int (nI t)]) (rest := []) (mc_isActiveI l Γ σ μ (t := t) (by omega)) cb_W_isActive (Or.inl tw_174) tw_175 tw_532 (by omega) (wc_c_WC) rfl (by decide) (by decide) rfl rfl (Nat.le_of_ble_eq_true rfl) ⟨Nat.le_refl _, Nat.le_refl _⟩ dW_abort_2 ?_
  refine wr_if_ne C (tgt := 10) dW_abort_5 (by decide) (fun h1 => ?_) (fun h1 => ?_)
  ·
    refine wr_aload_n C 0 dW_abort_10 rfl rfl ?_
    refine wf_WC_transactions C  (Or.inl tw_121) dW_abort_11 ?_
    refine wr_iload_n C 1 dW_abort_14 rfl rfl ?_
    refine wa_txs C (by omega) dW_abort_15 ?_
    refine wr_callV0 C (As := []) (rest := []) (mc_giveUp l Γ σ μ (t := t) (by omega)) cb_T_giveUp (Or.inr ⟨_, tw_192⟩) tw_193 tw_534 (by omega) (wc_c_Tx (by omega)) rfl (by decide) (by decide) rfl rfl (Nat.le_of_ble_eq_true rfl) ⟨Nat.le_refl _, Nat.le_refl _⟩ dW_abort_16 ?_
    generalize hs1 : fc_giveUp σ t = σ1
    refine wr_iconst C (v := nI 1) dW_abort_19 (by decide) ?_
    exact wr_iret C hr rfl hlk dW_abort_20 (by subst_vars; first | (simp [fc_abort, wc_nIe, wc_nI0, wc_nIm, *]; done) | (simp_all [fc_abort, wc_nIe, wc_nI0, wc_nIm]; done)) (by first | rfl | (subst_vars; first | (simp [fc_abort, wc_nIe, wc_nI0, wc_nIm, *]; done) | (simp_all [fc_abort, wc_nIe, wc_nI0, wc_nIm]; done))) (by first | rfl | (subst_vars; first | (simp [fc_abort, wc_nIe, wc_nI0, wc_nIm, *]; done) | (simp_all [fc_abort, wc_nIe, wc_nI0, wc_nIm]; done)))
  ·
    refine wr_iconst C (v := nI 0) dW_abort_8 (by decide) ?_
    exact wr_iret C hr rfl hlk dW_abort_9 (by subst_vars; first | (simp [fc_abort, wc_nIe, wc_nI0, wc_nIm, *]; done) | (simp_all [fc_abort, wc_nIe, wc_nI0, wc_nIm]; done)) (by first | rfl | (subst_vars; first | (simp [fc_abort, wc_nIe, wc_nI0, wc_nIm, *]; done) | (simp_all [fc_abort, wc_nIe, wc_nI0, wc_nIm]; done))) (by first | rfl | (subst_vars; first | (simp [fc_abort, wc_nIe, wc_nI0, wc_nIm, *]; done) | (simp_all [fc_abort, wc_nIe, wc_nI0, wc_nIm]; done)))
set_option maxRecDepth 100000 in
set_option maxHeartbeats 4000000 in
theorem mc_readAtO (l : Launch) (Γ : wc_G) (σ μ : wc_St) (a : Int32) (ha : a < 0 ∨ nI 9 ≤ a) (r : Int32) : wc_M l yW_readAt cW_readAt 3 (some .long) 3 Γ [.ref (Γ.2.2 0), .int a, .int r] σ μ (some (.long 1099511627776)) (σ) μ := by
  refine wc_enter "WaitedCommits" (by decide) rfl (Nat.le_of_ble_eq_true rfl) ?_
  intro P0 E0 S0 M0 A0 B0 T0 K0 C hr hlk
  refine wr_vs (vs' := [(0, .ref (Γ.2.2 0)), (1, .int a), (2, .int r)]) rfl ?_
  refine wr_iload_n C 1 dW_readAt_0 rfl rfl ?_
  refine wr_callS1 C (As := [.int a]) (rest := []) (mc_isKeyO l Γ σ μ a ha) cb_W_isKey (Or.inl tw_177) tw_178 (by decide) (by decide) rfl rfl (Nat.le_of_ble_eq_true rfl) ⟨Nat.le_refl _, Nat.le_refl _⟩ dW_readAt_1 ?_
  refine wr_if_eq C (tgt := 34) dW_readAt_4 (by decide) (fun _ => ?_) (fun h1 => absurd (by decide) h1)
  refine wr_ldc2 C dW_readAt_34 tw_198 ?_
  exact wr_lret C hr hlk dW_readAt_37 (by rfl) (by rfl) (by rfl)
set_option maxRecDepth 100000 in
set_option maxHeartbeats 4000000 in
theorem mc_readAtI (l : Launch) (Γ : wc_G) (σ μ : wc_St) {k : Nat} (hk : k < 9) (r : Int32) (hcnt : σ 5 k 0 ≤ nI 4) : wc_M l yW_readAt cW_readAt 3 (some .long) 3 Γ [.ref (Γ.2.2 0), .int (nI k), .int r] σ μ (some (.long ((fc_readAt σ k r).1))) ((fc_readAt σ k r).2) μ := by
  refine wc_enter "WaitedCommits" (by decide) rfl (Nat.le_of_ble_eq_true rfl) ?_
  intro P0 E0 S0 M0 A0 B0 T0 K0 C hr hlk
  refine wr_vs (vs' := [(0, .ref (Γ.2.2 0)), (1, .int (nI k)), (2, .int r)]) rfl ?_
  refine wr_iload_n C 1 dW_readAt_0 rfl rfl ?_
  refine wr_callS1 C (As := [.int (nI k)]) (rest := []) (mc_isKeyI l Γ σ μ (j := k) (by omega)) cb_W_isKey (Or.inl tw_177) tw_178 (by decide) (by decide) rfl rfl (Nat.le_of_ble_eq_true rfl) ⟨Nat.le_refl _, Nat.le_refl _⟩ dW_readAt_1 ?_
  refine wr_if_eq C (tgt := 34) dW_readAt_4 (by decide) (fun h1 => absurd h1 (by decide)) (fun _ => ?_)
  refine wr_aload_n C 0 dW_readAt_7 rfl rfl ?_
  refine wf_WC_sites C  (Or.inl tw_119) dW_readAt_8 ?_
  refine wr_iload_n C 1 dW_readAt_11 rfl rfl ?_
  refine wr_callS1 C (As := [.int (nI k)]) (rest := [.ref (Γ.2.2 1)]) (mc_siteOf l Γ σ μ (k := k) (by omega)) cb_W_siteOf (Or.inl tw_183) tw_184 (by decide) (by decide) rfl rfl (Nat.le_of_ble_eq_true rfl) ⟨Nat.le_refl _, Nat.le_refl _⟩ dW_readAt_12 ?_
  refine wa_sites C (by omega) dW_readAt_15 ?_
  refine wf_Site_isUp C (by omega) (Or.inr ⟨_, tw_38⟩) dW_readAt_16 ?_
  refine wr_if_eq C (tgt := 34) dW_readAt_19 (by decide) (fun h2 => ?_) (fun h2 => ?_)
  ·
    refine wr_ldc2 C dW_readAt_34 tw_198 ?_
    exact wr_lret C hr hlk dW_readAt_37 (by subst_vars; first | (simp [fc_readAt, wc_nIe, wc_nI0, wc_nIm, *]; done) | (simp_all [fc_readAt, wc_nIe, wc_nI0, wc_nIm]; done)) (by first | rfl | (subst_vars; first | (simp [fc_readAt, wc_nIe, wc_nI0, wc_nIm, *]; done) | (simp_all [fc_readAt, wc_nIe, wc_nI0, wc_nIm]; done))) (by first | rfl | (subst_vars; first | (simp [fc_readAt, wc_nIe, wc_nI0, wc_nIm, *]; done) | (simp_all [fc_readAt, wc_nIe, wc_nI0, wc_nIm]; done)))
  ·
    refine wr_iload_n C 2 dW_readAt_22 rfl rfl ?_
    refine wr_aload_n C 0 dW_readAt_23 rfl rfl ?_
    refine wr_iload_n C 1 dW_readAt_24 rfl rfl ?_
    refine wr_callS1 C (As := [.int (nI k)]) (rest := [.ref (Γ.2.2 0), .int r]) (mc_siteOf l Γ σ μ (k := k) (by omega)) cb_W_siteOf (Or.inl tw_183) tw_184 (by decide) (by decide) rfl rfl (Nat.le_of_ble_eq_true rfl) ⟨Nat.le_refl _, Nat.le_refl _⟩ dW_readAt_25 ?_
    refine wr_callV1 C (As := [.int (nI (k % 3))]) (rest := [.int r]) (mc_ready l Γ σ μ (q := k % 3) (by omega)) cb_W_greatestReadyTime (Or.inl tw_235) tw_236 tw_542 (by omega) (wc_c_WC) rfl (by decide) (by decide) rfl rfl (Nat.le_of_ble_eq_true rfl) ⟨Nat.le_refl _, Nat.le_refl _⟩ dW_readAt_28 ?_
    refine wr_icmp_le C (tgt := 38) dW_readAt_31 (by decide) (fun h3 => ?_) (fun h3 => ?_)
    ·
      refine wr_aload_n C 0 dW_readAt_38 rfl rfl ?_
      refine wf_WC_sites C  (Or.inl tw_119) dW_readAt_39 ?_
      refine wr_iload_n C 1 dW_readAt_42 rfl rfl ?_
      refine wr_callS1 C (As := [.int (nI k)]) (rest := [.ref (Γ.2.2 1)]) (mc_siteOf l Γ σ μ (k := k) (by omega)) cb_W_siteOf (Or.inl tw_183) tw_184 (by decide) (by decide) rfl rfl (Nat.le_of_ble_eq_true rfl) ⟨Nat.le_refl _, Nat.le_refl _⟩ dW_readAt_43 ?_
      refine wa_sites C (by omega) dW_readAt_46 ?_
      refine wr_iload_n C 2 dW_readAt_47 rfl rfl ?_
      refine wr_callV0 C (As := [.int r]) (rest := []) (mc_raiseBound l Γ σ μ (q := k % 3) (by omega) r) cb_S_raiseBound (Or.inr ⟨_, tw_242⟩) tw_243 tw_544 (by omega) (wc_c_Site (by omega)) rfl (by decide) (by decide) rfl rfl (Nat.le_of_ble_eq_true rfl) ⟨Nat.le_refl _, Nat.le_refl _⟩ dW_readAt_48 ?_
      generalize hs1 : fc_raise σ (k % 3) r = σ1
      refine wr_aload_n C 0 dW_readAt_51 rfl rfl ?_
      refine wf_WC_keys C  (Or.inl tw_120) dW_readAt_52 ?_
      refine wr_iload_n C 1 dW_readAt_55 rfl rfl ?_
      refine wa_keys C (by omega) dW_readAt_56 ?_
      refine wr_iload_n C 2 dW_readAt_57 rfl rfl ?_
      refine wr_callV1 C (As := [.int r]) (rest := []) (mc_valueAt l Γ σ1 μ (k := k) (by omega) r (by subst_vars; exact hcnt)) cb_K_valueAt (Or.inr ⟨_, tw_246⟩) tw_247 tw_545 (by omega) (wc_c_Key (by omega)) rfl (by decide) (by decide) rfl rfl (Nat.le_of_ble_eq_true rfl) ⟨Nat.le_refl _, Nat.le_refl _⟩ dW_readAt_58 ?_
      exact wr_lret C hr hlk dW_readAt_61 (by subst_vars; first | (simp [fc_readAt, wc_nIe, wc_nI0, wc_nIm, *]; done) | (simp_all [fc_readAt, wc_nIe, wc_nI0, wc_nIm]; done)) (by first | rfl | (subst_vars; first | (simp [fc_readAt, wc_nIe, wc_nI0, wc_nIm, *]; done) | (simp_all [fc_readAt, wc_nIe, wc_nI0, wc_nIm]; done))) (by first | rfl | (subst_vars; first | (simp [fc_readAt, wc_nIe, wc_nI0, wc_nIm, *]; done) | (simp_all [fc_readAt, wc_nIe, wc_nI0, wc_nIm]; done)))
    ·
      refine wr_ldc2 C dW_readAt_34 tw_198 ?_
      exact wr_lret C hr hlk dW_readAt_37 (by subst_vars; first | (simp [fc_readAt, wc_nIe, wc_nI0, wc_nIm, *]; done) | (simp_all [fc_readAt, wc_nIe, wc_nI0, wc_nIm]; done)) (by first | rfl | (subst_vars; first | (simp [fc_readAt, wc_nIe, wc_nI0, wc_nIm, *]; done) | (simp_all [fc_readAt, wc_nIe, wc_nI0, wc_nIm]; done))) (by first | rfl | (subst_vars; first | (simp [fc_readAt, wc_nIe, wc_nI0, wc_nIm, *]; done) | (simp_all [fc_readAt, wc_nIe, wc_nI0, wc_nIm]; done)))
set_option maxRecDepth 100000 in
set_option maxHeartbeats 4000000 in
theorem mc_stepO (l : Launch) (Γ : wc_G) (σ μ : wc_St) (a : Int32) (ha : a < 0 ∨ ¬ a ≤ nI 500) : wc_M l yW_step cW_step 4 (some .int) 6 Γ [.ref (Γ.2.2 0), .int a] σ μ (some (.int (-1))) (σ) μ := by
  refine wc_enter "WaitedCommits" (by decide) rfl (Nat.le_of_ble_eq_true rfl) ?_
  intro P0 E0 S0 M0 A0 B0 T0 K0 C hr hlk
  refine wr_vs (vs' := [(0, .ref (Γ.2.2 0)), (1, .int a)]) rfl ?_
  refine wr_iload_n C 1 dW_step_0 rfl rfl ?_
  refine wr_if_lt C (tgt := 11) dW_step_1 (by decide) (fun h1 => ?_) (fun h1 => ?_)
  ·
    refine wr_iconst C (v := -1) dW_step_11 (by decide) ?_
    exact wr_iret C hr rfl hlk dW_step_12 (by rfl) (by rfl) (by rfl)
  ·
    refine wr_iload_n C 1 dW_step_4 rfl rfl ?_
    refine wr_sipush C (v := nI 500) dW_step_5 (by decide) ?_
    refine wr_icmp_le C (tgt := 13) dW_step_8 (by decide) (fun h2 => ?_) (fun h2 => ?_)
    ·
      exact absurd (ha.resolve_left h1) (fun q => q h2)
    ·
      refine wr_iconst C (v := -1) dW_step_11 (by decide) ?_
      exact wr_iret C hr rfl hlk dW_step_12 (by rfl) (by rfl) (by rfl)
set_option maxRecDepth 100000 in
set_option maxHeartbeats 4000000 in
theorem mc_stepI (l : Launch) (Γ : wc_G) (σ μ : wc_St) {N : Nat} (hN : N ≤ 500) (hw : wc_wf σ) : wc_M l yW_step cW_step 4 (some .int) 6 Γ [.ref (Γ.2.2 0), .int (nI N)] σ μ (some (.int (nI ((fc_steps N 0 σ).1)))) ((fc_steps N 0 σ).2) μ := by
  refine wc_enter "WaitedCommits" (by decide) rfl (Nat.le_of_ble_eq_true rfl) ?_
  intro P0 E0 S0 M0 A0 B0 T0 K0 C hr hlk
  refine wr_vs (vs' := [(0, .ref (Γ.2.2 0)), (1, .int (nI N))]) rfl ?_
  refine wr_iload_n C 1 dW_step_0 rfl rfl ?_
  refine wr_if_lt C (tgt := 11) dW_step_1 (by decide) (fun h1 => absurd h1 (wc_nolt0 (by omega) (by omega))) (fun _ => ?_)
  refine wr_iload_n C 1 dW_step_4 rfl rfl ?_
  refine wr_sipush C (v := nI 500) dW_step_5 (by decide) ?_
  refine wr_icmp_le C (tgt := 13) dW_step_8 (by decide) (fun _ => ?_) (fun h2 => absurd (wc_yesle (by omega) (by omega) (by omega)) h2)
  refine wr_iconst C (v := nI 0) dW_step_13 (by decide) ?_
  refine wr_istore_n C (vs' := [(2, .int (nI 0)), (0, .ref (Γ.2.2 0)), (1, .int (nI N))]) dW_step_14 rfl (by decide) rfl ?_
  refine wr_iconst C (v := nI 0) dW_step_15 (by decide) ?_
  refine wr_istore_n C (vs' := [(3, .int (nI 0)), (2, .int (nI 0)), (0, .ref (Γ.2.2 0)), (1, .int (nI N))]) dW_step_16 rfl (by decide) rfl ?_
  refine wr_sub [0, 1, 2, 3] rfl ?_
  exact ml_steps C hr hlk N hN μ rfl _ rfl N 0 0 σ (by omega) hw rfl
set_option maxRecDepth 100000 in
set_option maxHeartbeats 4000000 in
theorem mc_now (l : Launch) (Γ : wc_G) (σ μ : wc_St)  : wc_M l yW_now cW_now 1 (some .int) 0 Γ [.ref (Γ.2.2 0)] σ μ (some (.int (σ 23 0 0))) (σ) μ := by
  refine wc_enter "WaitedCommits" (by decide) rfl (Nat.le_of_ble_eq_true rfl) ?_
  intro P0 E0 S0 M0 A0 B0 T0 K0 C hr hlk
  refine wr_vs (vs' := [(0, .ref (Γ.2.2 0))]) rfl ?_
  refine wr_aload_n C 0 dW_now_0 rfl rfl ?_
  refine wf_WC_time C  (Or.inl tw_123) dW_now_1 ?_
  exact wr_iret C hr rfl hlk dW_now_4 (by rfl) (by rfl) (by rfl)
set_option maxRecDepth 100000 in
set_option maxHeartbeats 4000000 in
theorem mc_messages (l : Launch) (Γ : wc_G) (σ μ : wc_St)  : wc_M l yW_messages cW_messages 1 (some .int) 0 Γ [.ref (Γ.2.2 0)] σ μ (some (.int (σ 26 0 0))) (σ) μ := by
  refine wc_enter "WaitedCommits" (by decide) rfl (Nat.le_of_ble_eq_true rfl) ?_
  intro P0 E0 S0 M0 A0 B0 T0 K0 C hr hlk
  refine wr_vs (vs' := [(0, .ref (Γ.2.2 0))]) rfl ?_
  refine wr_aload_n C 0 dW_messages_0 rfl rfl ?_
  refine wf_WC_underWay C  (Or.inl tw_126) dW_messages_1 ?_
  exact wr_iret C hr rfl hlk dW_messages_4 (by rfl) (by rfl) (by rfl)
set_option maxRecDepth 100000 in
set_option maxHeartbeats 4000000 in
theorem mc_stateI (l : Launch) (Γ : wc_G) (σ μ : wc_St) {t : Nat} (ht : t < 5) : wc_M l yW_state cW_state 2 (some .int) 1 Γ [.ref (Γ.2.2 0), .int (nI t)] σ μ (some (.int (σ 8 t 0))) (σ) μ := by
  refine wc_enter "WaitedCommits" (by decide) rfl (Nat.le_of_ble_eq_true rfl) ?_
  intro P0 E0 S0 M0 A0 B0 T0 K0 C hr hlk
  refine wr_vs (vs' := [(0, .ref (Γ.2.2 0)), (1, .int (nI t))]) rfl ?_
  refine wr_iload_n C 1 dW_state_0 rfl rfl ?_
  refine wr_callS1 C (As := [.int (nI t)]) (rest := []) (mc_isTxI l Γ σ μ (j := t) (by omega)) cb_W_isTransaction (Or.inl tw_158) tw_159 (by decide) (by decide) rfl rfl (Nat.le_of_ble_eq_true rfl) ⟨Nat.le_refl _, Nat.le_refl _⟩ dW_state_1 ?_
  refine wr_if_eq C (tgt := 19) dW_state_4 (by decide) (fun h1 => absurd h1 (by decide)) (fun _ => ?_)
  refine wr_aload_n C 0 dW_state_7 rfl rfl ?_
  refine wf_WC_transactions C  (Or.inl tw_121) dW_state_8 ?_
  refine wr_iload_n C 1 dW_state_11 rfl rfl ?_
  refine wa_txs C (by omega) dW_state_12 ?_
  refine wf_Tx_state C (by omega) (Or.inr ⟨_, tw_66⟩) dW_state_13 ?_
  refine wr_goto C (tgt := 20) dW_state_16 (by decide) ?_
  exact wr_iret C hr rfl hlk dW_state_20 (by rfl) (by rfl) (by rfl)
set_option maxRecDepth 100000 in
set_option maxHeartbeats 4000000 in
theorem mc_stateO (l : Launch) (Γ : wc_G) (σ μ : wc_St) (a : Int32) (ha : a < 0 ∨ nI 5 ≤ a) : wc_M l yW_state cW_state 2 (some .int) 1 Γ [.ref (Γ.2.2 0), .int a] σ μ (some (.int (-1))) (σ) μ := by
  refine wc_enter "WaitedCommits" (by decide) rfl (Nat.le_of_ble_eq_true rfl) ?_
  intro P0 E0 S0 M0 A0 B0 T0 K0 C hr hlk
  refine wr_vs (vs' := [(0, .ref (Γ.2.2 0)), (1, .int a)]) rfl ?_
  refine wr_iload_n C 1 dW_state_0 rfl rfl ?_
  refine wr_callS1 C (As := [.int a]) (rest := []) (mc_isTxO l Γ σ μ a ha) cb_W_isTransaction (Or.inl tw_158) tw_159 (by decide) (by decide) rfl rfl (Nat.le_of_ble_eq_true rfl) ⟨Nat.le_refl _, Nat.le_refl _⟩ dW_state_1 ?_
  refine wr_if_eq C (tgt := 19) dW_state_4 (by decide) (fun _ => ?_) (fun h1 => absurd (by decide) h1)
  refine wr_iconst C (v := -1) dW_state_19 (by decide) ?_
  exact wr_iret C hr rfl hlk dW_state_20 (by rfl) (by rfl) (by rfl)
set_option maxRecDepth 100000 in
set_option maxHeartbeats 4000000 in
theorem mc_stampI (l : Launch) (Γ : wc_G) (σ μ : wc_St) {t : Nat} (ht : t < 5) : wc_M l yW_stamp cW_stamp 3 (some .int) 2 Γ [.ref (Γ.2.2 0), .int (nI t)] σ μ (some (.int (fc_stamp σ t))) (σ) μ := by
  refine wc_enter "WaitedCommits" (by decide) rfl (Nat.le_of_ble_eq_true rfl) ?_
  intro P0 E0 S0 M0 A0 B0 T0 K0 C hr hlk
  refine wr_vs (vs' := [(0, .ref (Γ.2.2 0)), (1, .int (nI t))]) rfl ?_
  refine wr_aload_n C 0 dW_stamp_0 rfl rfl ?_
  refine wr_iload_n C 1 dW_stamp_1 rfl rfl ?_
  refine wr_callV1 C (As := [.int (nI t)]) (rest := []) (mc_stateI l Γ σ μ (t := t) (by omega)) cb_W_state (Or.inl tw_307) tw_300 tw_301 (by omega) (wc_c_WC) rfl (by decide) (by decide) rfl rfl (Nat.le_of_ble_eq_true rfl) ⟨Nat.le_refl _, Nat.le_refl _⟩ dW_stamp_2 ?_
  refine wr_istore_n C (vs' := [(2, .int (σ 8 t 0)), (0, .ref (Γ.2.2 0)), (1, .int (nI t))]) dW_stamp_5 rfl (by decide) rfl ?_
  refine wr_iload_n C 0 dW_stamp_6 rfl rfl ?_
  refine wr_iconst C (v := nI 3) dW_stamp_7 (by decide) ?_
  refine wr_icmp_eq C (tgt := 16) dW_stamp_8 (by decide) (fun h1 => ?_) (fun h1 => ?_)
  ·
    refine wr_aload_n C 1 dW_stamp_16 rfl rfl ?_
    refine wf_WC_transactions C  (Or.inl tw_121) dW_stamp_17 ?_
    refine wr_iload_n C 2 dW_stamp_20 rfl rfl ?_
    refine wa_txs C (by omega) dW_stamp_21 ?_
    refine wf_Tx_stamp C (by omega) (Or.inr ⟨_, tw_76⟩) dW_stamp_22 ?_
    refine wr_goto C (tgt := 29) dW_stamp_25 (by decide) ?_
    exact wr_iret C hr rfl hlk dW_stamp_29 (by subst_vars; first | (simp [fc_stamp, wc_nIe, wc_nI0, wc_nIm, *]; done) | (simp_all [fc_stamp, wc_nIe, wc_nI0, wc_nIm]; done)) (by rfl) (by rfl)
  ·
    refine wr_iload_n C 0 dW_stamp_11 rfl rfl ?_
    refine wr_iconst C (v := nI 4) dW_stamp_12 (by decide) ?_
    refine wr_icmp_ne C (tgt := 28) dW_stamp_13 (by decide) (fun h2 => ?_) (fun h2 => ?_)
    ·
      refine wr_iconst C (v := -1) dW_stamp_28 (by decide) ?_
      exact wr_iret C hr rfl hlk dW_stamp_29 (by subst_vars; first | (simp [fc_stamp, wc_nIe, wc_nI0, wc_nIm, *]; done) | (simp_all [fc_stamp, wc_nIe, wc_nI0, wc_nIm]; done)) (by rfl) (by rfl)
    ·
      refine wr_aload_n C 1 dW_stamp_16 rfl rfl ?_
      refine wf_WC_transactions C  (Or.inl tw_121) dW_stamp_17 ?_
      refine wr_iload_n C 2 dW_stamp_20 rfl rfl ?_
      refine wa_txs C (by omega) dW_stamp_21 ?_
      refine wf_Tx_stamp C (by omega) (Or.inr ⟨_, tw_76⟩) dW_stamp_22 ?_
      refine wr_goto C (tgt := 29) dW_stamp_25 (by decide) ?_
      exact wr_iret C hr rfl hlk dW_stamp_29 (by subst_vars; first | (simp [fc_stamp, wc_nIe, wc_nI0, wc_nIm, *]; done) | (simp_all [fc_stamp, wc_nIe, wc_nI0, wc_nIm]; done)) (by rfl) (by rfl)
set_option maxRecDepth 100000 in
set_option maxHeartbeats 4000000 in
theorem mc_stampO (l : Launch) (Γ : wc_G) (σ μ : wc_St) (a : Int32) (ha : a < 0 ∨ nI 5 ≤ a) : wc_M l yW_stamp cW_stamp 3 (some .int) 2 Γ [.ref (Γ.2.2 0), .int a] σ μ (some (.int (-1))) (σ) μ := by
  refine wc_enter "WaitedCommits" (by decide) rfl (Nat.le_of_ble_eq_true rfl) ?_
  intro P0 E0 S0 M0 A0 B0 T0 K0 C hr hlk
  refine wr_vs (vs' := [(0, .ref (Γ.2.2 0)), (1, .int a)]) rfl ?_
  refine wr_aload_n C 0 dW_stamp_0 rfl rfl ?_
  refine wr_iload_n C 1 dW_stamp_1 rfl rfl ?_
  refine wr_callV1 C (As := [.int a]) (rest := []) (mc_stateO l Γ σ μ a ha) cb_W_state (Or.inl tw_307) tw_300 tw_301 (by omega) (wc_c_WC) rfl (by decide) (by decide) rfl rfl (Nat.le_of_ble_eq_true rfl) ⟨Nat.le_refl _, Nat.le_refl _⟩ dW_stamp_2 ?_
  refine wr_istore_n C (vs' := [(2, .int (-1)), (0, .ref (Γ.2.2 0)), (1, .int a)]) dW_stamp_5 rfl (by decide) rfl ?_
  refine wr_iload_n C 0 dW_stamp_6 rfl rfl ?_
  refine wr_iconst C (v := nI 3) dW_stamp_7 (by decide) ?_
  refine wr_icmp_eq C (tgt := 16) dW_stamp_8 (by decide) (fun h1 => ?_) (fun h1 => ?_)
  ·
    exfalso; first | (revert h1; decide) | (revert h2; decide) | (revert h3; decide)
  ·
    refine wr_iload_n C 0 dW_stamp_11 rfl rfl ?_
    refine wr_iconst C (v := nI 4) dW_stamp_12 (by decide) ?_
    refine wr_icmp_ne C (tgt := 28) dW_stamp_13 (by decide) (fun h2 => ?_) (fun h2 => ?_)
    ·
      refine wr_iconst C (v := -1) dW_stamp_28 (by decide) ?_
      exact wr_iret C hr rfl hlk dW_stamp_29 (by first | rfl | (exfalso; revert h1; decide) | (exfalso; revert h2; decide)) (by rfl) (by rfl)
    ·
      exfalso; first | (revert h1; decide) | (revert h2; decide) | (revert h3; decide)
set_option maxRecDepth 100000 in
set_option maxHeartbeats 4000000 in
theorem mc_endI (l : Launch) (Γ : wc_G) (σ μ : wc_St) {t : Nat} (ht : t < 5) : wc_M l yW_end cW_end 2 (some .int) 2 Γ [.ref (Γ.2.2 0), .int (nI t)] σ μ (some (.int (fc_end σ t))) (σ) μ := by
  refine wc_enter "WaitedCommits" (by decide) rfl (Nat.le_of_ble_eq_true rfl) ?_
  intro P0 E0 S0 M0 A0 B0 T0 K0 C hr hlk
  refine wr_vs (vs' := [(0, .ref (Γ.2.2 0)), (1, .int (nI t))]) rfl ?_
  refine wr_aload_n C 0 dW_end_0 rfl rfl ?_
  refine wr_iload_n C 1 dW_end_1 rfl rfl ?_
  refine wr_callV1 C (As := [.int (nI t)]) (rest := []) (mc_stateI l Γ σ μ (t := t) (by omega)) cb_W_state (Or.inl tw_307) tw_300 tw_301 (by omega) (wc_c_WC) rfl (by decide) (by decide) rfl rfl (Nat.le_of_ble_eq_true rfl) ⟨Nat.le_refl _, Nat.le_refl _⟩ dW_end_2 ?_
  refine wr_iconst C (v := nI 4) dW_end_5 (by decide) ?_
  refine wr_icmp_ne C (tgt := 21) dW_end_6 (by decide) (fun h1 => ?_) (fun h1 => ?_)
  ·
    refine wr_iconst C (v := -1) dW_end_21 (by decide) ?_
    exact wr_iret C hr rfl hlk dW_end_22 (by subst_vars; first | (simp [fc_end, wc_nIe, wc_nI0, wc_nIm, *]; done) | (simp_all [fc_end, wc_nIe, wc_nI0, wc_nIm]; done)) (by rfl) (by rfl)
  ·
    refine wr_aload_n C 0 dW_end_9 rfl rfl ?_
    refine wf_WC_transactions C  (Or.inl tw_121) dW_end_10 ?_
    refine wr_iload_n C 1 dW_end_13 rfl rfl ?_
    refine wa_txs C (by omega) dW_end_14 ?_
    refine wf_Tx_end C (by omega) (Or.inr ⟨_, tw_78⟩) dW_end_15 ?_
    refine wr_goto C (tgt := 22) dW_end_18 (by decide) ?_
    exact wr_iret C hr rfl hlk dW_end_22 (by subst_vars; first | (simp [fc_end, wc_nIe, wc_nI0, wc_nIm, *]; done) | (simp_all [fc_end, wc_nIe, wc_nI0, wc_nIm]; done)) (by rfl) (by rfl)
set_option maxRecDepth 100000 in
set_option maxHeartbeats 4000000 in
theorem mc_endO (l : Launch) (Γ : wc_G) (σ μ : wc_St) (a : Int32) (ha : a < 0 ∨ nI 5 ≤ a) : wc_M l yW_end cW_end 2 (some .int) 2 Γ [.ref (Γ.2.2 0), .int a] σ μ (some (.int (-1))) (σ) μ := by
  refine wc_enter "WaitedCommits" (by decide) rfl (Nat.le_of_ble_eq_true rfl) ?_
  intro P0 E0 S0 M0 A0 B0 T0 K0 C hr hlk
  refine wr_vs (vs' := [(0, .ref (Γ.2.2 0)), (1, .int a)]) rfl ?_
  refine wr_aload_n C 0 dW_end_0 rfl rfl ?_
  refine wr_iload_n C 1 dW_end_1 rfl rfl ?_
  refine wr_callV1 C (As := [.int a]) (rest := []) (mc_stateO l Γ σ μ a ha) cb_W_state (Or.inl tw_307) tw_300 tw_301 (by omega) (wc_c_WC) rfl (by decide) (by decide) rfl rfl (Nat.le_of_ble_eq_true rfl) ⟨Nat.le_refl _, Nat.le_refl _⟩ dW_end_2 ?_
  refine wr_iconst C (v := nI 4) dW_end_5 (by decide) ?_
  refine wr_icmp_ne C (tgt := 21) dW_end_6 (by decide) (fun h1 => ?_) (fun h1 => ?_)
  ·
    refine wr_iconst C (v := -1) dW_end_21 (by decide) ?_
    exact wr_iret C hr rfl hlk dW_end_22 (by first | rfl | (exfalso; revert h1; decide)) (by rfl) (by rfl)
  ·
    exfalso; revert h1; decide
set_option maxRecDepth 100000 in
set_option maxHeartbeats 4000000 in
theorem ml_marks {P0 : Program} {l : Launch} {E0 : Env} {S0 : State} {M0 : MethodId} {A0 : Array Value} {B0 : List Frame} {T0 : Method} {K0 : Code} {Γ : wc_G} {A : Nat → Prop} {v : Option Value} {σ' μ' : wc_St} (C : wc_C P0 S0 M0 A0 K0 cW_marks 4 "WaitedCommits" Γ A) (hr : T0.sig.returnType = (some .int)) (hlk : T0.locks = false) {q : Nat} (hq : q < 3) (σ μ : wc_St) (r1 : Nat) (hx : wc_K P0 l E0 (wc_rm 2) S0 M0 A0 B0 T0 K0 4 Γ A (MQ B0 (wc_Qw Γ A v σ' μ') A0 S0 0 0 A) 0 0 41 [(3, .int (nI 5)), (2, .int (nI r1)), (0, .ref (Γ.2.2 0)), (1, .int (nI q))] [] σ μ) : ∀ (n : Nat) (t a : Nat), t + n = 5 → fc_marks σ q n t a = r1 → wc_K P0 l E0 (wc_rm 2) S0 M0 A0 B0 T0 K0 4 Γ A (MQ B0 (wc_Qw Γ A v σ' μ') A0 S0 0 0 A) 0 0 13 [(3, .int (nI t)), (2, .int (nI a)), (0, .ref (Γ.2.2 0)), (1, .int (nI q))] [] σ μ := by
  intro n
  induction n with
  | zero =>
    intro t a ht hres
    obtain rfl : t = 5 := by omega
    obtain rfl : a = r1 := hres
    refine wr_iload_n C 0 dW_marks_13 rfl rfl ?_
    refine wr_iconst C (v := nI 5) dW_marks_14 (by decide) ?_
    refine wr_icmp_ge C (tgt := 41) dW_marks_15 (by decide) (fun _ => ?_) (fun h1 => absurd (by decide) h1)
    exact hx
  | succ n ih =>
    intro t a ht hres
    refine wr_iload_n C 0 dW_marks_13 rfl rfl ?_
    refine wr_iconst C (v := nI 5) dW_marks_14 (by decide) ?_
    refine wr_icmp_ge C (tgt := 41) dW_marks_15 (by decide) (fun h1 => absurd h1 (wc_noge (by omega) (by omega) (by omega))) (fun _ => ?_)
    refine wr_aload_n C 2 dW_marks_18 rfl rfl ?_
    refine wf_WC_transactions C  (Or.inl tw_121) dW_marks_19 ?_
    refine wr_iload_n C 0 dW_marks_22 rfl rfl ?_
    refine wa_txs C (by omega) dW_marks_23 ?_
    refine wf_Tx_marks C (by omega) (Or.inr ⟨_, tw_84⟩) dW_marks_24 ?_
    refine wr_iload_n C 3 dW_marks_27 rfl rfl ?_
    refine wa_marks C (by omega) (by omega) dW_marks_28 ?_
    refine wr_if_eq C (tgt := 35) dW_marks_29 (by decide) (fun h2 => ?_) (fun h2 => ?_)
    ·
      refine wr_iinc C (v := nI (t + 1)) (vs' := [(3, .int (nI (t + 1))), (2, .int (nI a)), (0, .ref (Γ.2.2 0)), (1, .int (nI q))]) 0 dW_marks_35 rfl (wc_inc1 t) (by decide) rfl ?_
      refine wr_goto C (tgt := 13) dW_marks_38 (by decide) ?_
      refine wr_sub [0, 1, 2, 3] rfl ?_
      exact ih (t + 1) (a) (by omega) (by rw [← hres]; simp [fc_marks, *])
    ·
      refine wr_iinc C (v := nI (a + 1)) (vs' := [(2, .int (nI (a + 1))), (3, .int (nI t)), (0, .ref (Γ.2.2 0)), (1, .int (nI q))]) 1 dW_marks_32 rfl (wc_inc1 a) (by decide) rfl ?_
      refine wr_iinc C (v := nI (t + 1)) (vs' := [(3, .int (nI (t + 1))), (2, .int (nI (a + 1))), (0, .ref (Γ.2.2 0)), (1, .int (nI q))]) 1 dW_marks_35 rfl (wc_inc1 t) (by decide) rfl ?_
      refine wr_goto C (tgt := 13) dW_marks_38 (by decide) ?_
      refine wr_sub [0, 1, 2, 3] rfl ?_
      exact ih (t + 1) (a + 1) (by omega) (by rw [← hres]; simp [fc_marks, *])
set_option maxRecDepth 100000 in
set_option maxHeartbeats 4000000 in
theorem mc_marksI (l : Launch) (Γ : wc_G) (σ μ : wc_St) {q : Nat} (hq : q < 3) : wc_M l yW_marks cW_marks 4 (some .int) 2 Γ [.ref (Γ.2.2 0), .int (nI q)] σ μ (some (.int (fc_marks2 σ q))) (σ) μ := by
  refine wc_enter "WaitedCommits" (by decide) rfl (Nat.le_of_ble_eq_true rfl) ?_
  intro P0 E0 S0 M0 A0 B0 T0 K0 C hr hlk
  refine wr_vs (vs' := [(0, .ref (Γ.2.2 0)), (1, .int (nI q))]) rfl ?_
  refine wr_iload_n C 1 dW_marks_0 rfl rfl ?_
  refine wr_callS1 C (As := [.int (nI q)]) (rest := []) (mc_isSiteI l Γ σ μ (j := q) (by omega)) cb_W_isSite (Or.inl tw_140) tw_141 (by decide) (by decide) rfl rfl (Nat.le_of_ble_eq_true rfl) ⟨Nat.le_refl _, Nat.le_refl _⟩ dW_marks_1 ?_
  refine wr_if_ne C (tgt := 9) dW_marks_4 (by decide) (fun _ => ?_) (fun h1 => absurd h1 (by decide))
  refine wr_iconst C (v := nI 0) dW_marks_9 (by decide) ?_
  refine wr_istore_n C (vs' := [(2, .int (nI 0)), (0, .ref (Γ.2.2 0)), (1, .int (nI q))]) dW_marks_10 rfl (by decide) rfl ?_
  refine wr_iconst C (v := nI 0) dW_marks_11 (by decide) ?_
  refine wr_istore_n C (vs' := [(3, .int (nI 0)), (2, .int (nI 0)), (0, .ref (Γ.2.2 0)), (1, .int (nI q))]) dW_marks_12 rfl (by decide) rfl ?_
  refine wr_sub [0, 1, 2, 3] rfl ?_
  have hle := fc_marks_le (σ := σ) (p := q) 5 0 0
  generalize hr1 : fc_marks σ q 5 0 0 = r1 at hle
  refine ml_marks C hr hlk hq σ μ r1 ?_ 5 0 0 rfl hr1
  refine wr_iload_n C 1 dW_marks_41 rfl rfl ?_
  refine wr_if_ne C (tgt := 49) dW_marks_42 (by decide) (fun h2 => ?_) (fun h2 => ?_)
  ·
    rw [wc_nI0 (by omega)] at h2
    refine wr_iload_n C 1 dW_marks_49 rfl rfl ?_
    refine wr_bipush C (v := nI 8) dW_marks_50 (by decide) ?_
    refine wr_aload_n C 2 dW_marks_52 rfl rfl ?_
    refine wr_iload_n C 3 dW_marks_53 rfl rfl ?_
    refine wr_callV1 C (As := [.int (nI q)]) (rest := [.int (nI 8), .int (nI r1)]) (mc_leastMark l Γ σ μ (q := q) (by omega)) cb_W_leastMark (Or.inl tw_238) tw_239 tw_543 (by omega) (wc_c_WC) rfl (by decide) (by decide) rfl rfl (Nat.le_of_ble_eq_true rfl) ⟨Nat.le_refl _, Nat.le_refl _⟩ dW_marks_54 ?_
    refine wr_imul C (z := (nI 8) * (fc_leastMark σ q)) dW_marks_57 rfl ?_
    refine wr_iadd C (z := (nI r1) + ((nI 8) * (fc_leastMark σ q))) dW_marks_58 rfl ?_
    exact wr_iret C hr rfl hlk dW_marks_59 (by simp [fc_marks2, wc_nI0 (show r1 < 2 ^ 31 by omega), *] at *; try simp [fc_marks2, *]) (by rfl) (by rfl)
  ·
    rw [wc_nI0 (by omega)] at h2
    refine wr_iconst C (v := nI 0) dW_marks_45 (by decide) ?_
    refine wr_goto C (tgt := 59) dW_marks_46 (by decide) ?_
    exact wr_iret C hr rfl hlk dW_marks_59 (by simp [fc_marks2, wc_nI0 (show r1 < 2 ^ 31 by omega), *] at *; try simp [fc_marks2, *]) (by rfl) (by rfl)
set_option maxRecDepth 100000 in
set_option maxHeartbeats 4000000 in
theorem mc_marksO (l : Launch) (Γ : wc_G) (σ μ : wc_St) (a : Int32) (ha : a < 0 ∨ nI 3 ≤ a) : wc_M l yW_marks cW_marks 4 (some .int) 2 Γ [.ref (Γ.2.2 0), .int a] σ μ (some (.int (nI 0))) (σ) μ := by
  refine wc_enter "WaitedCommits" (by decide) rfl (Nat.le_of_ble_eq_true rfl) ?_
  intro P0 E0 S0 M0 A0 B0 T0 K0 C hr hlk
  refine wr_vs (vs' := [(0, .ref (Γ.2.2 0)), (1, .int a)]) rfl ?_
  refine wr_iload_n C 1 dW_marks_0 rfl rfl ?_
  refine wr_callS1 C (As := [.int a]) (rest := []) (mc_isSiteO l Γ σ μ a ha) cb_W_isSite (Or.inl tw_140) tw_141 (by decide) (by decide) rfl rfl (Nat.le_of_ble_eq_true rfl) ⟨Nat.le_refl _, Nat.le_refl _⟩ dW_marks_1 ?_
  refine wr_if_ne C (tgt := 9) dW_marks_4 (by decide) (fun h1 => absurd (by decide) h1) (fun _ => ?_)
  refine wr_iconst C (v := nI 0) dW_marks_7 (by decide) ?_
  exact wr_iret C hr rfl hlk dW_marks_8 (by rfl) (by rfl) (by rfl)
set_option maxRecDepth 100000 in
set_option maxHeartbeats 4000000 in
theorem mc_safeO (l : Launch) (Γ : wc_G) (σ μ : wc_St) (a : Int32) (ha : a < 0 ∨ nI 3 ≤ a) : wc_M l yW_safe cW_safe 2 (some .int) 3 Γ [.ref (Γ.2.2 0), .int a] σ μ (some (.int (-1))) (σ) μ := by
  refine wc_enter "WaitedCommits" (by decide) rfl (Nat.le_of_ble_eq_true rfl) ?_
  intro P0 E0 S0 M0 A0 B0 T0 K0 C hr hlk
  refine wr_vs (vs' := [(0, .ref (Γ.2.2 0)), (1, .int a)]) rfl ?_
  refine wr_iload_n C 1 dW_safe_0 rfl rfl ?_
  refine wr_callS1 C (As := [.int a]) (rest := []) (mc_isSiteO l Γ σ μ a ha) cb_W_isSite (Or.inl tw_140) tw_141 (by decide) (by decide) rfl rfl (Nat.le_of_ble_eq_true rfl) ⟨Nat.le_refl _, Nat.le_refl _⟩ dW_safe_1 ?_
  refine wr_if_eq C (tgt := 27) dW_safe_4 (by decide) (fun _ => ?_) (fun h1 => absurd (by decide) h1)
  refine wr_iconst C (v := -1) dW_safe_27 (by decide) ?_
  exact wr_iret C hr rfl hlk dW_safe_28 (by rfl) (by rfl) (by rfl)
set_option maxRecDepth 100000 in
set_option maxHeartbeats 4000000 in
theorem mc_safeI (l : Launch) (Γ : wc_G) (σ μ : wc_St) {q : Nat} (hq : q < 3) : wc_M l yW_safe cW_safe 2 (some .int) 3 Γ [.ref (Γ.2.2 0), .int (nI q)] σ μ (some (.int (fc_safe σ q))) (σ) μ := by
  refine wc_enter "WaitedCommits" (by decide) rfl (Nat.le_of_ble_eq_true rfl) ?_
  intro P0 E0 S0 M0 A0 B0 T0 K0 C hr hlk
  refine wr_vs (vs' := [(0, .ref (Γ.2.2 0)), (1, .int (nI q))]) rfl ?_
  refine wr_iload_n C 1 dW_safe_0 rfl rfl ?_
  refine wr_callS1 C (As := [.int (nI q)]) (rest := []) (mc_isSiteI l Γ σ μ (j := q) (by omega)) cb_W_isSite (Or.inl tw_140) tw_141 (by decide) (by decide) rfl rfl (Nat.le_of_ble_eq_true rfl) ⟨Nat.le_refl _, Nat.le_refl _⟩ dW_safe_1 ?_
  refine wr_if_eq C (tgt := 27) dW_safe_4 (by decide) (fun h1 => absurd h1 (by decide)) (fun _ => ?_)
  refine wr_aload_n C 0 dW_safe_7 rfl rfl ?_
  refine wf_WC_sites C  (Or.inl tw_119) dW_safe_8 ?_
  refine wr_iload_n C 1 dW_safe_11 rfl rfl ?_
  refine wa_sites C (by omega) dW_safe_12 ?_
  refine wf_Site_isUp C (by omega) (Or.inr ⟨_, tw_38⟩) dW_safe_13 ?_
  refine wr_if_eq C (tgt := 27) dW_safe_16 (by decide) (fun h2 => ?_) (fun h2 => ?_)
  ·
    refine wr_iconst C (v := -1) dW_safe_27 (by decide) ?_
    exact wr_iret C hr rfl hlk dW_safe_28 (by subst_vars; first | (simp [fc_safe, wc_nIe, wc_nI0, wc_nIm, *]; done) | (simp_all [fc_safe, wc_nIe, wc_nI0, wc_nIm]; done)) (by rfl) (by rfl)
  ·
    refine wr_aload_n C 0 dW_safe_19 rfl rfl ?_
    refine wr_iload_n C 1 dW_safe_20 rfl rfl ?_
    refine wr_callV1 C (As := [.int (nI q)]) (rest := []) (mc_ready l Γ σ μ (q := q) (by omega)) cb_W_greatestReadyTime (Or.inl tw_235) tw_236 tw_542 (by omega) (wc_c_WC) rfl (by decide) (by decide) rfl rfl (Nat.le_of_ble_eq_true rfl) ⟨Nat.le_refl _, Nat.le_refl _⟩ dW_safe_21 ?_
    refine wr_goto C (tgt := 28) dW_safe_24 (by decide) ?_
    exact wr_iret C hr rfl hlk dW_safe_28 (by subst_vars; first | (simp [fc_safe, wc_nIe, wc_nI0, wc_nIm, *]; done) | (simp_all [fc_safe, wc_nIe, wc_nI0, wc_nIm]; done)) (by rfl) (by rfl)
set_option maxRecDepth 100000 in
set_option maxHeartbeats 4000000 in
theorem mc_boundO (l : Launch) (Γ : wc_G) (σ μ : wc_St) (a : Int32) (ha : a < 0 ∨ nI 3 ≤ a) : wc_M l yW_bound cW_bound 2 (some .int) 1 Γ [.ref (Γ.2.2 0), .int a] σ μ (some (.int (-1))) (σ) μ := by
  refine wc_enter "WaitedCommits" (by decide) rfl (Nat.le_of_ble_eq_true rfl) ?_
  intro P0 E0 S0 M0 A0 B0 T0 K0 C hr hlk
  refine wr_vs (vs' := [(0, .ref (Γ.2.2 0)), (1, .int a)]) rfl ?_
  refine wr_iload_n C 1 dW_bound_0 rfl rfl ?_
  refine wr_callS1 C (As := [.int a]) (rest := []) (mc_isSiteO l Γ σ μ a ha) cb_W_isSite (Or.inl tw_140) tw_141 (by decide) (by decide) rfl rfl (Nat.le_of_ble_eq_true rfl) ⟨Nat.le_refl _, Nat.le_refl _⟩ dW_bound_1 ?_
  refine wr_if_eq C (tgt := 19) dW_bound_4 (by decide) (fun _ => ?_) (fun h1 => absurd (by decide) h1)
  refine wr_iconst C (v := -1) dW_bound_19 (by decide) ?_
  exact wr_iret C hr rfl hlk dW_bound_20 (by rfl) (by rfl) (by rfl)
set_option maxRecDepth 100000 in
set_option maxHeartbeats 4000000 in
theorem mc_boundI (l : Launch) (Γ : wc_G) (σ μ : wc_St) {q : Nat} (hq : q < 3) : wc_M l yW_bound cW_bound 2 (some .int) 1 Γ [.ref (Γ.2.2 0), .int (nI q)] σ μ (some (.int (σ 4 q 0))) (σ) μ := by
  refine wc_enter "WaitedCommits" (by decide) rfl (Nat.le_of_ble_eq_true rfl) ?_
  intro P0 E0 S0 M0 A0 B0 T0 K0 C hr hlk
  refine wr_vs (vs' := [(0, .ref (Γ.2.2 0)), (1, .int (nI q))]) rfl ?_
  refine wr_iload_n C 1 dW_bound_0 rfl rfl ?_
  refine wr_callS1 C (As := [.int (nI q)]) (rest := []) (mc_isSiteI l Γ σ μ (j := q) (by omega)) cb_W_isSite (Or.inl tw_140) tw_141 (by decide) (by decide) rfl rfl (Nat.le_of_ble_eq_true rfl) ⟨Nat.le_refl _, Nat.le_refl _⟩ dW_bound_1 ?_
  refine wr_if_eq C (tgt := 19) dW_bound_4 (by decide) (fun h1 => absurd h1 (by decide)) (fun _ => ?_)
  refine wr_aload_n C 0 dW_bound_7 rfl rfl ?_
  refine wf_WC_sites C  (Or.inl tw_119) dW_bound_8 ?_
  refine wr_iload_n C 1 dW_bound_11 rfl rfl ?_
  refine wa_sites C (by omega) dW_bound_12 ?_
  refine wf_Site_bound C (by omega) (Or.inr ⟨_, tw_40⟩) dW_bound_13 ?_
  refine wr_goto C (tgt := 20) dW_bound_16 (by decide) ?_
  exact wr_iret C hr rfl hlk dW_bound_20 (by rfl) (by rfl) (by rfl)
set_option maxRecDepth 100000 in
set_option maxHeartbeats 4000000 in
theorem mc_holdersO (l : Launch) (Γ : wc_G) (σ μ : wc_St) (a : Int32) (ha : a < 0 ∨ nI 9 ≤ a) : wc_M l yW_holders cW_holders 4 (some .int) 1 Γ [.ref (Γ.2.2 0), .int a] σ μ (some (.int (nI 0))) (σ) μ := by
  refine wc_enter "WaitedCommits" (by decide) rfl (Nat.le_of_ble_eq_true rfl) ?_
  intro P0 E0 S0 M0 A0 B0 T0 K0 C hr hlk
  refine wr_vs (vs' := [(0, .ref (Γ.2.2 0)), (1, .int a)]) rfl ?_
  refine wr_iload_n C 1 dW_holders_0 rfl rfl ?_
  refine wr_callS1 C (As := [.int a]) (rest := []) (mc_isKeyO l Γ σ μ a ha) cb_W_isKey (Or.inl tw_177) tw_178 (by decide) (by decide) rfl rfl (Nat.le_of_ble_eq_true rfl) ⟨Nat.le_refl _, Nat.le_refl _⟩ dW_holders_1 ?_
  refine wr_if_ne C (tgt := 9) dW_holders_4 (by decide) (fun h1 => absurd (by decide) h1) (fun _ => ?_)
  refine wr_iconst C (v := nI 0) dW_holders_7 (by decide) ?_
  exact wr_iret C hr rfl hlk dW_holders_8 (by rfl) (by rfl) (by rfl)
set_option maxRecDepth 100000 in
set_option maxHeartbeats 4000000 in
theorem ml_holders {P0 : Program} {l : Launch} {E0 : Env} {S0 : State} {M0 : MethodId} {A0 : Array Value} {B0 : List Frame} {T0 : Method} {K0 : Code} {Γ : wc_G} {A : Nat → Prop} {v : Option Value} {σ' μ' : wc_St} (C : wc_C P0 S0 M0 A0 K0 cW_holders 4 "WaitedCommits" Γ A) (hr : T0.sig.returnType = (some .int)) (hlk : T0.locks = false) {k : Nat} (hk : k < 9) (σ μ : wc_St) (hσ : σ = σ') (hμ : μ = μ') : ∀ (n : Nat) (t : Nat) (a : Int32), t + n = 5 → some (.int (fc_holders σ k n t a)) = v → wc_K P0 l E0 (wc_rm 1) S0 M0 A0 B0 T0 K0 4 Γ A (MQ B0 (wc_Qw Γ A v σ' μ') A0 S0 0 0 A) 0 0 13 [(3, .int (nI t)), (2, .int a), (0, .ref (Γ.2.2 0)), (1, .int (nI k))] [] σ μ := by
  subst hσ; subst hμ
  intro n
  induction n with
  | zero =>
    intro t a ht hv
    obtain rfl : t = 5 := by omega
    refine wr_iload_n C 0 dW_holders_13 rfl rfl ?_
    refine wr_iconst C (v := nI 5) dW_holders_14 (by decide) ?_
    refine wr_icmp_ge C (tgt := 64) dW_holders_15 (by decide) (fun _ => ?_) (fun h1 => absurd (by decide) h1)
    refine wr_iload_n C 1 dW_holders_64 rfl rfl ?_
    exact wr_iret C hr rfl hlk dW_holders_65 (by exact hv) (by rfl) (by rfl)
  | succ n ih =>
    intro t a ht hv
    refine wr_iload_n C 0 dW_holders_13 rfl rfl ?_
    refine wr_iconst C (v := nI 5) dW_holders_14 (by decide) ?_
    refine wr_icmp_ge C (tgt := 64) dW_holders_15 (by decide) (fun h1 => absurd h1 (wc_noge (by omega) (by omega) (by omega))) (fun _ => ?_)
    refine wr_aload_n C 2 dW_holders_18 rfl rfl ?_
    refine wf_WC_transactions C  (Or.inl tw_121) dW_holders_19 ?_
    refine wr_iload_n C 0 dW_holders_22 rfl rfl ?_
    refine wa_txs C (by omega) dW_holders_23 ?_
    refine wf_Tx_locks C (by omega) (Or.inr ⟨_, tw_80⟩) dW_holders_24 ?_
    refine wr_iload_n C 3 dW_holders_27 rfl rfl ?_
    refine wa_locks C (by omega) (by omega) dW_holders_28 ?_
    refine wr_if_eq C (tgt := 38) dW_holders_29 (by decide) (fun h2 => ?_) (fun h2 => ?_)
    ·
      refine wr_aload_n C 2 dW_holders_38 rfl rfl ?_
      refine wf_WC_transactions C  (Or.inl tw_121) dW_holders_39 ?_
      refine wr_iload_n C 0 dW_holders_42 rfl rfl ?_
      refine wa_txs C (by omega) dW_holders_43 ?_
      refine wf_Tx_locks C (by omega) (Or.inr ⟨_, tw_80⟩) dW_holders_44 ?_
      refine wr_iload_n C 3 dW_holders_47 rfl rfl ?_
      refine wa_locks C (by omega) (by omega) dW_holders_48 ?_
      refine wr_iconst C (v := nI 2) dW_holders_49 (by decide) ?_
      refine wr_icmp_ne C (tgt := 58) dW_holders_50 (by decide) (fun h3 => ?_) (fun h3 => ?_)
      ·
        refine wr_iinc C (v := nI (t + 1)) (vs' := [(3, .int (nI (t + 1))), (2, .int a), (0, .ref (Γ.2.2 0)), (1, .int (nI k))]) 0 dW_holders_58 rfl (wc_inc1 t) (by decide) rfl ?_
        refine wr_goto C (tgt := 13) dW_holders_61 (by decide) ?_
        refine wr_sub [0, 1, 2, 3] rfl ?_
        exact ih (t + 1) (a) (by omega) (by rw [← hv]; first | (simp [fc_holders, wc_nIe, wc_nI0, wc_0nI, *]; done) | (exfalso; simp_all [wc_nIe, wc_nI0, wc_0nI]; done))
      ·
        refine wr_iload_n C 1 dW_holders_53 rfl rfl ?_
        refine wr_bipush C (v := nI 32) dW_holders_54 (by decide) ?_
        refine wr_ior C (z := a ||| (nI 32)) dW_holders_56 rfl ?_
        refine wr_istore_n C (vs' := [(2, .int (a ||| (nI 32))), (3, .int (nI t)), (0, .ref (Γ.2.2 0)), (1, .int (nI k))]) dW_holders_57 rfl (by decide) rfl ?_
        refine wr_iinc C (v := nI (t + 1)) (vs' := [(3, .int (nI (t + 1))), (2, .int (a ||| (nI 32))), (0, .ref (Γ.2.2 0)), (1, .int (nI k))]) 1 dW_holders_58 rfl (wc_inc1 t) (by decide) rfl ?_
        refine wr_goto C (tgt := 13) dW_holders_61 (by decide) ?_
        refine wr_sub [0, 1, 2, 3] rfl ?_
        exact ih (t + 1) (a ||| (nI 32)) (by omega) (by rw [← hv]; first | (simp [fc_holders, wc_nIe, wc_nI0, wc_0nI, *]; done) | (exfalso; simp_all [wc_nIe, wc_nI0, wc_0nI]; done))
    ·
      refine wr_iload_n C 1 dW_holders_32 rfl rfl ?_
      refine wr_iconst C (v := nI 1) dW_holders_33 (by decide) ?_
      refine wr_iload_n C 0 dW_holders_34 rfl rfl ?_
      refine wr_ishl C (z := (nI 1) <<< ((nI t) &&& 31)) dW_holders_35 rfl ?_
      refine wr_ior C (z := a ||| ((nI 1) <<< ((nI t) &&& 31))) dW_holders_36 rfl ?_
      refine wr_istore_n C (vs' := [(2, .int (a ||| ((nI 1) <<< ((nI t) &&& 31)))), (3, .int (nI t)), (0, .ref (Γ.2.2 0)), (1, .int (nI k))]) dW_holders_37 rfl (by decide) rfl ?_
      refine wr_aload_n C 2 dW_holders_38 rfl rfl ?_
      refine wf_WC_transactions C  (Or.inl tw_121) dW_holders_39 ?_
      refine wr_iload_n C 1 dW_holders_42 rfl rfl ?_
      refine wa_txs C (by omega) dW_holders_43 ?_
      refine wf_Tx_locks C (by omega) (Or.inr ⟨_, tw_80⟩) dW_holders_44 ?_
      refine wr_iload_n C 3 dW_holders_47 rfl rfl ?_
      refine wa_locks C (by omega) (by omega) dW_holders_48 ?_
      refine wr_iconst C (v := nI 2) dW_holders_49 (by decide) ?_
      refine wr_icmp_ne C (tgt := 58) dW_holders_50 (by decide) (fun h4 => ?_) (fun h4 => ?_)
      ·
        refine wr_iinc C (v := nI (t + 1)) (vs' := [(3, .int (nI (t + 1))), (2, .int (a ||| ((nI 1) <<< ((nI t) &&& 31)))), (0, .ref (Γ.2.2 0)), (1, .int (nI k))]) 1 dW_holders_58 rfl (wc_inc1 t) (by decide) rfl ?_
        refine wr_goto C (tgt := 13) dW_holders_61 (by decide) ?_
        refine wr_sub [0, 1, 2, 3] rfl ?_
        exact ih (t + 1) (a ||| ((nI 1) <<< ((nI t) &&& 31))) (by omega) (by rw [← hv]; first | (simp [fc_holders, wc_nIe, wc_nI0, wc_0nI, *]; done) | (exfalso; simp_all [wc_nIe, wc_nI0, wc_0nI]; done))
      ·
        refine wr_iload_n C 0 dW_holders_53 rfl rfl ?_
        refine wr_bipush C (v := nI 32) dW_holders_54 (by decide) ?_
        refine wr_ior C (z := (a ||| ((nI 1) <<< ((nI t) &&& 31))) ||| (nI 32)) dW_holders_56 rfl ?_
        refine wr_istore_n C (vs' := [(2, .int ((a ||| ((nI 1) <<< ((nI t) &&& 31))) ||| (nI 32))), (3, .int (nI t)), (0, .ref (Γ.2.2 0)), (1, .int (nI k))]) dW_holders_57 rfl (by decide) rfl ?_
        refine wr_iinc C (v := nI (t + 1)) (vs' := [(3, .int (nI (t + 1))), (2, .int ((a ||| ((nI 1) <<< ((nI t) &&& 31))) ||| (nI 32))), (0, .ref (Γ.2.2 0)), (1, .int (nI k))]) 1 dW_holders_58 rfl (wc_inc1 t) (by decide) rfl ?_
        refine wr_goto C (tgt := 13) dW_holders_61 (by decide) ?_
        refine wr_sub [0, 1, 2, 3] rfl ?_
        exact ih (t + 1) ((a ||| ((nI 1) <<< ((nI t) &&& 31))) ||| (nI 32)) (by omega) (by rw [← hv]; first | (simp [fc_holders, wc_nIe, wc_nI0, wc_0nI, *]; done) | (exfalso; simp_all [wc_nIe, wc_nI0, wc_0nI]; done))
set_option maxRecDepth 100000 in
set_option maxHeartbeats 4000000 in
theorem mc_holdersI (l : Launch) (Γ : wc_G) (σ μ : wc_St) {k : Nat} (hk : k < 9) : wc_M l yW_holders cW_holders 4 (some .int) 1 Γ [.ref (Γ.2.2 0), .int (nI k)] σ μ (some (.int (fc_holders σ k 5 0 (nI 0)))) (σ) μ := by
  refine wc_enter "WaitedCommits" (by decide) rfl (Nat.le_of_ble_eq_true rfl) ?_
  intro P0 E0 S0 M0 A0 B0 T0 K0 C hr hlk
  refine wr_vs (vs' := [(0, .ref (Γ.2.2 0)), (1, .int (nI k))]) rfl ?_
  refine wr_iload_n C 1 dW_holders_0 rfl rfl ?_
  refine wr_callS1 C (As := [.int (nI k)]) (rest := []) (mc_isKeyI l Γ σ μ (j := k) (by omega)) cb_W_isKey (Or.inl tw_177) tw_178 (by decide) (by decide) rfl rfl (Nat.le_of_ble_eq_true rfl) ⟨Nat.le_refl _, Nat.le_refl _⟩ dW_holders_1 ?_
  refine wr_if_ne C (tgt := 9) dW_holders_4 (by decide) (fun _ => ?_) (fun h1 => absurd h1 (by decide))
  refine wr_iconst C (v := nI 0) dW_holders_9 (by decide) ?_
  refine wr_istore_n C (vs' := [(2, .int (nI 0)), (0, .ref (Γ.2.2 0)), (1, .int (nI k))]) dW_holders_10 rfl (by decide) rfl ?_
  refine wr_iconst C (v := nI 0) dW_holders_11 (by decide) ?_
  refine wr_istore_n C (vs' := [(3, .int (nI 0)), (2, .int (nI 0)), (0, .ref (Γ.2.2 0)), (1, .int (nI k))]) dW_holders_12 rfl (by decide) rfl ?_
  refine wr_sub [0, 1, 2, 3] rfl ?_
  exact ml_holders C hr hlk hk σ μ rfl rfl 5 0 (nI 0) rfl rfl
set_option maxRecDepth 100000 in
set_option maxHeartbeats 4000000 in
theorem mc_versionO (l : Launch) (Γ : wc_G) (σ μ : wc_St) (a b : Int32) (ha : a < 0 ∨ nI 9 ≤ a) : wc_M l yW_version cW_version 3 (some .int) 1 Γ [.ref (Γ.2.2 0), .int a, .int b] σ μ (some (.int (-1))) (σ) μ := by
  refine wc_enter "WaitedCommits" (by decide) rfl (Nat.le_of_ble_eq_true rfl) ?_
  intro P0 E0 S0 M0 A0 B0 T0 K0 C hr hlk
  refine wr_vs (vs' := [(0, .ref (Γ.2.2 0)), (1, .int a), (2, .int b)]) rfl ?_
  refine wr_iload_n C 1 dW_version_0 rfl rfl ?_
  refine wr_callS1 C (As := [.int a]) (rest := []) (mc_isKeyO l Γ σ μ a ha) cb_W_isKey (Or.inl tw_177) tw_178 (by decide) (by decide) rfl rfl (Nat.le_of_ble_eq_true rfl) ⟨Nat.le_refl _, Nat.le_refl _⟩ dW_version_1 ?_
  refine wr_if_eq C (tgt := 24) dW_version_4 (by decide) (fun _ => ?_) (fun h1 => absurd (by decide) h1)
  refine wr_iconst C (v := -1) dW_version_24 (by decide) ?_
  exact wr_iret C hr rfl hlk dW_version_25 (by rfl) (by rfl) (by rfl)
set_option maxRecDepth 100000 in
set_option maxHeartbeats 4000000 in
theorem mc_versionI (l : Launch) (Γ : wc_G) (σ μ : wc_St) {k : Nat} (hk : k < 9) (b : Int32) (hcnt : σ 5 k 0 ≤ nI 4) : wc_M l yW_version cW_version 3 (some .int) 1 Γ [.ref (Γ.2.2 0), .int (nI k), .int b] σ μ (some (.int (fc_version σ k b))) (σ) μ := by
  refine wc_enter "WaitedCommits" (by decide) rfl (Nat.le_of_ble_eq_true rfl) ?_
  intro P0 E0 S0 M0 A0 B0 T0 K0 C hr hlk
  refine wr_vs (vs' := [(0, .ref (Γ.2.2 0)), (1, .int (nI k)), (2, .int b)]) rfl ?_
  refine wr_iload_n C 1 dW_version_0 rfl rfl ?_
  refine wr_callS1 C (As := [.int (nI k)]) (rest := []) (mc_isKeyI l Γ σ μ (j := k) (by omega)) cb_W_isKey (Or.inl tw_177) tw_178 (by decide) (by decide) rfl rfl (Nat.le_of_ble_eq_true rfl) ⟨Nat.le_refl _, Nat.le_refl _⟩ dW_version_1 ?_
  refine wr_if_eq C (tgt := 24) dW_version_4 (by decide) (fun h1 => absurd h1 (by decide)) (fun _ => ?_)
  refine wr_iload_n C 2 dW_version_7 rfl rfl ?_
  refine wr_if_lt C (tgt := 24) dW_version_8 (by decide) (fun h2 => ?_) (fun h2 => ?_)
  ·
    refine wr_iconst C (v := -1) dW_version_24 (by decide) ?_
    exact wr_iret C hr rfl hlk dW_version_25 (by first | (simp [fc_version, *]; done) | (rw [fc_version, if_neg h2, if_pos h3, hij, nI_clamp (by omega)]; done)) (by rfl) (by rfl)
  ·
    refine wr_iload_n C 2 dW_version_11 rfl rfl ?_
    refine wr_aload_n C 0 dW_version_12 rfl rfl ?_
    refine wf_WC_keys C  (Or.inl tw_120) dW_version_13 ?_
    refine wr_iload_n C 1 dW_version_16 rfl rfl ?_
    refine wa_keys C (by omega) dW_version_17 ?_
    refine wf_Key_count C (by omega) (Or.inr ⟨_, tw_56⟩) dW_version_18 ?_
    refine wr_icmp_lt C (tgt := 26) dW_version_21 (by decide) (fun h3 => ?_) (fun h3 => ?_)
    ·
      refine wr_aload_n C 0 dW_version_26 rfl rfl ?_
      refine wf_WC_keys C  (Or.inl tw_120) dW_version_27 ?_
      refine wr_iload_n C 1 dW_version_30 rfl rfl ?_
      refine wa_keys C (by omega) dW_version_31 ?_
      refine wf_Key_stamps C (by omega) (Or.inr ⟨_, tw_54⟩) dW_version_32 ?_
      refine wr_iload_n C 2 dW_version_35 rfl rfl ?_
      obtain ⟨j, hj4, hij⟩ := wc_ix4 h2 h3 hcnt
      refine wr_top hij ?_
      refine wa_stamps C (by omega) (by omega) dW_version_36 ?_
      exact wr_iret C hr rfl hlk dW_version_37 (by first | (simp [fc_version, *]; done) | (rw [fc_version, if_neg h2, if_pos h3, hij, nI_clamp (by omega)]; done)) (by rfl) (by rfl)
    ·
      refine wr_iconst C (v := -1) dW_version_24 (by decide) ?_
      exact wr_iret C hr rfl hlk dW_version_25 (by first | (simp [fc_version, *]; done) | (rw [fc_version, if_neg h2, if_pos h3, hij, nI_clamp (by omega)]; done)) (by rfl) (by rfl)
