set_option maxRecDepth 100000 in
set_option maxHeartbeats 4000000 in
theorem mn_find {P0 : Program} {l : Launch} {E0 : Env} {S0 : State} {M0 : MethodId} {A0 : Array Value} {B0 : List Frame} {T0 : Method} {K0 : Code} {Γ : wc_G} {A : Nat → Prop} {v : Option Value} {σ' μ' : wc_St} (C : wc_C P0 S0 M0 A0 K0 cM_find 5 "WaitedCommitsModel" Γ A) (hr : T0.sig.returnType = (some .int)) (hlk : T0.locks = false) {k i0 : Nat} (hk : k < 9) (hi0 : i0 < 4) (σ μ : wc_St) (hσ : σ = σ') (hμ : μ = μ') : ∀ (n : Nat) (left : Nat), n ≤ 512 → left < 4 → some (.int (fm_find μ k n left)) = v → wc_K P0 l E0 (wc_rm 1) S0 M0 A0 B0 T0 K0 5 Γ A (MQ B0 (wc_Qw Γ A v σ' μ') A0 S0 0 0 A) 0 0 21 [(4, .int (nI n - nI 1)), (3, .int (nI left)), (0, .ref (Γ.2.2 70)), (1, .int (nI k)), (2, .int (nI i0))] [] σ μ := by
  subst hσ; subst hμ
  intro n
  induction n with
  | zero =>
    intro left hn hlf hv
    refine wr_vs (vs' := [(4, .int (-1)), (3, .int (nI left)), (0, .ref (Γ.2.2 70)), (1, .int (nI k)), (2, .int (nI i0))]) (by rw [show nI 0 - nI 1 = -1 from by decide]) ?_
    refine wr_iload C 0 dM_find_21 rfl ?_
    refine wr_if_lt C (tgt := 53) dM_find_23 (by decide) (fun _ => ?_) (fun h1 => absurd (by decide) h1)
    refine wr_iload_n C 1 dM_find_53 rfl rfl ?_
    refine wr_if_ne C (tgt := 61) dM_find_54 (by decide) (fun h2 => ?_) (fun h2 => ?_)
    ·
      rw [wc_nI0 (by omega)] at h2
      refine wr_bipush C (v := -2) dM_find_61 (by decide) ?_
      exact wr_iret C hr rfl hlk dM_find_63 (by rw [← hv]; simp [fm_find, *]) (by rfl) (by rfl)
    ·
      rw [wc_nI0 (by omega)] at h2
      refine wr_iconst C (v := -1) dM_find_57 (by decide) ?_
      refine wr_goto C (tgt := 63) dM_find_58 (by decide) ?_
      exact wr_iret C hr rfl hlk dM_find_63 (by rw [← hv]; simp [fm_find, *]) (by rfl) (by rfl)
  | succ n ih =>
    intro left hn hlf hv
    refine wr_vs (vs' := [(4, .int (nI n)), (3, .int (nI left)), (0, .ref (Γ.2.2 70)), (1, .int (nI k)), (2, .int (nI i0))]) (by rw [show nI (n + 1) - nI 1 = nI n from nI_pred n]) ?_
    refine wr_iload C 0 dM_find_21 rfl ?_
    refine wr_if_lt C (tgt := 53) dM_find_23 (by decide) (fun h1 => absurd h1 (wc_nolt0 (by omega) (by omega))) (fun _ => ?_)
    refine wr_aload_n C 2 dM_find_26 rfl rfl ?_
    refine wf_Model_versionKey C  (Or.inl tw_353) dM_find_27 ?_
    refine wr_iload C 0 dM_find_30 rfl ?_
    refine wa_m_versionKey C (by omega) dM_find_32 ?_
    refine wr_iload_n C 3 dM_find_33 rfl rfl ?_
    refine wr_icmp_ne C (tgt := 47) dM_find_34 (by decide) (fun h2 => ?_) (fun h2 => ?_)
    ·
      refine wr_iinc C (v := nI n - nI 1) (vs' := [(4, .int (nI n - nI 1)), (3, .int (nI left)), (0, .ref (Γ.2.2 70)), (1, .int (nI k)), (2, .int (nI i0))]) 0 dM_find_47 rfl (wc_dec n) (by decide) rfl ?_
      refine wr_goto C (tgt := 21) dM_find_50 (by decide) ?_
      refine wr_sub [0, 1, 2, 3, 4] rfl ?_
      exact ih (left) (by omega) (by omega) (by rw [← hv]; simp [fm_find, *])
    ·
      refine wr_iload_n C 1 dM_find_37 rfl rfl ?_
      refine wr_if_ne C (tgt := 44) dM_find_38 (by decide) (fun h3 => ?_) (fun h3 => ?_)
      ·
        rw [wc_nI0 (by omega)] at h3
        refine wr_iinc C (v := nI (left - 1)) (vs' := [(3, .int (nI (left - 1))), (4, .int (nI n)), (0, .ref (Γ.2.2 70)), (1, .int (nI k)), (2, .int (nI i0))]) 1 dM_find_44 rfl (wc_dec1 (by assumption)) (by decide) rfl ?_
        refine wr_iinc C (v := nI n - nI 1) (vs' := [(4, .int (nI n - nI 1)), (3, .int (nI (left - 1))), (0, .ref (Γ.2.2 70)), (1, .int (nI k)), (2, .int (nI i0))]) 1 dM_find_47 rfl (wc_dec n) (by decide) rfl ?_
        refine wr_goto C (tgt := 21) dM_find_50 (by decide) ?_
        refine wr_sub [0, 1, 2, 3, 4] rfl ?_
        exact ih (left - 1) (by omega) (by omega) (by rw [← hv]; simp [fm_find, *])
      ·
        rw [wc_nI0 (by omega)] at h3
        refine wr_iload C 0 dM_find_41 rfl ?_
        exact wr_iret C hr rfl hlk dM_find_43 (by rw [← hv]; simp [fm_find, *]) (by rfl) (by rfl)
set_option maxRecDepth 100000 in
set_option maxHeartbeats 4000000 in
theorem mm_findI (l : Launch) (Γ : wc_G) (σ μ : wc_St) {k i0 : Nat} (hk : k < 9) (hi0 : i0 < 4) (V : Nat) (hV : μ 37 0 0 = nI V) (hV5 : V ≤ 512) : wc_M l yM_find cM_find 5 (some .int) 1 Γ [.ref (Γ.2.2 70), .int (nI k), .int (nI i0)] σ μ (some (.int (fm_find μ k V i0))) σ (μ) := by
  refine wc_enter "WaitedCommitsModel" (by decide) rfl (Nat.le_of_ble_eq_true rfl) ?_
  intro P0 E0 S0 M0 A0 B0 T0 K0 C hr hlk
  refine wr_vs (vs' := [(0, .ref (Γ.2.2 70)), (1, .int (nI k)), (2, .int (nI i0))]) rfl ?_
  refine wr_iload_n C 2 dM_find_0 rfl rfl ?_
  refine wr_iconst C (v := nI 4) dM_find_1 (by decide) ?_
  refine wr_callS1 C (As := [.int (nI i0), .int (nI 4)]) (rest := []) (mm_inI l Γ σ μ (j := i0) (N := 4) (by omega) (by decide)) cb_M_in (Or.inl tw_399) tw_400 (by decide) (by decide) rfl rfl (Nat.le_of_ble_eq_true rfl) ⟨Nat.le_refl _, Nat.le_refl _⟩ dM_find_2 ?_
  refine wr_if_ne C (tgt := 11) dM_find_5 (by decide) (fun _ => ?_) (fun h1 => absurd h1 (by decide))
  refine wr_iload_n C 2 dM_find_11 rfl rfl ?_
  refine wr_istore_n C (vs' := [(3, .int (nI i0)), (0, .ref (Γ.2.2 70)), (1, .int (nI k)), (2, .int (nI i0))]) dM_find_12 rfl (by decide) rfl ?_
  refine wr_aload_n C 1 dM_find_13 rfl rfl ?_
  refine wf_Model_versions C  (Or.inl tw_352) dM_find_14 ?_
  refine wr_top (show μ 37 0 0 = nI V by exact hV) ?_
  refine wr_iconst C (v := nI 1) dM_find_17 (by decide) ?_
  refine wr_isub C (z := (nI V) - (nI 1)) dM_find_18 rfl ?_
  refine wr_istore C (vs' := [(4, .int ((nI V) - (nI 1))), (3, .int (nI i0)), (0, .ref (Γ.2.2 70)), (1, .int (nI k)), (2, .int (nI i0))]) dM_find_19 (by decide) rfl ?_
  refine wr_sub [0, 1, 2, 3, 4] rfl ?_
  exact mn_find C hr hlk hk hi0 σ μ rfl rfl V i0 hV5 hi0 rfl
set_option maxRecDepth 100000 in
set_option maxHeartbeats 4000000 in
theorem mm_findO (l : Launch) (Γ : wc_G) (σ μ : wc_St) {k : Nat} (a : Int32) (ha : a < 0 ∨ nI 4 ≤ a) : wc_M l yM_find cM_find 5 (some .int) 1 Γ [.ref (Γ.2.2 70), .int (nI k), .int a] σ μ (some (.int (-2))) σ (μ) := by
  refine wc_enter "WaitedCommitsModel" (by decide) rfl (Nat.le_of_ble_eq_true rfl) ?_
  intro P0 E0 S0 M0 A0 B0 T0 K0 C hr hlk
  refine wr_vs (vs' := [(0, .ref (Γ.2.2 70)), (1, .int (nI k)), (2, .int a)]) rfl ?_
  refine wr_iload_n C 2 dM_find_0 rfl rfl ?_
  refine wr_iconst C (v := nI 4) dM_find_1 (by decide) ?_
  refine wr_callS1 C (As := [.int a, .int (nI 4)]) (rest := []) (mm_inO l Γ σ μ a (N := 4) ha) cb_M_in (Or.inl tw_399) tw_400 (by decide) (by decide) rfl rfl (Nat.le_of_ble_eq_true rfl) ⟨Nat.le_refl _, Nat.le_refl _⟩ dM_find_2 ?_
  refine wr_if_ne C (tgt := 11) dM_find_5 (by decide) (fun h1 => absurd (by decide) h1) (fun _ => ?_)
  refine wr_bipush C (v := -2) dM_find_8 (by decide) ?_
  exact wr_iret C hr rfl hlk dM_find_10 (by rfl) (by rfl) (by rfl)
set_option maxRecDepth 100000 in
set_option maxHeartbeats 4000000 in
theorem mm_beginI (l : Launch) (Γ : wc_G) (σ μ : wc_St) {t : Nat} (ht : t < 5) : wc_M l yM_begin cM_begin 2 (some .boolean) 2 Γ [.ref (Γ.2.2 70), .int (nI t)] σ μ (some (.int ((fm_begin2 μ t).1))) σ ((fm_begin2 μ t).2) := by
  refine wc_enter "WaitedCommitsModel" (by decide) rfl (Nat.le_of_ble_eq_true rfl) ?_
  intro P0 E0 S0 M0 A0 B0 T0 K0 C hr hlk
  refine wr_vs (vs' := [(0, .ref (Γ.2.2 70)), (1, .int (nI t))]) rfl ?_
  have hle := fm_least_le μ t
  refine wr_iload_n C 1 dM_begin_0 rfl rfl ?_
  refine wr_iconst C (v := nI 5) dM_begin_1 (by decide) ?_
  refine wr_callS1 C (As := [.int (nI t), .int (nI 5)]) (rest := []) (mm_inI l Γ σ μ (j := t) (N := 5) (by omega) (by decide)) cb_M_in (Or.inl tw_399) tw_400 (by decide) (by decide) rfl rfl (Nat.le_of_ble_eq_true rfl) ⟨Nat.le_refl _, Nat.le_refl _⟩ dM_begin_2 ?_
  refine wr_if_eq C (tgt := 42) dM_begin_5 (by decide) (fun h1 => absurd h1 (by decide)) (fun _ => ?_)
  refine wr_aload_n C 0 dM_begin_8 rfl rfl ?_
  refine wf_Model_state C  (Or.inl tw_357) dM_begin_9 ?_
  refine wr_iload_n C 1 dM_begin_12 rfl rfl ?_
  refine wa_m_state C (by omega) dM_begin_13 ?_
  refine wr_iconst C (v := nI 1) dM_begin_14 (by decide) ?_
  refine wr_isub C (z := (μ 42 0 t) - (nI 1)) dM_begin_15 rfl ?_
  refine wr_iconst C (v := nI 3) dM_begin_16 (by decide) ?_
  refine wr_callS1 C (As := [.int ((μ 42 0 t) - (nI 1)), .int (nI 3)]) (rest := []) (mm_inN l Γ σ μ ((μ 42 0 t) - (nI 1)) 3) cb_M_in (Or.inl tw_399) tw_400 (by decide) (by decide) rfl rfl (Nat.le_of_ble_eq_true rfl) ⟨Nat.le_refl _, Nat.le_refl _⟩ dM_begin_17 ?_
  refine wr_if_ne C (tgt := 42) dM_begin_20 (by decide) (fun h2 => ?_) (fun h2 => ?_)
  ·
    refine wr_iconst C (v := nI 0) dM_begin_42 (by decide) ?_
    exact wr_iret C hr rfl hlk dM_begin_43 (by subst_vars; first | (simp [fm_begin2, wc_nIe, wc_nI0, wc_nIm, *]; done) | (simp_all [fm_begin2, wc_nIe, wc_nI0, wc_nIm]; done)) (by first | rfl | (subst_vars; first | (simp [fm_begin2, fm_begin, *]; done) | (simp_all [fm_begin2, fm_begin]; done))) (by first | rfl | (subst_vars; first | (simp [fm_begin2, fm_begin, *]; done) | (simp_all [fm_begin2, fm_begin]; done)))
  ·
    refine wr_aload_n C 0 dM_begin_23 rfl rfl ?_
    refine wf_Model_state C  (Or.inl tw_357) dM_begin_24 ?_
    refine wr_iload_n C 1 dM_begin_27 rfl rfl ?_
    refine wa_m_state C (by omega) dM_begin_28 ?_
    refine wr_iconst C (v := nI 4) dM_begin_29 (by decide) ?_
    refine wr_icmp_ne C (tgt := 44) dM_begin_30 (by decide) (fun h3 => ?_) (fun h3 => ?_)
    ·
      refine wr_aload_n C 0 dM_begin_44 rfl rfl ?_
      refine wr_iload_n C 1 dM_begin_45 rfl rfl ?_
      refine wr_callV0 C (As := [.int (nI t)]) (rest := []) (mm_forget l Γ σ μ (t := t) (by omega)) cb_M_forget (Or.inl tw_420) tw_421 tw_561 (by omega) (wc_c_Model) rfl (by decide) (by decide) rfl rfl (Nat.le_of_ble_eq_true rfl) ⟨Nat.le_refl _, Nat.le_refl _⟩ dM_begin_46 ?_
      generalize hs1 : fm_forget 9 (9 * t) μ = μ1
      refine wr_aload_n C 0 dM_begin_49 rfl rfl ?_
      refine wf_Model_state C  (Or.inl tw_357) dM_begin_50 ?_
      refine wr_iload_n C 1 dM_begin_53 rfl rfl ?_
      refine wr_iconst C (v := nI 1) dM_begin_54 (by decide) ?_
      refine ws_m_state C (by omega) dM_begin_55 ?_
      generalize hs2 : wc_st μ1 42 0 t (nI 1) = μ2
      refine wr_aload_n C 0 dM_begin_56 rfl rfl ?_
      refine wr_dup C dM_begin_57 rfl ?_
      refine wf_Model_begun C  (Or.inl tw_356) dM_begin_58 ?_
      refine wr_iconst C (v := nI 1) dM_begin_61 (by decide) ?_
      refine wr_iadd C (z := (μ2 41 0 0) + (nI 1)) dM_begin_62 rfl ?_
      refine wp_Model_begun C  (Or.inl tw_356) dM_begin_63 ?_
      generalize hs3 : wc_st μ2 41 0 0 ((μ2 41 0 0) + (nI 1)) = μ3
      refine wr_aload_n C 0 dM_begin_66 rfl rfl ?_
      refine wf_Model_age C  (Or.inl tw_358) dM_begin_67 ?_
      refine wr_iload_n C 1 dM_begin_70 rfl rfl ?_
      refine wr_aload_n C 0 dM_begin_71 rfl rfl ?_
      refine wf_Model_begun C  (Or.inl tw_356) dM_begin_72 ?_
      refine ws_m_age C (by omega) dM_begin_75 ?_
      generalize hs4 : wc_st μ3 43 0 t (μ3 41 0 0) = μ4
      refine wr_iconst C (v := nI 1) dM_begin_76 (by decide) ?_
      exact wr_iret C hr rfl hlk dM_begin_77 (by subst_vars; first | (simp [fm_begin2, wc_nIe, wc_nI0, wc_nIm, *]; done) | (simp_all [fm_begin2, wc_nIe, wc_nI0, wc_nIm]; done)) (by first | rfl | (subst_vars; first | (simp [fm_begin2, fm_begin, *]; done) | (simp_all [fm_begin2, fm_begin]; done))) (by first | rfl | (subst_vars; first | (simp [fm_begin2, fm_begin, *]; done) | (simp_all [fm_begin2, fm_begin]; done)))
    ·
      refine wr_aload_n C 0 dM_begin_33 rfl rfl ?_
      refine wr_iload_n C 1 dM_begin_34 rfl rfl ?_
      refine wr_callV1 C (As := [.int (nI t)]) (rest := []) (mm_least l Γ σ μ (t := t) (by omega)) cb_M_least (Or.inl tw_414) tw_415 tw_559 (by omega) (wc_c_Model) rfl (by decide) (by decide) rfl rfl (Nat.le_of_ble_eq_true rfl) ⟨Nat.le_refl _, Nat.le_refl _⟩ dM_begin_35 ?_
      have hle3_4 := fm_least_le μ t
      refine wr_iconst C (v := nI 3) dM_begin_38 (by decide) ?_
      refine wr_icmp_ge C (tgt := 44) dM_begin_39 (by decide) (fun h4 => ?_) (fun h4 => ?_)
      ·
        rw [nI_leI (by omega) (by omega)] at h4
        refine wr_aload_n C 0 dM_begin_44 rfl rfl ?_
        refine wr_iload_n C 1 dM_begin_45 rfl rfl ?_
        refine wr_callV0 C (As := [.int (nI t)]) (rest := []) (mm_forget l Γ σ μ (t := t) (by omega)) cb_M_forget (Or.inl tw_420) tw_421 tw_561 (by omega) (wc_c_Model) rfl (by decide) (by decide) rfl rfl (Nat.le_of_ble_eq_true rfl) ⟨Nat.le_refl _, Nat.le_refl _⟩ dM_begin_46 ?_
        generalize hs5 : fm_forget 9 (9 * t) μ = μ5
        refine wr_aload_n C 0 dM_begin_49 rfl rfl ?_
        refine wf_Model_state C  (Or.inl tw_357) dM_begin_50 ?_
        refine wr_iload_n C 1 dM_begin_53 rfl rfl ?_
        refine wr_iconst C (v := nI 1) dM_begin_54 (by decide) ?_
        refine ws_m_state C (by omega) dM_begin_55 ?_
        generalize hs6 : wc_st μ5 42 0 t (nI 1) = μ6
        refine wr_aload_n C 0 dM_begin_56 rfl rfl ?_
        refine wr_dup C dM_begin_57 rfl ?_
        refine wf_Model_begun C  (Or.inl tw_356) dM_begin_58 ?_
        refine wr_iconst C (v := nI 1) dM_begin_61 (by decide) ?_
        refine wr_iadd C (z := (μ6 41 0 0) + (nI 1)) dM_begin_62 rfl ?_
        refine wp_Model_begun C  (Or.inl tw_356) dM_begin_63 ?_
        generalize hs7 : wc_st μ6 41 0 0 ((μ6 41 0 0) + (nI 1)) = μ7
        refine wr_aload_n C 0 dM_begin_66 rfl rfl ?_
        refine wf_Model_age C  (Or.inl tw_358) dM_begin_67 ?_
        refine wr_iload_n C 1 dM_begin_70 rfl rfl ?_
        refine wr_aload_n C 0 dM_begin_71 rfl rfl ?_
        refine wf_Model_begun C  (Or.inl tw_356) dM_begin_72 ?_
        refine ws_m_age C (by omega) dM_begin_75 ?_
        generalize hs8 : wc_st μ7 43 0 t (μ7 41 0 0) = μ8
        refine wr_iconst C (v := nI 1) dM_begin_76 (by decide) ?_
        exact wr_iret C hr rfl hlk dM_begin_77 (by subst_vars; first | (simp [fm_begin2, wc_nIe, wc_nI0, wc_nIm, *]; done) | (simp_all [fm_begin2, wc_nIe, wc_nI0, wc_nIm]; done)) (by first | rfl | (subst_vars; first | (simp [fm_begin2, fm_begin, *]; done) | (simp_all [fm_begin2, fm_begin]; done))) (by first | rfl | (subst_vars; first | (simp [fm_begin2, fm_begin, *]; done) | (simp_all [fm_begin2, fm_begin]; done)))
      ·
        rw [nI_leI (by omega) (by omega)] at h4
        refine wr_iconst C (v := nI 0) dM_begin_42 (by decide) ?_
        exact wr_iret C hr rfl hlk dM_begin_43 (by subst_vars; first | (simp [fm_begin2, wc_nIe, wc_nI0, wc_nIm, *]; done) | (simp_all [fm_begin2, wc_nIe, wc_nI0, wc_nIm]; done)) (by first | rfl | (subst_vars; first | (simp [fm_begin2, fm_begin, *]; done) | (simp_all [fm_begin2, fm_begin]; done))) (by first | rfl | (subst_vars; first | (simp [fm_begin2, fm_begin, *]; done) | (simp_all [fm_begin2, fm_begin]; done)))
set_option maxRecDepth 100000 in
set_option maxHeartbeats 4000000 in
theorem mm_beginO (l : Launch) (Γ : wc_G) (σ μ : wc_St) (a : Int32) (ha : a < 0 ∨ nI 5 ≤ a) : wc_M l yM_begin cM_begin 2 (some .boolean) 2 Γ [.ref (Γ.2.2 70), .int a] σ μ (some (.int (nI 0))) σ (μ) := by
  refine wc_enter "WaitedCommitsModel" (by decide) rfl (Nat.le_of_ble_eq_true rfl) ?_
  intro P0 E0 S0 M0 A0 B0 T0 K0 C hr hlk
  refine wr_vs (vs' := [(0, .ref (Γ.2.2 70)), (1, .int a)]) rfl ?_
  refine wr_iload_n C 1 dM_begin_0 rfl rfl ?_
  refine wr_iconst C (v := nI 5) dM_begin_1 (by decide) ?_
  refine wr_callS1 C (As := [.int a, .int (nI 5)]) (rest := []) (mm_inO l Γ σ μ a (N := 5) ha) cb_M_in (Or.inl tw_399) tw_400 (by decide) (by decide) rfl rfl (Nat.le_of_ble_eq_true rfl) ⟨Nat.le_refl _, Nat.le_refl _⟩ dM_begin_2 ?_
  refine wr_if_eq C (tgt := 42) dM_begin_5 (by decide) (fun _ => ?_) (fun h1 => absurd (by decide) h1)
  refine wr_iconst C (v := nI 0) dM_begin_42 (by decide) ?_
  exact wr_iret C hr rfl hlk dM_begin_43 (by rfl) (by rfl) (by rfl)
set_option maxRecDepth 100000 in
set_option maxHeartbeats 4000000 in
theorem mm_clockO (l : Launch) (Γ : wc_G) (σ μ : wc_St) (a : Int32) (ha : a < 0 ∨ nI 3 ≤ a) (b d : Int32) : wc_M l yM_clock cM_clock 4 (some .boolean) 1 Γ [.ref (Γ.2.2 70), .int a, .int b, .int d] σ μ (some (.int (nI 0))) σ (μ) := by
  refine wc_enter "WaitedCommitsModel" (by decide) rfl (Nat.le_of_ble_eq_true rfl) ?_
  intro P0 E0 S0 M0 A0 B0 T0 K0 C hr hlk
  refine wr_vs (vs' := [(0, .ref (Γ.2.2 70)), (1, .int a), (2, .int b), (3, .int d)]) rfl ?_
  refine wr_iload_n C 1 dM_clock_0 rfl rfl ?_
  refine wr_iconst C (v := nI 3) dM_clock_1 (by decide) ?_
  refine wr_callS1 C (As := [.int a, .int (nI 3)]) (rest := []) (mm_inO l Γ σ μ a (N := 3) ha) cb_M_in (Or.inl tw_399) tw_400 (by decide) (by decide) rfl rfl (Nat.le_of_ble_eq_true rfl) ⟨Nat.le_refl _, Nat.le_refl _⟩ dM_clock_2 ?_
  refine wr_if_eq C (tgt := 34) dM_clock_5 (by decide) (fun _ => ?_) (fun h1 => absurd (by decide) h1)
  refine wr_iconst C (v := nI 0) dM_clock_34 (by decide) ?_
  exact wr_iret C hr rfl hlk dM_clock_35 (by rfl) (by rfl) (by rfl)
set_option maxRecDepth 100000 in
set_option maxHeartbeats 4000000 in
theorem mm_clockI (l : Launch) (Γ : wc_G) (σ μ : wc_St) {q : Nat} (hq : q < 3) (b d : Int32) : wc_M l yM_clock cM_clock 4 (some .boolean) 1 Γ [.ref (Γ.2.2 70), .int (nI q), .int b, .int d] σ μ (some (.int ((fm_clock μ q b d).1))) σ ((fm_clock μ q b d).2) := by
  refine wc_enter "WaitedCommitsModel" (by decide) rfl (Nat.le_of_ble_eq_true rfl) ?_
  intro P0 E0 S0 M0 A0 B0 T0 K0 C hr hlk
  refine wr_vs (vs' := [(0, .ref (Γ.2.2 70)), (1, .int (nI q)), (2, .int b), (3, .int d)]) rfl ?_
  refine wr_iload_n C 1 dM_clock_0 rfl rfl ?_
  refine wr_iconst C (v := nI 3) dM_clock_1 (by decide) ?_
  refine wr_callS1 C (As := [.int (nI q), .int (nI 3)]) (rest := []) (mm_inI l Γ σ μ (j := q) (N := 3) (by omega) (by decide)) cb_M_in (Or.inl tw_399) tw_400 (by decide) (by decide) rfl rfl (Nat.le_of_ble_eq_true rfl) ⟨Nat.le_refl _, Nat.le_refl _⟩ dM_clock_2 ?_
  refine wr_if_eq C (tgt := 34) dM_clock_5 (by decide) (fun h1 => absurd h1 (by decide)) (fun _ => ?_)
  refine wr_iload_n C 2 dM_clock_8 rfl rfl ?_
  refine wr_aload_n C 0 dM_clock_9 rfl rfl ?_
  refine wf_Model_e C  (Or.inl tw_345) dM_clock_10 ?_
  refine wr_iconst C (v := nI 1) dM_clock_13 (by decide) ?_
  refine wr_iadd C (z := (μ 30 0 0) + (nI 1)) dM_clock_14 rfl ?_
  refine wr_callS1 C (As := [.int b, .int ((μ 30 0 0) + (nI 1))]) (rest := []) (mm_in l Γ σ μ b ((μ 30 0 0) + (nI 1))) cb_M_in (Or.inl tw_399) tw_400 (by decide) (by decide) rfl rfl (Nat.le_of_ble_eq_true rfl) ⟨Nat.le_refl _, Nat.le_refl _⟩ dM_clock_15 ?_
  refine wr_if_eq C (tgt := 34) dM_clock_18 (by decide) (fun h2 => ?_) (fun h2 => ?_)
  ·
    refine wr_iconst C (v := nI 0) dM_clock_34 (by decide) ?_
    exact wr_iret C hr rfl hlk dM_clock_35 (by subst_vars; first | (simp [fm_clock, wc_nIe, wc_nI0, wc_nIm, *]; done) | (simp_all [fm_clock, wc_nIe, wc_nI0, wc_nIm]; done)) (by first | rfl | (subst_vars; first | (simp [fm_clock, wc_nIe, wc_nI0, wc_nIm, *]; done) | (simp_all [fm_clock, wc_nIe, wc_nI0, wc_nIm]; done))) (by first | rfl | (subst_vars; first | (simp [fm_clock, wc_nIe, wc_nI0, wc_nIm, *]; done) | (simp_all [fm_clock, wc_nIe, wc_nI0, wc_nIm]; done)))
  ·
    refine wr_iload_n C 3 dM_clock_21 rfl rfl ?_
    refine wr_aload_n C 0 dM_clock_22 rfl rfl ?_
    refine wf_Model_e C  (Or.inl tw_345) dM_clock_23 ?_
    refine wr_iconst C (v := nI 1) dM_clock_26 (by decide) ?_
    refine wr_iadd C (z := (μ 30 0 0) + (nI 1)) dM_clock_27 rfl ?_
    refine wr_callS1 C (As := [.int d, .int ((μ 30 0 0) + (nI 1))]) (rest := []) (mm_in l Γ σ μ d ((μ 30 0 0) + (nI 1))) cb_M_in (Or.inl tw_399) tw_400 (by decide) (by decide) rfl rfl (Nat.le_of_ble_eq_true rfl) ⟨Nat.le_refl _, Nat.le_refl _⟩ dM_clock_28 ?_
    refine wr_if_ne C (tgt := 36) dM_clock_31 (by decide) (fun h3 => ?_) (fun h3 => ?_)
    ·
      refine wr_aload_n C 0 dM_clock_36 rfl rfl ?_
      refine wf_Model_early C  (Or.inl tw_347) dM_clock_37 ?_
      refine wr_iload_n C 1 dM_clock_40 rfl rfl ?_
      refine wr_iload_n C 2 dM_clock_41 rfl rfl ?_
      refine ws_m_early C (by omega) dM_clock_42 ?_
      generalize hs1 : wc_st μ 32 0 q b = μ1
      refine wr_aload_n C 0 dM_clock_43 rfl rfl ?_
      refine wf_Model_late C  (Or.inl tw_348) dM_clock_44 ?_
      refine wr_iload_n C 1 dM_clock_47 rfl rfl ?_
      refine wr_iload_n C 3 dM_clock_48 rfl rfl ?_
      refine ws_m_late C (by omega) dM_clock_49 ?_
      generalize hs2 : wc_st μ1 33 0 q d = μ2
      refine wr_iconst C (v := nI 1) dM_clock_50 (by decide) ?_
      exact wr_iret C hr rfl hlk dM_clock_51 (by subst_vars; first | (simp [fm_clock, wc_nIe, wc_nI0, wc_nIm, *]; done) | (simp_all [fm_clock, wc_nIe, wc_nI0, wc_nIm]; done)) (by first | rfl | (subst_vars; first | (simp [fm_clock, wc_nIe, wc_nI0, wc_nIm, *]; done) | (simp_all [fm_clock, wc_nIe, wc_nI0, wc_nIm]; done))) (by first | rfl | (subst_vars; first | (simp [fm_clock, wc_nIe, wc_nI0, wc_nIm, *]; done) | (simp_all [fm_clock, wc_nIe, wc_nI0, wc_nIm]; done)))
    ·
      refine wr_iconst C (v := nI 0) dM_clock_34 (by decide) ?_
      exact wr_iret C hr rfl hlk dM_clock_35 (by subst_vars; first | (simp [fm_clock, wc_nIe, wc_nI0, wc_nIm, *]; done) | (simp_all [fm_clock, wc_nIe, wc_nI0, wc_nIm]; done)) (by first | rfl | (subst_vars; first | (simp [fm_clock, wc_nIe, wc_nI0, wc_nIm, *]; done) | (simp_all [fm_clock, wc_nIe, wc_nI0, wc_nIm]; done))) (by first | rfl | (subst_vars; first | (simp [fm_clock, wc_nIe, wc_nI0, wc_nIm, *]; done) | (simp_all [fm_clock, wc_nIe, wc_nI0, wc_nIm]; done)))
set_option maxRecDepth 100000 in
set_option maxHeartbeats 4000000 in
theorem mm_delayO (l : Launch) (Γ : wc_G) (σ μ : wc_St) (a : Int32) (ha : a < 0 ∨ nI 3 ≤ a) (b : Int32) : wc_M l yM_delay cM_delay 3 (some .boolean) 1 Γ [.ref (Γ.2.2 70), .int a, .int b] σ μ (some (.int (nI 0))) σ (μ) := by
  refine wc_enter "WaitedCommitsModel" (by decide) rfl (Nat.le_of_ble_eq_true rfl) ?_
  intro P0 E0 S0 M0 A0 B0 T0 K0 C hr hlk
  refine wr_vs (vs' := [(0, .ref (Γ.2.2 70)), (1, .int a), (2, .int b)]) rfl ?_
  refine wr_iload_n C 1 dM_delay_0 rfl rfl ?_
  refine wr_iconst C (v := nI 3) dM_delay_1 (by decide) ?_
  refine wr_callS1 C (As := [.int a, .int (nI 3)]) (rest := []) (mm_inO l Γ σ μ a (N := 3) ha) cb_M_in (Or.inl tw_399) tw_400 (by decide) (by decide) rfl rfl (Nat.le_of_ble_eq_true rfl) ⟨Nat.le_refl _, Nat.le_refl _⟩ dM_delay_2 ?_
  refine wr_if_eq C (tgt := 17) dM_delay_5 (by decide) (fun _ => ?_) (fun h1 => absurd (by decide) h1)
  refine wr_iconst C (v := nI 0) dM_delay_17 (by decide) ?_
  exact wr_iret C hr rfl hlk dM_delay_18 (by rfl) (by rfl) (by rfl)
set_option maxRecDepth 100000 in
set_option maxHeartbeats 4000000 in
theorem mm_delayI (l : Launch) (Γ : wc_G) (σ μ : wc_St) {q : Nat} (hq : q < 3) (b : Int32) : wc_M l yM_delay cM_delay 3 (some .boolean) 1 Γ [.ref (Γ.2.2 70), .int (nI q), .int b] σ μ (some (.int ((fm_delay μ q b).1))) σ ((fm_delay μ q b).2) := by
  refine wc_enter "WaitedCommitsModel" (by decide) rfl (Nat.le_of_ble_eq_true rfl) ?_
  intro P0 E0 S0 M0 A0 B0 T0 K0 C hr hlk
  refine wr_vs (vs' := [(0, .ref (Γ.2.2 70)), (1, .int (nI q)), (2, .int b)]) rfl ?_
  refine wr_iload_n C 1 dM_delay_0 rfl rfl ?_
  refine wr_iconst C (v := nI 3) dM_delay_1 (by decide) ?_
  refine wr_callS1 C (As := [.int (nI q), .int (nI 3)]) (rest := []) (mm_inI l Γ σ μ (j := q) (N := 3) (by omega) (by decide)) cb_M_in (Or.inl tw_399) tw_400 (by decide) (by decide) rfl rfl (Nat.le_of_ble_eq_true rfl) ⟨Nat.le_refl _, Nat.le_refl _⟩ dM_delay_2 ?_
  refine wr_if_eq C (tgt := 17) dM_delay_5 (by decide) (fun h1 => absurd h1 (by decide)) (fun _ => ?_)
  refine wr_iload_n C 2 dM_delay_8 rfl rfl ?_
  refine wr_bipush C (v := nI 10) dM_delay_9 (by decide) ?_
  refine wr_callS1 C (As := [.int b, .int (nI 10)]) (rest := []) (mm_inN l Γ σ μ b 10) cb_M_in (Or.inl tw_399) tw_400 (by decide) (by decide) rfl rfl (Nat.le_of_ble_eq_true rfl) ⟨Nat.le_refl _, Nat.le_refl _⟩ dM_delay_11 ?_
  refine wr_if_ne C (tgt := 19) dM_delay_14 (by decide) (fun h2 => ?_) (fun h2 => ?_)
  ·
    refine wr_aload_n C 0 dM_delay_19 rfl rfl ?_
    refine wf_Model_slow C  (Or.inl tw_349) dM_delay_20 ?_
    refine wr_iload_n C 1 dM_delay_23 rfl rfl ?_
    refine wr_iload_n C 2 dM_delay_24 rfl rfl ?_
    refine ws_m_slow C (by omega) dM_delay_25 ?_
    generalize hs1 : wc_st μ 34 0 q b = μ1
    refine wr_iconst C (v := nI 1) dM_delay_26 (by decide) ?_
    exact wr_iret C hr rfl hlk dM_delay_27 (by subst_vars; first | (simp [fm_delay, wc_nIe, wc_nI0, wc_nIm, *]; done) | (simp_all [fm_delay, wc_nIe, wc_nI0, wc_nIm]; done)) (by first | rfl | (subst_vars; first | (simp [fm_delay, wc_nIe, wc_nI0, wc_nIm, *]; done) | (simp_all [fm_delay, wc_nIe, wc_nI0, wc_nIm]; done))) (by first | rfl | (subst_vars; first | (simp [fm_delay, wc_nIe, wc_nI0, wc_nIm, *]; done) | (simp_all [fm_delay, wc_nIe, wc_nI0, wc_nIm]; done)))
  ·
    refine wr_iconst C (v := nI 0) dM_delay_17 (by decide) ?_
    exact wr_iret C hr rfl hlk dM_delay_18 (by subst_vars; first | (simp [fm_delay, wc_nIe, wc_nI0, wc_nIm, *]; done) | (simp_all [fm_delay, wc_nIe, wc_nI0, wc_nIm]; done)) (by first | rfl | (subst_vars; first | (simp [fm_delay, wc_nIe, wc_nI0, wc_nIm, *]; done) | (simp_all [fm_delay, wc_nIe, wc_nI0, wc_nIm]; done))) (by first | rfl | (subst_vars; first | (simp [fm_delay, wc_nIe, wc_nI0, wc_nIm, *]; done) | (simp_all [fm_delay, wc_nIe, wc_nI0, wc_nIm]; done)))
set_option maxRecDepth 100000 in
set_option maxHeartbeats 4000000 in
theorem mm_powerO (l : Launch) (Γ : wc_G) (σ μ : wc_St) (a : Int32) (ha : a < 0 ∨ nI 3 ≤ a) (b : Int32) : wc_M l yM_power cM_power 3 (some .boolean) 1 Γ [.ref (Γ.2.2 70), .int a, .int b] σ μ (some (.int (nI 0))) σ (μ) := by
  refine wc_enter "WaitedCommitsModel" (by decide) rfl (Nat.le_of_ble_eq_true rfl) ?_
  intro P0 E0 S0 M0 A0 B0 T0 K0 C hr hlk
  refine wr_vs (vs' := [(0, .ref (Γ.2.2 70)), (1, .int a), (2, .int b)]) rfl ?_
  refine wr_iload_n C 1 dM_power_0 rfl rfl ?_
  refine wr_iconst C (v := nI 3) dM_power_1 (by decide) ?_
  refine wr_callS1 C (As := [.int a, .int (nI 3)]) (rest := []) (mm_inO l Γ σ μ a (N := 3) ha) cb_M_in (Or.inl tw_399) tw_400 (by decide) (by decide) rfl rfl (Nat.le_of_ble_eq_true rfl) ⟨Nat.le_refl _, Nat.le_refl _⟩ dM_power_2 ?_
  refine wr_if_eq C (tgt := 18) dM_power_5 (by decide) (fun _ => ?_) (fun h1 => absurd (by decide) h1)
  refine wr_iconst C (v := nI 0) dM_power_18 (by decide) ?_
  exact wr_iret C hr rfl hlk dM_power_19 (by rfl) (by rfl) (by rfl)
set_option maxRecDepth 100000 in
set_option maxHeartbeats 4000000 in
theorem mm_powerI (l : Launch) (Γ : wc_G) (σ μ : wc_St) {q : Nat} (hq : q < 3) (b : Int32) : wc_M l yM_power cM_power 3 (some .boolean) 1 Γ [.ref (Γ.2.2 70), .int (nI q), .int b] σ μ (some (.int ((fm_power μ q b).1))) σ ((fm_power μ q b).2) := by
  refine wc_enter "WaitedCommitsModel" (by decide) rfl (Nat.le_of_ble_eq_true rfl) ?_
  intro P0 E0 S0 M0 A0 B0 T0 K0 C hr hlk
  refine wr_vs (vs' := [(0, .ref (Γ.2.2 70)), (1, .int (nI q)), (2, .int b)]) rfl ?_
  refine wr_iload_n C 1 dM_power_0 rfl rfl ?_
  refine wr_iconst C (v := nI 3) dM_power_1 (by decide) ?_
  refine wr_callS1 C (As := [.int (nI q), .int (nI 3)]) (rest := []) (mm_inI l Γ σ μ (j := q) (N := 3) (by omega) (by decide)) cb_M_in (Or.inl tw_399) tw_400 (by decide) (by decide) rfl rfl (Nat.le_of_ble_eq_true rfl) ⟨Nat.le_refl _, Nat.le_refl _⟩ dM_power_2 ?_
  refine wr_if_eq C (tgt := 18) dM_power_5 (by decide) (fun h1 => absurd h1 (by decide)) (fun _ => ?_)
  refine wr_aload_n C 0 dM_power_8 rfl rfl ?_
  refine wf_Model_down C  (Or.inl tw_350) dM_power_9 ?_
  refine wr_iload_n C 1 dM_power_12 rfl rfl ?_
  refine wa_m_down C (by omega) dM_power_13 ?_
  refine wr_iload_n C 2 dM_power_14 rfl rfl ?_
  refine wr_icmp_eq C (tgt := 20) dM_power_15 (by decide) (fun h2 => ?_) (fun h2 => ?_)
  ·
    refine wr_aload_n C 0 dM_power_20 rfl rfl ?_
    refine wf_Model_down C  (Or.inl tw_350) dM_power_21 ?_
    refine wr_iload_n C 1 dM_power_24 rfl rfl ?_
    refine wr_iload_n C 2 dM_power_25 rfl rfl ?_
    refine wr_if_ne C (tgt := 33) dM_power_26 (by decide) (fun h3 => ?_) (fun h3 => ?_)
    ·
      refine wr_iconst C (v := nI 0) dM_power_33 (by decide) ?_
      refine ws_m_down C (by decide) (by omega) dM_power_34 ?_
      generalize hs1 : wc_st μ 35 0 q (nI 0) = μ1
      refine wr_iconst C (v := nI 1) dM_power_35 (by decide) ?_
      exact wr_iret C hr rfl hlk dM_power_36 (by subst_vars; first | (simp [fm_power, wc_nIe, wc_nI0, wc_nIm, *]; done) | (simp_all [fm_power, wc_nIe, wc_nI0, wc_nIm]; done)) (by first | rfl | (subst_vars; first | (simp [fm_power, wc_nIe, wc_nI0, wc_nIm, *]; done) | (simp_all [fm_power, wc_nIe, wc_nI0, wc_nIm]; done))) (by first | rfl | (subst_vars; first | (simp [fm_power, wc_nIe, wc_nI0, wc_nIm, *]; done) | (simp_all [fm_power, wc_nIe, wc_nI0, wc_nIm]; done)))
    ·
      refine wr_iconst C (v := nI 1) dM_power_29 (by decide) ?_
      refine wr_goto C (tgt := 34) dM_power_30 (by decide) ?_
      refine ws_m_down C (by decide) (by omega) dM_power_34 ?_
      generalize hs2 : wc_st μ 35 0 q (nI 1) = μ2
      refine wr_iconst C (v := nI 1) dM_power_35 (by decide) ?_
      exact wr_iret C hr rfl hlk dM_power_36 (by subst_vars; first | (simp [fm_power, wc_nIe, wc_nI0, wc_nIm, *]; done) | (simp_all [fm_power, wc_nIe, wc_nI0, wc_nIm]; done)) (by first | rfl | (subst_vars; first | (simp [fm_power, wc_nIe, wc_nI0, wc_nIm, *]; done) | (simp_all [fm_power, wc_nIe, wc_nI0, wc_nIm]; done))) (by first | rfl | (subst_vars; first | (simp [fm_power, wc_nIe, wc_nI0, wc_nIm, *]; done) | (simp_all [fm_power, wc_nIe, wc_nI0, wc_nIm]; done)))
  ·
    refine wr_iconst C (v := nI 0) dM_power_18 (by decide) ?_
    exact wr_iret C hr rfl hlk dM_power_19 (by subst_vars; first | (simp [fm_power, wc_nIe, wc_nI0, wc_nIm, *]; done) | (simp_all [fm_power, wc_nIe, wc_nI0, wc_nIm]; done)) (by first | rfl | (subst_vars; first | (simp [fm_power, wc_nIe, wc_nI0, wc_nIm, *]; done) | (simp_all [fm_power, wc_nIe, wc_nI0, wc_nIm]; done))) (by first | rfl | (subst_vars; first | (simp [fm_power, wc_nIe, wc_nI0, wc_nIm, *]; done) | (simp_all [fm_power, wc_nIe, wc_nI0, wc_nIm]; done)))
set_option maxRecDepth 100000 in
set_option maxHeartbeats 4000000 in
theorem mm_abortO (l : Launch) (Γ : wc_G) (σ μ : wc_St) (a : Int32) (ha : a < 0 ∨ nI 5 ≤ a) : wc_M l yM_abort cM_abort 2 (some .boolean) 2 Γ [.ref (Γ.2.2 70), .int a] σ μ (some (.int (nI 0))) σ (μ) := by
  refine wc_enter "WaitedCommitsModel" (by decide) rfl (Nat.le_of_ble_eq_true rfl) ?_
  intro P0 E0 S0 M0 A0 B0 T0 K0 C hr hlk
  refine wr_vs (vs' := [(0, .ref (Γ.2.2 70)), (1, .int a)]) rfl ?_
  refine wr_aload_n C 0 dM_abort_0 rfl rfl ?_
  refine wr_iload_n C 1 dM_abort_1 rfl rfl ?_
  refine wr_callV1 C (As := [.int a]) (rest := []) (mm_activeO l Γ σ μ a ha) cb_M_active (Or.inl tw_427) tw_428 tw_562 (by omega) (wc_c_Model) rfl (by decide) (by decide) rfl rfl (Nat.le_of_ble_eq_true rfl) ⟨Nat.le_refl _, Nat.le_refl _⟩ dM_abort_2 ?_
  refine wr_if_ne C (tgt := 10) dM_abort_5 (by decide) (fun h1 => absurd (by decide) h1) (fun _ => ?_)
  refine wr_iconst C (v := nI 0) dM_abort_8 (by decide) ?_
  exact wr_iret C hr rfl hlk dM_abort_9 (by rfl) (by rfl) (by rfl)
set_option maxRecDepth 100000 in
set_option maxHeartbeats 4000000 in
theorem mm_abortI (l : Launch) (Γ : wc_G) (σ μ : wc_St) {t : Nat} (ht : t < 5) : wc_M l yM_abort cM_abort 2 (some .boolean) 2 Γ [.ref (Γ.2.2 70), .int (nI t)] σ μ (some (.int ((fm_abort μ t).1))) σ ((fm_abort μ t).2) := by
  refine wc_enter "WaitedCommitsModel" (by decide) rfl (Nat.le_of_ble_eq_true rfl) ?_
  intro P0 E0 S0 M0 A0 B0 T0 K0 C hr hlk
  refine wr_vs (vs' := [(0, .ref (Γ.2.2 70)), (1, .int (nI t))]) rfl ?_
  refine wr_aload_n C 0 dM_abort_0 rfl rfl ?_
  refine wr_iload_n C 1 dM_abort_1 rfl rfl ?_
  refine wr_callV1 C (As := [.int (nI t)]) (rest := []) (mm_activeI l Γ σ μ (t := t) (by omega)) cb_M_active (Or.inl tw_427) tw_428 tw_562 (by omega) (wc_c_Model) rfl (by decide) (by decide) rfl rfl (Nat.le_of_ble_eq_true rfl) ⟨Nat.le_refl _, Nat.le_refl _⟩ dM_abort_2 ?_
  refine wr_if_ne C (tgt := 10) dM_abort_5 (by decide) (fun h1 => ?_) (fun h1 => ?_)
  ·
    refine wr_aload_n C 0 dM_abort_10 rfl rfl ?_
    refine wr_iload_n C 1 dM_abort_11 rfl rfl ?_
    refine wr_callV0 C (As := [.int (nI t)]) (rest := []) (mm_drop l Γ σ μ (t := t) (by omega)) cb_M_drop (Or.inl tw_436) tw_437 tw_565 (by omega) (wc_c_Model) rfl (by decide) (by decide) rfl rfl (Nat.le_of_ble_eq_true rfl) ⟨Nat.le_refl _, Nat.le_refl _⟩ dM_abort_12 ?_
    generalize hs1 : fm_drop μ t = μ1
    refine wr_iconst C (v := nI 1) dM_abort_15 (by decide) ?_
    exact wr_iret C hr rfl hlk dM_abort_16 (by subst_vars; first | (simp [fm_abort, wc_nIe, wc_nI0, wc_nIm, *]; done) | (simp_all [fm_abort, wc_nIe, wc_nI0, wc_nIm]; done)) (by first | rfl | (subst_vars; first | (simp [fm_abort, wc_nIe, wc_nI0, wc_nIm, *]; done) | (simp_all [fm_abort, wc_nIe, wc_nI0, wc_nIm]; done))) (by first | rfl | (subst_vars; first | (simp [fm_abort, wc_nIe, wc_nI0, wc_nIm, *]; done) | (simp_all [fm_abort, wc_nIe, wc_nI0, wc_nIm]; done)))
  ·
    refine wr_iconst C (v := nI 0) dM_abort_8 (by decide) ?_
    exact wr_iret C hr rfl hlk dM_abort_9 (by subst_vars; first | (simp [fm_abort, wc_nIe, wc_nI0, wc_nIm, *]; done) | (simp_all [fm_abort, wc_nIe, wc_nI0, wc_nIm]; done)) (by first | rfl | (subst_vars; first | (simp [fm_abort, wc_nIe, wc_nI0, wc_nIm, *]; done) | (simp_all [fm_abort, wc_nIe, wc_nI0, wc_nIm]; done))) (by first | rfl | (subst_vars; first | (simp [fm_abort, wc_nIe, wc_nI0, wc_nIm, *]; done) | (simp_all [fm_abort, wc_nIe, wc_nI0, wc_nIm]; done)))
set_option maxRecDepth 100000 in
set_option maxHeartbeats 4000000 in
theorem mm_readO (l : Launch) (Γ : wc_G) (σ μ : wc_St) (a b : Int32) (ha : a < 0 ∨ nI 5 ≤ a) : wc_M l yM_read cM_read 4 (some .long) 3 Γ [.ref (Γ.2.2 70), .int a, .int b] σ μ (some (.long 1099511627776)) σ (μ) := by
  refine wc_enter "WaitedCommitsModel" (by decide) rfl (Nat.le_of_ble_eq_true rfl) ?_
  intro P0 E0 S0 M0 A0 B0 T0 K0 C hr hlk
  refine wr_vs (vs' := [(0, .ref (Γ.2.2 70)), (1, .int a), (2, .int b)]) rfl ?_
  refine wr_aload_n C 0 dM_read_0 rfl rfl ?_
  refine wr_iload_n C 1 dM_read_1 rfl rfl ?_
  refine wr_callV1 C (As := [.int a]) (rest := []) (mm_activeO l Γ σ μ a ha) cb_M_active (Or.inl tw_427) tw_428 tw_562 (by omega) (wc_c_Model) rfl (by decide) (by decide) rfl rfl (Nat.le_of_ble_eq_true rfl) ⟨Nat.le_refl _, Nat.le_refl _⟩ dM_read_2 ?_
  refine wr_if_eq C (tgt := 27) dM_read_5 (by decide) (fun _ => ?_) (fun h1 => absurd (by decide) h1)
  refine wr_ldc2 C dM_read_27 tw_439 ?_
  exact wr_lret C hr hlk dM_read_30 (by rfl) (by rfl) (by rfl)
set_option maxRecDepth 100000 in
set_option maxHeartbeats 4000000 in
theorem mm_readK (l : Launch) (Γ : wc_G) (σ μ : wc_St) {t : Nat} (ht : t < 5) (b : Int32) (hb : b < 0 ∨ nI 9 ≤ b) : wc_M l yM_read cM_read 4 (some .long) 3 Γ [.ref (Γ.2.2 70), .int (nI t), .int b] σ μ (some (.long 1099511627776)) σ (μ) := by
  refine wc_enter "WaitedCommitsModel" (by decide) rfl (Nat.le_of_ble_eq_true rfl) ?_
  intro P0 E0 S0 M0 A0 B0 T0 K0 C hr hlk
  refine wr_vs (vs' := [(0, .ref (Γ.2.2 70)), (1, .int (nI t)), (2, .int b)]) rfl ?_
  refine wr_aload_n C 0 dM_read_0 rfl rfl ?_
  refine wr_iload_n C 1 dM_read_1 rfl rfl ?_
  refine wr_callV1 C (As := [.int (nI t)]) (rest := []) (mm_activeI l Γ σ μ (t := t) (by omega)) cb_M_active (Or.inl tw_427) tw_428 tw_562 (by omega) (wc_c_Model) rfl (by decide) (by decide) rfl rfl (Nat.le_of_ble_eq_true rfl) ⟨Nat.le_refl _, Nat.le_refl _⟩ dM_read_2 ?_
  refine wr_if_eq C (tgt := 27) dM_read_5 (by decide) (fun h1 => ?_) (fun h1 => ?_)
  ·
    refine wr_ldc2 C dM_read_27 tw_439 ?_
    exact wr_lret C hr hlk dM_read_30 (by rfl) (by rfl) (by rfl)
  ·
    refine wr_iload_n C 2 dM_read_8 rfl rfl ?_
    refine wr_bipush C (v := nI 9) dM_read_9 (by decide) ?_
    refine wr_callS1 C (As := [.int b, .int (nI 9)]) (rest := []) (mm_inO l Γ σ μ b (N := 9) hb) cb_M_in (Or.inl tw_399) tw_400 (by decide) (by decide) rfl rfl (Nat.le_of_ble_eq_true rfl) ⟨Nat.le_refl _, Nat.le_refl _⟩ dM_read_11 ?_
    refine wr_if_eq C (tgt := 27) dM_read_14 (by decide) (fun _ => ?_) (fun h2 => absurd (by decide) h2)
    refine wr_ldc2 C dM_read_27 tw_439 ?_
    exact wr_lret C hr hlk dM_read_30 (by rfl) (by rfl) (by rfl)
set_option maxRecDepth 100000 in
set_option maxHeartbeats 4000000 in
theorem mm_readI (l : Launch) (Γ : wc_G) (σ μ : wc_St) {t : Nat} (ht : t < 5) {k : Nat} (hk : k < 9) (V : Nat) (hV : (fm_take μ t k (nI 1)).2 37 0 0 = nI V) (hV5 : V ≤ 512) : wc_M l yM_read cM_read 4 (some .long) 3 Γ [.ref (Γ.2.2 70), .int (nI t), .int (nI k)] σ μ (some (.long ((fm_read μ t k).1))) σ ((fm_read μ t k).2) := by
  refine wc_enter "WaitedCommitsModel" (by decide) rfl (Nat.le_of_ble_eq_true rfl) ?_
  intro P0 E0 S0 M0 A0 B0 T0 K0 C hr hlk
  refine wr_vs (vs' := [(0, .ref (Γ.2.2 70)), (1, .int (nI t)), (2, .int (nI k))]) rfl ?_
  refine wr_aload_n C 0 dM_read_0 rfl rfl ?_
  refine wr_iload_n C 1 dM_read_1 rfl rfl ?_
  refine wr_callV1 C (As := [.int (nI t)]) (rest := []) (mm_activeI l Γ σ μ (t := t) (by omega)) cb_M_active (Or.inl tw_427) tw_428 tw_562 (by omega) (wc_c_Model) rfl (by decide) (by decide) rfl rfl (Nat.le_of_ble_eq_true rfl) ⟨Nat.le_refl _, Nat.le_refl _⟩ dM_read_2 ?_
  refine wr_if_eq C (tgt := 27) dM_read_5 (by decide) (fun h1 => ?_) (fun h1 => ?_)
  ·
    refine wr_ldc2 C dM_read_27 tw_439 ?_
    exact wr_lret C hr hlk dM_read_30 (by subst_vars; first | (simp [fm_read, *]; done) | (simp_all [fm_read]; done) | (simp [fm_read, fm_value0, fm_vers_eq hV (by omega), *]; done) | (simp [fm_read, fm_value0, fm_vers_eq hV (by omega), nI_clamp (show j < 2 ^ 31 by omega), nI_pos (show j < 2 ^ 31 by omega), *]; done)) (by first | rfl | (subst_vars; first | (simp [fm_read, wc_nIe, wc_nI0, wc_nIm, *]; done) | (simp_all [fm_read, wc_nIe, wc_nI0, wc_nIm]; done))) (by first | rfl | (subst_vars; first | (simp [fm_read, wc_nIe, wc_nI0, wc_nIm, *]; done) | (simp_all [fm_read, wc_nIe, wc_nI0, wc_nIm]; done)))
  ·
    refine wr_iload_n C 2 dM_read_8 rfl rfl ?_
    refine wr_bipush C (v := nI 9) dM_read_9 (by decide) ?_
    refine wr_callS1 C (As := [.int (nI k), .int (nI 9)]) (rest := []) (mm_inI l Γ σ μ (j := k) (N := 9) (by omega) (by decide)) cb_M_in (Or.inl tw_399) tw_400 (by decide) (by decide) rfl rfl (Nat.le_of_ble_eq_true rfl) ⟨Nat.le_refl _, Nat.le_refl _⟩ dM_read_11 ?_
    refine wr_if_eq C (tgt := 27) dM_read_14 (by decide) (fun h2 => absurd h2 (by decide)) (fun _ => ?_)
    refine wr_aload_n C 0 dM_read_17 rfl rfl ?_
    refine wr_iload_n C 1 dM_read_18 rfl rfl ?_
    refine wr_iload_n C 2 dM_read_19 rfl rfl ?_
    refine wr_iconst C (v := nI 1) dM_read_20 (by decide) ?_
    refine wr_callV1 C (As := [.int (nI t), .int (nI k), .int (nI 1)]) (rest := []) (mm_take l Γ σ μ (t := t) (k := k) (by omega) (by omega) (nI 1)) cb_M_take (Or.inl tw_430) tw_431 tw_563 (by omega) (wc_c_Model) rfl (by decide) (by decide) rfl rfl (Nat.le_of_ble_eq_true rfl) ⟨Nat.le_refl _, Nat.le_refl _⟩ dM_read_21 ?_
    generalize hs1 : (fm_take μ t k (nI 1)).2 = μ1
    refine wr_if_ne C (tgt := 31) dM_read_24 (by decide) (fun h3 => ?_) (fun h3 => ?_)
    ·
      refine wr_aload_n C 0 dM_read_31 rfl rfl ?_
      refine wf_Model_wrote C  (Or.inl tw_363) dM_read_32 ?_
      refine wr_bipush C (v := nI 9) dM_read_35 (by decide) ?_
      refine wr_iload_n C 1 dM_read_37 rfl rfl ?_
      refine wr_imul C (z := nI (9 * t)) dM_read_38 (pk_mul 9 t) ?_
      refine wr_iload_n C 2 dM_read_39 rfl rfl ?_
      refine wr_iadd C (z := nI (9 * t + k)) dM_read_40 (nI_add (9 * t) k) ?_
      refine wa_m_wrote C (by omega) dM_read_41 ?_
      refine wr_if_eq C (tgt := 58) dM_read_42 (by decide) (fun h4 => ?_) (fun h4 => ?_)
      ·
        refine wr_aload_n C 0 dM_read_58 rfl rfl ?_
        refine wr_iload_n C 2 dM_read_59 rfl rfl ?_
        refine wr_iconst C (v := nI 0) dM_read_60 (by decide) ?_
        refine wr_callV1 C (As := [.int (nI k), .int (nI 0)]) (rest := []) (mm_findI l Γ σ μ1 (k := k) (i0 := 0) (by omega) (by omega) V (by subst_vars; exact hV) hV5) cb_M_find (Or.inl tw_440) tw_441 tw_566 (by omega) (wc_c_Model) rfl (by decide) (by decide) rfl rfl (Nat.le_of_ble_eq_true rfl) ⟨Nat.le_refl _, Nat.le_refl _⟩ dM_read_61 ?_
        refine wr_istore_n C (vs' := [(3, .int (fm_find μ1 k V 0)), (0, .ref (Γ.2.2 70)), (1, .int (nI t)), (2, .int (nI k))]) dM_read_64 rfl (by decide) rfl ?_
        refine wr_iload_n C 0 dM_read_65 rfl rfl ?_
        refine wr_if_ge C (tgt := 73) dM_read_66 (by decide) (fun h5 => ?_) (fun h5 => ?_)
        ·
          refine wr_aload_n C 1 dM_read_73 rfl rfl ?_
          refine wf_Model_versionValue C  (Or.inl tw_355) dM_read_74 ?_
          refine wr_iload_n C 0 dM_read_77 rfl rfl ?_
          obtain ⟨j, hj, hfj⟩ := fm_find_lt V 0 (by omega) (by first | assumption | (rw [wc_notlt]; assumption))
          refine wr_top hfj ?_
          refine wa_m_versionValue C (by omega) dM_read_78 ?_
          refine wr_i2l C dM_read_79 ?_
          exact wr_lret C hr hlk dM_read_80 (by subst_vars; first | (simp [fm_read, *]; done) | (simp_all [fm_read]; done) | (simp [fm_read, fm_value0, fm_vers_eq hV (by omega), *]; done) | (simp [fm_read, fm_value0, fm_vers_eq hV (by omega), nI_clamp (show j < 2 ^ 31 by omega), nI_pos (show j < 2 ^ 31 by omega), *]; done)) (by first | rfl | (subst_vars; first | (simp [fm_read, wc_nIe, wc_nI0, wc_nIm, *]; done) | (simp_all [fm_read, wc_nIe, wc_nI0, wc_nIm]; done))) (by first | rfl | (subst_vars; first | (simp [fm_read, wc_nIe, wc_nI0, wc_nIm, *]; done) | (simp_all [fm_read, wc_nIe, wc_nI0, wc_nIm]; done)))
        ·
          refine wr_lconst C dM_read_69 ?_
          refine wr_goto C (tgt := 80) dM_read_70 (by decide) ?_
          exact wr_lret C hr hlk dM_read_80 (by subst_vars; first | (simp [fm_read, *]; done) | (simp_all [fm_read]; done) | (simp [fm_read, fm_value0, fm_vers_eq hV (by omega), *]; done) | (simp [fm_read, fm_value0, fm_vers_eq hV (by omega), nI_clamp (show j < 2 ^ 31 by omega), nI_pos (show j < 2 ^ 31 by omega), *]; done)) (by first | rfl | (subst_vars; first | (simp [fm_read, wc_nIe, wc_nI0, wc_nIm, *]; done) | (simp_all [fm_read, wc_nIe, wc_nI0, wc_nIm]; done))) (by first | rfl | (subst_vars; first | (simp [fm_read, wc_nIe, wc_nI0, wc_nIm, *]; done) | (simp_all [fm_read, wc_nIe, wc_nI0, wc_nIm]; done)))
      ·
        refine wr_aload_n C 0 dM_read_45 rfl rfl ?_
        refine wf_Model_value C  (Or.inl tw_364) dM_read_46 ?_
        refine wr_bipush C (v := nI 9) dM_read_49 (by decide) ?_
        refine wr_iload_n C 1 dM_read_51 rfl rfl ?_
        refine wr_imul C (z := nI (9 * t)) dM_read_52 (pk_mul 9 t) ?_
        refine wr_iload_n C 2 dM_read_53 rfl rfl ?_
        refine wr_iadd C (z := nI (9 * t + k)) dM_read_54 (nI_add (9 * t) k) ?_
        refine wa_m_value C (by omega) dM_read_55 ?_
        refine wr_i2l C dM_read_56 ?_
        exact wr_lret C hr hlk dM_read_57 (by subst_vars; first | (simp [fm_read, *]; done) | (simp_all [fm_read]; done) | (simp [fm_read, fm_value0, fm_vers_eq hV (by omega), *]; done) | (simp [fm_read, fm_value0, fm_vers_eq hV (by omega), nI_clamp (show j < 2 ^ 31 by omega), nI_pos (show j < 2 ^ 31 by omega), *]; done)) (by first | rfl | (subst_vars; first | (simp [fm_read, wc_nIe, wc_nI0, wc_nIm, *]; done) | (simp_all [fm_read, wc_nIe, wc_nI0, wc_nIm]; done))) (by first | rfl | (subst_vars; first | (simp [fm_read, wc_nIe, wc_nI0, wc_nIm, *]; done) | (simp_all [fm_read, wc_nIe, wc_nI0, wc_nIm]; done)))
    ·
      refine wr_ldc2 C dM_read_27 tw_439 ?_
      exact wr_lret C hr hlk dM_read_30 (by subst_vars; first | (simp [fm_read, *]; done) | (simp_all [fm_read]; done) | (simp [fm_read, fm_value0, fm_vers_eq hV (by omega), *]; done) | (simp [fm_read, fm_value0, fm_vers_eq hV (by omega), nI_clamp (show j < 2 ^ 31 by omega), nI_pos (show j < 2 ^ 31 by omega), *]; done)) (by first | rfl | (subst_vars; first | (simp [fm_read, wc_nIe, wc_nI0, wc_nIm, *]; done) | (simp_all [fm_read, wc_nIe, wc_nI0, wc_nIm]; done))) (by first | rfl | (subst_vars; first | (simp [fm_read, wc_nIe, wc_nI0, wc_nIm, *]; done) | (simp_all [fm_read, wc_nIe, wc_nI0, wc_nIm]; done)))
set_option maxRecDepth 100000 in
set_option maxHeartbeats 4000000 in
theorem mm_writeO (l : Launch) (Γ : wc_G) (σ μ : wc_St) (a b d : Int32) (ha : a < 0 ∨ nI 5 ≤ a) : wc_M l yM_write cM_write 4 (some .boolean) 3 Γ [.ref (Γ.2.2 70), .int a, .int b, .int d] σ μ (some (.int (nI 0))) σ (μ) := by
  refine wc_enter "WaitedCommitsModel" (by decide) rfl (Nat.le_of_ble_eq_true rfl) ?_
  intro P0 E0 S0 M0 A0 B0 T0 K0 C hr hlk
  refine wr_vs (vs' := [(0, .ref (Γ.2.2 70)), (1, .int a), (2, .int b), (3, .int d)]) rfl ?_
  refine wr_aload_n C 0 dM_write_0 rfl rfl ?_
  refine wr_iload_n C 1 dM_write_1 rfl rfl ?_
  refine wr_callV1 C (As := [.int a]) (rest := []) (mm_activeO l Γ σ μ a ha) cb_M_active (Or.inl tw_427) tw_428 tw_562 (by omega) (wc_c_Model) rfl (by decide) (by decide) rfl rfl (Nat.le_of_ble_eq_true rfl) ⟨Nat.le_refl _, Nat.le_refl _⟩ dM_write_2 ?_
  refine wr_if_eq C (tgt := 27) dM_write_5 (by decide) (fun _ => ?_) (fun h1 => absurd (by decide) h1)
  refine wr_iconst C (v := nI 0) dM_write_27 (by decide) ?_
  exact wr_iret C hr rfl hlk dM_write_28 (by rfl) (by rfl) (by rfl)
set_option maxRecDepth 100000 in
set_option maxHeartbeats 4000000 in
theorem mm_writeK (l : Launch) (Γ : wc_G) (σ μ : wc_St) {t : Nat} (ht : t < 5) (b d : Int32) (hb : b < 0 ∨ nI 9 ≤ b) : wc_M l yM_write cM_write 4 (some .boolean) 3 Γ [.ref (Γ.2.2 70), .int (nI t), .int b, .int d] σ μ (some (.int (nI 0))) σ (μ) := by
  refine wc_enter "WaitedCommitsModel" (by decide) rfl (Nat.le_of_ble_eq_true rfl) ?_
  intro P0 E0 S0 M0 A0 B0 T0 K0 C hr hlk
  refine wr_vs (vs' := [(0, .ref (Γ.2.2 70)), (1, .int (nI t)), (2, .int b), (3, .int d)]) rfl ?_
  refine wr_aload_n C 0 dM_write_0 rfl rfl ?_
  refine wr_iload_n C 1 dM_write_1 rfl rfl ?_
  refine wr_callV1 C (As := [.int (nI t)]) (rest := []) (mm_activeI l Γ σ μ (t := t) (by omega)) cb_M_active (Or.inl tw_427) tw_428 tw_562 (by omega) (wc_c_Model) rfl (by decide) (by decide) rfl rfl (Nat.le_of_ble_eq_true rfl) ⟨Nat.le_refl _, Nat.le_refl _⟩ dM_write_2 ?_
  refine wr_if_eq C (tgt := 27) dM_write_5 (by decide) (fun h1 => ?_) (fun h1 => ?_)
  ·
    refine wr_iconst C (v := nI 0) dM_write_27 (by decide) ?_
    exact wr_iret C hr rfl hlk dM_write_28 (by rfl) (by rfl) (by rfl)
  ·
    refine wr_iload_n C 2 dM_write_8 rfl rfl ?_
    refine wr_bipush C (v := nI 9) dM_write_9 (by decide) ?_
    refine wr_callS1 C (As := [.int b, .int (nI 9)]) (rest := []) (mm_inO l Γ σ μ b (N := 9) hb) cb_M_in (Or.inl tw_399) tw_400 (by decide) (by decide) rfl rfl (Nat.le_of_ble_eq_true rfl) ⟨Nat.le_refl _, Nat.le_refl _⟩ dM_write_11 ?_
    refine wr_if_eq C (tgt := 27) dM_write_14 (by decide) (fun _ => ?_) (fun h2 => absurd (by decide) h2)
    refine wr_iconst C (v := nI 0) dM_write_27 (by decide) ?_
    exact wr_iret C hr rfl hlk dM_write_28 (by rfl) (by rfl) (by rfl)
set_option maxRecDepth 100000 in
set_option maxHeartbeats 4000000 in
theorem mm_writeI (l : Launch) (Γ : wc_G) (σ μ : wc_St) {t : Nat} (ht : t < 5) {k : Nat} (hk : k < 9) (d : Int32) : wc_M l yM_write cM_write 4 (some .boolean) 3 Γ [.ref (Γ.2.2 70), .int (nI t), .int (nI k), .int d] σ μ (some (.int ((fm_write μ t k d).1))) σ ((fm_write μ t k d).2) := by
  refine wc_enter "WaitedCommitsModel" (by decide) rfl (Nat.le_of_ble_eq_true rfl) ?_
  intro P0 E0 S0 M0 A0 B0 T0 K0 C hr hlk
  refine wr_vs (vs' := [(0, .ref (Γ.2.2 70)), (1, .int (nI t)), (2, .int (nI k)), (3, .int d)]) rfl ?_
  refine wr_aload_n C 0 dM_write_0 rfl rfl ?_
  refine wr_iload_n C 1 dM_write_1 rfl rfl ?_
  refine wr_callV1 C (As := [.int (nI t)]) (rest := []) (mm_activeI l Γ σ μ (t := t) (by omega)) cb_M_active (Or.inl tw_427) tw_428 tw_562 (by omega) (wc_c_Model) rfl (by decide) (by decide) rfl rfl (Nat.le_of_ble_eq_true rfl) ⟨Nat.le_refl _, Nat.le_refl _⟩ dM_write_2 ?_
  refine wr_if_eq C (tgt := 27) dM_write_5 (by decide) (fun h1 => ?_) (fun h1 => ?_)
  ·
    refine wr_iconst C (v := nI 0) dM_write_27 (by decide) ?_
    exact wr_iret C hr rfl hlk dM_write_28 (by subst_vars; first | (simp [fm_write, wc_nIe, wc_nI0, wc_nIm, *]; done) | (simp_all [fm_write, wc_nIe, wc_nI0, wc_nIm]; done)) (by first | rfl | (subst_vars; first | (simp [fm_write, wc_nIe, wc_nI0, wc_nIm, *]; done) | (simp_all [fm_write, wc_nIe, wc_nI0, wc_nIm]; done))) (by first | rfl | (subst_vars; first | (simp [fm_write, wc_nIe, wc_nI0, wc_nIm, *]; done) | (simp_all [fm_write, wc_nIe, wc_nI0, wc_nIm]; done)))
  ·
    refine wr_iload_n C 2 dM_write_8 rfl rfl ?_
    refine wr_bipush C (v := nI 9) dM_write_9 (by decide) ?_
    refine wr_callS1 C (As := [.int (nI k), .int (nI 9)]) (rest := []) (mm_inI l Γ σ μ (j := k) (N := 9) (by omega) (by decide)) cb_M_in (Or.inl tw_399) tw_400 (by decide) (by decide) rfl rfl (Nat.le_of_ble_eq_true rfl) ⟨Nat.le_refl _, Nat.le_refl _⟩ dM_write_11 ?_
    refine wr_if_eq C (tgt := 27) dM_write_14 (by decide) (fun h2 => absurd h2 (by decide)) (fun _ => ?_)
    refine wr_aload_n C 0 dM_write_17 rfl rfl ?_
    refine wr_iload_n C 1 dM_write_18 rfl rfl ?_
    refine wr_iload_n C 2 dM_write_19 rfl rfl ?_
    refine wr_iconst C (v := nI 2) dM_write_20 (by decide) ?_
    refine wr_callV1 C (As := [.int (nI t), .int (nI k), .int (nI 2)]) (rest := []) (mm_take l Γ σ μ (t := t) (k := k) (by omega) (by omega) (nI 2)) cb_M_take (Or.inl tw_430) tw_431 tw_563 (by omega) (wc_c_Model) rfl (by decide) (by decide) rfl rfl (Nat.le_of_ble_eq_true rfl) ⟨Nat.le_refl _, Nat.le_refl _⟩ dM_write_21 ?_
    generalize hs1 : (fm_take μ t k (nI 2)).2 = μ1
    refine wr_if_ne C (tgt := 29) dM_write_24 (by decide) (fun h3 => ?_) (fun h3 => ?_)
    ·
      refine wr_aload_n C 0 dM_write_29 rfl rfl ?_
      refine wf_Model_wrote C  (Or.inl tw_363) dM_write_30 ?_
      refine wr_bipush C (v := nI 9) dM_write_33 (by decide) ?_
      refine wr_iload_n C 1 dM_write_35 rfl rfl ?_
      refine wr_imul C (z := nI (9 * t)) dM_write_36 (pk_mul 9 t) ?_
      refine wr_iload_n C 2 dM_write_37 rfl rfl ?_
      refine wr_iadd C (z := nI (9 * t + k)) dM_write_38 (nI_add (9 * t) k) ?_
      refine wr_iconst C (v := nI 1) dM_write_39 (by decide) ?_
      refine ws_m_wrote C (by decide) (by omega) dM_write_40 ?_
      generalize hs2 : wc_st μ1 48 0 (9 * t + k) (nI 1) = μ2
      refine wr_aload_n C 0 dM_write_41 rfl rfl ?_
      refine wf_Model_value C  (Or.inl tw_364) dM_write_42 ?_
      refine wr_bipush C (v := nI 9) dM_write_45 (by decide) ?_
      refine wr_iload_n C 1 dM_write_47 rfl rfl ?_
      refine wr_imul C (z := nI (9 * t)) dM_write_48 (pk_mul 9 t) ?_
      refine wr_iload_n C 2 dM_write_49 rfl rfl ?_
      refine wr_iadd C (z := nI (9 * t + k)) dM_write_50 (nI_add (9 * t) k) ?_
      refine wr_iload_n C 3 dM_write_51 rfl rfl ?_
      refine ws_m_value C (by omega) dM_write_52 ?_
      generalize hs3 : wc_st μ2 49 0 (9 * t + k) d = μ3
      refine wr_iconst C (v := nI 1) dM_write_53 (by decide) ?_
      exact wr_iret C hr rfl hlk dM_write_54 (by subst_vars; first | (simp [fm_write, wc_nIe, wc_nI0, wc_nIm, *]; done) | (simp_all [fm_write, wc_nIe, wc_nI0, wc_nIm]; done)) (by first | rfl | (subst_vars; first | (simp [fm_write, wc_nIe, wc_nI0, wc_nIm, *]; done) | (simp_all [fm_write, wc_nIe, wc_nI0, wc_nIm]; done))) (by first | rfl | (subst_vars; first | (simp [fm_write, wc_nIe, wc_nI0, wc_nIm, *]; done) | (simp_all [fm_write, wc_nIe, wc_nI0, wc_nIm]; done)))
    ·
      refine wr_iconst C (v := nI 0) dM_write_27 (by decide) ?_
      exact wr_iret C hr rfl hlk dM_write_28 (by subst_vars; first | (simp [fm_write, wc_nIe, wc_nI0, wc_nIm, *]; done) | (simp_all [fm_write, wc_nIe, wc_nI0, wc_nIm]; done)) (by first | rfl | (subst_vars; first | (simp [fm_write, wc_nIe, wc_nI0, wc_nIm, *]; done) | (simp_all [fm_write, wc_nIe, wc_nI0, wc_nIm]; done))) (by first | rfl | (subst_vars; first | (simp [fm_write, wc_nIe, wc_nI0, wc_nIm, *]; done) | (simp_all [fm_write, wc_nIe, wc_nI0, wc_nIm]; done)))
set_option maxRecDepth 100000 in
set_option maxHeartbeats 4000000 in
theorem mm_commitO (l : Launch) (Γ : wc_G) (σ μ : wc_St) (a : Int32) (ha : a < 0 ∨ nI 5 ≤ a) : wc_M l yM_commit cM_commit 4 (some .boolean) 3 Γ [.ref (Γ.2.2 70), .int a] σ μ (some (.int (nI 0))) σ (μ) := by
  refine wc_enter "WaitedCommitsModel" (by decide) rfl (Nat.le_of_ble_eq_true rfl) ?_
  intro P0 E0 S0 M0 A0 B0 T0 K0 C hr hlk
  refine wr_vs (vs' := [(0, .ref (Γ.2.2 70)), (1, .int a)]) rfl ?_
  refine wr_aload_n C 0 dM_commit_0 rfl rfl ?_
  refine wr_iload_n C 1 dM_commit_1 rfl rfl ?_
  refine wr_callV1 C (As := [.int a]) (rest := []) (mm_activeO l Γ σ μ a ha) cb_M_active (Or.inl tw_427) tw_428 tw_562 (by omega) (wc_c_Model) rfl (by decide) (by decide) rfl rfl (Nat.le_of_ble_eq_true rfl) ⟨Nat.le_refl _, Nat.le_refl _⟩ dM_commit_2 ?_
  refine wr_if_eq C (tgt := 30) dM_commit_5 (by decide) (fun _ => ?_) (fun h1 => absurd (by decide) h1)
  refine wr_iconst C (v := nI 0) dM_commit_30 (by decide) ?_
  exact wr_iret C hr rfl hlk dM_commit_31 (by rfl) (by rfl) (by rfl)
set_option maxRecDepth 100000 in
set_option maxHeartbeats 4000000 in
theorem mm_commitI (l : Launch) (Γ : wc_G) (σ μ : wc_St) {t : Nat} (ht : t < 5) : wc_M l yM_commit cM_commit 4 (some .boolean) 3 Γ [.ref (Γ.2.2 70), .int (nI t)] σ μ (some (.int ((fm_commit2 μ t).1))) σ ((fm_commit2 μ t).2) := by
  refine wc_enter "WaitedCommitsModel" (by decide) rfl (Nat.le_of_ble_eq_true rfl) ?_
  intro P0 E0 S0 M0 A0 B0 T0 K0 C hr hlk
  refine wr_vs (vs' := [(0, .ref (Γ.2.2 70)), (1, .int (nI t))]) rfl ?_
  refine wr_aload_n C 0 dM_commit_0 rfl rfl ?_
  refine wr_iload_n C 1 dM_commit_1 rfl rfl ?_
  refine wr_callV1 C (As := [.int (nI t)]) (rest := []) (mm_activeI l Γ σ μ (t := t) (by omega)) cb_M_active (Or.inl tw_427) tw_428 tw_562 (by omega) (wc_c_Model) rfl (by decide) (by decide) rfl rfl (Nat.le_of_ble_eq_true rfl) ⟨Nat.le_refl _, Nat.le_refl _⟩ dM_commit_2 ?_
  refine wr_if_eq C (tgt := 30) dM_commit_5 (by decide) (fun h1 => ?_) (fun h1 => ?_)
  ·
    refine wr_iconst C (v := nI 0) dM_commit_30 (by decide) ?_
    exact wr_iret C hr rfl hlk dM_commit_31 (by subst_vars; first | (simp [fm_commit2, wc_nIe, wc_nI0, wc_nIm, *]; done) | (simp_all [fm_commit2, wc_nIe, wc_nI0, wc_nIm]; done)) (by first | rfl | (subst_vars; first | (simp [fm_commit2, fm_commit, fm_clear, *]; done) | (simp_all [fm_commit2]; done))) (by first | rfl | (subst_vars; first | (simp [fm_commit2, fm_commit, fm_clear, *]; done) | (simp_all [fm_commit2]; done)))
  ·
    refine wr_aload_n C 0 dM_commit_8 rfl rfl ?_
    refine wr_iload_n C 1 dM_commit_9 rfl rfl ?_
    refine wr_callV1 C (As := [.int (nI t)]) (rest := []) (mm_least l Γ σ μ (t := t) (by omega)) cb_M_least (Or.inl tw_414) tw_415 tw_559 (by omega) (wc_c_Model) rfl (by decide) (by decide) rfl rfl (Nat.le_of_ble_eq_true rfl) ⟨Nat.le_refl _, Nat.le_refl _⟩ dM_commit_10 ?_
    have hle1_0 := fm_least_le μ t
    refine wr_iconst C (v := nI 3) dM_commit_13 (by decide) ?_
    refine wr_icmp_eq C (tgt := 30) dM_commit_14 (by decide) (fun h2 => ?_) (fun h2 => ?_)
    ·
      rw [nI_eq (by omega) (by omega)] at h2
      refine wr_iconst C (v := nI 0) dM_commit_30 (by decide) ?_
      exact wr_iret C hr rfl hlk dM_commit_31 (by subst_vars; first | (simp [fm_commit2, wc_nIe, wc_nI0, wc_nIm, *]; done) | (simp_all [fm_commit2, wc_nIe, wc_nI0, wc_nIm]; done)) (by first | rfl | (subst_vars; first | (simp [fm_commit2, fm_commit, fm_clear, *]; done) | (simp_all [fm_commit2]; done))) (by first | rfl | (subst_vars; first | (simp [fm_commit2, fm_commit, fm_clear, *]; done) | (simp_all [fm_commit2]; done)))
    ·
      rw [nI_eq (by omega) (by omega)] at h2
      refine wr_aload_n C 0 dM_commit_17 rfl rfl ?_
      refine wf_Model_down C  (Or.inl tw_350) dM_commit_18 ?_
      refine wr_aload_n C 0 dM_commit_21 rfl rfl ?_
      refine wr_iload_n C 1 dM_commit_22 rfl rfl ?_
      refine wr_callV1 C (As := [.int (nI t)]) (rest := [.ref (Γ.2.2 74)]) (mm_least l Γ σ μ (t := t) (by omega)) cb_M_least (Or.inl tw_414) tw_415 tw_559 (by omega) (wc_c_Model) rfl (by decide) (by decide) rfl rfl (Nat.le_of_ble_eq_true rfl) ⟨Nat.le_refl _, Nat.le_refl _⟩ dM_commit_23 ?_
      have hle2_0 := fm_least_le μ t
      refine wa_m_down C (by omega) dM_commit_26 ?_
      refine wr_if_eq C (tgt := 32) dM_commit_27 (by decide) (fun h3 => ?_) (fun h3 => ?_)
      ·
        refine wr_aload_n C 0 dM_commit_32 rfl rfl ?_
        refine wr_iload_n C 1 dM_commit_33 rfl rfl ?_
        refine wr_callV1 C (As := [.int (nI t)]) (rest := []) (mm_least l Γ σ μ (t := t) (by omega)) cb_M_least (Or.inl tw_414) tw_415 tw_559 (by omega) (wc_c_Model) rfl (by decide) (by decide) rfl rfl (Nat.le_of_ble_eq_true rfl) ⟨Nat.le_refl _, Nat.le_refl _⟩ dM_commit_34 ?_
        have hle3_0 := fm_least_le μ t
        refine wr_istore_n C (vs' := [(2, .int (nI (fm_least μ t))), (0, .ref (Γ.2.2 70)), (1, .int (nI t))]) dM_commit_37 rfl (by decide) rfl ?_
        refine wr_aload_n C 1 dM_commit_38 rfl rfl ?_
        refine wf_Model_state C  (Or.inl tw_357) dM_commit_39 ?_
        refine wr_iload_n C 2 dM_commit_42 rfl rfl ?_
        refine wr_iconst C (v := nI 2) dM_commit_43 (by decide) ?_
        refine ws_m_state C (by omega) dM_commit_44 ?_
        generalize hs1 : wc_st μ 42 0 t (nI 2) = μ1
        refine wr_aload_n C 1 dM_commit_45 rfl rfl ?_
        refine wf_Model_floor C  (Or.inl tw_360) dM_commit_46 ?_
        refine wr_iload_n C 2 dM_commit_49 rfl rfl ?_
        refine wr_aload_n C 1 dM_commit_50 rfl rfl ?_
        refine wf_Model_now C  (Or.inl tw_346) dM_commit_51 ?_
        refine wr_aload_n C 1 dM_commit_54 rfl rfl ?_
        refine wf_Model_late C  (Or.inl tw_348) dM_commit_55 ?_
        refine wr_iload_n C 0 dM_commit_58 rfl rfl ?_
        refine wa_m_late C (by omega) dM_commit_59 ?_
        refine wr_iadd C (z := (μ1 31 0 0) + (μ1 33 0 (fm_least μ t))) dM_commit_60 rfl ?_
        refine wr_iconst C (v := nI 1) dM_commit_61 (by decide) ?_
        refine wr_iadd C (z := ((μ1 31 0 0) + (μ1 33 0 (fm_least μ t))) + (nI 1)) dM_commit_62 rfl ?_
        refine ws_m_floor C (by omega) dM_commit_63 ?_
        generalize hs2 : wc_st μ1 45 0 t (((μ1 31 0 0) + (μ1 33 0 (fm_least μ t))) + (nI 1)) = μ2
        refine wr_iconst C (v := nI 0) dM_commit_64 (by decide) ?_
        refine wr_istore_n C (vs' := [(3, .int (nI 0)), (2, .int (nI (fm_least μ t))), (0, .ref (Γ.2.2 70)), (1, .int (nI t))]) dM_commit_65 rfl (by decide) rfl ?_
        refine wr_iload_n C 0 dM_commit_66 rfl rfl ?_
        refine wr_iconst C (v := nI 3) dM_commit_67 (by decide) ?_
        refine wr_icmp_ge C (tgt := 88) dM_commit_68 (by decide) (fun h4 => absurd h4 (by decide)) (fun _ => ?_)
        refine wr_aload_n C 2 dM_commit_71 rfl rfl ?_
        refine wf_Model_marked C  (Or.inl tw_365) dM_commit_72 ?_
        refine wr_iconst C (v := nI 3) dM_commit_75 (by decide) ?_
        refine wr_iload_n C 3 dM_commit_76 rfl rfl ?_
        refine wr_imul C (z := nI (3 * t)) dM_commit_77 (pk_mul 3 t) ?_
        refine wr_iload_n C 0 dM_commit_78 rfl rfl ?_
        refine wr_iadd C (z := nI (3 * t + 0)) dM_commit_79 (nI_add (3 * t) 0) ?_
        refine wr_iconst C (v := nI 0) dM_commit_80 (by decide) ?_
        refine ws_m_marked C (by decide) (by omega) dM_commit_81 ?_
        generalize hs3 : wc_st μ2 50 0 (3 * t + 0) (nI 0) = μ3
        refine wr_iinc C (v := nI 1) (vs' := [(3, .int (nI 1)), (2, .int (nI (fm_least μ t))), (0, .ref (Γ.2.2 70)), (1, .int (nI t))]) 0 dM_commit_82 rfl (by decide) (by decide) rfl ?_
        refine wr_goto C (tgt := 66) dM_commit_85 (by decide) ?_
        refine wr_iload_n C 0 dM_commit_66 rfl rfl ?_
        refine wr_iconst C (v := nI 3) dM_commit_67 (by decide) ?_
        refine wr_icmp_ge C (tgt := 88) dM_commit_68 (by decide) (fun h5 => absurd h5 (by decide)) (fun _ => ?_)
        refine wr_aload_n C 2 dM_commit_71 rfl rfl ?_
        refine wf_Model_marked C  (Or.inl tw_365) dM_commit_72 ?_
        refine wr_iconst C (v := nI 3) dM_commit_75 (by decide) ?_
        refine wr_iload_n C 3 dM_commit_76 rfl rfl ?_
        refine wr_imul C (z := nI (3 * t)) dM_commit_77 (pk_mul 3 t) ?_
        refine wr_iload_n C 0 dM_commit_78 rfl rfl ?_
        refine wr_iadd C (z := nI (3 * t + 1)) dM_commit_79 (nI_add (3 * t) 1) ?_
        refine wr_iconst C (v := nI 0) dM_commit_80 (by decide) ?_
        refine ws_m_marked C (by decide) (by omega) dM_commit_81 ?_
        generalize hs4 : wc_st μ3 50 0 (3 * t + 1) (nI 0) = μ4
        refine wr_iinc C (v := nI 2) (vs' := [(3, .int (nI 2)), (2, .int (nI (fm_least μ t))), (0, .ref (Γ.2.2 70)), (1, .int (nI t))]) 0 dM_commit_82 rfl (by decide) (by decide) rfl ?_
        refine wr_goto C (tgt := 66) dM_commit_85 (by decide) ?_
        refine wr_iload_n C 0 dM_commit_66 rfl rfl ?_
        refine wr_iconst C (v := nI 3) dM_commit_67 (by decide) ?_
        refine wr_icmp_ge C (tgt := 88) dM_commit_68 (by decide) (fun h6 => absurd h6 (by decide)) (fun _ => ?_)
        refine wr_aload_n C 2 dM_commit_71 rfl rfl ?_
        refine wf_Model_marked C  (Or.inl tw_365) dM_commit_72 ?_
        refine wr_iconst C (v := nI 3) dM_commit_75 (by decide) ?_
        refine wr_iload_n C 3 dM_commit_76 rfl rfl ?_
        refine wr_imul C (z := nI (3 * t)) dM_commit_77 (pk_mul 3 t) ?_
        refine wr_iload_n C 0 dM_commit_78 rfl rfl ?_
        refine wr_iadd C (z := nI (3 * t + 2)) dM_commit_79 (nI_add (3 * t) 2) ?_
        refine wr_iconst C (v := nI 0) dM_commit_80 (by decide) ?_
        refine ws_m_marked C (by decide) (by omega) dM_commit_81 ?_
        generalize hs5 : wc_st μ4 50 0 (3 * t + 2) (nI 0) = μ5
        refine wr_iinc C (v := nI 3) (vs' := [(3, .int (nI 3)), (2, .int (nI (fm_least μ t))), (0, .ref (Γ.2.2 70)), (1, .int (nI t))]) 0 dM_commit_82 rfl (by decide) (by decide) rfl ?_
        refine wr_goto C (tgt := 66) dM_commit_85 (by decide) ?_
        refine wr_iload_n C 0 dM_commit_66 rfl rfl ?_
        refine wr_iconst C (v := nI 3) dM_commit_67 (by decide) ?_
        refine wr_icmp_ge C (tgt := 88) dM_commit_68 (by decide) (fun _ => ?_) (fun h7 => absurd (by decide) h7)
        refine wr_aload_n C 2 dM_commit_88 rfl rfl ?_
        refine wr_iconst C (v := nI 0) dM_commit_89 (by decide) ?_
        refine wr_iload_n C 3 dM_commit_90 rfl rfl ?_
        refine wr_iload_n C 1 dM_commit_91 rfl rfl ?_
        refine wr_callV0 C (As := [.int (nI 0), .int (nI t), .int (nI (fm_least μ t))]) (rest := []) (mm_sendAll l Γ σ μ5 (kd := 0) (t := t) (o := fm_least μ t) (by omega) (by omega) (by omega)) cb_M_sendAll (Or.inl tw_455) tw_456 tw_567 (by omega) (wc_c_Model) rfl (by decide) (by decide) rfl rfl (Nat.le_of_ble_eq_true rfl) ⟨Nat.le_refl _, Nat.le_refl _⟩ dM_commit_92 ?_
        generalize hs6 : fm_sendAll 0 t (fm_least μ t) (2 - (fm_least μ t)) (fm_least μ t + 1) μ5 = μ6
        refine wr_aload_n C 2 dM_commit_95 rfl rfl ?_
        refine wr_iload_n C 3 dM_commit_96 rfl rfl ?_
        refine wr_callV0 C (As := [.int (nI t)]) (rest := []) (mm_sia l Γ σ μ6 (t := t) (by omega) (by subst_vars; exact Nat.lt_of_le_of_lt (Nat.le_of_eq (fm_least_eq (μ := μ) (fun j => by rw [fm_sendAll_c (by decide) (by decide) (by decide)]; rfl))) (by omega))) cb_M_stampIfAll (Or.inl tw_461) tw_462 tw_569 (by omega) (wc_c_Model) rfl (by decide) (by decide) rfl rfl (Nat.le_of_ble_eq_true rfl) ⟨Nat.le_refl _, Nat.le_refl _⟩ dM_commit_97 ?_
        generalize hs7 : fm_stampIfAll μ6 t = μ7
        refine wr_iconst C (v := nI 1) dM_commit_100 (by decide) ?_
        exact wr_iret C hr rfl hlk dM_commit_101 (by subst_vars; first | (simp [fm_commit2, wc_nIe, wc_nI0, wc_nIm, *]; done) | (simp_all [fm_commit2, wc_nIe, wc_nI0, wc_nIm]; done)) (by first | rfl | (subst_vars; first | (simp [fm_commit2, fm_commit, fm_clear, *]; done) | (simp_all [fm_commit2]; done))) (by first | rfl | (subst_vars; first | (simp [fm_commit2, fm_commit, fm_clear, *]; done) | (simp_all [fm_commit2]; done)))
      ·
        refine wr_iconst C (v := nI 0) dM_commit_30 (by decide) ?_
        exact wr_iret C hr rfl hlk dM_commit_31 (by subst_vars; first | (simp [fm_commit2, wc_nIe, wc_nI0, wc_nIm, *]; done) | (simp_all [fm_commit2, wc_nIe, wc_nI0, wc_nIm]; done)) (by first | rfl | (subst_vars; first | (simp [fm_commit2, fm_commit, fm_clear, *]; done) | (simp_all [fm_commit2]; done))) (by first | rfl | (subst_vars; first | (simp [fm_commit2, fm_commit, fm_clear, *]; done) | (simp_all [fm_commit2]; done)))
set_option maxRecDepth 100000 in
set_option maxHeartbeats 4000000 in
theorem mm_versionO (l : Launch) (Γ : wc_G) (σ μ : wc_St) (a b : Int32) (ha : a < 0 ∨ nI 9 ≤ a) : wc_M l yM_version cM_version 4 (some .int) 2 Γ [.ref (Γ.2.2 70), .int a, .int b] σ μ (some (.int (-1))) σ (μ) := by
  refine wc_enter "WaitedCommitsModel" (by decide) rfl (Nat.le_of_ble_eq_true rfl) ?_
  intro P0 E0 S0 M0 A0 B0 T0 K0 C hr hlk
  refine wr_vs (vs' := [(0, .ref (Γ.2.2 70)), (1, .int a), (2, .int b)]) rfl ?_
  refine wr_iload_n C 1 dM_version_0 rfl rfl ?_
  refine wr_bipush C (v := nI 9) dM_version_1 (by decide) ?_
  refine wr_callS1 C (As := [.int a, .int (nI 9)]) (rest := []) (mm_inO l Γ σ μ a (N := 9) ha) cb_M_in (Or.inl tw_399) tw_400 (by decide) (by decide) rfl rfl (Nat.le_of_ble_eq_true rfl) ⟨Nat.le_refl _, Nat.le_refl _⟩ dM_version_3 ?_
  refine wr_if_eq C (tgt := 18) dM_version_6 (by decide) (fun _ => ?_) (fun h1 => absurd (by decide) h1)
  refine wr_bipush C (v := -2) dM_version_18 (by decide) ?_
  refine wr_istore_n C (vs' := [(3, .int (-2)), (0, .ref (Γ.2.2 70)), (1, .int a), (2, .int b)]) dM_version_20 rfl (by decide) rfl ?_
  refine wr_iload_n C 0 dM_version_21 rfl rfl ?_
  refine wr_if_lt C (tgt := 34) dM_version_22 (by decide) (fun h2 => ?_) (fun h2 => ?_)
  ·
    refine wr_iload_n C 0 dM_version_34 rfl rfl ?_
    refine wr_iconst C (v := -1) dM_version_35 (by decide) ?_
    refine wr_icmp_ne C (tgt := 43) dM_version_36 (by decide) (fun h3 => ?_) (fun h3 => ?_)
    ·
      refine wr_iconst C (v := -1) dM_version_43 (by decide) ?_
      exact wr_iret C hr rfl hlk dM_version_44 (by rfl) (by rfl) (by rfl)
    ·
      exfalso; first | (revert h1; decide) | (revert h2; decide) | (revert h3; decide)
  ·
    exfalso; first | (revert h1; decide) | (revert h2; decide) | (revert h3; decide)
set_option maxRecDepth 100000 in
set_option maxHeartbeats 4000000 in
theorem mm_versionK (l : Launch) (Γ : wc_G) (σ μ : wc_St) {k : Nat} (hk : k < 9) (b : Int32) (hb : b < 0 ∨ nI 4 ≤ b) : wc_M l yM_version cM_version 4 (some .int) 2 Γ [.ref (Γ.2.2 70), .int (nI k), .int b] σ μ (some (.int (-1))) σ (μ) := by
  refine wc_enter "WaitedCommitsModel" (by decide) rfl (Nat.le_of_ble_eq_true rfl) ?_
  intro P0 E0 S0 M0 A0 B0 T0 K0 C hr hlk
  refine wr_vs (vs' := [(0, .ref (Γ.2.2 70)), (1, .int (nI k)), (2, .int b)]) rfl ?_
  refine wr_iload_n C 1 dM_version_0 rfl rfl ?_
  refine wr_bipush C (v := nI 9) dM_version_1 (by decide) ?_
  refine wr_callS1 C (As := [.int (nI k), .int (nI 9)]) (rest := []) (mm_inI l Γ σ μ (j := k) (N := 9) (by omega) (by decide)) cb_M_in (Or.inl tw_399) tw_400 (by decide) (by decide) rfl rfl (Nat.le_of_ble_eq_true rfl) ⟨Nat.le_refl _, Nat.le_refl _⟩ dM_version_3 ?_
  refine wr_if_eq C (tgt := 18) dM_version_6 (by decide) (fun h1 => absurd h1 (by decide)) (fun _ => ?_)
  refine wr_aload_n C 0 dM_version_9 rfl rfl ?_
  refine wr_iload_n C 1 dM_version_10 rfl rfl ?_
  refine wr_iload_n C 2 dM_version_11 rfl rfl ?_
  refine wr_callV1 C (As := [.int (nI k), .int b]) (rest := []) (mm_findO l Γ σ μ (k := k) b hb) cb_M_find (Or.inl tw_440) tw_441 tw_566 (by omega) (wc_c_Model) rfl (by decide) (by decide) rfl rfl (Nat.le_of_ble_eq_true rfl) ⟨Nat.le_refl _, Nat.le_refl _⟩ dM_version_12 ?_
  refine wr_goto C (tgt := 20) dM_version_15 (by decide) ?_
  refine wr_istore_n C (vs' := [(3, .int (-2)), (0, .ref (Γ.2.2 70)), (1, .int (nI k)), (2, .int b)]) dM_version_20 rfl (by decide) rfl ?_
  refine wr_iload_n C 0 dM_version_21 rfl rfl ?_
  refine wr_if_lt C (tgt := 34) dM_version_22 (by decide) (fun h2 => ?_) (fun h2 => ?_)
  ·
    refine wr_iload_n C 0 dM_version_34 rfl rfl ?_
    refine wr_iconst C (v := -1) dM_version_35 (by decide) ?_
    refine wr_icmp_ne C (tgt := 43) dM_version_36 (by decide) (fun h3 => ?_) (fun h3 => ?_)
    ·
      refine wr_iconst C (v := -1) dM_version_43 (by decide) ?_
      exact wr_iret C hr rfl hlk dM_version_44 (by rfl) (by rfl) (by rfl)
    ·
      exfalso; first | (revert h1; decide) | (revert h2; decide) | (revert h3; decide)
  ·
    exfalso; first | (revert h1; decide) | (revert h2; decide) | (revert h3; decide)
set_option maxRecDepth 100000 in
set_option maxHeartbeats 4000000 in
theorem mm_versionI (l : Launch) (Γ : wc_G) (σ μ : wc_St) {k i0 : Nat} (hk : k < 9) (hi0 : i0 < 4) (V : Nat) (hV : μ 37 0 0 = nI V) (hV5 : V ≤ 512) : wc_M l yM_version cM_version 4 (some .int) 2 Γ [.ref (Γ.2.2 70), .int (nI k), .int (nI i0)] σ μ (some (.int (fm_version μ (fm_find μ k V i0)))) σ (μ) := by
  refine wc_enter "WaitedCommitsModel" (by decide) rfl (Nat.le_of_ble_eq_true rfl) ?_
  intro P0 E0 S0 M0 A0 B0 T0 K0 C hr hlk
  refine wr_vs (vs' := [(0, .ref (Γ.2.2 70)), (1, .int (nI k)), (2, .int (nI i0))]) rfl ?_
  refine wr_iload_n C 1 dM_version_0 rfl rfl ?_
  refine wr_bipush C (v := nI 9) dM_version_1 (by decide) ?_
  refine wr_callS1 C (As := [.int (nI k), .int (nI 9)]) (rest := []) (mm_inI l Γ σ μ (j := k) (N := 9) (by omega) (by decide)) cb_M_in (Or.inl tw_399) tw_400 (by decide) (by decide) rfl rfl (Nat.le_of_ble_eq_true rfl) ⟨Nat.le_refl _, Nat.le_refl _⟩ dM_version_3 ?_
  refine wr_if_eq C (tgt := 18) dM_version_6 (by decide) (fun h1 => absurd h1 (by decide)) (fun _ => ?_)
  refine wr_aload_n C 0 dM_version_9 rfl rfl ?_
  refine wr_iload_n C 1 dM_version_10 rfl rfl ?_
  refine wr_iload_n C 2 dM_version_11 rfl rfl ?_
  refine wr_callV1 C (As := [.int (nI k), .int (nI i0)]) (rest := []) (mm_findI l Γ σ μ (k := k) (i0 := i0) (by omega) (by omega) V (by subst_vars; exact hV) hV5) cb_M_find (Or.inl tw_440) tw_441 tw_566 (by omega) (wc_c_Model) rfl (by decide) (by decide) rfl rfl (Nat.le_of_ble_eq_true rfl) ⟨Nat.le_refl _, Nat.le_refl _⟩ dM_version_12 ?_
  refine wr_goto C (tgt := 20) dM_version_15 (by decide) ?_
  refine wr_istore_n C (vs' := [(3, .int (fm_find μ k V i0)), (0, .ref (Γ.2.2 70)), (1, .int (nI k)), (2, .int (nI i0))]) dM_version_20 rfl (by decide) rfl ?_
  refine wr_iload_n C 0 dM_version_21 rfl rfl ?_
  refine wr_if_lt C (tgt := 34) dM_version_22 (by decide) (fun h2 => ?_) (fun h2 => ?_)
  ·
    refine wr_iload_n C 0 dM_version_34 rfl rfl ?_
    refine wr_iconst C (v := -1) dM_version_35 (by decide) ?_
    refine wr_icmp_ne C (tgt := 43) dM_version_36 (by decide) (fun h3 => ?_) (fun h3 => ?_)
    ·
      refine wr_iconst C (v := -1) dM_version_43 (by decide) ?_
      exact wr_iret C hr rfl hlk dM_version_44 (by first | (simp [fm_version, *]; done) | (simp_all [fm_version]; done) | (rw [hfj, fm_version, if_neg (nI_pos (by omega)), nI_clamp (by omega)]; done)) (by rfl) (by rfl)
    ·
      refine wr_iconst C (v := nI 0) dM_version_39 (by decide) ?_
      refine wr_goto C (tgt := 44) dM_version_40 (by decide) ?_
      exact wr_iret C hr rfl hlk dM_version_44 (by first | (simp [fm_version, *]; done) | (simp_all [fm_version]; done) | (rw [hfj, fm_version, if_neg (nI_pos (by omega)), nI_clamp (by omega)]; done)) (by rfl) (by rfl)
  ·
    refine wr_aload_n C 1 dM_version_25 rfl rfl ?_
    refine wf_Model_versionStamp C  (Or.inl tw_354) dM_version_26 ?_
    refine wr_iload_n C 0 dM_version_29 rfl rfl ?_
    obtain ⟨j, hj, hfj⟩ := fm_find_lt V i0 (by omega) (by assumption)
    refine wr_top hfj ?_
    refine wa_m_versionStamp C (by omega) dM_version_30 ?_
    refine wr_goto C (tgt := 44) dM_version_31 (by decide) ?_
    exact wr_iret C hr rfl hlk dM_version_44 (by first | (simp [fm_version, *]; done) | (simp_all [fm_version]; done) | (rw [hfj, fm_version, if_neg (nI_pos (by omega)), nI_clamp (by omega)]; done)) (by rfl) (by rfl)
set_option maxRecDepth 100000 in
set_option maxHeartbeats 4000000 in
theorem mm_now (l : Launch) (Γ : wc_G) (σ μ : wc_St)  : wc_M l yM_now cM_now 1 (some .int) 0 Γ [.ref (Γ.2.2 70)] σ μ (some (.int (μ 31 0 0))) σ (μ) := by
  refine wc_enter "WaitedCommitsModel" (by decide) rfl (Nat.le_of_ble_eq_true rfl) ?_
  intro P0 E0 S0 M0 A0 B0 T0 K0 C hr hlk
  refine wr_vs (vs' := [(0, .ref (Γ.2.2 70))]) rfl ?_
  refine wr_aload_n C 0 dM_now_0 rfl rfl ?_
  refine wf_Model_now C  (Or.inl tw_346) dM_now_1 ?_
  exact wr_iret C hr rfl hlk dM_now_4 (by rfl) (by rfl) (by rfl)
set_option maxRecDepth 100000 in
set_option maxHeartbeats 4000000 in
theorem mm_stateO (l : Launch) (Γ : wc_G) (σ μ : wc_St) (a : Int32) (ha : a < 0 ∨ nI 5 ≤ a) : wc_M l yM_state cM_state 2 (some .int) 1 Γ [.ref (Γ.2.2 70), .int a] σ μ (some (.int (-1))) σ (μ) := by
  refine wc_enter "WaitedCommitsModel" (by decide) rfl (Nat.le_of_ble_eq_true rfl) ?_
  intro P0 E0 S0 M0 A0 B0 T0 K0 C hr hlk
  refine wr_vs (vs' := [(0, .ref (Γ.2.2 70)), (1, .int a)]) rfl ?_
  refine wr_iload_n C 1 dM_state_0 rfl rfl ?_
  refine wr_iconst C (v := nI 5) dM_state_1 (by decide) ?_
  refine wr_callS1 C (As := [.int a, .int (nI 5)]) (rest := []) (mm_inO l Γ σ μ a (N := 5) ha) cb_M_in (Or.inl tw_399) tw_400 (by decide) (by decide) rfl rfl (Nat.le_of_ble_eq_true rfl) ⟨Nat.le_refl _, Nat.le_refl _⟩ dM_state_2 ?_
  refine wr_if_eq C (tgt := 17) dM_state_5 (by decide) (fun _ => ?_) (fun h1 => absurd (by decide) h1)
  refine wr_iconst C (v := -1) dM_state_17 (by decide) ?_
  exact wr_iret C hr rfl hlk dM_state_18 (by rfl) (by rfl) (by rfl)
set_option maxRecDepth 100000 in
set_option maxHeartbeats 4000000 in
theorem mm_stateI (l : Launch) (Γ : wc_G) (σ μ : wc_St) {t : Nat} (ht : t < 5) : wc_M l yM_state cM_state 2 (some .int) 1 Γ [.ref (Γ.2.2 70), .int (nI t)] σ μ (some (.int (μ 42 0 t))) σ (μ) := by
  refine wc_enter "WaitedCommitsModel" (by decide) rfl (Nat.le_of_ble_eq_true rfl) ?_
  intro P0 E0 S0 M0 A0 B0 T0 K0 C hr hlk
  refine wr_vs (vs' := [(0, .ref (Γ.2.2 70)), (1, .int (nI t))]) rfl ?_
  refine wr_iload_n C 1 dM_state_0 rfl rfl ?_
  refine wr_iconst C (v := nI 5) dM_state_1 (by decide) ?_
  refine wr_callS1 C (As := [.int (nI t), .int (nI 5)]) (rest := []) (mm_inI l Γ σ μ (j := t) (N := 5) (by omega) (by decide)) cb_M_in (Or.inl tw_399) tw_400 (by decide) (by decide) rfl rfl (Nat.le_of_ble_eq_true rfl) ⟨Nat.le_refl _, Nat.le_refl _⟩ dM_state_2 ?_
  refine wr_if_eq C (tgt := 17) dM_state_5 (by decide) (fun h1 => absurd h1 (by decide)) (fun _ => ?_)
  refine wr_aload_n C 0 dM_state_8 rfl rfl ?_
  refine wf_Model_state C  (Or.inl tw_357) dM_state_9 ?_
  refine wr_iload_n C 1 dM_state_12 rfl rfl ?_
  refine wa_m_state C (by omega) dM_state_13 ?_
  refine wr_goto C (tgt := 18) dM_state_14 (by decide) ?_
  exact wr_iret C hr rfl hlk dM_state_18 (by rfl) (by rfl) (by rfl)
set_option maxRecDepth 100000 in
set_option maxHeartbeats 4000000 in
theorem mm_stampO (l : Launch) (Γ : wc_G) (σ μ : wc_St) (a : Int32) (ha : a < 0 ∨ nI 5 ≤ a) : wc_M l yM_stamp cM_stamp 2 (some .int) 1 Γ [.ref (Γ.2.2 70), .int a] σ μ (some (.int (-1))) σ (μ) := by
  refine wc_enter "WaitedCommitsModel" (by decide) rfl (Nat.le_of_ble_eq_true rfl) ?_
  intro P0 E0 S0 M0 A0 B0 T0 K0 C hr hlk
  refine wr_vs (vs' := [(0, .ref (Γ.2.2 70)), (1, .int a)]) rfl ?_
  refine wr_iload_n C 1 dM_stamp_0 rfl rfl ?_
  refine wr_iconst C (v := nI 5) dM_stamp_1 (by decide) ?_
  refine wr_callS1 C (As := [.int a, .int (nI 5)]) (rest := []) (mm_inO l Γ σ μ a (N := 5) ha) cb_M_in (Or.inl tw_399) tw_400 (by decide) (by decide) rfl rfl (Nat.le_of_ble_eq_true rfl) ⟨Nat.le_refl _, Nat.le_refl _⟩ dM_stamp_2 ?_
  refine wr_if_eq C (tgt := 37) dM_stamp_5 (by decide) (fun _ => ?_) (fun h1 => absurd (by decide) h1)
  refine wr_iconst C (v := -1) dM_stamp_37 (by decide) ?_
  exact wr_iret C hr rfl hlk dM_stamp_38 (by rfl) (by rfl) (by rfl)
set_option maxRecDepth 100000 in
set_option maxHeartbeats 4000000 in
theorem mm_stampI (l : Launch) (Γ : wc_G) (σ μ : wc_St) {t : Nat} (ht : t < 5) : wc_M l yM_stamp cM_stamp 2 (some .int) 1 Γ [.ref (Γ.2.2 70), .int (nI t)] σ μ (some (.int (fm_stamp μ t))) σ (μ) := by
  refine wc_enter "WaitedCommitsModel" (by decide) rfl (Nat.le_of_ble_eq_true rfl) ?_
  intro P0 E0 S0 M0 A0 B0 T0 K0 C hr hlk
  refine wr_vs (vs' := [(0, .ref (Γ.2.2 70)), (1, .int (nI t))]) rfl ?_
  refine wr_iload_n C 1 dM_stamp_0 rfl rfl ?_
  refine wr_iconst C (v := nI 5) dM_stamp_1 (by decide) ?_
  refine wr_callS1 C (As := [.int (nI t), .int (nI 5)]) (rest := []) (mm_inI l Γ σ μ (j := t) (N := 5) (by omega) (by decide)) cb_M_in (Or.inl tw_399) tw_400 (by decide) (by decide) rfl rfl (Nat.le_of_ble_eq_true rfl) ⟨Nat.le_refl _, Nat.le_refl _⟩ dM_stamp_2 ?_
  refine wr_if_eq C (tgt := 37) dM_stamp_5 (by decide) (fun h1 => absurd h1 (by decide)) (fun _ => ?_)
  refine wr_aload_n C 0 dM_stamp_8 rfl rfl ?_
  refine wf_Model_state C  (Or.inl tw_357) dM_stamp_9 ?_
  refine wr_iload_n C 1 dM_stamp_12 rfl rfl ?_
  refine wa_m_state C (by omega) dM_stamp_13 ?_
  refine wr_iconst C (v := nI 3) dM_stamp_14 (by decide) ?_
  refine wr_icmp_eq C (tgt := 28) dM_stamp_15 (by decide) (fun h2 => ?_) (fun h2 => ?_)
  ·
    refine wr_aload_n C 0 dM_stamp_28 rfl rfl ?_
    refine wf_Model_stamp C  (Or.inl tw_359) dM_stamp_29 ?_
    refine wr_iload_n C 1 dM_stamp_32 rfl rfl ?_
    refine wa_m_stamp C (by omega) dM_stamp_33 ?_
    refine wr_goto C (tgt := 38) dM_stamp_34 (by decide) ?_
    exact wr_iret C hr rfl hlk dM_stamp_38 (by subst_vars; first | (simp [fm_stamp, wc_nIe, wc_nI0, wc_nIm, *]; done) | (simp_all [fm_stamp, wc_nIe, wc_nI0, wc_nIm]; done)) (by rfl) (by rfl)
  ·
    refine wr_aload_n C 0 dM_stamp_18 rfl rfl ?_
    refine wf_Model_state C  (Or.inl tw_357) dM_stamp_19 ?_
    refine wr_iload_n C 1 dM_stamp_22 rfl rfl ?_
    refine wa_m_state C (by omega) dM_stamp_23 ?_
    refine wr_iconst C (v := nI 4) dM_stamp_24 (by decide) ?_
    refine wr_icmp_ne C (tgt := 37) dM_stamp_25 (by decide) (fun h3 => ?_) (fun h3 => ?_)
    ·
      refine wr_iconst C (v := -1) dM_stamp_37 (by decide) ?_
      exact wr_iret C hr rfl hlk dM_stamp_38 (by subst_vars; first | (simp [fm_stamp, wc_nIe, wc_nI0, wc_nIm, *]; done) | (simp_all [fm_stamp, wc_nIe, wc_nI0, wc_nIm]; done)) (by rfl) (by rfl)
    ·
      refine wr_aload_n C 0 dM_stamp_28 rfl rfl ?_
      refine wf_Model_stamp C  (Or.inl tw_359) dM_stamp_29 ?_
      refine wr_iload_n C 1 dM_stamp_32 rfl rfl ?_
      refine wa_m_stamp C (by omega) dM_stamp_33 ?_
      refine wr_goto C (tgt := 38) dM_stamp_34 (by decide) ?_
      exact wr_iret C hr rfl hlk dM_stamp_38 (by subst_vars; first | (simp [fm_stamp, wc_nIe, wc_nI0, wc_nIm, *]; done) | (simp_all [fm_stamp, wc_nIe, wc_nI0, wc_nIm]; done)) (by rfl) (by rfl)
set_option maxRecDepth 100000 in
set_option maxHeartbeats 4000000 in
theorem mm_endO (l : Launch) (Γ : wc_G) (σ μ : wc_St) (a : Int32) (ha : a < 0 ∨ nI 5 ≤ a) : wc_M l yM_end cM_end 2 (some .int) 1 Γ [.ref (Γ.2.2 70), .int a] σ μ (some (.int (-1))) σ (μ) := by
  refine wc_enter "WaitedCommitsModel" (by decide) rfl (Nat.le_of_ble_eq_true rfl) ?_
  intro P0 E0 S0 M0 A0 B0 T0 K0 C hr hlk
  refine wr_vs (vs' := [(0, .ref (Γ.2.2 70)), (1, .int a)]) rfl ?_
  refine wr_iload_n C 1 dM_end_0 rfl rfl ?_
  refine wr_iconst C (v := nI 5) dM_end_1 (by decide) ?_
  refine wr_callS1 C (As := [.int a, .int (nI 5)]) (rest := []) (mm_inO l Γ σ μ a (N := 5) ha) cb_M_in (Or.inl tw_399) tw_400 (by decide) (by decide) rfl rfl (Nat.le_of_ble_eq_true rfl) ⟨Nat.le_refl _, Nat.le_refl _⟩ dM_end_2 ?_
  refine wr_if_eq C (tgt := 27) dM_end_5 (by decide) (fun _ => ?_) (fun h1 => absurd (by decide) h1)
  refine wr_iconst C (v := -1) dM_end_27 (by decide) ?_
  exact wr_iret C hr rfl hlk dM_end_28 (by rfl) (by rfl) (by rfl)
set_option maxRecDepth 100000 in
set_option maxHeartbeats 4000000 in
theorem mm_endI (l : Launch) (Γ : wc_G) (σ μ : wc_St) {t : Nat} (ht : t < 5) : wc_M l yM_end cM_end 2 (some .int) 1 Γ [.ref (Γ.2.2 70), .int (nI t)] σ μ (some (.int (fm_end μ t))) σ (μ) := by
  refine wc_enter "WaitedCommitsModel" (by decide) rfl (Nat.le_of_ble_eq_true rfl) ?_
  intro P0 E0 S0 M0 A0 B0 T0 K0 C hr hlk
  refine wr_vs (vs' := [(0, .ref (Γ.2.2 70)), (1, .int (nI t))]) rfl ?_
  refine wr_iload_n C 1 dM_end_0 rfl rfl ?_
  refine wr_iconst C (v := nI 5) dM_end_1 (by decide) ?_
  refine wr_callS1 C (As := [.int (nI t), .int (nI 5)]) (rest := []) (mm_inI l Γ σ μ (j := t) (N := 5) (by omega) (by decide)) cb_M_in (Or.inl tw_399) tw_400 (by decide) (by decide) rfl rfl (Nat.le_of_ble_eq_true rfl) ⟨Nat.le_refl _, Nat.le_refl _⟩ dM_end_2 ?_
  refine wr_if_eq C (tgt := 27) dM_end_5 (by decide) (fun h1 => absurd h1 (by decide)) (fun _ => ?_)
  refine wr_aload_n C 0 dM_end_8 rfl rfl ?_
  refine wf_Model_state C  (Or.inl tw_357) dM_end_9 ?_
  refine wr_iload_n C 1 dM_end_12 rfl rfl ?_
  refine wa_m_state C (by omega) dM_end_13 ?_
  refine wr_iconst C (v := nI 4) dM_end_14 (by decide) ?_
  refine wr_icmp_ne C (tgt := 27) dM_end_15 (by decide) (fun h2 => ?_) (fun h2 => ?_)
  ·
    refine wr_iconst C (v := -1) dM_end_27 (by decide) ?_
    exact wr_iret C hr rfl hlk dM_end_28 (by subst_vars; first | (simp [fm_end, wc_nIe, wc_nI0, wc_nIm, *]; done) | (simp_all [fm_end, wc_nIe, wc_nI0, wc_nIm]; done)) (by rfl) (by rfl)
  ·
    refine wr_aload_n C 0 dM_end_18 rfl rfl ?_
    refine wf_Model_ended C  (Or.inl tw_361) dM_end_19 ?_
    refine wr_iload_n C 1 dM_end_22 rfl rfl ?_
    refine wa_m_ended C (by omega) dM_end_23 ?_
    refine wr_goto C (tgt := 28) dM_end_24 (by decide) ?_
    exact wr_iret C hr rfl hlk dM_end_28 (by subst_vars; first | (simp [fm_end, wc_nIe, wc_nI0, wc_nIm, *]; done) | (simp_all [fm_end, wc_nIe, wc_nI0, wc_nIm]; done)) (by rfl) (by rfl)
set_option maxRecDepth 100000 in
set_option maxHeartbeats 4000000 in
theorem mm_boundO (l : Launch) (Γ : wc_G) (σ μ : wc_St) (a : Int32) (ha : a < 0 ∨ nI 3 ≤ a) : wc_M l yM_bound cM_bound 2 (some .int) 1 Γ [.ref (Γ.2.2 70), .int a] σ μ (some (.int (-1))) σ (μ) := by
  refine wc_enter "WaitedCommitsModel" (by decide) rfl (Nat.le_of_ble_eq_true rfl) ?_
  intro P0 E0 S0 M0 A0 B0 T0 K0 C hr hlk
  refine wr_vs (vs' := [(0, .ref (Γ.2.2 70)), (1, .int a)]) rfl ?_
  refine wr_iload_n C 1 dM_bound_0 rfl rfl ?_
  refine wr_iconst C (v := nI 3) dM_bound_1 (by decide) ?_
  refine wr_callS1 C (As := [.int a, .int (nI 3)]) (rest := []) (mm_inO l Γ σ μ a (N := 3) ha) cb_M_in (Or.inl tw_399) tw_400 (by decide) (by decide) rfl rfl (Nat.le_of_ble_eq_true rfl) ⟨Nat.le_refl _, Nat.le_refl _⟩ dM_bound_2 ?_
  refine wr_if_eq C (tgt := 17) dM_bound_5 (by decide) (fun _ => ?_) (fun h1 => absurd (by decide) h1)
  refine wr_iconst C (v := -1) dM_bound_17 (by decide) ?_
  exact wr_iret C hr rfl hlk dM_bound_18 (by rfl) (by rfl) (by rfl)
set_option maxRecDepth 100000 in
set_option maxHeartbeats 4000000 in
theorem mm_boundI (l : Launch) (Γ : wc_G) (σ μ : wc_St) {q : Nat} (hq : q < 3) : wc_M l yM_bound cM_bound 2 (some .int) 1 Γ [.ref (Γ.2.2 70), .int (nI q)] σ μ (some (.int (μ 36 0 q))) σ (μ) := by
  refine wc_enter "WaitedCommitsModel" (by decide) rfl (Nat.le_of_ble_eq_true rfl) ?_
  intro P0 E0 S0 M0 A0 B0 T0 K0 C hr hlk
  refine wr_vs (vs' := [(0, .ref (Γ.2.2 70)), (1, .int (nI q))]) rfl ?_
  refine wr_iload_n C 1 dM_bound_0 rfl rfl ?_
  refine wr_iconst C (v := nI 3) dM_bound_1 (by decide) ?_
  refine wr_callS1 C (As := [.int (nI q), .int (nI 3)]) (rest := []) (mm_inI l Γ σ μ (j := q) (N := 3) (by omega) (by decide)) cb_M_in (Or.inl tw_399) tw_400 (by decide) (by decide) rfl rfl (Nat.le_of_ble_eq_true rfl) ⟨Nat.le_refl _, Nat.le_refl _⟩ dM_bound_2 ?_
  refine wr_if_eq C (tgt := 17) dM_bound_5 (by decide) (fun h1 => absurd h1 (by decide)) (fun _ => ?_)
  refine wr_aload_n C 0 dM_bound_8 rfl rfl ?_
  refine wf_Model_bound C  (Or.inl tw_351) dM_bound_9 ?_
  refine wr_iload_n C 1 dM_bound_12 rfl rfl ?_
  refine wa_m_bound C (by omega) dM_bound_13 ?_
  refine wr_goto C (tgt := 18) dM_bound_14 (by decide) ?_
  exact wr_iret C hr rfl hlk dM_bound_18 (by rfl) (by rfl) (by rfl)
set_option maxRecDepth 100000 in
set_option maxHeartbeats 4000000 in
theorem mn_safe {P0 : Program} {l : Launch} {E0 : Env} {S0 : State} {M0 : MethodId} {A0 : Array Value} {B0 : List Frame} {T0 : Method} {K0 : Code} {Γ : wc_G} {A : Nat → Prop} {v : Option Value} {σ' μ' : wc_St} (C : wc_C P0 S0 M0 A0 K0 cM_safe 4 "WaitedCommitsModel" Γ A) (hr : T0.sig.returnType = (some .int)) (hlk : T0.locks = false) {q : Nat} (hq : q < 3) (σ μ : wc_St) (hσ : σ = σ') (hμ : μ = μ') : ∀ (n : Nat) (t : Nat) (y : Int32), t + n = 5 → some (.int (fm_safe μ q n t y)) = v → wc_K P0 l E0 (wc_rm 1) S0 M0 A0 B0 T0 K0 4 Γ A (MQ B0 (wc_Qw Γ A v σ' μ') A0 S0 0 0 A) 0 0 33 [(3, .int (nI t)), (2, .int y), (0, .ref (Γ.2.2 70)), (1, .int (nI q))] [] σ μ := by
  subst hσ; subst hμ
  intro n
  induction n with
  | zero =>
    intro t y ht hv
    obtain rfl : t = 5 := by omega
    refine wr_iload_n C 0 dM_safe_33 rfl rfl ?_
    refine wr_iconst C (v := nI 5) dM_safe_34 (by decide) ?_
    refine wr_icmp_ge C (tgt := 84) dM_safe_35 (by decide) (fun _ => ?_) (fun h1 => absurd (by decide) h1)
    refine wr_iload_n C 1 dM_safe_84 rfl rfl ?_
    exact wr_iret C hr rfl hlk dM_safe_85 (by exact hv) (by rfl) (by rfl)
  | succ n ih =>
    intro t y ht hv
    refine wr_iload_n C 0 dM_safe_33 rfl rfl ?_
    refine wr_iconst C (v := nI 5) dM_safe_34 (by decide) ?_
    refine wr_icmp_ge C (tgt := 84) dM_safe_35 (by decide) (fun h1 => absurd h1 (wc_noge (by omega) (by omega) (by omega))) (fun _ => ?_)
    refine wr_aload_n C 2 dM_safe_38 rfl rfl ?_
    refine wf_Model_marked C  (Or.inl tw_365) dM_safe_39 ?_
    refine wr_iconst C (v := nI 3) dM_safe_42 (by decide) ?_
    refine wr_iload_n C 0 dM_safe_43 rfl rfl ?_
    refine wr_imul C (z := nI (3 * t)) dM_safe_44 (pk_mul 3 t) ?_
    refine wr_iload_n C 3 dM_safe_45 rfl rfl ?_
    refine wr_iadd C (z := nI (3 * t + q)) dM_safe_46 (nI_add (3 * t) q) ?_
    refine wa_m_marked C (by omega) dM_safe_47 ?_
    refine wr_if_eq C (tgt := 78) dM_safe_48 (by decide) (fun h2 => ?_) (fun h2 => ?_)
    ·
      refine wr_iinc C (v := nI (t + 1)) (vs' := [(3, .int (nI (t + 1))), (2, .int y), (0, .ref (Γ.2.2 70)), (1, .int (nI q))]) 0 dM_safe_78 rfl (wc_inc1 t) (by decide) rfl ?_
      refine wr_goto C (tgt := 33) dM_safe_81 (by decide) ?_
      refine wr_sub [0, 1, 2, 3] rfl ?_
      exact ih (t + 1) y (by omega) (by rw [← hv]; simp [fm_safe, *])
    ·
      refine wr_aload_n C 2 dM_safe_51 rfl rfl ?_
      refine wf_Model_mark C  (Or.inl tw_366) dM_safe_52 ?_
      refine wr_iconst C (v := nI 3) dM_safe_55 (by decide) ?_
      refine wr_iload_n C 0 dM_safe_56 rfl rfl ?_
      refine wr_imul C (z := nI (3 * t)) dM_safe_57 (pk_mul 3 t) ?_
      refine wr_iload_n C 3 dM_safe_58 rfl rfl ?_
      refine wr_iadd C (z := nI (3 * t + q)) dM_safe_59 (nI_add (3 * t) q) ?_
      refine wa_m_mark C (by omega) dM_safe_60 ?_
      refine wr_iload_n C 1 dM_safe_61 rfl rfl ?_
      refine wr_icmp_gt C (tgt := 78) dM_safe_62 (by decide) (fun h3 => ?_) (fun h3 => ?_)
      ·
        refine wr_iinc C (v := nI (t + 1)) (vs' := [(3, .int (nI (t + 1))), (2, .int y), (0, .ref (Γ.2.2 70)), (1, .int (nI q))]) 0 dM_safe_78 rfl (wc_inc1 t) (by decide) rfl ?_
        refine wr_goto C (tgt := 33) dM_safe_81 (by decide) ?_
        refine wr_sub [0, 1, 2, 3] rfl ?_
        exact ih (t + 1) y (by omega) (by rw [← hv]; simp [fm_safe, *])
      ·
        refine wr_aload_n C 2 dM_safe_65 rfl rfl ?_
        refine wf_Model_mark C  (Or.inl tw_366) dM_safe_66 ?_
        refine wr_iconst C (v := nI 3) dM_safe_69 (by decide) ?_
        refine wr_iload_n C 0 dM_safe_70 rfl rfl ?_
        refine wr_imul C (z := nI (3 * t)) dM_safe_71 (pk_mul 3 t) ?_
        refine wr_iload_n C 3 dM_safe_72 rfl rfl ?_
        refine wr_iadd C (z := nI (3 * t + q)) dM_safe_73 (nI_add (3 * t) q) ?_
        refine wa_m_mark C (by omega) dM_safe_74 ?_
        refine wr_iconst C (v := nI 1) dM_safe_75 (by decide) ?_
        refine wr_isub C (z := (μ 51 0 (3 * t + q)) - (nI 1)) dM_safe_76 rfl ?_
        refine wr_istore_n C (vs' := [(2, .int ((μ 51 0 (3 * t + q)) - (nI 1))), (3, .int (nI t)), (0, .ref (Γ.2.2 70)), (1, .int (nI q))]) dM_safe_77 rfl (by decide) rfl ?_
        refine wr_iinc C (v := nI (t + 1)) (vs' := [(3, .int (nI (t + 1))), (2, .int ((μ 51 0 (3 * t + q)) - (nI 1))), (0, .ref (Γ.2.2 70)), (1, .int (nI q))]) 1 dM_safe_78 rfl (wc_inc1 t) (by decide) rfl ?_
        refine wr_goto C (tgt := 33) dM_safe_81 (by decide) ?_
        refine wr_sub [0, 1, 2, 3] rfl ?_
        exact ih (t + 1) ((μ 51 0 (3 * t + q)) - (nI 1)) (by omega) (by rw [← hv]; simp [fm_safe, *])
set_option maxRecDepth 100000 in
set_option maxHeartbeats 4000000 in
theorem mm_safeI (l : Launch) (Γ : wc_G) (σ μ : wc_St) {q : Nat} (hq : q < 3) : wc_M l yM_safe cM_safe 4 (some .int) 1 Γ [.ref (Γ.2.2 70), .int (nI q)] σ μ (some (.int (fm_safe2 μ q))) σ (μ) := by
  refine wc_enter "WaitedCommitsModel" (by decide) rfl (Nat.le_of_ble_eq_true rfl) ?_
  intro P0 E0 S0 M0 A0 B0 T0 K0 C hr hlk
  refine wr_vs (vs' := [(0, .ref (Γ.2.2 70)), (1, .int (nI q))]) rfl ?_
  refine wr_iload_n C 1 dM_safe_0 rfl rfl ?_
  refine wr_iconst C (v := nI 3) dM_safe_1 (by decide) ?_
  refine wr_callS1 C (As := [.int (nI q), .int (nI 3)]) (rest := []) (mm_inI l Γ σ μ (j := q) (N := 3) (by omega) (by decide)) cb_M_in (Or.inl tw_399) tw_400 (by decide) (by decide) rfl rfl (Nat.le_of_ble_eq_true rfl) ⟨Nat.le_refl _, Nat.le_refl _⟩ dM_safe_2 ?_
  refine wr_if_eq C (tgt := 17) dM_safe_5 (by decide) (fun h1 => absurd h1 (by decide)) (fun _ => ?_)
  refine wr_aload_n C 0 dM_safe_8 rfl rfl ?_
  refine wf_Model_down C  (Or.inl tw_350) dM_safe_9 ?_
  refine wr_iload_n C 1 dM_safe_12 rfl rfl ?_
  refine wa_m_down C (by omega) dM_safe_13 ?_
  refine wr_if_eq C (tgt := 19) dM_safe_14 (by decide) (fun h2 => ?_) (fun h2 => ?_)
  ·
    refine wr_aload_n C 0 dM_safe_19 rfl rfl ?_
    refine wf_Model_now C  (Or.inl tw_346) dM_safe_20 ?_
    refine wr_aload_n C 0 dM_safe_23 rfl rfl ?_
    refine wf_Model_late C  (Or.inl tw_348) dM_safe_24 ?_
    refine wr_iload_n C 1 dM_safe_27 rfl rfl ?_
    refine wa_m_late C (by omega) dM_safe_28 ?_
    refine wr_iadd C (z := (μ 31 0 0) + (μ 33 0 q)) dM_safe_29 rfl ?_
    refine wr_istore_n C (vs' := [(2, .int ((μ 31 0 0) + (μ 33 0 q))), (0, .ref (Γ.2.2 70)), (1, .int (nI q))]) dM_safe_30 rfl (by decide) rfl ?_
    refine wr_iconst C (v := nI 0) dM_safe_31 (by decide) ?_
    refine wr_istore_n C (vs' := [(3, .int (nI 0)), (2, .int ((μ 31 0 0) + (μ 33 0 q))), (0, .ref (Γ.2.2 70)), (1, .int (nI q))]) dM_safe_32 rfl (by decide) rfl ?_
    refine wr_sub [0, 1, 2, 3] rfl ?_
    exact mn_safe C hr hlk hq σ μ rfl rfl 5 0 (μ 31 0 0 + μ 33 0 q) rfl (by simp [fm_safe2, *])
  ·
    refine wr_iconst C (v := -1) dM_safe_17 (by decide) ?_
    exact wr_iret C hr rfl hlk dM_safe_18 (by subst_vars; first | (simp [fm_safe2, wc_nIe, wc_nI0, wc_nIm, *]; done) | (simp_all [fm_safe2, wc_nIe, wc_nI0, wc_nIm]; done)) (by rfl) (by rfl)
set_option maxRecDepth 100000 in
set_option maxHeartbeats 4000000 in
theorem mm_safeO (l : Launch) (Γ : wc_G) (σ μ : wc_St) (a : Int32) (ha : a < 0 ∨ nI 3 ≤ a) : wc_M l yM_safe cM_safe 4 (some .int) 1 Γ [.ref (Γ.2.2 70), .int a] σ μ (some (.int (-1))) σ (μ) := by
  refine wc_enter "WaitedCommitsModel" (by decide) rfl (Nat.le_of_ble_eq_true rfl) ?_
  intro P0 E0 S0 M0 A0 B0 T0 K0 C hr hlk
  refine wr_vs (vs' := [(0, .ref (Γ.2.2 70)), (1, .int a)]) rfl ?_
  refine wr_iload_n C 1 dM_safe_0 rfl rfl ?_
  refine wr_iconst C (v := nI 3) dM_safe_1 (by decide) ?_
  refine wr_callS1 C (As := [.int a, .int (nI 3)]) (rest := []) (mm_inO l Γ σ μ a (N := 3) ha) cb_M_in (Or.inl tw_399) tw_400 (by decide) (by decide) rfl rfl (Nat.le_of_ble_eq_true rfl) ⟨Nat.le_refl _, Nat.le_refl _⟩ dM_safe_2 ?_
  refine wr_if_eq C (tgt := 17) dM_safe_5 (by decide) (fun _ => ?_) (fun h1 => absurd (by decide) h1)
  refine wr_iconst C (v := -1) dM_safe_17 (by decide) ?_
  exact wr_iret C hr rfl hlk dM_safe_18 (by rfl) (by rfl) (by rfl)
set_option maxRecDepth 100000 in
set_option maxHeartbeats 4000000 in
theorem mm_readAtO (l : Launch) (Γ : wc_G) (σ μ : wc_St) (a : Int32) (ha : a < 0 ∨ nI 9 ≤ a) (r : Int32) : wc_M l yM_readAt cM_readAt 5 (some .long) 2 Γ [.ref (Γ.2.2 70), .int a, .int r] σ μ (some (.long 1099511627776)) σ (μ) := by
  refine wc_enter "WaitedCommitsModel" (by decide) rfl (Nat.le_of_ble_eq_true rfl) ?_
  intro P0 E0 S0 M0 A0 B0 T0 K0 C hr hlk
  refine wr_vs (vs' := [(0, .ref (Γ.2.2 70)), (1, .int a), (2, .int r)]) rfl ?_
  refine wr_iload_n C 1 dM_readAt_0 rfl rfl ?_
  refine wr_bipush C (v := nI 9) dM_readAt_1 (by decide) ?_
  refine wr_callS1 C (As := [.int a, .int (nI 9)]) (rest := []) (mm_inO l Γ σ μ a (N := 9) ha) cb_M_in (Or.inl tw_399) tw_400 (by decide) (by decide) rfl rfl (Nat.le_of_ble_eq_true rfl) ⟨Nat.le_refl _, Nat.le_refl _⟩ dM_readAt_3 ?_
  refine wr_if_eq C (tgt := 31) dM_readAt_6 (by decide) (fun _ => ?_) (fun h1 => absurd (by decide) h1)
  refine wr_ldc2 C dM_readAt_31 tw_439 ?_
  exact wr_lret C hr hlk dM_readAt_34 (by rfl) (by rfl) (by rfl)
set_option maxRecDepth 100000 in
set_option maxHeartbeats 4000000 in
theorem mn_rat {P0 : Program} {l : Launch} {E0 : Env} {S0 : State} {M0 : MethodId} {A0 : Array Value} {B0 : List Frame} {T0 : Method} {K0 : Code} {Γ : wc_G} {A : Nat → Prop} {v : Option Value} {σ' μ' : wc_St} (C : wc_C P0 S0 M0 A0 K0 cM_readAt 5 "WaitedCommitsModel" Γ A) (hr : T0.sig.returnType = (some .long)) (hlk : T0.locks = false) {k : Nat} (hk : k < 9) (r : Int32) (σ μ : wc_St) (hσ : σ = σ') (hμ : μ = μ') (V : Nat) (hV : μ 37 0 0 = nI V) (hV5 : V ≤ 512) : ∀ (n : Nat) (i : Nat), i + n = 4 → some (.long (fm_rat μ k r n i)) = v → wc_K P0 l E0 (wc_rm 2) S0 M0 A0 B0 T0 K0 5 Γ A (MQ B0 (wc_Qw Γ A v σ' μ') A0 S0 0 0 A) 0 0 45 [(3, .int (nI i)), (0, .ref (Γ.2.2 70)), (1, .int (nI k)), (2, .int r)] [] σ μ := by
  subst hσ; subst hμ
  intro n
  induction n with
  | zero =>
    intro i hi hv
    obtain rfl : i = 4 := by omega
    refine wr_iload_n C 0 dM_readAt_45 rfl rfl ?_
    refine wr_iconst C (v := nI 4) dM_readAt_46 (by decide) ?_
    refine wr_icmp_ge C (tgt := 101) dM_readAt_47 (by decide) (fun _ => ?_) (fun h1 => absurd (by decide) h1)
    refine wr_ldc2 C dM_readAt_101 tw_495 ?_
    exact wr_lret C hr hlk dM_readAt_104 (by rw [← hv]; first | (simp [fm_rat, fm_vers_eq hV (by omega), *]; done) | (simp [fm_rat, fm_vers_eq hV (by omega), nI_clamp (show j < 2 ^ 31 by omega), nI_pos (show j < 2 ^ 31 by omega), *]; done) | (rw [fm_rat, fm_vers_eq hV (by omega), hfj, if_neg (nI_pos (by omega)), nI_clamp (by omega), if_neg (by assumption)]; done) | (exact absurd (by rw [h6]; decide) h2)) (by rfl) (by rfl)
  | succ n ih =>
    intro i hi hv
    refine wr_iload_n C 0 dM_readAt_45 rfl rfl ?_
    refine wr_iconst C (v := nI 4) dM_readAt_46 (by decide) ?_
    refine wr_icmp_ge C (tgt := 101) dM_readAt_47 (by decide) (fun h1 => absurd h1 (wc_noge (by omega) (by omega) (by omega))) (fun _ => ?_)
    refine wr_aload_n C 1 dM_readAt_50 rfl rfl ?_
    refine wr_iload_n C 2 dM_readAt_51 rfl rfl ?_
    refine wr_iload_n C 0 dM_readAt_52 rfl rfl ?_
    refine wr_callV1 C (As := [.int (nI k), .int (nI i)]) (rest := []) (mm_findI l Γ σ μ (k := k) (i0 := i) (by omega) (by omega) V (by subst_vars; exact hV) hV5) cb_M_find (Or.inl tw_440) tw_441 tw_566 (by omega) (wc_c_Model) rfl (by decide) (by decide) rfl rfl (Nat.le_of_ble_eq_true rfl) ⟨Nat.le_refl _, Nat.le_refl _⟩ dM_readAt_53 ?_
    refine wr_istore C (vs' := [(4, .int (fm_find μ k V i)), (3, .int (nI i)), (0, .ref (Γ.2.2 70)), (1, .int (nI k)), (2, .int r)]) dM_readAt_56 (by decide) rfl ?_
    refine wr_iload C 0 dM_readAt_58 rfl ?_
    refine wr_if_lt C (tgt := 83) dM_readAt_60 (by decide) (fun h2 => ?_) (fun h2 => ?_)
    ·
      refine wr_iload C 0 dM_readAt_83 rfl ?_
      refine wr_iconst C (v := -1) dM_readAt_85 (by decide) ?_
      refine wr_icmp_ne C (tgt := 95) dM_readAt_86 (by decide) (fun h3 => ?_) (fun h3 => ?_)
      ·
        refine wr_iinc C (v := nI (i + 1)) (vs' := [(3, .int (nI (i + 1))), (4, .int (fm_find μ k V i)), (0, .ref (Γ.2.2 70)), (1, .int (nI k)), (2, .int r)]) 1 dM_readAt_95 rfl (wc_inc1 i) (by decide) rfl ?_
        refine wr_goto C (tgt := 45) dM_readAt_98 (by decide) ?_
        refine wr_sub [0, 2, 3, 4] rfl ?_
        exact ih (i + 1) (by omega) (by rw [← hv]; first | (simp [fm_rat, fm_vers_eq hV (by omega), *]; done) | (simp [fm_rat, fm_vers_eq hV (by omega), nI_clamp (show j < 2 ^ 31 by omega), nI_pos (show j < 2 ^ 31 by omega), *]; done) | (rw [fm_rat, fm_vers_eq hV (by omega), hfj, if_neg (nI_pos (by omega)), nI_clamp (by omega), if_pos (by assumption)]; done))
      ·
        refine wr_iload_n C 4 dM_readAt_89 rfl rfl ?_
        refine wr_if_lt C (tgt := 95) dM_readAt_90 (by decide) (fun h4 => ?_) (fun h4 => ?_)
        ·
          refine wr_iinc C (v := nI (i + 1)) (vs' := [(3, .int (nI (i + 1))), (4, .int (fm_find μ k V i)), (0, .ref (Γ.2.2 70)), (1, .int (nI k)), (2, .int r)]) 1 dM_readAt_95 rfl (wc_inc1 i) (by decide) rfl ?_
          refine wr_goto C (tgt := 45) dM_readAt_98 (by decide) ?_
          refine wr_sub [0, 2, 3, 4] rfl ?_
          exact ih (i + 1) (by omega) (by rw [← hv]; first | (simp [fm_rat, fm_vers_eq hV (by omega), *]; done) | (simp [fm_rat, fm_vers_eq hV (by omega), nI_clamp (show j < 2 ^ 31 by omega), nI_pos (show j < 2 ^ 31 by omega), *]; done) | (rw [fm_rat, fm_vers_eq hV (by omega), hfj, if_neg (nI_pos (by omega)), nI_clamp (by omega), if_pos (by assumption)]; done))
        ·
          refine wr_lconst C dM_readAt_93 ?_
          exact wr_lret C hr hlk dM_readAt_94 (by rw [← hv]; first | (simp [fm_rat, fm_vers_eq hV (by omega), *]; done) | (simp [fm_rat, fm_vers_eq hV (by omega), nI_clamp (show j < 2 ^ 31 by omega), nI_pos (show j < 2 ^ 31 by omega), *]; done) | (rw [fm_rat, fm_vers_eq hV (by omega), hfj, if_neg (nI_pos (by omega)), nI_clamp (by omega), if_neg (by assumption)]; done) | (exact absurd (by rw [h6]; decide) h2)) (by rfl) (by rfl)
    ·
      refine wr_aload_n C 2 dM_readAt_63 rfl rfl ?_
      refine wf_Model_versionStamp C  (Or.inl tw_354) dM_readAt_64 ?_
      refine wr_iload C 0 dM_readAt_67 rfl ?_
      obtain ⟨j, hj, hfj⟩ := fm_find_lt V i (by omega) (by assumption)
      refine wr_top hfj ?_
      refine wa_m_versionStamp C (by omega) dM_readAt_69 ?_
      refine wr_iload_n C 4 dM_readAt_70 rfl rfl ?_
      refine wr_icmp_gt C (tgt := 83) dM_readAt_71 (by decide) (fun h5 => ?_) (fun h5 => ?_)
      ·
        refine wr_iload C 0 dM_readAt_83 rfl ?_
        refine wr_iconst C (v := -1) dM_readAt_85 (by decide) ?_
        refine wr_icmp_ne C (tgt := 95) dM_readAt_86 (by decide) (fun h6 => ?_) (fun h6 => ?_)
        ·
          refine wr_iinc C (v := nI (i + 1)) (vs' := [(3, .int (nI (i + 1))), (4, .int (fm_find μ k V i)), (0, .ref (Γ.2.2 70)), (1, .int (nI k)), (2, .int r)]) 1 dM_readAt_95 rfl (wc_inc1 i) (by decide) rfl ?_
          refine wr_goto C (tgt := 45) dM_readAt_98 (by decide) ?_
          refine wr_sub [0, 2, 3, 4] rfl ?_
          exact ih (i + 1) (by omega) (by rw [← hv]; first | (simp [fm_rat, fm_vers_eq hV (by omega), *]; done) | (simp [fm_rat, fm_vers_eq hV (by omega), nI_clamp (show j < 2 ^ 31 by omega), nI_pos (show j < 2 ^ 31 by omega), *]; done) | (rw [fm_rat, fm_vers_eq hV (by omega), hfj, if_neg (nI_pos (by omega)), nI_clamp (by omega), if_pos (by assumption)]; done))
        ·
          refine wr_iload_n C 4 dM_readAt_89 rfl rfl ?_
          refine wr_if_lt C (tgt := 95) dM_readAt_90 (by decide) (fun h7 => ?_) (fun h7 => ?_)
          ·
            refine wr_iinc C (v := nI (i + 1)) (vs' := [(3, .int (nI (i + 1))), (4, .int (fm_find μ k V i)), (0, .ref (Γ.2.2 70)), (1, .int (nI k)), (2, .int r)]) 1 dM_readAt_95 rfl (wc_inc1 i) (by decide) rfl ?_
            refine wr_goto C (tgt := 45) dM_readAt_98 (by decide) ?_
            refine wr_sub [0, 2, 3, 4] rfl ?_
            exact ih (i + 1) (by omega) (by rw [← hv]; first | (simp [fm_rat, fm_vers_eq hV (by omega), *]; done) | (simp [fm_rat, fm_vers_eq hV (by omega), nI_clamp (show j < 2 ^ 31 by omega), nI_pos (show j < 2 ^ 31 by omega), *]; done) | (rw [fm_rat, fm_vers_eq hV (by omega), hfj, if_neg (nI_pos (by omega)), nI_clamp (by omega), if_pos (by assumption)]; done))
          ·
            refine wr_lconst C dM_readAt_93 ?_
            exact wr_lret C hr hlk dM_readAt_94 (by rw [← hv]; first | (simp [fm_rat, fm_vers_eq hV (by omega), *]; done) | (simp [fm_rat, fm_vers_eq hV (by omega), nI_clamp (show j < 2 ^ 31 by omega), nI_pos (show j < 2 ^ 31 by omega), *]; done) | (rw [fm_rat, fm_vers_eq hV (by omega), hfj, if_neg (nI_pos (by omega)), nI_clamp (by omega), if_neg (by assumption)]; done) | (exact absurd (by rw [h6]; decide) h2)) (by rfl) (by rfl)
      ·
        refine wr_aload_n C 2 dM_readAt_74 rfl rfl ?_
        refine wf_Model_versionValue C  (Or.inl tw_355) dM_readAt_75 ?_
        refine wr_iload C 0 dM_readAt_78 rfl ?_
        refine wr_top hfj ?_
        refine wa_m_versionValue C (by omega) dM_readAt_80 ?_
        refine wr_i2l C dM_readAt_81 ?_
        exact wr_lret C hr hlk dM_readAt_82 (by rw [← hv]; first | (simp [fm_rat, fm_vers_eq hV (by omega), *]; done) | (simp [fm_rat, fm_vers_eq hV (by omega), nI_clamp (show j < 2 ^ 31 by omega), nI_pos (show j < 2 ^ 31 by omega), *]; done) | (rw [fm_rat, fm_vers_eq hV (by omega), hfj, if_neg (nI_pos (by omega)), nI_clamp (by omega), if_neg (by assumption)]; done) | (exact absurd (by rw [h6]; decide) h2)) (by rfl) (by rfl)
set_option maxRecDepth 100000 in
set_option maxHeartbeats 4000000 in
theorem mm_readAtI (l : Launch) (Γ : wc_G) (σ μ : wc_St) {k : Nat} (hk : k < 9) (r : Int32) (V : Nat) (hV : μ 37 0 0 = nI V) (hV5 : V ≤ 512) : wc_M l yM_readAt cM_readAt 5 (some .long) 2 Γ [.ref (Γ.2.2 70), .int (nI k), .int r] σ μ (some (.long ((fm_readAt μ k r).1))) σ ((fm_readAt μ k r).2) := by
  refine wc_enter "WaitedCommitsModel" (by decide) rfl (Nat.le_of_ble_eq_true rfl) ?_
  intro P0 E0 S0 M0 A0 B0 T0 K0 C hr hlk
  refine wr_vs (vs' := [(0, .ref (Γ.2.2 70)), (1, .int (nI k)), (2, .int r)]) rfl ?_
  refine wr_iload_n C 1 dM_readAt_0 rfl rfl ?_
  refine wr_bipush C (v := nI 9) dM_readAt_1 (by decide) ?_
  refine wr_callS1 C (As := [.int (nI k), .int (nI 9)]) (rest := []) (mm_inI l Γ σ μ (j := k) (N := 9) (by omega) (by decide)) cb_M_in (Or.inl tw_399) tw_400 (by decide) (by decide) rfl rfl (Nat.le_of_ble_eq_true rfl) ⟨Nat.le_refl _, Nat.le_refl _⟩ dM_readAt_3 ?_
  refine wr_if_eq C (tgt := 31) dM_readAt_6 (by decide) (fun h1 => absurd h1 (by decide)) (fun _ => ?_)
  refine wr_aload_n C 0 dM_readAt_9 rfl rfl ?_
  refine wf_Model_down C  (Or.inl tw_350) dM_readAt_10 ?_
  refine wr_iload_n C 1 dM_readAt_13 rfl rfl ?_
  refine wr_iconst C (v := nI 3) dM_readAt_14 (by decide) ?_
  refine wr_irem C (z := nI (k % 3)) dM_readAt_15 (by decide) (pk_rem (by omega) (by omega) (by omega)) ?_
  refine wa_m_down C (by omega) dM_readAt_16 ?_
  refine wr_if_ne C (tgt := 31) dM_readAt_17 (by decide) (fun h2 => ?_) (fun h2 => ?_)
  ·
    refine wr_ldc2 C dM_readAt_31 tw_439 ?_
    exact wr_lret C hr hlk dM_readAt_34 (by subst_vars; first | (simp [fm_readAt, wc_nIe, wc_nI0, wc_nIm, *]; done) | (simp_all [fm_readAt, wc_nIe, wc_nI0, wc_nIm]; done)) (by first | rfl | (subst_vars; first | (simp [fm_readAt, wc_nIe, wc_nI0, wc_nIm, *]; done) | (simp_all [fm_readAt, wc_nIe, wc_nI0, wc_nIm]; done))) (by first | rfl | (subst_vars; first | (simp [fm_readAt, wc_nIe, wc_nI0, wc_nIm, *]; done) | (simp_all [fm_readAt, wc_nIe, wc_nI0, wc_nIm]; done)))
  ·
    refine wr_iload_n C 2 dM_readAt_20 rfl rfl ?_
    refine wr_aload_n C 0 dM_readAt_21 rfl rfl ?_
    refine wr_iload_n C 1 dM_readAt_22 rfl rfl ?_
    refine wr_iconst C (v := nI 3) dM_readAt_23 (by decide) ?_
    refine wr_irem C (z := nI (k % 3)) dM_readAt_24 (by decide) (pk_rem (by omega) (by omega) (by omega)) ?_
    refine wr_callV1 C (As := [.int (nI (k % 3))]) (rest := [.int r]) (mm_safeI l Γ σ μ (q := k % 3) (by omega)) cb_M_safe (Or.inl tw_491) tw_492 tw_493 (by omega) (wc_c_Model) rfl (by decide) (by decide) rfl rfl (Nat.le_of_ble_eq_true rfl) ⟨Nat.le_refl _, Nat.le_refl _⟩ dM_readAt_25 ?_
    refine wr_icmp_le C (tgt := 35) dM_readAt_28 (by decide) (fun h3 => ?_) (fun h3 => ?_)
    ·
      refine wr_aload_n C 0 dM_readAt_35 rfl rfl ?_
      refine wr_iload_n C 1 dM_readAt_36 rfl rfl ?_
      refine wr_iconst C (v := nI 3) dM_readAt_37 (by decide) ?_
      refine wr_irem C (z := nI (k % 3)) dM_readAt_38 (by decide) (pk_rem (by omega) (by omega) (by omega)) ?_
      refine wr_iload_n C 2 dM_readAt_39 rfl rfl ?_
      refine wr_callV0 C (As := [.int (nI (k % 3)), .int r]) (rest := []) (mm_raise l Γ σ μ (q := k % 3) (by omega) r) cb_M_raise (Or.inl tw_480) tw_481 tw_574 (by omega) (wc_c_Model) rfl (by decide) (by decide) rfl rfl (Nat.le_of_ble_eq_true rfl) ⟨Nat.le_refl _, Nat.le_refl _⟩ dM_readAt_40 ?_
      generalize hs1 : fm_raise μ (k % 3) r = μ1
      refine wr_iconst C (v := nI 0) dM_readAt_43 (by decide) ?_
      refine wr_istore_n C (vs' := [(3, .int (nI 0)), (0, .ref (Γ.2.2 70)), (1, .int (nI k)), (2, .int r)]) dM_readAt_44 rfl (by decide) rfl ?_
      refine wr_sub [0, 1, 2, 3] rfl ?_
      exact mn_rat C hr hlk hk r σ μ1 rfl (by subst_vars; simp [fm_readAt, *]) V (by subst_vars; exact hV) hV5 4 0 rfl (by subst_vars; simp [fm_readAt, *])
    ·
      refine wr_ldc2 C dM_readAt_31 tw_439 ?_
      exact wr_lret C hr hlk dM_readAt_34 (by subst_vars; first | (simp [fm_readAt, wc_nIe, wc_nI0, wc_nIm, *]; done) | (simp_all [fm_readAt, wc_nIe, wc_nI0, wc_nIm]; done)) (by first | rfl | (subst_vars; first | (simp [fm_readAt, wc_nIe, wc_nI0, wc_nIm, *]; done) | (simp_all [fm_readAt, wc_nIe, wc_nI0, wc_nIm]; done))) (by first | rfl | (subst_vars; first | (simp [fm_readAt, wc_nIe, wc_nI0, wc_nIm, *]; done) | (simp_all [fm_readAt, wc_nIe, wc_nI0, wc_nIm]; done)))
set_option maxRecDepth 100000 in
set_option maxHeartbeats 4000000 in
theorem mn_marks {P0 : Program} {l : Launch} {E0 : Env} {S0 : State} {M0 : MethodId} {A0 : Array Value} {B0 : List Frame} {T0 : Method} {K0 : Code} {Γ : wc_G} {A : Nat → Prop} {v : Option Value} {σ' μ' : wc_St} (C : wc_C P0 S0 M0 A0 K0 cM_marks 5 "WaitedCommitsModel" Γ A) (hr : T0.sig.returnType = (some .int)) (hlk : T0.locks = false) {q : Nat} (hq : q < 3) (σ μ : wc_St) (hσ : σ = σ') (hμ : μ = μ') (r : Nat × Int32) (hv : some (.int (nI r.1 + nI 8 * r.2)) = v) : ∀ (n : Nat) (t a : Nat) (y : Int32), t + n = 5 → a ≤ t → fm_marks μ q n t a y = r → wc_K P0 l E0 (wc_rm 1) S0 M0 A0 B0 T0 K0 5 Γ A (MQ B0 (wc_Qw Γ A v σ' μ') A0 S0 0 0 A) 0 0 7 [(4, .int (nI t)), (3, .int y), (2, .int (nI a)), (0, .ref (Γ.2.2 70)), (1, .int (nI q))] [] σ μ := by
  subst hσ; subst hμ
  intro n
  induction n with
  | zero =>
    intro t a y ht ha hres
    obtain rfl : t = 5 := by omega
    refine wr_iload C 0 dM_marks_7 rfl ?_
    refine wr_iconst C (v := nI 5) dM_marks_9 (by decide) ?_
    refine wr_icmp_ge C (tgt := 79) dM_marks_10 (by decide) (fun _ => ?_) (fun h1 => absurd (by decide) h1)
    refine wr_iload_n C 2 dM_marks_79 rfl rfl ?_
    refine wr_bipush C (v := nI 8) dM_marks_80 (by decide) ?_
    refine wr_iload_n C 1 dM_marks_82 rfl rfl ?_
    refine wr_imul C (z := (nI 8) * y) dM_marks_83 rfl ?_
    refine wr_iadd C (z := (nI a) + ((nI 8) * y)) dM_marks_84 rfl ?_
    exact wr_iret C hr rfl hlk dM_marks_85 (by rw [← hv, ← hres]; rfl) (by rfl) (by rfl)
  | succ n ih =>
    intro t a y ht ha hres
    refine wr_iload C 0 dM_marks_7 rfl ?_
    refine wr_iconst C (v := nI 5) dM_marks_9 (by decide) ?_
    refine wr_icmp_ge C (tgt := 79) dM_marks_10 (by decide) (fun h1 => absurd h1 (wc_noge (by omega) (by omega) (by omega))) (fun _ => ?_)
    refine wr_iload_n C 4 dM_marks_13 rfl rfl ?_
    refine wr_iconst C (v := nI 3) dM_marks_14 (by decide) ?_
    refine wr_callS1 C (As := [.int (nI q), .int (nI 3)]) (rest := []) (mm_inI l Γ σ μ (j := q) (N := 3) (by omega) (by decide)) cb_M_in (Or.inl tw_399) tw_400 (by decide) (by decide) rfl rfl (Nat.le_of_ble_eq_true rfl) ⟨Nat.le_refl _, Nat.le_refl _⟩ dM_marks_15 ?_
    refine wr_if_eq C (tgt := 79) dM_marks_18 (by decide) (fun h2 => absurd h2 (by decide)) (fun _ => ?_)
    refine wr_aload_n C 3 dM_marks_21 rfl rfl ?_
    refine wf_Model_marked C  (Or.inl tw_365) dM_marks_22 ?_
    refine wr_iconst C (v := nI 3) dM_marks_25 (by decide) ?_
    refine wr_iload C 0 dM_marks_26 rfl ?_
    refine wr_imul C (z := nI (3 * t)) dM_marks_28 (pk_mul 3 t) ?_
    refine wr_iload_n C 4 dM_marks_29 rfl rfl ?_
    refine wr_iadd C (z := nI (3 * t + q)) dM_marks_30 (nI_add (3 * t) q) ?_
    refine wa_m_marked C (by omega) dM_marks_31 ?_
    refine wr_if_eq C (tgt := 73) dM_marks_32 (by decide) (fun h3 => ?_) (fun h3 => ?_)
    ·
      refine wr_iinc C (v := nI (t + 1)) (vs' := [(4, .int (nI (t + 1))), (3, .int y), (2, .int (nI a)), (0, .ref (Γ.2.2 70)), (1, .int (nI q))]) 0 dM_marks_73 rfl (wc_inc1 t) (by decide) rfl ?_
      refine wr_goto C (tgt := 7) dM_marks_76 (by decide) ?_
      refine wr_sub [0, 1, 2, 3, 4] rfl ?_
      exact ih (t + 1) (a) y (by omega) (by omega) (by rw [← hres]; simp [fm_marks, *])
    ·
      refine wr_iload_n C 2 dM_marks_35 rfl rfl ?_
      refine wr_if_eq C (tgt := 54) dM_marks_36 (by decide) (fun h4 => ?_) (fun h4 => ?_)
      ·
        rw [wc_nI0 (by omega)] at h4
        refine wr_aload_n C 3 dM_marks_54 rfl rfl ?_
        refine wf_Model_mark C  (Or.inl tw_366) dM_marks_55 ?_
        refine wr_iconst C (v := nI 3) dM_marks_58 (by decide) ?_
        refine wr_iload C 0 dM_marks_59 rfl ?_
        refine wr_imul C (z := nI (3 * t)) dM_marks_61 (pk_mul 3 t) ?_
        refine wr_iload_n C 4 dM_marks_62 rfl rfl ?_
        refine wr_iadd C (z := nI (3 * t + q)) dM_marks_63 (nI_add (3 * t) q) ?_
        refine wa_m_mark C (by omega) dM_marks_64 ?_
        refine wr_goto C (tgt := 69) dM_marks_65 (by decide) ?_
        refine wr_istore_n C (vs' := [(3, .int (μ 51 0 (3 * t + q))), (4, .int (nI t)), (2, .int (nI a)), (0, .ref (Γ.2.2 70)), (1, .int (nI q))]) dM_marks_69 rfl (by decide) rfl ?_
        refine wr_iinc C (v := nI (a + 1)) (vs' := [(2, .int (nI (a + 1))), (3, .int (μ 51 0 (3 * t + q))), (4, .int (nI t)), (0, .ref (Γ.2.2 70)), (1, .int (nI q))]) 2 dM_marks_70 rfl (wc_inc1 a) (by decide) rfl ?_
        refine wr_iinc C (v := nI (t + 1)) (vs' := [(4, .int (nI (t + 1))), (2, .int (nI (a + 1))), (3, .int (μ 51 0 (3 * t + q))), (0, .ref (Γ.2.2 70)), (1, .int (nI q))]) 2 dM_marks_73 rfl (wc_inc1 t) (by decide) rfl ?_
        refine wr_goto C (tgt := 7) dM_marks_76 (by decide) ?_
        refine wr_sub [0, 2, 1, 3, 4] rfl ?_
        exact ih (t + 1) (a + 1) (μ 51 0 (3 * t + q)) (by omega) (by omega) (by rw [← hres]; simp [fm_marks, *])
      ·
        rw [wc_nI0 (by omega)] at h4
        refine wr_aload_n C 3 dM_marks_39 rfl rfl ?_
        refine wf_Model_mark C  (Or.inl tw_366) dM_marks_40 ?_
        refine wr_iconst C (v := nI 3) dM_marks_43 (by decide) ?_
        refine wr_iload C 0 dM_marks_44 rfl ?_
        refine wr_imul C (z := nI (3 * t)) dM_marks_46 (pk_mul 3 t) ?_
        refine wr_iload_n C 4 dM_marks_47 rfl rfl ?_
        refine wr_iadd C (z := nI (3 * t + q)) dM_marks_48 (nI_add (3 * t) q) ?_
        refine wa_m_mark C (by omega) dM_marks_49 ?_
        refine wr_iload_n C 1 dM_marks_50 rfl rfl ?_
        refine wr_icmp_ge C (tgt := 68) dM_marks_51 (by decide) (fun h5 => ?_) (fun h5 => ?_)
        ·
          refine wr_iload_n C 1 dM_marks_68 rfl rfl ?_
          refine wr_istore_n C (vs' := [(3, .int y), (4, .int (nI t)), (2, .int (nI a)), (0, .ref (Γ.2.2 70)), (1, .int (nI q))]) dM_marks_69 rfl (by decide) rfl ?_
          refine wr_iinc C (v := nI (a + 1)) (vs' := [(2, .int (nI (a + 1))), (3, .int y), (4, .int (nI t)), (0, .ref (Γ.2.2 70)), (1, .int (nI q))]) 2 dM_marks_70 rfl (wc_inc1 a) (by decide) rfl ?_
          refine wr_iinc C (v := nI (t + 1)) (vs' := [(4, .int (nI (t + 1))), (2, .int (nI (a + 1))), (3, .int y), (0, .ref (Γ.2.2 70)), (1, .int (nI q))]) 2 dM_marks_73 rfl (wc_inc1 t) (by decide) rfl ?_
          refine wr_goto C (tgt := 7) dM_marks_76 (by decide) ?_
          refine wr_sub [0, 2, 1, 3, 4] rfl ?_
          exact ih (t + 1) (a + 1) y (by omega) (by omega) (by rw [← hres]; simp [fm_marks, *])
        ·
          refine wr_aload_n C 3 dM_marks_54 rfl rfl ?_
          refine wf_Model_mark C  (Or.inl tw_366) dM_marks_55 ?_
          refine wr_iconst C (v := nI 3) dM_marks_58 (by decide) ?_
          refine wr_iload C 0 dM_marks_59 rfl ?_
          refine wr_imul C (z := nI (3 * t)) dM_marks_61 (pk_mul 3 t) ?_
          refine wr_iload_n C 4 dM_marks_62 rfl rfl ?_
          refine wr_iadd C (z := nI (3 * t + q)) dM_marks_63 (nI_add (3 * t) q) ?_
          refine wa_m_mark C (by omega) dM_marks_64 ?_
          refine wr_goto C (tgt := 69) dM_marks_65 (by decide) ?_
          refine wr_istore_n C (vs' := [(3, .int (μ 51 0 (3 * t + q))), (4, .int (nI t)), (2, .int (nI a)), (0, .ref (Γ.2.2 70)), (1, .int (nI q))]) dM_marks_69 rfl (by decide) rfl ?_
          refine wr_iinc C (v := nI (a + 1)) (vs' := [(2, .int (nI (a + 1))), (3, .int (μ 51 0 (3 * t + q))), (4, .int (nI t)), (0, .ref (Γ.2.2 70)), (1, .int (nI q))]) 2 dM_marks_70 rfl (wc_inc1 a) (by decide) rfl ?_
          refine wr_iinc C (v := nI (t + 1)) (vs' := [(4, .int (nI (t + 1))), (2, .int (nI (a + 1))), (3, .int (μ 51 0 (3 * t + q))), (0, .ref (Γ.2.2 70)), (1, .int (nI q))]) 2 dM_marks_73 rfl (wc_inc1 t) (by decide) rfl ?_
          refine wr_goto C (tgt := 7) dM_marks_76 (by decide) ?_
          refine wr_sub [0, 2, 1, 3, 4] rfl ?_
          exact ih (t + 1) (a + 1) (μ 51 0 (3 * t + q)) (by omega) (by omega) (by rw [← hres]; simp [fm_marks, *])
set_option maxRecDepth 100000 in
set_option maxHeartbeats 4000000 in
theorem mm_marksI (l : Launch) (Γ : wc_G) (σ μ : wc_St) {q : Nat} (hq : q < 3) : wc_M l yM_marks cM_marks 5 (some .int) 1 Γ [.ref (Γ.2.2 70), .int (nI q)] σ μ (some (.int (fm_marks2 μ q))) σ (μ) := by
  refine wc_enter "WaitedCommitsModel" (by decide) rfl (Nat.le_of_ble_eq_true rfl) ?_
  intro P0 E0 S0 M0 A0 B0 T0 K0 C hr hlk
  refine wr_vs (vs' := [(0, .ref (Γ.2.2 70)), (1, .int (nI q))]) rfl ?_
  refine wr_iconst C (v := nI 0) dM_marks_0 (by decide) ?_
  refine wr_istore_n C (vs' := [(2, .int (nI 0)), (0, .ref (Γ.2.2 70)), (1, .int (nI q))]) dM_marks_1 rfl (by decide) rfl ?_
  refine wr_iconst C (v := nI 0) dM_marks_2 (by decide) ?_
  refine wr_istore_n C (vs' := [(3, .int (nI 0)), (2, .int (nI 0)), (0, .ref (Γ.2.2 70)), (1, .int (nI q))]) dM_marks_3 rfl (by decide) rfl ?_
  refine wr_iconst C (v := nI 0) dM_marks_4 (by decide) ?_
  refine wr_istore C (vs' := [(4, .int (nI 0)), (3, .int (nI 0)), (2, .int (nI 0)), (0, .ref (Γ.2.2 70)), (1, .int (nI q))]) dM_marks_5 (by decide) rfl ?_
  refine wr_sub [0, 1, 2, 3, 4] rfl ?_
  exact mn_marks C hr hlk hq σ μ rfl rfl _ rfl 5 0 0 (nI 0) rfl (Nat.le_refl _) rfl
set_option maxRecDepth 100000 in
set_option maxHeartbeats 4000000 in
theorem mm_marksO (l : Launch) (Γ : wc_G) (σ μ : wc_St) (a : Int32) (ha : a < 0 ∨ nI 3 ≤ a) : wc_M l yM_marks cM_marks 5 (some .int) 1 Γ [.ref (Γ.2.2 70), .int a] σ μ (some (.int (nI 0))) σ (μ) := by
  refine wc_enter "WaitedCommitsModel" (by decide) rfl (Nat.le_of_ble_eq_true rfl) ?_
  intro P0 E0 S0 M0 A0 B0 T0 K0 C hr hlk
  refine wr_vs (vs' := [(0, .ref (Γ.2.2 70)), (1, .int a)]) rfl ?_
  refine wr_iconst C (v := nI 0) dM_marks_0 (by decide) ?_
  refine wr_istore_n C (vs' := [(2, .int (nI 0)), (0, .ref (Γ.2.2 70)), (1, .int a)]) dM_marks_1 rfl (by decide) rfl ?_
  refine wr_iconst C (v := nI 0) dM_marks_2 (by decide) ?_
  refine wr_istore_n C (vs' := [(3, .int (nI 0)), (2, .int (nI 0)), (0, .ref (Γ.2.2 70)), (1, .int a)]) dM_marks_3 rfl (by decide) rfl ?_
  refine wr_iconst C (v := nI 0) dM_marks_4 (by decide) ?_
  refine wr_istore C (vs' := [(4, .int (nI 0)), (3, .int (nI 0)), (2, .int (nI 0)), (0, .ref (Γ.2.2 70)), (1, .int a)]) dM_marks_5 (by decide) rfl ?_
  refine wr_iload C 0 dM_marks_7 rfl ?_
  refine wr_iconst C (v := nI 5) dM_marks_9 (by decide) ?_
  refine wr_icmp_ge C (tgt := 79) dM_marks_10 (by decide) (fun h1 => absurd h1 (by decide)) (fun _ => ?_)
  refine wr_iload_n C 4 dM_marks_13 rfl rfl ?_
  refine wr_iconst C (v := nI 3) dM_marks_14 (by decide) ?_
  refine wr_callS1 C (As := [.int a, .int (nI 3)]) (rest := []) (mm_inO l Γ σ μ a (N := 3) ha) cb_M_in (Or.inl tw_399) tw_400 (by decide) (by decide) rfl rfl (Nat.le_of_ble_eq_true rfl) ⟨Nat.le_refl _, Nat.le_refl _⟩ dM_marks_15 ?_
  refine wr_if_eq C (tgt := 79) dM_marks_18 (by decide) (fun _ => ?_) (fun h2 => absurd (by decide) h2)
  refine wr_iload_n C 2 dM_marks_79 rfl rfl ?_
  refine wr_bipush C (v := nI 8) dM_marks_80 (by decide) ?_
  refine wr_iload_n C 1 dM_marks_82 rfl rfl ?_
  refine wr_imul C (z := nI 0) dM_marks_83 (by decide) ?_
  refine wr_iadd C (z := nI 0) dM_marks_84 (by decide) ?_
  exact wr_iret C hr rfl hlk dM_marks_85 (by rfl) (by rfl) (by rfl)
set_option maxRecDepth 100000 in
set_option maxHeartbeats 4000000 in
theorem mn_holders {P0 : Program} {l : Launch} {E0 : Env} {S0 : State} {M0 : MethodId} {A0 : Array Value} {B0 : List Frame} {T0 : Method} {K0 : Code} {Γ : wc_G} {A : Nat → Prop} {v : Option Value} {σ' μ' : wc_St} (C : wc_C P0 S0 M0 A0 K0 cM_holders 4 "WaitedCommitsModel" Γ A) (hr : T0.sig.returnType = (some .int)) (hlk : T0.locks = false) {k : Nat} (hk : k < 9) (σ μ : wc_St) (hσ : σ = σ') (hμ : μ = μ') : ∀ (n : Nat) (t : Nat) (a : Int32), t + n = 5 → some (.int (fm_holders μ k n t a)) = v → wc_K P0 l E0 (wc_rm 1) S0 M0 A0 B0 T0 K0 4 Γ A (MQ B0 (wc_Qw Γ A v σ' μ') A0 S0 0 0 A) 0 0 4 [(3, .int (nI t)), (2, .int a), (0, .ref (Γ.2.2 70)), (1, .int (nI k))] [] σ μ := by
  subst hσ; subst hμ
  intro n
  induction n with
  | zero =>
    intro t a ht hv
    obtain rfl : t = 5 := by omega
    refine wr_iload_n C 0 dM_holders_4 rfl rfl ?_
    refine wr_iconst C (v := nI 5) dM_holders_5 (by decide) ?_
    refine wr_icmp_ge C (tgt := 72) dM_holders_6 (by decide) (fun _ => ?_) (fun h1 => absurd (by decide) h1)
    refine wr_iload_n C 1 dM_holders_72 rfl rfl ?_
    exact wr_iret C hr rfl hlk dM_holders_73 (by exact hv) (by rfl) (by rfl)
  | succ n ih =>
    intro t a ht hv
    refine wr_iload_n C 0 dM_holders_4 rfl rfl ?_
    refine wr_iconst C (v := nI 5) dM_holders_5 (by decide) ?_
    refine wr_icmp_ge C (tgt := 72) dM_holders_6 (by decide) (fun h1 => absurd h1 (wc_noge (by omega) (by omega) (by omega))) (fun _ => ?_)
    refine wr_iload_n C 3 dM_holders_9 rfl rfl ?_
    refine wr_bipush C (v := nI 9) dM_holders_10 (by decide) ?_
    refine wr_callS1 C (As := [.int (nI k), .int (nI 9)]) (rest := []) (mm_inI l Γ σ μ (j := k) (N := 9) (by omega) (by decide)) cb_M_in (Or.inl tw_399) tw_400 (by decide) (by decide) rfl rfl (Nat.le_of_ble_eq_true rfl) ⟨Nat.le_refl _, Nat.le_refl _⟩ dM_holders_12 ?_
    refine wr_if_eq C (tgt := 72) dM_holders_15 (by decide) (fun h2 => absurd h2 (by decide)) (fun _ => ?_)
    refine wr_iload_n C 1 dM_holders_18 rfl rfl ?_
    refine wr_aload_n C 2 dM_holders_19 rfl rfl ?_
    refine wf_Model_lock C  (Or.inl tw_362) dM_holders_20 ?_
    refine wr_bipush C (v := nI 9) dM_holders_23 (by decide) ?_
    refine wr_iload_n C 0 dM_holders_25 rfl rfl ?_
    refine wr_imul C (z := nI (9 * t)) dM_holders_26 (pk_mul 9 t) ?_
    refine wr_iload_n C 3 dM_holders_27 rfl rfl ?_
    refine wr_iadd C (z := nI (9 * t + k)) dM_holders_28 (nI_add (9 * t) k) ?_
    refine wa_m_lock C (by omega) dM_holders_29 ?_
    refine wr_if_le C (tgt := 39) dM_holders_30 (by decide) (fun h3 => ?_) (fun h3 => ?_)
    ·
      refine wr_iconst C (v := nI 0) dM_holders_39 (by decide) ?_
      refine wr_iadd C (z := a + (nI 0)) dM_holders_40 rfl ?_
      refine wr_istore_n C (vs' := [(2, .int (a + (nI 0))), (3, .int (nI t)), (0, .ref (Γ.2.2 70)), (1, .int (nI k))]) dM_holders_41 rfl (by decide) rfl ?_
      refine wr_iload_n C 0 dM_holders_42 rfl rfl ?_
      refine wr_aload_n C 2 dM_holders_43 rfl rfl ?_
      refine wf_Model_lock C  (Or.inl tw_362) dM_holders_44 ?_
      refine wr_bipush C (v := nI 9) dM_holders_47 (by decide) ?_
      refine wr_iload_n C 1 dM_holders_49 rfl rfl ?_
      refine wr_imul C (z := nI (9 * t)) dM_holders_50 (pk_mul 9 t) ?_
      refine wr_iload_n C 3 dM_holders_51 rfl rfl ?_
      refine wr_iadd C (z := nI (9 * t + k)) dM_holders_52 (nI_add (9 * t) k) ?_
      refine wa_m_lock C (by omega) dM_holders_53 ?_
      refine wr_iconst C (v := nI 2) dM_holders_54 (by decide) ?_
      refine wr_icmp_ne C (tgt := 63) dM_holders_55 (by decide) (fun h4 => ?_) (fun h4 => ?_)
      ·
        refine wr_iconst C (v := nI 0) dM_holders_63 (by decide) ?_
        refine wr_iadd C (z := (a + (nI 0)) + (nI 0)) dM_holders_64 rfl ?_
        refine wr_istore_n C (vs' := [(2, .int ((a + (nI 0)) + (nI 0))), (3, .int (nI t)), (0, .ref (Γ.2.2 70)), (1, .int (nI k))]) dM_holders_65 rfl (by decide) rfl ?_
        refine wr_iinc C (v := nI (t + 1)) (vs' := [(3, .int (nI (t + 1))), (2, .int ((a + (nI 0)) + (nI 0))), (0, .ref (Γ.2.2 70)), (1, .int (nI k))]) 1 dM_holders_66 rfl (wc_inc1 t) (by decide) rfl ?_
        refine wr_goto C (tgt := 4) dM_holders_69 (by decide) ?_
        refine wr_sub [0, 1, 2, 3] rfl ?_
        exact ih (t + 1) ((a + (nI 0)) + (nI 0)) (by omega) (by rw [← hv]; first | (simp [fm_holders, *]; done) | (simp_all [fm_holders]; done) | (rw [fm_holders]; repeat' split <;> first | rfl | contradiction))
      ·
        refine wr_bipush C (v := nI 32) dM_holders_58 (by decide) ?_
        refine wr_goto C (tgt := 64) dM_holders_60 (by decide) ?_
        refine wr_iadd C (z := (a + (nI 0)) + (nI 32)) dM_holders_64 rfl ?_
        refine wr_istore_n C (vs' := [(2, .int ((a + (nI 0)) + (nI 32))), (3, .int (nI t)), (0, .ref (Γ.2.2 70)), (1, .int (nI k))]) dM_holders_65 rfl (by decide) rfl ?_
        refine wr_iinc C (v := nI (t + 1)) (vs' := [(3, .int (nI (t + 1))), (2, .int ((a + (nI 0)) + (nI 32))), (0, .ref (Γ.2.2 70)), (1, .int (nI k))]) 1 dM_holders_66 rfl (wc_inc1 t) (by decide) rfl ?_
        refine wr_goto C (tgt := 4) dM_holders_69 (by decide) ?_
        refine wr_sub [0, 1, 2, 3] rfl ?_
        exact ih (t + 1) ((a + (nI 0)) + (nI 32)) (by omega) (by rw [← hv]; first | (simp [fm_holders, *]; done) | (simp_all [fm_holders]; done) | (rw [fm_holders]; repeat' split <;> first | rfl | contradiction))
    ·
      refine wr_iconst C (v := nI 1) dM_holders_33 (by decide) ?_
      refine wr_iload_n C 0 dM_holders_34 rfl rfl ?_
      refine wr_ishl C (z := (nI 1) <<< ((nI t) &&& 31)) dM_holders_35 rfl ?_
      refine wr_goto C (tgt := 40) dM_holders_36 (by decide) ?_
      refine wr_iadd C (z := a + ((nI 1) <<< ((nI t) &&& 31))) dM_holders_40 rfl ?_
      refine wr_istore_n C (vs' := [(2, .int (a + ((nI 1) <<< ((nI t) &&& 31)))), (3, .int (nI t)), (0, .ref (Γ.2.2 70)), (1, .int (nI k))]) dM_holders_41 rfl (by decide) rfl ?_
      refine wr_iload_n C 0 dM_holders_42 rfl rfl ?_
      refine wr_aload_n C 2 dM_holders_43 rfl rfl ?_
      refine wf_Model_lock C  (Or.inl tw_362) dM_holders_44 ?_
      refine wr_bipush C (v := nI 9) dM_holders_47 (by decide) ?_
      refine wr_iload_n C 1 dM_holders_49 rfl rfl ?_
      refine wr_imul C (z := nI (9 * t)) dM_holders_50 (pk_mul 9 t) ?_
      refine wr_iload_n C 3 dM_holders_51 rfl rfl ?_
      refine wr_iadd C (z := nI (9 * t + k)) dM_holders_52 (nI_add (9 * t) k) ?_
      refine wa_m_lock C (by omega) dM_holders_53 ?_
      refine wr_iconst C (v := nI 2) dM_holders_54 (by decide) ?_
      refine wr_icmp_ne C (tgt := 63) dM_holders_55 (by decide) (fun h5 => ?_) (fun h5 => ?_)
      ·
        refine wr_iconst C (v := nI 0) dM_holders_63 (by decide) ?_
        refine wr_iadd C (z := (a + ((nI 1) <<< ((nI t) &&& 31))) + (nI 0)) dM_holders_64 rfl ?_
        refine wr_istore_n C (vs' := [(2, .int ((a + ((nI 1) <<< ((nI t) &&& 31))) + (nI 0))), (3, .int (nI t)), (0, .ref (Γ.2.2 70)), (1, .int (nI k))]) dM_holders_65 rfl (by decide) rfl ?_
        refine wr_iinc C (v := nI (t + 1)) (vs' := [(3, .int (nI (t + 1))), (2, .int ((a + ((nI 1) <<< ((nI t) &&& 31))) + (nI 0))), (0, .ref (Γ.2.2 70)), (1, .int (nI k))]) 1 dM_holders_66 rfl (wc_inc1 t) (by decide) rfl ?_
        refine wr_goto C (tgt := 4) dM_holders_69 (by decide) ?_
        refine wr_sub [0, 1, 2, 3] rfl ?_
        exact ih (t + 1) ((a + ((nI 1) <<< ((nI t) &&& 31))) + (nI 0)) (by omega) (by rw [← hv]; first | (simp [fm_holders, *]; done) | (simp_all [fm_holders]; done) | (rw [fm_holders]; repeat' split <;> first | rfl | contradiction))
      ·
        refine wr_bipush C (v := nI 32) dM_holders_58 (by decide) ?_
        refine wr_goto C (tgt := 64) dM_holders_60 (by decide) ?_
        refine wr_iadd C (z := (a + ((nI 1) <<< ((nI t) &&& 31))) + (nI 32)) dM_holders_64 rfl ?_
        refine wr_istore_n C (vs' := [(2, .int ((a + ((nI 1) <<< ((nI t) &&& 31))) + (nI 32))), (3, .int (nI t)), (0, .ref (Γ.2.2 70)), (1, .int (nI k))]) dM_holders_65 rfl (by decide) rfl ?_
        refine wr_iinc C (v := nI (t + 1)) (vs' := [(3, .int (nI (t + 1))), (2, .int ((a + ((nI 1) <<< ((nI t) &&& 31))) + (nI 32))), (0, .ref (Γ.2.2 70)), (1, .int (nI k))]) 1 dM_holders_66 rfl (wc_inc1 t) (by decide) rfl ?_
        refine wr_goto C (tgt := 4) dM_holders_69 (by decide) ?_
        refine wr_sub [0, 1, 2, 3] rfl ?_
        exact ih (t + 1) ((a + ((nI 1) <<< ((nI t) &&& 31))) + (nI 32)) (by omega) (by rw [← hv]; first | (simp [fm_holders, *]; done) | (simp_all [fm_holders]; done) | (rw [fm_holders]; repeat' split <;> first | rfl | contradiction))
set_option maxRecDepth 100000 in
set_option maxHeartbeats 4000000 in
theorem mm_holdersI (l : Launch) (Γ : wc_G) (σ μ : wc_St) {k : Nat} (hk : k < 9) : wc_M l yM_holders cM_holders 4 (some .int) 1 Γ [.ref (Γ.2.2 70), .int (nI k)] σ μ (some (.int (fm_holders μ k 5 0 (nI 0)))) σ (μ) := by
  refine wc_enter "WaitedCommitsModel" (by decide) rfl (Nat.le_of_ble_eq_true rfl) ?_
  intro P0 E0 S0 M0 A0 B0 T0 K0 C hr hlk
  refine wr_vs (vs' := [(0, .ref (Γ.2.2 70)), (1, .int (nI k))]) rfl ?_
  refine wr_iconst C (v := nI 0) dM_holders_0 (by decide) ?_
  refine wr_istore_n C (vs' := [(2, .int (nI 0)), (0, .ref (Γ.2.2 70)), (1, .int (nI k))]) dM_holders_1 rfl (by decide) rfl ?_
  refine wr_iconst C (v := nI 0) dM_holders_2 (by decide) ?_
  refine wr_istore_n C (vs' := [(3, .int (nI 0)), (2, .int (nI 0)), (0, .ref (Γ.2.2 70)), (1, .int (nI k))]) dM_holders_3 rfl (by decide) rfl ?_
  refine wr_sub [0, 1, 2, 3] rfl ?_
  exact mn_holders C hr hlk hk σ μ rfl rfl 5 0 (nI 0) rfl rfl
set_option maxRecDepth 100000 in
set_option maxHeartbeats 4000000 in
theorem mm_holdersO (l : Launch) (Γ : wc_G) (σ μ : wc_St) (a : Int32) (ha : a < 0 ∨ nI 9 ≤ a) : wc_M l yM_holders cM_holders 4 (some .int) 1 Γ [.ref (Γ.2.2 70), .int a] σ μ (some (.int (nI 0))) σ (μ) := by
  refine wc_enter "WaitedCommitsModel" (by decide) rfl (Nat.le_of_ble_eq_true rfl) ?_
  intro P0 E0 S0 M0 A0 B0 T0 K0 C hr hlk
  refine wr_vs (vs' := [(0, .ref (Γ.2.2 70)), (1, .int a)]) rfl ?_
  refine wr_iconst C (v := nI 0) dM_holders_0 (by decide) ?_
  refine wr_istore_n C (vs' := [(2, .int (nI 0)), (0, .ref (Γ.2.2 70)), (1, .int a)]) dM_holders_1 rfl (by decide) rfl ?_
  refine wr_iconst C (v := nI 0) dM_holders_2 (by decide) ?_
  refine wr_istore_n C (vs' := [(3, .int (nI 0)), (2, .int (nI 0)), (0, .ref (Γ.2.2 70)), (1, .int a)]) dM_holders_3 rfl (by decide) rfl ?_
  refine wr_iload_n C 0 dM_holders_4 rfl rfl ?_
  refine wr_iconst C (v := nI 5) dM_holders_5 (by decide) ?_
  refine wr_icmp_ge C (tgt := 72) dM_holders_6 (by decide) (fun h1 => absurd h1 (by decide)) (fun _ => ?_)
  refine wr_iload_n C 3 dM_holders_9 rfl rfl ?_
  refine wr_bipush C (v := nI 9) dM_holders_10 (by decide) ?_
  refine wr_callS1 C (As := [.int a, .int (nI 9)]) (rest := []) (mm_inO l Γ σ μ a (N := 9) ha) cb_M_in (Or.inl tw_399) tw_400 (by decide) (by decide) rfl rfl (Nat.le_of_ble_eq_true rfl) ⟨Nat.le_refl _, Nat.le_refl _⟩ dM_holders_12 ?_
  refine wr_if_eq C (tgt := 72) dM_holders_15 (by decide) (fun _ => ?_) (fun h2 => absurd (by decide) h2)
  refine wr_iload_n C 1 dM_holders_72 rfl rfl ?_
  exact wr_iret C hr rfl hlk dM_holders_73 (by rfl) (by rfl) (by rfl)
set_option maxRecDepth 100000 in
set_option maxHeartbeats 4000000 in
theorem mn_msgs {P0 : Program} {l : Launch} {E0 : Env} {S0 : State} {M0 : MethodId} {A0 : Array Value} {B0 : List Frame} {T0 : Method} {K0 : Code} {Γ : wc_G} {A : Nat → Prop} {v : Option Value} {σ' μ' : wc_St} (C : wc_C P0 S0 M0 A0 K0 cM_messages 3 "WaitedCommitsModel" Γ A) (hr : T0.sig.returnType = (some .int)) (hlk : T0.locks = false) (σ μ : wc_St) (hσ : σ = σ') (hμ : μ = μ') : ∀ (n : Nat) (a y : Nat), a + n = 45 → some (.int (nI (fm_msgs μ n a y))) = v → wc_K P0 l E0 (wc_rm 0) S0 M0 A0 B0 T0 K0 3 Γ A (MQ B0 (wc_Qw Γ A v σ' μ') A0 S0 0 0 A) 0 0 4 [(2, .int (nI a)), (1, .int (nI y)), (0, .ref (Γ.2.2 70))] [] σ μ := by
  subst hσ; subst hμ
  intro n
  induction n with
  | zero =>
    intro a y ha hv
    obtain rfl : a = 45 := by omega
    refine wr_iload_n C 0 dM_messages_4 rfl rfl ?_
    refine wr_bipush C (v := nI 45) dM_messages_5 (by decide) ?_
    refine wr_icmp_ge C (tgt := 33) dM_messages_7 (by decide) (fun _ => ?_) (fun h1 => absurd (by decide) h1)
    refine wr_iload_n C 1 dM_messages_33 rfl rfl ?_
    exact wr_iret C hr rfl hlk dM_messages_34 (by exact hv) (by rfl) (by rfl)
  | succ n ih =>
    intro a y ha hv
    refine wr_iload_n C 0 dM_messages_4 rfl rfl ?_
    refine wr_bipush C (v := nI 45) dM_messages_5 (by decide) ?_
    refine wr_icmp_ge C (tgt := 33) dM_messages_7 (by decide) (fun h1 => absurd h1 (wc_noge (by omega) (by omega) (by omega))) (fun _ => ?_)
    refine wr_iload_n C 1 dM_messages_10 rfl rfl ?_
    refine wr_aload_n C 2 dM_messages_11 rfl rfl ?_
    refine wf_Model_arrives C  (Or.inl tw_368) dM_messages_12 ?_
    refine wr_iload_n C 0 dM_messages_15 rfl rfl ?_
    refine wa_m_arrives C (by omega) dM_messages_16 ?_
    refine wr_if_le C (tgt := 24) dM_messages_17 (by decide) (fun h2 => ?_) (fun h2 => ?_)
    ·
      refine wr_iconst C (v := nI 0) dM_messages_24 (by decide) ?_
      refine wr_iadd C (z := nI (y + 0)) dM_messages_25 (nI_add y 0) ?_
      refine wr_istore_n C (vs' := [(1, .int (nI (y + 0))), (2, .int (nI a)), (0, .ref (Γ.2.2 70))]) dM_messages_26 rfl (by decide) rfl ?_
      refine wr_iinc C (v := nI (a + 1)) (vs' := [(2, .int (nI (a + 1))), (1, .int (nI (y + 0))), (0, .ref (Γ.2.2 70))]) 1 dM_messages_27 rfl (wc_inc1 a) (by decide) rfl ?_
      refine wr_goto C (tgt := 4) dM_messages_30 (by decide) ?_
      refine wr_sub [0, 1, 2] rfl ?_
      exact ih (a + 1) (y + 0) (by omega) (by rw [← hv]; simp [fm_msgs, *])
    ·
      refine wr_iconst C (v := nI 1) dM_messages_20 (by decide) ?_
      refine wr_goto C (tgt := 25) dM_messages_21 (by decide) ?_
      refine wr_iadd C (z := nI (y + 1)) dM_messages_25 (nI_add y 1) ?_
      refine wr_istore_n C (vs' := [(1, .int (nI (y + 1))), (2, .int (nI a)), (0, .ref (Γ.2.2 70))]) dM_messages_26 rfl (by decide) rfl ?_
      refine wr_iinc C (v := nI (a + 1)) (vs' := [(2, .int (nI (a + 1))), (1, .int (nI (y + 1))), (0, .ref (Γ.2.2 70))]) 1 dM_messages_27 rfl (wc_inc1 a) (by decide) rfl ?_
      refine wr_goto C (tgt := 4) dM_messages_30 (by decide) ?_
      refine wr_sub [0, 1, 2] rfl ?_
      exact ih (a + 1) (y + 1) (by omega) (by rw [← hv]; simp [fm_msgs, *])
set_option maxRecDepth 100000 in
set_option maxHeartbeats 4000000 in
theorem mm_messages (l : Launch) (Γ : wc_G) (σ μ : wc_St)  : wc_M l yM_messages cM_messages 3 (some .int) 0 Γ [.ref (Γ.2.2 70)] σ μ (some (.int (nI (fm_msgs μ 45 0 0)))) σ (μ) := by
  refine wc_enter "WaitedCommitsModel" (by decide) rfl (Nat.le_of_ble_eq_true rfl) ?_
  intro P0 E0 S0 M0 A0 B0 T0 K0 C hr hlk
  refine wr_vs (vs' := [(0, .ref (Γ.2.2 70))]) rfl ?_
  refine wr_iconst C (v := nI 0) dM_messages_0 (by decide) ?_
  refine wr_istore_n C (vs' := [(1, .int (nI 0)), (0, .ref (Γ.2.2 70))]) dM_messages_1 rfl (by decide) rfl ?_
  refine wr_iconst C (v := nI 0) dM_messages_2 (by decide) ?_
  refine wr_istore_n C (vs' := [(2, .int (nI 0)), (1, .int (nI 0)), (0, .ref (Γ.2.2 70))]) dM_messages_3 rfl (by decide) rfl ?_
  refine wr_sub [0, 1, 2] rfl ?_
  exact mn_msgs C hr hlk σ μ rfl rfl 45 0 0 rfl rfl
