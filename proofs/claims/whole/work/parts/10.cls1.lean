set_option maxRecDepth 100000 in
set_option maxHeartbeats 4000000 in
theorem mc_raiseBound (l : Launch) (Γ : wc_G) (σ μ : wc_St) {q : Nat} (hq : q < 3) (r : Int32) : wc_M l yS_raiseBound cS_raiseBound 2 none 1 Γ [.ref (Γ.2.2 (5 + q)), .int r] σ μ none (fc_raise σ q r) μ := by
  refine wc_enter "WaitedCommits$Site" (by decide) rfl (Nat.le_of_ble_eq_true rfl) ?_
  intro P0 E0 S0 M0 A0 B0 T0 K0 C hr hlk
  refine wr_vs (vs' := [(0, .ref (Γ.2.2 (5 + q))), (1, .int r)]) rfl ?_
  refine wr_aload_n C 0 dS_raiseBound_0 rfl rfl ?_
  refine wr_aload_n C 0 dS_raiseBound_1 rfl rfl ?_
  refine wf_Site_bound C (by omega) (Or.inl tw_39) dS_raiseBound_2 ?_
  refine wr_iload_n C 1 dS_raiseBound_5 rfl rfl ?_
  refine wr_mmax C tw_245 tw_24 tw_2 tw_25 (by decide) (by decide) (Nat.le_of_ble_eq_true rfl) ⟨Nat.le_refl _, Nat.le_refl _⟩ dS_raiseBound_6 ?_
  refine wp_Site_bound C (by omega) (Or.inl tw_39) dS_raiseBound_9 ?_
  generalize hs1 : wc_st σ 4 q 0 (wc_mx (σ 4 q 0) r) = σ1
  exact wr_vret C hr hlk dS_raiseBound_12 rfl (by subst_vars; rfl) (by subst_vars; rfl)
set_option maxRecDepth 100000 in
set_option maxHeartbeats 4000000 in
theorem mc_add (l : Launch) (Γ : wc_G) (σ μ : wc_St) {k : Nat} (hk : k < 9) (a b : Int32) : wc_M l yK_add cK_add 4 none 1 Γ [.ref (Γ.2.2 (8 + k)), .int a, .int b] σ μ none (fc_add σ k a b) μ := by
  refine wc_enter "WaitedCommits$Key" (by decide) rfl (Nat.le_of_ble_eq_true rfl) ?_
  intro P0 E0 S0 M0 A0 B0 T0 K0 C hr hlk
  refine wr_vs (vs' := [(0, .ref (Γ.2.2 (8 + k))), (1, .int a), (2, .int b)]) rfl ?_
  refine wr_iconst C (v := nI 3) dK_add_0 (by decide) ?_
  refine wr_istore_n C (vs' := [(3, .int (nI 3)), (0, .ref (Γ.2.2 (8 + k))), (1, .int a), (2, .int b)]) dK_add_1 rfl (by decide) rfl ?_
  refine wr_iload_n C 0 dK_add_2 rfl rfl ?_
  refine wr_if_le C (tgt := 40) dK_add_3 (by decide) (fun h1 => absurd h1 (by decide)) (fun _ => ?_)
  refine wr_aload_n C 1 dK_add_6 rfl rfl ?_
  refine wf_Key_values C (by omega) (Or.inl tw_51) dK_add_7 ?_
  refine wr_iload_n C 0 dK_add_10 rfl rfl ?_
  refine wr_aload_n C 1 dK_add_11 rfl rfl ?_
  refine wf_Key_values C (by omega) (Or.inl tw_51) dK_add_12 ?_
  refine wr_iload_n C 0 dK_add_15 rfl rfl ?_
  refine wr_iconst C (v := nI 1) dK_add_16 (by decide) ?_
  refine wr_isub C (z := nI 2) dK_add_17 (by decide) ?_
  refine wa_values C (by omega) (by omega) dK_add_18 ?_
  refine ws_values C (by omega) (by omega) dK_add_19 ?_
  generalize hs1 : wc_st σ 6 k 3 (σ 6 k 2) = σ1
  refine wr_aload_n C 1 dK_add_20 rfl rfl ?_
  refine wf_Key_stamps C (by omega) (Or.inl tw_53) dK_add_21 ?_
  refine wr_iload_n C 0 dK_add_24 rfl rfl ?_
  refine wr_aload_n C 1 dK_add_25 rfl rfl ?_
  refine wf_Key_stamps C (by omega) (Or.inl tw_53) dK_add_26 ?_
  refine wr_iload_n C 0 dK_add_29 rfl rfl ?_
  refine wr_iconst C (v := nI 1) dK_add_30 (by decide) ?_
  refine wr_isub C (z := nI 2) dK_add_31 (by decide) ?_
  refine wa_stamps C (by omega) (by omega) dK_add_32 ?_
  refine ws_stamps C (by omega) (by omega) dK_add_33 ?_
  generalize hs2 : wc_st σ1 7 k 3 (σ1 7 k 2) = σ2
  refine wr_iinc C (v := nI 2) (vs' := [(3, .int (nI 2)), (0, .ref (Γ.2.2 (8 + k))), (1, .int a), (2, .int b)]) 0 dK_add_34 rfl (by decide) (by decide) rfl ?_
  refine wr_goto C (tgt := 2) dK_add_37 (by decide) ?_
  refine wr_iload_n C 0 dK_add_2 rfl rfl ?_
  refine wr_if_le C (tgt := 40) dK_add_3 (by decide) (fun h2 => absurd h2 (by decide)) (fun _ => ?_)
  refine wr_aload_n C 1 dK_add_6 rfl rfl ?_
  refine wf_Key_values C (by omega) (Or.inl tw_51) dK_add_7 ?_
  refine wr_iload_n C 0 dK_add_10 rfl rfl ?_
  refine wr_aload_n C 1 dK_add_11 rfl rfl ?_
  refine wf_Key_values C (by omega) (Or.inl tw_51) dK_add_12 ?_
  refine wr_iload_n C 0 dK_add_15 rfl rfl ?_
  refine wr_iconst C (v := nI 1) dK_add_16 (by decide) ?_
  refine wr_isub C (z := nI 1) dK_add_17 (by decide) ?_
  refine wa_values C (by omega) (by omega) dK_add_18 ?_
  refine ws_values C (by omega) (by omega) dK_add_19 ?_
  generalize hs3 : wc_st σ2 6 k 2 (σ2 6 k 1) = σ3
  refine wr_aload_n C 1 dK_add_20 rfl rfl ?_
  refine wf_Key_stamps C (by omega) (Or.inl tw_53) dK_add_21 ?_
  refine wr_iload_n C 0 dK_add_24 rfl rfl ?_
  refine wr_aload_n C 1 dK_add_25 rfl rfl ?_
  refine wf_Key_stamps C (by omega) (Or.inl tw_53) dK_add_26 ?_
  refine wr_iload_n C 0 dK_add_29 rfl rfl ?_
  refine wr_iconst C (v := nI 1) dK_add_30 (by decide) ?_
  refine wr_isub C (z := nI 1) dK_add_31 (by decide) ?_
  refine wa_stamps C (by omega) (by omega) dK_add_32 ?_
  refine ws_stamps C (by omega) (by omega) dK_add_33 ?_
  generalize hs4 : wc_st σ3 7 k 2 (σ3 7 k 1) = σ4
  refine wr_iinc C (v := nI 1) (vs' := [(3, .int (nI 1)), (0, .ref (Γ.2.2 (8 + k))), (1, .int a), (2, .int b)]) 0 dK_add_34 rfl (by decide) (by decide) rfl ?_
  refine wr_goto C (tgt := 2) dK_add_37 (by decide) ?_
  refine wr_iload_n C 0 dK_add_2 rfl rfl ?_
  refine wr_if_le C (tgt := 40) dK_add_3 (by decide) (fun h3 => absurd h3 (by decide)) (fun _ => ?_)
  refine wr_aload_n C 1 dK_add_6 rfl rfl ?_
  refine wf_Key_values C (by omega) (Or.inl tw_51) dK_add_7 ?_
  refine wr_iload_n C 0 dK_add_10 rfl rfl ?_
  refine wr_aload_n C 1 dK_add_11 rfl rfl ?_
  refine wf_Key_values C (by omega) (Or.inl tw_51) dK_add_12 ?_
  refine wr_iload_n C 0 dK_add_15 rfl rfl ?_
  refine wr_iconst C (v := nI 1) dK_add_16 (by decide) ?_
  refine wr_isub C (z := nI 0) dK_add_17 (by decide) ?_
  refine wa_values C (by omega) (by omega) dK_add_18 ?_
  refine ws_values C (by omega) (by omega) dK_add_19 ?_
  generalize hs5 : wc_st σ4 6 k 1 (σ4 6 k 0) = σ5
  refine wr_aload_n C 1 dK_add_20 rfl rfl ?_
  refine wf_Key_stamps C (by omega) (Or.inl tw_53) dK_add_21 ?_
  refine wr_iload_n C 0 dK_add_24 rfl rfl ?_
  refine wr_aload_n C 1 dK_add_25 rfl rfl ?_
  refine wf_Key_stamps C (by omega) (Or.inl tw_53) dK_add_26 ?_
  refine wr_iload_n C 0 dK_add_29 rfl rfl ?_
  refine wr_iconst C (v := nI 1) dK_add_30 (by decide) ?_
  refine wr_isub C (z := nI 0) dK_add_31 (by decide) ?_
  refine wa_stamps C (by omega) (by omega) dK_add_32 ?_
  refine ws_stamps C (by omega) (by omega) dK_add_33 ?_
  generalize hs6 : wc_st σ5 7 k 1 (σ5 7 k 0) = σ6
  refine wr_iinc C (v := nI 0) (vs' := [(3, .int (nI 0)), (0, .ref (Γ.2.2 (8 + k))), (1, .int a), (2, .int b)]) 0 dK_add_34 rfl (by decide) (by decide) rfl ?_
  refine wr_goto C (tgt := 2) dK_add_37 (by decide) ?_
  refine wr_iload_n C 0 dK_add_2 rfl rfl ?_
  refine wr_if_le C (tgt := 40) dK_add_3 (by decide) (fun _ => ?_) (fun h4 => absurd (by decide) h4)
  refine wr_aload_n C 1 dK_add_40 rfl rfl ?_
  refine wf_Key_values C (by omega) (Or.inl tw_51) dK_add_41 ?_
  refine wr_iconst C (v := nI 0) dK_add_44 (by decide) ?_
  refine wr_iload_n C 2 dK_add_45 rfl rfl ?_
  refine ws_values C (by omega) (by omega) dK_add_46 ?_
  generalize hs7 : wc_st σ6 6 k 0 a = σ7
  refine wr_aload_n C 1 dK_add_47 rfl rfl ?_
  refine wf_Key_stamps C (by omega) (Or.inl tw_53) dK_add_48 ?_
  refine wr_iconst C (v := nI 0) dK_add_51 (by decide) ?_
  refine wr_iload_n C 3 dK_add_52 rfl rfl ?_
  refine ws_stamps C (by omega) (by omega) dK_add_53 ?_
  generalize hs8 : wc_st σ7 7 k 0 b = σ8
  refine wr_aload_n C 1 dK_add_54 rfl rfl ?_
  refine wr_aload_n C 1 dK_add_55 rfl rfl ?_
  refine wf_Key_count C (by omega) (Or.inl tw_55) dK_add_56 ?_
  refine wr_iconst C (v := nI 1) dK_add_59 (by decide) ?_
  refine wr_iadd C (z := (σ8 5 k 0) + (nI 1)) dK_add_60 rfl ?_
  refine wr_iconst C (v := nI 4) dK_add_61 (by decide) ?_
  refine wr_mmin C tw_281 tw_21 tw_2 tw_22 (by decide) (by decide) (Nat.le_of_ble_eq_true rfl) ⟨Nat.le_refl _, Nat.le_refl _⟩ dK_add_62 ?_
  refine wp_Key_count C (by omega) (Or.inl tw_55) dK_add_65 ?_
  generalize hs9 : wc_st σ8 5 k 0 (wc_mn ((σ8 5 k 0) + (nI 1)) (nI 4)) = σ9
  exact wr_vret C hr hlk dK_add_68 rfl (by subst_vars; rfl) (by subst_vars; rfl)
set_option maxRecDepth 100000 in
set_option maxHeartbeats 4000000 in
theorem mc_holdsAt (l : Launch) (Γ : wc_G) (σ μ : wc_St) {t q : Nat} (ht : t < 5) (hq : q < 3) : wc_M l yT_holdsAt cT_holdsAt 3 (some .boolean) 0 Γ [.ref (Γ.2.2 (35 + t)), .int (nI q)] σ μ (some (.int (fc_holds σ t q))) (σ) μ := by
  refine wc_enter "WaitedCommits$Transaction" (by decide) rfl (Nat.le_of_ble_eq_true rfl) ?_
  intro P0 E0 S0 M0 A0 B0 T0 K0 C hr hlk
  refine wr_vs (vs' := [(0, .ref (Γ.2.2 (35 + t))), (1, .int (nI q))]) rfl ?_
  refine wr_iload_n C 1 dT_holdsAt_0 rfl rfl ?_
  refine wr_istore_n C (vs' := [(2, .int (nI q)), (0, .ref (Γ.2.2 (35 + t))), (1, .int (nI q))]) dT_holdsAt_1 rfl (by decide) rfl ?_
  refine wr_iload_n C 0 dT_holdsAt_2 rfl rfl ?_
  refine wr_bipush C (v := nI 9) dT_holdsAt_3 (by decide) ?_
  refine wr_icmp_ge C (tgt := 25) dT_holdsAt_5 (by decide) (fun h1 => absurd h1 (wc_noge (by omega) (by omega) (by omega))) (fun _ => ?_)
  refine wr_aload_n C 1 dT_holdsAt_8 rfl rfl ?_
  refine wf_Tx_locks C (by omega) (Or.inl tw_79) dT_holdsAt_9 ?_
  refine wr_iload_n C 0 dT_holdsAt_12 rfl rfl ?_
  refine wa_locks C (by omega) (by omega) dT_holdsAt_13 ?_
  refine wr_if_eq C (tgt := 19) dT_holdsAt_14 (by decide) (fun h2 => ?_) (fun h2 => ?_)
  ·
    refine wr_iinc C (v := nI (q + 3)) (vs' := [(2, .int (nI (q + 3))), (0, .ref (Γ.2.2 (35 + t))), (1, .int (nI q))]) 0 dT_holdsAt_19 rfl (wc_inc3 q) (by decide) rfl ?_
    refine wr_goto C (tgt := 2) dT_holdsAt_22 (by decide) ?_
    refine wr_iload_n C 0 dT_holdsAt_2 rfl rfl ?_
    refine wr_bipush C (v := nI 9) dT_holdsAt_3 (by decide) ?_
    refine wr_icmp_ge C (tgt := 25) dT_holdsAt_5 (by decide) (fun h3 => absurd h3 (wc_noge (by omega) (by omega) (by omega))) (fun _ => ?_)
    refine wr_aload_n C 1 dT_holdsAt_8 rfl rfl ?_
    refine wf_Tx_locks C (by omega) (Or.inl tw_79) dT_holdsAt_9 ?_
    refine wr_iload_n C 0 dT_holdsAt_12 rfl rfl ?_
    refine wa_locks C (by omega) (by omega) dT_holdsAt_13 ?_
    refine wr_if_eq C (tgt := 19) dT_holdsAt_14 (by decide) (fun h4 => ?_) (fun h4 => ?_)
    ·
      refine wr_iinc C (v := nI (q + 3 + 3)) (vs' := [(2, .int (nI (q + 3 + 3))), (0, .ref (Γ.2.2 (35 + t))), (1, .int (nI q))]) 0 dT_holdsAt_19 rfl (wc_inc3 (q + 3)) (by decide) rfl ?_
      refine wr_goto C (tgt := 2) dT_holdsAt_22 (by decide) ?_
      refine wr_iload_n C 0 dT_holdsAt_2 rfl rfl ?_
      refine wr_bipush C (v := nI 9) dT_holdsAt_3 (by decide) ?_
      refine wr_icmp_ge C (tgt := 25) dT_holdsAt_5 (by decide) (fun h5 => absurd h5 (wc_noge (by omega) (by omega) (by omega))) (fun _ => ?_)
      refine wr_aload_n C 1 dT_holdsAt_8 rfl rfl ?_
      refine wf_Tx_locks C (by omega) (Or.inl tw_79) dT_holdsAt_9 ?_
      refine wr_iload_n C 0 dT_holdsAt_12 rfl rfl ?_
      refine wa_locks C (by omega) (by omega) dT_holdsAt_13 ?_
      refine wr_if_eq C (tgt := 19) dT_holdsAt_14 (by decide) (fun h6 => ?_) (fun h6 => ?_)
      ·
        refine wr_iinc C (v := nI (q + 3 + 3 + 3)) (vs' := [(2, .int (nI (q + 3 + 3 + 3))), (0, .ref (Γ.2.2 (35 + t))), (1, .int (nI q))]) 0 dT_holdsAt_19 rfl (wc_inc3 (q + 3 + 3)) (by decide) rfl ?_
        refine wr_goto C (tgt := 2) dT_holdsAt_22 (by decide) ?_
        refine wr_iload_n C 0 dT_holdsAt_2 rfl rfl ?_
        refine wr_bipush C (v := nI 9) dT_holdsAt_3 (by decide) ?_
        refine wr_icmp_ge C (tgt := 25) dT_holdsAt_5 (by decide) (fun _ => ?_) (fun h7 => absurd (wc_yesge (by omega) (by omega) (by omega)) h7)
        refine wr_iconst C (v := nI 0) dT_holdsAt_25 (by decide) ?_
        exact wr_iret C hr rfl hlk dT_holdsAt_26 (by subst_vars; first | (simp [fc_holds, wc_nIe, wc_nI0, wc_nIm, *]; done) | (simp_all [fc_holds, wc_nIe, wc_nI0, wc_nIm]; done)) (by rfl) (by rfl)
      ·
        refine wr_iconst C (v := nI 1) dT_holdsAt_17 (by decide) ?_
        exact wr_iret C hr rfl hlk dT_holdsAt_18 (by subst_vars; first | (simp [fc_holds, wc_nIe, wc_nI0, wc_nIm, *]; done) | (simp_all [fc_holds, wc_nIe, wc_nI0, wc_nIm]; done)) (by rfl) (by rfl)
    ·
      refine wr_iconst C (v := nI 1) dT_holdsAt_17 (by decide) ?_
      exact wr_iret C hr rfl hlk dT_holdsAt_18 (by subst_vars; first | (simp [fc_holds, wc_nIe, wc_nI0, wc_nIm, *]; done) | (simp_all [fc_holds, wc_nIe, wc_nI0, wc_nIm]; done)) (by rfl) (by rfl)
  ·
    refine wr_iconst C (v := nI 1) dT_holdsAt_17 (by decide) ?_
    exact wr_iret C hr rfl hlk dT_holdsAt_18 (by subst_vars; first | (simp [fc_holds, wc_nIe, wc_nI0, wc_nIm, *]; done) | (simp_all [fc_holds, wc_nIe, wc_nI0, wc_nIm]; done)) (by rfl) (by rfl)
set_option maxRecDepth 100000 in
set_option maxHeartbeats 4000000 in
theorem mc_least (l : Launch) (Γ : wc_G) (σ μ : wc_St) {t : Nat} (ht : t < 5) : wc_M l yT_leastParticipant cT_leastParticipant 2 (some .int) 1 Γ [.ref (Γ.2.2 (35 + t))] σ μ (some (.int (fc_least σ t))) (σ) μ := by
  refine wc_enter "WaitedCommits$Transaction" (by decide) rfl (Nat.le_of_ble_eq_true rfl) ?_
  intro P0 E0 S0 M0 A0 B0 T0 K0 C hr hlk
  refine wr_vs (vs' := [(0, .ref (Γ.2.2 (35 + t)))]) rfl ?_
  refine wr_iconst C (v := nI 0) dT_leastParticipant_0 (by decide) ?_
  refine wr_istore_n C (vs' := [(1, .int (nI 0)), (0, .ref (Γ.2.2 (35 + t)))]) dT_leastParticipant_1 rfl (by decide) rfl ?_
  refine wr_iload_n C 0 dT_leastParticipant_2 rfl rfl ?_
  refine wr_iconst C (v := nI 3) dT_leastParticipant_3 (by decide) ?_
  refine wr_icmp_ge C (tgt := 23) dT_leastParticipant_4 (by decide) (fun h1 => absurd h1 (by decide)) (fun _ => ?_)
  refine wr_aload_n C 1 dT_leastParticipant_7 rfl rfl ?_
  refine wr_iload_n C 0 dT_leastParticipant_8 rfl rfl ?_
  refine wr_callV1 C (As := [.int (nI 0)]) (rest := []) (mc_holdsAt l Γ σ μ (t := t) (q := 0) (by omega) (by omega)) cb_T_holdsAt (Or.inl tw_167) tw_168 tw_531 (by omega) (wc_c_Tx (by omega)) rfl (by decide) (by decide) rfl rfl (Nat.le_of_ble_eq_true rfl) ⟨Nat.le_refl _, Nat.le_refl _⟩ dT_leastParticipant_9 ?_
  refine wr_if_eq C (tgt := 17) dT_leastParticipant_12 (by decide) (fun h2 => ?_) (fun h2 => ?_)
  ·
    refine wr_iinc C (v := nI 1) (vs' := [(1, .int (nI 1)), (0, .ref (Γ.2.2 (35 + t)))]) 0 dT_leastParticipant_17 rfl (by decide) (by decide) rfl ?_
    refine wr_goto C (tgt := 2) dT_leastParticipant_20 (by decide) ?_
    refine wr_iload_n C 0 dT_leastParticipant_2 rfl rfl ?_
    refine wr_iconst C (v := nI 3) dT_leastParticipant_3 (by decide) ?_
    refine wr_icmp_ge C (tgt := 23) dT_leastParticipant_4 (by decide) (fun h3 => absurd h3 (by decide)) (fun _ => ?_)
    refine wr_aload_n C 1 dT_leastParticipant_7 rfl rfl ?_
    refine wr_iload_n C 0 dT_leastParticipant_8 rfl rfl ?_
    refine wr_callV1 C (As := [.int (nI 1)]) (rest := []) (mc_holdsAt l Γ σ μ (t := t) (q := 1) (by omega) (by omega)) cb_T_holdsAt (Or.inl tw_167) tw_168 tw_531 (by omega) (wc_c_Tx (by omega)) rfl (by decide) (by decide) rfl rfl (Nat.le_of_ble_eq_true rfl) ⟨Nat.le_refl _, Nat.le_refl _⟩ dT_leastParticipant_9 ?_
    refine wr_if_eq C (tgt := 17) dT_leastParticipant_12 (by decide) (fun h4 => ?_) (fun h4 => ?_)
    ·
      refine wr_iinc C (v := nI 2) (vs' := [(1, .int (nI 2)), (0, .ref (Γ.2.2 (35 + t)))]) 0 dT_leastParticipant_17 rfl (by decide) (by decide) rfl ?_
      refine wr_goto C (tgt := 2) dT_leastParticipant_20 (by decide) ?_
      refine wr_iload_n C 0 dT_leastParticipant_2 rfl rfl ?_
      refine wr_iconst C (v := nI 3) dT_leastParticipant_3 (by decide) ?_
      refine wr_icmp_ge C (tgt := 23) dT_leastParticipant_4 (by decide) (fun h5 => absurd h5 (by decide)) (fun _ => ?_)
      refine wr_aload_n C 1 dT_leastParticipant_7 rfl rfl ?_
      refine wr_iload_n C 0 dT_leastParticipant_8 rfl rfl ?_
      refine wr_callV1 C (As := [.int (nI 2)]) (rest := []) (mc_holdsAt l Γ σ μ (t := t) (q := 2) (by omega) (by omega)) cb_T_holdsAt (Or.inl tw_167) tw_168 tw_531 (by omega) (wc_c_Tx (by omega)) rfl (by decide) (by decide) rfl rfl (Nat.le_of_ble_eq_true rfl) ⟨Nat.le_refl _, Nat.le_refl _⟩ dT_leastParticipant_9 ?_
      refine wr_if_eq C (tgt := 17) dT_leastParticipant_12 (by decide) (fun h6 => ?_) (fun h6 => ?_)
      ·
        refine wr_iinc C (v := nI 3) (vs' := [(1, .int (nI 3)), (0, .ref (Γ.2.2 (35 + t)))]) 0 dT_leastParticipant_17 rfl (by decide) (by decide) rfl ?_
        refine wr_goto C (tgt := 2) dT_leastParticipant_20 (by decide) ?_
        refine wr_iload_n C 0 dT_leastParticipant_2 rfl rfl ?_
        refine wr_iconst C (v := nI 3) dT_leastParticipant_3 (by decide) ?_
        refine wr_icmp_ge C (tgt := 23) dT_leastParticipant_4 (by decide) (fun _ => ?_) (fun h7 => absurd (by decide) h7)
        refine wr_iconst C (v := -1) dT_leastParticipant_23 (by decide) ?_
        exact wr_iret C hr rfl hlk dT_leastParticipant_24 (by subst_vars; first | (simp [fc_least, wc_nIe, wc_nI0, wc_nIm, *]; done) | (simp_all [fc_least, wc_nIe, wc_nI0, wc_nIm]; done)) (by rfl) (by rfl)
      ·
        refine wr_iload_n C 0 dT_leastParticipant_15 rfl rfl ?_
        exact wr_iret C hr rfl hlk dT_leastParticipant_16 (by subst_vars; first | (simp [fc_least, wc_nIe, wc_nI0, wc_nIm, *]; done) | (simp_all [fc_least, wc_nIe, wc_nI0, wc_nIm]; done)) (by rfl) (by rfl)
    ·
      refine wr_iload_n C 0 dT_leastParticipant_15 rfl rfl ?_
      exact wr_iret C hr rfl hlk dT_leastParticipant_16 (by subst_vars; first | (simp [fc_least, wc_nIe, wc_nI0, wc_nIm, *]; done) | (simp_all [fc_least, wc_nIe, wc_nI0, wc_nIm]; done)) (by rfl) (by rfl)
  ·
    refine wr_iload_n C 0 dT_leastParticipant_15 rfl rfl ?_
    exact wr_iret C hr rfl hlk dT_leastParticipant_16 (by subst_vars; first | (simp [fc_least, wc_nIe, wc_nI0, wc_nIm, *]; done) | (simp_all [fc_least, wc_nIe, wc_nI0, wc_nIm]; done)) (by rfl) (by rfl)
set_option maxRecDepth 100000 in
set_option maxHeartbeats 4000000 in
theorem mc_unlockAt (l : Launch) (Γ : wc_G) (σ μ : wc_St) {t q : Nat} (ht : t < 5) (hq : q < 3) : wc_M l yT_unlockAt cT_unlockAt 3 none 0 Γ [.ref (Γ.2.2 (35 + t)), .int (nI q)] σ μ none (fc_unlock σ t q) μ := by
  refine wc_enter "WaitedCommits$Transaction" (by decide) rfl (Nat.le_of_ble_eq_true rfl) ?_
  intro P0 E0 S0 M0 A0 B0 T0 K0 C hr hlk
  refine wr_vs (vs' := [(0, .ref (Γ.2.2 (35 + t))), (1, .int (nI q))]) rfl ?_
  refine wr_iload_n C 1 dT_unlockAt_0 rfl rfl ?_
  refine wr_istore_n C (vs' := [(2, .int (nI q)), (0, .ref (Γ.2.2 (35 + t))), (1, .int (nI q))]) dT_unlockAt_1 rfl (by decide) rfl ?_
  refine wr_iload_n C 0 dT_unlockAt_2 rfl rfl ?_
  refine wr_bipush C (v := nI 9) dT_unlockAt_3 (by decide) ?_
  refine wr_icmp_ge C (tgt := 21) dT_unlockAt_5 (by decide) (fun h1 => absurd h1 (wc_noge (by omega) (by omega) (by omega))) (fun _ => ?_)
  refine wr_aload_n C 1 dT_unlockAt_8 rfl rfl ?_
  refine wf_Tx_locks C (by omega) (Or.inl tw_79) dT_unlockAt_9 ?_
  refine wr_iload_n C 0 dT_unlockAt_12 rfl rfl ?_
  refine wr_iconst C (v := nI 0) dT_unlockAt_13 (by decide) ?_
  refine ws_locks C (by omega) (by omega) dT_unlockAt_14 ?_
  generalize hs1 : wc_st σ 15 t q (nI 0) = σ1
  refine wr_iinc C (v := nI (q + 3)) (vs' := [(2, .int (nI (q + 3))), (0, .ref (Γ.2.2 (35 + t))), (1, .int (nI q))]) 0 dT_unlockAt_15 rfl (wc_inc3 q) (by decide) rfl ?_
  refine wr_goto C (tgt := 2) dT_unlockAt_18 (by decide) ?_
  refine wr_iload_n C 0 dT_unlockAt_2 rfl rfl ?_
  refine wr_bipush C (v := nI 9) dT_unlockAt_3 (by decide) ?_
  refine wr_icmp_ge C (tgt := 21) dT_unlockAt_5 (by decide) (fun h2 => absurd h2 (wc_noge (by omega) (by omega) (by omega))) (fun _ => ?_)
  refine wr_aload_n C 1 dT_unlockAt_8 rfl rfl ?_
  refine wf_Tx_locks C (by omega) (Or.inl tw_79) dT_unlockAt_9 ?_
  refine wr_iload_n C 0 dT_unlockAt_12 rfl rfl ?_
  refine wr_iconst C (v := nI 0) dT_unlockAt_13 (by decide) ?_
  refine ws_locks C (by omega) (by omega) dT_unlockAt_14 ?_
  generalize hs2 : wc_st σ1 15 t (q + 3) (nI 0) = σ2
  refine wr_iinc C (v := nI (q + 3 + 3)) (vs' := [(2, .int (nI (q + 3 + 3))), (0, .ref (Γ.2.2 (35 + t))), (1, .int (nI q))]) 0 dT_unlockAt_15 rfl (wc_inc3 (q + 3)) (by decide) rfl ?_
  refine wr_goto C (tgt := 2) dT_unlockAt_18 (by decide) ?_
  refine wr_iload_n C 0 dT_unlockAt_2 rfl rfl ?_
  refine wr_bipush C (v := nI 9) dT_unlockAt_3 (by decide) ?_
  refine wr_icmp_ge C (tgt := 21) dT_unlockAt_5 (by decide) (fun h3 => absurd h3 (wc_noge (by omega) (by omega) (by omega))) (fun _ => ?_)
  refine wr_aload_n C 1 dT_unlockAt_8 rfl rfl ?_
  refine wf_Tx_locks C (by omega) (Or.inl tw_79) dT_unlockAt_9 ?_
  refine wr_iload_n C 0 dT_unlockAt_12 rfl rfl ?_
  refine wr_iconst C (v := nI 0) dT_unlockAt_13 (by decide) ?_
  refine ws_locks C (by omega) (by omega) dT_unlockAt_14 ?_
  generalize hs3 : wc_st σ2 15 t (q + 3 + 3) (nI 0) = σ3
  refine wr_iinc C (v := nI (q + 3 + 3 + 3)) (vs' := [(2, .int (nI (q + 3 + 3 + 3))), (0, .ref (Γ.2.2 (35 + t))), (1, .int (nI q))]) 0 dT_unlockAt_15 rfl (wc_inc3 (q + 3 + 3)) (by decide) rfl ?_
  refine wr_goto C (tgt := 2) dT_unlockAt_18 (by decide) ?_
  refine wr_iload_n C 0 dT_unlockAt_2 rfl rfl ?_
  refine wr_bipush C (v := nI 9) dT_unlockAt_3 (by decide) ?_
  refine wr_icmp_ge C (tgt := 21) dT_unlockAt_5 (by decide) (fun _ => ?_) (fun h4 => absurd (wc_yesge (by omega) (by omega) (by omega)) h4)
  exact wr_vret C hr hlk dT_unlockAt_21 rfl (by subst_vars; rfl) (by subst_vars; rfl)
set_option maxRecDepth 100000 in
set_option maxHeartbeats 4000000 in
theorem mc_giveUp (l : Launch) (Γ : wc_G) (σ μ : wc_St) {t : Nat} (ht : t < 5) : wc_M l yT_giveUp cT_giveUp 2 none 1 Γ [.ref (Γ.2.2 (35 + t))] σ μ none (fc_giveUp σ t) μ := by
  refine wc_enter "WaitedCommits$Transaction" (by decide) rfl (Nat.le_of_ble_eq_true rfl) ?_
  intro P0 E0 S0 M0 A0 B0 T0 K0 C hr hlk
  refine wr_vs (vs' := [(0, .ref (Γ.2.2 (35 + t)))]) rfl ?_
  refine wr_iconst C (v := nI 0) dT_giveUp_0 (by decide) ?_
  refine wr_istore_n C (vs' := [(1, .int (nI 0)), (0, .ref (Γ.2.2 (35 + t)))]) dT_giveUp_1 rfl (by decide) rfl ?_
  refine wr_iload_n C 0 dT_giveUp_2 rfl rfl ?_
  refine wr_iconst C (v := nI 3) dT_giveUp_3 (by decide) ?_
  refine wr_icmp_ge C (tgt := 18) dT_giveUp_4 (by decide) (fun h1 => absurd h1 (by decide)) (fun _ => ?_)
  refine wr_aload_n C 1 dT_giveUp_7 rfl rfl ?_
  refine wr_iload_n C 0 dT_giveUp_8 rfl rfl ?_
  refine wr_callV0 C (As := [.int (nI 0)]) (rest := []) (mc_unlockAt l Γ σ μ (t := t) (q := 0) (by omega) (by omega)) cb_T_unlockAt (Or.inl tw_195) tw_196 tw_535 (by omega) (wc_c_Tx (by omega)) rfl (by decide) (by decide) rfl rfl (Nat.le_of_ble_eq_true rfl) ⟨Nat.le_refl _, Nat.le_refl _⟩ dT_giveUp_9 ?_
  generalize hs1 : fc_unlock σ t 0 = σ1
  refine wr_iinc C (v := nI 1) (vs' := [(1, .int (nI 1)), (0, .ref (Γ.2.2 (35 + t)))]) 0 dT_giveUp_12 rfl (by decide) (by decide) rfl ?_
  refine wr_goto C (tgt := 2) dT_giveUp_15 (by decide) ?_
  refine wr_iload_n C 0 dT_giveUp_2 rfl rfl ?_
  refine wr_iconst C (v := nI 3) dT_giveUp_3 (by decide) ?_
  refine wr_icmp_ge C (tgt := 18) dT_giveUp_4 (by decide) (fun h2 => absurd h2 (by decide)) (fun _ => ?_)
  refine wr_aload_n C 1 dT_giveUp_7 rfl rfl ?_
  refine wr_iload_n C 0 dT_giveUp_8 rfl rfl ?_
  refine wr_callV0 C (As := [.int (nI 1)]) (rest := []) (mc_unlockAt l Γ σ1 μ (t := t) (q := 1) (by omega) (by omega)) cb_T_unlockAt (Or.inl tw_195) tw_196 tw_535 (by omega) (wc_c_Tx (by omega)) rfl (by decide) (by decide) rfl rfl (Nat.le_of_ble_eq_true rfl) ⟨Nat.le_refl _, Nat.le_refl _⟩ dT_giveUp_9 ?_
  generalize hs2 : fc_unlock σ1 t 1 = σ2
  refine wr_iinc C (v := nI 2) (vs' := [(1, .int (nI 2)), (0, .ref (Γ.2.2 (35 + t)))]) 0 dT_giveUp_12 rfl (by decide) (by decide) rfl ?_
  refine wr_goto C (tgt := 2) dT_giveUp_15 (by decide) ?_
  refine wr_iload_n C 0 dT_giveUp_2 rfl rfl ?_
  refine wr_iconst C (v := nI 3) dT_giveUp_3 (by decide) ?_
  refine wr_icmp_ge C (tgt := 18) dT_giveUp_4 (by decide) (fun h3 => absurd h3 (by decide)) (fun _ => ?_)
  refine wr_aload_n C 1 dT_giveUp_7 rfl rfl ?_
  refine wr_iload_n C 0 dT_giveUp_8 rfl rfl ?_
  refine wr_callV0 C (As := [.int (nI 2)]) (rest := []) (mc_unlockAt l Γ σ2 μ (t := t) (q := 2) (by omega) (by omega)) cb_T_unlockAt (Or.inl tw_195) tw_196 tw_535 (by omega) (wc_c_Tx (by omega)) rfl (by decide) (by decide) rfl rfl (Nat.le_of_ble_eq_true rfl) ⟨Nat.le_refl _, Nat.le_refl _⟩ dT_giveUp_9 ?_
  generalize hs3 : fc_unlock σ2 t 2 = σ3
  refine wr_iinc C (v := nI 3) (vs' := [(1, .int (nI 3)), (0, .ref (Γ.2.2 (35 + t)))]) 0 dT_giveUp_12 rfl (by decide) (by decide) rfl ?_
  refine wr_goto C (tgt := 2) dT_giveUp_15 (by decide) ?_
  refine wr_iload_n C 0 dT_giveUp_2 rfl rfl ?_
  refine wr_iconst C (v := nI 3) dT_giveUp_3 (by decide) ?_
  refine wr_icmp_ge C (tgt := 18) dT_giveUp_4 (by decide) (fun _ => ?_) (fun h4 => absurd (by decide) h4)
  refine wr_aload_n C 1 dT_giveUp_18 rfl rfl ?_
  refine wr_iconst C (v := nI 5) dT_giveUp_19 (by decide) ?_
  refine wp_Tx_state C (by omega) (Or.inl tw_65) dT_giveUp_20 ?_
  generalize hs4 : wc_st σ3 8 t 0 (nI 5) = σ4
  exact wr_vret C hr hlk dT_giveUp_23 rfl (by subst_vars; rfl) (by subst_vars; rfl)
set_option maxRecDepth 100000 in
set_option maxHeartbeats 4000000 in
theorem mc_gm (l : Launch) (Γ : wc_G) (σ μ : wc_St) {t : Nat} (ht : t < 5) : wc_M l yT_greatestMark cT_greatestMark 3 (some .int) 1 Γ [.ref (Γ.2.2 (35 + t))] σ μ (some (.int (fc_gm σ t))) (σ) μ := by
  refine wc_enter "WaitedCommits$Transaction" (by decide) rfl (Nat.le_of_ble_eq_true rfl) ?_
  intro P0 E0 S0 M0 A0 B0 T0 K0 C hr hlk
  refine wr_vs (vs' := [(0, .ref (Γ.2.2 (35 + t)))]) rfl ?_
  refine wr_iconst C (v := nI 0) dT_greatestMark_0 (by decide) ?_
  refine wr_istore_n C (vs' := [(1, .int (nI 0)), (0, .ref (Γ.2.2 (35 + t)))]) dT_greatestMark_1 rfl (by decide) rfl ?_
  refine wr_iconst C (v := nI 0) dT_greatestMark_2 (by decide) ?_
  refine wr_istore_n C (vs' := [(2, .int (nI 0)), (1, .int (nI 0)), (0, .ref (Γ.2.2 (35 + t)))]) dT_greatestMark_3 rfl (by decide) rfl ?_
  refine wr_iload_n C 0 dT_greatestMark_4 rfl rfl ?_
  refine wr_iconst C (v := nI 3) dT_greatestMark_5 (by decide) ?_
  refine wr_icmp_ge C (tgt := 26) dT_greatestMark_6 (by decide) (fun h1 => absurd h1 (by decide)) (fun _ => ?_)
  refine wr_iload_n C 1 dT_greatestMark_9 rfl rfl ?_
  refine wr_aload_n C 2 dT_greatestMark_10 rfl rfl ?_
  refine wf_Tx_marks C (by omega) (Or.inl tw_83) dT_greatestMark_11 ?_
  refine wr_iload_n C 0 dT_greatestMark_14 rfl rfl ?_
  refine wa_marks C (by omega) (by omega) dT_greatestMark_15 ?_
  refine wr_mmax C tw_226 tw_24 tw_2 tw_25 (by decide) (by decide) (Nat.le_of_ble_eq_true rfl) ⟨Nat.le_refl _, Nat.le_refl _⟩ dT_greatestMark_16 ?_
  refine wr_istore_n C (vs' := [(1, .int (wc_mx (nI 0) (σ 17 t 0))), (2, .int (nI 0)), (0, .ref (Γ.2.2 (35 + t)))]) dT_greatestMark_19 rfl (by decide) rfl ?_
  refine wr_iinc C (v := nI 1) (vs' := [(2, .int (nI 1)), (1, .int (wc_mx (nI 0) (σ 17 t 0))), (0, .ref (Γ.2.2 (35 + t)))]) 1 dT_greatestMark_20 rfl (by decide) (by decide) rfl ?_
  refine wr_goto C (tgt := 4) dT_greatestMark_23 (by decide) ?_
  refine wr_iload_n C 0 dT_greatestMark_4 rfl rfl ?_
  refine wr_iconst C (v := nI 3) dT_greatestMark_5 (by decide) ?_
  refine wr_icmp_ge C (tgt := 26) dT_greatestMark_6 (by decide) (fun h2 => absurd h2 (by decide)) (fun _ => ?_)
  refine wr_iload_n C 1 dT_greatestMark_9 rfl rfl ?_
  refine wr_aload_n C 2 dT_greatestMark_10 rfl rfl ?_
  refine wf_Tx_marks C (by omega) (Or.inl tw_83) dT_greatestMark_11 ?_
  refine wr_iload_n C 0 dT_greatestMark_14 rfl rfl ?_
  refine wa_marks C (by omega) (by omega) dT_greatestMark_15 ?_
  refine wr_mmax C tw_226 tw_24 tw_2 tw_25 (by decide) (by decide) (Nat.le_of_ble_eq_true rfl) ⟨Nat.le_refl _, Nat.le_refl _⟩ dT_greatestMark_16 ?_
  refine wr_istore_n C (vs' := [(1, .int (wc_mx (wc_mx (nI 0) (σ 17 t 0)) (σ 17 t 1))), (2, .int (nI 1)), (0, .ref (Γ.2.2 (35 + t)))]) dT_greatestMark_19 rfl (by decide) rfl ?_
  refine wr_iinc C (v := nI 2) (vs' := [(2, .int (nI 2)), (1, .int (wc_mx (wc_mx (nI 0) (σ 17 t 0)) (σ 17 t 1))), (0, .ref (Γ.2.2 (35 + t)))]) 1 dT_greatestMark_20 rfl (by decide) (by decide) rfl ?_
  refine wr_goto C (tgt := 4) dT_greatestMark_23 (by decide) ?_
  refine wr_iload_n C 0 dT_greatestMark_4 rfl rfl ?_
  refine wr_iconst C (v := nI 3) dT_greatestMark_5 (by decide) ?_
  refine wr_icmp_ge C (tgt := 26) dT_greatestMark_6 (by decide) (fun h3 => absurd h3 (by decide)) (fun _ => ?_)
  refine wr_iload_n C 1 dT_greatestMark_9 rfl rfl ?_
  refine wr_aload_n C 2 dT_greatestMark_10 rfl rfl ?_
  refine wf_Tx_marks C (by omega) (Or.inl tw_83) dT_greatestMark_11 ?_
  refine wr_iload_n C 0 dT_greatestMark_14 rfl rfl ?_
  refine wa_marks C (by omega) (by omega) dT_greatestMark_15 ?_
  refine wr_mmax C tw_226 tw_24 tw_2 tw_25 (by decide) (by decide) (Nat.le_of_ble_eq_true rfl) ⟨Nat.le_refl _, Nat.le_refl _⟩ dT_greatestMark_16 ?_
  refine wr_istore_n C (vs' := [(1, .int (wc_mx (wc_mx (wc_mx (nI 0) (σ 17 t 0)) (σ 17 t 1)) (σ 17 t 2))), (2, .int (nI 2)), (0, .ref (Γ.2.2 (35 + t)))]) dT_greatestMark_19 rfl (by decide) rfl ?_
  refine wr_iinc C (v := nI 3) (vs' := [(2, .int (nI 3)), (1, .int (wc_mx (wc_mx (wc_mx (nI 0) (σ 17 t 0)) (σ 17 t 1)) (σ 17 t 2))), (0, .ref (Γ.2.2 (35 + t)))]) 1 dT_greatestMark_20 rfl (by decide) (by decide) rfl ?_
  refine wr_goto C (tgt := 4) dT_greatestMark_23 (by decide) ?_
  refine wr_iload_n C 0 dT_greatestMark_4 rfl rfl ?_
  refine wr_iconst C (v := nI 3) dT_greatestMark_5 (by decide) ?_
  refine wr_icmp_ge C (tgt := 26) dT_greatestMark_6 (by decide) (fun _ => ?_) (fun h4 => absurd (by decide) h4)
  refine wr_iload_n C 1 dT_greatestMark_26 rfl rfl ?_
  exact wr_iret C hr rfl hlk dT_greatestMark_27 (by rfl) (by rfl) (by rfl)
set_option maxRecDepth 100000 in
set_option maxHeartbeats 4000000 in
theorem mc_before (l : Launch) (Γ : wc_G) (σ μ : wc_St) {i j : Nat} (hi : i < 15) (hj : j < 15) : wc_M l yG_comesBefore cG_comesBefore 2 (some .boolean) 0 Γ [.ref (Γ.2.2 (55 + i)), .ref (Γ.2.2 (55 + j))] σ μ (some (.int (fc_before σ i j))) (σ) μ := by
  refine wc_enter "WaitedCommits$Message" (by decide) rfl (Nat.le_of_ble_eq_true rfl) ?_
  intro P0 E0 S0 M0 A0 B0 T0 K0 C hr hlk
  refine wr_vs (vs' := [(0, .ref (Γ.2.2 (55 + i))), (1, .ref (Γ.2.2 (55 + j)))]) rfl ?_
  refine wr_aload_n C 0 dG_comesBefore_0 rfl rfl ?_
  refine wf_Msg_arrival C (by omega) (Or.inl tw_108) dG_comesBefore_1 ?_
  refine wr_aload_n C 1 dG_comesBefore_4 rfl rfl ?_
  refine wf_Msg_arrival C (by omega) (Or.inl tw_108) dG_comesBefore_5 ?_
  refine wr_icmp_lt C (tgt := 33) dG_comesBefore_8 (by decide) (fun h1 => ?_) (fun h1 => ?_)
  ·
    refine wr_iconst C (v := nI 1) dG_comesBefore_33 (by decide) ?_
    refine wr_goto C (tgt := 38) dG_comesBefore_34 (by decide) ?_
    exact wr_iret C hr rfl hlk dG_comesBefore_38 (by subst_vars; first | (simp [fc_before, wc_nIe, wc_nI0, wc_nIm, *]; done) | (simp_all [fc_before, wc_nIe, wc_nI0, wc_nIm]; done)) (by rfl) (by rfl)
  ·
    refine wr_aload_n C 0 dG_comesBefore_11 rfl rfl ?_
    refine wf_Msg_arrival C (by omega) (Or.inl tw_108) dG_comesBefore_12 ?_
    refine wr_aload_n C 1 dG_comesBefore_15 rfl rfl ?_
    refine wf_Msg_arrival C (by omega) (Or.inl tw_108) dG_comesBefore_16 ?_
    refine wr_icmp_ne C (tgt := 37) dG_comesBefore_19 (by decide) (fun h2 => ?_) (fun h2 => ?_)
    ·
      refine wr_iconst C (v := nI 0) dG_comesBefore_37 (by decide) ?_
      exact wr_iret C hr rfl hlk dG_comesBefore_38 (by subst_vars; first | (simp [fc_before, wc_nIe, wc_nI0, wc_nIm, *]; done) | (simp_all [fc_before, wc_nIe, wc_nI0, wc_nIm]; done)) (by rfl) (by rfl)
    ·
      refine wr_aload_n C 0 dG_comesBefore_22 rfl rfl ?_
      refine wf_Msg_order C (by omega) (Or.inl tw_110) dG_comesBefore_23 ?_
      refine wr_aload_n C 1 dG_comesBefore_26 rfl rfl ?_
      refine wf_Msg_order C (by omega) (Or.inl tw_110) dG_comesBefore_27 ?_
      refine wr_icmp_ge C (tgt := 37) dG_comesBefore_30 (by decide) (fun h3 => ?_) (fun h3 => ?_)
      ·
        refine wr_iconst C (v := nI 0) dG_comesBefore_37 (by decide) ?_
        exact wr_iret C hr rfl hlk dG_comesBefore_38 (by subst_vars; first | (simp [fc_before, wc_nIe, wc_nI0, wc_nIm, *]; done) | (simp_all [fc_before, wc_nIe, wc_nI0, wc_nIm]; done)) (by rfl) (by rfl)
      ·
        refine wr_iconst C (v := nI 1) dG_comesBefore_33 (by decide) ?_
        refine wr_goto C (tgt := 38) dG_comesBefore_34 (by decide) ?_
        exact wr_iret C hr rfl hlk dG_comesBefore_38 (by subst_vars; first | (simp [fc_before, wc_nIe, wc_nI0, wc_nIm, *]; done) | (simp_all [fc_before, wc_nIe, wc_nI0, wc_nIm]; done)) (by rfl) (by rfl)
set_option maxRecDepth 100000 in
set_option maxHeartbeats 4000000 in
theorem mc_isSite (l : Launch) (Γ : wc_G) (σ μ : wc_St) (a : Int32) : wc_M l yW_isSite cW_isSite 1 (some .boolean) 0 Γ [.int a] σ μ (some (.int (wc_in a 3))) (σ) μ := by
  refine wc_enter "WaitedCommits" (by decide) rfl (Nat.le_of_ble_eq_true rfl) ?_
  intro P0 E0 S0 M0 A0 B0 T0 K0 C hr hlk
  refine wr_vs (vs' := [(0, .int a)]) rfl ?_
  refine wr_iload_n C 0 dW_isSite_0 rfl rfl ?_
  refine wr_if_lt C (tgt := 13) dW_isSite_1 (by decide) (fun h1 => ?_) (fun h1 => ?_)
  ·
    refine wr_iconst C (v := nI 0) dW_isSite_13 (by decide) ?_
    exact wr_iret C hr rfl hlk dW_isSite_14 (by subst_vars; first | (simp [wc_in, wc_nIe, wc_nI0, wc_nIm, *]; done) | (simp_all [wc_in, wc_nIe, wc_nI0, wc_nIm]; done)) (by rfl) (by rfl)
  ·
    refine wr_iload_n C 0 dW_isSite_4 rfl rfl ?_
    refine wr_iconst C (v := nI 3) dW_isSite_5 (by decide) ?_
    refine wr_icmp_ge C (tgt := 13) dW_isSite_6 (by decide) (fun h2 => ?_) (fun h2 => ?_)
    ·
      refine wr_iconst C (v := nI 0) dW_isSite_13 (by decide) ?_
      exact wr_iret C hr rfl hlk dW_isSite_14 (by subst_vars; first | (simp [wc_in, wc_nIe, wc_nI0, wc_nIm, *]; done) | (simp_all [wc_in, wc_nIe, wc_nI0, wc_nIm]; done)) (by rfl) (by rfl)
    ·
      refine wr_iconst C (v := nI 1) dW_isSite_9 (by decide) ?_
      refine wr_goto C (tgt := 14) dW_isSite_10 (by decide) ?_
      exact wr_iret C hr rfl hlk dW_isSite_14 (by subst_vars; first | (simp [wc_in, wc_nIe, wc_nI0, wc_nIm, *]; done) | (simp_all [wc_in, wc_nIe, wc_nI0, wc_nIm]; done)) (by rfl) (by rfl)
theorem mc_isSiteI (l : Launch) (Γ : wc_G) (σ μ : wc_St) {j : Nat} (hj : j < 3) : wc_M l yW_isSite cW_isSite 1 (some .boolean) 0 Γ [.int (nI j)] σ μ (some (.int (nI 1))) σ μ := by
  have h := mc_isSite l Γ σ μ (nI j)
  rw [wc_in_I hj (by decide)] at h
  exact h
theorem mc_isSiteO (l : Launch) (Γ : wc_G) (σ μ : wc_St) (a : Int32) (h : a < 0 ∨ nI 3 ≤ a) : wc_M l yW_isSite cW_isSite 1 (some .boolean) 0 Γ [.int a] σ μ (some (.int (nI 0))) σ μ := by
  have h2 := mc_isSite l Γ σ μ a
  rw [wc_in_O h] at h2
  exact h2
set_option maxRecDepth 100000 in
set_option maxHeartbeats 4000000 in
theorem mc_isKey (l : Launch) (Γ : wc_G) (σ μ : wc_St) (a : Int32) : wc_M l yW_isKey cW_isKey 1 (some .boolean) 0 Γ [.int a] σ μ (some (.int (wc_in a 9))) (σ) μ := by
  refine wc_enter "WaitedCommits" (by decide) rfl (Nat.le_of_ble_eq_true rfl) ?_
  intro P0 E0 S0 M0 A0 B0 T0 K0 C hr hlk
  refine wr_vs (vs' := [(0, .int a)]) rfl ?_
  refine wr_iload_n C 0 dW_isKey_0 rfl rfl ?_
  refine wr_if_lt C (tgt := 14) dW_isKey_1 (by decide) (fun h1 => ?_) (fun h1 => ?_)
  ·
    refine wr_iconst C (v := nI 0) dW_isKey_14 (by decide) ?_
    exact wr_iret C hr rfl hlk dW_isKey_15 (by subst_vars; first | (simp [wc_in, wc_nIe, wc_nI0, wc_nIm, *]; done) | (simp_all [wc_in, wc_nIe, wc_nI0, wc_nIm]; done)) (by rfl) (by rfl)
  ·
    refine wr_iload_n C 0 dW_isKey_4 rfl rfl ?_
    refine wr_bipush C (v := nI 9) dW_isKey_5 (by decide) ?_
    refine wr_icmp_ge C (tgt := 14) dW_isKey_7 (by decide) (fun h2 => ?_) (fun h2 => ?_)
    ·
      refine wr_iconst C (v := nI 0) dW_isKey_14 (by decide) ?_
      exact wr_iret C hr rfl hlk dW_isKey_15 (by subst_vars; first | (simp [wc_in, wc_nIe, wc_nI0, wc_nIm, *]; done) | (simp_all [wc_in, wc_nIe, wc_nI0, wc_nIm]; done)) (by rfl) (by rfl)
    ·
      refine wr_iconst C (v := nI 1) dW_isKey_10 (by decide) ?_
      refine wr_goto C (tgt := 15) dW_isKey_11 (by decide) ?_
      exact wr_iret C hr rfl hlk dW_isKey_15 (by subst_vars; first | (simp [wc_in, wc_nIe, wc_nI0, wc_nIm, *]; done) | (simp_all [wc_in, wc_nIe, wc_nI0, wc_nIm]; done)) (by rfl) (by rfl)
theorem mc_isKeyI (l : Launch) (Γ : wc_G) (σ μ : wc_St) {j : Nat} (hj : j < 9) : wc_M l yW_isKey cW_isKey 1 (some .boolean) 0 Γ [.int (nI j)] σ μ (some (.int (nI 1))) σ μ := by
  have h := mc_isKey l Γ σ μ (nI j)
  rw [wc_in_I hj (by decide)] at h
  exact h
theorem mc_isKeyO (l : Launch) (Γ : wc_G) (σ μ : wc_St) (a : Int32) (h : a < 0 ∨ nI 9 ≤ a) : wc_M l yW_isKey cW_isKey 1 (some .boolean) 0 Γ [.int a] σ μ (some (.int (nI 0))) σ μ := by
  have h2 := mc_isKey l Γ σ μ a
  rw [wc_in_O h] at h2
  exact h2
set_option maxRecDepth 100000 in
set_option maxHeartbeats 4000000 in
theorem mc_isTx (l : Launch) (Γ : wc_G) (σ μ : wc_St) (a : Int32) : wc_M l yW_isTransaction cW_isTransaction 1 (some .boolean) 0 Γ [.int a] σ μ (some (.int (wc_in a 5))) (σ) μ := by
  refine wc_enter "WaitedCommits" (by decide) rfl (Nat.le_of_ble_eq_true rfl) ?_
  intro P0 E0 S0 M0 A0 B0 T0 K0 C hr hlk
  refine wr_vs (vs' := [(0, .int a)]) rfl ?_
  refine wr_iload_n C 0 dW_isTransaction_0 rfl rfl ?_
  refine wr_if_lt C (tgt := 13) dW_isTransaction_1 (by decide) (fun h1 => ?_) (fun h1 => ?_)
  ·
    refine wr_iconst C (v := nI 0) dW_isTransaction_13 (by decide) ?_
    exact wr_iret C hr rfl hlk dW_isTransaction_14 (by subst_vars; first | (simp [wc_in, wc_nIe, wc_nI0, wc_nIm, *]; done) | (simp_all [wc_in, wc_nIe, wc_nI0, wc_nIm]; done)) (by rfl) (by rfl)
  ·
    refine wr_iload_n C 0 dW_isTransaction_4 rfl rfl ?_
    refine wr_iconst C (v := nI 5) dW_isTransaction_5 (by decide) ?_
    refine wr_icmp_ge C (tgt := 13) dW_isTransaction_6 (by decide) (fun h2 => ?_) (fun h2 => ?_)
    ·
      refine wr_iconst C (v := nI 0) dW_isTransaction_13 (by decide) ?_
      exact wr_iret C hr rfl hlk dW_isTransaction_14 (by subst_vars; first | (simp [wc_in, wc_nIe, wc_nI0, wc_nIm, *]; done) | (simp_all [wc_in, wc_nIe, wc_nI0, wc_nIm]; done)) (by rfl) (by rfl)
    ·
      refine wr_iconst C (v := nI 1) dW_isTransaction_9 (by decide) ?_
      refine wr_goto C (tgt := 14) dW_isTransaction_10 (by decide) ?_
      exact wr_iret C hr rfl hlk dW_isTransaction_14 (by subst_vars; first | (simp [wc_in, wc_nIe, wc_nI0, wc_nIm, *]; done) | (simp_all [wc_in, wc_nIe, wc_nI0, wc_nIm]; done)) (by rfl) (by rfl)
theorem mc_isTxI (l : Launch) (Γ : wc_G) (σ μ : wc_St) {j : Nat} (hj : j < 5) : wc_M l yW_isTransaction cW_isTransaction 1 (some .boolean) 0 Γ [.int (nI j)] σ μ (some (.int (nI 1))) σ μ := by
  have h := mc_isTx l Γ σ μ (nI j)
  rw [wc_in_I hj (by decide)] at h
  exact h
theorem mc_isTxO (l : Launch) (Γ : wc_G) (σ μ : wc_St) (a : Int32) (h : a < 0 ∨ nI 5 ≤ a) : wc_M l yW_isTransaction cW_isTransaction 1 (some .boolean) 0 Γ [.int a] σ μ (some (.int (nI 0))) σ μ := by
  have h2 := mc_isTx l Γ σ μ a
  rw [wc_in_O h] at h2
  exact h2
set_option maxRecDepth 100000 in
set_option maxHeartbeats 4000000 in
theorem mc_siteOf (l : Launch) (Γ : wc_G) (σ μ : wc_St) {k : Nat} (hk : k < 9) : wc_M l yW_siteOf cW_siteOf 1 (some .int) 0 Γ [.int (nI k)] σ μ (some (.int (nI (k % 3)))) (σ) μ := by
  refine wc_enter "WaitedCommits" (by decide) rfl (Nat.le_of_ble_eq_true rfl) ?_
  intro P0 E0 S0 M0 A0 B0 T0 K0 C hr hlk
  refine wr_vs (vs' := [(0, .int (nI k))]) rfl ?_
  refine wr_iload_n C 0 dW_siteOf_0 rfl rfl ?_
  refine wr_iconst C (v := nI 3) dW_siteOf_1 (by decide) ?_
  refine wr_irem C (z := nI (k % 3)) dW_siteOf_2 (by decide) (pk_rem (by omega) (by omega) (by omega)) ?_
  exact wr_iret C hr rfl hlk dW_siteOf_3 (by rfl) (by rfl) (by rfl)
set_option maxRecDepth 100000 in
set_option maxHeartbeats 4000000 in
theorem mc_isError (l : Launch) (Γ : wc_G) (σ μ : wc_St) (a : Int32) : wc_M l yW_isError cW_isError 2 (some .boolean) 0 Γ [.ref (Γ.2.2 0), .int a] σ μ (some (.int (fc_isError σ a))) (σ) μ := by
  refine wc_enter "WaitedCommits" (by decide) rfl (Nat.le_of_ble_eq_true rfl) ?_
  intro P0 E0 S0 M0 A0 B0 T0 K0 C hr hlk
  refine wr_vs (vs' := [(0, .ref (Γ.2.2 0)), (1, .int a)]) rfl ?_
  refine wr_iload_n C 1 dW_isError_0 rfl rfl ?_
  refine wr_if_lt C (tgt := 16) dW_isError_1 (by decide) (fun h1 => ?_) (fun h1 => ?_)
  ·
    refine wr_iconst C (v := nI 0) dW_isError_16 (by decide) ?_
    exact wr_iret C hr rfl hlk dW_isError_17 (by subst_vars; first | (simp [fc_isError, wc_nIe, wc_nI0, wc_nIm, *]; done) | (simp_all [fc_isError, wc_nIe, wc_nI0, wc_nIm]; done)) (by rfl) (by rfl)
  ·
    refine wr_iload_n C 1 dW_isError_4 rfl rfl ?_
    refine wr_aload_n C 0 dW_isError_5 rfl rfl ?_
    refine wf_WC_greatestError C  (Or.inl tw_118) dW_isError_6 ?_
    refine wr_icmp_gt C (tgt := 16) dW_isError_9 (by decide) (fun h2 => ?_) (fun h2 => ?_)
    ·
      refine wr_iconst C (v := nI 0) dW_isError_16 (by decide) ?_
      exact wr_iret C hr rfl hlk dW_isError_17 (by subst_vars; first | (simp [fc_isError, wc_nIe, wc_nI0, wc_nIm, *]; done) | (simp_all [fc_isError, wc_nIe, wc_nI0, wc_nIm]; done)) (by rfl) (by rfl)
    ·
      refine wr_iconst C (v := nI 1) dW_isError_12 (by decide) ?_
      refine wr_goto C (tgt := 17) dW_isError_13 (by decide) ?_
      exact wr_iret C hr rfl hlk dW_isError_17 (by subst_vars; first | (simp [fc_isError, wc_nIe, wc_nI0, wc_nIm, *]; done) | (simp_all [fc_isError, wc_nIe, wc_nI0, wc_nIm]; done)) (by rfl) (by rfl)
set_option maxRecDepth 100000 in
set_option maxHeartbeats 4000000 in
theorem mc_latest (l : Launch) (Γ : wc_G) (σ μ : wc_St) {q : Nat} (hq : q < 3) : wc_M l yW_latest cW_latest 2 (some .int) 0 Γ [.ref (Γ.2.2 0), .int (nI q)] σ μ (some (.int (fc_latest σ q))) (σ) μ := by
  refine wc_enter "WaitedCommits" (by decide) rfl (Nat.le_of_ble_eq_true rfl) ?_
  intro P0 E0 S0 M0 A0 B0 T0 K0 C hr hlk
  refine wr_vs (vs' := [(0, .ref (Γ.2.2 0)), (1, .int (nI q))]) rfl ?_
  refine wr_aload_n C 0 dW_latest_0 rfl rfl ?_
  refine wf_WC_time C  (Or.inl tw_123) dW_latest_1 ?_
  refine wr_aload_n C 0 dW_latest_4 rfl rfl ?_
  refine wf_WC_sites C  (Or.inl tw_119) dW_latest_5 ?_
  refine wr_iload_n C 1 dW_latest_8 rfl rfl ?_
  refine wa_sites C (by omega) dW_latest_9 ?_
  refine wf_Site_after C (by omega) (Or.inr ⟨_, tw_34⟩) dW_latest_10 ?_
  refine wr_iadd C (z := (σ 23 0 0) + (σ 1 q 0)) dW_latest_13 rfl ?_
  exact wr_iret C hr rfl hlk dW_latest_14 (by rfl) (by rfl) (by rfl)
set_option maxRecDepth 100000 in
set_option maxHeartbeats 4000000 in
theorem mc_earliest (l : Launch) (Γ : wc_G) (σ μ : wc_St) {q : Nat} (hq : q < 3) : wc_M l yW_earliest cW_earliest 2 (some .int) 0 Γ [.ref (Γ.2.2 0), .int (nI q)] σ μ (some (.int (fc_earliest σ q))) (σ) μ := by
  refine wc_enter "WaitedCommits" (by decide) rfl (Nat.le_of_ble_eq_true rfl) ?_
  intro P0 E0 S0 M0 A0 B0 T0 K0 C hr hlk
  refine wr_vs (vs' := [(0, .ref (Γ.2.2 0)), (1, .int (nI q))]) rfl ?_
  refine wr_aload_n C 0 dW_earliest_0 rfl rfl ?_
  refine wf_WC_time C  (Or.inl tw_123) dW_earliest_1 ?_
  refine wr_aload_n C 0 dW_earliest_4 rfl rfl ?_
  refine wf_WC_sites C  (Or.inl tw_119) dW_earliest_5 ?_
  refine wr_iload_n C 1 dW_earliest_8 rfl rfl ?_
  refine wa_sites C (by omega) dW_earliest_9 ?_
  refine wf_Site_before C (by omega) (Or.inr ⟨_, tw_32⟩) dW_earliest_10 ?_
  refine wr_isub C (z := (σ 23 0 0) - (σ 0 q 0)) dW_earliest_13 rfl ?_
  exact wr_iret C hr rfl hlk dW_earliest_14 (by rfl) (by rfl) (by rfl)
set_option maxRecDepth 100000 in
set_option maxHeartbeats 4000000 in
theorem mc_canBegin (l : Launch) (Γ : wc_G) (σ μ : wc_St) {t : Nat} (ht : t < 5) : wc_M l yW_canBegin cW_canBegin 2 (some .boolean) 2 Γ [.ref (Γ.2.2 (35 + t))] σ μ (some (.int (fc_canBegin σ t))) (σ) μ := by
  refine wc_enter "WaitedCommits" (by decide) rfl (Nat.le_of_ble_eq_true rfl) ?_
  intro P0 E0 S0 M0 A0 B0 T0 K0 C hr hlk
  refine wr_vs (vs' := [(0, .ref (Γ.2.2 (35 + t)))]) rfl ?_
  refine wr_aload_n C 0 dW_canBegin_0 rfl rfl ?_
  refine wf_Tx_state C (by omega) (Or.inr ⟨_, tw_66⟩) dW_canBegin_1 ?_
  refine wr_iconst C (v := nI 4) dW_canBegin_4 (by decide) ?_
  refine wr_icmp_ne C (tgt := 20) dW_canBegin_5 (by decide) (fun h1 => ?_) (fun h1 => ?_)
  ·
    refine wr_iconst C (v := nI 0) dW_canBegin_20 (by decide) ?_
    refine wr_istore_n C (vs' := [(1, .int (nI 0)), (0, .ref (Γ.2.2 (35 + t)))]) dW_canBegin_21 rfl (by decide) rfl ?_
    refine wr_aload_n C 1 dW_canBegin_22 rfl rfl ?_
    refine wf_Tx_state C (by omega) (Or.inr ⟨_, tw_66⟩) dW_canBegin_23 ?_
    refine wr_if_eq C (tgt := 41) dW_canBegin_26 (by decide) (fun h2 => ?_) (fun h2 => ?_)
    ·
      refine wr_iconst C (v := nI 1) dW_canBegin_41 (by decide) ?_
      refine wr_goto C (tgt := 46) dW_canBegin_42 (by decide) ?_
      exact wr_iret C hr rfl hlk dW_canBegin_46 (by subst_vars; first | (simp [fc_canBegin, fc_over, wc_nIe, wc_nI0, wc_nIm, *]; done) | (simp_all [fc_canBegin, fc_over, wc_nIe, wc_nI0, wc_nIm]; done)) (by rfl) (by rfl)
    ·
      refine wr_aload_n C 1 dW_canBegin_29 rfl rfl ?_
      refine wf_Tx_state C (by omega) (Or.inr ⟨_, tw_66⟩) dW_canBegin_30 ?_
      refine wr_iconst C (v := nI 5) dW_canBegin_33 (by decide) ?_
      refine wr_icmp_eq C (tgt := 41) dW_canBegin_34 (by decide) (fun h3 => ?_) (fun h3 => ?_)
      ·
        refine wr_iconst C (v := nI 1) dW_canBegin_41 (by decide) ?_
        refine wr_goto C (tgt := 46) dW_canBegin_42 (by decide) ?_
        exact wr_iret C hr rfl hlk dW_canBegin_46 (by subst_vars; first | (simp [fc_canBegin, fc_over, wc_nIe, wc_nI0, wc_nIm, *]; done) | (simp_all [fc_canBegin, fc_over, wc_nIe, wc_nI0, wc_nIm]; done)) (by rfl) (by rfl)
      ·
        refine wr_iload_n C 0 dW_canBegin_37 rfl rfl ?_
        refine wr_if_eq C (tgt := 45) dW_canBegin_38 (by decide) (fun _ => ?_) (fun h4 => absurd (by decide) h4)
        refine wr_iconst C (v := nI 0) dW_canBegin_45 (by decide) ?_
        exact wr_iret C hr rfl hlk dW_canBegin_46 (by subst_vars; first | (simp [fc_canBegin, fc_over, wc_nIe, wc_nI0, wc_nIm, *]; done) | (simp_all [fc_canBegin, fc_over, wc_nIe, wc_nI0, wc_nIm]; done)) (by rfl) (by rfl)
  ·
    refine wr_aload_n C 0 dW_canBegin_8 rfl rfl ?_
    refine wr_callV1 C (As := []) (rest := []) (mc_least l Γ σ μ (t := t) (by omega)) cb_T_leastParticipant (Or.inr ⟨_, tw_164⟩) tw_165 tw_530 (by omega) (wc_c_Tx (by omega)) rfl (by decide) (by decide) rfl rfl (Nat.le_of_ble_eq_true rfl) ⟨Nat.le_refl _, Nat.le_refl _⟩ dW_canBegin_9 ?_
    refine wr_iconst C (v := -1) dW_canBegin_12 (by decide) ?_
    refine wr_icmp_ne C (tgt := 20) dW_canBegin_13 (by decide) (fun h5 => ?_) (fun h5 => ?_)
    ·
      refine wr_iconst C (v := nI 0) dW_canBegin_20 (by decide) ?_
      refine wr_istore_n C (vs' := [(1, .int (nI 0)), (0, .ref (Γ.2.2 (35 + t)))]) dW_canBegin_21 rfl (by decide) rfl ?_
      refine wr_aload_n C 1 dW_canBegin_22 rfl rfl ?_
      refine wf_Tx_state C (by omega) (Or.inr ⟨_, tw_66⟩) dW_canBegin_23 ?_
      refine wr_if_eq C (tgt := 41) dW_canBegin_26 (by decide) (fun h6 => ?_) (fun h6 => ?_)
      ·
        refine wr_iconst C (v := nI 1) dW_canBegin_41 (by decide) ?_
        refine wr_goto C (tgt := 46) dW_canBegin_42 (by decide) ?_
        exact wr_iret C hr rfl hlk dW_canBegin_46 (by subst_vars; first | (simp [fc_canBegin, fc_over, wc_nIe, wc_nI0, wc_nIm, *]; done) | (simp_all [fc_canBegin, fc_over, wc_nIe, wc_nI0, wc_nIm]; done)) (by rfl) (by rfl)
      ·
        refine wr_aload_n C 1 dW_canBegin_29 rfl rfl ?_
        refine wf_Tx_state C (by omega) (Or.inr ⟨_, tw_66⟩) dW_canBegin_30 ?_
        refine wr_iconst C (v := nI 5) dW_canBegin_33 (by decide) ?_
        refine wr_icmp_eq C (tgt := 41) dW_canBegin_34 (by decide) (fun h7 => ?_) (fun h7 => ?_)
        ·
          refine wr_iconst C (v := nI 1) dW_canBegin_41 (by decide) ?_
          refine wr_goto C (tgt := 46) dW_canBegin_42 (by decide) ?_
          exact wr_iret C hr rfl hlk dW_canBegin_46 (by subst_vars; first | (simp [fc_canBegin, fc_over, wc_nIe, wc_nI0, wc_nIm, *]; done) | (simp_all [fc_canBegin, fc_over, wc_nIe, wc_nI0, wc_nIm]; done)) (by rfl) (by rfl)
        ·
          refine wr_iload_n C 0 dW_canBegin_37 rfl rfl ?_
          refine wr_if_eq C (tgt := 45) dW_canBegin_38 (by decide) (fun _ => ?_) (fun h8 => absurd (by decide) h8)
          refine wr_iconst C (v := nI 0) dW_canBegin_45 (by decide) ?_
          exact wr_iret C hr rfl hlk dW_canBegin_46 (by subst_vars; first | (simp [fc_canBegin, fc_over, wc_nIe, wc_nI0, wc_nIm, *]; done) | (simp_all [fc_canBegin, fc_over, wc_nIe, wc_nI0, wc_nIm]; done)) (by rfl) (by rfl)
    ·
      refine wr_iconst C (v := nI 1) dW_canBegin_16 (by decide) ?_
      refine wr_goto C (tgt := 21) dW_canBegin_17 (by decide) ?_
      refine wr_istore_n C (vs' := [(1, .int (nI 1)), (0, .ref (Γ.2.2 (35 + t)))]) dW_canBegin_21 rfl (by decide) rfl ?_
      refine wr_aload_n C 1 dW_canBegin_22 rfl rfl ?_
      refine wf_Tx_state C (by omega) (Or.inr ⟨_, tw_66⟩) dW_canBegin_23 ?_
      refine wr_if_eq C (tgt := 41) dW_canBegin_26 (by decide) (fun h9 => ?_) (fun h9 => ?_)
      ·
        refine wr_iconst C (v := nI 1) dW_canBegin_41 (by decide) ?_
        refine wr_goto C (tgt := 46) dW_canBegin_42 (by decide) ?_
        exact wr_iret C hr rfl hlk dW_canBegin_46 (by subst_vars; first | (simp [fc_canBegin, fc_over, wc_nIe, wc_nI0, wc_nIm, *]; done) | (simp_all [fc_canBegin, fc_over, wc_nIe, wc_nI0, wc_nIm]; done)) (by rfl) (by rfl)
      ·
        refine wr_aload_n C 1 dW_canBegin_29 rfl rfl ?_
        refine wf_Tx_state C (by omega) (Or.inr ⟨_, tw_66⟩) dW_canBegin_30 ?_
        refine wr_iconst C (v := nI 5) dW_canBegin_33 (by decide) ?_
        refine wr_icmp_eq C (tgt := 41) dW_canBegin_34 (by decide) (fun h10 => ?_) (fun h10 => ?_)
        ·
          refine wr_iconst C (v := nI 1) dW_canBegin_41 (by decide) ?_
          refine wr_goto C (tgt := 46) dW_canBegin_42 (by decide) ?_
          exact wr_iret C hr rfl hlk dW_canBegin_46 (by subst_vars; first | (simp [fc_canBegin, fc_over, wc_nIe, wc_nI0, wc_nIm, *]; done) | (simp_all [fc_canBegin, fc_over, wc_nIe, wc_nI0, wc_nIm]; done)) (by rfl) (by rfl)
        ·
          refine wr_iload_n C 0 dW_canBegin_37 rfl rfl ?_
          refine wr_if_eq C (tgt := 45) dW_canBegin_38 (by decide) (fun h11 => absurd h11 (by decide)) (fun _ => ?_)
          refine wr_iconst C (v := nI 1) dW_canBegin_41 (by decide) ?_
          refine wr_goto C (tgt := 46) dW_canBegin_42 (by decide) ?_
          exact wr_iret C hr rfl hlk dW_canBegin_46 (by subst_vars; first | (simp [fc_canBegin, fc_over, wc_nIe, wc_nI0, wc_nIm, *]; done) | (simp_all [fc_canBegin, fc_over, wc_nIe, wc_nI0, wc_nIm]; done)) (by rfl) (by rfl)
set_option maxRecDepth 100000 in
set_option maxHeartbeats 4000000 in
theorem mc_conflicts (l : Launch) (Γ : wc_G) (σ μ : wc_St) {o t k : Nat} (ho : o < 5) (ht : t < 5) (hk : k < 9) (kind : Int32) : wc_M l yW_conflicts cW_conflicts 4 (some .boolean) 0 Γ [.ref (Γ.2.2 (35 + o)), .ref (Γ.2.2 (35 + t)), .int (nI k), .int kind] σ μ (some (.int (fc_conf σ o t k kind))) (σ) μ := by
  refine wc_enter "WaitedCommits" (by decide) rfl (Nat.le_of_ble_eq_true rfl) ?_
  intro P0 E0 S0 M0 A0 B0 T0 K0 C hr hlk
  refine wr_vs (vs' := [(0, .ref (Γ.2.2 (35 + o))), (1, .ref (Γ.2.2 (35 + t))), (2, .int (nI k)), (3, .int kind)]) rfl ?_
  refine wr_aload_n C 0 dW_conflicts_0 rfl rfl ?_
  refine wr_aload_n C 1 dW_conflicts_1 rfl rfl ?_
  refine wr_acmpI_eq C (tgt := 14) (by omega) (by omega) dW_conflicts_2 (by decide) (fun h1 => ?_) (fun h1 => ?_)
  ·
    refine wr_iconst C (v := nI 0) dW_conflicts_14 (by decide) ?_
    exact wr_iret C hr rfl hlk dW_conflicts_15 (by have hot : (35 + o = 35 + t) ↔ o = t := ⟨fun h => by omega, fun h => by rw [h]⟩; simp only [hot] at *; simp [fc_conf, wc_nIe, wc_nI0, *]) (by rfl) (by rfl)
  ·
    refine wr_aload_n C 0 dW_conflicts_5 rfl rfl ?_
    refine wf_Tx_locks C (by omega) (Or.inr ⟨_, tw_80⟩) dW_conflicts_6 ?_
    refine wr_iload_n C 2 dW_conflicts_9 rfl rfl ?_
    refine wa_locks C (by omega) (by omega) dW_conflicts_10 ?_
    refine wr_if_ne C (tgt := 16) dW_conflicts_11 (by decide) (fun h2 => ?_) (fun h2 => ?_)
    ·
      refine wr_iload_n C 3 dW_conflicts_16 rfl rfl ?_
      refine wr_iconst C (v := nI 2) dW_conflicts_17 (by decide) ?_
      refine wr_icmp_eq C (tgt := 31) dW_conflicts_18 (by decide) (fun h3 => ?_) (fun h3 => ?_)
      ·
        refine wr_iconst C (v := nI 1) dW_conflicts_31 (by decide) ?_
        refine wr_goto C (tgt := 36) dW_conflicts_32 (by decide) ?_
        exact wr_iret C hr rfl hlk dW_conflicts_36 (by have hot : (35 + o = 35 + t) ↔ o = t := ⟨fun h => by omega, fun h => by rw [h]⟩; simp only [hot] at *; simp [fc_conf, wc_nIe, wc_nI0, *]) (by rfl) (by rfl)
      ·
        refine wr_aload_n C 0 dW_conflicts_21 rfl rfl ?_
        refine wf_Tx_locks C (by omega) (Or.inr ⟨_, tw_80⟩) dW_conflicts_22 ?_
        refine wr_iload_n C 2 dW_conflicts_25 rfl rfl ?_
        refine wa_locks C (by omega) (by omega) dW_conflicts_26 ?_
        refine wr_iconst C (v := nI 2) dW_conflicts_27 (by decide) ?_
        refine wr_icmp_ne C (tgt := 35) dW_conflicts_28 (by decide) (fun h4 => ?_) (fun h4 => ?_)
        ·
          refine wr_iconst C (v := nI 0) dW_conflicts_35 (by decide) ?_
          exact wr_iret C hr rfl hlk dW_conflicts_36 (by have hot : (35 + o = 35 + t) ↔ o = t := ⟨fun h => by omega, fun h => by rw [h]⟩; simp only [hot] at *; simp [fc_conf, wc_nIe, wc_nI0, *]) (by rfl) (by rfl)
        ·
          refine wr_iconst C (v := nI 1) dW_conflicts_31 (by decide) ?_
          refine wr_goto C (tgt := 36) dW_conflicts_32 (by decide) ?_
          exact wr_iret C hr rfl hlk dW_conflicts_36 (by have hot : (35 + o = 35 + t) ↔ o = t := ⟨fun h => by omega, fun h => by rw [h]⟩; simp only [hot] at *; simp [fc_conf, wc_nIe, wc_nI0, *]) (by rfl) (by rfl)
    ·
      refine wr_iconst C (v := nI 0) dW_conflicts_14 (by decide) ?_
      exact wr_iret C hr rfl hlk dW_conflicts_15 (by have hot : (35 + o = 35 + t) ↔ o = t := ⟨fun h => by omega, fun h => by rw [h]⟩; simp only [hot] at *; simp [fc_conf, wc_nIe, wc_nI0, *]) (by rfl) (by rfl)
set_option maxRecDepth 100000 in
set_option maxHeartbeats 4000000 in
theorem mc_push (l : Launch) (Γ : wc_G) (σ μ : wc_St) {t o : Nat} (ht : t < 5) (ho : o < 5) : wc_M l yW_canPushAside cW_canPushAside 2 (some .boolean) 0 Γ [.ref (Γ.2.2 (35 + t)), .ref (Γ.2.2 (35 + o))] σ μ (some (.int (fc_push σ t o))) (σ) μ := by
  refine wc_enter "WaitedCommits" (by decide) rfl (Nat.le_of_ble_eq_true rfl) ?_
  intro P0 E0 S0 M0 A0 B0 T0 K0 C hr hlk
  refine wr_vs (vs' := [(0, .ref (Γ.2.2 (35 + t))), (1, .ref (Γ.2.2 (35 + o)))]) rfl ?_
  refine wr_aload_n C 1 dW_canPushAside_0 rfl rfl ?_
  refine wf_Tx_state C (by omega) (Or.inr ⟨_, tw_66⟩) dW_canPushAside_1 ?_
  refine wr_iconst C (v := nI 1) dW_canPushAside_4 (by decide) ?_
  refine wr_icmp_ne C (tgt := 23) dW_canPushAside_5 (by decide) (fun h1 => ?_) (fun h1 => ?_)
  ·
    refine wr_iconst C (v := nI 0) dW_canPushAside_23 (by decide) ?_
    exact wr_iret C hr rfl hlk dW_canPushAside_24 (by subst_vars; first | (simp [fc_push, wc_nIe, wc_nI0, wc_nIm, *]; done) | (simp_all [fc_push, wc_nIe, wc_nI0, wc_nIm]; done)) (by rfl) (by rfl)
  ·
    refine wr_aload_n C 1 dW_canPushAside_8 rfl rfl ?_
    refine wf_Tx_birth C (by omega) (Or.inr ⟨_, tw_68⟩) dW_canPushAside_9 ?_
    refine wr_aload_n C 0 dW_canPushAside_12 rfl rfl ?_
    refine wf_Tx_birth C (by omega) (Or.inr ⟨_, tw_68⟩) dW_canPushAside_13 ?_
    refine wr_icmp_le C (tgt := 23) dW_canPushAside_16 (by decide) (fun h2 => ?_) (fun h2 => ?_)
    ·
      refine wr_iconst C (v := nI 0) dW_canPushAside_23 (by decide) ?_
      exact wr_iret C hr rfl hlk dW_canPushAside_24 (by subst_vars; first | (simp [fc_push, wc_nIe, wc_nI0, wc_nIm, *]; done) | (simp_all [fc_push, wc_nIe, wc_nI0, wc_nIm]; done)) (by rfl) (by rfl)
    ·
      refine wr_iconst C (v := nI 1) dW_canPushAside_19 (by decide) ?_
      refine wr_goto C (tgt := 24) dW_canPushAside_20 (by decide) ?_
      exact wr_iret C hr rfl hlk dW_canPushAside_24 (by subst_vars; first | (simp [fc_push, wc_nIe, wc_nI0, wc_nIm, *]; done) | (simp_all [fc_push, wc_nIe, wc_nI0, wc_nIm]; done)) (by rfl) (by rfl)
set_option maxRecDepth 100000 in
set_option maxHeartbeats 4000000 in
theorem mc_isActiveI (l : Launch) (Γ : wc_G) (σ μ : wc_St) {t : Nat} (ht : t < 5) : wc_M l yW_isActive cW_isActive 2 (some .boolean) 1 Γ [.ref (Γ.2.2 0), .int (nI t)] σ μ (some (.int (fc_active σ t))) (σ) μ := by
  refine wc_enter "WaitedCommits" (by decide) rfl (Nat.le_of_ble_eq_true rfl) ?_
  intro P0 E0 S0 M0 A0 B0 T0 K0 C hr hlk
  refine wr_vs (vs' := [(0, .ref (Γ.2.2 0)), (1, .int (nI t))]) rfl ?_
  refine wr_iload_n C 1 dW_isActive_0 rfl rfl ?_
  refine wr_callS1 C (As := [.int (nI t)]) (rest := []) (mc_isTxI l Γ σ μ (j := t) (by omega)) cb_W_isTransaction (Or.inl tw_158) tw_159 (by decide) (by decide) rfl rfl (Nat.le_of_ble_eq_true rfl) ⟨Nat.le_refl _, Nat.le_refl _⟩ dW_isActive_1 ?_
  refine wr_if_eq C (tgt := 24) dW_isActive_4 (by decide) (fun h1 => absurd h1 (by decide)) (fun _ => ?_)
  refine wr_aload_n C 0 dW_isActive_7 rfl rfl ?_
  refine wf_WC_transactions C  (Or.inl tw_121) dW_isActive_8 ?_
  refine wr_iload_n C 1 dW_isActive_11 rfl rfl ?_
  refine wa_txs C (by omega) dW_isActive_12 ?_
  refine wf_Tx_state C (by omega) (Or.inr ⟨_, tw_66⟩) dW_isActive_13 ?_
  refine wr_iconst C (v := nI 1) dW_isActive_16 (by decide) ?_
  refine wr_icmp_ne C (tgt := 24) dW_isActive_17 (by decide) (fun h2 => ?_) (fun h2 => ?_)
  ·
    refine wr_iconst C (v := nI 0) dW_isActive_24 (by decide) ?_
    exact wr_iret C hr rfl hlk dW_isActive_25 (by subst_vars; first | (simp [fc_active, wc_nIe, wc_nI0, wc_nIm, *]; done) | (simp_all [fc_active, wc_nIe, wc_nI0, wc_nIm]; done)) (by rfl) (by rfl)
  ·
    refine wr_iconst C (v := nI 1) dW_isActive_20 (by decide) ?_
    refine wr_goto C (tgt := 25) dW_isActive_21 (by decide) ?_
    exact wr_iret C hr rfl hlk dW_isActive_25 (by subst_vars; first | (simp [fc_active, wc_nIe, wc_nI0, wc_nIm, *]; done) | (simp_all [fc_active, wc_nIe, wc_nI0, wc_nIm]; done)) (by rfl) (by rfl)
set_option maxRecDepth 100000 in
set_option maxHeartbeats 4000000 in
theorem mc_isActiveO (l : Launch) (Γ : wc_G) (σ μ : wc_St) (a : Int32) (ha : a < 0 ∨ nI 5 ≤ a) : wc_M l yW_isActive cW_isActive 2 (some .boolean) 1 Γ [.ref (Γ.2.2 0), .int a] σ μ (some (.int (nI 0))) (σ) μ := by
  refine wc_enter "WaitedCommits" (by decide) rfl (Nat.le_of_ble_eq_true rfl) ?_
  intro P0 E0 S0 M0 A0 B0 T0 K0 C hr hlk
  refine wr_vs (vs' := [(0, .ref (Γ.2.2 0)), (1, .int a)]) rfl ?_
  refine wr_iload_n C 1 dW_isActive_0 rfl rfl ?_
  refine wr_callS1 C (As := [.int a]) (rest := []) (mc_isTxO l Γ σ μ a ha) cb_W_isTransaction (Or.inl tw_158) tw_159 (by decide) (by decide) rfl rfl (Nat.le_of_ble_eq_true rfl) ⟨Nat.le_refl _, Nat.le_refl _⟩ dW_isActive_1 ?_
  refine wr_if_eq C (tgt := 24) dW_isActive_4 (by decide) (fun _ => ?_) (fun h1 => absurd (by decide) h1)
  refine wr_iconst C (v := nI 0) dW_isActive_24 (by decide) ?_
  exact wr_iret C hr rfl hlk dW_isActive_25 (by rfl) (by rfl) (by rfl)
