set_option maxRecDepth 100000 in
set_option maxHeartbeats 4000000 in
theorem ml_sto {P0 : Program} {l : Launch} {E0 : Env} {S0 : State} {M0 : MethodId} {A0 : Array Value} {B0 : List Frame} {T0 : Method} {K0 : Code} {Γ : wc_G} {A : Nat → Prop} {v : Option Value} {σ' μ' : wc_St} (C : wc_C P0 S0 M0 A0 K0 cW_sendToOthers 6 "WaitedCommits" Γ A) (hr : T0.sig.returnType = (some .int)) (hlk : T0.locks = false) (kind : Int32) {t c : Nat} (ht : t < 5) (hc3 : c < 3) (μ : wc_St) (hμ : μ = μ') (r1 : Nat) (hv : some (.int (nI r1)) = v) : ∀ (n : Nat) (q a : Nat) (σ : wc_St), q + n = 3 → σ 10 t 0 = nI c → fc_sto kind t c n q a σ = (r1, σ') → wc_K P0 l E0 (wc_rm 1) S0 M0 A0 B0 T0 K0 6 Γ A (MQ B0 (wc_Qw Γ A v σ' μ') A0 S0 0 0 A) 0 0 13 [(5, .int (nI q)), (4, .int (nI a)), (3, .ref (Γ.2.2 (35 + t))), (0, .ref (Γ.2.2 0)), (1, .int kind), (2, .int (nI t))] [] σ μ := by
  subst hμ
  intro n
  induction n with
  | zero =>
    intro q a σ hq hc hres
    obtain rfl : q = 3 := by omega
    refine wr_iload C 0 dW_sendToOthers_13 rfl ?_
    refine wr_iconst C (v := nI 3) dW_sendToOthers_15 (by decide) ?_
    refine wr_icmp_ge C (tgt := 54) dW_sendToOthers_16 (by decide) (fun _ => ?_) (fun h1 => absurd (by decide) h1)
    refine wr_iload C 1 dW_sendToOthers_54 rfl ?_
    exact wr_iret C hr rfl hlk dW_sendToOthers_56 (by rw [← hv, (Prod.mk.inj (show (a, σ) = (r1, σ') from hres)).1]) (by first | rfl | exact (Prod.mk.inj (show (a, σ) = (r1, σ') from hres)).2) (by first | rfl | exact (Prod.mk.inj (show (a, σ) = (r1, σ') from hres)).2)
  | succ n ih =>
    intro q a σ hq hc hres
    refine wr_iload C 0 dW_sendToOthers_13 rfl ?_
    refine wr_iconst C (v := nI 3) dW_sendToOthers_15 (by decide) ?_
    refine wr_icmp_ge C (tgt := 54) dW_sendToOthers_16 (by decide) (fun h1 => absurd h1 (wc_noge (by omega) (by omega) (by omega))) (fun _ => ?_)
    refine wr_iload C 0 dW_sendToOthers_19 rfl ?_
    refine wr_aload_n C 2 dW_sendToOthers_21 rfl rfl ?_
    refine wf_Tx_coordinator C (by omega) (Or.inr ⟨_, tw_70⟩) dW_sendToOthers_22 ?_
    refine wr_top (show σ 10 t 0 = nI c by subst_vars; first | exact hc | (simpa [wc_st, fc_sto_crd, fc_finish_crd, fc_send_crd] using hc)) ?_
    refine wr_icmp_eq C (tgt := 48) dW_sendToOthers_25 (by decide) (fun h2 => ?_) (fun h2 => ?_)
    ·
      rw [nI_eq (by omega) (by omega)] at h2
      refine wr_iinc C (v := nI (q + 1)) (vs' := [(5, .int (nI (q + 1))), (4, .int (nI a)), (3, .ref (Γ.2.2 (35 + t))), (0, .ref (Γ.2.2 0)), (1, .int kind), (2, .int (nI t))]) 0 dW_sendToOthers_48 rfl (wc_inc1 q) (by decide) rfl ?_
      refine wr_goto C (tgt := 13) dW_sendToOthers_51 (by decide) ?_
      refine wr_sub [0, 1, 2, 3, 4, 5] rfl ?_
      exact ih (q + 1) (a) σ (by omega) (by subst_vars; first | exact hc | (simpa [wc_st, fc_sto_crd, fc_finish_crd, fc_send_crd] using hc)) (by rw [← hres]; simp [fc_sto, *])
    ·
      rw [nI_eq (by omega) (by omega)] at h2
      refine wr_aload_n C 2 dW_sendToOthers_28 rfl rfl ?_
      refine wr_iload C 0 dW_sendToOthers_29 rfl ?_
      refine wr_callV1 C (As := [.int (nI q)]) (rest := []) (mc_holdsAt l Γ σ μ (t := t) (q := q) (by omega) (by omega)) cb_T_holdsAt (Or.inr ⟨_, tw_216⟩) tw_168 tw_531 (by omega) (wc_c_Tx (by omega)) rfl (by decide) (by decide) rfl rfl (Nat.le_of_ble_eq_true rfl) ⟨Nat.le_refl _, Nat.le_refl _⟩ dW_sendToOthers_31 ?_
      refine wr_if_eq C (tgt := 48) dW_sendToOthers_34 (by decide) (fun h3 => ?_) (fun h3 => ?_)
      ·
        refine wr_iinc C (v := nI (q + 1)) (vs' := [(5, .int (nI (q + 1))), (4, .int (nI a)), (3, .ref (Γ.2.2 (35 + t))), (0, .ref (Γ.2.2 0)), (1, .int kind), (2, .int (nI t))]) 0 dW_sendToOthers_48 rfl (wc_inc1 q) (by decide) rfl ?_
        refine wr_goto C (tgt := 13) dW_sendToOthers_51 (by decide) ?_
        refine wr_sub [0, 1, 2, 3, 4, 5] rfl ?_
        exact ih (q + 1) (a) σ (by omega) (by subst_vars; first | exact hc | (simpa [wc_st, fc_sto_crd, fc_finish_crd, fc_send_crd] using hc)) (by rw [← hres]; simp [fc_sto, *])
      ·
        refine wr_aload_n C 3 dW_sendToOthers_37 rfl rfl ?_
        refine wr_iload_n C 4 dW_sendToOthers_38 rfl rfl ?_
        refine wr_iload_n C 5 dW_sendToOthers_39 rfl rfl ?_
        refine wr_iload C 0 dW_sendToOthers_40 rfl ?_
        refine wr_callV0 C (As := [.int kind, .int (nI t), .int (nI q)]) (rest := []) (mc_send l Γ σ μ kind (t := t) (q := q) (c := c) (by omega) (by omega) (by omega) (by subst_vars; first | exact hc | (simpa [wc_st, fc_sto_crd, fc_finish_crd, fc_send_crd] using hc))) cb_W_send (Or.inl tw_217) tw_218 tw_539 (by omega) (wc_c_WC) rfl (by decide) (by decide) rfl rfl (Nat.le_of_ble_eq_true rfl) ⟨Nat.le_refl _, Nat.le_refl _⟩ dW_sendToOthers_42 ?_
        generalize hs1 : fc_send σ kind t q c = σ1
        refine wr_iinc C (v := nI (a + 1)) (vs' := [(4, .int (nI (a + 1))), (5, .int (nI q)), (3, .ref (Γ.2.2 (35 + t))), (0, .ref (Γ.2.2 0)), (1, .int kind), (2, .int (nI t))]) 1 dW_sendToOthers_45 rfl (wc_inc1 a) (by decide) rfl ?_
        refine wr_iinc C (v := nI (q + 1)) (vs' := [(5, .int (nI (q + 1))), (4, .int (nI (a + 1))), (3, .ref (Γ.2.2 (35 + t))), (0, .ref (Γ.2.2 0)), (1, .int kind), (2, .int (nI t))]) 1 dW_sendToOthers_48 rfl (wc_inc1 q) (by decide) rfl ?_
        refine wr_goto C (tgt := 13) dW_sendToOthers_51 (by decide) ?_
        refine wr_sub [0, 1, 2, 3, 4, 5] rfl ?_
        exact ih (q + 1) (a + 1) σ1 (by omega) (by subst_vars; first | exact hc | (simpa [wc_st, fc_sto_crd, fc_finish_crd, fc_send_crd] using hc)) (by rw [← hres]; simp [fc_sto, *])
set_option maxRecDepth 100000 in
set_option maxHeartbeats 4000000 in
theorem mc_sto (l : Launch) (Γ : wc_G) (σ μ : wc_St) (kind : Int32) {t c : Nat} (ht : t < 5) (hc3 : c < 3) (hc : σ 10 t 0 = nI c) : wc_M l yW_sendToOthers cW_sendToOthers 6 (some .int) 1 Γ [.ref (Γ.2.2 0), .int kind, .int (nI t)] σ μ (some (.int (nI ((fc_sto kind t c 3 0 0 σ).1)))) ((fc_sto kind t c 3 0 0 σ).2) μ := by
  refine wc_enter "WaitedCommits" (by decide) rfl (Nat.le_of_ble_eq_true rfl) ?_
  intro P0 E0 S0 M0 A0 B0 T0 K0 C hr hlk
  refine wr_vs (vs' := [(0, .ref (Γ.2.2 0)), (1, .int kind), (2, .int (nI t))]) rfl ?_
  refine wr_aload_n C 0 dW_sendToOthers_0 rfl rfl ?_
  refine wf_WC_transactions C  (Or.inl tw_121) dW_sendToOthers_1 ?_
  refine wr_iload_n C 2 dW_sendToOthers_4 rfl rfl ?_
  refine wa_txs C (by omega) dW_sendToOthers_5 ?_
  refine wr_astore_n C (vs' := [(3, .ref (Γ.2.2 (35 + t))), (0, .ref (Γ.2.2 0)), (1, .int kind), (2, .int (nI t))]) dW_sendToOthers_6 rfl (by decide) rfl ?_
  refine wr_iconst C (v := nI 0) dW_sendToOthers_7 (by decide) ?_
  refine wr_istore C (vs' := [(4, .int (nI 0)), (3, .ref (Γ.2.2 (35 + t))), (0, .ref (Γ.2.2 0)), (1, .int kind), (2, .int (nI t))]) dW_sendToOthers_8 (by decide) rfl ?_
  refine wr_iconst C (v := nI 0) dW_sendToOthers_10 (by decide) ?_
  refine wr_istore C (vs' := [(5, .int (nI 0)), (4, .int (nI 0)), (3, .ref (Γ.2.2 (35 + t))), (0, .ref (Γ.2.2 0)), (1, .int kind), (2, .int (nI t))]) dW_sendToOthers_11 (by decide) rfl ?_
  refine wr_sub [0, 1, 2, 3, 4, 5] rfl ?_
  exact ml_sto C hr hlk kind ht hc3 μ rfl _ rfl 3 0 0 σ rfl hc rfl
set_option maxRecDepth 100000 in
set_option maxHeartbeats 4000000 in
theorem mc_choose (l : Launch) (Γ : wc_G) (σ μ : wc_St) {t c : Nat} (ht : t < 5) (hc3 : c < 3) (hc : σ 10 t 0 = nI c) : wc_M l yW_chooseStamp cW_chooseStamp 3 none 2 Γ [.ref (Γ.2.2 0), .ref (Γ.2.2 (35 + t))] σ μ none (fc_choose σ t c) μ := by
  refine wc_enter "WaitedCommits" (by decide) rfl (Nat.le_of_ble_eq_true rfl) ?_
  intro P0 E0 S0 M0 A0 B0 T0 K0 C hr hlk
  refine wr_vs (vs' := [(0, .ref (Γ.2.2 0)), (1, .ref (Γ.2.2 (35 + t)))]) rfl ?_
  refine wr_aload_n C 0 dW_chooseStamp_0 rfl rfl ?_
  refine wf_WC_sites C  (Or.inl tw_119) dW_chooseStamp_1 ?_
  refine wr_aload_n C 1 dW_chooseStamp_4 rfl rfl ?_
  refine wf_Tx_coordinator C (by omega) (Or.inr ⟨_, tw_70⟩) dW_chooseStamp_5 ?_
  refine wr_top (show σ 10 t 0 = nI c by subst_vars; first | exact hc | (simpa [wc_st, fc_sto_crd, fc_finish_crd, fc_send_crd] using hc)) ?_
  refine wa_sites C (by omega) dW_chooseStamp_8 ?_
  refine wr_astore_n C (vs' := [(2, .ref (Γ.2.2 (5 + c))), (0, .ref (Γ.2.2 0)), (1, .ref (Γ.2.2 (35 + t)))]) dW_chooseStamp_9 rfl (by decide) rfl ?_
  refine wr_aload_n C 2 dW_chooseStamp_10 rfl rfl ?_
  refine wr_aload_n C 2 dW_chooseStamp_11 rfl rfl ?_
  refine wf_Tx_floor C (by omega) (Or.inr ⟨_, tw_72⟩) dW_chooseStamp_12 ?_
  refine wr_aload_n C 2 dW_chooseStamp_15 rfl rfl ?_
  refine wr_callV1 C (As := []) (rest := [.int (σ 11 t 0), .ref (Γ.2.2 (35 + t))]) (mc_gm l Γ σ μ (t := t) (by omega)) cb_T_greatestMark (Or.inr ⟨_, tw_223⟩) tw_224 tw_541 (by omega) (wc_c_Tx (by omega)) rfl (by decide) (by decide) rfl rfl (Nat.le_of_ble_eq_true rfl) ⟨Nat.le_refl _, Nat.le_refl _⟩ dW_chooseStamp_16 ?_
  refine wr_mmax C tw_23 tw_24 tw_2 tw_25 (by decide) (by decide) (Nat.le_of_ble_eq_true rfl) ⟨Nat.le_refl _, Nat.le_refl _⟩ dW_chooseStamp_19 ?_
  refine wr_aload_n C 0 dW_chooseStamp_22 rfl rfl ?_
  refine wf_Site_bound C (by omega) (Or.inr ⟨_, tw_40⟩) dW_chooseStamp_23 ?_
  refine wr_iconst C (v := nI 1) dW_chooseStamp_26 (by decide) ?_
  refine wr_iadd C (z := (σ 4 c 0) + (nI 1)) dW_chooseStamp_27 rfl ?_
  refine wr_mmax C tw_23 tw_24 tw_2 tw_25 (by decide) (by decide) (Nat.le_of_ble_eq_true rfl) ⟨Nat.le_refl _, Nat.le_refl _⟩ dW_chooseStamp_28 ?_
  refine wp_Tx_stamp C (by omega) (Or.inr ⟨_, tw_76⟩) dW_chooseStamp_31 ?_
  generalize hs1 : wc_st σ 13 t 0 (wc_mx (wc_mx (σ 11 t 0) (fc_gm σ t)) ((σ 4 c 0) + (nI 1))) = σ1
  refine wr_aload_n C 2 dW_chooseStamp_34 rfl rfl ?_
  refine wf_Tx_marks C (by omega) (Or.inr ⟨_, tw_84⟩) dW_chooseStamp_35 ?_
  refine wr_aload_n C 2 dW_chooseStamp_38 rfl rfl ?_
  refine wf_Tx_coordinator C (by omega) (Or.inr ⟨_, tw_70⟩) dW_chooseStamp_39 ?_
  refine wr_top (show σ1 10 t 0 = nI c by subst_vars; first | exact hc | (simpa [wc_st, fc_sto_crd, fc_finish_crd, fc_send_crd] using hc)) ?_
  refine wr_aload_n C 2 dW_chooseStamp_42 rfl rfl ?_
  refine wf_Tx_stamp C (by omega) (Or.inr ⟨_, tw_76⟩) dW_chooseStamp_43 ?_
  refine ws_marks C (by omega) (by omega) dW_chooseStamp_46 ?_
  generalize hs2 : wc_st σ1 17 t c (σ1 13 t 0) = σ2
  refine wr_aload_n C 0 dW_chooseStamp_47 rfl rfl ?_
  refine wr_aload_n C 2 dW_chooseStamp_48 rfl rfl ?_
  refine wf_Tx_stamp C (by omega) (Or.inr ⟨_, tw_76⟩) dW_chooseStamp_49 ?_
  refine wp_Site_bound C (by omega) (Or.inr ⟨_, tw_40⟩) dW_chooseStamp_52 ?_
  generalize hs3 : wc_st σ2 4 c 0 (σ2 13 t 0) = σ3
  refine wr_aload_n C 2 dW_chooseStamp_55 rfl rfl ?_
  refine wr_iconst C (v := nI 3) dW_chooseStamp_56 (by decide) ?_
  refine wp_Tx_state C (by omega) (Or.inr ⟨_, tw_66⟩) dW_chooseStamp_57 ?_
  generalize hs4 : wc_st σ3 8 t 0 (nI 3) = σ4
  exact wr_vret C hr hlk dW_chooseStamp_60 rfl (by subst_vars; rfl) (by subst_vars; rfl)
set_option maxRecDepth 100000 in
set_option maxHeartbeats 4000000 in
theorem mc_prepare (l : Launch) (Γ : wc_G) (σ μ : wc_St) {t c : Nat} (ht : t < 5) (hc3 : c < 3) (hc : σ 10 t 0 = nI c) : wc_M l yW_prepare cW_prepare 3 none 3 Γ [.ref (Γ.2.2 0), .int (nI t)] σ μ none (fc_prepare σ t c) μ := by
  refine wc_enter "WaitedCommits" (by decide) rfl (Nat.le_of_ble_eq_true rfl) ?_
  intro P0 E0 S0 M0 A0 B0 T0 K0 C hr hlk
  refine wr_vs (vs' := [(0, .ref (Γ.2.2 0)), (1, .int (nI t))]) rfl ?_
  refine wr_aload_n C 0 dW_prepare_0 rfl rfl ?_
  refine wf_WC_transactions C  (Or.inl tw_121) dW_prepare_1 ?_
  refine wr_iload_n C 1 dW_prepare_4 rfl rfl ?_
  refine wa_txs C (by omega) dW_prepare_5 ?_
  refine wr_astore_n C (vs' := [(2, .ref (Γ.2.2 (35 + t))), (0, .ref (Γ.2.2 0)), (1, .int (nI t))]) dW_prepare_6 rfl (by decide) rfl ?_
  refine wr_aload_n C 0 dW_prepare_7 rfl rfl ?_
  refine wr_iconst C (v := nI 2) dW_prepare_8 (by decide) ?_
  refine wp_Tx_state C (by omega) (Or.inr ⟨_, tw_66⟩) dW_prepare_9 ?_
  generalize hs1 : wc_st σ 8 t 0 (nI 2) = σ1
  refine wr_aload_n C 0 dW_prepare_12 rfl rfl ?_
  refine wr_aload_n C 1 dW_prepare_13 rfl rfl ?_
  refine wr_aload_n C 0 dW_prepare_14 rfl rfl ?_
  refine wf_Tx_coordinator C (by omega) (Or.inr ⟨_, tw_70⟩) dW_prepare_15 ?_
  refine wr_top (show σ1 10 t 0 = nI c by subst_vars; first | exact hc | (simpa [wc_st, fc_sto_crd, fc_finish_crd, fc_send_crd] using hc)) ?_
  refine wr_callV1 C (As := [.int (nI c)]) (rest := [.ref (Γ.2.2 (35 + t))]) (mc_latest l Γ σ1 μ (q := c) (by omega)) cb_W_latest (Or.inl tw_210) tw_211 tw_537 (by omega) (wc_c_WC) rfl (by decide) (by decide) rfl rfl (Nat.le_of_ble_eq_true rfl) ⟨Nat.le_refl _, Nat.le_refl _⟩ dW_prepare_18 ?_
  refine wr_iconst C (v := nI 1) dW_prepare_21 (by decide) ?_
  refine wr_iadd C (z := (fc_latest σ1 c) + (nI 1)) dW_prepare_22 rfl ?_
  refine wp_Tx_floor C (by omega) (Or.inr ⟨_, tw_72⟩) dW_prepare_23 ?_
  generalize hs2 : wc_st σ1 11 t 0 ((fc_latest σ1 c) + (nI 1)) = σ2
  refine wr_aload_n C 0 dW_prepare_26 rfl rfl ?_
  refine wr_aload_n C 1 dW_prepare_27 rfl rfl ?_
  refine wr_iconst C (v := nI 1) dW_prepare_28 (by decide) ?_
  refine wr_iload_n C 2 dW_prepare_29 rfl rfl ?_
  refine wr_callV1 C (As := [.int (nI 1), .int (nI t)]) (rest := [.ref (Γ.2.2 (35 + t))]) (mc_sto l Γ σ2 μ (nI 1) (t := t) (c := c) (by omega) (by omega) (by subst_vars; first | exact hc | (simpa [wc_st, fc_sto_crd, fc_finish_crd, fc_send_crd] using hc))) cb_W_sendToOthers (Or.inl tw_213) tw_214 tw_538 (by omega) (wc_c_WC) rfl (by decide) (by decide) rfl rfl (Nat.le_of_ble_eq_true rfl) ⟨Nat.le_refl _, Nat.le_refl _⟩ dW_prepare_30 ?_
  generalize hs3 : (fc_sto (nI 1) t c 3 0 0 σ2).2 = σ3
  refine wp_Tx_awaited C (by omega) (Or.inr ⟨_, tw_74⟩) dW_prepare_33 ?_
  generalize hs4 : wc_st σ3 12 t 0 (nI ((fc_sto (nI 1) t c 3 0 0 σ2).1)) = σ4
  refine wr_aload_n C 0 dW_prepare_36 rfl rfl ?_
  refine wf_Tx_awaited C (by omega) (Or.inr ⟨_, tw_74⟩) dW_prepare_37 ?_
  refine wr_if_ne C (tgt := 48) dW_prepare_40 (by decide) (fun h1 => ?_) (fun h1 => ?_)
  ·
    exact wr_vret C hr hlk dW_prepare_48 rfl (by first | rfl | (subst_vars; simp [fc_prepare, fc_prep2, fc_prep1, *]; done) | (subst_vars; unfold fc_prepare fc_prep2 fc_prep1; dsimp only; first | (rw [if_pos (by assumption)]; done) | (rw [if_neg (by assumption)]; done))) (by first | rfl | (subst_vars; simp [fc_prepare, fc_prep2, fc_prep1, *]; done) | (subst_vars; unfold fc_prepare fc_prep2 fc_prep1; dsimp only; first | (rw [if_pos (by assumption)]; done) | (rw [if_neg (by assumption)]; done)))
  ·
    refine wr_aload_n C 1 dW_prepare_43 rfl rfl ?_
    refine wr_aload_n C 0 dW_prepare_44 rfl rfl ?_
    refine wr_callV0 C (As := [.ref (Γ.2.2 (35 + t))]) (rest := []) (mc_choose l Γ σ4 μ (t := t) (c := c) (by omega) (by omega) (by subst_vars; first | exact hc | (simpa [wc_st, fc_sto_crd, fc_finish_crd, fc_send_crd] using hc))) cb_W_chooseStamp (Or.inl tw_220) tw_221 tw_540 (by omega) (wc_c_WC) rfl (by decide) (by decide) rfl rfl (Nat.le_of_ble_eq_true rfl) ⟨Nat.le_refl _, Nat.le_refl _⟩ dW_prepare_45 ?_
    generalize hs5 : fc_choose σ4 t c = σ5
    exact wr_vret C hr hlk dW_prepare_48 rfl (by first | rfl | (subst_vars; simp [fc_prepare, fc_prep2, fc_prep1, *]; done) | (subst_vars; unfold fc_prepare fc_prep2 fc_prep1; dsimp only; first | (rw [if_pos (by assumption)]; done) | (rw [if_neg (by assumption)]; done))) (by first | rfl | (subst_vars; simp [fc_prepare, fc_prep2, fc_prep1, *]; done) | (subst_vars; unfold fc_prepare fc_prep2 fc_prep1; dsimp only; first | (rw [if_pos (by assumption)]; done) | (rw [if_neg (by assumption)]; done)))
set_option maxRecDepth 100000 in
set_option maxHeartbeats 4000000 in
theorem mc_takePrepare (l : Launch) (Γ : wc_G) (σ μ : wc_St) {t q c : Nat} (ht : t < 5) (hq : q < 3) (hc3 : c < 3) (hc : σ 10 t 0 = nI c) : wc_M l yW_takePrepare cW_takePrepare 4 none 1 Γ [.ref (Γ.2.2 0), .int (nI t), .int (nI q)] σ μ none (fc_takePrepare σ t q c) μ := by
  refine wc_enter "WaitedCommits" (by decide) rfl (Nat.le_of_ble_eq_true rfl) ?_
  intro P0 E0 S0 M0 A0 B0 T0 K0 C hr hlk
  refine wr_vs (vs' := [(0, .ref (Γ.2.2 0)), (1, .int (nI t)), (2, .int (nI q))]) rfl ?_
  refine wr_aload_n C 0 dW_takePrepare_0 rfl rfl ?_
  refine wr_iload_n C 2 dW_takePrepare_1 rfl rfl ?_
  refine wr_callV1 C (As := [.int (nI q)]) (rest := []) (mc_latest l Γ σ μ (q := q) (by omega)) cb_W_latest (Or.inl tw_210) tw_211 tw_537 (by omega) (wc_c_WC) rfl (by decide) (by decide) rfl rfl (Nat.le_of_ble_eq_true rfl) ⟨Nat.le_refl _, Nat.le_refl _⟩ dW_takePrepare_2 ?_
  refine wr_aload_n C 0 dW_takePrepare_5 rfl rfl ?_
  refine wf_WC_sites C  (Or.inl tw_119) dW_takePrepare_6 ?_
  refine wr_iload_n C 2 dW_takePrepare_9 rfl rfl ?_
  refine wa_sites C (by omega) dW_takePrepare_10 ?_
  refine wf_Site_bound C (by omega) (Or.inr ⟨_, tw_40⟩) dW_takePrepare_11 ?_
  refine wr_iconst C (v := nI 1) dW_takePrepare_14 (by decide) ?_
  refine wr_iadd C (z := (σ 4 q 0) + (nI 1)) dW_takePrepare_15 rfl ?_
  refine wr_mmax C tw_23 tw_24 tw_2 tw_25 (by decide) (by decide) (Nat.le_of_ble_eq_true rfl) ⟨Nat.le_refl _, Nat.le_refl _⟩ dW_takePrepare_16 ?_
  refine wr_istore_n C (vs' := [(3, .int (wc_mx (fc_latest σ q) ((σ 4 q 0) + (nI 1)))), (0, .ref (Γ.2.2 0)), (1, .int (nI t)), (2, .int (nI q))]) dW_takePrepare_19 rfl (by decide) rfl ?_
  refine wr_aload_n C 1 dW_takePrepare_20 rfl rfl ?_
  refine wf_WC_transactions C  (Or.inl tw_121) dW_takePrepare_21 ?_
  refine wr_iload_n C 2 dW_takePrepare_24 rfl rfl ?_
  refine wa_txs C (by omega) dW_takePrepare_25 ?_
  refine wf_Tx_marks C (by omega) (Or.inr ⟨_, tw_84⟩) dW_takePrepare_26 ?_
  refine wr_iload_n C 3 dW_takePrepare_29 rfl rfl ?_
  refine wr_iload_n C 0 dW_takePrepare_30 rfl rfl ?_
  refine ws_marks C (by omega) (by omega) dW_takePrepare_31 ?_
  generalize hs1 : wc_st σ 17 t q (wc_mx (fc_latest σ q) ((σ 4 q 0) + (nI 1))) = σ1
  refine wr_aload_n C 1 dW_takePrepare_32 rfl rfl ?_
  refine wf_WC_sites C  (Or.inl tw_119) dW_takePrepare_33 ?_
  refine wr_iload_n C 3 dW_takePrepare_36 rfl rfl ?_
  refine wa_sites C (by omega) dW_takePrepare_37 ?_
  refine wr_iload_n C 0 dW_takePrepare_38 rfl rfl ?_
  refine wp_Site_bound C (by omega) (Or.inr ⟨_, tw_40⟩) dW_takePrepare_39 ?_
  generalize hs2 : wc_st σ1 4 q 0 (wc_mx (fc_latest σ q) ((σ 4 q 0) + (nI 1))) = σ2
  refine wr_aload_n C 1 dW_takePrepare_42 rfl rfl ?_
  refine wr_iconst C (v := nI 2) dW_takePrepare_43 (by decide) ?_
  refine wr_iload_n C 2 dW_takePrepare_44 rfl rfl ?_
  refine wr_iload_n C 3 dW_takePrepare_45 rfl rfl ?_
  refine wr_callV0 C (As := [.int (nI 2), .int (nI t), .int (nI q)]) (rest := []) (mc_send l Γ σ2 μ (nI 2) (t := t) (q := q) (c := c) (by omega) (by omega) (by omega) (by subst_vars; first | exact hc | (simpa [wc_st, fc_sto_crd, fc_finish_crd, fc_send_crd] using hc))) cb_W_send (Or.inl tw_217) tw_218 tw_539 (by omega) (wc_c_WC) rfl (by decide) (by decide) rfl rfl (Nat.le_of_ble_eq_true rfl) ⟨Nat.le_refl _, Nat.le_refl _⟩ dW_takePrepare_46 ?_
  generalize hs3 : fc_send σ2 (nI 2) t q c = σ3
  exact wr_vret C hr hlk dW_takePrepare_49 rfl (by subst_vars; rfl) (by subst_vars; rfl)
set_option maxRecDepth 100000 in
set_option maxHeartbeats 4000000 in
theorem mc_takePrepared (l : Launch) (Γ : wc_G) (σ μ : wc_St) {t c : Nat} (ht : t < 5) (hc3 : c < 3) (hc : σ 10 t 0 = nI c) : wc_M l yW_takePrepared cW_takePrepared 2 none 3 Γ [.ref (Γ.2.2 0), .ref (Γ.2.2 (35 + t))] σ μ none (fc_takePrepared σ t c) μ := by
  refine wc_enter "WaitedCommits" (by decide) rfl (Nat.le_of_ble_eq_true rfl) ?_
  intro P0 E0 S0 M0 A0 B0 T0 K0 C hr hlk
  refine wr_vs (vs' := [(0, .ref (Γ.2.2 0)), (1, .ref (Γ.2.2 (35 + t)))]) rfl ?_
  refine wr_aload_n C 1 dW_takePrepared_0 rfl rfl ?_
  refine wr_dup C dW_takePrepared_1 rfl ?_
  refine wf_Tx_awaited C (by omega) (Or.inr ⟨_, tw_74⟩) dW_takePrepared_2 ?_
  refine wr_iconst C (v := nI 1) dW_takePrepared_5 (by decide) ?_
  refine wr_isub C (z := (σ 12 t 0) - (nI 1)) dW_takePrepared_6 rfl ?_
  refine wp_Tx_awaited C (by omega) (Or.inr ⟨_, tw_74⟩) dW_takePrepared_7 ?_
  generalize hs1 : wc_st σ 12 t 0 ((σ 12 t 0) - (nI 1)) = σ1
  refine wr_aload_n C 1 dW_takePrepared_10 rfl rfl ?_
  refine wf_Tx_awaited C (by omega) (Or.inr ⟨_, tw_74⟩) dW_takePrepared_11 ?_
  refine wr_if_ne C (tgt := 22) dW_takePrepared_14 (by decide) (fun h1 => ?_) (fun h1 => ?_)
  ·
    exact wr_vret C hr hlk dW_takePrepared_22 rfl (by first | rfl | (subst_vars; unfold fc_takePrepared; dsimp only; first | (rw [if_pos (by assumption)]; done) | (rw [if_neg (by assumption)]; done))) (by first | rfl | (subst_vars; unfold fc_takePrepared; dsimp only; first | (rw [if_pos (by assumption)]; done) | (rw [if_neg (by assumption)]; done)))
  ·
    refine wr_aload_n C 0 dW_takePrepared_17 rfl rfl ?_
    refine wr_aload_n C 1 dW_takePrepared_18 rfl rfl ?_
    refine wr_callV0 C (As := [.ref (Γ.2.2 (35 + t))]) (rest := []) (mc_choose l Γ σ1 μ (t := t) (c := c) (by omega) (by omega) (by subst_vars; first | exact hc | (simpa [wc_st, fc_sto_crd, fc_finish_crd, fc_send_crd] using hc))) cb_W_chooseStamp (Or.inl tw_220) tw_221 tw_540 (by omega) (wc_c_WC) rfl (by decide) (by decide) rfl rfl (Nat.le_of_ble_eq_true rfl) ⟨Nat.le_refl _, Nat.le_refl _⟩ dW_takePrepared_19 ?_
    generalize hs2 : fc_choose σ1 t c = σ2
    exact wr_vret C hr hlk dW_takePrepared_22 rfl (by first | rfl | (subst_vars; unfold fc_takePrepared; dsimp only; first | (rw [if_pos (by assumption)]; done) | (rw [if_neg (by assumption)]; done))) (by first | rfl | (subst_vars; unfold fc_takePrepared; dsimp only; first | (rw [if_pos (by assumption)]; done) | (rw [if_neg (by assumption)]; done)))
set_option maxRecDepth 100000 in
set_option maxHeartbeats 4000000 in
theorem mc_finishAt (l : Launch) (Γ : wc_G) (σ μ : wc_St) {t q : Nat} (ht : t < 5) (hq : q < 3) : wc_M l yW_finishAt cW_finishAt 4 none 2 Γ [.ref (Γ.2.2 0), .ref (Γ.2.2 (35 + t)), .int (nI q)] σ μ none (fc_finish σ t q) μ := by
  refine wc_enter "WaitedCommits" (by decide) rfl (Nat.le_of_ble_eq_true rfl) ?_
  intro P0 E0 S0 M0 A0 B0 T0 K0 C hr hlk
  refine wr_vs (vs' := [(0, .ref (Γ.2.2 0)), (1, .ref (Γ.2.2 (35 + t))), (2, .int (nI q))]) rfl ?_
  refine wr_iload_n C 2 dW_finishAt_0 rfl rfl ?_
  refine wr_istore_n C (vs' := [(3, .int (nI q)), (0, .ref (Γ.2.2 0)), (1, .ref (Γ.2.2 (35 + t))), (2, .int (nI q))]) dW_finishAt_1 rfl (by decide) rfl ?_
  refine wr_iload_n C 0 dW_finishAt_2 rfl rfl ?_
  refine wr_bipush C (v := nI 9) dW_finishAt_3 (by decide) ?_
  refine wr_icmp_ge C (tgt := 43) dW_finishAt_5 (by decide) (fun h1 => absurd h1 (wc_noge (by omega) (by omega) (by omega))) (fun _ => ?_)
  refine wr_aload_n C 2 dW_finishAt_8 rfl rfl ?_
  refine wf_Tx_locks C (by omega) (Or.inr ⟨_, tw_80⟩) dW_finishAt_9 ?_
  refine wr_iload_n C 0 dW_finishAt_12 rfl rfl ?_
  refine wa_locks C (by omega) (by omega) dW_finishAt_13 ?_
  refine wr_iconst C (v := nI 2) dW_finishAt_14 (by decide) ?_
  refine wr_icmp_ne C (tgt := 37) dW_finishAt_15 (by decide) (fun h2 => ?_) (fun h2 => ?_)
  ·
    refine wr_iinc C (v := nI (q + 3)) (vs' := [(3, .int (nI (q + 3))), (0, .ref (Γ.2.2 0)), (1, .ref (Γ.2.2 (35 + t))), (2, .int (nI q))]) 0 dW_finishAt_37 rfl (wc_inc3 q) (by decide) rfl ?_
    refine wr_goto C (tgt := 2) dW_finishAt_40 (by decide) ?_
    refine wr_iload_n C 0 dW_finishAt_2 rfl rfl ?_
    refine wr_bipush C (v := nI 9) dW_finishAt_3 (by decide) ?_
    refine wr_icmp_ge C (tgt := 43) dW_finishAt_5 (by decide) (fun h3 => absurd h3 (wc_noge (by omega) (by omega) (by omega))) (fun _ => ?_)
    refine wr_aload_n C 2 dW_finishAt_8 rfl rfl ?_
    refine wf_Tx_locks C (by omega) (Or.inr ⟨_, tw_80⟩) dW_finishAt_9 ?_
    refine wr_iload_n C 0 dW_finishAt_12 rfl rfl ?_
    refine wa_locks C (by omega) (by omega) dW_finishAt_13 ?_
    refine wr_iconst C (v := nI 2) dW_finishAt_14 (by decide) ?_
    refine wr_icmp_ne C (tgt := 37) dW_finishAt_15 (by decide) (fun h4 => ?_) (fun h4 => ?_)
    ·
      refine wr_iinc C (v := nI (q + 3 + 3)) (vs' := [(3, .int (nI (q + 3 + 3))), (0, .ref (Γ.2.2 0)), (1, .ref (Γ.2.2 (35 + t))), (2, .int (nI q))]) 0 dW_finishAt_37 rfl (wc_inc3 (q + 3)) (by decide) rfl ?_
      refine wr_goto C (tgt := 2) dW_finishAt_40 (by decide) ?_
      refine wr_iload_n C 0 dW_finishAt_2 rfl rfl ?_
      refine wr_bipush C (v := nI 9) dW_finishAt_3 (by decide) ?_
      refine wr_icmp_ge C (tgt := 43) dW_finishAt_5 (by decide) (fun h5 => absurd h5 (wc_noge (by omega) (by omega) (by omega))) (fun _ => ?_)
      refine wr_aload_n C 2 dW_finishAt_8 rfl rfl ?_
      refine wf_Tx_locks C (by omega) (Or.inr ⟨_, tw_80⟩) dW_finishAt_9 ?_
      refine wr_iload_n C 0 dW_finishAt_12 rfl rfl ?_
      refine wa_locks C (by omega) (by omega) dW_finishAt_13 ?_
      refine wr_iconst C (v := nI 2) dW_finishAt_14 (by decide) ?_
      refine wr_icmp_ne C (tgt := 37) dW_finishAt_15 (by decide) (fun h6 => ?_) (fun h6 => ?_)
      ·
        refine wr_iinc C (v := nI (q + 3 + 3 + 3)) (vs' := [(3, .int (nI (q + 3 + 3 + 3))), (0, .ref (Γ.2.2 0)), (1, .ref (Γ.2.2 (35 + t))), (2, .int (nI q))]) 0 dW_finishAt_37 rfl (wc_inc3 (q + 3 + 3)) (by decide) rfl ?_
        refine wr_goto C (tgt := 2) dW_finishAt_40 (by decide) ?_
        refine wr_iload_n C 0 dW_finishAt_2 rfl rfl ?_
        refine wr_bipush C (v := nI 9) dW_finishAt_3 (by decide) ?_
        refine wr_icmp_ge C (tgt := 43) dW_finishAt_5 (by decide) (fun _ => ?_) (fun h7 => absurd (wc_yesge (by omega) (by omega) (by omega)) h7)
        refine wr_aload_n C 2 dW_finishAt_43 rfl rfl ?_
        refine wr_iload_n C 3 dW_finishAt_44 rfl rfl ?_
        refine wr_callV0 C (As := [.int (nI q)]) (rest := []) (mc_unlockAt l Γ σ μ (t := t) (q := q) (by omega) (by omega)) cb_T_unlockAt (Or.inr ⟨_, tw_282⟩) tw_196 tw_535 (by omega) (wc_c_Tx (by omega)) rfl (by decide) (by decide) rfl rfl (Nat.le_of_ble_eq_true rfl) ⟨Nat.le_refl _, Nat.le_refl _⟩ dW_finishAt_45 ?_
        generalize hs1 : fc_unlock σ t q = σ1
        refine wr_aload_n C 2 dW_finishAt_48 rfl rfl ?_
        refine wf_Tx_marks C (by omega) (Or.inr ⟨_, tw_84⟩) dW_finishAt_49 ?_
        refine wr_iload_n C 3 dW_finishAt_52 rfl rfl ?_
        refine wr_iconst C (v := nI 0) dW_finishAt_53 (by decide) ?_
        refine ws_marks C (by omega) (by omega) dW_finishAt_54 ?_
        generalize hs2 : wc_st σ1 17 t q (nI 0) = σ2
        refine wr_aload_n C 1 dW_finishAt_55 rfl rfl ?_
        refine wf_WC_sites C  (Or.inl tw_119) dW_finishAt_56 ?_
        refine wr_iload_n C 3 dW_finishAt_59 rfl rfl ?_
        refine wa_sites C (by omega) dW_finishAt_60 ?_
        refine wr_aload_n C 2 dW_finishAt_61 rfl rfl ?_
        refine wf_Tx_stamp C (by omega) (Or.inr ⟨_, tw_76⟩) dW_finishAt_62 ?_
        refine wr_callV0 C (As := [.int (σ2 13 t 0)]) (rest := []) (mc_raiseBound l Γ σ2 μ (q := q) (by omega) (σ2 13 t 0)) cb_S_raiseBound (Or.inr ⟨_, tw_242⟩) tw_243 tw_544 (by omega) (wc_c_Site (by omega)) rfl (by decide) (by decide) rfl rfl (Nat.le_of_ble_eq_true rfl) ⟨Nat.le_refl _, Nat.le_refl _⟩ dW_finishAt_65 ?_
        generalize hs3 : fc_raise σ2 q (σ2 13 t 0) = σ3
        exact wr_vret C hr hlk dW_finishAt_68 rfl (by first | rfl | (subst_vars; simp [fc_finish, fc_fin1, *]; done)) (by first | rfl | (subst_vars; simp [fc_finish, fc_fin1, *]; done))
      ·
        refine wr_aload_n C 1 dW_finishAt_18 rfl rfl ?_
        refine wf_WC_keys C  (Or.inl tw_120) dW_finishAt_19 ?_
        refine wr_iload_n C 0 dW_finishAt_22 rfl rfl ?_
        refine wa_keys C (by omega) dW_finishAt_23 ?_
        refine wr_aload_n C 2 dW_finishAt_24 rfl rfl ?_
        refine wf_Tx_written C (by omega) (Or.inr ⟨_, tw_82⟩) dW_finishAt_25 ?_
        refine wr_iload_n C 0 dW_finishAt_28 rfl rfl ?_
        refine wa_written C (by omega) (by omega) dW_finishAt_29 ?_
        refine wr_aload_n C 2 dW_finishAt_30 rfl rfl ?_
        refine wf_Tx_stamp C (by omega) (Or.inr ⟨_, tw_76⟩) dW_finishAt_31 ?_
        refine wr_callV0 C (As := [.int (σ 16 t (q + 3 + 3)), .int (σ 13 t 0)]) (rest := []) (mc_add l Γ σ μ (k := q + 3 + 3) (by omega) (σ 16 t (q + 3 + 3)) (σ 13 t 0)) cb_K_add (Or.inr ⟨_, tw_278⟩) tw_279 tw_554 (by omega) (wc_c_Key (by omega)) rfl (by decide) (by decide) rfl rfl (Nat.le_of_ble_eq_true rfl) ⟨Nat.le_refl _, Nat.le_refl _⟩ dW_finishAt_34 ?_
        generalize hs4 : fc_add σ (q + 3 + 3) (σ 16 t (q + 3 + 3)) (σ 13 t 0) = σ4
        refine wr_iinc C (v := nI (q + 3 + 3 + 3)) (vs' := [(3, .int (nI (q + 3 + 3 + 3))), (0, .ref (Γ.2.2 0)), (1, .ref (Γ.2.2 (35 + t))), (2, .int (nI q))]) 0 dW_finishAt_37 rfl (wc_inc3 (q + 3 + 3)) (by decide) rfl ?_
        refine wr_goto C (tgt := 2) dW_finishAt_40 (by decide) ?_
        refine wr_iload_n C 0 dW_finishAt_2 rfl rfl ?_
        refine wr_bipush C (v := nI 9) dW_finishAt_3 (by decide) ?_
        refine wr_icmp_ge C (tgt := 43) dW_finishAt_5 (by decide) (fun _ => ?_) (fun h8 => absurd (wc_yesge (by omega) (by omega) (by omega)) h8)
        refine wr_aload_n C 2 dW_finishAt_43 rfl rfl ?_
        refine wr_iload_n C 3 dW_finishAt_44 rfl rfl ?_
        refine wr_callV0 C (As := [.int (nI q)]) (rest := []) (mc_unlockAt l Γ σ4 μ (t := t) (q := q) (by omega) (by omega)) cb_T_unlockAt (Or.inr ⟨_, tw_282⟩) tw_196 tw_535 (by omega) (wc_c_Tx (by omega)) rfl (by decide) (by decide) rfl rfl (Nat.le_of_ble_eq_true rfl) ⟨Nat.le_refl _, Nat.le_refl _⟩ dW_finishAt_45 ?_
        generalize hs5 : fc_unlock σ4 t q = σ5
        refine wr_aload_n C 2 dW_finishAt_48 rfl rfl ?_
        refine wf_Tx_marks C (by omega) (Or.inr ⟨_, tw_84⟩) dW_finishAt_49 ?_
        refine wr_iload_n C 3 dW_finishAt_52 rfl rfl ?_
        refine wr_iconst C (v := nI 0) dW_finishAt_53 (by decide) ?_
        refine ws_marks C (by omega) (by omega) dW_finishAt_54 ?_
        generalize hs6 : wc_st σ5 17 t q (nI 0) = σ6
        refine wr_aload_n C 1 dW_finishAt_55 rfl rfl ?_
        refine wf_WC_sites C  (Or.inl tw_119) dW_finishAt_56 ?_
        refine wr_iload_n C 3 dW_finishAt_59 rfl rfl ?_
        refine wa_sites C (by omega) dW_finishAt_60 ?_
        refine wr_aload_n C 2 dW_finishAt_61 rfl rfl ?_
        refine wf_Tx_stamp C (by omega) (Or.inr ⟨_, tw_76⟩) dW_finishAt_62 ?_
        refine wr_callV0 C (As := [.int (σ6 13 t 0)]) (rest := []) (mc_raiseBound l Γ σ6 μ (q := q) (by omega) (σ6 13 t 0)) cb_S_raiseBound (Or.inr ⟨_, tw_242⟩) tw_243 tw_544 (by omega) (wc_c_Site (by omega)) rfl (by decide) (by decide) rfl rfl (Nat.le_of_ble_eq_true rfl) ⟨Nat.le_refl _, Nat.le_refl _⟩ dW_finishAt_65 ?_
        generalize hs7 : fc_raise σ6 q (σ6 13 t 0) = σ7
        exact wr_vret C hr hlk dW_finishAt_68 rfl (by first | rfl | (subst_vars; simp [fc_finish, fc_fin1, *]; done)) (by first | rfl | (subst_vars; simp [fc_finish, fc_fin1, *]; done))
    ·
      refine wr_aload_n C 1 dW_finishAt_18 rfl rfl ?_
      refine wf_WC_keys C  (Or.inl tw_120) dW_finishAt_19 ?_
      refine wr_iload_n C 0 dW_finishAt_22 rfl rfl ?_
      refine wa_keys C (by omega) dW_finishAt_23 ?_
      refine wr_aload_n C 2 dW_finishAt_24 rfl rfl ?_
      refine wf_Tx_written C (by omega) (Or.inr ⟨_, tw_82⟩) dW_finishAt_25 ?_
      refine wr_iload_n C 0 dW_finishAt_28 rfl rfl ?_
      refine wa_written C (by omega) (by omega) dW_finishAt_29 ?_
      refine wr_aload_n C 2 dW_finishAt_30 rfl rfl ?_
      refine wf_Tx_stamp C (by omega) (Or.inr ⟨_, tw_76⟩) dW_finishAt_31 ?_
      refine wr_callV0 C (As := [.int (σ 16 t (q + 3)), .int (σ 13 t 0)]) (rest := []) (mc_add l Γ σ μ (k := q + 3) (by omega) (σ 16 t (q + 3)) (σ 13 t 0)) cb_K_add (Or.inr ⟨_, tw_278⟩) tw_279 tw_554 (by omega) (wc_c_Key (by omega)) rfl (by decide) (by decide) rfl rfl (Nat.le_of_ble_eq_true rfl) ⟨Nat.le_refl _, Nat.le_refl _⟩ dW_finishAt_34 ?_
      generalize hs8 : fc_add σ (q + 3) (σ 16 t (q + 3)) (σ 13 t 0) = σ8
      refine wr_iinc C (v := nI (q + 3 + 3)) (vs' := [(3, .int (nI (q + 3 + 3))), (0, .ref (Γ.2.2 0)), (1, .ref (Γ.2.2 (35 + t))), (2, .int (nI q))]) 0 dW_finishAt_37 rfl (wc_inc3 (q + 3)) (by decide) rfl ?_
      refine wr_goto C (tgt := 2) dW_finishAt_40 (by decide) ?_
      refine wr_iload_n C 0 dW_finishAt_2 rfl rfl ?_
      refine wr_bipush C (v := nI 9) dW_finishAt_3 (by decide) ?_
      refine wr_icmp_ge C (tgt := 43) dW_finishAt_5 (by decide) (fun h9 => absurd h9 (wc_noge (by omega) (by omega) (by omega))) (fun _ => ?_)
      refine wr_aload_n C 2 dW_finishAt_8 rfl rfl ?_
      refine wf_Tx_locks C (by omega) (Or.inr ⟨_, tw_80⟩) dW_finishAt_9 ?_
      refine wr_iload_n C 0 dW_finishAt_12 rfl rfl ?_
      refine wa_locks C (by omega) (by omega) dW_finishAt_13 ?_
      refine wr_iconst C (v := nI 2) dW_finishAt_14 (by decide) ?_
      refine wr_icmp_ne C (tgt := 37) dW_finishAt_15 (by decide) (fun h10 => ?_) (fun h10 => ?_)
      ·
        refine wr_iinc C (v := nI (q + 3 + 3 + 3)) (vs' := [(3, .int (nI (q + 3 + 3 + 3))), (0, .ref (Γ.2.2 0)), (1, .ref (Γ.2.2 (35 + t))), (2, .int (nI q))]) 0 dW_finishAt_37 rfl (wc_inc3 (q + 3 + 3)) (by decide) rfl ?_
        refine wr_goto C (tgt := 2) dW_finishAt_40 (by decide) ?_
        refine wr_iload_n C 0 dW_finishAt_2 rfl rfl ?_
        refine wr_bipush C (v := nI 9) dW_finishAt_3 (by decide) ?_
        refine wr_icmp_ge C (tgt := 43) dW_finishAt_5 (by decide) (fun _ => ?_) (fun h11 => absurd (wc_yesge (by omega) (by omega) (by omega)) h11)
        refine wr_aload_n C 2 dW_finishAt_43 rfl rfl ?_
        refine wr_iload_n C 3 dW_finishAt_44 rfl rfl ?_
        refine wr_callV0 C (As := [.int (nI q)]) (rest := []) (mc_unlockAt l Γ σ8 μ (t := t) (q := q) (by omega) (by omega)) cb_T_unlockAt (Or.inr ⟨_, tw_282⟩) tw_196 tw_535 (by omega) (wc_c_Tx (by omega)) rfl (by decide) (by decide) rfl rfl (Nat.le_of_ble_eq_true rfl) ⟨Nat.le_refl _, Nat.le_refl _⟩ dW_finishAt_45 ?_
        generalize hs9 : fc_unlock σ8 t q = σ9
        refine wr_aload_n C 2 dW_finishAt_48 rfl rfl ?_
        refine wf_Tx_marks C (by omega) (Or.inr ⟨_, tw_84⟩) dW_finishAt_49 ?_
        refine wr_iload_n C 3 dW_finishAt_52 rfl rfl ?_
        refine wr_iconst C (v := nI 0) dW_finishAt_53 (by decide) ?_
        refine ws_marks C (by omega) (by omega) dW_finishAt_54 ?_
        generalize hs10 : wc_st σ9 17 t q (nI 0) = σ10
        refine wr_aload_n C 1 dW_finishAt_55 rfl rfl ?_
        refine wf_WC_sites C  (Or.inl tw_119) dW_finishAt_56 ?_
        refine wr_iload_n C 3 dW_finishAt_59 rfl rfl ?_
        refine wa_sites C (by omega) dW_finishAt_60 ?_
        refine wr_aload_n C 2 dW_finishAt_61 rfl rfl ?_
        refine wf_Tx_stamp C (by omega) (Or.inr ⟨_, tw_76⟩) dW_finishAt_62 ?_
        refine wr_callV0 C (As := [.int (σ10 13 t 0)]) (rest := []) (mc_raiseBound l Γ σ10 μ (q := q) (by omega) (σ10 13 t 0)) cb_S_raiseBound (Or.inr ⟨_, tw_242⟩) tw_243 tw_544 (by omega) (wc_c_Site (by omega)) rfl (by decide) (by decide) rfl rfl (Nat.le_of_ble_eq_true rfl) ⟨Nat.le_refl _, Nat.le_refl _⟩ dW_finishAt_65 ?_
        generalize hs11 : fc_raise σ10 q (σ10 13 t 0) = σ11
        exact wr_vret C hr hlk dW_finishAt_68 rfl (by first | rfl | (subst_vars; simp [fc_finish, fc_fin1, *]; done)) (by first | rfl | (subst_vars; simp [fc_finish, fc_fin1, *]; done))
      ·
        refine wr_aload_n C 1 dW_finishAt_18 rfl rfl ?_
        refine wf_WC_keys C  (Or.inl tw_120) dW_finishAt_19 ?_
        refine wr_iload_n C 0 dW_finishAt_22 rfl rfl ?_
        refine wa_keys C (by omega) dW_finishAt_23 ?_
        refine wr_aload_n C 2 dW_finishAt_24 rfl rfl ?_
        refine wf_Tx_written C (by omega) (Or.inr ⟨_, tw_82⟩) dW_finishAt_25 ?_
        refine wr_iload_n C 0 dW_finishAt_28 rfl rfl ?_
        refine wa_written C (by omega) (by omega) dW_finishAt_29 ?_
        refine wr_aload_n C 2 dW_finishAt_30 rfl rfl ?_
        refine wf_Tx_stamp C (by omega) (Or.inr ⟨_, tw_76⟩) dW_finishAt_31 ?_
        refine wr_callV0 C (As := [.int (σ8 16 t (q + 3 + 3)), .int (σ8 13 t 0)]) (rest := []) (mc_add l Γ σ8 μ (k := q + 3 + 3) (by omega) (σ8 16 t (q + 3 + 3)) (σ8 13 t 0)) cb_K_add (Or.inr ⟨_, tw_278⟩) tw_279 tw_554 (by omega) (wc_c_Key (by omega)) rfl (by decide) (by decide) rfl rfl (Nat.le_of_ble_eq_true rfl) ⟨Nat.le_refl _, Nat.le_refl _⟩ dW_finishAt_34 ?_
        generalize hs12 : fc_add σ8 (q + 3 + 3) (σ8 16 t (q + 3 + 3)) (σ8 13 t 0) = σ12
        refine wr_iinc C (v := nI (q + 3 + 3 + 3)) (vs' := [(3, .int (nI (q + 3 + 3 + 3))), (0, .ref (Γ.2.2 0)), (1, .ref (Γ.2.2 (35 + t))), (2, .int (nI q))]) 0 dW_finishAt_37 rfl (wc_inc3 (q + 3 + 3)) (by decide) rfl ?_
        refine wr_goto C (tgt := 2) dW_finishAt_40 (by decide) ?_
        refine wr_iload_n C 0 dW_finishAt_2 rfl rfl ?_
        refine wr_bipush C (v := nI 9) dW_finishAt_3 (by decide) ?_
        refine wr_icmp_ge C (tgt := 43) dW_finishAt_5 (by decide) (fun _ => ?_) (fun h12 => absurd (wc_yesge (by omega) (by omega) (by omega)) h12)
        refine wr_aload_n C 2 dW_finishAt_43 rfl rfl ?_
        refine wr_iload_n C 3 dW_finishAt_44 rfl rfl ?_
        refine wr_callV0 C (As := [.int (nI q)]) (rest := []) (mc_unlockAt l Γ σ12 μ (t := t) (q := q) (by omega) (by omega)) cb_T_unlockAt (Or.inr ⟨_, tw_282⟩) tw_196 tw_535 (by omega) (wc_c_Tx (by omega)) rfl (by decide) (by decide) rfl rfl (Nat.le_of_ble_eq_true rfl) ⟨Nat.le_refl _, Nat.le_refl _⟩ dW_finishAt_45 ?_
        generalize hs13 : fc_unlock σ12 t q = σ13
        refine wr_aload_n C 2 dW_finishAt_48 rfl rfl ?_
        refine wf_Tx_marks C (by omega) (Or.inr ⟨_, tw_84⟩) dW_finishAt_49 ?_
        refine wr_iload_n C 3 dW_finishAt_52 rfl rfl ?_
        refine wr_iconst C (v := nI 0) dW_finishAt_53 (by decide) ?_
        refine ws_marks C (by omega) (by omega) dW_finishAt_54 ?_
        generalize hs14 : wc_st σ13 17 t q (nI 0) = σ14
        refine wr_aload_n C 1 dW_finishAt_55 rfl rfl ?_
        refine wf_WC_sites C  (Or.inl tw_119) dW_finishAt_56 ?_
        refine wr_iload_n C 3 dW_finishAt_59 rfl rfl ?_
        refine wa_sites C (by omega) dW_finishAt_60 ?_
        refine wr_aload_n C 2 dW_finishAt_61 rfl rfl ?_
        refine wf_Tx_stamp C (by omega) (Or.inr ⟨_, tw_76⟩) dW_finishAt_62 ?_
        refine wr_callV0 C (As := [.int (σ14 13 t 0)]) (rest := []) (mc_raiseBound l Γ σ14 μ (q := q) (by omega) (σ14 13 t 0)) cb_S_raiseBound (Or.inr ⟨_, tw_242⟩) tw_243 tw_544 (by omega) (wc_c_Site (by omega)) rfl (by decide) (by decide) rfl rfl (Nat.le_of_ble_eq_true rfl) ⟨Nat.le_refl _, Nat.le_refl _⟩ dW_finishAt_65 ?_
        generalize hs15 : fc_raise σ14 q (σ14 13 t 0) = σ15
        exact wr_vret C hr hlk dW_finishAt_68 rfl (by first | rfl | (subst_vars; simp [fc_finish, fc_fin1, *]; done)) (by first | rfl | (subst_vars; simp [fc_finish, fc_fin1, *]; done))
  ·
    refine wr_aload_n C 1 dW_finishAt_18 rfl rfl ?_
    refine wf_WC_keys C  (Or.inl tw_120) dW_finishAt_19 ?_
    refine wr_iload_n C 0 dW_finishAt_22 rfl rfl ?_
    refine wa_keys C (by omega) dW_finishAt_23 ?_
    refine wr_aload_n C 2 dW_finishAt_24 rfl rfl ?_
    refine wf_Tx_written C (by omega) (Or.inr ⟨_, tw_82⟩) dW_finishAt_25 ?_
    refine wr_iload_n C 0 dW_finishAt_28 rfl rfl ?_
    refine wa_written C (by omega) (by omega) dW_finishAt_29 ?_
    refine wr_aload_n C 2 dW_finishAt_30 rfl rfl ?_
    refine wf_Tx_stamp C (by omega) (Or.inr ⟨_, tw_76⟩) dW_finishAt_31 ?_
    refine wr_callV0 C (As := [.int (σ 16 t q), .int (σ 13 t 0)]) (rest := []) (mc_add l Γ σ μ (k := q) (by omega) (σ 16 t q) (σ 13 t 0)) cb_K_add (Or.inr ⟨_, tw_278⟩) tw_279 tw_554 (by omega) (wc_c_Key (by omega)) rfl (by decide) (by decide) rfl rfl (Nat.le_of_ble_eq_true rfl) ⟨Nat.le_refl _, Nat.le_refl _⟩ dW_finishAt_34 ?_
    generalize hs16 : fc_add σ q (σ 16 t q) (σ 13 t 0) = σ16
    refine wr_iinc C (v := nI (q + 3)) (vs' := [(3, .int (nI (q + 3))), (0, .ref (Γ.2.2 0)), (1, .ref (Γ.2.2 (35 + t))), (2, .int (nI q))]) 0 dW_finishAt_37 rfl (wc_inc3 q) (by decide) rfl ?_
    refine wr_goto C (tgt := 2) dW_finishAt_40 (by decide) ?_
    refine wr_iload_n C 0 dW_finishAt_2 rfl rfl ?_
    refine wr_bipush C (v := nI 9) dW_finishAt_3 (by decide) ?_
    refine wr_icmp_ge C (tgt := 43) dW_finishAt_5 (by decide) (fun h13 => absurd h13 (wc_noge (by omega) (by omega) (by omega))) (fun _ => ?_)
    refine wr_aload_n C 2 dW_finishAt_8 rfl rfl ?_
    refine wf_Tx_locks C (by omega) (Or.inr ⟨_, tw_80⟩) dW_finishAt_9 ?_
    refine wr_iload_n C 0 dW_finishAt_12 rfl rfl ?_
    refine wa_locks C (by omega) (by omega) dW_finishAt_13 ?_
    refine wr_iconst C (v := nI 2) dW_finishAt_14 (by decide) ?_
    refine wr_icmp_ne C (tgt := 37) dW_finishAt_15 (by decide) (fun h14 => ?_) (fun h14 => ?_)
    ·
      refine wr_iinc C (v := nI (q + 3 + 3)) (vs' := [(3, .int (nI (q + 3 + 3))), (0, .ref (Γ.2.2 0)), (1, .ref (Γ.2.2 (35 + t))), (2, .int (nI q))]) 0 dW_finishAt_37 rfl (wc_inc3 (q + 3)) (by decide) rfl ?_
      refine wr_goto C (tgt := 2) dW_finishAt_40 (by decide) ?_
      refine wr_iload_n C 0 dW_finishAt_2 rfl rfl ?_
      refine wr_bipush C (v := nI 9) dW_finishAt_3 (by decide) ?_
      refine wr_icmp_ge C (tgt := 43) dW_finishAt_5 (by decide) (fun h15 => absurd h15 (wc_noge (by omega) (by omega) (by omega))) (fun _ => ?_)
      refine wr_aload_n C 2 dW_finishAt_8 rfl rfl ?_
      refine wf_Tx_locks C (by omega) (Or.inr ⟨_, tw_80⟩) dW_finishAt_9 ?_
      refine wr_iload_n C 0 dW_finishAt_12 rfl rfl ?_
      refine wa_locks C (by omega) (by omega) dW_finishAt_13 ?_
      refine wr_iconst C (v := nI 2) dW_finishAt_14 (by decide) ?_
      refine wr_icmp_ne C (tgt := 37) dW_finishAt_15 (by decide) (fun h16 => ?_) (fun h16 => ?_)
      ·
        refine wr_iinc C (v := nI (q + 3 + 3 + 3)) (vs' := [(3, .int (nI (q + 3 + 3 + 3))), (0, .ref (Γ.2.2 0)), (1, .ref (Γ.2.2 (35 + t))), (2, .int (nI q))]) 0 dW_finishAt_37 rfl (wc_inc3 (q + 3 + 3)) (by decide) rfl ?_
        refine wr_goto C (tgt := 2) dW_finishAt_40 (by decide) ?_
        refine wr_iload_n C 0 dW_finishAt_2 rfl rfl ?_
        refine wr_bipush C (v := nI 9) dW_finishAt_3 (by decide) ?_
        refine wr_icmp_ge C (tgt := 43) dW_finishAt_5 (by decide) (fun _ => ?_) (fun h17 => absurd (wc_yesge (by omega) (by omega) (by omega)) h17)
        refine wr_aload_n C 2 dW_finishAt_43 rfl rfl ?_
        refine wr_iload_n C 3 dW_finishAt_44 rfl rfl ?_
        refine wr_callV0 C (As := [.int (nI q)]) (rest := []) (mc_unlockAt l Γ σ16 μ (t := t) (q := q) (by omega) (by omega)) cb_T_unlockAt (Or.inr ⟨_, tw_282⟩) tw_196 tw_535 (by omega) (wc_c_Tx (by omega)) rfl (by decide) (by decide) rfl rfl (Nat.le_of_ble_eq_true rfl) ⟨Nat.le_refl _, Nat.le_refl _⟩ dW_finishAt_45 ?_
        generalize hs17 : fc_unlock σ16 t q = σ17
        refine wr_aload_n C 2 dW_finishAt_48 rfl rfl ?_
        refine wf_Tx_marks C (by omega) (Or.inr ⟨_, tw_84⟩) dW_finishAt_49 ?_
        refine wr_iload_n C 3 dW_finishAt_52 rfl rfl ?_
        refine wr_iconst C (v := nI 0) dW_finishAt_53 (by decide) ?_
        refine ws_marks C (by omega) (by omega) dW_finishAt_54 ?_
        generalize hs18 : wc_st σ17 17 t q (nI 0) = σ18
        refine wr_aload_n C 1 dW_finishAt_55 rfl rfl ?_
        refine wf_WC_sites C  (Or.inl tw_119) dW_finishAt_56 ?_
        refine wr_iload_n C 3 dW_finishAt_59 rfl rfl ?_
        refine wa_sites C (by omega) dW_finishAt_60 ?_
        refine wr_aload_n C 2 dW_finishAt_61 rfl rfl ?_
        refine wf_Tx_stamp C (by omega) (Or.inr ⟨_, tw_76⟩) dW_finishAt_62 ?_
        refine wr_callV0 C (As := [.int (σ18 13 t 0)]) (rest := []) (mc_raiseBound l Γ σ18 μ (q := q) (by omega) (σ18 13 t 0)) cb_S_raiseBound (Or.inr ⟨_, tw_242⟩) tw_243 tw_544 (by omega) (wc_c_Site (by omega)) rfl (by decide) (by decide) rfl rfl (Nat.le_of_ble_eq_true rfl) ⟨Nat.le_refl _, Nat.le_refl _⟩ dW_finishAt_65 ?_
        generalize hs19 : fc_raise σ18 q (σ18 13 t 0) = σ19
        exact wr_vret C hr hlk dW_finishAt_68 rfl (by first | rfl | (subst_vars; simp [fc_finish, fc_fin1, *]; done)) (by first | rfl | (subst_vars; simp [fc_finish, fc_fin1, *]; done))
      ·
        refine wr_aload_n C 1 dW_finishAt_18 rfl rfl ?_
        refine wf_WC_keys C  (Or.inl tw_120) dW_finishAt_19 ?_
        refine wr_iload_n C 0 dW_finishAt_22 rfl rfl ?_
        refine wa_keys C (by omega) dW_finishAt_23 ?_
        refine wr_aload_n C 2 dW_finishAt_24 rfl rfl ?_
        refine wf_Tx_written C (by omega) (Or.inr ⟨_, tw_82⟩) dW_finishAt_25 ?_
        refine wr_iload_n C 0 dW_finishAt_28 rfl rfl ?_
        refine wa_written C (by omega) (by omega) dW_finishAt_29 ?_
        refine wr_aload_n C 2 dW_finishAt_30 rfl rfl ?_
        refine wf_Tx_stamp C (by omega) (Or.inr ⟨_, tw_76⟩) dW_finishAt_31 ?_
        refine wr_callV0 C (As := [.int (σ16 16 t (q + 3 + 3)), .int (σ16 13 t 0)]) (rest := []) (mc_add l Γ σ16 μ (k := q + 3 + 3) (by omega) (σ16 16 t (q + 3 + 3)) (σ16 13 t 0)) cb_K_add (Or.inr ⟨_, tw_278⟩) tw_279 tw_554 (by omega) (wc_c_Key (by omega)) rfl (by decide) (by decide) rfl rfl (Nat.le_of_ble_eq_true rfl) ⟨Nat.le_refl _, Nat.le_refl _⟩ dW_finishAt_34 ?_
        generalize hs20 : fc_add σ16 (q + 3 + 3) (σ16 16 t (q + 3 + 3)) (σ16 13 t 0) = σ20
        refine wr_iinc C (v := nI (q + 3 + 3 + 3)) (vs' := [(3, .int (nI (q + 3 + 3 + 3))), (0, .ref (Γ.2.2 0)), (1, .ref (Γ.2.2 (35 + t))), (2, .int (nI q))]) 0 dW_finishAt_37 rfl (wc_inc3 (q + 3 + 3)) (by decide) rfl ?_
        refine wr_goto C (tgt := 2) dW_finishAt_40 (by decide) ?_
        refine wr_iload_n C 0 dW_finishAt_2 rfl rfl ?_
        refine wr_bipush C (v := nI 9) dW_finishAt_3 (by decide) ?_
        refine wr_icmp_ge C (tgt := 43) dW_finishAt_5 (by decide) (fun _ => ?_) (fun h18 => absurd (wc_yesge (by omega) (by omega) (by omega)) h18)
        refine wr_aload_n C 2 dW_finishAt_43 rfl rfl ?_
        refine wr_iload_n C 3 dW_finishAt_44 rfl rfl ?_
        refine wr_callV0 C (As := [.int (nI q)]) (rest := []) (mc_unlockAt l Γ σ20 μ (t := t) (q := q) (by omega) (by omega)) cb_T_unlockAt (Or.inr ⟨_, tw_282⟩) tw_196 tw_535 (by omega) (wc_c_Tx (by omega)) rfl (by decide) (by decide) rfl rfl (Nat.le_of_ble_eq_true rfl) ⟨Nat.le_refl _, Nat.le_refl _⟩ dW_finishAt_45 ?_
        generalize hs21 : fc_unlock σ20 t q = σ21
        refine wr_aload_n C 2 dW_finishAt_48 rfl rfl ?_
        refine wf_Tx_marks C (by omega) (Or.inr ⟨_, tw_84⟩) dW_finishAt_49 ?_
        refine wr_iload_n C 3 dW_finishAt_52 rfl rfl ?_
        refine wr_iconst C (v := nI 0) dW_finishAt_53 (by decide) ?_
        refine ws_marks C (by omega) (by omega) dW_finishAt_54 ?_
        generalize hs22 : wc_st σ21 17 t q (nI 0) = σ22
        refine wr_aload_n C 1 dW_finishAt_55 rfl rfl ?_
        refine wf_WC_sites C  (Or.inl tw_119) dW_finishAt_56 ?_
        refine wr_iload_n C 3 dW_finishAt_59 rfl rfl ?_
        refine wa_sites C (by omega) dW_finishAt_60 ?_
        refine wr_aload_n C 2 dW_finishAt_61 rfl rfl ?_
        refine wf_Tx_stamp C (by omega) (Or.inr ⟨_, tw_76⟩) dW_finishAt_62 ?_
        refine wr_callV0 C (As := [.int (σ22 13 t 0)]) (rest := []) (mc_raiseBound l Γ σ22 μ (q := q) (by omega) (σ22 13 t 0)) cb_S_raiseBound (Or.inr ⟨_, tw_242⟩) tw_243 tw_544 (by omega) (wc_c_Site (by omega)) rfl (by decide) (by decide) rfl rfl (Nat.le_of_ble_eq_true rfl) ⟨Nat.le_refl _, Nat.le_refl _⟩ dW_finishAt_65 ?_
        generalize hs23 : fc_raise σ22 q (σ22 13 t 0) = σ23
        exact wr_vret C hr hlk dW_finishAt_68 rfl (by first | rfl | (subst_vars; simp [fc_finish, fc_fin1, *]; done)) (by first | rfl | (subst_vars; simp [fc_finish, fc_fin1, *]; done))
    ·
      refine wr_aload_n C 1 dW_finishAt_18 rfl rfl ?_
      refine wf_WC_keys C  (Or.inl tw_120) dW_finishAt_19 ?_
      refine wr_iload_n C 0 dW_finishAt_22 rfl rfl ?_
      refine wa_keys C (by omega) dW_finishAt_23 ?_
      refine wr_aload_n C 2 dW_finishAt_24 rfl rfl ?_
      refine wf_Tx_written C (by omega) (Or.inr ⟨_, tw_82⟩) dW_finishAt_25 ?_
      refine wr_iload_n C 0 dW_finishAt_28 rfl rfl ?_
      refine wa_written C (by omega) (by omega) dW_finishAt_29 ?_
      refine wr_aload_n C 2 dW_finishAt_30 rfl rfl ?_
      refine wf_Tx_stamp C (by omega) (Or.inr ⟨_, tw_76⟩) dW_finishAt_31 ?_
      refine wr_callV0 C (As := [.int (σ16 16 t (q + 3)), .int (σ16 13 t 0)]) (rest := []) (mc_add l Γ σ16 μ (k := q + 3) (by omega) (σ16 16 t (q + 3)) (σ16 13 t 0)) cb_K_add (Or.inr ⟨_, tw_278⟩) tw_279 tw_554 (by omega) (wc_c_Key (by omega)) rfl (by decide) (by decide) rfl rfl (Nat.le_of_ble_eq_true rfl) ⟨Nat.le_refl _, Nat.le_refl _⟩ dW_finishAt_34 ?_
      generalize hs24 : fc_add σ16 (q + 3) (σ16 16 t (q + 3)) (σ16 13 t 0) = σ24
      refine wr_iinc C (v := nI (q + 3 + 3)) (vs' := [(3, .int (nI (q + 3 + 3))), (0, .ref (Γ.2.2 0)), (1, .ref (Γ.2.2 (35 + t))), (2, .int (nI q))]) 0 dW_finishAt_37 rfl (wc_inc3 (q + 3)) (by decide) rfl ?_
      refine wr_goto C (tgt := 2) dW_finishAt_40 (by decide) ?_
      refine wr_iload_n C 0 dW_finishAt_2 rfl rfl ?_
      refine wr_bipush C (v := nI 9) dW_finishAt_3 (by decide) ?_
      refine wr_icmp_ge C (tgt := 43) dW_finishAt_5 (by decide) (fun h19 => absurd h19 (wc_noge (by omega) (by omega) (by omega))) (fun _ => ?_)
      refine wr_aload_n C 2 dW_finishAt_8 rfl rfl ?_
      refine wf_Tx_locks C (by omega) (Or.inr ⟨_, tw_80⟩) dW_finishAt_9 ?_
      refine wr_iload_n C 0 dW_finishAt_12 rfl rfl ?_
      refine wa_locks C (by omega) (by omega) dW_finishAt_13 ?_
      refine wr_iconst C (v := nI 2) dW_finishAt_14 (by decide) ?_
      refine wr_icmp_ne C (tgt := 37) dW_finishAt_15 (by decide) (fun h20 => ?_) (fun h20 => ?_)
      ·
        refine wr_iinc C (v := nI (q + 3 + 3 + 3)) (vs' := [(3, .int (nI (q + 3 + 3 + 3))), (0, .ref (Γ.2.2 0)), (1, .ref (Γ.2.2 (35 + t))), (2, .int (nI q))]) 0 dW_finishAt_37 rfl (wc_inc3 (q + 3 + 3)) (by decide) rfl ?_
        refine wr_goto C (tgt := 2) dW_finishAt_40 (by decide) ?_
        refine wr_iload_n C 0 dW_finishAt_2 rfl rfl ?_
        refine wr_bipush C (v := nI 9) dW_finishAt_3 (by decide) ?_
        refine wr_icmp_ge C (tgt := 43) dW_finishAt_5 (by decide) (fun _ => ?_) (fun h21 => absurd (wc_yesge (by omega) (by omega) (by omega)) h21)
        refine wr_aload_n C 2 dW_finishAt_43 rfl rfl ?_
        refine wr_iload_n C 3 dW_finishAt_44 rfl rfl ?_
        refine wr_callV0 C (As := [.int (nI q)]) (rest := []) (mc_unlockAt l Γ σ24 μ (t := t) (q := q) (by omega) (by omega)) cb_T_unlockAt (Or.inr ⟨_, tw_282⟩) tw_196 tw_535 (by omega) (wc_c_Tx (by omega)) rfl (by decide) (by decide) rfl rfl (Nat.le_of_ble_eq_true rfl) ⟨Nat.le_refl _, Nat.le_refl _⟩ dW_finishAt_45 ?_
        generalize hs25 : fc_unlock σ24 t q = σ25
        refine wr_aload_n C 2 dW_finishAt_48 rfl rfl ?_
        refine wf_Tx_marks C (by omega) (Or.inr ⟨_, tw_84⟩) dW_finishAt_49 ?_
        refine wr_iload_n C 3 dW_finishAt_52 rfl rfl ?_
        refine wr_iconst C (v := nI 0) dW_finishAt_53 (by decide) ?_
        refine ws_marks C (by omega) (by omega) dW_finishAt_54 ?_
        generalize hs26 : wc_st σ25 17 t q (nI 0) = σ26
        refine wr_aload_n C 1 dW_finishAt_55 rfl rfl ?_
        refine wf_WC_sites C  (Or.inl tw_119) dW_finishAt_56 ?_
        refine wr_iload_n C 3 dW_finishAt_59 rfl rfl ?_
        refine wa_sites C (by omega) dW_finishAt_60 ?_
        refine wr_aload_n C 2 dW_finishAt_61 rfl rfl ?_
        refine wf_Tx_stamp C (by omega) (Or.inr ⟨_, tw_76⟩) dW_finishAt_62 ?_
        refine wr_callV0 C (As := [.int (σ26 13 t 0)]) (rest := []) (mc_raiseBound l Γ σ26 μ (q := q) (by omega) (σ26 13 t 0)) cb_S_raiseBound (Or.inr ⟨_, tw_242⟩) tw_243 tw_544 (by omega) (wc_c_Site (by omega)) rfl (by decide) (by decide) rfl rfl (Nat.le_of_ble_eq_true rfl) ⟨Nat.le_refl _, Nat.le_refl _⟩ dW_finishAt_65 ?_
        generalize hs27 : fc_raise σ26 q (σ26 13 t 0) = σ27
        exact wr_vret C hr hlk dW_finishAt_68 rfl (by first | rfl | (subst_vars; simp [fc_finish, fc_fin1, *]; done)) (by first | rfl | (subst_vars; simp [fc_finish, fc_fin1, *]; done))
      ·
        refine wr_aload_n C 1 dW_finishAt_18 rfl rfl ?_
        refine wf_WC_keys C  (Or.inl tw_120) dW_finishAt_19 ?_
        refine wr_iload_n C 0 dW_finishAt_22 rfl rfl ?_
        refine wa_keys C (by omega) dW_finishAt_23 ?_
        refine wr_aload_n C 2 dW_finishAt_24 rfl rfl ?_
        refine wf_Tx_written C (by omega) (Or.inr ⟨_, tw_82⟩) dW_finishAt_25 ?_
        refine wr_iload_n C 0 dW_finishAt_28 rfl rfl ?_
        refine wa_written C (by omega) (by omega) dW_finishAt_29 ?_
        refine wr_aload_n C 2 dW_finishAt_30 rfl rfl ?_
        refine wf_Tx_stamp C (by omega) (Or.inr ⟨_, tw_76⟩) dW_finishAt_31 ?_
        refine wr_callV0 C (As := [.int (σ24 16 t (q + 3 + 3)), .int (σ24 13 t 0)]) (rest := []) (mc_add l Γ σ24 μ (k := q + 3 + 3) (by omega) (σ24 16 t (q + 3 + 3)) (σ24 13 t 0)) cb_K_add (Or.inr ⟨_, tw_278⟩) tw_279 tw_554 (by omega) (wc_c_Key (by omega)) rfl (by decide) (by decide) rfl rfl (Nat.le_of_ble_eq_true rfl) ⟨Nat.le_refl _, Nat.le_refl _⟩ dW_finishAt_34 ?_
        generalize hs28 : fc_add σ24 (q + 3 + 3) (σ24 16 t (q + 3 + 3)) (σ24 13 t 0) = σ28
        refine wr_iinc C (v := nI (q + 3 + 3 + 3)) (vs' := [(3, .int (nI (q + 3 + 3 + 3))), (0, .ref (Γ.2.2 0)), (1, .ref (Γ.2.2 (35 + t))), (2, .int (nI q))]) 0 dW_finishAt_37 rfl (wc_inc3 (q + 3 + 3)) (by decide) rfl ?_
        refine wr_goto C (tgt := 2) dW_finishAt_40 (by decide) ?_
        refine wr_iload_n C 0 dW_finishAt_2 rfl rfl ?_
        refine wr_bipush C (v := nI 9) dW_finishAt_3 (by decide) ?_
        refine wr_icmp_ge C (tgt := 43) dW_finishAt_5 (by decide) (fun _ => ?_) (fun h22 => absurd (wc_yesge (by omega) (by omega) (by omega)) h22)
        refine wr_aload_n C 2 dW_finishAt_43 rfl rfl ?_
        refine wr_iload_n C 3 dW_finishAt_44 rfl rfl ?_
        refine wr_callV0 C (As := [.int (nI q)]) (rest := []) (mc_unlockAt l Γ σ28 μ (t := t) (q := q) (by omega) (by omega)) cb_T_unlockAt (Or.inr ⟨_, tw_282⟩) tw_196 tw_535 (by omega) (wc_c_Tx (by omega)) rfl (by decide) (by decide) rfl rfl (Nat.le_of_ble_eq_true rfl) ⟨Nat.le_refl _, Nat.le_refl _⟩ dW_finishAt_45 ?_
        generalize hs29 : fc_unlock σ28 t q = σ29
        refine wr_aload_n C 2 dW_finishAt_48 rfl rfl ?_
        refine wf_Tx_marks C (by omega) (Or.inr ⟨_, tw_84⟩) dW_finishAt_49 ?_
        refine wr_iload_n C 3 dW_finishAt_52 rfl rfl ?_
        refine wr_iconst C (v := nI 0) dW_finishAt_53 (by decide) ?_
        refine ws_marks C (by omega) (by omega) dW_finishAt_54 ?_
        generalize hs30 : wc_st σ29 17 t q (nI 0) = σ30
        refine wr_aload_n C 1 dW_finishAt_55 rfl rfl ?_
        refine wf_WC_sites C  (Or.inl tw_119) dW_finishAt_56 ?_
        refine wr_iload_n C 3 dW_finishAt_59 rfl rfl ?_
        refine wa_sites C (by omega) dW_finishAt_60 ?_
        refine wr_aload_n C 2 dW_finishAt_61 rfl rfl ?_
        refine wf_Tx_stamp C (by omega) (Or.inr ⟨_, tw_76⟩) dW_finishAt_62 ?_
        refine wr_callV0 C (As := [.int (σ30 13 t 0)]) (rest := []) (mc_raiseBound l Γ σ30 μ (q := q) (by omega) (σ30 13 t 0)) cb_S_raiseBound (Or.inr ⟨_, tw_242⟩) tw_243 tw_544 (by omega) (wc_c_Site (by omega)) rfl (by decide) (by decide) rfl rfl (Nat.le_of_ble_eq_true rfl) ⟨Nat.le_refl _, Nat.le_refl _⟩ dW_finishAt_65 ?_
        generalize hs31 : fc_raise σ30 q (σ30 13 t 0) = σ31
        exact wr_vret C hr hlk dW_finishAt_68 rfl (by first | rfl | (subst_vars; simp [fc_finish, fc_fin1, *]; done)) (by first | rfl | (subst_vars; simp [fc_finish, fc_fin1, *]; done))
set_option maxRecDepth 100000 in
set_option maxHeartbeats 4000000 in
theorem mc_deal (l : Launch) (Γ : wc_G) (σ μ : wc_St) {t q c : Nat} (ht : t < 5) (hq : q < 3) (hc3 : c < 3) (hc : σ 10 t 0 = nI c) : wc_M l yW_dealWith cW_dealWith 3 none 4 Γ [.ref (Γ.2.2 0), .ref (Γ.2.2 (55 + (t * 3 + q)))] σ μ none (fc_deal σ t q c) μ := by
  refine wc_enter "WaitedCommits" (by decide) rfl (Nat.le_of_ble_eq_true rfl) ?_
  intro P0 E0 S0 M0 A0 B0 T0 K0 C hr hlk
  refine wr_vs (vs' := [(0, .ref (Γ.2.2 0)), (1, .ref (Γ.2.2 (55 + (t * 3 + q))))]) rfl ?_
  refine wr_aload_n C 1 dW_dealWith_0 rfl rfl ?_
  refine wf_Msg_kind C (by omega) (Or.inr ⟨_, tw_105⟩) dW_dealWith_1 ?_
  refine wr_istore_n C (vs' := [(2, .int (σ 18 (t * 3 + q) 0)), (0, .ref (Γ.2.2 0)), (1, .ref (Γ.2.2 (55 + (t * 3 + q))))]) dW_dealWith_4 rfl (by decide) rfl ?_
  refine wr_aload_n C 2 dW_dealWith_5 rfl rfl ?_
  refine wr_iconst C (v := nI 0) dW_dealWith_6 (by decide) ?_
  refine wp_Msg_kind C (by omega) (Or.inr ⟨_, tw_105⟩) dW_dealWith_7 ?_
  generalize hs1 : wc_st σ 18 (t * 3 + q) 0 (nI 0) = σ1
  refine wr_aload_n C 1 dW_dealWith_10 rfl rfl ?_
  refine wr_dup C dW_dealWith_11 rfl ?_
  refine wf_WC_underWay C  (Or.inl tw_126) dW_dealWith_12 ?_
  refine wr_iconst C (v := nI 1) dW_dealWith_15 (by decide) ?_
  refine wr_isub C (z := (σ1 26 0 0) - (nI 1)) dW_dealWith_16 rfl ?_
  refine wp_WC_underWay C  (Or.inl tw_126) dW_dealWith_17 ?_
  generalize hs2 : wc_st σ1 26 0 0 ((σ1 26 0 0) - (nI 1)) = σ2
  refine wr_iload_n C 0 dW_dealWith_20 rfl rfl ?_
  refine wr_iconst C (v := nI 1) dW_dealWith_21 (by decide) ?_
  refine wr_icmp_ne C (tgt := 40) dW_dealWith_22 (by decide) (fun h1 => ?_) (fun h1 => ?_)
  ·
    refine wr_iload_n C 0 dW_dealWith_40 rfl rfl ?_
    refine wr_iconst C (v := nI 2) dW_dealWith_41 (by decide) ?_
    refine wr_icmp_ne C (tgt := 61) dW_dealWith_42 (by decide) (fun h2 => ?_) (fun h2 => ?_)
    ·
      refine wr_aload_n C 1 dW_dealWith_61 rfl rfl ?_
      refine wr_aload_n C 1 dW_dealWith_62 rfl rfl ?_
      refine wf_WC_transactions C  (Or.inl tw_121) dW_dealWith_63 ?_
      refine wr_aload_n C 2 dW_dealWith_66 rfl rfl ?_
      refine wf_Msg_transaction C (by omega) (Or.inr ⟨_, tw_101⟩) dW_dealWith_67 ?_
      refine wr_top (show nI ((t * 3 + q) / 3) = nI t by rw [show (t * 3 + q) / 3 = t by omega]) ?_
      refine wa_txs C (by omega) dW_dealWith_70 ?_
      refine wr_aload_n C 2 dW_dealWith_71 rfl rfl ?_
      refine wf_Msg_participant C (by omega) (Or.inr ⟨_, tw_103⟩) dW_dealWith_72 ?_
      refine wr_top (show nI ((t * 3 + q) % 3) = nI q by rw [show (t * 3 + q) % 3 = q by omega]) ?_
      refine wr_callV0 C (As := [.ref (Γ.2.2 (35 + t)), .int (nI q)]) (rest := []) (mc_finishAt l Γ σ2 μ (t := t) (q := q) (by omega) (by omega)) cb_W_finishAt (Or.inl tw_275) tw_276 tw_553 (by omega) (wc_c_WC) rfl (by decide) (by decide) rfl rfl (Nat.le_of_ble_eq_true rfl) ⟨Nat.le_refl _, Nat.le_refl _⟩ dW_dealWith_75 ?_
      generalize hs3 : fc_finish σ2 t q = σ3
      exact wr_vret C hr hlk dW_dealWith_78 rfl (by first | rfl | (subst_vars; simp [fc_deal, fc_deal0, wc_nIe, *]; done)) (by first | rfl | (subst_vars; simp [fc_deal, fc_deal0, wc_nIe, *]; done))
    ·
      refine wr_aload_n C 1 dW_dealWith_45 rfl rfl ?_
      refine wr_aload_n C 1 dW_dealWith_46 rfl rfl ?_
      refine wf_WC_transactions C  (Or.inl tw_121) dW_dealWith_47 ?_
      refine wr_aload_n C 2 dW_dealWith_50 rfl rfl ?_
      refine wf_Msg_transaction C (by omega) (Or.inr ⟨_, tw_101⟩) dW_dealWith_51 ?_
      refine wr_top (show nI ((t * 3 + q) / 3) = nI t by rw [show (t * 3 + q) / 3 = t by omega]) ?_
      refine wa_txs C (by omega) dW_dealWith_54 ?_
      refine wr_callV0 C (As := [.ref (Γ.2.2 (35 + t))]) (rest := []) (mc_takePrepared l Γ σ2 μ (t := t) (c := c) (by omega) (by omega) (by subst_vars; first | exact hc | (simpa [wc_st, fc_sto_crd, fc_finish_crd, fc_send_crd] using hc))) cb_W_takePrepared (Or.inl tw_272) tw_273 tw_552 (by omega) (wc_c_WC) rfl (by decide) (by decide) rfl rfl (Nat.le_of_ble_eq_true rfl) ⟨Nat.le_refl _, Nat.le_refl _⟩ dW_dealWith_55 ?_
      generalize hs4 : fc_takePrepared σ2 t c = σ4
      refine wr_goto C (tgt := 78) dW_dealWith_58 (by decide) ?_
      exact wr_vret C hr hlk dW_dealWith_78 rfl (by first | rfl | (subst_vars; simp [fc_deal, fc_deal0, wc_nIe, *]; done)) (by first | rfl | (subst_vars; simp [fc_deal, fc_deal0, wc_nIe, *]; done))
  ·
    refine wr_aload_n C 1 dW_dealWith_25 rfl rfl ?_
    refine wr_aload_n C 2 dW_dealWith_26 rfl rfl ?_
    refine wf_Msg_transaction C (by omega) (Or.inr ⟨_, tw_101⟩) dW_dealWith_27 ?_
    refine wr_top (show nI ((t * 3 + q) / 3) = nI t by rw [show (t * 3 + q) / 3 = t by omega]) ?_
    refine wr_aload_n C 2 dW_dealWith_30 rfl rfl ?_
    refine wf_Msg_participant C (by omega) (Or.inr ⟨_, tw_103⟩) dW_dealWith_31 ?_
    refine wr_top (show nI ((t * 3 + q) % 3) = nI q by rw [show (t * 3 + q) % 3 = q by omega]) ?_
    refine wr_callV0 C (As := [.int (nI t), .int (nI q)]) (rest := []) (mc_takePrepare l Γ σ2 μ (t := t) (q := q) (c := c) (by omega) (by omega) (by omega) (by subst_vars; first | exact hc | (simpa [wc_st, fc_sto_crd, fc_finish_crd, fc_send_crd] using hc))) cb_W_takePrepare (Or.inl tw_269) tw_270 tw_551 (by omega) (wc_c_WC) rfl (by decide) (by decide) rfl rfl (Nat.le_of_ble_eq_true rfl) ⟨Nat.le_refl _, Nat.le_refl _⟩ dW_dealWith_34 ?_
    generalize hs5 : fc_takePrepare σ2 t q c = σ5
    refine wr_goto C (tgt := 78) dW_dealWith_37 (by decide) ?_
    exact wr_vret C hr hlk dW_dealWith_78 rfl (by first | rfl | (subst_vars; simp [fc_deal, fc_deal0, wc_nIe, *]; done)) (by first | rfl | (subst_vars; simp [fc_deal, fc_deal0, wc_nIe, *]; done))
set_option maxRecDepth 100000 in
set_option maxHeartbeats 4000000 in
theorem mc_mayEnd (l : Launch) (Γ : wc_G) (σ μ : wc_St) {t c : Nat} (ht : t < 5) (hc3 : c < 3) (hc : σ 10 t 0 = nI c) : wc_M l yW_mayEnd cW_mayEnd 2 (some .boolean) 1 Γ [.ref (Γ.2.2 0), .ref (Γ.2.2 (35 + t))] σ μ (some (.int (fc_mayEnd σ t))) (σ) μ := by
  refine wc_enter "WaitedCommits" (by decide) rfl (Nat.le_of_ble_eq_true rfl) ?_
  intro P0 E0 S0 M0 A0 B0 T0 K0 C hr hlk
  refine wr_vs (vs' := [(0, .ref (Γ.2.2 0)), (1, .ref (Γ.2.2 (35 + t)))]) rfl ?_
  refine wr_aload_n C 1 dW_mayEnd_0 rfl rfl ?_
  refine wf_Tx_state C (by omega) (Or.inr ⟨_, tw_66⟩) dW_mayEnd_1 ?_
  refine wr_iconst C (v := nI 3) dW_mayEnd_4 (by decide) ?_
  refine wr_icmp_ne C (tgt := 42) dW_mayEnd_5 (by decide) (fun h1 => ?_) (fun h1 => ?_)
  ·
    refine wr_iconst C (v := nI 0) dW_mayEnd_42 (by decide) ?_
    exact wr_iret C hr rfl hlk dW_mayEnd_43 (by first | (simp [fc_mayEnd, fc_crd_eq hc hc3, *]; done) | (simp_all [fc_mayEnd, fc_crd_eq hc hc3]; done)) (by rfl) (by rfl)
  ·
    refine wr_aload_n C 0 dW_mayEnd_8 rfl rfl ?_
    refine wf_WC_sites C  (Or.inl tw_119) dW_mayEnd_9 ?_
    refine wr_aload_n C 1 dW_mayEnd_12 rfl rfl ?_
    refine wf_Tx_coordinator C (by omega) (Or.inr ⟨_, tw_70⟩) dW_mayEnd_13 ?_
    refine wr_top (show σ 10 t 0 = nI c by subst_vars; first | exact hc | (simpa [wc_st, fc_sto_crd, fc_finish_crd, fc_send_crd] using hc)) ?_
    refine wa_sites C (by omega) dW_mayEnd_16 ?_
    refine wf_Site_isUp C (by omega) (Or.inr ⟨_, tw_38⟩) dW_mayEnd_17 ?_
    refine wr_if_eq C (tgt := 42) dW_mayEnd_20 (by decide) (fun h2 => ?_) (fun h2 => ?_)
    ·
      refine wr_iconst C (v := nI 0) dW_mayEnd_42 (by decide) ?_
      exact wr_iret C hr rfl hlk dW_mayEnd_43 (by first | (simp [fc_mayEnd, fc_crd_eq hc hc3, *]; done) | (simp_all [fc_mayEnd, fc_crd_eq hc hc3]; done)) (by rfl) (by rfl)
    ·
      refine wr_aload_n C 0 dW_mayEnd_23 rfl rfl ?_
      refine wr_aload_n C 1 dW_mayEnd_24 rfl rfl ?_
      refine wf_Tx_coordinator C (by omega) (Or.inr ⟨_, tw_70⟩) dW_mayEnd_25 ?_
      refine wr_top (show σ 10 t 0 = nI c by subst_vars; first | exact hc | (simpa [wc_st, fc_sto_crd, fc_finish_crd, fc_send_crd] using hc)) ?_
      refine wr_callV1 C (As := [.int (nI c)]) (rest := []) (mc_earliest l Γ σ μ (q := c) (by omega)) cb_W_earliest (Or.inl tw_289) tw_290 tw_557 (by omega) (wc_c_WC) rfl (by decide) (by decide) rfl rfl (Nat.le_of_ble_eq_true rfl) ⟨Nat.le_refl _, Nat.le_refl _⟩ dW_mayEnd_28 ?_
      refine wr_aload_n C 1 dW_mayEnd_31 rfl rfl ?_
      refine wf_Tx_stamp C (by omega) (Or.inr ⟨_, tw_76⟩) dW_mayEnd_32 ?_
      refine wr_icmp_le C (tgt := 42) dW_mayEnd_35 (by decide) (fun h3 => ?_) (fun h3 => ?_)
      ·
        refine wr_iconst C (v := nI 0) dW_mayEnd_42 (by decide) ?_
        exact wr_iret C hr rfl hlk dW_mayEnd_43 (by first | (simp [fc_mayEnd, fc_crd_eq hc hc3, *]; done) | (simp_all [fc_mayEnd, fc_crd_eq hc hc3]; done)) (by rfl) (by rfl)
      ·
        refine wr_iconst C (v := nI 1) dW_mayEnd_38 (by decide) ?_
        refine wr_goto C (tgt := 43) dW_mayEnd_39 (by decide) ?_
        exact wr_iret C hr rfl hlk dW_mayEnd_43 (by first | (simp [fc_mayEnd, fc_crd_eq hc hc3, *]; done) | (simp_all [fc_mayEnd, fc_crd_eq hc hc3]; done)) (by rfl) (by rfl)
set_option maxRecDepth 100000 in
set_option maxHeartbeats 4000000 in
theorem mc_endOne (l : Launch) (Γ : wc_G) (σ μ : wc_St) {t c : Nat} (ht : t < 5) (hc3 : c < 3) (hc : σ 10 t 0 = nI c) : wc_M l yW_endOne cW_endOne 3 none 3 Γ [.ref (Γ.2.2 0), .int (nI t)] σ μ none (fc_endOne σ t c) μ := by
  refine wc_enter "WaitedCommits" (by decide) rfl (Nat.le_of_ble_eq_true rfl) ?_
  intro P0 E0 S0 M0 A0 B0 T0 K0 C hr hlk
  refine wr_vs (vs' := [(0, .ref (Γ.2.2 0)), (1, .int (nI t))]) rfl ?_
  refine wr_aload_n C 0 dW_endOne_0 rfl rfl ?_
  refine wf_WC_transactions C  (Or.inl tw_121) dW_endOne_1 ?_
  refine wr_iload_n C 1 dW_endOne_4 rfl rfl ?_
  refine wa_txs C (by omega) dW_endOne_5 ?_
  refine wr_astore_n C (vs' := [(2, .ref (Γ.2.2 (35 + t))), (0, .ref (Γ.2.2 0)), (1, .int (nI t))]) dW_endOne_6 rfl (by decide) rfl ?_
  refine wr_aload_n C 0 dW_endOne_7 rfl rfl ?_
  refine wr_iconst C (v := nI 4) dW_endOne_8 (by decide) ?_
  refine wp_Tx_state C (by omega) (Or.inr ⟨_, tw_66⟩) dW_endOne_9 ?_
  generalize hs1 : wc_st σ 8 t 0 (nI 4) = σ1
  refine wr_aload_n C 0 dW_endOne_12 rfl rfl ?_
  refine wr_aload_n C 1 dW_endOne_13 rfl rfl ?_
  refine wf_WC_time C  (Or.inl tw_123) dW_endOne_14 ?_
  refine wp_Tx_end C (by omega) (Or.inr ⟨_, tw_78⟩) dW_endOne_17 ?_
  generalize hs2 : wc_st σ1 14 t 0 (σ1 23 0 0) = σ2
  refine wr_aload_n C 1 dW_endOne_20 rfl rfl ?_
  refine wr_aload_n C 0 dW_endOne_21 rfl rfl ?_
  refine wr_aload_n C 0 dW_endOne_22 rfl rfl ?_
  refine wf_Tx_coordinator C (by omega) (Or.inr ⟨_, tw_70⟩) dW_endOne_23 ?_
  refine wr_top (show σ2 10 t 0 = nI c by subst_vars; first | exact hc | (simpa [wc_st, fc_sto_crd, fc_finish_crd, fc_send_crd] using hc)) ?_
  refine wr_callV0 C (As := [.ref (Γ.2.2 (35 + t)), .int (nI c)]) (rest := []) (mc_finishAt l Γ σ2 μ (t := t) (q := c) (by omega) (by omega)) cb_W_finishAt (Or.inl tw_275) tw_276 tw_553 (by omega) (wc_c_WC) rfl (by decide) (by decide) rfl rfl (Nat.le_of_ble_eq_true rfl) ⟨Nat.le_refl _, Nat.le_refl _⟩ dW_endOne_26 ?_
  generalize hs3 : fc_finish σ2 t c = σ3
  refine wr_aload_n C 1 dW_endOne_29 rfl rfl ?_
  refine wr_iconst C (v := nI 3) dW_endOne_30 (by decide) ?_
  refine wr_iload_n C 2 dW_endOne_31 rfl rfl ?_
  refine wr_callV1 C (As := [.int (nI 3), .int (nI t)]) (rest := []) (mc_sto l Γ σ3 μ (nI 3) (t := t) (c := c) (by omega) (by omega) (by subst_vars; first | exact hc | (simpa [wc_st, fc_sto_crd, fc_finish_crd, fc_send_crd] using hc))) cb_W_sendToOthers (Or.inl tw_213) tw_214 tw_538 (by omega) (wc_c_WC) rfl (by decide) (by decide) rfl rfl (Nat.le_of_ble_eq_true rfl) ⟨Nat.le_refl _, Nat.le_refl _⟩ dW_endOne_32 ?_
  generalize hs4 : (fc_sto (nI 3) t c 3 0 0 σ3).2 = σ4
  refine wr_pop C dW_endOne_35 rfl ?_
  exact wr_vret C hr hlk dW_endOne_36 rfl (by subst_vars; rfl) (by subst_vars; rfl)
set_option maxRecDepth 100000 in
set_option maxHeartbeats 4000000 in
theorem ml_ends {P0 : Program} {l : Launch} {E0 : Env} {S0 : State} {M0 : MethodId} {A0 : Array Value} {B0 : List Frame} {T0 : Method} {K0 : Code} {Γ : wc_G} {A : Nat → Prop} {v : Option Value} {σ' μ' : wc_St} (C : wc_C P0 S0 M0 A0 K0 cW_endWaiting 3 "WaitedCommits" Γ A) (hr : T0.sig.returnType = (some .int)) (hlk : T0.locks = false) (μ : wc_St) (hμ : μ = μ') (r1 : Nat) (hv : some (.int (nI r1)) = v) : ∀ (n : Nat) (t a : Nat) (σ : wc_St), t + n = 5 → wc_wf σ → fc_ends n t a σ = (r1, σ') → wc_K P0 l E0 (wc_rm 4) S0 M0 A0 B0 T0 K0 3 Γ A (MQ B0 (wc_Qw Γ A v σ' μ') A0 S0 0 0 A) 0 0 4 [(2, .int (nI t)), (1, .int (nI a)), (0, .ref (Γ.2.2 0))] [] σ μ := by
  subst hμ
  intro n
  induction n with
  | zero =>
    intro t a σ ht hw hres
    obtain rfl : t = 5 := by omega
    refine wr_iload_n C 0 dW_endWaiting_4 rfl rfl ?_
    refine wr_iconst C (v := nI 5) dW_endWaiting_5 (by decide) ?_
    refine wr_icmp_ge C (tgt := 36) dW_endWaiting_6 (by decide) (fun _ => ?_) (fun h1 => absurd (by decide) h1)
    refine wr_iload_n C 1 dW_endWaiting_36 rfl rfl ?_
    exact wr_iret C hr rfl hlk dW_endWaiting_37 (by rw [← hv, (Prod.mk.inj (show (a, σ) = (r1, σ') from hres)).1]) (by first | rfl | exact (Prod.mk.inj (show (a, σ) = (r1, σ') from hres)).2) (by first | rfl | exact (Prod.mk.inj (show (a, σ) = (r1, σ') from hres)).2)
  | succ n ih =>
    intro t a σ ht hw hres
    refine wr_iload_n C 0 dW_endWaiting_4 rfl rfl ?_
    refine wr_iconst C (v := nI 5) dW_endWaiting_5 (by decide) ?_
    refine wr_icmp_ge C (tgt := 36) dW_endWaiting_6 (by decide) (fun h1 => absurd h1 (wc_noge (by omega) (by omega) (by omega))) (fun _ => ?_)
    obtain ⟨c, hc3, hc⟩ := hw.1 t (by omega)
    refine wr_aload_n C 2 dW_endWaiting_9 rfl rfl ?_
    refine wr_aload_n C 2 dW_endWaiting_10 rfl rfl ?_
    refine wf_WC_transactions C  (Or.inl tw_121) dW_endWaiting_11 ?_
    refine wr_iload_n C 0 dW_endWaiting_14 rfl rfl ?_
    refine wa_txs C (by omega) dW_endWaiting_15 ?_
    refine wr_callV1 C (As := [.ref (Γ.2.2 (35 + t))]) (rest := []) (mc_mayEnd l Γ σ μ (t := t) (c := c) (by omega) (by omega) (by exact hc)) cb_W_mayEnd (Or.inl tw_286) tw_287 tw_556 (by omega) (wc_c_WC) rfl (by decide) (by decide) rfl rfl (Nat.le_of_ble_eq_true rfl) ⟨Nat.le_refl _, Nat.le_refl _⟩ dW_endWaiting_16 ?_
    refine wr_if_eq C (tgt := 30) dW_endWaiting_19 (by decide) (fun h2 => ?_) (fun h2 => ?_)
    ·
      refine wr_iinc C (v := nI (t + 1)) (vs' := [(2, .int (nI (t + 1))), (1, .int (nI a)), (0, .ref (Γ.2.2 0))]) 0 dW_endWaiting_30 rfl (wc_inc1 t) (by decide) rfl ?_
      refine wr_goto C (tgt := 4) dW_endWaiting_33 (by decide) ?_
      refine wr_sub [0, 1, 2] rfl ?_
      exact ih (t + 1) (a) σ (by omega) (by subst_vars; first | exact hw | exact wf_endOne hw hc3) (by rw [← hres]; simp [fc_ends, fc_crd_eq hc hc3, *])
    ·
      refine wr_aload_n C 2 dW_endWaiting_22 rfl rfl ?_
      refine wr_iload_n C 0 dW_endWaiting_23 rfl rfl ?_
      refine wr_callV0 C (As := [.int (nI t)]) (rest := []) (mc_endOne l Γ σ μ (t := t) (c := c) (by omega) (by omega) (by exact hc)) cb_W_endOne (Or.inl tw_292) tw_293 tw_558 (by omega) (wc_c_WC) rfl (by decide) (by decide) rfl rfl (Nat.le_of_ble_eq_true rfl) ⟨Nat.le_refl _, Nat.le_refl _⟩ dW_endWaiting_24 ?_
      generalize hs1 : fc_endOne σ t c = σ1
      refine wr_iinc C (v := nI (a + 1)) (vs' := [(1, .int (nI (a + 1))), (2, .int (nI t)), (0, .ref (Γ.2.2 0))]) 1 dW_endWaiting_27 rfl (wc_inc1 a) (by decide) rfl ?_
      refine wr_iinc C (v := nI (t + 1)) (vs' := [(2, .int (nI (t + 1))), (1, .int (nI (a + 1))), (0, .ref (Γ.2.2 0))]) 1 dW_endWaiting_30 rfl (wc_inc1 t) (by decide) rfl ?_
      refine wr_goto C (tgt := 4) dW_endWaiting_33 (by decide) ?_
      refine wr_sub [0, 1, 2] rfl ?_
      exact ih (t + 1) (a + 1) σ1 (by omega) (by subst_vars; first | exact hw | exact wf_endOne hw hc3) (by rw [← hres]; simp [fc_ends, fc_crd_eq hc hc3, *])
set_option maxRecDepth 100000 in
set_option maxHeartbeats 4000000 in
theorem mc_ends (l : Launch) (Γ : wc_G) (σ μ : wc_St) (hw : wc_wf σ) : wc_M l yW_endWaiting cW_endWaiting 3 (some .int) 4 Γ [.ref (Γ.2.2 0)] σ μ (some (.int (nI ((fc_ends 5 0 0 σ).1)))) ((fc_ends 5 0 0 σ).2) μ := by
  refine wc_enter "WaitedCommits" (by decide) rfl (Nat.le_of_ble_eq_true rfl) ?_
  intro P0 E0 S0 M0 A0 B0 T0 K0 C hr hlk
  refine wr_vs (vs' := [(0, .ref (Γ.2.2 0))]) rfl ?_
  refine wr_iconst C (v := nI 0) dW_endWaiting_0 (by decide) ?_
  refine wr_istore_n C (vs' := [(1, .int (nI 0)), (0, .ref (Γ.2.2 0))]) dW_endWaiting_1 rfl (by decide) rfl ?_
  refine wr_iconst C (v := nI 0) dW_endWaiting_2 (by decide) ?_
  refine wr_istore_n C (vs' := [(2, .int (nI 0)), (1, .int (nI 0)), (0, .ref (Γ.2.2 0))]) dW_endWaiting_3 rfl (by decide) rfl ?_
  refine wr_sub [0, 1, 2] rfl ?_
  exact ml_ends C hr hlk μ rfl _ rfl 5 0 0 σ rfl hw rfl
