set_option maxRecDepth 100000 in
set_option maxHeartbeats 4000000 in
theorem mc_isDue (l : Launch) (Γ : wc_G) (σ μ : wc_St) {i : Nat} (hi : i < 15) (hw : wc_wf σ) : wc_M l yW_isDue cW_isDue 2 (some .boolean) 0 Γ [.ref (Γ.2.2 0), .ref (Γ.2.2 (55 + i))] σ μ (some (.int (fc_isDue σ i))) (σ) μ := by
  refine wc_enter "WaitedCommits" (by decide) rfl (Nat.le_of_ble_eq_true rfl) ?_
  intro P0 E0 S0 M0 A0 B0 T0 K0 C hr hlk
  refine wr_vs (vs' := [(0, .ref (Γ.2.2 0)), (1, .ref (Γ.2.2 (55 + i)))]) rfl ?_
  refine wr_aload_n C 1 dW_isDue_0 rfl rfl ?_
  refine wf_Msg_kind C (by omega) (Or.inr ⟨_, tw_105⟩) dW_isDue_1 ?_
  refine wr_if_eq C (tgt := 37) dW_isDue_4 (by decide) (fun h1 => ?_) (fun h1 => ?_)
  ·
    refine wr_iconst C (v := nI 0) dW_isDue_37 (by decide) ?_
    exact wr_iret C hr rfl hlk dW_isDue_38 (by first | (simp [fc_isDue, *]; done) | (simp [fc_isDue, hrr, nI_clamp (show r < 2 ^ 31 by omega), *]; done) | (simp_all [fc_isDue, nI_clamp (show r < 2 ^ 31 by omega)]; done)) (by rfl) (by rfl)
  ·
    refine wr_aload_n C 1 dW_isDue_7 rfl rfl ?_
    refine wf_Msg_arrival C (by omega) (Or.inr ⟨_, tw_109⟩) dW_isDue_8 ?_
    refine wr_aload_n C 0 dW_isDue_11 rfl rfl ?_
    refine wf_WC_time C  (Or.inl tw_123) dW_isDue_12 ?_
    refine wr_icmp_gt C (tgt := 37) dW_isDue_15 (by decide) (fun h2 => ?_) (fun h2 => ?_)
    ·
      refine wr_iconst C (v := nI 0) dW_isDue_37 (by decide) ?_
      exact wr_iret C hr rfl hlk dW_isDue_38 (by first | (simp [fc_isDue, *]; done) | (simp [fc_isDue, hrr, nI_clamp (show r < 2 ^ 31 by omega), *]; done) | (simp_all [fc_isDue, nI_clamp (show r < 2 ^ 31 by omega)]; done)) (by rfl) (by rfl)
    ·
      refine wr_aload_n C 0 dW_isDue_18 rfl rfl ?_
      refine wf_WC_sites C  (Or.inl tw_119) dW_isDue_19 ?_
      refine wr_aload_n C 1 dW_isDue_22 rfl rfl ?_
      refine wf_Msg_receiver C (by omega) (Or.inr ⟨_, tw_107⟩) dW_isDue_23 ?_
      obtain ⟨r, hr3, hrr⟩ := hw.2.1 i hi
      refine wr_top hrr ?_
      refine wa_sites C (by omega) dW_isDue_26 ?_
      refine wf_Site_isUp C (by omega) (Or.inr ⟨_, tw_38⟩) dW_isDue_27 ?_
      refine wr_if_eq C (tgt := 37) dW_isDue_30 (by decide) (fun h3 => ?_) (fun h3 => ?_)
      ·
        refine wr_iconst C (v := nI 0) dW_isDue_37 (by decide) ?_
        exact wr_iret C hr rfl hlk dW_isDue_38 (by first | (simp [fc_isDue, *]; done) | (simp [fc_isDue, hrr, nI_clamp (show r < 2 ^ 31 by omega), *]; done) | (simp_all [fc_isDue, nI_clamp (show r < 2 ^ 31 by omega)]; done)) (by rfl) (by rfl)
      ·
        refine wr_iconst C (v := nI 1) dW_isDue_33 (by decide) ?_
        refine wr_goto C (tgt := 38) dW_isDue_34 (by decide) ?_
        exact wr_iret C hr rfl hlk dW_isDue_38 (by first | (simp [fc_isDue, *]; done) | (simp [fc_isDue, hrr, nI_clamp (show r < 2 ^ 31 by omega), *]; done) | (simp_all [fc_isDue, nI_clamp (show r < 2 ^ 31 by omega)]; done)) (by rfl) (by rfl)
set_option maxRecDepth 100000 in
set_option maxHeartbeats 4000000 in
theorem ml_first {P0 : Program} {l : Launch} {E0 : Env} {S0 : State} {M0 : MethodId} {A0 : Array Value} {B0 : List Frame} {T0 : Method} {K0 : Code} {Γ : wc_G} {A : Nat → Prop} {v : Option Value} {σ' μ' : wc_St} (C : wc_C P0 S0 M0 A0 K0 cW_firstDue 3 "WaitedCommits" Γ A) (hr : T0.sig.returnType = (some (.object "WaitedCommits$Message"))) (hlk : T0.locks = false) (σ μ : wc_St) (hσ : σ = σ') (hμ : μ = μ') (hw : wc_wf σ) : ∀ (n i : Nat) (a : Option Nat), i + n = 15 → (∀ j, a = some j → j < 15) → some (wc_rv Γ (fc_first σ n i a)) = v → wc_K P0 l E0 (wc_rm 1) S0 M0 A0 B0 T0 K0 3 Γ A (MQ B0 (wc_Qw Γ A v σ' μ') A0 S0 0 0 A) 0 0 4 [(2, .int (nI i)), (1, wc_rv Γ a), (0, .ref (Γ.2.2 0))] [] σ μ := by
  subst hσ; subst hμ
  intro n
  induction n with
  | zero =>
    intro i a hi ha hv
    obtain rfl : i = 15 := by omega
    rcases a with _ | j
    ·
      refine wr_vs (vs' := [(2, .int (nI 15)), (1, .null), (0, .ref (Γ.2.2 0))]) rfl ?_
      refine wr_iload_n C 0 dW_firstDue_4 rfl rfl ?_
      refine wr_aload_n C 2 dW_firstDue_5 rfl rfl ?_
      refine wf_WC_slots C  (Or.inl tw_122) dW_firstDue_6 ?_
      refine wn_slots C  dW_firstDue_9 ?_
      refine wr_icmp_ge C (tgt := 56) dW_firstDue_10 (by decide) (fun _ => ?_) (fun h1 => absurd (by decide) h1)
      refine wr_aload_nN C 1 dW_firstDue_56 rfl rfl ?_
      exact wr_aret C hr (Or.inl rfl) hlk dW_firstDue_57 (by rw [← hv]; rfl) (by rfl) (by rfl)
    ·
      have hj : j < 15 := ha j rfl
      refine wr_vs (vs' := [(2, .int (nI 15)), (1, .ref (Γ.2.2 (55 + j))), (0, .ref (Γ.2.2 0))]) rfl ?_
      refine wr_iload_n C 0 dW_firstDue_4 rfl rfl ?_
      refine wr_aload_n C 2 dW_firstDue_5 rfl rfl ?_
      refine wf_WC_slots C  (Or.inl tw_122) dW_firstDue_6 ?_
      refine wn_slots C  dW_firstDue_9 ?_
      refine wr_icmp_ge C (tgt := 56) dW_firstDue_10 (by decide) (fun _ => ?_) (fun h1 => absurd (by decide) h1)
      refine wr_aload_n C 1 dW_firstDue_56 rfl rfl ?_
      exact wr_aret C hr (Or.inr ⟨_, rfl⟩) hlk dW_firstDue_57 (by rw [← hv]; rfl) (by rfl) (by rfl)
  | succ n ih =>
    intro i a hi ha hv
    rcases a with _ | j
    ·
      refine wr_vs (vs' := [(2, .int (nI i)), (1, .null), (0, .ref (Γ.2.2 0))]) rfl ?_
      refine wr_iload_n C 0 dW_firstDue_4 rfl rfl ?_
      refine wr_aload_n C 2 dW_firstDue_5 rfl rfl ?_
      refine wf_WC_slots C  (Or.inl tw_122) dW_firstDue_6 ?_
      refine wn_slots C  dW_firstDue_9 ?_
      refine wr_icmp_ge C (tgt := 56) dW_firstDue_10 (by decide) (fun h1 => absurd h1 (wc_noge (by omega) (by omega) (by omega))) (fun _ => ?_)
      refine wr_aload_n C 2 dW_firstDue_13 rfl rfl ?_
      refine wr_aload_n C 2 dW_firstDue_14 rfl rfl ?_
      refine wf_WC_slots C  (Or.inl tw_122) dW_firstDue_15 ?_
      refine wr_iload_n C 0 dW_firstDue_18 rfl rfl ?_
      refine wa_slots C (by omega) dW_firstDue_19 ?_
      refine wr_callV1 C (As := [.ref (Γ.2.2 (55 + i))]) (rest := []) (mc_isDue l Γ σ μ (i := i) (by omega) (by exact hw)) cb_W_isDue (Or.inl tw_260) tw_261 tw_548 (by omega) (wc_c_WC) rfl (by decide) (by decide) rfl rfl (Nat.le_of_ble_eq_true rfl) ⟨Nat.le_refl _, Nat.le_refl _⟩ dW_firstDue_20 ?_
      refine wr_if_eq C (tgt := 50) dW_firstDue_23 (by decide) (fun h2 => ?_) (fun h2 => ?_)
      ·
        refine wr_iinc C (v := nI (i + 1)) (vs' := [(2, .int (nI (i + 1))), (1, .null), (0, .ref (Γ.2.2 0))]) 0 dW_firstDue_50 rfl (wc_inc1 i) (by decide) rfl ?_
        refine wr_goto C (tgt := 4) dW_firstDue_53 (by decide) ?_
        refine wr_sub [0, 1, 2] rfl ?_
        exact ih (i + 1) none (by omega) (fun j' hj' => by cases hj') (by rw [← hv]; simp [fc_first, *])
      ·
        refine wr_aload_nN C 1 dW_firstDue_26 rfl rfl ?_
        refine wr_ifnullN C (tgt := 43) dW_firstDue_27 (by decide) ?_
        refine wr_aload_n C 2 dW_firstDue_43 rfl rfl ?_
        refine wf_WC_slots C  (Or.inl tw_122) dW_firstDue_44 ?_
        refine wr_iload_n C 0 dW_firstDue_47 rfl rfl ?_
        refine wa_slots C (by omega) dW_firstDue_48 ?_
        refine wr_astore_n C (vs' := [(1, .ref (Γ.2.2 (55 + i))), (2, .int (nI i)), (0, .ref (Γ.2.2 0))]) dW_firstDue_49 rfl (by decide) rfl ?_
        refine wr_iinc C (v := nI (i + 1)) (vs' := [(2, .int (nI (i + 1))), (1, .ref (Γ.2.2 (55 + i))), (0, .ref (Γ.2.2 0))]) 1 dW_firstDue_50 rfl (wc_inc1 i) (by decide) rfl ?_
        refine wr_goto C (tgt := 4) dW_firstDue_53 (by decide) ?_
        refine wr_sub [0, 1, 2] rfl ?_
        exact ih (i + 1) (some i) (by omega) (fun j' hj' => by cases hj'; omega) (by rw [← hv]; simp [fc_first, *])
    ·
      have hj : j < 15 := ha j rfl
      refine wr_vs (vs' := [(2, .int (nI i)), (1, .ref (Γ.2.2 (55 + j))), (0, .ref (Γ.2.2 0))]) rfl ?_
      refine wr_iload_n C 0 dW_firstDue_4 rfl rfl ?_
      refine wr_aload_n C 2 dW_firstDue_5 rfl rfl ?_
      refine wf_WC_slots C  (Or.inl tw_122) dW_firstDue_6 ?_
      refine wn_slots C  dW_firstDue_9 ?_
      refine wr_icmp_ge C (tgt := 56) dW_firstDue_10 (by decide) (fun h1 => absurd h1 (wc_noge (by omega) (by omega) (by omega))) (fun _ => ?_)
      refine wr_aload_n C 2 dW_firstDue_13 rfl rfl ?_
      refine wr_aload_n C 2 dW_firstDue_14 rfl rfl ?_
      refine wf_WC_slots C  (Or.inl tw_122) dW_firstDue_15 ?_
      refine wr_iload_n C 0 dW_firstDue_18 rfl rfl ?_
      refine wa_slots C (by omega) dW_firstDue_19 ?_
      refine wr_callV1 C (As := [.ref (Γ.2.2 (55 + i))]) (rest := []) (mc_isDue l Γ σ μ (i := i) (by omega) (by exact hw)) cb_W_isDue (Or.inl tw_260) tw_261 tw_548 (by omega) (wc_c_WC) rfl (by decide) (by decide) rfl rfl (Nat.le_of_ble_eq_true rfl) ⟨Nat.le_refl _, Nat.le_refl _⟩ dW_firstDue_20 ?_
      refine wr_if_eq C (tgt := 50) dW_firstDue_23 (by decide) (fun h2 => ?_) (fun h2 => ?_)
      ·
        refine wr_iinc C (v := nI (i + 1)) (vs' := [(2, .int (nI (i + 1))), (1, .ref (Γ.2.2 (55 + j))), (0, .ref (Γ.2.2 0))]) 0 dW_firstDue_50 rfl (wc_inc1 i) (by decide) rfl ?_
        refine wr_goto C (tgt := 4) dW_firstDue_53 (by decide) ?_
        refine wr_sub [0, 1, 2] rfl ?_
        exact ih (i + 1) (some j) (by omega) (fun j' hj' => by cases hj'; omega) (by rw [← hv]; simp [fc_first, *])
      ·
        refine wr_aload_n C 1 dW_firstDue_26 rfl rfl ?_
        refine wr_ifnull C dW_firstDue_27 ?_
        refine wr_aload_n C 2 dW_firstDue_30 rfl rfl ?_
        refine wf_WC_slots C  (Or.inl tw_122) dW_firstDue_31 ?_
        refine wr_iload_n C 0 dW_firstDue_34 rfl rfl ?_
        refine wa_slots C (by omega) dW_firstDue_35 ?_
        refine wr_aload_n C 1 dW_firstDue_36 rfl rfl ?_
        refine wr_callV1 C (As := [.ref (Γ.2.2 (55 + j))]) (rest := []) (mc_before l Γ σ μ (i := i) (j := j) (by omega) (by omega)) cb_G_comesBefore (Or.inr ⟨_, tw_263⟩) tw_264 tw_549 (by omega) (wc_c_Msg (by omega)) rfl (by decide) (by decide) rfl rfl (Nat.le_of_ble_eq_true rfl) ⟨Nat.le_refl _, Nat.le_refl _⟩ dW_firstDue_37 ?_
        refine wr_if_eq C (tgt := 50) dW_firstDue_40 (by decide) (fun h3 => ?_) (fun h3 => ?_)
        ·
          refine wr_iinc C (v := nI (i + 1)) (vs' := [(2, .int (nI (i + 1))), (1, .ref (Γ.2.2 (55 + j))), (0, .ref (Γ.2.2 0))]) 0 dW_firstDue_50 rfl (wc_inc1 i) (by decide) rfl ?_
          refine wr_goto C (tgt := 4) dW_firstDue_53 (by decide) ?_
          refine wr_sub [0, 1, 2] rfl ?_
          exact ih (i + 1) (some j) (by omega) (fun j' hj' => by cases hj'; omega) (by rw [← hv]; simp [fc_first, *])
        ·
          refine wr_aload_n C 2 dW_firstDue_43 rfl rfl ?_
          refine wf_WC_slots C  (Or.inl tw_122) dW_firstDue_44 ?_
          refine wr_iload_n C 0 dW_firstDue_47 rfl rfl ?_
          refine wa_slots C (by omega) dW_firstDue_48 ?_
          refine wr_astore_n C (vs' := [(1, .ref (Γ.2.2 (55 + i))), (2, .int (nI i)), (0, .ref (Γ.2.2 0))]) dW_firstDue_49 rfl (by decide) rfl ?_
          refine wr_iinc C (v := nI (i + 1)) (vs' := [(2, .int (nI (i + 1))), (1, .ref (Γ.2.2 (55 + i))), (0, .ref (Γ.2.2 0))]) 1 dW_firstDue_50 rfl (wc_inc1 i) (by decide) rfl ?_
          refine wr_goto C (tgt := 4) dW_firstDue_53 (by decide) ?_
          refine wr_sub [0, 1, 2] rfl ?_
          exact ih (i + 1) (some i) (by omega) (fun j' hj' => by cases hj'; omega) (by rw [← hv]; simp [fc_first, *])
set_option maxRecDepth 100000 in
set_option maxHeartbeats 4000000 in
theorem mc_first (l : Launch) (Γ : wc_G) (σ μ : wc_St) (hw : wc_wf σ) : wc_M l yW_firstDue cW_firstDue 3 (some (.object "WaitedCommits$Message")) 1 Γ [.ref (Γ.2.2 0)] σ μ (some (wc_rv Γ (fc_first σ 15 0 none))) (σ) μ := by
  refine wc_enter "WaitedCommits" (by decide) rfl (Nat.le_of_ble_eq_true rfl) ?_
  intro P0 E0 S0 M0 A0 B0 T0 K0 C hr hlk
  refine wr_vs (vs' := [(0, .ref (Γ.2.2 0))]) rfl ?_
  refine wr_null C dW_firstDue_0 ?_
  refine wr_astore_nN C (vs' := [(1, .null), (0, .ref (Γ.2.2 0))]) dW_firstDue_1 rfl (by decide) rfl ?_
  refine wr_iconst C (v := nI 0) dW_firstDue_2 (by decide) ?_
  refine wr_istore_n C (vs' := [(2, .int (nI 0)), (1, .null), (0, .ref (Γ.2.2 0))]) dW_firstDue_3 rfl (by decide) rfl ?_
  refine wr_sub [0, 1, 2] rfl ?_
  exact ml_first C hr hlk σ μ rfl rfl hw 15 0 none rfl (fun _ h => by cases h) rfl
set_option maxRecDepth 100000 in
set_option maxHeartbeats 4000000 in
theorem ml_deliver {P0 : Program} {l : Launch} {E0 : Env} {S0 : State} {M0 : MethodId} {A0 : Array Value} {B0 : List Frame} {T0 : Method} {K0 : Code} {Γ : wc_G} {A : Nat → Prop} {v : Option Value} {σ' μ' : wc_St} (C : wc_C P0 S0 M0 A0 K0 cW_deliverMessages 3 "WaitedCommits" Γ A) (hr : T0.sig.returnType = none) (hlk : T0.locks = false) (μ : wc_St) (hμ : μ = μ') (hv : none = v) : ∀ (n : Nat) (i : Nat) (σ : wc_St), i + n = 15 → wc_wf σ → fc_deliver n σ = σ' → wc_K P0 l E0 (wc_rm 5) S0 M0 A0 B0 T0 K0 3 Γ A (MQ B0 (wc_Qw Γ A v σ' μ') A0 S0 0 0 A) 0 0 2 [(1, .int (nI i)), (0, .ref (Γ.2.2 0))] [] σ μ := by
  subst hμ
  intro n
  induction n with
  | zero =>
    intro i σ hi hw hres
    obtain rfl : i = 15 := by omega
    refine wr_iload_n C 0 dW_deliverMessages_2 rfl rfl ?_
    refine wr_aload_n C 1 dW_deliverMessages_3 rfl rfl ?_
    refine wf_WC_slots C  (Or.inl tw_122) dW_deliverMessages_4 ?_
    refine wn_slots C  dW_deliverMessages_7 ?_
    refine wr_icmp_ge C (tgt := 39) dW_deliverMessages_8 (by decide) (fun _ => ?_) (fun h1 => absurd (by decide) h1)
    exact wr_vret C hr hlk dW_deliverMessages_39 hv (by first | rfl | (rw [← hres]; simp [fc_deliver, *]; done)) (by first | rfl | (rw [← hres]; simp [fc_deliver, *]; done))
  | succ n ih =>
    intro i σ hi hw hres
    refine wr_iload_n C 0 dW_deliverMessages_2 rfl rfl ?_
    refine wr_aload_n C 1 dW_deliverMessages_3 rfl rfl ?_
    refine wf_WC_slots C  (Or.inl tw_122) dW_deliverMessages_4 ?_
    refine wn_slots C  dW_deliverMessages_7 ?_
    refine wr_icmp_ge C (tgt := 39) dW_deliverMessages_8 (by decide) (fun h1 => absurd h1 (wc_noge (by omega) (by omega) (by omega))) (fun _ => ?_)
    refine wr_aload_n C 1 dW_deliverMessages_11 rfl rfl ?_
    refine wf_WC_underWay C  (Or.inl tw_126) dW_deliverMessages_12 ?_
    refine wr_if_le C (tgt := 39) dW_deliverMessages_15 (by decide) (fun h2 => ?_) (fun h2 => ?_)
    ·
      exact wr_vret C hr hlk dW_deliverMessages_39 hv (by first | rfl | (rw [← hres]; simp [fc_deliver, *]; done)) (by first | rfl | (rw [← hres]; simp [fc_deliver, *]; done))
    ·
      refine wr_aload_n C 1 dW_deliverMessages_18 rfl rfl ?_
      rcases hfd : fc_first σ 15 0 none with _ | j
      ·
        refine wr_callV1 C (As := []) (rest := []) (hfd ▸ mc_first l Γ σ μ (by exact hw)) cb_W_firstDue (Or.inl tw_257) tw_258 tw_547 (by omega) (wc_c_WC) rfl (by decide) (by decide) rfl rfl (Nat.le_of_ble_eq_true rfl) ⟨Nat.le_refl _, Nat.le_refl _⟩ dW_deliverMessages_19 ?_
        refine wr_astore_nN C (vs' := [(2, .null), (1, .int (nI i)), (0, .ref (Γ.2.2 0))]) dW_deliverMessages_22 rfl (by decide) rfl ?_
        refine wr_aload_nN C 0 dW_deliverMessages_23 rfl rfl ?_
        refine wr_ifnonnullN C dW_deliverMessages_24 ?_
        exact wr_vret C hr hlk dW_deliverMessages_27 hv (by first | rfl | (rw [← hres]; simp [fc_deliver, *]; done)) (by first | rfl | (rw [← hres]; simp [fc_deliver, *]; done))
      ·
        have hj15 := fc_first_lt 15 0 none j (by omega) (fun _ h => by cases h) hfd
        obtain ⟨c, hc3, hc⟩ := hw.1 (j / 3) (by omega)
        refine wr_callV1 C (As := []) (rest := []) (hfd ▸ mc_first l Γ σ μ (by exact hw)) cb_W_firstDue (Or.inl tw_257) tw_258 tw_547 (by omega) (wc_c_WC) rfl (by decide) (by decide) rfl rfl (Nat.le_of_ble_eq_true rfl) ⟨Nat.le_refl _, Nat.le_refl _⟩ dW_deliverMessages_19 ?_
        refine wr_astore_n C (vs' := [(2, .ref (Γ.2.2 (55 + j))), (1, .int (nI i)), (0, .ref (Γ.2.2 0))]) dW_deliverMessages_22 rfl (by decide) rfl ?_
        refine wr_aload_n C 0 dW_deliverMessages_23 rfl rfl ?_
        refine wr_ifnonnull C (tgt := 28) dW_deliverMessages_24 (by decide) ?_
        refine wr_aload_n C 2 dW_deliverMessages_28 rfl rfl ?_
        refine wr_aload_n C 0 dW_deliverMessages_29 rfl rfl ?_
        refine wr_callV0 C (As := [.ref (Γ.2.2 (55 + j))]) (rest := []) ((show wc_M _ _ _ _ _ _ _ [.ref (Γ.2.2 0), .ref (Γ.2.2 (55 + j))] _ _ _ _ _ from (by have h := mc_deal l Γ σ μ (t := j / 3) (q := j % 3) (c := c) (by omega) (by omega) hc3 hc; rw [show j / 3 * 3 + j % 3 = j by omega] at h; exact h))) cb_W_dealWith (Or.inl tw_266) tw_267 tw_550 (by omega) (wc_c_WC) rfl (by decide) (by decide) rfl rfl (Nat.le_of_ble_eq_true rfl) ⟨Nat.le_refl _, Nat.le_refl _⟩ dW_deliverMessages_30 ?_
        generalize hs1 : fc_deal σ (j / 3) (j % 3) c = σ1
        refine wr_iinc C (v := nI (i + 1)) (vs' := [(1, .int (nI (i + 1))), (2, .ref (Γ.2.2 (55 + j))), (0, .ref (Γ.2.2 0))]) 1 dW_deliverMessages_33 rfl (wc_inc1 i) (by decide) rfl ?_
        refine wr_goto C (tgt := 2) dW_deliverMessages_36 (by decide) ?_
        refine wr_sub [0, 2] rfl ?_
        exact ih (i + 1) σ1 (by omega) (by subst_vars; exact wf_deal hw (by omega) hc3) (by rw [← hres]; simp [fc_deliver, hfd, fc_crd_eq hc hc3, *])
set_option maxRecDepth 100000 in
set_option maxHeartbeats 4000000 in
theorem mc_deliver (l : Launch) (Γ : wc_G) (σ μ : wc_St) (hw : wc_wf σ) : wc_M l yW_deliverMessages cW_deliverMessages 3 none 5 Γ [.ref (Γ.2.2 0)] σ μ none (fc_deliver 15 σ) μ := by
  refine wc_enter "WaitedCommits" (by decide) rfl (Nat.le_of_ble_eq_true rfl) ?_
  intro P0 E0 S0 M0 A0 B0 T0 K0 C hr hlk
  refine wr_vs (vs' := [(0, .ref (Γ.2.2 0))]) rfl ?_
  refine wr_iconst C (v := nI 0) dW_deliverMessages_0 (by decide) ?_
  refine wr_istore_n C (vs' := [(1, .int (nI 0)), (0, .ref (Γ.2.2 0))]) dW_deliverMessages_1 rfl (by decide) rfl ?_
  refine wr_sub [0, 1] rfl ?_
  exact ml_deliver C hr hlk μ rfl rfl 15 0 σ rfl hw rfl
set_option maxRecDepth 100000 in
set_option maxHeartbeats 4000000 in
theorem ml_steps {P0 : Program} {l : Launch} {E0 : Env} {S0 : State} {M0 : MethodId} {A0 : Array Value} {B0 : List Frame} {T0 : Method} {K0 : Code} {Γ : wc_G} {A : Nat → Prop} {v : Option Value} {σ' μ' : wc_St} (C : wc_C P0 S0 M0 A0 K0 cW_step 4 "WaitedCommits" Γ A) (hr : T0.sig.returnType = (some .int)) (hlk : T0.locks = false) (N : Nat) (hN : N ≤ 500) (μ : wc_St) (hμ : μ = μ') (r1 : Nat) (hv : some (.int (nI r1)) = v) : ∀ (n : Nat) (i a : Nat) (σ : wc_St), i + n = N → wc_wf σ → fc_steps n a σ = (r1, σ') → wc_K P0 l E0 (wc_rm 6) S0 M0 A0 B0 T0 K0 4 Γ A (MQ B0 (wc_Qw Γ A v σ' μ') A0 S0 0 0 A) 0 0 17 [(3, .int (nI i)), (2, .int (nI a)), (0, .ref (Γ.2.2 0)), (1, .int (nI N))] [] σ μ := by
  subst hμ
  intro n
  induction n with
  | zero =>
    intro i a σ hi hw hres
    obtain rfl : i = N := by omega
    refine wr_iload_n C 0 dW_step_17 rfl rfl ?_
    refine wr_iload_n C 3 dW_step_18 rfl rfl ?_
    refine wr_icmp_ge C (tgt := 49) dW_step_19 (by decide) (fun h1 => ?_) (fun h1 => ?_)
    ·
      rw [nI_leI (by omega) (by omega)] at h1
      refine wr_iload_n C 1 dW_step_49 rfl rfl ?_
      exact wr_iret C hr rfl hlk dW_step_50 (by rw [← hv, (Prod.mk.inj (show (a, σ) = (r1, σ') from hres)).1]) (by first | rfl | exact (Prod.mk.inj (show (a, σ) = (r1, σ') from hres)).2) (by first | rfl | exact (Prod.mk.inj (show (a, σ) = (r1, σ') from hres)).2)
    ·
      rw [nI_leI (by omega) (by omega)] at h1
      exact absurd h1 (by omega)
  | succ n ih =>
    intro i a σ hi hw hres
    refine wr_iload_n C 0 dW_step_17 rfl rfl ?_
    refine wr_iload_n C 3 dW_step_18 rfl rfl ?_
    refine wr_icmp_ge C (tgt := 49) dW_step_19 (by decide) (fun h1 => ?_) (fun h1 => ?_)
    ·
      rw [nI_leI (by omega) (by omega)] at h1
      exact absurd h1 (by omega)
    ·
      rw [nI_leI (by omega) (by omega)] at h1
      refine wr_aload_n C 2 dW_step_22 rfl rfl ?_
      refine wr_dup C dW_step_23 rfl ?_
      refine wf_WC_time C  (Or.inl tw_123) dW_step_24 ?_
      refine wr_iconst C (v := nI 1) dW_step_27 (by decide) ?_
      refine wr_iadd C (z := (σ 23 0 0) + (nI 1)) dW_step_28 rfl ?_
      refine wp_WC_time C  (Or.inl tw_123) dW_step_29 ?_
      generalize hs1 : wc_st σ 23 0 0 ((σ 23 0 0) + (nI 1)) = σ1
      refine wr_aload_n C 2 dW_step_32 rfl rfl ?_
      refine wr_callV0 C (As := []) (rest := []) (mc_deliver l Γ σ1 μ (by subst_vars; first | exact wf_tick hw | exact wf_deliver 15 _ (wf_tick hw))) cb_W_deliverMessages (Or.inl tw_254) tw_255 tw_546 (by omega) (wc_c_WC) rfl (by decide) (by decide) rfl rfl (Nat.le_of_ble_eq_true rfl) ⟨Nat.le_refl _, Nat.le_refl _⟩ dW_step_33 ?_
      generalize hs2 : fc_deliver 15 σ1 = σ2
      refine wr_iload_n C 1 dW_step_36 rfl rfl ?_
      refine wr_aload_n C 2 dW_step_37 rfl rfl ?_
      refine wr_callV1 C (As := []) (rest := [.int (nI a)]) (mc_ends l Γ σ2 μ (by subst_vars; first | exact wf_tick hw | exact wf_deliver 15 _ (wf_tick hw))) cb_W_endWaiting (Or.inl tw_283) tw_284 tw_555 (by omega) (wc_c_WC) rfl (by decide) (by decide) rfl rfl (Nat.le_of_ble_eq_true rfl) ⟨Nat.le_refl _, Nat.le_refl _⟩ dW_step_38 ?_
      generalize hs3 : (fc_ends 5 0 0 σ2).2 = σ3
      refine wr_iadd C (z := nI (a + (fc_ends 5 0 0 σ2).1)) dW_step_41 (nI_add a ((fc_ends 5 0 0 σ2).1)) ?_
      refine wr_istore_n C (vs' := [(2, .int (nI (a + (fc_ends 5 0 0 σ2).1))), (3, .int (nI i)), (0, .ref (Γ.2.2 0)), (1, .int (nI N))]) dW_step_42 rfl (by decide) rfl ?_
      refine wr_iinc C (v := nI (i + 1)) (vs' := [(3, .int (nI (i + 1))), (2, .int (nI (a + (fc_ends 5 0 0 σ2).1))), (0, .ref (Γ.2.2 0)), (1, .int (nI N))]) 1 dW_step_43 rfl (wc_inc1 i) (by decide) rfl ?_
      refine wr_goto C (tgt := 17) dW_step_46 (by decide) ?_
      refine wr_sub [0, 1, 2, 3] rfl ?_
      exact ih (i + 1) (a + (fc_ends 5 0 0 σ2).1) σ3 (by omega) (by subst_vars; exact wf_ends 5 0 0 _ (by omega) (wf_deliver 15 _ (wf_tick hw))) (by rw [← hres]; subst_vars; rfl)
