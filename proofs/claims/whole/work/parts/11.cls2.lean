set_option maxRecDepth 100000 in
set_option maxHeartbeats 4000000 in
theorem ml_leastMark {P0 : Program} {l : Launch} {E0 : Env} {S0 : State} {M0 : MethodId} {A0 : Array Value} {B0 : List Frame} {T0 : Method} {K0 : Code} {Γ : wc_G} {A : Nat → Prop} {v : Option Value} {σ' μ' : wc_St} (C : wc_C P0 S0 M0 A0 K0 cW_leastMark 4 "WaitedCommits" Γ A) (hr : T0.sig.returnType = (some .int)) (hlk : T0.locks = false) {q : Nat} (hq : q < 3) (σ μ : wc_St) (hσ : σ = σ') (hμ : μ = μ') : ∀ (n : Nat) (i : Nat) (a : Int32), i + n = 5 → some (.int (fc_lm σ q n i a)) = v → wc_K P0 l E0 (wc_rm 1) S0 M0 A0 B0 T0 K0 4 Γ A (MQ B0 (wc_Qw Γ A v σ' μ') A0 S0 0 0 A) 0 0 5 [(3, .int (nI i)), (2, .int a), (0, .ref (Γ.2.2 0)), (1, .int (nI q))] [] σ μ := by
  subst hσ; subst hμ
  intro n
  induction n with
  | zero =>
    intro i a hi hv
    obtain rfl : i = 5 := by omega
    refine wr_iload_n C 0 dW_leastMark_5 rfl rfl ?_
    refine wr_iconst C (v := nI 5) dW_leastMark_6 (by decide) ?_
    refine wr_icmp_ge C (tgt := 46) dW_leastMark_7 (by decide) (fun _ => ?_) (fun h1 => absurd (by decide) h1)
    refine wr_iload_n C 1 dW_leastMark_46 rfl rfl ?_
    exact wr_iret C hr rfl hlk dW_leastMark_47 (by exact hv) (by rfl) (by rfl)
  | succ n ih =>
    intro i a hi hv
    refine wr_iload_n C 0 dW_leastMark_5 rfl rfl ?_
    refine wr_iconst C (v := nI 5) dW_leastMark_6 (by decide) ?_
    refine wr_icmp_ge C (tgt := 46) dW_leastMark_7 (by decide) (fun h1 => absurd h1 (wc_noge (by omega) (by omega) (by omega))) (fun _ => ?_)
    refine wr_aload_n C 2 dW_leastMark_10 rfl rfl ?_
    refine wf_WC_transactions C  (Or.inl tw_121) dW_leastMark_11 ?_
    refine wr_iload_n C 0 dW_leastMark_14 rfl rfl ?_
    refine wa_txs C (by omega) dW_leastMark_15 ?_
    refine wf_Tx_marks C (by omega) (Or.inr ⟨_, tw_84⟩) dW_leastMark_16 ?_
    refine wr_iload_n C 3 dW_leastMark_19 rfl rfl ?_
    refine wa_marks C (by omega) (by omega) dW_leastMark_20 ?_
    refine wr_if_eq C (tgt := 40) dW_leastMark_21 (by decide) (fun h2 => ?_) (fun h2 => ?_)
    ·
      refine wr_iinc C (v := nI (i + 1)) (vs' := [(3, .int (nI (i + 1))), (2, .int a), (0, .ref (Γ.2.2 0)), (1, .int (nI q))]) 0 dW_leastMark_40 rfl (wc_inc1 i) (by decide) rfl ?_
      refine wr_goto C (tgt := 5) dW_leastMark_43 (by decide) ?_
      exact ih (i + 1) (a) (by omega) (by rw [← hv]; simp [fc_lm, *])
    ·
      refine wr_iload_n C 1 dW_leastMark_24 rfl rfl ?_
      refine wr_aload_n C 2 dW_leastMark_25 rfl rfl ?_
      refine wf_WC_transactions C  (Or.inl tw_121) dW_leastMark_26 ?_
      refine wr_iload_n C 0 dW_leastMark_29 rfl rfl ?_
      refine wa_txs C (by omega) dW_leastMark_30 ?_
      refine wf_Tx_marks C (by omega) (Or.inr ⟨_, tw_84⟩) dW_leastMark_31 ?_
      refine wr_iload_n C 3 dW_leastMark_34 rfl rfl ?_
      refine wa_marks C (by omega) (by omega) dW_leastMark_35 ?_
      refine wr_mmin C tw_20 tw_21 tw_2 tw_22 (by decide) (by decide) (Nat.le_of_ble_eq_true rfl) ⟨Nat.le_refl _, Nat.le_refl _⟩ dW_leastMark_36 ?_
      refine wr_istore_n C (vs' := [(2, .int (wc_mn a (σ 17 i q))), (3, .int (nI i)), (0, .ref (Γ.2.2 0)), (1, .int (nI q))]) dW_leastMark_39 rfl (by decide) rfl ?_
      refine wr_iinc C (v := nI (i + 1)) (vs' := [(3, .int (nI (i + 1))), (2, .int (wc_mn a (σ 17 i q))), (0, .ref (Γ.2.2 0)), (1, .int (nI q))]) 1 dW_leastMark_40 rfl (wc_inc1 i) (by decide) rfl ?_
      refine wr_goto C (tgt := 5) dW_leastMark_43 (by decide) ?_
      exact ih (i + 1) (wc_mn a (σ 17 i q)) (by omega) (by rw [← hv]; simp [fc_lm, *])
set_option maxRecDepth 100000 in
set_option maxHeartbeats 4000000 in
theorem mc_leastMark (l : Launch) (Γ : wc_G) (σ μ : wc_St) {q : Nat} (hq : q < 3) : wc_M l yW_leastMark cW_leastMark 4 (some .int) 1 Γ [.ref (Γ.2.2 0), .int (nI q)] σ μ (some (.int (fc_leastMark σ q))) (σ) μ := by
  refine wc_enter "WaitedCommits" (by decide) rfl (Nat.le_of_ble_eq_true rfl) ?_
  intro P0 E0 S0 M0 A0 B0 T0 K0 C hr hlk
  refine wr_vs (vs' := [(0, .ref (Γ.2.2 0)), (1, .int (nI q))]) rfl ?_
  refine wr_ldc C dW_leastMark_0 tw_241 ?_
  refine wr_istore_n C (vs' := [(2, .int 2147483647), (0, .ref (Γ.2.2 0)), (1, .int (nI q))]) dW_leastMark_2 rfl (by decide) rfl ?_
  refine wr_iconst C (v := nI 0) dW_leastMark_3 (by decide) ?_
  refine wr_istore_n C (vs' := [(3, .int (nI 0)), (2, .int 2147483647), (0, .ref (Γ.2.2 0)), (1, .int (nI q))]) dW_leastMark_4 rfl (by decide) rfl ?_
  refine wr_sub [0, 1, 2, 3] rfl ?_
  exact ml_leastMark C hr hlk hq σ μ rfl rfl 5 0 2147483647 rfl rfl
set_option maxRecDepth 100000 in
set_option maxHeartbeats 4000000 in
theorem mc_ready (l : Launch) (Γ : wc_G) (σ μ : wc_St) {q : Nat} (hq : q < 3) : wc_M l yW_greatestReadyTime cW_greatestReadyTime 2 (some .int) 2 Γ [.ref (Γ.2.2 0), .int (nI q)] σ μ (some (.int (fc_ready σ q))) (σ) μ := by
  refine wc_enter "WaitedCommits" (by decide) rfl (Nat.le_of_ble_eq_true rfl) ?_
  intro P0 E0 S0 M0 A0 B0 T0 K0 C hr hlk
  refine wr_vs (vs' := [(0, .ref (Γ.2.2 0)), (1, .int (nI q))]) rfl ?_
  refine wr_aload_n C 0 dW_greatestReadyTime_0 rfl rfl ?_
  refine wr_iload_n C 1 dW_greatestReadyTime_1 rfl rfl ?_
  refine wr_callV1 C (As := [.int (nI q)]) (rest := []) (mc_latest l Γ σ μ (q := q) (by omega)) cb_W_latest (Or.inl tw_210) tw_211 tw_537 (by omega) (wc_c_WC) rfl (by decide) (by decide) rfl rfl (Nat.le_of_ble_eq_true rfl) ⟨Nat.le_refl _, Nat.le_refl _⟩ dW_greatestReadyTime_2 ?_
  refine wr_aload_n C 0 dW_greatestReadyTime_5 rfl rfl ?_
  refine wr_iload_n C 1 dW_greatestReadyTime_6 rfl rfl ?_
  refine wr_callV1 C (As := [.int (nI q)]) (rest := [.int (fc_latest σ q)]) (mc_leastMark l Γ σ μ (q := q) (by omega)) cb_W_leastMark (Or.inl tw_238) tw_239 tw_543 (by omega) (wc_c_WC) rfl (by decide) (by decide) rfl rfl (Nat.le_of_ble_eq_true rfl) ⟨Nat.le_refl _, Nat.le_refl _⟩ dW_greatestReadyTime_7 ?_
  refine wr_iconst C (v := nI 1) dW_greatestReadyTime_10 (by decide) ?_
  refine wr_isub C (z := (fc_leastMark σ q) - (nI 1)) dW_greatestReadyTime_11 rfl ?_
  refine wr_mmin C tw_20 tw_21 tw_2 tw_22 (by decide) (by decide) (Nat.le_of_ble_eq_true rfl) ⟨Nat.le_refl _, Nat.le_refl _⟩ dW_greatestReadyTime_12 ?_
  exact wr_iret C hr rfl hlk dW_greatestReadyTime_15 (by rfl) (by rfl) (by rfl)
set_option maxRecDepth 100000 in
set_option maxHeartbeats 4000000 in
theorem ml_valueAt {P0 : Program} {l : Launch} {E0 : Env} {S0 : State} {M0 : MethodId} {A0 : Array Value} {B0 : List Frame} {T0 : Method} {K0 : Code} {Γ : wc_G} {A : Nat → Prop} {v : Option Value} {σ' μ' : wc_St} (C : wc_C P0 S0 M0 A0 K0 cK_valueAt 3 "WaitedCommits$Key" Γ A) (hr : T0.sig.returnType = (some .long)) (hlk : T0.locks = false) {k : Nat} (hk : k < 9) (r : Int32) (σ μ : wc_St) (hσ : σ = σ') (hμ : μ = μ') (hcnt : σ 5 k 0 ≤ nI 4) : ∀ (n : Nat) (i : Nat), i + n = 4 → some (.long (fc_vat σ k r n i)) = v → wc_K P0 l E0 (wc_rm 0) S0 M0 A0 B0 T0 K0 3 Γ A (MQ B0 (wc_Qw Γ A v σ' μ') A0 S0 0 0 A) 0 0 2 [(2, .int (nI i)), (0, .ref (Γ.2.2 (8 + k))), (1, .int r)] [] σ μ := by
  subst hσ; subst hμ
  intro n
  induction n with
  | zero =>
    intro i hi hv
    obtain rfl : i = 4 := by omega
    refine wr_iload_n C 0 dK_valueAt_2 rfl rfl ?_
    refine wr_aload_n C 1 dK_valueAt_3 rfl rfl ?_
    refine wf_Key_count C (by omega) (Or.inl tw_55) dK_valueAt_4 ?_
    refine wr_icmp_ge C (tgt := 34) dK_valueAt_7 (by decide) (fun h1 => ?_) (fun h1 => ?_)
    ·
      refine wr_ldc2 C dK_valueAt_34 tw_249 ?_
      exact wr_lret C hr hlk dK_valueAt_37 (by rw [← hv]; simp [fc_vat, *]) (by rfl) (by rfl)
    ·
      exact absurd hcnt h1
  | succ n ih =>
    intro i hi hv
    refine wr_iload_n C 0 dK_valueAt_2 rfl rfl ?_
    refine wr_aload_n C 1 dK_valueAt_3 rfl rfl ?_
    refine wf_Key_count C (by omega) (Or.inl tw_55) dK_valueAt_4 ?_
    refine wr_icmp_ge C (tgt := 34) dK_valueAt_7 (by decide) (fun h1 => ?_) (fun h1 => ?_)
    ·
      refine wr_ldc2 C dK_valueAt_34 tw_249 ?_
      exact wr_lret C hr hlk dK_valueAt_37 (by rw [← hv]; simp [fc_vat, *]) (by rfl) (by rfl)
    ·
      refine wr_aload_n C 1 dK_valueAt_10 rfl rfl ?_
      refine wf_Key_stamps C (by omega) (Or.inl tw_53) dK_valueAt_11 ?_
      refine wr_iload_n C 0 dK_valueAt_14 rfl rfl ?_
      refine wa_stamps C (by omega) (by omega) dK_valueAt_15 ?_
      refine wr_iload_n C 2 dK_valueAt_16 rfl rfl ?_
      refine wr_icmp_gt C (tgt := 28) dK_valueAt_17 (by decide) (fun h2 => ?_) (fun h2 => ?_)
      ·
        refine wr_iinc C (v := nI (i + 1)) (vs' := [(2, .int (nI (i + 1))), (0, .ref (Γ.2.2 (8 + k))), (1, .int r)]) 0 dK_valueAt_28 rfl (wc_inc1 i) (by decide) rfl ?_
        refine wr_goto C (tgt := 2) dK_valueAt_31 (by decide) ?_
        refine wr_sub [0, 1, 2] rfl ?_
        exact ih (i + 1) (by omega) (by rw [← hv]; simp [fc_vat, *])
      ·
        refine wr_aload_n C 1 dK_valueAt_20 rfl rfl ?_
        refine wf_Key_values C (by omega) (Or.inl tw_51) dK_valueAt_21 ?_
        refine wr_iload_n C 0 dK_valueAt_24 rfl rfl ?_
        refine wa_values C (by omega) (by omega) dK_valueAt_25 ?_
        refine wr_i2l C dK_valueAt_26 ?_
        exact wr_lret C hr hlk dK_valueAt_27 (by rw [← hv]; simp [fc_vat, *]) (by rfl) (by rfl)
set_option maxRecDepth 100000 in
set_option maxHeartbeats 4000000 in
theorem mc_valueAt (l : Launch) (Γ : wc_G) (σ μ : wc_St) {k : Nat} (hk : k < 9) (r : Int32) (hcnt : σ 5 k 0 ≤ nI 4) : wc_M l yK_valueAt cK_valueAt 3 (some .long) 0 Γ [.ref (Γ.2.2 (8 + k)), .int r] σ μ (some (.long (fc_vat σ k r 4 0))) (σ) μ := by
  refine wc_enter "WaitedCommits$Key" (by decide) rfl (Nat.le_of_ble_eq_true rfl) ?_
  intro P0 E0 S0 M0 A0 B0 T0 K0 C hr hlk
  refine wr_vs (vs' := [(0, .ref (Γ.2.2 (8 + k))), (1, .int r)]) rfl ?_
  refine wr_iconst C (v := nI 0) dK_valueAt_0 (by decide) ?_
  refine wr_istore_n C (vs' := [(2, .int (nI 0)), (0, .ref (Γ.2.2 (8 + k))), (1, .int r)]) dK_valueAt_1 rfl (by decide) rfl ?_
  refine wr_sub [0, 1, 2] rfl ?_
  exact ml_valueAt C hr hlk hk r σ μ rfl rfl hcnt 4 0 rfl rfl
set_option maxRecDepth 100000 in
set_option maxHeartbeats 4000000 in
theorem ml_lock1 {P0 : Program} {l : Launch} {E0 : Env} {S0 : State} {M0 : MethodId} {A0 : Array Value} {B0 : List Frame} {T0 : Method} {K0 : Code} {Γ : wc_G} {A : Nat → Prop} {v : Option Value} {σ' μ' : wc_St} (C : wc_C P0 S0 M0 A0 K0 cW_lock 5 "WaitedCommits" Γ A) (hr : T0.sig.returnType = (some .boolean)) (hlk : T0.locks = false) {t k : Nat} (ht : t < 5) (hk : k < 9) (kind : Int32) (σ μ : wc_St) (b : Bool) (hx : b = false → wc_K P0 l E0 (wc_rm 2) S0 M0 A0 B0 T0 K0 5 Γ A (MQ B0 (wc_Qw Γ A v σ' μ') A0 S0 0 0 A) 0 0 76 [(4, .int (nI 5)), (0, .ref (Γ.2.2 0)), (1, .ref (Γ.2.2 (35 + t))), (2, .int (nI k)), (3, .int kind)] [] σ μ) (hb : b = true → some (.int (nI 0)) = v ∧ σ = σ' ∧ μ = μ') : ∀ (n : Nat) (i : Nat), i + n = 5 → fc_blk σ t k kind n i = b → wc_K P0 l E0 (wc_rm 2) S0 M0 A0 B0 T0 K0 5 Γ A (MQ B0 (wc_Qw Γ A v σ' μ') A0 S0 0 0 A) 0 0 32 [(4, .int (nI i)), (0, .ref (Γ.2.2 0)), (1, .ref (Γ.2.2 (35 + t))), (2, .int (nI k)), (3, .int kind)] [] σ μ := by
  intro n
  induction n with
  | zero =>
    intro i hi hv
    obtain rfl : i = 5 := by omega
    refine wr_iload C 0 dW_lock_32 rfl ?_
    refine wr_iconst C (v := nI 5) dW_lock_34 (by decide) ?_
    refine wr_icmp_ge C (tgt := 76) dW_lock_35 (by decide) (fun _ => ?_) (fun h1 => absurd (by decide) h1)
    exact hx (by rw [← hv]; rfl)
  | succ n ih =>
    intro i hi hv
    refine wr_iload C 0 dW_lock_32 rfl ?_
    refine wr_iconst C (v := nI 5) dW_lock_34 (by decide) ?_
    refine wr_icmp_ge C (tgt := 76) dW_lock_35 (by decide) (fun h1 => absurd h1 (wc_noge (by omega) (by omega) (by omega))) (fun _ => ?_)
    refine wr_aload_n C 1 dW_lock_38 rfl rfl ?_
    refine wf_WC_transactions C  (Or.inl tw_121) dW_lock_39 ?_
    refine wr_iload C 0 dW_lock_42 rfl ?_
    refine wa_txs C (by omega) dW_lock_44 ?_
    refine wr_aload_n C 2 dW_lock_45 rfl rfl ?_
    refine wr_iload_n C 3 dW_lock_46 rfl rfl ?_
    refine wr_iload_n C 4 dW_lock_47 rfl rfl ?_
    refine wr_callS1 C (As := [.ref (Γ.2.2 (35 + i)), .ref (Γ.2.2 (35 + t)), .int (nI k), .int kind]) (rest := []) (mc_conflicts l Γ σ μ (o := i) (t := t) (k := k) (by omega) (by omega) (by omega) kind) cb_W_conflicts (Or.inl tw_186) tw_187 (by decide) (by decide) rfl rfl (Nat.le_of_ble_eq_true rfl) ⟨Nat.le_refl _, Nat.le_refl _⟩ dW_lock_48 ?_
    refine wr_if_eq C (tgt := 70) dW_lock_51 (by decide) (fun h2 => ?_) (fun h2 => ?_)
    ·
      refine wr_iinc C (v := nI (i + 1)) (vs' := [(4, .int (nI (i + 1))), (0, .ref (Γ.2.2 0)), (1, .ref (Γ.2.2 (35 + t))), (2, .int (nI k)), (3, .int kind)]) 0 dW_lock_70 rfl (wc_inc1 i) (by decide) rfl ?_
      refine wr_goto C (tgt := 32) dW_lock_73 (by decide) ?_
      refine wr_sub [0, 1, 2, 3, 4] rfl ?_
      exact ih (i + 1) (by omega) (by rw [← hv]; simp [fc_blk, *])
    ·
      refine wr_aload_n C 2 dW_lock_54 rfl rfl ?_
      refine wr_aload_n C 1 dW_lock_55 rfl rfl ?_
      refine wf_WC_transactions C  (Or.inl tw_121) dW_lock_56 ?_
      refine wr_iload C 0 dW_lock_59 rfl ?_
      refine wa_txs C (by omega) dW_lock_61 ?_
      refine wr_callS1 C (As := [.ref (Γ.2.2 (35 + t)), .ref (Γ.2.2 (35 + i))]) (rest := []) (mc_push l Γ σ μ (t := t) (o := i) (by omega) (by omega)) cb_W_canPushAside (Or.inl tw_189) tw_190 (by decide) (by decide) rfl rfl (Nat.le_of_ble_eq_true rfl) ⟨Nat.le_refl _, Nat.le_refl _⟩ dW_lock_62 ?_
      refine wr_if_ne C (tgt := 70) dW_lock_65 (by decide) (fun h3 => ?_) (fun h3 => ?_)
      ·
        refine wr_iinc C (v := nI (i + 1)) (vs' := [(4, .int (nI (i + 1))), (0, .ref (Γ.2.2 0)), (1, .ref (Γ.2.2 (35 + t))), (2, .int (nI k)), (3, .int kind)]) 0 dW_lock_70 rfl (wc_inc1 i) (by decide) rfl ?_
        refine wr_goto C (tgt := 32) dW_lock_73 (by decide) ?_
        refine wr_sub [0, 1, 2, 3, 4] rfl ?_
        exact ih (i + 1) (by omega) (by rw [← hv]; simp [fc_blk, *])
      ·
        refine wr_iconst C (v := nI 0) dW_lock_68 (by decide) ?_
        exact wr_iret C hr rfl hlk dW_lock_69 (by exact (hb (by rw [← hv]; simp [fc_blk, *])).1) (by first | exact (hb (by rw [← hv]; simp [fc_blk, *])).2.1 | exact (hb (by rw [← hv]; simp [fc_blk, *])).2.2) (by first | exact (hb (by rw [← hv]; simp [fc_blk, *])).2.1 | exact (hb (by rw [← hv]; simp [fc_blk, *])).2.2)
set_option maxRecDepth 100000 in
set_option maxHeartbeats 4000000 in
theorem ml_lock2 {P0 : Program} {l : Launch} {E0 : Env} {S0 : State} {M0 : MethodId} {A0 : Array Value} {B0 : List Frame} {T0 : Method} {K0 : Code} {Γ : wc_G} {A : Nat → Prop} {v : Option Value} {σ' μ' : wc_St} (C : wc_C P0 S0 M0 A0 K0 cW_lock 5 "WaitedCommits" Γ A) (hr : T0.sig.returnType = (some .boolean)) (hlk : T0.locks = false) {t k : Nat} (ht : t < 5) (hk : k < 9) (kind : Int32) (μ : wc_St) (σe : wc_St) (hx : wc_K P0 l E0 (wc_rm 2) S0 M0 A0 B0 T0 K0 5 Γ A (MQ B0 (wc_Qw Γ A v σ' μ') A0 S0 0 0 A) 0 0 117 [(4, .int (nI 5)), (0, .ref (Γ.2.2 0)), (1, .ref (Γ.2.2 (35 + t))), (2, .int (nI k)), (3, .int kind)] [] σe μ) : ∀ (n : Nat) (i : Nat) (σ : wc_St), i + n = 5 → fc_pushAll t k kind n i σ = σe → wc_K P0 l E0 (wc_rm 2) S0 M0 A0 B0 T0 K0 5 Γ A (MQ B0 (wc_Qw Γ A v σ' μ') A0 S0 0 0 A) 0 0 79 [(4, .int (nI i)), (0, .ref (Γ.2.2 0)), (1, .ref (Γ.2.2 (35 + t))), (2, .int (nI k)), (3, .int kind)] [] σ μ := by
  intro n
  induction n with
  | zero =>
    intro i σ hi hv
    obtain rfl : i = 5 := by omega
    refine wr_iload C 0 dW_lock_79 rfl ?_
    refine wr_iconst C (v := nI 5) dW_lock_81 (by decide) ?_
    refine wr_icmp_ge C (tgt := 117) dW_lock_82 (by decide) (fun _ => ?_) (fun h1 => absurd (by decide) h1)
    obtain rfl : σ = σe := hv
    exact hx
  | succ n ih =>
    intro i σ hi hv
    refine wr_iload C 0 dW_lock_79 rfl ?_
    refine wr_iconst C (v := nI 5) dW_lock_81 (by decide) ?_
    refine wr_icmp_ge C (tgt := 117) dW_lock_82 (by decide) (fun h1 => absurd h1 (wc_noge (by omega) (by omega) (by omega))) (fun _ => ?_)
    refine wr_aload_n C 1 dW_lock_85 rfl rfl ?_
    refine wf_WC_transactions C  (Or.inl tw_121) dW_lock_86 ?_
    refine wr_iload C 0 dW_lock_89 rfl ?_
    refine wa_txs C (by omega) dW_lock_91 ?_
    refine wr_aload_n C 2 dW_lock_92 rfl rfl ?_
    refine wr_iload_n C 3 dW_lock_93 rfl rfl ?_
    refine wr_iload_n C 4 dW_lock_94 rfl rfl ?_
    refine wr_callS1 C (As := [.ref (Γ.2.2 (35 + i)), .ref (Γ.2.2 (35 + t)), .int (nI k), .int kind]) (rest := []) (mc_conflicts l Γ σ μ (o := i) (t := t) (k := k) (by omega) (by omega) (by omega) kind) cb_W_conflicts (Or.inl tw_186) tw_187 (by decide) (by decide) rfl rfl (Nat.le_of_ble_eq_true rfl) ⟨Nat.le_refl _, Nat.le_refl _⟩ dW_lock_95 ?_
    refine wr_if_eq C (tgt := 111) dW_lock_98 (by decide) (fun h2 => ?_) (fun h2 => ?_)
    ·
      refine wr_iinc C (v := nI (i + 1)) (vs' := [(4, .int (nI (i + 1))), (0, .ref (Γ.2.2 0)), (1, .ref (Γ.2.2 (35 + t))), (2, .int (nI k)), (3, .int kind)]) 0 dW_lock_111 rfl (wc_inc1 i) (by decide) rfl ?_
      refine wr_goto C (tgt := 79) dW_lock_114 (by decide) ?_
      refine wr_sub [0, 1, 2, 3, 4] rfl ?_
      exact ih (i + 1) σ (by omega) (by rw [← hv]; simp [fc_pushAll, *])
    ·
      refine wr_aload_n C 1 dW_lock_101 rfl rfl ?_
      refine wf_WC_transactions C  (Or.inl tw_121) dW_lock_102 ?_
      refine wr_iload C 0 dW_lock_105 rfl ?_
      refine wa_txs C (by omega) dW_lock_107 ?_
      refine wr_callV0 C (As := []) (rest := []) (mc_giveUp l Γ σ μ (t := i) (by omega)) cb_T_giveUp (Or.inr ⟨_, tw_192⟩) tw_193 tw_534 (by omega) (wc_c_Tx (by omega)) rfl (by decide) (by decide) rfl rfl (Nat.le_of_ble_eq_true rfl) ⟨Nat.le_refl _, Nat.le_refl _⟩ dW_lock_108 ?_
      generalize hs1 : fc_giveUp σ i = σ1
      refine wr_iinc C (v := nI (i + 1)) (vs' := [(4, .int (nI (i + 1))), (0, .ref (Γ.2.2 0)), (1, .ref (Γ.2.2 (35 + t))), (2, .int (nI k)), (3, .int kind)]) 0 dW_lock_111 rfl (wc_inc1 i) (by decide) rfl ?_
      refine wr_goto C (tgt := 79) dW_lock_114 (by decide) ?_
      refine wr_sub [0, 1, 2, 3, 4] rfl ?_
      exact ih (i + 1) σ1 (by omega) (by rw [← hv]; simp [fc_pushAll, *])
set_option maxRecDepth 100000 in
set_option maxHeartbeats 4000000 in
theorem mc_lock (l : Launch) (Γ : wc_G) (σ μ : wc_St) {t k : Nat} (ht : t < 5) (hk : k < 9) (kind : Int32) : wc_M l yW_lock cW_lock 5 (some .boolean) 2 Γ [.ref (Γ.2.2 0), .ref (Γ.2.2 (35 + t)), .int (nI k), .int kind] σ μ (some (.int ((fc_lock σ t k kind).1))) ((fc_lock σ t k kind).2) μ := by
  refine wc_enter "WaitedCommits" (by decide) rfl (Nat.le_of_ble_eq_true rfl) ?_
  intro P0 E0 S0 M0 A0 B0 T0 K0 C hr hlk
  refine wr_vs (vs' := [(0, .ref (Γ.2.2 0)), (1, .ref (Γ.2.2 (35 + t))), (2, .int (nI k)), (3, .int kind)]) rfl ?_
  refine wr_aload_n C 0 dW_lock_0 rfl rfl ?_
  refine wf_WC_sites C  (Or.inl tw_119) dW_lock_1 ?_
  refine wr_iload_n C 2 dW_lock_4 rfl rfl ?_
  refine wr_callS1 C (As := [.int (nI k)]) (rest := [.ref (Γ.2.2 1)]) (mc_siteOf l Γ σ μ (k := k) (by omega)) cb_W_siteOf (Or.inl tw_183) tw_184 (by decide) (by decide) rfl rfl (Nat.le_of_ble_eq_true rfl) ⟨Nat.le_refl _, Nat.le_refl _⟩ dW_lock_5 ?_
  refine wa_sites C (by omega) dW_lock_8 ?_
  refine wf_Site_isUp C (by omega) (Or.inr ⟨_, tw_38⟩) dW_lock_9 ?_
  refine wr_if_ne C (tgt := 17) dW_lock_12 (by decide) (fun h1 => ?_) (fun h1 => ?_)
  ·
    refine wr_aload_n C 1 dW_lock_17 rfl rfl ?_
    refine wf_Tx_locks C (by omega) (Or.inr ⟨_, tw_80⟩) dW_lock_18 ?_
    refine wr_iload_n C 2 dW_lock_21 rfl rfl ?_
    refine wa_locks C (by omega) (by omega) dW_lock_22 ?_
    refine wr_iload_n C 3 dW_lock_23 rfl rfl ?_
    refine wr_icmp_lt C (tgt := 29) dW_lock_24 (by decide) (fun h2 => ?_) (fun h2 => ?_)
    ·
      refine wr_iconst C (v := nI 0) dW_lock_29 (by decide) ?_
      refine wr_istore C (vs' := [(4, .int (nI 0)), (0, .ref (Γ.2.2 0)), (1, .ref (Γ.2.2 (35 + t))), (2, .int (nI k)), (3, .int kind)]) dW_lock_30 (by decide) rfl ?_
      refine wr_sub [0, 1, 2, 3, 4] rfl ?_
      refine ml_lock1 C hr hlk ht hk kind σ μ (fc_blk σ t k kind 5 0) (fun hb => ?_) (fun hb => ⟨by simp [fc_lock, *], by simp [fc_lock, *], rfl⟩) 5 0 rfl rfl
      refine wr_iconst C (v := nI 0) dW_lock_76 (by decide) ?_
      refine wr_istore C (vs' := [(4, .int (nI 0)), (0, .ref (Γ.2.2 0)), (1, .ref (Γ.2.2 (35 + t))), (2, .int (nI k)), (3, .int kind)]) dW_lock_77 (by decide) rfl ?_
      refine wr_sub [0, 1, 2, 3, 4] rfl ?_
      generalize he : fc_pushAll t k kind 5 0 σ = σe
      refine ml_lock2 C hr hlk ht hk kind μ σe ?_ 5 0 σ rfl he
      refine wr_aload_n C 2 dW_lock_117 rfl rfl ?_
      refine wf_Tx_locks C (by omega) (Or.inr ⟨_, tw_80⟩) dW_lock_118 ?_
      refine wr_iload_n C 3 dW_lock_121 rfl rfl ?_
      refine wr_iload_n C 4 dW_lock_122 rfl rfl ?_
      refine ws_locks C (by omega) (by omega) dW_lock_123 ?_
      generalize hs2 : wc_st σe 15 t k kind = σ2
      refine wr_iconst C (v := nI 1) dW_lock_124 (by decide) ?_
      exact wr_iret C hr rfl hlk dW_lock_125 (by subst_vars; simp [fc_lock, *]) (by first | rfl | (subst_vars; simp [fc_lock, *]; done)) (by first | rfl | (subst_vars; simp [fc_lock, *]; done))
    ·
      refine wr_iconst C (v := nI 1) dW_lock_27 (by decide) ?_
      exact wr_iret C hr rfl hlk dW_lock_28 (by subst_vars; simp [fc_lock, *]) (by first | rfl | (subst_vars; simp [fc_lock, *]; done)) (by first | rfl | (subst_vars; simp [fc_lock, *]; done))
  ·
    refine wr_iconst C (v := nI 0) dW_lock_15 (by decide) ?_
    exact wr_iret C hr rfl hlk dW_lock_16 (by subst_vars; simp [fc_lock, *]) (by first | rfl | (subst_vars; simp [fc_lock, *]; done)) (by first | rfl | (subst_vars; simp [fc_lock, *]; done))
set_option maxRecDepth 100000 in
set_option maxHeartbeats 4000000 in
theorem mc_send (l : Launch) (Γ : wc_G) (σ μ : wc_St) (kind : Int32) {t q c : Nat} (ht : t < 5) (hq : q < 3) (hc3 : c < 3) (hc : σ 10 t 0 = nI c) : wc_M l yW_send cW_send 6 none 0 Γ [.ref (Γ.2.2 0), .int kind, .int (nI t), .int (nI q)] σ μ none (fc_send σ kind t q c) μ := by
  refine wc_enter "WaitedCommits" (by decide) rfl (Nat.le_of_ble_eq_true rfl) ?_
  intro P0 E0 S0 M0 A0 B0 T0 K0 C hr hlk
  refine wr_vs (vs' := [(0, .ref (Γ.2.2 0)), (1, .int kind), (2, .int (nI t)), (3, .int (nI q))]) rfl ?_
  refine wr_aload_n C 0 dW_send_0 rfl rfl ?_
  refine wf_WC_transactions C  (Or.inl tw_121) dW_send_1 ?_
  refine wr_iload_n C 2 dW_send_4 rfl rfl ?_
  refine wa_txs C (by omega) dW_send_5 ?_
  refine wf_Tx_coordinator C (by omega) (Or.inr ⟨_, tw_70⟩) dW_send_6 ?_
  refine wr_top (show σ 10 t 0 = nI c by exact hc) ?_
  refine wr_istore C (vs' := [(4, .int (nI c)), (0, .ref (Γ.2.2 0)), (1, .int kind), (2, .int (nI t)), (3, .int (nI q))]) dW_send_9 (by decide) rfl ?_
  refine wr_aload_n C 1 dW_send_11 rfl rfl ?_
  refine wf_WC_slots C  (Or.inl tw_122) dW_send_12 ?_
  refine wr_iload_n C 3 dW_send_15 rfl rfl ?_
  refine wr_iconst C (v := nI 3) dW_send_16 (by decide) ?_
  refine wr_imul C (z := nI (t * 3)) dW_send_17 (pk_mul t 3) ?_
  refine wr_iload_n C 4 dW_send_18 rfl rfl ?_
  refine wr_iadd C (z := nI (t * 3 + q)) dW_send_19 (nI_add (t * 3) q) ?_
  refine wa_slots C (by omega) dW_send_20 ?_
  refine wr_astore C (vs' := [(5, .ref (Γ.2.2 (55 + (t * 3 + q)))), (4, .int (nI c)), (0, .ref (Γ.2.2 0)), (1, .int kind), (2, .int (nI t)), (3, .int (nI q))]) dW_send_21 (by decide) rfl ?_
  refine wr_aload C 0 dW_send_23 rfl ?_
  refine wr_iload_n C 3 dW_send_25 rfl rfl ?_
  refine wp_Msg_kind C (by omega) (Or.inr ⟨_, tw_105⟩) dW_send_26 ?_
  generalize hs1 : wc_st σ 18 (t * 3 + q) 0 kind = σ1
  refine wr_aload C 0 dW_send_29 rfl ?_
  refine wr_iload_n C 3 dW_send_31 rfl rfl ?_
  refine wr_iconst C (v := nI 2) dW_send_32 (by decide) ?_
  refine wr_icmp_ne C (tgt := 41) dW_send_33 (by decide) (fun h1 => ?_) (fun h1 => ?_)
  ·
    refine wr_iload_n C 5 dW_send_41 rfl rfl ?_
    refine wp_Msg_receiver C (by omega) (Or.inr ⟨_, tw_107⟩) dW_send_42 ?_
    generalize hs2 : wc_st σ1 19 (t * 3 + q) 0 (nI q) = σ2
    refine wr_aload C 0 dW_send_45 rfl ?_
    refine wr_aload_n C 2 dW_send_47 rfl rfl ?_
    refine wf_WC_time C  (Or.inl tw_123) dW_send_48 ?_
    refine wr_iconst C (v := nI 1) dW_send_51 (by decide) ?_
    refine wr_iadd C (z := (σ2 23 0 0) + (nI 1)) dW_send_52 rfl ?_
    refine wr_aload_n C 2 dW_send_53 rfl rfl ?_
    refine wf_WC_sites C  (Or.inl tw_119) dW_send_54 ?_
    refine wr_iload C 1 dW_send_57 rfl ?_
    refine wa_sites C (by omega) dW_send_59 ?_
    refine wf_Site_delay C (by omega) (Or.inr ⟨_, tw_36⟩) dW_send_60 ?_
    refine wr_iadd C (z := ((σ2 23 0 0) + (nI 1)) + (σ2 2 c 0)) dW_send_63 rfl ?_
    refine wr_aload_n C 2 dW_send_64 rfl rfl ?_
    refine wf_WC_sites C  (Or.inl tw_119) dW_send_65 ?_
    refine wr_iload_n C 5 dW_send_68 rfl rfl ?_
    refine wa_sites C (by omega) dW_send_69 ?_
    refine wf_Site_delay C (by omega) (Or.inr ⟨_, tw_36⟩) dW_send_70 ?_
    refine wr_iadd C (z := (((σ2 23 0 0) + (nI 1)) + (σ2 2 c 0)) + (σ2 2 q 0)) dW_send_73 rfl ?_
    refine wp_Msg_arrival C (by omega) (Or.inr ⟨_, tw_109⟩) dW_send_74 ?_
    generalize hs3 : wc_st σ2 20 (t * 3 + q) 0 ((((σ2 23 0 0) + (nI 1)) + (σ2 2 c 0)) + (σ2 2 q 0)) = σ3
    refine wr_aload C 0 dW_send_77 rfl ?_
    refine wr_aload_n C 2 dW_send_79 rfl rfl ?_
    refine wf_WC_sent C  (Or.inl tw_125) dW_send_80 ?_
    refine wp_Msg_order C (by omega) (Or.inr ⟨_, tw_111⟩) dW_send_83 ?_
    generalize hs4 : wc_st σ3 21 (t * 3 + q) 0 (σ3 25 0 0) = σ4
    refine wr_aload_n C 2 dW_send_86 rfl rfl ?_
    refine wr_dup C dW_send_87 rfl ?_
    refine wf_WC_sent C  (Or.inl tw_125) dW_send_88 ?_
    refine wr_iconst C (v := nI 1) dW_send_91 (by decide) ?_
    refine wr_iadd C (z := (σ4 25 0 0) + (nI 1)) dW_send_92 rfl ?_
    refine wp_WC_sent C  (Or.inl tw_125) dW_send_93 ?_
    generalize hs5 : wc_st σ4 25 0 0 ((σ4 25 0 0) + (nI 1)) = σ5
    refine wr_aload_n C 2 dW_send_96 rfl rfl ?_
    refine wr_dup C dW_send_97 rfl ?_
    refine wf_WC_underWay C  (Or.inl tw_126) dW_send_98 ?_
    refine wr_iconst C (v := nI 1) dW_send_101 (by decide) ?_
    refine wr_iadd C (z := (σ5 26 0 0) + (nI 1)) dW_send_102 rfl ?_
    refine wp_WC_underWay C  (Or.inl tw_126) dW_send_103 ?_
    generalize hs6 : wc_st σ5 26 0 0 ((σ5 26 0 0) + (nI 1)) = σ6
    exact wr_vret C hr hlk dW_send_106 rfl (by first | rfl | (subst_vars; simp [fc_send, *]; done)) (by first | rfl | (subst_vars; simp [fc_send, *]; done))
  ·
    refine wr_iload C 1 dW_send_36 rfl ?_
    refine wr_goto C (tgt := 42) dW_send_38 (by decide) ?_
    refine wp_Msg_receiver C (by omega) (Or.inr ⟨_, tw_107⟩) dW_send_42 ?_
    generalize hs7 : wc_st σ1 19 (t * 3 + q) 0 (nI c) = σ7
    refine wr_aload C 0 dW_send_45 rfl ?_
    refine wr_aload_n C 2 dW_send_47 rfl rfl ?_
    refine wf_WC_time C  (Or.inl tw_123) dW_send_48 ?_
    refine wr_iconst C (v := nI 1) dW_send_51 (by decide) ?_
    refine wr_iadd C (z := (σ7 23 0 0) + (nI 1)) dW_send_52 rfl ?_
    refine wr_aload_n C 2 dW_send_53 rfl rfl ?_
    refine wf_WC_sites C  (Or.inl tw_119) dW_send_54 ?_
    refine wr_iload C 1 dW_send_57 rfl ?_
    refine wa_sites C (by omega) dW_send_59 ?_
    refine wf_Site_delay C (by omega) (Or.inr ⟨_, tw_36⟩) dW_send_60 ?_
    refine wr_iadd C (z := ((σ7 23 0 0) + (nI 1)) + (σ7 2 c 0)) dW_send_63 rfl ?_
    refine wr_aload_n C 2 dW_send_64 rfl rfl ?_
    refine wf_WC_sites C  (Or.inl tw_119) dW_send_65 ?_
    refine wr_iload_n C 5 dW_send_68 rfl rfl ?_
    refine wa_sites C (by omega) dW_send_69 ?_
    refine wf_Site_delay C (by omega) (Or.inr ⟨_, tw_36⟩) dW_send_70 ?_
    refine wr_iadd C (z := (((σ7 23 0 0) + (nI 1)) + (σ7 2 c 0)) + (σ7 2 q 0)) dW_send_73 rfl ?_
    refine wp_Msg_arrival C (by omega) (Or.inr ⟨_, tw_109⟩) dW_send_74 ?_
    generalize hs8 : wc_st σ7 20 (t * 3 + q) 0 ((((σ7 23 0 0) + (nI 1)) + (σ7 2 c 0)) + (σ7 2 q 0)) = σ8
    refine wr_aload C 0 dW_send_77 rfl ?_
    refine wr_aload_n C 2 dW_send_79 rfl rfl ?_
    refine wf_WC_sent C  (Or.inl tw_125) dW_send_80 ?_
    refine wp_Msg_order C (by omega) (Or.inr ⟨_, tw_111⟩) dW_send_83 ?_
    generalize hs9 : wc_st σ8 21 (t * 3 + q) 0 (σ8 25 0 0) = σ9
    refine wr_aload_n C 2 dW_send_86 rfl rfl ?_
    refine wr_dup C dW_send_87 rfl ?_
    refine wf_WC_sent C  (Or.inl tw_125) dW_send_88 ?_
    refine wr_iconst C (v := nI 1) dW_send_91 (by decide) ?_
    refine wr_iadd C (z := (σ9 25 0 0) + (nI 1)) dW_send_92 rfl ?_
    refine wp_WC_sent C  (Or.inl tw_125) dW_send_93 ?_
    generalize hs10 : wc_st σ9 25 0 0 ((σ9 25 0 0) + (nI 1)) = σ10
    refine wr_aload_n C 2 dW_send_96 rfl rfl ?_
    refine wr_dup C dW_send_97 rfl ?_
    refine wf_WC_underWay C  (Or.inl tw_126) dW_send_98 ?_
    refine wr_iconst C (v := nI 1) dW_send_101 (by decide) ?_
    refine wr_iadd C (z := (σ10 26 0 0) + (nI 1)) dW_send_102 rfl ?_
    refine wp_WC_underWay C  (Or.inl tw_126) dW_send_103 ?_
    generalize hs11 : wc_st σ10 26 0 0 ((σ10 26 0 0) + (nI 1)) = σ11
    exact wr_vret C hr hlk dW_send_106 rfl (by first | rfl | (subst_vars; simp [fc_send, *]; done)) (by first | rfl | (subst_vars; simp [fc_send, *]; done))
