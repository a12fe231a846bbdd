set_option maxRecDepth 100000 in
set_option maxHeartbeats 4000000 in
theorem mn_sia {P0 : Program} {l : Launch} {E0 : Env} {S0 : State} {M0 : MethodId} {A0 : Array Value} {B0 : List Frame} {T0 : Method} {K0 : Code} {Γ : wc_G} {A : Nat → Prop} {v : Option Value} {σ' μ' : wc_St} (C : wc_C P0 S0 M0 A0 K0 cM_stampIfAll 6 "WaitedCommitsModel" Γ A) (hr : T0.sig.returnType = none) (hlk : T0.locks = false) {t : Nat} (ht : t < 5) (σ μ : wc_St) (hl : fm_least μ t < 3) (r : Option Int32) (hx : ∀ y, r = some y → wc_K P0 l E0 (wc_rm 2) S0 M0 A0 B0 T0 K0 6 Γ A (MQ B0 (wc_Qw Γ A v σ' μ') A0 S0 0 0 A) 0 0 139 [(4, .int (nI 3)), (3, .int y), (2, .int (nI (fm_least μ t))), (0, .ref (Γ.2.2 70)), (1, .int (nI t))] [] σ μ) (hn : r = none → none = v ∧ σ = σ' ∧ μ = μ') : ∀ (n : Nat) (q : Nat) (y : Int32), q + n = 3 → fm_sia μ t n q y = r → wc_K P0 l E0 (wc_rm 2) S0 M0 A0 B0 T0 K0 6 Γ A (MQ B0 (wc_Qw Γ A v σ' μ') A0 S0 0 0 A) 0 0 46 [(4, .int (nI q)), (3, .int y), (2, .int (nI (fm_least μ t))), (0, .ref (Γ.2.2 70)), (1, .int (nI t))] [] σ μ := by
  intro n
  induction n with
  | zero =>
    intro q y hq hres
    obtain rfl : q = 3 := by omega
    refine wr_iload C 0 dM_stampIfAll_46 rfl ?_
    refine wr_iconst C (v := nI 3) dM_stampIfAll_48 (by decide) ?_
    refine wr_icmp_ge C (tgt := 139) dM_stampIfAll_49 (by decide) (fun _ => ?_) (fun h1 => absurd (by decide) h1)
    exact hx y hres.symm
  | succ n ih =>
    intro q y hq hres
    refine wr_iload C 0 dM_stampIfAll_46 rfl ?_
    refine wr_iconst C (v := nI 3) dM_stampIfAll_48 (by decide) ?_
    refine wr_icmp_ge C (tgt := 139) dM_stampIfAll_49 (by decide) (fun h1 => absurd h1 (wc_noge (by omega) (by omega) (by omega))) (fun _ => ?_)
    refine wr_aload_n C 3 dM_stampIfAll_52 rfl rfl ?_
    refine wf_Model_arrives C  (Or.inl tw_368) dM_stampIfAll_53 ?_
    refine wr_iconst C (v := nI 3) dM_stampIfAll_56 (by decide) ?_
    refine wr_iload_n C 4 dM_stampIfAll_57 rfl rfl ?_
    refine wr_imul C (z := nI (3 * t)) dM_stampIfAll_58 (pk_mul 3 t) ?_
    refine wr_iload C 0 dM_stampIfAll_59 rfl ?_
    refine wr_iadd C (z := nI (3 * t + q)) dM_stampIfAll_61 (nI_add (3 * t) q) ?_
    refine wa_m_arrives C (by omega) dM_stampIfAll_62 ?_
    refine wr_if_gt C (tgt := 83) dM_stampIfAll_63 (by decide) (fun h2 => ?_) (fun h2 => ?_)
    ·
      refine wr_iconst C (v := nI 1) dM_stampIfAll_83 (by decide) ?_
      refine wr_goto C (tgt := 88) dM_stampIfAll_84 (by decide) ?_
      refine wr_istore C (vs' := [(5, .int (nI 1)), (4, .int (nI q)), (3, .int y), (2, .int (nI (fm_least μ t))), (0, .ref (Γ.2.2 70)), (1, .int (nI t))]) dM_stampIfAll_88 (by decide) rfl ?_
      refine wr_iload C 0 dM_stampIfAll_90 rfl ?_
      refine wr_if_eq C (tgt := 96) dM_stampIfAll_92 (by decide) (fun h3 => absurd h3 (by decide)) (fun _ => ?_)
      exact wr_vret C hr hlk dM_stampIfAll_95 (hn (by rw [← hres]; simp [fm_sia, *])).1 (by first | exact (hn (by rw [← hres]; simp [fm_sia, *])).2.1 | exact (hn (by rw [← hres]; simp [fm_sia, *])).2.2) (by first | exact (hn (by rw [← hres]; simp [fm_sia, *])).2.1 | exact (hn (by rw [← hres]; simp [fm_sia, *])).2.2)
    ·
      refine wr_aload_n C 3 dM_stampIfAll_66 rfl rfl ?_
      refine wf_Model_arrives C  (Or.inl tw_368) dM_stampIfAll_67 ?_
      refine wr_bipush C (v := nI 15) dM_stampIfAll_70 (by decide) ?_
      refine wr_iconst C (v := nI 3) dM_stampIfAll_72 (by decide) ?_
      refine wr_iload_n C 4 dM_stampIfAll_73 rfl rfl ?_
      refine wr_imul C (z := nI (3 * t)) dM_stampIfAll_74 (pk_mul 3 t) ?_
      refine wr_iadd C (z := nI (15 + 3 * t)) dM_stampIfAll_75 (nI_add 15 (3 * t)) ?_
      refine wr_iload C 0 dM_stampIfAll_76 rfl ?_
      refine wr_iadd C (z := nI (15 + 3 * t + q)) dM_stampIfAll_78 (nI_add (15 + 3 * t) q) ?_
      refine wa_m_arrives C (by omega) dM_stampIfAll_79 ?_
      refine wr_if_le C (tgt := 87) dM_stampIfAll_80 (by decide) (fun h4 => ?_) (fun h4 => ?_)
      ·
        refine wr_iconst C (v := nI 0) dM_stampIfAll_87 (by decide) ?_
        refine wr_istore C (vs' := [(5, .int (nI 0)), (4, .int (nI q)), (3, .int y), (2, .int (nI (fm_least μ t))), (0, .ref (Γ.2.2 70)), (1, .int (nI t))]) dM_stampIfAll_88 (by decide) rfl ?_
        refine wr_iload C 0 dM_stampIfAll_90 rfl ?_
        refine wr_if_eq C (tgt := 96) dM_stampIfAll_92 (by decide) (fun _ => ?_) (fun h5 => absurd (by decide) h5)
        refine wr_aload_n C 4 dM_stampIfAll_96 rfl rfl ?_
        refine wr_iload_n C 5 dM_stampIfAll_97 rfl rfl ?_
        refine wr_iload C 1 dM_stampIfAll_98 rfl ?_
        refine wr_callV1 C (As := [.int (nI t), .int (nI q)]) (rest := []) (mm_part l Γ σ μ (t := t) (q := q) (by omega) (by omega)) cb_M_takesPart (Or.inl tw_417) tw_418 tw_560 (by omega) (wc_c_Model) rfl (by decide) (by decide) rfl rfl (Nat.le_of_ble_eq_true rfl) ⟨Nat.le_refl _, Nat.le_refl _⟩ dM_stampIfAll_100 ?_
        refine wr_if_eq C (tgt := 133) dM_stampIfAll_103 (by decide) (fun h6 => ?_) (fun h6 => ?_)
        ·
          refine wr_iinc C (v := nI (q + 1)) (vs' := [(4, .int (nI (q + 1))), (5, .int (nI 0)), (3, .int y), (2, .int (nI (fm_least μ t))), (0, .ref (Γ.2.2 70)), (1, .int (nI t))]) 1 dM_stampIfAll_133 rfl (wc_inc1 q) (by decide) rfl ?_
          refine wr_goto C (tgt := 46) dM_stampIfAll_136 (by decide) ?_
          refine wr_sub [0, 2, 3, 4, 5] rfl ?_
          exact ih (q + 1) y (by omega) (by rw [← hres]; simp [fm_sia, *])
        ·
          refine wr_aload_n C 4 dM_stampIfAll_106 rfl rfl ?_
          refine wf_Model_mark C  (Or.inl tw_366) dM_stampIfAll_107 ?_
          refine wr_iconst C (v := nI 3) dM_stampIfAll_110 (by decide) ?_
          refine wr_iload_n C 5 dM_stampIfAll_111 rfl rfl ?_
          refine wr_imul C (z := nI (3 * t)) dM_stampIfAll_112 (pk_mul 3 t) ?_
          refine wr_iload C 1 dM_stampIfAll_113 rfl ?_
          refine wr_iadd C (z := nI (3 * t + q)) dM_stampIfAll_115 (nI_add (3 * t) q) ?_
          refine wa_m_mark C (by omega) dM_stampIfAll_116 ?_
          refine wr_iload_n C 2 dM_stampIfAll_117 rfl rfl ?_
          refine wr_icmp_le C (tgt := 133) dM_stampIfAll_118 (by decide) (fun h7 => ?_) (fun h7 => ?_)
          ·
            refine wr_iinc C (v := nI (q + 1)) (vs' := [(4, .int (nI (q + 1))), (5, .int (nI 0)), (3, .int y), (2, .int (nI (fm_least μ t))), (0, .ref (Γ.2.2 70)), (1, .int (nI t))]) 1 dM_stampIfAll_133 rfl (wc_inc1 q) (by decide) rfl ?_
            refine wr_goto C (tgt := 46) dM_stampIfAll_136 (by decide) ?_
            refine wr_sub [0, 2, 3, 4, 5] rfl ?_
            exact ih (q + 1) y (by omega) (by rw [← hres]; simp [fm_sia, *])
          ·
            refine wr_aload_n C 4 dM_stampIfAll_121 rfl rfl ?_
            refine wf_Model_mark C  (Or.inl tw_366) dM_stampIfAll_122 ?_
            refine wr_iconst C (v := nI 3) dM_stampIfAll_125 (by decide) ?_
            refine wr_iload_n C 5 dM_stampIfAll_126 rfl rfl ?_
            refine wr_imul C (z := nI (3 * t)) dM_stampIfAll_127 (pk_mul 3 t) ?_
            refine wr_iload C 1 dM_stampIfAll_128 rfl ?_
            refine wr_iadd C (z := nI (3 * t + q)) dM_stampIfAll_130 (nI_add (3 * t) q) ?_
            refine wa_m_mark C (by omega) dM_stampIfAll_131 ?_
            refine wr_istore_n C (vs' := [(3, .int (μ 51 0 (3 * t + q))), (5, .int (nI 0)), (4, .int (nI q)), (2, .int (nI (fm_least μ t))), (0, .ref (Γ.2.2 70)), (1, .int (nI t))]) dM_stampIfAll_132 rfl (by decide) rfl ?_
            refine wr_iinc C (v := nI (q + 1)) (vs' := [(4, .int (nI (q + 1))), (3, .int (μ 51 0 (3 * t + q))), (5, .int (nI 0)), (2, .int (nI (fm_least μ t))), (0, .ref (Γ.2.2 70)), (1, .int (nI t))]) 2 dM_stampIfAll_133 rfl (wc_inc1 q) (by decide) rfl ?_
            refine wr_goto C (tgt := 46) dM_stampIfAll_136 (by decide) ?_
            refine wr_sub [0, 1, 3, 4, 5] rfl ?_
            exact ih (q + 1) (μ 51 0 (3 * t + q)) (by omega) (by rw [← hres]; simp [fm_sia, *])
      ·
        refine wr_iconst C (v := nI 1) dM_stampIfAll_83 (by decide) ?_
        refine wr_goto C (tgt := 88) dM_stampIfAll_84 (by decide) ?_
        refine wr_istore C (vs' := [(5, .int (nI 1)), (4, .int (nI q)), (3, .int y), (2, .int (nI (fm_least μ t))), (0, .ref (Γ.2.2 70)), (1, .int (nI t))]) dM_stampIfAll_88 (by decide) rfl ?_
        refine wr_iload C 0 dM_stampIfAll_90 rfl ?_
        refine wr_if_eq C (tgt := 96) dM_stampIfAll_92 (by decide) (fun h8 => absurd h8 (by decide)) (fun _ => ?_)
        exact wr_vret C hr hlk dM_stampIfAll_95 (hn (by rw [← hres]; simp [fm_sia, *])).1 (by first | exact (hn (by rw [← hres]; simp [fm_sia, *])).2.1 | exact (hn (by rw [← hres]; simp [fm_sia, *])).2.2) (by first | exact (hn (by rw [← hres]; simp [fm_sia, *])).2.1 | exact (hn (by rw [← hres]; simp [fm_sia, *])).2.2)
set_option maxRecDepth 100000 in
set_option maxHeartbeats 4000000 in
theorem mm_sia (l : Launch) (Γ : wc_G) (σ μ : wc_St) {t : Nat} (ht : t < 5) (hl : fm_least μ t < 3) : wc_M l yM_stampIfAll cM_stampIfAll 6 none 2 Γ [.ref (Γ.2.2 70), .int (nI t)] σ μ none σ (fm_stampIfAll μ t) := by
  refine wc_enter "WaitedCommitsModel" (by decide) rfl (Nat.le_of_ble_eq_true rfl) ?_
  intro P0 E0 S0 M0 A0 B0 T0 K0 C hr hlk
  refine wr_vs (vs' := [(0, .ref (Γ.2.2 70)), (1, .int (nI t))]) rfl ?_
  refine wr_aload_n C 0 dM_stampIfAll_0 rfl rfl ?_
  refine wr_iload_n C 1 dM_stampIfAll_1 rfl rfl ?_
  refine wr_callV1 C (As := [.int (nI t)]) (rest := []) (mm_least l Γ σ μ (t := t) (by omega)) cb_M_least (Or.inl tw_414) tw_415 tw_559 (by omega) (wc_c_Model) rfl (by decide) (by decide) rfl rfl (Nat.le_of_ble_eq_true rfl) ⟨Nat.le_refl _, Nat.le_refl _⟩ dM_stampIfAll_2 ?_
  have hle0_0 := fm_least_le μ t
  refine wr_istore_n C (vs' := [(2, .int (nI (fm_least μ t))), (0, .ref (Γ.2.2 70)), (1, .int (nI t))]) dM_stampIfAll_5 rfl (by decide) rfl ?_
  refine wr_aload_n C 1 dM_stampIfAll_6 rfl rfl ?_
  refine wf_Model_floor C  (Or.inl tw_360) dM_stampIfAll_7 ?_
  refine wr_iload_n C 2 dM_stampIfAll_10 rfl rfl ?_
  refine wa_m_floor C (by omega) dM_stampIfAll_11 ?_
  refine wr_aload_n C 1 dM_stampIfAll_12 rfl rfl ?_
  refine wf_Model_bound C  (Or.inl tw_351) dM_stampIfAll_13 ?_
  refine wr_iload_n C 0 dM_stampIfAll_16 rfl rfl ?_
  refine wa_m_bound C (by omega) dM_stampIfAll_17 ?_
  refine wr_iconst C (v := nI 1) dM_stampIfAll_18 (by decide) ?_
  refine wr_iadd C (z := (μ 36 0 (fm_least μ t)) + (nI 1)) dM_stampIfAll_19 rfl ?_
  refine wr_icmp_le C (tgt := 32) dM_stampIfAll_20 (by decide) (fun h1 => ?_) (fun h1 => ?_)
  ·
    refine wr_aload_n C 1 dM_stampIfAll_32 rfl rfl ?_
    refine wf_Model_bound C  (Or.inl tw_351) dM_stampIfAll_33 ?_
    refine wr_iload_n C 0 dM_stampIfAll_36 rfl rfl ?_
    refine wa_m_bound C (by omega) dM_stampIfAll_37 ?_
    refine wr_iconst C (v := nI 1) dM_stampIfAll_38 (by decide) ?_
    refine wr_iadd C (z := (μ 36 0 (fm_least μ t)) + (nI 1)) dM_stampIfAll_39 rfl ?_
    refine wr_istore_n C (vs' := [(3, .int ((μ 36 0 (fm_least μ t)) + (nI 1))), (2, .int (nI (fm_least μ t))), (0, .ref (Γ.2.2 70)), (1, .int (nI t))]) dM_stampIfAll_40 rfl (by decide) rfl ?_
    refine wr_iload_n C 1 dM_stampIfAll_41 rfl rfl ?_
    refine wr_iconst C (v := nI 1) dM_stampIfAll_42 (by decide) ?_
    refine wr_iadd C (z := nI (fm_least μ t + 1)) dM_stampIfAll_43 (nI_add (fm_least μ t) 1) ?_
    refine wr_istore C (vs' := [(4, .int (nI (fm_least μ t + 1))), (3, .int ((μ 36 0 (fm_least μ t)) + (nI 1))), (2, .int (nI (fm_least μ t))), (0, .ref (Γ.2.2 70)), (1, .int (nI t))]) dM_stampIfAll_44 (by decide) rfl ?_
    refine wr_sub [0, 1, 2, 3, 4] rfl ?_
    refine mn_sia C hr hlk ht σ μ hl _ (fun y hy => ?_) (fun hy => ⟨rfl, rfl, by unfold fm_stampIfAll fm_s0; first | rw [if_pos h1, hy] | rw [if_neg h1, hy]⟩) (2 - fm_least μ t) (fm_least μ t + 1) ((μ 36 0 (fm_least μ t)) + (nI 1)) (by omega) rfl
    refine wr_aload_n C 3 dM_stampIfAll_139 rfl rfl ?_
    refine wf_Model_stamp C  (Or.inl tw_359) dM_stampIfAll_140 ?_
    refine wr_iload_n C 4 dM_stampIfAll_143 rfl rfl ?_
    refine wr_iload_n C 1 dM_stampIfAll_144 rfl rfl ?_
    refine ws_m_stamp C (by omega) dM_stampIfAll_145 ?_
    generalize hs1 : wc_st μ 44 0 t y = μ1
    refine wr_aload_n C 3 dM_stampIfAll_146 rfl rfl ?_
    refine wr_iload_n C 4 dM_stampIfAll_147 rfl rfl ?_
    refine wr_iload_n C 2 dM_stampIfAll_148 rfl rfl ?_
    refine wr_iload_n C 1 dM_stampIfAll_149 rfl rfl ?_
    refine wr_callV0 C (As := [.int (nI t), .int (nI (fm_least μ t)), .int y]) (rest := []) (mm_put l Γ σ μ1 (t := t) (q := fm_least μ t) (by omega) (by omega) y) cb_M_put (Or.inl tw_464) tw_465 tw_570 (by omega) (wc_c_Model) rfl (by decide) (by decide) rfl rfl (Nat.le_of_ble_eq_true rfl) ⟨Nat.le_refl _, Nat.le_refl _⟩ dM_stampIfAll_150 ?_
    generalize hs2 : fm_put μ1 t (fm_least μ t) y = μ2
    refine wr_aload_n C 3 dM_stampIfAll_153 rfl rfl ?_
    refine wf_Model_state C  (Or.inl tw_357) dM_stampIfAll_154 ?_
    refine wr_iload_n C 4 dM_stampIfAll_157 rfl rfl ?_
    refine wr_iconst C (v := nI 3) dM_stampIfAll_158 (by decide) ?_
    refine ws_m_state C (by omega) dM_stampIfAll_159 ?_
    generalize hs3 : wc_st μ2 42 0 t (nI 3) = μ3
    exact wr_vret C hr hlk dM_stampIfAll_160 rfl (by first | rfl | (subst_vars; unfold fm_stampIfAll fm_s0; first | (rw [if_pos h1, hy]; done) | (rw [if_neg h1, hy]; done))) (by first | rfl | (subst_vars; unfold fm_stampIfAll fm_s0; first | (rw [if_pos h1, hy]; done) | (rw [if_neg h1, hy]; done)))
  ·
    refine wr_aload_n C 1 dM_stampIfAll_23 rfl rfl ?_
    refine wf_Model_floor C  (Or.inl tw_360) dM_stampIfAll_24 ?_
    refine wr_iload_n C 2 dM_stampIfAll_27 rfl rfl ?_
    refine wa_m_floor C (by omega) dM_stampIfAll_28 ?_
    refine wr_goto C (tgt := 40) dM_stampIfAll_29 (by decide) ?_
    refine wr_istore_n C (vs' := [(3, .int (μ 45 0 t)), (2, .int (nI (fm_least μ t))), (0, .ref (Γ.2.2 70)), (1, .int (nI t))]) dM_stampIfAll_40 rfl (by decide) rfl ?_
    refine wr_iload_n C 1 dM_stampIfAll_41 rfl rfl ?_
    refine wr_iconst C (v := nI 1) dM_stampIfAll_42 (by decide) ?_
    refine wr_iadd C (z := nI (fm_least μ t + 1)) dM_stampIfAll_43 (nI_add (fm_least μ t) 1) ?_
    refine wr_istore C (vs' := [(4, .int (nI (fm_least μ t + 1))), (3, .int (μ 45 0 t)), (2, .int (nI (fm_least μ t))), (0, .ref (Γ.2.2 70)), (1, .int (nI t))]) dM_stampIfAll_44 (by decide) rfl ?_
    refine wr_sub [0, 1, 2, 3, 4] rfl ?_
    refine mn_sia C hr hlk ht σ μ hl _ (fun y hy => ?_) (fun hy => ⟨rfl, rfl, by unfold fm_stampIfAll fm_s0; first | rw [if_pos h1, hy] | rw [if_neg h1, hy]⟩) (2 - fm_least μ t) (fm_least μ t + 1) (μ 45 0 t) (by omega) rfl
    refine wr_aload_n C 3 dM_stampIfAll_139 rfl rfl ?_
    refine wf_Model_stamp C  (Or.inl tw_359) dM_stampIfAll_140 ?_
    refine wr_iload_n C 4 dM_stampIfAll_143 rfl rfl ?_
    refine wr_iload_n C 1 dM_stampIfAll_144 rfl rfl ?_
    refine ws_m_stamp C (by omega) dM_stampIfAll_145 ?_
    generalize hs4 : wc_st μ 44 0 t y = μ4
    refine wr_aload_n C 3 dM_stampIfAll_146 rfl rfl ?_
    refine wr_iload_n C 4 dM_stampIfAll_147 rfl rfl ?_
    refine wr_iload_n C 2 dM_stampIfAll_148 rfl rfl ?_
    refine wr_iload_n C 1 dM_stampIfAll_149 rfl rfl ?_
    refine wr_callV0 C (As := [.int (nI t), .int (nI (fm_least μ t)), .int y]) (rest := []) (mm_put l Γ σ μ4 (t := t) (q := fm_least μ t) (by omega) (by omega) y) cb_M_put (Or.inl tw_464) tw_465 tw_570 (by omega) (wc_c_Model) rfl (by decide) (by decide) rfl rfl (Nat.le_of_ble_eq_true rfl) ⟨Nat.le_refl _, Nat.le_refl _⟩ dM_stampIfAll_150 ?_
    generalize hs5 : fm_put μ4 t (fm_least μ t) y = μ5
    refine wr_aload_n C 3 dM_stampIfAll_153 rfl rfl ?_
    refine wf_Model_state C  (Or.inl tw_357) dM_stampIfAll_154 ?_
    refine wr_iload_n C 4 dM_stampIfAll_157 rfl rfl ?_
    refine wr_iconst C (v := nI 3) dM_stampIfAll_158 (by decide) ?_
    refine ws_m_state C (by omega) dM_stampIfAll_159 ?_
    generalize hs6 : wc_st μ5 42 0 t (nI 3) = μ6
    exact wr_vret C hr hlk dM_stampIfAll_160 rfl (by first | rfl | (subst_vars; unfold fm_stampIfAll fm_s0; first | (rw [if_pos h1, hy]; done) | (rw [if_neg h1, hy]; done))) (by first | rfl | (subst_vars; unfold fm_stampIfAll fm_s0; first | (rw [if_pos h1, hy]; done) | (rw [if_neg h1, hy]; done)))
set_option maxRecDepth 100000 in
set_option maxHeartbeats 4000000 in
theorem mn_fin {P0 : Program} {l : Launch} {E0 : Env} {S0 : State} {M0 : MethodId} {A0 : Array Value} {B0 : List Frame} {T0 : Method} {K0 : Code} {Γ : wc_G} {A : Nat → Prop} {v : Option Value} {σ' μ' : wc_St} (C : wc_C P0 S0 M0 A0 K0 cM_finish 4 "WaitedCommitsModel" Γ A) (hr : T0.sig.returnType = none) (hlk : T0.locks = false) {t : Nat} (ht : t < 5) {q : Nat} (hq : q < 3) (σ : wc_St) (μe : wc_St) (hx : wc_K P0 l E0 (wc_rm 1) S0 M0 A0 B0 T0 K0 4 Γ A (MQ B0 (wc_Qw Γ A v σ' μ') A0 S0 0 0 A) 0 0 107 [(3, .int (nI (9 + q))), (0, .ref (Γ.2.2 70)), (1, .int (nI t)), (2, .int (nI q))] [] σ μe) : ∀ (n : Nat) (k : Nat) (μ : wc_St) (V : Nat), k + 3 * n = 9 + q → μ 37 0 0 = nI V → V + fm_w μ t n k ≤ 512 → fm_finL t n k μ = μe → wc_K P0 l E0 (wc_rm 1) S0 M0 A0 B0 T0 K0 4 Γ A (MQ B0 (wc_Qw Γ A v σ' μ') A0 S0 0 0 A) 0 0 2 [(3, .int (nI k)), (0, .ref (Γ.2.2 70)), (1, .int (nI t)), (2, .int (nI q))] [] σ μ := by
  intro n
  induction n with
  | zero =>
    intro k μ V hk hV hb hres
    obtain rfl : k = 9 + q := by omega
    refine wr_iload_n C 0 dM_finish_2 rfl rfl ?_
    refine wr_bipush C (v := nI 9) dM_finish_3 (by decide) ?_
    refine wr_icmp_ge C (tgt := 107) dM_finish_5 (by decide) (fun _ => ?_) (fun h1 => absurd (wc_yesge (by omega) (by omega) (by omega)) h1)
    obtain rfl : μ = μe := hres
    exact hx
  | succ n ih =>
    intro k μ V hk hV hb hres
    refine wr_iload_n C 0 dM_finish_2 rfl rfl ?_
    refine wr_bipush C (v := nI 9) dM_finish_3 (by decide) ?_
    refine wr_icmp_ge C (tgt := 107) dM_finish_5 (by decide) (fun h1 => absurd h1 (wc_noge (by omega) (by omega) (by omega))) (fun _ => ?_)
    refine wr_aload_n C 1 dM_finish_8 rfl rfl ?_
    refine wf_Model_wrote C  (Or.inl tw_363) dM_finish_9 ?_
    refine wr_bipush C (v := nI 9) dM_finish_12 (by decide) ?_
    refine wr_iload_n C 2 dM_finish_14 rfl rfl ?_
    refine wr_imul C (z := nI (9 * t)) dM_finish_15 (pk_mul 9 t) ?_
    refine wr_iload_n C 0 dM_finish_16 rfl rfl ?_
    refine wr_iadd C (z := nI (9 * t + k)) dM_finish_17 (nI_add (9 * t) k) ?_
    refine wa_m_wrote C (by omega) dM_finish_18 ?_
    refine wr_if_eq C (tgt := 77) dM_finish_19 (by decide) (fun h2 => ?_) (fun h2 => ?_)
    ·
      refine wr_aload_n C 1 dM_finish_77 rfl rfl ?_
      refine wf_Model_lock C  (Or.inl tw_362) dM_finish_78 ?_
      refine wr_bipush C (v := nI 9) dM_finish_81 (by decide) ?_
      refine wr_iload_n C 2 dM_finish_83 rfl rfl ?_
      refine wr_imul C (z := nI (9 * t)) dM_finish_84 (pk_mul 9 t) ?_
      refine wr_iload_n C 0 dM_finish_85 rfl rfl ?_
      refine wr_iadd C (z := nI (9 * t + k)) dM_finish_86 (nI_add (9 * t) k) ?_
      refine wr_iconst C (v := nI 0) dM_finish_87 (by decide) ?_
      refine ws_m_lock C (by omega) dM_finish_88 ?_
      generalize hs1 : wc_st μ 47 0 (9 * t + k) (nI 0) = μ1
      refine wr_aload_n C 1 dM_finish_89 rfl rfl ?_
      refine wf_Model_wrote C  (Or.inl tw_363) dM_finish_90 ?_
      refine wr_bipush C (v := nI 9) dM_finish_93 (by decide) ?_
      refine wr_iload_n C 2 dM_finish_95 rfl rfl ?_
      refine wr_imul C (z := nI (9 * t)) dM_finish_96 (pk_mul 9 t) ?_
      refine wr_iload_n C 0 dM_finish_97 rfl rfl ?_
      refine wr_iadd C (z := nI (9 * t + k)) dM_finish_98 (nI_add (9 * t) k) ?_
      refine wr_iconst C (v := nI 0) dM_finish_99 (by decide) ?_
      refine ws_m_wrote C (by decide) (by omega) dM_finish_100 ?_
      generalize hs2 : wc_st μ1 48 0 (9 * t + k) (nI 0) = μ2
      refine wr_iinc C (v := nI (k + 3)) (vs' := [(3, .int (nI (k + 3))), (0, .ref (Γ.2.2 70)), (1, .int (nI t)), (2, .int (nI q))]) 0 dM_finish_101 rfl (wc_inc3 k) (by decide) rfl ?_
      refine wr_goto C (tgt := 2) dM_finish_104 (by decide) ?_
      have he : fm_fin1 μ t k = μ2 := by subst_vars; first | (rw [fm_fin1, if_pos h2]; rfl) | (rw [fm_fin1, if_neg h2, fm_add, fm_vers_eq hV (by omega)]; rfl)
      refine wr_sub [0, 1, 2, 3] rfl ?_
      exact ih (k + 3) μ2 V (by omega) (by clear he; subst_vars; exact hV) (by rw [← he, fm_fin1, if_pos h2, fm_w_clr]; rw [fm_w, if_pos h2] at hb; omega) (by rw [← hres, ← he]; rfl)
    ·
      have hV5 : V < 512 := by rw [fm_w, if_neg h2] at hb; omega
      refine wr_aload_n C 1 dM_finish_22 rfl rfl ?_
      refine wf_Model_versionKey C  (Or.inl tw_353) dM_finish_23 ?_
      refine wr_aload_n C 1 dM_finish_26 rfl rfl ?_
      refine wf_Model_versions C  (Or.inl tw_352) dM_finish_27 ?_
      refine wr_top (show μ 37 0 0 = nI V by subst_vars; exact hV) ?_
      refine wr_iload_n C 0 dM_finish_30 rfl rfl ?_
      refine ws_m_versionKey C (by omega) dM_finish_31 ?_
      generalize hs3 : wc_st μ 38 0 V (nI k) = μ3
      refine wr_aload_n C 1 dM_finish_32 rfl rfl ?_
      refine wf_Model_versionStamp C  (Or.inl tw_354) dM_finish_33 ?_
      refine wr_aload_n C 1 dM_finish_36 rfl rfl ?_
      refine wf_Model_versions C  (Or.inl tw_352) dM_finish_37 ?_
      refine wr_top (show μ3 37 0 0 = nI V by subst_vars; exact hV) ?_
      refine wr_aload_n C 1 dM_finish_40 rfl rfl ?_
      refine wf_Model_stamp C  (Or.inl tw_359) dM_finish_41 ?_
      refine wr_iload_n C 2 dM_finish_44 rfl rfl ?_
      refine wa_m_stamp C (by omega) dM_finish_45 ?_
      refine ws_m_versionStamp C (by omega) dM_finish_46 ?_
      generalize hs4 : wc_st μ3 39 0 V (μ3 44 0 t) = μ4
      refine wr_aload_n C 1 dM_finish_47 rfl rfl ?_
      refine wf_Model_versionValue C  (Or.inl tw_355) dM_finish_48 ?_
      refine wr_aload_n C 1 dM_finish_51 rfl rfl ?_
      refine wf_Model_versions C  (Or.inl tw_352) dM_finish_52 ?_
      refine wr_top (show μ4 37 0 0 = nI V by subst_vars; exact hV) ?_
      refine wr_aload_n C 1 dM_finish_55 rfl rfl ?_
      refine wf_Model_value C  (Or.inl tw_364) dM_finish_56 ?_
      refine wr_bipush C (v := nI 9) dM_finish_59 (by decide) ?_
      refine wr_iload_n C 2 dM_finish_61 rfl rfl ?_
      refine wr_imul C (z := nI (9 * t)) dM_finish_62 (pk_mul 9 t) ?_
      refine wr_iload_n C 0 dM_finish_63 rfl rfl ?_
      refine wr_iadd C (z := nI (9 * t + k)) dM_finish_64 (nI_add (9 * t) k) ?_
      refine wa_m_value C (by omega) dM_finish_65 ?_
      refine ws_m_versionValue C (by omega) dM_finish_66 ?_
      generalize hs5 : wc_st μ4 40 0 V (μ4 49 0 (9 * t + k)) = μ5
      refine wr_aload_n C 1 dM_finish_67 rfl rfl ?_
      refine wr_dup C dM_finish_68 rfl ?_
      refine wf_Model_versions C  (Or.inl tw_352) dM_finish_69 ?_
      refine wr_top (show μ5 37 0 0 = nI V by subst_vars; exact hV) ?_
      refine wr_iconst C (v := nI 1) dM_finish_72 (by decide) ?_
      refine wr_iadd C (z := nI (V + 1)) dM_finish_73 (nI_add V 1) ?_
      refine wp_Model_versions C  (Or.inl tw_352) dM_finish_74 ?_
      generalize hs6 : wc_st μ5 37 0 0 (nI (V + 1)) = μ6
      refine wr_aload_n C 1 dM_finish_77 rfl rfl ?_
      refine wf_Model_lock C  (Or.inl tw_362) dM_finish_78 ?_
      refine wr_bipush C (v := nI 9) dM_finish_81 (by decide) ?_
      refine wr_iload_n C 2 dM_finish_83 rfl rfl ?_
      refine wr_imul C (z := nI (9 * t)) dM_finish_84 (pk_mul 9 t) ?_
      refine wr_iload_n C 0 dM_finish_85 rfl rfl ?_
      refine wr_iadd C (z := nI (9 * t + k)) dM_finish_86 (nI_add (9 * t) k) ?_
      refine wr_iconst C (v := nI 0) dM_finish_87 (by decide) ?_
      refine ws_m_lock C (by omega) dM_finish_88 ?_
      generalize hs7 : wc_st μ6 47 0 (9 * t + k) (nI 0) = μ7
      refine wr_aload_n C 1 dM_finish_89 rfl rfl ?_
      refine wf_Model_wrote C  (Or.inl tw_363) dM_finish_90 ?_
      refine wr_bipush C (v := nI 9) dM_finish_93 (by decide) ?_
      refine wr_iload_n C 2 dM_finish_95 rfl rfl ?_
      refine wr_imul C (z := nI (9 * t)) dM_finish_96 (pk_mul 9 t) ?_
      refine wr_iload_n C 0 dM_finish_97 rfl rfl ?_
      refine wr_iadd C (z := nI (9 * t + k)) dM_finish_98 (nI_add (9 * t) k) ?_
      refine wr_iconst C (v := nI 0) dM_finish_99 (by decide) ?_
      refine ws_m_wrote C (by decide) (by omega) dM_finish_100 ?_
      generalize hs8 : wc_st μ7 48 0 (9 * t + k) (nI 0) = μ8
      refine wr_iinc C (v := nI (k + 3)) (vs' := [(3, .int (nI (k + 3))), (0, .ref (Γ.2.2 70)), (1, .int (nI t)), (2, .int (nI q))]) 0 dM_finish_101 rfl (wc_inc3 k) (by decide) rfl ?_
      refine wr_goto C (tgt := 2) dM_finish_104 (by decide) ?_
      have he : fm_fin1 μ t k = μ8 := by subst_vars; first | (rw [fm_fin1, if_pos h2]; rfl) | (rw [fm_fin1, if_neg h2, fm_add, fm_vers_eq hV (by omega)]; rfl)
      refine wr_sub [0, 1, 2, 3] rfl ?_
      exact ih (k + 3) μ8 (V + 1) (by omega) (by clear he; subst_vars; rfl) (by rw [← he, fm_fin1, if_neg h2, fm_w_add]; rw [fm_w, if_neg h2] at hb; omega) (by rw [← hres, ← he]; rfl)
set_option maxRecDepth 100000 in
set_option maxHeartbeats 4000000 in
theorem mm_finish (l : Launch) (Γ : wc_G) (σ μ : wc_St) {t : Nat} (ht : t < 5) {q : Nat} (hq : q < 3) (V : Nat) (hV : μ 37 0 0 = nI V) (hb : V + fm_w μ t 3 q ≤ 512) : wc_M l yM_finish cM_finish 4 none 1 Γ [.ref (Γ.2.2 70), .int (nI t), .int (nI q)] σ μ none σ (fm_finish μ t q) := by
  refine wc_enter "WaitedCommitsModel" (by decide) rfl (Nat.le_of_ble_eq_true rfl) ?_
  intro P0 E0 S0 M0 A0 B0 T0 K0 C hr hlk
  refine wr_vs (vs' := [(0, .ref (Γ.2.2 70)), (1, .int (nI t)), (2, .int (nI q))]) rfl ?_
  refine wr_iload_n C 2 dM_finish_0 rfl rfl ?_
  refine wr_istore_n C (vs' := [(3, .int (nI q)), (0, .ref (Γ.2.2 70)), (1, .int (nI t)), (2, .int (nI q))]) dM_finish_1 rfl (by decide) rfl ?_
  refine wr_sub [0, 1, 2, 3] rfl ?_
  generalize he : fm_finL t 3 q μ = μe
  refine mn_fin C hr hlk ht hq σ μe ?_ 3 q μ V (by omega) hV hb he
  refine wr_aload_n C 1 dM_finish_107 rfl rfl ?_
  refine wf_Model_marked C  (Or.inl tw_365) dM_finish_108 ?_
  refine wr_iconst C (v := nI 3) dM_finish_111 (by decide) ?_
  refine wr_iload_n C 2 dM_finish_112 rfl rfl ?_
  refine wr_imul C (z := nI (3 * t)) dM_finish_113 (pk_mul 3 t) ?_
  refine wr_iload_n C 3 dM_finish_114 rfl rfl ?_
  refine wr_iadd C (z := nI (3 * t + q)) dM_finish_115 (nI_add (3 * t) q) ?_
  refine wr_iconst C (v := nI 0) dM_finish_116 (by decide) ?_
  refine ws_m_marked C (by decide) (by omega) dM_finish_117 ?_
  generalize hs1 : wc_st μe 50 0 (3 * t + q) (nI 0) = μ1
  refine wr_aload_n C 1 dM_finish_118 rfl rfl ?_
  refine wr_iload_n C 3 dM_finish_119 rfl rfl ?_
  refine wr_aload_n C 1 dM_finish_120 rfl rfl ?_
  refine wf_Model_stamp C  (Or.inl tw_359) dM_finish_121 ?_
  refine wr_iload_n C 2 dM_finish_124 rfl rfl ?_
  refine wa_m_stamp C (by omega) dM_finish_125 ?_
  refine wr_callV0 C (As := [.int (nI q), .int (μ1 44 0 t)]) (rest := []) (mm_raise l Γ σ μ1 (q := q) (by omega) (μ1 44 0 t)) cb_M_raise (Or.inl tw_480) tw_481 tw_574 (by omega) (wc_c_Model) rfl (by decide) (by decide) rfl rfl (Nat.le_of_ble_eq_true rfl) ⟨Nat.le_refl _, Nat.le_refl _⟩ dM_finish_126 ?_
  generalize hs2 : fm_raise μ1 q (μ1 44 0 t) = μ2
  exact wr_vret C hr hlk dM_finish_129 rfl (by subst_vars; rfl) (by subst_vars; rfl)
set_option maxRecDepth 100000 in
set_option maxHeartbeats 4000000 in
theorem mm_deal (l : Launch) (Γ : wc_G) (σ μ : wc_St) {a : Nat} (ha : a < 45) (hl : a / 15 < 2 → fm_least μ (a % 15 / 3) < 3) (V : Nat) (hV : μ 37 0 0 = nI V) (hb : a / 15 = 2 → V + fm_w μ (a % 15 / 3) 3 (a % 3) ≤ 512) : wc_M l yM_deal cM_deal 7 none 3 Γ [.ref (Γ.2.2 70), .int (nI a)] σ μ none σ (fm_deal μ a) := by
  refine wc_enter "WaitedCommitsModel" (by decide) rfl (Nat.le_of_ble_eq_true rfl) ?_
  intro P0 E0 S0 M0 A0 B0 T0 K0 C hr hlk
  refine wr_vs (vs' := [(0, .ref (Γ.2.2 70)), (1, .int (nI a))]) rfl ?_
  refine wr_iload_n C 1 dM_deal_0 rfl rfl ?_
  refine wr_bipush C (v := nI 15) dM_deal_1 (by decide) ?_
  refine wr_idiv C (z := nI (a / 15)) dM_deal_3 (by decide) (pk_div (by omega) (by omega) (by omega)) ?_
  refine wr_istore_n C (vs' := [(2, .int (nI (a / 15))), (0, .ref (Γ.2.2 70)), (1, .int (nI a))]) dM_deal_4 rfl (by decide) rfl ?_
  refine wr_iload_n C 2 dM_deal_5 rfl rfl ?_
  refine wr_bipush C (v := nI 15) dM_deal_6 (by decide) ?_
  refine wr_irem C (z := nI (a % 15)) dM_deal_8 (by decide) (pk_rem (by omega) (by omega) (by omega)) ?_
  refine wr_iconst C (v := nI 3) dM_deal_9 (by decide) ?_
  refine wr_idiv C (z := nI ((a % 15) / 3)) dM_deal_10 (by decide) (pk_div (by omega) (by omega) (by omega)) ?_
  refine wr_istore_n C (vs' := [(3, .int (nI ((a % 15) / 3))), (2, .int (nI (a / 15))), (0, .ref (Γ.2.2 70)), (1, .int (nI a))]) dM_deal_11 rfl (by decide) rfl ?_
  refine wr_iload_n C 3 dM_deal_12 rfl rfl ?_
  refine wr_iconst C (v := nI 3) dM_deal_13 (by decide) ?_
  refine wr_irem C (z := nI (a % 3)) dM_deal_14 (by decide) (pk_rem (by omega) (by omega) (by omega)) ?_
  refine wr_istore C (vs' := [(4, .int (nI (a % 3))), (3, .int (nI ((a % 15) / 3))), (2, .int (nI (a / 15))), (0, .ref (Γ.2.2 70)), (1, .int (nI a))]) dM_deal_15 (by decide) rfl ?_
  refine wr_aload_n C 3 dM_deal_17 rfl rfl ?_
  refine wf_Model_arrives C  (Or.inl tw_368) dM_deal_18 ?_
  refine wr_iload_n C 4 dM_deal_21 rfl rfl ?_
  refine wr_iconst C (v := nI 0) dM_deal_22 (by decide) ?_
  refine ws_m_arrives C (by omega) dM_deal_23 ?_
  generalize hs1 : wc_st μ 53 0 a (nI 0) = μ1
  refine wr_iload_n C 2 dM_deal_24 rfl rfl ?_
  refine wr_if_ne C (tgt := 107) dM_deal_25 (by decide) (fun h1 => ?_) (fun h1 => ?_)
  ·
    rw [wc_nI0 (by omega)] at h1
    refine wr_iload_n C 2 dM_deal_107 rfl rfl ?_
    refine wr_iconst C (v := nI 1) dM_deal_108 (by decide) ?_
    refine wr_icmp_ne C (tgt := 120) dM_deal_109 (by decide) (fun h2 => ?_) (fun h2 => ?_)
    ·
      rw [nI_eq (by omega) (by omega)] at h2
      refine wr_aload_n C 3 dM_deal_120 rfl rfl ?_
      refine wr_iload_n C 1 dM_deal_121 rfl rfl ?_
      refine wr_iload C 0 dM_deal_122 rfl ?_
      refine wr_callV0 C (As := [.int (nI ((a % 15) / 3)), .int (nI (a % 3))]) (rest := []) (mm_finish l Γ σ μ1 (t := (a % 15) / 3) (q := a % 3) (by omega) (by omega) V (by subst_vars; exact hV) (by subst_vars; exact Nat.le_trans (Nat.le_of_eq (congrArg (V + ·) (fm_w_eq (μ := μ) 3 _ (fun j _ => rfl)))) (hb (by omega)))) cb_M_finish (Or.inl tw_477) tw_478 tw_573 (by omega) (wc_c_Model) rfl (by decide) (by decide) rfl rfl (Nat.le_of_ble_eq_true rfl) ⟨Nat.le_refl _, Nat.le_refl _⟩ dM_deal_124 ?_
      generalize hs2 : fm_finish μ1 ((a % 15) / 3) (a % 3) = μ2
      exact wr_vret C hr hlk dM_deal_127 rfl (by first | rfl | (subst_vars; simp [fm_deal, fm_prep, *]; done)) (by first | rfl | (subst_vars; simp [fm_deal, fm_prep, *]; done))
    ·
      rw [nI_eq (by omega) (by omega)] at h2
      refine wr_aload_n C 3 dM_deal_112 rfl rfl ?_
      refine wr_iload_n C 1 dM_deal_113 rfl rfl ?_
      refine wr_callV0 C (As := [.int (nI ((a % 15) / 3))]) (rest := []) (mm_sia l Γ σ μ1 (t := (a % 15) / 3) (by omega) (by subst_vars; exact Nat.lt_of_le_of_lt (Nat.le_of_eq (fm_least_eq (μ := μ) (fun j => rfl))) (hl (by omega)))) cb_M_stampIfAll (Or.inl tw_461) tw_462 tw_569 (by omega) (wc_c_Model) rfl (by decide) (by decide) rfl rfl (Nat.le_of_ble_eq_true rfl) ⟨Nat.le_refl _, Nat.le_refl _⟩ dM_deal_114 ?_
      generalize hs3 : fm_stampIfAll μ1 ((a % 15) / 3) = μ3
      refine wr_goto C (tgt := 127) dM_deal_117 (by decide) ?_
      exact wr_vret C hr hlk dM_deal_127 rfl (by first | rfl | (subst_vars; simp [fm_deal, fm_prep, *]; done)) (by first | rfl | (subst_vars; simp [fm_deal, fm_prep, *]; done))
  ·
    rw [wc_nI0 (by omega)] at h1
    refine wr_aload_n C 3 dM_deal_28 rfl rfl ?_
    refine wf_Model_now C  (Or.inl tw_346) dM_deal_29 ?_
    refine wr_aload_n C 3 dM_deal_32 rfl rfl ?_
    refine wf_Model_late C  (Or.inl tw_348) dM_deal_33 ?_
    refine wr_iload C 0 dM_deal_36 rfl ?_
    refine wa_m_late C (by omega) dM_deal_38 ?_
    refine wr_iadd C (z := (μ1 31 0 0) + (μ1 33 0 (a % 3))) dM_deal_39 rfl ?_
    refine wr_aload_n C 3 dM_deal_40 rfl rfl ?_
    refine wf_Model_bound C  (Or.inl tw_351) dM_deal_41 ?_
    refine wr_iload C 0 dM_deal_44 rfl ?_
    refine wa_m_bound C (by omega) dM_deal_46 ?_
    refine wr_iconst C (v := nI 1) dM_deal_47 (by decide) ?_
    refine wr_iadd C (z := (μ1 36 0 (a % 3)) + (nI 1)) dM_deal_48 rfl ?_
    refine wr_icmp_le C (tgt := 67) dM_deal_49 (by decide) (fun h3 => ?_) (fun h3 => ?_)
    ·
      refine wr_aload_n C 3 dM_deal_67 rfl rfl ?_
      refine wf_Model_bound C  (Or.inl tw_351) dM_deal_68 ?_
      refine wr_iload C 0 dM_deal_71 rfl ?_
      refine wa_m_bound C (by omega) dM_deal_73 ?_
      refine wr_iconst C (v := nI 1) dM_deal_74 (by decide) ?_
      refine wr_iadd C (z := (μ1 36 0 (a % 3)) + (nI 1)) dM_deal_75 rfl ?_
      refine wr_istore C (vs' := [(5, .int ((μ1 36 0 (a % 3)) + (nI 1))), (4, .int (nI (a % 3))), (3, .int (nI ((a % 15) / 3))), (2, .int (nI (a / 15))), (0, .ref (Γ.2.2 70)), (1, .int (nI a))]) dM_deal_76 (by decide) rfl ?_
      refine wr_aload_n C 4 dM_deal_78 rfl rfl ?_
      refine wr_iload_n C 2 dM_deal_79 rfl rfl ?_
      refine wr_iload C 1 dM_deal_80 rfl ?_
      refine wr_iload C 0 dM_deal_82 rfl ?_
      refine wr_callV0 C (As := [.int (nI ((a % 15) / 3)), .int (nI (a % 3)), .int ((μ1 36 0 (a % 3)) + (nI 1))]) (rest := []) (mm_put l Γ σ μ1 (t := (a % 15) / 3) (q := a % 3) (by omega) (by omega) ((μ1 36 0 (a % 3)) + (nI 1))) cb_M_put (Or.inl tw_464) tw_465 tw_570 (by omega) (wc_c_Model) rfl (by decide) (by decide) rfl rfl (Nat.le_of_ble_eq_true rfl) ⟨Nat.le_refl _, Nat.le_refl _⟩ dM_deal_84 ?_
      generalize hs4 : fm_put μ1 ((a % 15) / 3) (a % 3) ((μ1 36 0 (a % 3)) + (nI 1)) = μ4
      refine wr_aload_n C 4 dM_deal_87 rfl rfl ?_
      refine wr_iload_n C 2 dM_deal_88 rfl rfl ?_
      refine wr_callV1 C (As := [.int (nI ((a % 15) / 3))]) (rest := []) (mm_least l Γ σ μ4 (t := (a % 15) / 3) (by omega)) cb_M_least (Or.inl tw_414) tw_415 tw_559 (by omega) (wc_c_Model) rfl (by decide) (by decide) rfl rfl (Nat.le_of_ble_eq_true rfl) ⟨Nat.le_refl _, Nat.le_refl _⟩ dM_deal_89 ?_
      have hle3_4 := fm_least_le μ4 ((a % 15) / 3)
      refine wr_istore C (vs' := [(6, .int (nI (fm_least μ4 ((a % 15) / 3)))), (5, .int ((μ1 36 0 (a % 3)) + (nI 1))), (4, .int (nI (a % 3))), (3, .int (nI ((a % 15) / 3))), (2, .int (nI (a / 15))), (0, .ref (Γ.2.2 70)), (1, .int (nI a))]) dM_deal_92 (by decide) rfl ?_
      have hq3 : fm_least μ4 ((a % 15) / 3) < 3 := by subst_vars; exact Nat.lt_of_le_of_lt (Nat.le_of_eq (fm_least_eq (μ := μ) (fun j => rfl))) (hl (by omega))
      refine wr_aload_n C 5 dM_deal_94 rfl rfl ?_
      refine wr_iconst C (v := nI 1) dM_deal_95 (by decide) ?_
      refine wr_iload_n C 3 dM_deal_96 rfl rfl ?_
      refine wr_iload C 2 dM_deal_97 rfl ?_
      refine wr_iload C 0 dM_deal_99 rfl ?_
      refine wr_callV0 C (As := [.int (nI 1), .int (nI ((a % 15) / 3)), .int (nI (a % 3)), .int (nI (fm_least μ4 ((a % 15) / 3)))]) (rest := []) (mm_send l Γ σ μ4 (kd := 1) (t := (a % 15) / 3) (q := a % 3) (o := fm_least μ4 ((a % 15) / 3)) (by omega) (by omega) (by omega) (by omega)) cb_M_send (Or.inl tw_458) tw_459 tw_568 (by omega) (wc_c_Model) rfl (by decide) (by decide) rfl rfl (Nat.le_of_ble_eq_true rfl) ⟨Nat.le_refl _, Nat.le_refl _⟩ dM_deal_101 ?_
      generalize hs5 : fm_send μ4 1 ((a % 15) / 3) (a % 3) (fm_least μ4 ((a % 15) / 3)) = μ5
      refine wr_goto C (tgt := 127) dM_deal_104 (by decide) ?_
      exact wr_vret C hr hlk dM_deal_127 rfl (by first | rfl | (subst_vars; simp [fm_deal, fm_prep, *]; done)) (by first | rfl | (subst_vars; simp [fm_deal, fm_prep, *]; done))
    ·
      refine wr_aload_n C 3 dM_deal_52 rfl rfl ?_
      refine wf_Model_now C  (Or.inl tw_346) dM_deal_53 ?_
      refine wr_aload_n C 3 dM_deal_56 rfl rfl ?_
      refine wf_Model_late C  (Or.inl tw_348) dM_deal_57 ?_
      refine wr_iload C 0 dM_deal_60 rfl ?_
      refine wa_m_late C (by omega) dM_deal_62 ?_
      refine wr_iadd C (z := (μ1 31 0 0) + (μ1 33 0 (a % 3))) dM_deal_63 rfl ?_
      refine wr_goto C (tgt := 76) dM_deal_64 (by decide) ?_
      refine wr_istore C (vs' := [(5, .int ((μ1 31 0 0) + (μ1 33 0 (a % 3)))), (4, .int (nI (a % 3))), (3, .int (nI ((a % 15) / 3))), (2, .int (nI (a / 15))), (0, .ref (Γ.2.2 70)), (1, .int (nI a))]) dM_deal_76 (by decide) rfl ?_
      refine wr_aload_n C 4 dM_deal_78 rfl rfl ?_
      refine wr_iload_n C 2 dM_deal_79 rfl rfl ?_
      refine wr_iload C 1 dM_deal_80 rfl ?_
      refine wr_iload C 0 dM_deal_82 rfl ?_
      refine wr_callV0 C (As := [.int (nI ((a % 15) / 3)), .int (nI (a % 3)), .int ((μ1 31 0 0) + (μ1 33 0 (a % 3)))]) (rest := []) (mm_put l Γ σ μ1 (t := (a % 15) / 3) (q := a % 3) (by omega) (by omega) ((μ1 31 0 0) + (μ1 33 0 (a % 3)))) cb_M_put (Or.inl tw_464) tw_465 tw_570 (by omega) (wc_c_Model) rfl (by decide) (by decide) rfl rfl (Nat.le_of_ble_eq_true rfl) ⟨Nat.le_refl _, Nat.le_refl _⟩ dM_deal_84 ?_
      generalize hs6 : fm_put μ1 ((a % 15) / 3) (a % 3) ((μ1 31 0 0) + (μ1 33 0 (a % 3))) = μ6
      refine wr_aload_n C 4 dM_deal_87 rfl rfl ?_
      refine wr_iload_n C 2 dM_deal_88 rfl rfl ?_
      refine wr_callV1 C (As := [.int (nI ((a % 15) / 3))]) (rest := []) (mm_least l Γ σ μ6 (t := (a % 15) / 3) (by omega)) cb_M_least (Or.inl tw_414) tw_415 tw_559 (by omega) (wc_c_Model) rfl (by decide) (by decide) rfl rfl (Nat.le_of_ble_eq_true rfl) ⟨Nat.le_refl _, Nat.le_refl _⟩ dM_deal_89 ?_
      have hle3_6 := fm_least_le μ6 ((a % 15) / 3)
      refine wr_istore C (vs' := [(6, .int (nI (fm_least μ6 ((a % 15) / 3)))), (5, .int ((μ1 31 0 0) + (μ1 33 0 (a % 3)))), (4, .int (nI (a % 3))), (3, .int (nI ((a % 15) / 3))), (2, .int (nI (a / 15))), (0, .ref (Γ.2.2 70)), (1, .int (nI a))]) dM_deal_92 (by decide) rfl ?_
      have hq3 : fm_least μ6 ((a % 15) / 3) < 3 := by subst_vars; exact Nat.lt_of_le_of_lt (Nat.le_of_eq (fm_least_eq (μ := μ) (fun j => rfl))) (hl (by omega))
      refine wr_aload_n C 5 dM_deal_94 rfl rfl ?_
      refine wr_iconst C (v := nI 1) dM_deal_95 (by decide) ?_
      refine wr_iload_n C 3 dM_deal_96 rfl rfl ?_
      refine wr_iload C 2 dM_deal_97 rfl ?_
      refine wr_iload C 0 dM_deal_99 rfl ?_
      refine wr_callV0 C (As := [.int (nI 1), .int (nI ((a % 15) / 3)), .int (nI (a % 3)), .int (nI (fm_least μ6 ((a % 15) / 3)))]) (rest := []) (mm_send l Γ σ μ6 (kd := 1) (t := (a % 15) / 3) (q := a % 3) (o := fm_least μ6 ((a % 15) / 3)) (by omega) (by omega) (by omega) (by omega)) cb_M_send (Or.inl tw_458) tw_459 tw_568 (by omega) (wc_c_Model) rfl (by decide) (by decide) rfl rfl (Nat.le_of_ble_eq_true rfl) ⟨Nat.le_refl _, Nat.le_refl _⟩ dM_deal_101 ?_
      generalize hs7 : fm_send μ6 1 ((a % 15) / 3) (a % 3) (fm_least μ6 ((a % 15) / 3)) = μ7
      refine wr_goto C (tgt := 127) dM_deal_104 (by decide) ?_
      exact wr_vret C hr hlk dM_deal_127 rfl (by first | rfl | (subst_vars; simp [fm_deal, fm_prep, *]; done)) (by first | rfl | (subst_vars; simp [fm_deal, fm_prep, *]; done))
set_option maxRecDepth 100000 in
set_option maxHeartbeats 4000000 in
theorem mn_next {P0 : Program} {l : Launch} {E0 : Env} {S0 : State} {M0 : MethodId} {A0 : Array Value} {B0 : List Frame} {T0 : Method} {K0 : Code} {Γ : wc_G} {A : Nat → Prop} {v : Option Value} {σ' μ' : wc_St} (C : wc_C P0 S0 M0 A0 K0 cM_next 6 "WaitedCommitsModel" Γ A) (hr : T0.sig.returnType = (some .int)) (hlk : T0.locks = false) (σ μ : wc_St) (hσ : σ = σ') (hμ : μ = μ') (hl : ∀ a, a < 45 → ¬ μ 53 0 a ≤ 0 → a / 15 = 1 → fm_least μ (a % 15 / 3) < 3) : ∀ (n a : Nat) (b : Option Nat), a + n = 45 → (∀ j, b = some j → j < 45) → some (.int (fm_o (fm_next μ n a b))) = v → wc_K P0 l E0 (wc_rm 2) S0 M0 A0 B0 T0 K0 6 Γ A (MQ B0 (wc_Qw Γ A v σ' μ') A0 S0 0 0 A) 0 0 4 [(2, .int (nI a)), (1, .int (fm_o b)), (0, .ref (Γ.2.2 70))] [] σ μ := by
  subst hσ; subst hμ
  intro n
  induction n with
  | zero =>
    intro a b hi ha hv
    obtain rfl : a = 45 := by omega
    rcases b with _ | j
    ·
      refine wr_vs (vs' := [(2, .int (nI 45)), (1, .int (-1)), (0, .ref (Γ.2.2 70))]) rfl ?_
      refine wr_iload_n C 0 dM_next_4 rfl rfl ?_
      refine wr_bipush C (v := nI 45) dM_next_5 (by decide) ?_
      refine wr_icmp_ge C (tgt := 147) dM_next_7 (by decide) (fun _ => ?_) (fun h1 => absurd (by decide) h1)
      refine wr_iload_n C 1 dM_next_147 rfl rfl ?_
      exact wr_iret C hr rfl hlk dM_next_148 (by rw [← hv]; rfl) (by rfl) (by rfl)
    ·
      have hj : j < 45 := ha j rfl
      refine wr_vs (vs' := [(2, .int (nI 45)), (1, .int (nI j)), (0, .ref (Γ.2.2 70))]) rfl ?_
      refine wr_iload_n C 0 dM_next_4 rfl rfl ?_
      refine wr_bipush C (v := nI 45) dM_next_5 (by decide) ?_
      refine wr_icmp_ge C (tgt := 147) dM_next_7 (by decide) (fun _ => ?_) (fun h1 => absurd (by decide) h1)
      refine wr_iload_n C 1 dM_next_147 rfl rfl ?_
      exact wr_iret C hr rfl hlk dM_next_148 (by rw [← hv]; rfl) (by rfl) (by rfl)
  | succ n ih =>
    intro a b hi ha hv
    rcases b with _ | j
    ·
      refine wr_vs (vs' := [(2, .int (nI a)), (1, .int (-1)), (0, .ref (Γ.2.2 70))]) rfl ?_
      refine wr_iload_n C 0 dM_next_4 rfl rfl ?_
      refine wr_bipush C (v := nI 45) dM_next_5 (by decide) ?_
      refine wr_icmp_ge C (tgt := 147) dM_next_7 (by decide) (fun h1 => absurd h1 (wc_noge (by omega) (by omega) (by omega))) (fun _ => ?_)
      refine wr_iload_n C 0 dM_next_10 rfl rfl ?_
      refine wr_bipush C (v := nI 15) dM_next_11 (by decide) ?_
      refine wr_idiv C (z := nI (a / 15)) dM_next_13 (by decide) (pk_div (by omega) (by omega) (by omega)) ?_
      refine wr_iconst C (v := nI 1) dM_next_14 (by decide) ?_
      refine wr_icmp_ne C (tgt := 31) dM_next_15 (by decide) (fun h2 => ?_) (fun h2 => ?_)
      ·
        rw [nI_eq (by omega) (by omega)] at h2
        refine wr_iload_n C 0 dM_next_31 rfl rfl ?_
        refine wr_iconst C (v := nI 3) dM_next_32 (by decide) ?_
        refine wr_irem C (z := nI (a % 3)) dM_next_33 (by decide) (pk_rem (by omega) (by omega) (by omega)) ?_
        refine wr_istore_n C (vs' := [(3, .int (nI (a % 3))), (2, .int (nI a)), (1, .int (-1)), (0, .ref (Γ.2.2 70))]) dM_next_34 rfl (by decide) rfl ?_
        refine wr_aload_n C 3 dM_next_35 rfl rfl ?_
        refine wf_Model_arrives C  (Or.inl tw_368) dM_next_36 ?_
        refine wr_iload_n C 1 dM_next_39 rfl rfl ?_
        refine wa_m_arrives C (by omega) dM_next_40 ?_
        refine wr_if_le C (tgt := 70) dM_next_41 (by decide) (fun h3 => ?_) (fun h3 => ?_)
        ·
          refine wr_iconst C (v := nI 0) dM_next_70 (by decide) ?_
          refine wr_istore C (vs' := [(4, .int (nI 0)), (3, .int (nI (a % 3))), (2, .int (nI a)), (1, .int (-1)), (0, .ref (Γ.2.2 70))]) dM_next_71 (by decide) rfl ?_
          refine wr_iload_n C 3 dM_next_73 rfl rfl ?_
          refine wr_if_lt C (tgt := 122) dM_next_74 (by decide) (fun _ => ?_) (fun h4 => absurd (by decide) h4)
          refine wr_iconst C (v := nI 1) dM_next_122 (by decide) ?_
          refine wr_goto C (tgt := 127) dM_next_123 (by decide) ?_
          refine wr_istore C (vs' := [(5, .int (nI 1)), (4, .int (nI 0)), (3, .int (nI (a % 3))), (2, .int (nI a)), (1, .int (-1)), (0, .ref (Γ.2.2 70))]) dM_next_127 (by decide) rfl ?_
          refine wr_iload C 1 dM_next_129 rfl ?_
          refine wr_if_eq C (tgt := 141) dM_next_131 (by decide) (fun _ => ?_) (fun h5 => absurd (by decide) h5)
          refine wr_iinc C (v := nI (a + 1)) (vs' := [(2, .int (nI (a + 1))), (5, .int (nI 1)), (4, .int (nI 0)), (3, .int (nI (a % 3))), (1, .int (-1)), (0, .ref (Γ.2.2 70))]) 3 dM_next_141 rfl (wc_inc1 a) (by decide) rfl ?_
          refine wr_goto C (tgt := 4) dM_next_144 (by decide) ?_
          refine wr_sub [0, 4, 5] rfl ?_
          exact ih (a + 1) none (by omega) (fun j' hj' => by cases hj') (by rw [← hv]; clear ih hv ha hl; first | (simp [fm_next, fm_can, fm_to, fm_1st, wc_nI0, *]; done) | (simp_all [fm_next, fm_can, fm_to, fm_1st, wc_nI0]; done) | (rw [fm_next, show fm_can μ a = nI 0 from by unfold fm_can fm_to; repeat' split <;> first | rfl | contradiction, show fm_1st μ a none = nI 1 from by unfold fm_1st; dsimp only; repeat' split <;> first | rfl | contradiction]; simp [wc_nI0]; done))
        ·
          refine wr_aload_n C 3 dM_next_44 rfl rfl ?_
          refine wf_Model_arrives C  (Or.inl tw_368) dM_next_45 ?_
          refine wr_iload_n C 1 dM_next_48 rfl rfl ?_
          refine wa_m_arrives C (by omega) dM_next_49 ?_
          refine wr_aload_n C 3 dM_next_50 rfl rfl ?_
          refine wf_Model_now C  (Or.inl tw_346) dM_next_51 ?_
          refine wr_icmp_gt C (tgt := 70) dM_next_54 (by decide) (fun h6 => ?_) (fun h6 => ?_)
          ·
            refine wr_iconst C (v := nI 0) dM_next_70 (by decide) ?_
            refine wr_istore C (vs' := [(4, .int (nI 0)), (3, .int (nI (a % 3))), (2, .int (nI a)), (1, .int (-1)), (0, .ref (Γ.2.2 70))]) dM_next_71 (by decide) rfl ?_
            refine wr_iload_n C 3 dM_next_73 rfl rfl ?_
            refine wr_if_lt C (tgt := 122) dM_next_74 (by decide) (fun _ => ?_) (fun h7 => absurd (by decide) h7)
            refine wr_iconst C (v := nI 1) dM_next_122 (by decide) ?_
            refine wr_goto C (tgt := 127) dM_next_123 (by decide) ?_
            refine wr_istore C (vs' := [(5, .int (nI 1)), (4, .int (nI 0)), (3, .int (nI (a % 3))), (2, .int (nI a)), (1, .int (-1)), (0, .ref (Γ.2.2 70))]) dM_next_127 (by decide) rfl ?_
            refine wr_iload C 1 dM_next_129 rfl ?_
            refine wr_if_eq C (tgt := 141) dM_next_131 (by decide) (fun _ => ?_) (fun h8 => absurd (by decide) h8)
            refine wr_iinc C (v := nI (a + 1)) (vs' := [(2, .int (nI (a + 1))), (5, .int (nI 1)), (4, .int (nI 0)), (3, .int (nI (a % 3))), (1, .int (-1)), (0, .ref (Γ.2.2 70))]) 3 dM_next_141 rfl (wc_inc1 a) (by decide) rfl ?_
            refine wr_goto C (tgt := 4) dM_next_144 (by decide) ?_
            refine wr_sub [0, 4, 5] rfl ?_
            exact ih (a + 1) none (by omega) (fun j' hj' => by cases hj') (by rw [← hv]; clear ih hv ha hl; first | (simp [fm_next, fm_can, fm_to, fm_1st, wc_nI0, *]; done) | (simp_all [fm_next, fm_can, fm_to, fm_1st, wc_nI0]; done) | (rw [fm_next, show fm_can μ a = nI 0 from by unfold fm_can fm_to; repeat' split <;> first | rfl | contradiction, show fm_1st μ a none = nI 1 from by unfold fm_1st; dsimp only; repeat' split <;> first | rfl | contradiction]; simp [wc_nI0]; done))
          ·
            refine wr_aload_n C 3 dM_next_57 rfl rfl ?_
            refine wf_Model_down C  (Or.inl tw_350) dM_next_58 ?_
            refine wr_iload_n C 0 dM_next_61 rfl rfl ?_
            refine wa_m_down C (by omega) dM_next_62 ?_
            refine wr_if_ne C (tgt := 70) dM_next_63 (by decide) (fun h9 => ?_) (fun h9 => ?_)
            ·
              refine wr_iconst C (v := nI 0) dM_next_70 (by decide) ?_
              refine wr_istore C (vs' := [(4, .int (nI 0)), (3, .int (nI (a % 3))), (2, .int (nI a)), (1, .int (-1)), (0, .ref (Γ.2.2 70))]) dM_next_71 (by decide) rfl ?_
              refine wr_iload_n C 3 dM_next_73 rfl rfl ?_
              refine wr_if_lt C (tgt := 122) dM_next_74 (by decide) (fun _ => ?_) (fun h10 => absurd (by decide) h10)
              refine wr_iconst C (v := nI 1) dM_next_122 (by decide) ?_
              refine wr_goto C (tgt := 127) dM_next_123 (by decide) ?_
              refine wr_istore C (vs' := [(5, .int (nI 1)), (4, .int (nI 0)), (3, .int (nI (a % 3))), (2, .int (nI a)), (1, .int (-1)), (0, .ref (Γ.2.2 70))]) dM_next_127 (by decide) rfl ?_
              refine wr_iload C 1 dM_next_129 rfl ?_
              refine wr_if_eq C (tgt := 141) dM_next_131 (by decide) (fun _ => ?_) (fun h11 => absurd (by decide) h11)
              refine wr_iinc C (v := nI (a + 1)) (vs' := [(2, .int (nI (a + 1))), (5, .int (nI 1)), (4, .int (nI 0)), (3, .int (nI (a % 3))), (1, .int (-1)), (0, .ref (Γ.2.2 70))]) 3 dM_next_141 rfl (wc_inc1 a) (by decide) rfl ?_
              refine wr_goto C (tgt := 4) dM_next_144 (by decide) ?_
              refine wr_sub [0, 4, 5] rfl ?_
              exact ih (a + 1) none (by omega) (fun j' hj' => by cases hj') (by rw [← hv]; clear ih hv ha hl; first | (simp [fm_next, fm_can, fm_to, fm_1st, wc_nI0, *]; done) | (simp_all [fm_next, fm_can, fm_to, fm_1st, wc_nI0]; done) | (rw [fm_next, show fm_can μ a = nI 0 from by unfold fm_can fm_to; repeat' split <;> first | rfl | contradiction, show fm_1st μ a none = nI 1 from by unfold fm_1st; dsimp only; repeat' split <;> first | rfl | contradiction]; simp [wc_nI0]; done))
            ·
              refine wr_iconst C (v := nI 1) dM_next_66 (by decide) ?_
              refine wr_goto C (tgt := 71) dM_next_67 (by decide) ?_
              refine wr_istore C (vs' := [(4, .int (nI 1)), (3, .int (nI (a % 3))), (2, .int (nI a)), (1, .int (-1)), (0, .ref (Γ.2.2 70))]) dM_next_71 (by decide) rfl ?_
              refine wr_iload_n C 3 dM_next_73 rfl rfl ?_
              refine wr_if_lt C (tgt := 122) dM_next_74 (by decide) (fun _ => ?_) (fun h12 => absurd (by decide) h12)
              refine wr_iconst C (v := nI 1) dM_next_122 (by decide) ?_
              refine wr_goto C (tgt := 127) dM_next_123 (by decide) ?_
              refine wr_istore C (vs' := [(5, .int (nI 1)), (4, .int (nI 1)), (3, .int (nI (a % 3))), (2, .int (nI a)), (1, .int (-1)), (0, .ref (Γ.2.2 70))]) dM_next_127 (by decide) rfl ?_
              refine wr_iload C 1 dM_next_129 rfl ?_
              refine wr_if_eq C (tgt := 141) dM_next_131 (by decide) (fun h13 => absurd h13 (by decide)) (fun _ => ?_)
              refine wr_iload C 0 dM_next_134 rfl ?_
              refine wr_if_eq C (tgt := 141) dM_next_136 (by decide) (fun h14 => absurd h14 (by decide)) (fun _ => ?_)
              refine wr_iload_n C 3 dM_next_139 rfl rfl ?_
              refine wr_istore_n C (vs' := [(1, .int (nI a)), (5, .int (nI 1)), (4, .int (nI 1)), (3, .int (nI (a % 3))), (2, .int (nI a)), (0, .ref (Γ.2.2 70))]) dM_next_140 rfl (by decide) rfl ?_
              refine wr_iinc C (v := nI (a + 1)) (vs' := [(2, .int (nI (a + 1))), (1, .int (nI a)), (5, .int (nI 1)), (4, .int (nI 1)), (3, .int (nI (a % 3))), (0, .ref (Γ.2.2 70))]) 4 dM_next_141 rfl (wc_inc1 a) (by decide) rfl ?_
              refine wr_goto C (tgt := 4) dM_next_144 (by decide) ?_
              refine wr_sub [0, 1, 5] rfl ?_
              exact ih (a + 1) (some a) (by omega) (fun j' hj' => by cases hj'; omega) (by rw [← hv]; clear ih hv ha hl; first | (simp [fm_next, fm_can, fm_to, fm_1st, wc_nI0, *]; done) | (simp_all [fm_next, fm_can, fm_to, fm_1st, wc_nI0]; done) | (rw [fm_next, show fm_can μ a = nI 1 from by unfold fm_can fm_to; repeat' split <;> first | rfl | contradiction, show fm_1st μ a none = nI 1 from by unfold fm_1st; dsimp only; repeat' split <;> first | rfl | contradiction]; simp [wc_nI0]; done))
      ·
        rw [nI_eq (by omega) (by omega)] at h2
        refine wr_aload_n C 2 dM_next_18 rfl rfl ?_
        refine wr_iload_n C 0 dM_next_19 rfl rfl ?_
        refine wr_bipush C (v := nI 15) dM_next_20 (by decide) ?_
        refine wr_irem C (z := nI (a % 15)) dM_next_22 (by decide) (pk_rem (by omega) (by omega) (by omega)) ?_
        refine wr_iconst C (v := nI 3) dM_next_23 (by decide) ?_
        refine wr_idiv C (z := nI ((a % 15) / 3)) dM_next_24 (by decide) (pk_div (by omega) (by omega) (by omega)) ?_
        refine wr_callV1 C (As := [.int (nI ((a % 15) / 3))]) (rest := []) (mm_least l Γ σ μ (t := (a % 15) / 3) (by omega)) cb_M_least (Or.inl tw_414) tw_415 tw_559 (by omega) (wc_c_Model) rfl (by decide) (by decide) rfl rfl (Nat.le_of_ble_eq_true rfl) ⟨Nat.le_refl _, Nat.le_refl _⟩ dM_next_25 ?_
        have hle14_0 := fm_least_le μ ((a % 15) / 3)
        refine wr_goto C (tgt := 34) dM_next_28 (by decide) ?_
        refine wr_istore_n C (vs' := [(3, .int (nI (fm_least μ ((a % 15) / 3)))), (2, .int (nI a)), (1, .int (-1)), (0, .ref (Γ.2.2 70))]) dM_next_34 rfl (by decide) rfl ?_
        refine wr_aload_n C 3 dM_next_35 rfl rfl ?_
        refine wf_Model_arrives C  (Or.inl tw_368) dM_next_36 ?_
        refine wr_iload_n C 1 dM_next_39 rfl rfl ?_
        refine wa_m_arrives C (by omega) dM_next_40 ?_
        refine wr_if_le C (tgt := 70) dM_next_41 (by decide) (fun h15 => ?_) (fun h15 => ?_)
        ·
          refine wr_iconst C (v := nI 0) dM_next_70 (by decide) ?_
          refine wr_istore C (vs' := [(4, .int (nI 0)), (3, .int (nI (fm_least μ ((a % 15) / 3)))), (2, .int (nI a)), (1, .int (-1)), (0, .ref (Γ.2.2 70))]) dM_next_71 (by decide) rfl ?_
          refine wr_iload_n C 3 dM_next_73 rfl rfl ?_
          refine wr_if_lt C (tgt := 122) dM_next_74 (by decide) (fun _ => ?_) (fun h16 => absurd (by decide) h16)
          refine wr_iconst C (v := nI 1) dM_next_122 (by decide) ?_
          refine wr_goto C (tgt := 127) dM_next_123 (by decide) ?_
          refine wr_istore C (vs' := [(5, .int (nI 1)), (4, .int (nI 0)), (3, .int (nI (fm_least μ ((a % 15) / 3)))), (2, .int (nI a)), (1, .int (-1)), (0, .ref (Γ.2.2 70))]) dM_next_127 (by decide) rfl ?_
          refine wr_iload C 1 dM_next_129 rfl ?_
          refine wr_if_eq C (tgt := 141) dM_next_131 (by decide) (fun _ => ?_) (fun h17 => absurd (by decide) h17)
          refine wr_iinc C (v := nI (a + 1)) (vs' := [(2, .int (nI (a + 1))), (5, .int (nI 1)), (4, .int (nI 0)), (3, .int (nI (fm_least μ ((a % 15) / 3)))), (1, .int (-1)), (0, .ref (Γ.2.2 70))]) 3 dM_next_141 rfl (wc_inc1 a) (by decide) rfl ?_
          refine wr_goto C (tgt := 4) dM_next_144 (by decide) ?_
          refine wr_sub [0, 4, 5] rfl ?_
          exact ih (a + 1) none (by omega) (fun j' hj' => by cases hj') (by rw [← hv]; clear ih hv ha hl; first | (simp [fm_next, fm_can, fm_to, fm_1st, wc_nI0, *]; done) | (simp_all [fm_next, fm_can, fm_to, fm_1st, wc_nI0]; done) | (rw [fm_next, show fm_can μ a = nI 0 from by unfold fm_can fm_to; repeat' split <;> first | rfl | contradiction, show fm_1st μ a none = nI 1 from by unfold fm_1st; dsimp only; repeat' split <;> first | rfl | contradiction]; simp [wc_nI0]; done))
        ·
          refine wr_aload_n C 3 dM_next_44 rfl rfl ?_
          refine wf_Model_arrives C  (Or.inl tw_368) dM_next_45 ?_
          refine wr_iload_n C 1 dM_next_48 rfl rfl ?_
          refine wa_m_arrives C (by omega) dM_next_49 ?_
          refine wr_aload_n C 3 dM_next_50 rfl rfl ?_
          refine wf_Model_now C  (Or.inl tw_346) dM_next_51 ?_
          refine wr_icmp_gt C (tgt := 70) dM_next_54 (by decide) (fun h18 => ?_) (fun h18 => ?_)
          ·
            refine wr_iconst C (v := nI 0) dM_next_70 (by decide) ?_
            refine wr_istore C (vs' := [(4, .int (nI 0)), (3, .int (nI (fm_least μ ((a % 15) / 3)))), (2, .int (nI a)), (1, .int (-1)), (0, .ref (Γ.2.2 70))]) dM_next_71 (by decide) rfl ?_
            refine wr_iload_n C 3 dM_next_73 rfl rfl ?_
            refine wr_if_lt C (tgt := 122) dM_next_74 (by decide) (fun _ => ?_) (fun h19 => absurd (by decide) h19)
            refine wr_iconst C (v := nI 1) dM_next_122 (by decide) ?_
            refine wr_goto C (tgt := 127) dM_next_123 (by decide) ?_
            refine wr_istore C (vs' := [(5, .int (nI 1)), (4, .int (nI 0)), (3, .int (nI (fm_least μ ((a % 15) / 3)))), (2, .int (nI a)), (1, .int (-1)), (0, .ref (Γ.2.2 70))]) dM_next_127 (by decide) rfl ?_
            refine wr_iload C 1 dM_next_129 rfl ?_
            refine wr_if_eq C (tgt := 141) dM_next_131 (by decide) (fun _ => ?_) (fun h20 => absurd (by decide) h20)
            refine wr_iinc C (v := nI (a + 1)) (vs' := [(2, .int (nI (a + 1))), (5, .int (nI 1)), (4, .int (nI 0)), (3, .int (nI (fm_least μ ((a % 15) / 3)))), (1, .int (-1)), (0, .ref (Γ.2.2 70))]) 3 dM_next_141 rfl (wc_inc1 a) (by decide) rfl ?_
            refine wr_goto C (tgt := 4) dM_next_144 (by decide) ?_
            refine wr_sub [0, 4, 5] rfl ?_
            exact ih (a + 1) none (by omega) (fun j' hj' => by cases hj') (by rw [← hv]; clear ih hv ha hl; first | (simp [fm_next, fm_can, fm_to, fm_1st, wc_nI0, *]; done) | (simp_all [fm_next, fm_can, fm_to, fm_1st, wc_nI0]; done) | (rw [fm_next, show fm_can μ a = nI 0 from by unfold fm_can fm_to; repeat' split <;> first | rfl | contradiction, show fm_1st μ a none = nI 1 from by unfold fm_1st; dsimp only; repeat' split <;> first | rfl | contradiction]; simp [wc_nI0]; done))
          ·
            have hto := hl a (by omega) (by assumption) (by assumption)
            refine wr_aload_n C 3 dM_next_57 rfl rfl ?_
            refine wf_Model_down C  (Or.inl tw_350) dM_next_58 ?_
            refine wr_iload_n C 0 dM_next_61 rfl rfl ?_
            refine wa_m_down C (by omega) dM_next_62 ?_
            refine wr_if_ne C (tgt := 70) dM_next_63 (by decide) (fun h21 => ?_) (fun h21 => ?_)
            ·
              refine wr_iconst C (v := nI 0) dM_next_70 (by decide) ?_
              refine wr_istore C (vs' := [(4, .int (nI 0)), (3, .int (nI (fm_least μ ((a % 15) / 3)))), (2, .int (nI a)), (1, .int (-1)), (0, .ref (Γ.2.2 70))]) dM_next_71 (by decide) rfl ?_
              refine wr_iload_n C 3 dM_next_73 rfl rfl ?_
              refine wr_if_lt C (tgt := 122) dM_next_74 (by decide) (fun _ => ?_) (fun h22 => absurd (by decide) h22)
              refine wr_iconst C (v := nI 1) dM_next_122 (by decide) ?_
              refine wr_goto C (tgt := 127) dM_next_123 (by decide) ?_
              refine wr_istore C (vs' := [(5, .int (nI 1)), (4, .int (nI 0)), (3, .int (nI (fm_least μ ((a % 15) / 3)))), (2, .int (nI a)), (1, .int (-1)), (0, .ref (Γ.2.2 70))]) dM_next_127 (by decide) rfl ?_
              refine wr_iload C 1 dM_next_129 rfl ?_
              refine wr_if_eq C (tgt := 141) dM_next_131 (by decide) (fun _ => ?_) (fun h23 => absurd (by decide) h23)
              refine wr_iinc C (v := nI (a + 1)) (vs' := [(2, .int (nI (a + 1))), (5, .int (nI 1)), (4, .int (nI 0)), (3, .int (nI (fm_least μ ((a % 15) / 3)))), (1, .int (-1)), (0, .ref (Γ.2.2 70))]) 3 dM_next_141 rfl (wc_inc1 a) (by decide) rfl ?_
              refine wr_goto C (tgt := 4) dM_next_144 (by decide) ?_
              refine wr_sub [0, 4, 5] rfl ?_
              exact ih (a + 1) none (by omega) (fun j' hj' => by cases hj') (by rw [← hv]; clear ih hv ha hl; first | (simp [fm_next, fm_can, fm_to, fm_1st, wc_nI0, *]; done) | (simp_all [fm_next, fm_can, fm_to, fm_1st, wc_nI0]; done) | (rw [fm_next, show fm_can μ a = nI 0 from by unfold fm_can fm_to; repeat' split <;> first | rfl | contradiction, show fm_1st μ a none = nI 1 from by unfold fm_1st; dsimp only; repeat' split <;> first | rfl | contradiction]; simp [wc_nI0]; done))
            ·
              refine wr_iconst C (v := nI 1) dM_next_66 (by decide) ?_
              refine wr_goto C (tgt := 71) dM_next_67 (by decide) ?_
              refine wr_istore C (vs' := [(4, .int (nI 1)), (3, .int (nI (fm_least μ ((a % 15) / 3)))), (2, .int (nI a)), (1, .int (-1)), (0, .ref (Γ.2.2 70))]) dM_next_71 (by decide) rfl ?_
              refine wr_iload_n C 3 dM_next_73 rfl rfl ?_
              refine wr_if_lt C (tgt := 122) dM_next_74 (by decide) (fun _ => ?_) (fun h24 => absurd (by decide) h24)
              refine wr_iconst C (v := nI 1) dM_next_122 (by decide) ?_
              refine wr_goto C (tgt := 127) dM_next_123 (by decide) ?_
              refine wr_istore C (vs' := [(5, .int (nI 1)), (4, .int (nI 1)), (3, .int (nI (fm_least μ ((a % 15) / 3)))), (2, .int (nI a)), (1, .int (-1)), (0, .ref (Γ.2.2 70))]) dM_next_127 (by decide) rfl ?_
              refine wr_iload C 1 dM_next_129 rfl ?_
              refine wr_if_eq C (tgt := 141) dM_next_131 (by decide) (fun h25 => absurd h25 (by decide)) (fun _ => ?_)
              refine wr_iload C 0 dM_next_134 rfl ?_
              refine wr_if_eq C (tgt := 141) dM_next_136 (by decide) (fun h26 => absurd h26 (by decide)) (fun _ => ?_)
              refine wr_iload_n C 3 dM_next_139 rfl rfl ?_
              refine wr_istore_n C (vs' := [(1, .int (nI a)), (5, .int (nI 1)), (4, .int (nI 1)), (3, .int (nI (fm_least μ ((a % 15) / 3)))), (2, .int (nI a)), (0, .ref (Γ.2.2 70))]) dM_next_140 rfl (by decide) rfl ?_
              refine wr_iinc C (v := nI (a + 1)) (vs' := [(2, .int (nI (a + 1))), (1, .int (nI a)), (5, .int (nI 1)), (4, .int (nI 1)), (3, .int (nI (fm_least μ ((a % 15) / 3)))), (0, .ref (Γ.2.2 70))]) 4 dM_next_141 rfl (wc_inc1 a) (by decide) rfl ?_
              refine wr_goto C (tgt := 4) dM_next_144 (by decide) ?_
              refine wr_sub [0, 1, 5] rfl ?_
              exact ih (a + 1) (some a) (by omega) (fun j' hj' => by cases hj'; omega) (by rw [← hv]; clear ih hv ha hl; first | (simp [fm_next, fm_can, fm_to, fm_1st, wc_nI0, *]; done) | (simp_all [fm_next, fm_can, fm_to, fm_1st, wc_nI0]; done) | (rw [fm_next, show fm_can μ a = nI 1 from by unfold fm_can fm_to; repeat' split <;> first | rfl | contradiction, show fm_1st μ a none = nI 1 from by unfold fm_1st; dsimp only; repeat' split <;> first | rfl | contradiction]; simp [wc_nI0]; done))
    ·
      have hj : j < 45 := ha j rfl
      refine wr_vs (vs' := [(2, .int (nI a)), (1, .int (nI j)), (0, .ref (Γ.2.2 70))]) rfl ?_
      refine wr_iload_n C 0 dM_next_4 rfl rfl ?_
      refine wr_bipush C (v := nI 45) dM_next_5 (by decide) ?_
      refine wr_icmp_ge C (tgt := 147) dM_next_7 (by decide) (fun h1 => absurd h1 (wc_noge (by omega) (by omega) (by omega))) (fun _ => ?_)
      refine wr_iload_n C 0 dM_next_10 rfl rfl ?_
      refine wr_bipush C (v := nI 15) dM_next_11 (by decide) ?_
      refine wr_idiv C (z := nI (a / 15)) dM_next_13 (by decide) (pk_div (by omega) (by omega) (by omega)) ?_
      refine wr_iconst C (v := nI 1) dM_next_14 (by decide) ?_
      refine wr_icmp_ne C (tgt := 31) dM_next_15 (by decide) (fun h2 => ?_) (fun h2 => ?_)
      ·
        rw [nI_eq (by omega) (by omega)] at h2
        refine wr_iload_n C 0 dM_next_31 rfl rfl ?_
        refine wr_iconst C (v := nI 3) dM_next_32 (by decide) ?_
        refine wr_irem C (z := nI (a % 3)) dM_next_33 (by decide) (pk_rem (by omega) (by omega) (by omega)) ?_
        refine wr_istore_n C (vs' := [(3, .int (nI (a % 3))), (2, .int (nI a)), (1, .int (nI j)), (0, .ref (Γ.2.2 70))]) dM_next_34 rfl (by decide) rfl ?_
        refine wr_aload_n C 3 dM_next_35 rfl rfl ?_
        refine wf_Model_arrives C  (Or.inl tw_368) dM_next_36 ?_
        refine wr_iload_n C 1 dM_next_39 rfl rfl ?_
        refine wa_m_arrives C (by omega) dM_next_40 ?_
        refine wr_if_le C (tgt := 70) dM_next_41 (by decide) (fun h3 => ?_) (fun h3 => ?_)
        ·
          refine wr_iconst C (v := nI 0) dM_next_70 (by decide) ?_
          refine wr_istore C (vs' := [(4, .int (nI 0)), (3, .int (nI (a % 3))), (2, .int (nI a)), (1, .int (nI j)), (0, .ref (Γ.2.2 70))]) dM_next_71 (by decide) rfl ?_
          refine wr_iload_n C 3 dM_next_73 rfl rfl ?_
          refine wr_if_lt C (tgt := 122) dM_next_74 (by decide) (fun h4 => absurd h4 (wc_nolt0 (by omega) (by omega))) (fun _ => ?_)
          refine wr_aload_n C 4 dM_next_77 rfl rfl ?_
          refine wf_Model_arrives C  (Or.inl tw_368) dM_next_78 ?_
          refine wr_iload_n C 2 dM_next_81 rfl rfl ?_
          refine wa_m_arrives C (by omega) dM_next_82 ?_
          refine wr_aload_n C 4 dM_next_83 rfl rfl ?_
          refine wf_Model_arrives C  (Or.inl tw_368) dM_next_84 ?_
          refine wr_iload_n C 3 dM_next_87 rfl rfl ?_
          refine wa_m_arrives C (by omega) dM_next_88 ?_
          refine wr_icmp_lt C (tgt := 122) dM_next_89 (by decide) (fun h5 => ?_) (fun h5 => ?_)
          ·
            refine wr_iconst C (v := nI 1) dM_next_122 (by decide) ?_
            refine wr_goto C (tgt := 127) dM_next_123 (by decide) ?_
            refine wr_istore C (vs' := [(5, .int (nI 1)), (4, .int (nI 0)), (3, .int (nI (a % 3))), (2, .int (nI a)), (1, .int (nI j)), (0, .ref (Γ.2.2 70))]) dM_next_127 (by decide) rfl ?_
            refine wr_iload C 1 dM_next_129 rfl ?_
            refine wr_if_eq C (tgt := 141) dM_next_131 (by decide) (fun _ => ?_) (fun h6 => absurd (by decide) h6)
            refine wr_iinc C (v := nI (a + 1)) (vs' := [(2, .int (nI (a + 1))), (5, .int (nI 1)), (4, .int (nI 0)), (3, .int (nI (a % 3))), (1, .int (nI j)), (0, .ref (Γ.2.2 70))]) 3 dM_next_141 rfl (wc_inc1 a) (by decide) rfl ?_
            refine wr_goto C (tgt := 4) dM_next_144 (by decide) ?_
            refine wr_sub [0, 4, 5] rfl ?_
            exact ih (a + 1) (some j) (by omega) (fun j' hj' => by cases hj'; omega) (by rw [← hv]; clear ih hv ha hl; first | (simp [fm_next, fm_can, fm_to, fm_1st, wc_nI0, *]; done) | (simp_all [fm_next, fm_can, fm_to, fm_1st, wc_nI0]; done) | (rw [fm_next, show fm_can μ a = nI 0 from by unfold fm_can fm_to; repeat' split <;> first | rfl | contradiction, show fm_1st μ a (some j) = nI 1 from by unfold fm_1st; dsimp only; repeat' split <;> first | rfl | contradiction]; simp [wc_nI0]; done))
          ·
            refine wr_aload_n C 4 dM_next_92 rfl rfl ?_
            refine wf_Model_arrives C  (Or.inl tw_368) dM_next_93 ?_
            refine wr_iload_n C 2 dM_next_96 rfl rfl ?_
            refine wa_m_arrives C (by omega) dM_next_97 ?_
            refine wr_aload_n C 4 dM_next_98 rfl rfl ?_
            refine wf_Model_arrives C  (Or.inl tw_368) dM_next_99 ?_
            refine wr_iload_n C 3 dM_next_102 rfl rfl ?_
            refine wa_m_arrives C (by omega) dM_next_103 ?_
            refine wr_icmp_ne C (tgt := 126) dM_next_104 (by decide) (fun h7 => ?_) (fun h7 => ?_)
            ·
              refine wr_iconst C (v := nI 0) dM_next_126 (by decide) ?_
              refine wr_istore C (vs' := [(5, .int (nI 0)), (4, .int (nI 0)), (3, .int (nI (a % 3))), (2, .int (nI a)), (1, .int (nI j)), (0, .ref (Γ.2.2 70))]) dM_next_127 (by decide) rfl ?_
              refine wr_iload C 1 dM_next_129 rfl ?_
              refine wr_if_eq C (tgt := 141) dM_next_131 (by decide) (fun _ => ?_) (fun h8 => absurd (by decide) h8)
              refine wr_iinc C (v := nI (a + 1)) (vs' := [(2, .int (nI (a + 1))), (5, .int (nI 0)), (4, .int (nI 0)), (3, .int (nI (a % 3))), (1, .int (nI j)), (0, .ref (Γ.2.2 70))]) 3 dM_next_141 rfl (wc_inc1 a) (by decide) rfl ?_
              refine wr_goto C (tgt := 4) dM_next_144 (by decide) ?_
              refine wr_sub [0, 4, 5] rfl ?_
              exact ih (a + 1) (some j) (by omega) (fun j' hj' => by cases hj'; omega) (by rw [← hv]; clear ih hv ha hl; first | (simp [fm_next, fm_can, fm_to, fm_1st, wc_nI0, *]; done) | (simp_all [fm_next, fm_can, fm_to, fm_1st, wc_nI0]; done) | (rw [fm_next, show fm_can μ a = nI 0 from by unfold fm_can fm_to; repeat' split <;> first | rfl | contradiction, show fm_1st μ a (some j) = nI 0 from by unfold fm_1st; dsimp only; repeat' split <;> first | rfl | contradiction]; simp [wc_nI0]; done))
            ·
              refine wr_aload_n C 4 dM_next_107 rfl rfl ?_
              refine wf_Model_number C  (Or.inl tw_369) dM_next_108 ?_
              refine wr_iload_n C 2 dM_next_111 rfl rfl ?_
              refine wa_m_number C (by omega) dM_next_112 ?_
              refine wr_aload_n C 4 dM_next_113 rfl rfl ?_
              refine wf_Model_number C  (Or.inl tw_369) dM_next_114 ?_
              refine wr_iload_n C 3 dM_next_117 rfl rfl ?_
              refine wa_m_number C (by omega) dM_next_118 ?_
              refine wr_icmp_ge C (tgt := 126) dM_next_119 (by decide) (fun h9 => ?_) (fun h9 => ?_)
              ·
                refine wr_iconst C (v := nI 0) dM_next_126 (by decide) ?_
                refine wr_istore C (vs' := [(5, .int (nI 0)), (4, .int (nI 0)), (3, .int (nI (a % 3))), (2, .int (nI a)), (1, .int (nI j)), (0, .ref (Γ.2.2 70))]) dM_next_127 (by decide) rfl ?_
                refine wr_iload C 1 dM_next_129 rfl ?_
                refine wr_if_eq C (tgt := 141) dM_next_131 (by decide) (fun _ => ?_) (fun h10 => absurd (by decide) h10)
                refine wr_iinc C (v := nI (a + 1)) (vs' := [(2, .int (nI (a + 1))), (5, .int (nI 0)), (4, .int (nI 0)), (3, .int (nI (a % 3))), (1, .int (nI j)), (0, .ref (Γ.2.2 70))]) 3 dM_next_141 rfl (wc_inc1 a) (by decide) rfl ?_
                refine wr_goto C (tgt := 4) dM_next_144 (by decide) ?_
                refine wr_sub [0, 4, 5] rfl ?_
                exact ih (a + 1) (some j) (by omega) (fun j' hj' => by cases hj'; omega) (by rw [← hv]; clear ih hv ha hl; first | (simp [fm_next, fm_can, fm_to, fm_1st, wc_nI0, *]; done) | (simp_all [fm_next, fm_can, fm_to, fm_1st, wc_nI0]; done) | (rw [fm_next, show fm_can μ a = nI 0 from by unfold fm_can fm_to; repeat' split <;> first | rfl | contradiction, show fm_1st μ a (some j) = nI 0 from by unfold fm_1st; dsimp only; repeat' split <;> first | rfl | contradiction]; simp [wc_nI0]; done))
              ·
                refine wr_iconst C (v := nI 1) dM_next_122 (by decide) ?_
                refine wr_goto C (tgt := 127) dM_next_123 (by decide) ?_
                refine wr_istore C (vs' := [(5, .int (nI 1)), (4, .int (nI 0)), (3, .int (nI (a % 3))), (2, .int (nI a)), (1, .int (nI j)), (0, .ref (Γ.2.2 70))]) dM_next_127 (by decide) rfl ?_
                refine wr_iload C 1 dM_next_129 rfl ?_
                refine wr_if_eq C (tgt := 141) dM_next_131 (by decide) (fun _ => ?_) (fun h11 => absurd (by decide) h11)
                refine wr_iinc C (v := nI (a + 1)) (vs' := [(2, .int (nI (a + 1))), (5, .int (nI 1)), (4, .int (nI 0)), (3, .int (nI (a % 3))), (1, .int (nI j)), (0, .ref (Γ.2.2 70))]) 3 dM_next_141 rfl (wc_inc1 a) (by decide) rfl ?_
                refine wr_goto C (tgt := 4) dM_next_144 (by decide) ?_
                refine wr_sub [0, 4, 5] rfl ?_
                exact ih (a + 1) (some j) (by omega) (fun j' hj' => by cases hj'; omega) (by rw [← hv]; clear ih hv ha hl; first | (simp [fm_next, fm_can, fm_to, fm_1st, wc_nI0, *]; done) | (simp_all [fm_next, fm_can, fm_to, fm_1st, wc_nI0]; done) | (rw [fm_next, show fm_can μ a = nI 0 from by unfold fm_can fm_to; repeat' split <;> first | rfl | contradiction, show fm_1st μ a (some j) = nI 1 from by unfold fm_1st; dsimp only; repeat' split <;> first | rfl | contradiction]; simp [wc_nI0]; done))
        ·
          refine wr_aload_n C 3 dM_next_44 rfl rfl ?_
          refine wf_Model_arrives C  (Or.inl tw_368) dM_next_45 ?_
          refine wr_iload_n C 1 dM_next_48 rfl rfl ?_
          refine wa_m_arrives C (by omega) dM_next_49 ?_
          refine wr_aload_n C 3 dM_next_50 rfl rfl ?_
          refine wf_Model_now C  (Or.inl tw_346) dM_next_51 ?_
          refine wr_icmp_gt C (tgt := 70) dM_next_54 (by decide) (fun h12 => ?_) (fun h12 => ?_)
          ·
            refine wr_iconst C (v := nI 0) dM_next_70 (by decide) ?_
            refine wr_istore C (vs' := [(4, .int (nI 0)), (3, .int (nI (a % 3))), (2, .int (nI a)), (1, .int (nI j)), (0, .ref (Γ.2.2 70))]) dM_next_71 (by decide) rfl ?_
            refine wr_iload_n C 3 dM_next_73 rfl rfl ?_
            refine wr_if_lt C (tgt := 122) dM_next_74 (by decide) (fun h13 => absurd h13 (wc_nolt0 (by omega) (by omega))) (fun _ => ?_)
            refine wr_aload_n C 4 dM_next_77 rfl rfl ?_
            refine wf_Model_arrives C  (Or.inl tw_368) dM_next_78 ?_
            refine wr_iload_n C 2 dM_next_81 rfl rfl ?_
            refine wa_m_arrives C (by omega) dM_next_82 ?_
            refine wr_aload_n C 4 dM_next_83 rfl rfl ?_
            refine wf_Model_arrives C  (Or.inl tw_368) dM_next_84 ?_
            refine wr_iload_n C 3 dM_next_87 rfl rfl ?_
            refine wa_m_arrives C (by omega) dM_next_88 ?_
            refine wr_icmp_lt C (tgt := 122) dM_next_89 (by decide) (fun h14 => ?_) (fun h14 => ?_)
            ·
              refine wr_iconst C (v := nI 1) dM_next_122 (by decide) ?_
              refine wr_goto C (tgt := 127) dM_next_123 (by decide) ?_
              refine wr_istore C (vs' := [(5, .int (nI 1)), (4, .int (nI 0)), (3, .int (nI (a % 3))), (2, .int (nI a)), (1, .int (nI j)), (0, .ref (Γ.2.2 70))]) dM_next_127 (by decide) rfl ?_
              refine wr_iload C 1 dM_next_129 rfl ?_
              refine wr_if_eq C (tgt := 141) dM_next_131 (by decide) (fun _ => ?_) (fun h15 => absurd (by decide) h15)
              refine wr_iinc C (v := nI (a + 1)) (vs' := [(2, .int (nI (a + 1))), (5, .int (nI 1)), (4, .int (nI 0)), (3, .int (nI (a % 3))), (1, .int (nI j)), (0, .ref (Γ.2.2 70))]) 3 dM_next_141 rfl (wc_inc1 a) (by decide) rfl ?_
              refine wr_goto C (tgt := 4) dM_next_144 (by decide) ?_
              refine wr_sub [0, 4, 5] rfl ?_
              exact ih (a + 1) (some j) (by omega) (fun j' hj' => by cases hj'; omega) (by rw [← hv]; clear ih hv ha hl; first | (simp [fm_next, fm_can, fm_to, fm_1st, wc_nI0, *]; done) | (simp_all [fm_next, fm_can, fm_to, fm_1st, wc_nI0]; done) | (rw [fm_next, show fm_can μ a = nI 0 from by unfold fm_can fm_to; repeat' split <;> first | rfl | contradiction, show fm_1st μ a (some j) = nI 1 from by unfold fm_1st; dsimp only; repeat' split <;> first | rfl | contradiction]; simp [wc_nI0]; done))
            ·
              refine wr_aload_n C 4 dM_next_92 rfl rfl ?_
              refine wf_Model_arrives C  (Or.inl tw_368) dM_next_93 ?_
              refine wr_iload_n C 2 dM_next_96 rfl rfl ?_
              refine wa_m_arrives C (by omega) dM_next_97 ?_
              refine wr_aload_n C 4 dM_next_98 rfl rfl ?_
              refine wf_Model_arrives C  (Or.inl tw_368) dM_next_99 ?_
              refine wr_iload_n C 3 dM_next_102 rfl rfl ?_
              refine wa_m_arrives C (by omega) dM_next_103 ?_
              refine wr_icmp_ne C (tgt := 126) dM_next_104 (by decide) (fun h16 => ?_) (fun h16 => ?_)
              ·
                refine wr_iconst C (v := nI 0) dM_next_126 (by decide) ?_
                refine wr_istore C (vs' := [(5, .int (nI 0)), (4, .int (nI 0)), (3, .int (nI (a % 3))), (2, .int (nI a)), (1, .int (nI j)), (0, .ref (Γ.2.2 70))]) dM_next_127 (by decide) rfl ?_
                refine wr_iload C 1 dM_next_129 rfl ?_
                refine wr_if_eq C (tgt := 141) dM_next_131 (by decide) (fun _ => ?_) (fun h17 => absurd (by decide) h17)
                refine wr_iinc C (v := nI (a + 1)) (vs' := [(2, .int (nI (a + 1))), (5, .int (nI 0)), (4, .int (nI 0)), (3, .int (nI (a % 3))), (1, .int (nI j)), (0, .ref (Γ.2.2 70))]) 3 dM_next_141 rfl (wc_inc1 a) (by decide) rfl ?_
                refine wr_goto C (tgt := 4) dM_next_144 (by decide) ?_
                refine wr_sub [0, 4, 5] rfl ?_
                exact ih (a + 1) (some j) (by omega) (fun j' hj' => by cases hj'; omega) (by rw [← hv]; clear ih hv ha hl; first | (simp [fm_next, fm_can, fm_to, fm_1st, wc_nI0, *]; done) | (simp_all [fm_next, fm_can, fm_to, fm_1st, wc_nI0]; done) | (rw [fm_next, show fm_can μ a = nI 0 from by unfold fm_can fm_to; repeat' split <;> first | rfl | contradiction, show fm_1st μ a (some j) = nI 0 from by unfold fm_1st; dsimp only; repeat' split <;> first | rfl | contradiction]; simp [wc_nI0]; done))
              ·
                refine wr_aload_n C 4 dM_next_107 rfl rfl ?_
                refine wf_Model_number C  (Or.inl tw_369) dM_next_108 ?_
                refine wr_iload_n C 2 dM_next_111 rfl rfl ?_
                refine wa_m_number C (by omega) dM_next_112 ?_
                refine wr_aload_n C 4 dM_next_113 rfl rfl ?_
                refine wf_Model_number C  (Or.inl tw_369) dM_next_114 ?_
                refine wr_iload_n C 3 dM_next_117 rfl rfl ?_
                refine wa_m_number C (by omega) dM_next_118 ?_
                refine wr_icmp_ge C (tgt := 126) dM_next_119 (by decide) (fun h18 => ?_) (fun h18 => ?_)
                ·
                  refine wr_iconst C (v := nI 0) dM_next_126 (by decide) ?_
                  refine wr_istore C (vs' := [(5, .int (nI 0)), (4, .int (nI 0)), (3, .int (nI (a % 3))), (2, .int (nI a)), (1, .int (nI j)), (0, .ref (Γ.2.2 70))]) dM_next_127 (by decide) rfl ?_
                  refine wr_iload C 1 dM_next_129 rfl ?_
                  refine wr_if_eq C (tgt := 141) dM_next_131 (by decide) (fun _ => ?_) (fun h19 => absurd (by decide) h19)
                  refine wr_iinc C (v := nI (a + 1)) (vs' := [(2, .int (nI (a + 1))), (5, .int (nI 0)), (4, .int (nI 0)), (3, .int (nI (a % 3))), (1, .int (nI j)), (0, .ref (Γ.2.2 70))]) 3 dM_next_141 rfl (wc_inc1 a) (by decide) rfl ?_
                  refine wr_goto C (tgt := 4) dM_next_144 (by decide) ?_
                  refine wr_sub [0, 4, 5] rfl ?_
                  exact ih (a + 1) (some j) (by omega) (fun j' hj' => by cases hj'; omega) (by rw [← hv]; clear ih hv ha hl; first | (simp [fm_next, fm_can, fm_to, fm_1st, wc_nI0, *]; done) | (simp_all [fm_next, fm_can, fm_to, fm_1st, wc_nI0]; done) | (rw [fm_next, show fm_can μ a = nI 0 from by unfold fm_can fm_to; repeat' split <;> first | rfl | contradiction, show fm_1st μ a (some j) = nI 0 from by unfold fm_1st; dsimp only; repeat' split <;> first | rfl | contradiction]; simp [wc_nI0]; done))
                ·
                  refine wr_iconst C (v := nI 1) dM_next_122 (by decide) ?_
                  refine wr_goto C (tgt := 127) dM_next_123 (by decide) ?_
                  refine wr_istore C (vs' := [(5, .int (nI 1)), (4, .int (nI 0)), (3, .int (nI (a % 3))), (2, .int (nI a)), (1, .int (nI j)), (0, .ref (Γ.2.2 70))]) dM_next_127 (by decide) rfl ?_
                  refine wr_iload C 1 dM_next_129 rfl ?_
                  refine wr_if_eq C (tgt := 141) dM_next_131 (by decide) (fun _ => ?_) (fun h20 => absurd (by decide) h20)
                  refine wr_iinc C (v := nI (a + 1)) (vs' := [(2, .int (nI (a + 1))), (5, .int (nI 1)), (4, .int (nI 0)), (3, .int (nI (a % 3))), (1, .int (nI j)), (0, .ref (Γ.2.2 70))]) 3 dM_next_141 rfl (wc_inc1 a) (by decide) rfl ?_
                  refine wr_goto C (tgt := 4) dM_next_144 (by decide) ?_
                  refine wr_sub [0, 4, 5] rfl ?_
                  exact ih (a + 1) (some j) (by omega) (fun j' hj' => by cases hj'; omega) (by rw [← hv]; clear ih hv ha hl; first | (simp [fm_next, fm_can, fm_to, fm_1st, wc_nI0, *]; done) | (simp_all [fm_next, fm_can, fm_to, fm_1st, wc_nI0]; done) | (rw [fm_next, show fm_can μ a = nI 0 from by unfold fm_can fm_to; repeat' split <;> first | rfl | contradiction, show fm_1st μ a (some j) = nI 1 from by unfold fm_1st; dsimp only; repeat' split <;> first | rfl | contradiction]; simp [wc_nI0]; done))
          ·
            refine wr_aload_n C 3 dM_next_57 rfl rfl ?_
            refine wf_Model_down C  (Or.inl tw_350) dM_next_58 ?_
            refine wr_iload_n C 0 dM_next_61 rfl rfl ?_
            refine wa_m_down C (by omega) dM_next_62 ?_
            refine wr_if_ne C (tgt := 70) dM_next_63 (by decide) (fun h21 => ?_) (fun h21 => ?_)
            ·
              refine wr_iconst C (v := nI 0) dM_next_70 (by decide) ?_
              refine wr_istore C (vs' := [(4, .int (nI 0)), (3, .int (nI (a % 3))), (2, .int (nI a)), (1, .int (nI j)), (0, .ref (Γ.2.2 70))]) dM_next_71 (by decide) rfl ?_
              refine wr_iload_n C 3 dM_next_73 rfl rfl ?_
              refine wr_if_lt C (tgt := 122) dM_next_74 (by decide) (fun h22 => absurd h22 (wc_nolt0 (by omega) (by omega))) (fun _ => ?_)
              refine wr_aload_n C 4 dM_next_77 rfl rfl ?_
              refine wf_Model_arrives C  (Or.inl tw_368) dM_next_78 ?_
              refine wr_iload_n C 2 dM_next_81 rfl rfl ?_
              refine wa_m_arrives C (by omega) dM_next_82 ?_
              refine wr_aload_n C 4 dM_next_83 rfl rfl ?_
              refine wf_Model_arrives C  (Or.inl tw_368) dM_next_84 ?_
              refine wr_iload_n C 3 dM_next_87 rfl rfl ?_
              refine wa_m_arrives C (by omega) dM_next_88 ?_
              refine wr_icmp_lt C (tgt := 122) dM_next_89 (by decide) (fun h23 => ?_) (fun h23 => ?_)
              ·
                refine wr_iconst C (v := nI 1) dM_next_122 (by decide) ?_
                refine wr_goto C (tgt := 127) dM_next_123 (by decide) ?_
                refine wr_istore C (vs' := [(5, .int (nI 1)), (4, .int (nI 0)), (3, .int (nI (a % 3))), (2, .int (nI a)), (1, .int (nI j)), (0, .ref (Γ.2.2 70))]) dM_next_127 (by decide) rfl ?_
                refine wr_iload C 1 dM_next_129 rfl ?_
                refine wr_if_eq C (tgt := 141) dM_next_131 (by decide) (fun _ => ?_) (fun h24 => absurd (by decide) h24)
                refine wr_iinc C (v := nI (a + 1)) (vs' := [(2, .int (nI (a + 1))), (5, .int (nI 1)), (4, .int (nI 0)), (3, .int (nI (a % 3))), (1, .int (nI j)), (0, .ref (Γ.2.2 70))]) 3 dM_next_141 rfl (wc_inc1 a) (by decide) rfl ?_
                refine wr_goto C (tgt := 4) dM_next_144 (by decide) ?_
                refine wr_sub [0, 4, 5] rfl ?_
                exact ih (a + 1) (some j) (by omega) (fun j' hj' => by cases hj'; omega) (by rw [← hv]; clear ih hv ha hl; first | (simp [fm_next, fm_can, fm_to, fm_1st, wc_nI0, *]; done) | (simp_all [fm_next, fm_can, fm_to, fm_1st, wc_nI0]; done) | (rw [fm_next, show fm_can μ a = nI 0 from by unfold fm_can fm_to; repeat' split <;> first | rfl | contradiction, show fm_1st μ a (some j) = nI 1 from by unfold fm_1st; dsimp only; repeat' split <;> first | rfl | contradiction]; simp [wc_nI0]; done))
              ·
                refine wr_aload_n C 4 dM_next_92 rfl rfl ?_
                refine wf_Model_arrives C  (Or.inl tw_368) dM_next_93 ?_
                refine wr_iload_n C 2 dM_next_96 rfl rfl ?_
                refine wa_m_arrives C (by omega) dM_next_97 ?_
                refine wr_aload_n C 4 dM_next_98 rfl rfl ?_
                refine wf_Model_arrives C  (Or.inl tw_368) dM_next_99 ?_
                refine wr_iload_n C 3 dM_next_102 rfl rfl ?_
                refine wa_m_arrives C (by omega) dM_next_103 ?_
                refine wr_icmp_ne C (tgt := 126) dM_next_104 (by decide) (fun h25 => ?_) (fun h25 => ?_)
                ·
                  refine wr_iconst C (v := nI 0) dM_next_126 (by decide) ?_
                  refine wr_istore C (vs' := [(5, .int (nI 0)), (4, .int (nI 0)), (3, .int (nI (a % 3))), (2, .int (nI a)), (1, .int (nI j)), (0, .ref (Γ.2.2 70))]) dM_next_127 (by decide) rfl ?_
                  refine wr_iload C 1 dM_next_129 rfl ?_
                  refine wr_if_eq C (tgt := 141) dM_next_131 (by decide) (fun _ => ?_) (fun h26 => absurd (by decide) h26)
                  refine wr_iinc C (v := nI (a + 1)) (vs' := [(2, .int (nI (a + 1))), (5, .int (nI 0)), (4, .int (nI 0)), (3, .int (nI (a % 3))), (1, .int (nI j)), (0, .ref (Γ.2.2 70))]) 3 dM_next_141 rfl (wc_inc1 a) (by decide) rfl ?_
                  refine wr_goto C (tgt := 4) dM_next_144 (by decide) ?_
                  refine wr_sub [0, 4, 5] rfl ?_
                  exact ih (a + 1) (some j) (by omega) (fun j' hj' => by cases hj'; omega) (by rw [← hv]; clear ih hv ha hl; first | (simp [fm_next, fm_can, fm_to, fm_1st, wc_nI0, *]; done) | (simp_all [fm_next, fm_can, fm_to, fm_1st, wc_nI0]; done) | (rw [fm_next, show fm_can μ a = nI 0 from by unfold fm_can fm_to; repeat' split <;> first | rfl | contradiction, show fm_1st μ a (some j) = nI 0 from by unfold fm_1st; dsimp only; repeat' split <;> first | rfl | contradiction]; simp [wc_nI0]; done))
                ·
                  refine wr_aload_n C 4 dM_next_107 rfl rfl ?_
                  refine wf_Model_number C  (Or.inl tw_369) dM_next_108 ?_
                  refine wr_iload_n C 2 dM_next_111 rfl rfl ?_
                  refine wa_m_number C (by omega) dM_next_112 ?_
                  refine wr_aload_n C 4 dM_next_113 rfl rfl ?_
                  refine wf_Model_number C  (Or.inl tw_369) dM_next_114 ?_
                  refine wr_iload_n C 3 dM_next_117 rfl rfl ?_
                  refine wa_m_number C (by omega) dM_next_118 ?_
                  refine wr_icmp_ge C (tgt := 126) dM_next_119 (by decide) (fun h27 => ?_) (fun h27 => ?_)
                  ·
                    refine wr_iconst C (v := nI 0) dM_next_126 (by decide) ?_
                    refine wr_istore C (vs' := [(5, .int (nI 0)), (4, .int (nI 0)), (3, .int (nI (a % 3))), (2, .int (nI a)), (1, .int (nI j)), (0, .ref (Γ.2.2 70))]) dM_next_127 (by decide) rfl ?_
                    refine wr_iload C 1 dM_next_129 rfl ?_
                    refine wr_if_eq C (tgt := 141) dM_next_131 (by decide) (fun _ => ?_) (fun h28 => absurd (by decide) h28)
                    refine wr_iinc C (v := nI (a + 1)) (vs' := [(2, .int (nI (a + 1))), (5, .int (nI 0)), (4, .int (nI 0)), (3, .int (nI (a % 3))), (1, .int (nI j)), (0, .ref (Γ.2.2 70))]) 3 dM_next_141 rfl (wc_inc1 a) (by decide) rfl ?_
                    refine wr_goto C (tgt := 4) dM_next_144 (by decide) ?_
                    refine wr_sub [0, 4, 5] rfl ?_
                    exact ih (a + 1) (some j) (by omega) (fun j' hj' => by cases hj'; omega) (by rw [← hv]; clear ih hv ha hl; first | (simp [fm_next, fm_can, fm_to, fm_1st, wc_nI0, *]; done) | (simp_all [fm_next, fm_can, fm_to, fm_1st, wc_nI0]; done) | (rw [fm_next, show fm_can μ a = nI 0 from by unfold fm_can fm_to; repeat' split <;> first | rfl | contradiction, show fm_1st μ a (some j) = nI 0 from by unfold fm_1st; dsimp only; repeat' split <;> first | rfl | contradiction]; simp [wc_nI0]; done))
                  ·
                    refine wr_iconst C (v := nI 1) dM_next_122 (by decide) ?_
                    refine wr_goto C (tgt := 127) dM_next_123 (by decide) ?_
                    refine wr_istore C (vs' := [(5, .int (nI 1)), (4, .int (nI 0)), (3, .int (nI (a % 3))), (2, .int (nI a)), (1, .int (nI j)), (0, .ref (Γ.2.2 70))]) dM_next_127 (by decide) rfl ?_
                    refine wr_iload C 1 dM_next_129 rfl ?_
                    refine wr_if_eq C (tgt := 141) dM_next_131 (by decide) (fun _ => ?_) (fun h29 => absurd (by decide) h29)
                    refine wr_iinc C (v := nI (a + 1)) (vs' := [(2, .int (nI (a + 1))), (5, .int (nI 1)), (4, .int (nI 0)), (3, .int (nI (a % 3))), (1, .int (nI j)), (0, .ref (Γ.2.2 70))]) 3 dM_next_141 rfl (wc_inc1 a) (by decide) rfl ?_
                    refine wr_goto C (tgt := 4) dM_next_144 (by decide) ?_
                    refine wr_sub [0, 4, 5] rfl ?_
                    exact ih (a + 1) (some j) (by omega) (fun j' hj' => by cases hj'; omega) (by rw [← hv]; clear ih hv ha hl; first | (simp [fm_next, fm_can, fm_to, fm_1st, wc_nI0, *]; done) | (simp_all [fm_next, fm_can, fm_to, fm_1st, wc_nI0]; done) | (rw [fm_next, show fm_can μ a = nI 0 from by unfold fm_can fm_to; repeat' split <;> first | rfl | contradiction, show fm_1st μ a (some j) = nI 1 from by unfold fm_1st; dsimp only; repeat' split <;> first | rfl | contradiction]; simp [wc_nI0]; done))
            ·
              refine wr_iconst C (v := nI 1) dM_next_66 (by decide) ?_
              refine wr_goto C (tgt := 71) dM_next_67 (by decide) ?_
              refine wr_istore C (vs' := [(4, .int (nI 1)), (3, .int (nI (a % 3))), (2, .int (nI a)), (1, .int (nI j)), (0, .ref (Γ.2.2 70))]) dM_next_71 (by decide) rfl ?_
              refine wr_iload_n C 3 dM_next_73 rfl rfl ?_
              refine wr_if_lt C (tgt := 122) dM_next_74 (by decide) (fun h30 => absurd h30 (wc_nolt0 (by omega) (by omega))) (fun _ => ?_)
              refine wr_aload_n C 4 dM_next_77 rfl rfl ?_
              refine wf_Model_arrives C  (Or.inl tw_368) dM_next_78 ?_
              refine wr_iload_n C 2 dM_next_81 rfl rfl ?_
              refine wa_m_arrives C (by omega) dM_next_82 ?_
              refine wr_aload_n C 4 dM_next_83 rfl rfl ?_
              refine wf_Model_arrives C  (Or.inl tw_368) dM_next_84 ?_
              refine wr_iload_n C 3 dM_next_87 rfl rfl ?_
              refine wa_m_arrives C (by omega) dM_next_88 ?_
              refine wr_icmp_lt C (tgt := 122) dM_next_89 (by decide) (fun h31 => ?_) (fun h31 => ?_)
              ·
                refine wr_iconst C (v := nI 1) dM_next_122 (by decide) ?_
                refine wr_goto C (tgt := 127) dM_next_123 (by decide) ?_
                refine wr_istore C (vs' := [(5, .int (nI 1)), (4, .int (nI 1)), (3, .int (nI (a % 3))), (2, .int (nI a)), (1, .int (nI j)), (0, .ref (Γ.2.2 70))]) dM_next_127 (by decide) rfl ?_
                refine wr_iload C 1 dM_next_129 rfl ?_
                refine wr_if_eq C (tgt := 141) dM_next_131 (by decide) (fun h32 => absurd h32 (by decide)) (fun _ => ?_)
                refine wr_iload C 0 dM_next_134 rfl ?_
                refine wr_if_eq C (tgt := 141) dM_next_136 (by decide) (fun h33 => absurd h33 (by decide)) (fun _ => ?_)
                refine wr_iload_n C 3 dM_next_139 rfl rfl ?_
                refine wr_istore_n C (vs' := [(1, .int (nI a)), (5, .int (nI 1)), (4, .int (nI 1)), (3, .int (nI (a % 3))), (2, .int (nI a)), (0, .ref (Γ.2.2 70))]) dM_next_140 rfl (by decide) rfl ?_
                refine wr_iinc C (v := nI (a + 1)) (vs' := [(2, .int (nI (a + 1))), (1, .int (nI a)), (5, .int (nI 1)), (4, .int (nI 1)), (3, .int (nI (a % 3))), (0, .ref (Γ.2.2 70))]) 4 dM_next_141 rfl (wc_inc1 a) (by decide) rfl ?_
                refine wr_goto C (tgt := 4) dM_next_144 (by decide) ?_
                refine wr_sub [0, 1, 5] rfl ?_
                exact ih (a + 1) (some a) (by omega) (fun j' hj' => by cases hj'; omega) (by rw [← hv]; clear ih hv ha hl; first | (simp [fm_next, fm_can, fm_to, fm_1st, wc_nI0, *]; done) | (simp_all [fm_next, fm_can, fm_to, fm_1st, wc_nI0]; done) | (rw [fm_next, show fm_can μ a = nI 1 from by unfold fm_can fm_to; repeat' split <;> first | rfl | contradiction, show fm_1st μ a (some j) = nI 1 from by unfold fm_1st; dsimp only; repeat' split <;> first | rfl | contradiction]; simp [wc_nI0]; done))
              ·
                refine wr_aload_n C 4 dM_next_92 rfl rfl ?_
                refine wf_Model_arrives C  (Or.inl tw_368) dM_next_93 ?_
                refine wr_iload_n C 2 dM_next_96 rfl rfl ?_
                refine wa_m_arrives C (by omega) dM_next_97 ?_
                refine wr_aload_n C 4 dM_next_98 rfl rfl ?_
                refine wf_Model_arrives C  (Or.inl tw_368) dM_next_99 ?_
                refine wr_iload_n C 3 dM_next_102 rfl rfl ?_
                refine wa_m_arrives C (by omega) dM_next_103 ?_
                refine wr_icmp_ne C (tgt := 126) dM_next_104 (by decide) (fun h34 => ?_) (fun h34 => ?_)
                ·
                  refine wr_iconst C (v := nI 0) dM_next_126 (by decide) ?_
                  refine wr_istore C (vs' := [(5, .int (nI 0)), (4, .int (nI 1)), (3, .int (nI (a % 3))), (2, .int (nI a)), (1, .int (nI j)), (0, .ref (Γ.2.2 70))]) dM_next_127 (by decide) rfl ?_
                  refine wr_iload C 1 dM_next_129 rfl ?_
                  refine wr_if_eq C (tgt := 141) dM_next_131 (by decide) (fun h35 => absurd h35 (by decide)) (fun _ => ?_)
                  refine wr_iload C 0 dM_next_134 rfl ?_
                  refine wr_if_eq C (tgt := 141) dM_next_136 (by decide) (fun _ => ?_) (fun h36 => absurd (by decide) h36)
                  refine wr_iinc C (v := nI (a + 1)) (vs' := [(2, .int (nI (a + 1))), (5, .int (nI 0)), (4, .int (nI 1)), (3, .int (nI (a % 3))), (1, .int (nI j)), (0, .ref (Γ.2.2 70))]) 3 dM_next_141 rfl (wc_inc1 a) (by decide) rfl ?_
                  refine wr_goto C (tgt := 4) dM_next_144 (by decide) ?_
                  refine wr_sub [0, 4, 5] rfl ?_
                  exact ih (a + 1) (some j) (by omega) (fun j' hj' => by cases hj'; omega) (by rw [← hv]; clear ih hv ha hl; first | (simp [fm_next, fm_can, fm_to, fm_1st, wc_nI0, *]; done) | (simp_all [fm_next, fm_can, fm_to, fm_1st, wc_nI0]; done) | (rw [fm_next, show fm_can μ a = nI 1 from by unfold fm_can fm_to; repeat' split <;> first | rfl | contradiction, show fm_1st μ a (some j) = nI 0 from by unfold fm_1st; dsimp only; repeat' split <;> first | rfl | contradiction]; simp [wc_nI0]; done))
                ·
                  refine wr_aload_n C 4 dM_next_107 rfl rfl ?_
                  refine wf_Model_number C  (Or.inl tw_369) dM_next_108 ?_
                  refine wr_iload_n C 2 dM_next_111 rfl rfl ?_
                  refine wa_m_number C (by omega) dM_next_112 ?_
                  refine wr_aload_n C 4 dM_next_113 rfl rfl ?_
                  refine wf_Model_number C  (Or.inl tw_369) dM_next_114 ?_
                  refine wr_iload_n C 3 dM_next_117 rfl rfl ?_
                  refine wa_m_number C (by omega) dM_next_118 ?_
                  refine wr_icmp_ge C (tgt := 126) dM_next_119 (by decide) (fun h37 => ?_) (fun h37 => ?_)
                  ·
                    refine wr_iconst C (v := nI 0) dM_next_126 (by decide) ?_
                    refine wr_istore C (vs' := [(5, .int (nI 0)), (4, .int (nI 1)), (3, .int (nI (a % 3))), (2, .int (nI a)), (1, .int (nI j)), (0, .ref (Γ.2.2 70))]) dM_next_127 (by decide) rfl ?_
                    refine wr_iload C 1 dM_next_129 rfl ?_
                    refine wr_if_eq C (tgt := 141) dM_next_131 (by decide) (fun h38 => absurd h38 (by decide)) (fun _ => ?_)
                    refine wr_iload C 0 dM_next_134 rfl ?_
                    refine wr_if_eq C (tgt := 141) dM_next_136 (by decide) (fun _ => ?_) (fun h39 => absurd (by decide) h39)
                    refine wr_iinc C (v := nI (a + 1)) (vs' := [(2, .int (nI (a + 1))), (5, .int (nI 0)), (4, .int (nI 1)), (3, .int (nI (a % 3))), (1, .int (nI j)), (0, .ref (Γ.2.2 70))]) 3 dM_next_141 rfl (wc_inc1 a) (by decide) rfl ?_
                    refine wr_goto C (tgt := 4) dM_next_144 (by decide) ?_
                    refine wr_sub [0, 4, 5] rfl ?_
                    exact ih (a + 1) (some j) (by omega) (fun j' hj' => by cases hj'; omega) (by rw [← hv]; clear ih hv ha hl; first | (simp [fm_next, fm_can, fm_to, fm_1st, wc_nI0, *]; done) | (simp_all [fm_next, fm_can, fm_to, fm_1st, wc_nI0]; done) | (rw [fm_next, show fm_can μ a = nI 1 from by unfold fm_can fm_to; repeat' split <;> first | rfl | contradiction, show fm_1st μ a (some j) = nI 0 from by unfold fm_1st; dsimp only; repeat' split <;> first | rfl | contradiction]; simp [wc_nI0]; done))
                  ·
                    refine wr_iconst C (v := nI 1) dM_next_122 (by decide) ?_
                    refine wr_goto C (tgt := 127) dM_next_123 (by decide) ?_
                    refine wr_istore C (vs' := [(5, .int (nI 1)), (4, .int (nI 1)), (3, .int (nI (a % 3))), (2, .int (nI a)), (1, .int (nI j)), (0, .ref (Γ.2.2 70))]) dM_next_127 (by decide) rfl ?_
                    refine wr_iload C 1 dM_next_129 rfl ?_
                    refine wr_if_eq C (tgt := 141) dM_next_131 (by decide) (fun h40 => absurd h40 (by decide)) (fun _ => ?_)
                    refine wr_iload C 0 dM_next_134 rfl ?_
                    refine wr_if_eq C (tgt := 141) dM_next_136 (by decide) (fun h41 => absurd h41 (by decide)) (fun _ => ?_)
                    refine wr_iload_n C 3 dM_next_139 rfl rfl ?_
                    refine wr_istore_n C (vs' := [(1, .int (nI a)), (5, .int (nI 1)), (4, .int (nI 1)), (3, .int (nI (a % 3))), (2, .int (nI a)), (0, .ref (Γ.2.2 70))]) dM_next_140 rfl (by decide) rfl ?_
                    refine wr_iinc C (v := nI (a + 1)) (vs' := [(2, .int (nI (a + 1))), (1, .int (nI a)), (5, .int (nI 1)), (4, .int (nI 1)), (3, .int (nI (a % 3))), (0, .ref (Γ.2.2 70))]) 4 dM_next_141 rfl (wc_inc1 a) (by decide) rfl ?_
                    refine wr_goto C (tgt := 4) dM_next_144 (by decide) ?_
                    refine wr_sub [0, 1, 5] rfl ?_
                    exact ih (a + 1) (some a) (by omega) (fun j' hj' => by cases hj'; omega) (by rw [← hv]; clear ih hv ha hl; first | (simp [fm_next, fm_can, fm_to, fm_1st, wc_nI0, *]; done) | (simp_all [fm_next, fm_can, fm_to, fm_1st, wc_nI0]; done) | (rw [fm_next, show fm_can μ a = nI 1 from by unfold fm_can fm_to; repeat' split <;> first | rfl | contradiction, show fm_1st μ a (some j) = nI 1 from by unfold fm_1st; dsimp only; repeat' split <;> first | rfl | contradiction]; simp [wc_nI0]; done))
      ·
        rw [nI_eq (by omega) (by omega)] at h2
        refine wr_aload_n C 2 dM_next_18 rfl rfl ?_
        refine wr_iload_n C 0 dM_next_19 rfl rfl ?_
        refine wr_bipush C (v := nI 15) dM_next_20 (by decide) ?_
        refine wr_irem C (z := nI (a % 15)) dM_next_22 (by decide) (pk_rem (by omega) (by omega) (by omega)) ?_
        refine wr_iconst C (v := nI 3) dM_next_23 (by decide) ?_
        refine wr_idiv C (z := nI ((a % 15) / 3)) dM_next_24 (by decide) (pk_div (by omega) (by omega) (by omega)) ?_
        refine wr_callV1 C (As := [.int (nI ((a % 15) / 3))]) (rest := []) (mm_least l Γ σ μ (t := (a % 15) / 3) (by omega)) cb_M_least (Or.inl tw_414) tw_415 tw_559 (by omega) (wc_c_Model) rfl (by decide) (by decide) rfl rfl (Nat.le_of_ble_eq_true rfl) ⟨Nat.le_refl _, Nat.le_refl _⟩ dM_next_25 ?_
        have hle41_0 := fm_least_le μ ((a % 15) / 3)
        refine wr_goto C (tgt := 34) dM_next_28 (by decide) ?_
        refine wr_istore_n C (vs' := [(3, .int (nI (fm_least μ ((a % 15) / 3)))), (2, .int (nI a)), (1, .int (nI j)), (0, .ref (Γ.2.2 70))]) dM_next_34 rfl (by decide) rfl ?_
        refine wr_aload_n C 3 dM_next_35 rfl rfl ?_
        refine wf_Model_arrives C  (Or.inl tw_368) dM_next_36 ?_
        refine wr_iload_n C 1 dM_next_39 rfl rfl ?_
        refine wa_m_arrives C (by omega) dM_next_40 ?_
        refine wr_if_le C (tgt := 70) dM_next_41 (by decide) (fun h42 => ?_) (fun h42 => ?_)
        ·
          refine wr_iconst C (v := nI 0) dM_next_70 (by decide) ?_
          refine wr_istore C (vs' := [(4, .int (nI 0)), (3, .int (nI (fm_least μ ((a % 15) / 3)))), (2, .int (nI a)), (1, .int (nI j)), (0, .ref (Γ.2.2 70))]) dM_next_71 (by decide) rfl ?_
          refine wr_iload_n C 3 dM_next_73 rfl rfl ?_
          refine wr_if_lt C (tgt := 122) dM_next_74 (by decide) (fun h43 => absurd h43 (wc_nolt0 (by omega) (by omega))) (fun _ => ?_)
          refine wr_aload_n C 4 dM_next_77 rfl rfl ?_
          refine wf_Model_arrives C  (Or.inl tw_368) dM_next_78 ?_
          refine wr_iload_n C 2 dM_next_81 rfl rfl ?_
          refine wa_m_arrives C (by omega) dM_next_82 ?_
          refine wr_aload_n C 4 dM_next_83 rfl rfl ?_
          refine wf_Model_arrives C  (Or.inl tw_368) dM_next_84 ?_
          refine wr_iload_n C 3 dM_next_87 rfl rfl ?_
          refine wa_m_arrives C (by omega) dM_next_88 ?_
          refine wr_icmp_lt C (tgt := 122) dM_next_89 (by decide) (fun h44 => ?_) (fun h44 => ?_)
          ·
            refine wr_iconst C (v := nI 1) dM_next_122 (by decide) ?_
            refine wr_goto C (tgt := 127) dM_next_123 (by decide) ?_
            refine wr_istore C (vs' := [(5, .int (nI 1)), (4, .int (nI 0)), (3, .int (nI (fm_least μ ((a % 15) / 3)))), (2, .int (nI a)), (1, .int (nI j)), (0, .ref (Γ.2.2 70))]) dM_next_127 (by decide) rfl ?_
            refine wr_iload C 1 dM_next_129 rfl ?_
            refine wr_if_eq C (tgt := 141) dM_next_131 (by decide) (fun _ => ?_) (fun h45 => absurd (by decide) h45)
            refine wr_iinc C (v := nI (a + 1)) (vs' := [(2, .int (nI (a + 1))), (5, .int (nI 1)), (4, .int (nI 0)), (3, .int (nI (fm_least μ ((a % 15) / 3)))), (1, .int (nI j)), (0, .ref (Γ.2.2 70))]) 3 dM_next_141 rfl (wc_inc1 a) (by decide) rfl ?_
            refine wr_goto C (tgt := 4) dM_next_144 (by decide) ?_
            refine wr_sub [0, 4, 5] rfl ?_
            exact ih (a + 1) (some j) (by omega) (fun j' hj' => by cases hj'; omega) (by rw [← hv]; clear ih hv ha hl; first | (simp [fm_next, fm_can, fm_to, fm_1st, wc_nI0, *]; done) | (simp_all [fm_next, fm_can, fm_to, fm_1st, wc_nI0]; done) | (rw [fm_next, show fm_can μ a = nI 0 from by unfold fm_can fm_to; repeat' split <;> first | rfl | contradiction, show fm_1st μ a (some j) = nI 1 from by unfold fm_1st; dsimp only; repeat' split <;> first | rfl | contradiction]; simp [wc_nI0]; done))
          ·
            refine wr_aload_n C 4 dM_next_92 rfl rfl ?_
            refine wf_Model_arrives C  (Or.inl tw_368) dM_next_93 ?_
            refine wr_iload_n C 2 dM_next_96 rfl rfl ?_
            refine wa_m_arrives C (by omega) dM_next_97 ?_
            refine wr_aload_n C 4 dM_next_98 rfl rfl ?_
            refine wf_Model_arrives C  (Or.inl tw_368) dM_next_99 ?_
            refine wr_iload_n C 3 dM_next_102 rfl rfl ?_
            refine wa_m_arrives C (by omega) dM_next_103 ?_
            refine wr_icmp_ne C (tgt := 126) dM_next_104 (by decide) (fun h46 => ?_) (fun h46 => ?_)
            ·
              refine wr_iconst C (v := nI 0) dM_next_126 (by decide) ?_
              refine wr_istore C (vs' := [(5, .int (nI 0)), (4, .int (nI 0)), (3, .int (nI (fm_least μ ((a % 15) / 3)))), (2, .int (nI a)), (1, .int (nI j)), (0, .ref (Γ.2.2 70))]) dM_next_127 (by decide) rfl ?_
              refine wr_iload C 1 dM_next_129 rfl ?_
              refine wr_if_eq C (tgt := 141) dM_next_131 (by decide) (fun _ => ?_) (fun h47 => absurd (by decide) h47)
              refine wr_iinc C (v := nI (a + 1)) (vs' := [(2, .int (nI (a + 1))), (5, .int (nI 0)), (4, .int (nI 0)), (3, .int (nI (fm_least μ ((a % 15) / 3)))), (1, .int (nI j)), (0, .ref (Γ.2.2 70))]) 3 dM_next_141 rfl (wc_inc1 a) (by decide) rfl ?_
              refine wr_goto C (tgt := 4) dM_next_144 (by decide) ?_
              refine wr_sub [0, 4, 5] rfl ?_
              exact ih (a + 1) (some j) (by omega) (fun j' hj' => by cases hj'; omega) (by rw [← hv]; clear ih hv ha hl; first | (simp [fm_next, fm_can, fm_to, fm_1st, wc_nI0, *]; done) | (simp_all [fm_next, fm_can, fm_to, fm_1st, wc_nI0]; done) | (rw [fm_next, show fm_can μ a = nI 0 from by unfold fm_can fm_to; repeat' split <;> first | rfl | contradiction, show fm_1st μ a (some j) = nI 0 from by unfold fm_1st; dsimp only; repeat' split <;> first | rfl | contradiction]; simp [wc_nI0]; done))
            ·
              refine wr_aload_n C 4 dM_next_107 rfl rfl ?_
              refine wf_Model_number C  (Or.inl tw_369) dM_next_108 ?_
              refine wr_iload_n C 2 dM_next_111 rfl rfl ?_
              refine wa_m_number C (by omega) dM_next_112 ?_
              refine wr_aload_n C 4 dM_next_113 rfl rfl ?_
              refine wf_Model_number C  (Or.inl tw_369) dM_next_114 ?_
              refine wr_iload_n C 3 dM_next_117 rfl rfl ?_
              refine wa_m_number C (by omega) dM_next_118 ?_
              refine wr_icmp_ge C (tgt := 126) dM_next_119 (by decide) (fun h48 => ?_) (fun h48 => ?_)
              ·
                refine wr_iconst C (v := nI 0) dM_next_126 (by decide) ?_
                refine wr_istore C (vs' := [(5, .int (nI 0)), (4, .int (nI 0)), (3, .int (nI (fm_least μ ((a % 15) / 3)))), (2, .int (nI a)), (1, .int (nI j)), (0, .ref (Γ.2.2 70))]) dM_next_127 (by decide) rfl ?_
                refine wr_iload C 1 dM_next_129 rfl ?_
                refine wr_if_eq C (tgt := 141) dM_next_131 (by decide) (fun _ => ?_) (fun h49 => absurd (by decide) h49)
                refine wr_iinc C (v := nI (a + 1)) (vs' := [(2, .int (nI (a + 1))), (5, .int (nI 0)), (4, .int (nI 0)), (3, .int (nI (fm_least μ ((a % 15) / 3)))), (1, .int (nI j)), (0, .ref (Γ.2.2 70))]) 3 dM_next_141 rfl (wc_inc1 a) (by decide) rfl ?_
                refine wr_goto C (tgt := 4) dM_next_144 (by decide) ?_
                refine wr_sub [0, 4, 5] rfl ?_
                exact ih (a + 1) (some j) (by omega) (fun j' hj' => by cases hj'; omega) (by rw [← hv]; clear ih hv ha hl; first | (simp [fm_next, fm_can, fm_to, fm_1st, wc_nI0, *]; done) | (simp_all [fm_next, fm_can, fm_to, fm_1st, wc_nI0]; done) | (rw [fm_next, show fm_can μ a = nI 0 from by unfold fm_can fm_to; repeat' split <;> first | rfl | contradiction, show fm_1st μ a (some j) = nI 0 from by unfold fm_1st; dsimp only; repeat' split <;> first | rfl | contradiction]; simp [wc_nI0]; done))
              ·
                refine wr_iconst C (v := nI 1) dM_next_122 (by decide) ?_
                refine wr_goto C (tgt := 127) dM_next_123 (by decide) ?_
                refine wr_istore C (vs' := [(5, .int (nI 1)), (4, .int (nI 0)), (3, .int (nI (fm_least μ ((a % 15) / 3)))), (2, .int (nI a)), (1, .int (nI j)), (0, .ref (Γ.2.2 70))]) dM_next_127 (by decide) rfl ?_
                refine wr_iload C 1 dM_next_129 rfl ?_
                refine wr_if_eq C (tgt := 141) dM_next_131 (by decide) (fun _ => ?_) (fun h50 => absurd (by decide) h50)
                refine wr_iinc C (v := nI (a + 1)) (vs' := [(2, .int (nI (a + 1))), (5, .int (nI 1)), (4, .int (nI 0)), (3, .int (nI (fm_least μ ((a % 15) / 3)))), (1, .int (nI j)), (0, .ref (Γ.2.2 70))]) 3 dM_next_141 rfl (wc_inc1 a) (by decide) rfl ?_
                refine wr_goto C (tgt := 4) dM_next_144 (by decide) ?_
                refine wr_sub [0, 4, 5] rfl ?_
                exact ih (a + 1) (some j) (by omega) (fun j' hj' => by cases hj'; omega) (by rw [← hv]; clear ih hv ha hl; first | (simp [fm_next, fm_can, fm_to, fm_1st, wc_nI0, *]; done) | (simp_all [fm_next, fm_can, fm_to, fm_1st, wc_nI0]; done) | (rw [fm_next, show fm_can μ a = nI 0 from by unfold fm_can fm_to; repeat' split <;> first | rfl | contradiction, show fm_1st μ a (some j) = nI 1 from by unfold fm_1st; dsimp only; repeat' split <;> first | rfl | contradiction]; simp [wc_nI0]; done))
        ·
          refine wr_aload_n C 3 dM_next_44 rfl rfl ?_
          refine wf_Model_arrives C  (Or.inl tw_368) dM_next_45 ?_
          refine wr_iload_n C 1 dM_next_48 rfl rfl ?_
          refine wa_m_arrives C (by omega) dM_next_49 ?_
          refine wr_aload_n C 3 dM_next_50 rfl rfl ?_
          refine wf_Model_now C  (Or.inl tw_346) dM_next_51 ?_
          refine wr_icmp_gt C (tgt := 70) dM_next_54 (by decide) (fun h51 => ?_) (fun h51 => ?_)
          ·
            refine wr_iconst C (v := nI 0) dM_next_70 (by decide) ?_
            refine wr_istore C (vs' := [(4, .int (nI 0)), (3, .int (nI (fm_least μ ((a % 15) / 3)))), (2, .int (nI a)), (1, .int (nI j)), (0, .ref (Γ.2.2 70))]) dM_next_71 (by decide) rfl ?_
            refine wr_iload_n C 3 dM_next_73 rfl rfl ?_
            refine wr_if_lt C (tgt := 122) dM_next_74 (by decide) (fun h52 => absurd h52 (wc_nolt0 (by omega) (by omega))) (fun _ => ?_)
            refine wr_aload_n C 4 dM_next_77 rfl rfl ?_
            refine wf_Model_arrives C  (Or.inl tw_368) dM_next_78 ?_
            refine wr_iload_n C 2 dM_next_81 rfl rfl ?_
            refine wa_m_arrives C (by omega) dM_next_82 ?_
            refine wr_aload_n C 4 dM_next_83 rfl rfl ?_
            refine wf_Model_arrives C  (Or.inl tw_368) dM_next_84 ?_
            refine wr_iload_n C 3 dM_next_87 rfl rfl ?_
            refine wa_m_arrives C (by omega) dM_next_88 ?_
            refine wr_icmp_lt C (tgt := 122) dM_next_89 (by decide) (fun h53 => ?_) (fun h53 => ?_)
            ·
              refine wr_iconst C (v := nI 1) dM_next_122 (by decide) ?_
              refine wr_goto C (tgt := 127) dM_next_123 (by decide) ?_
              refine wr_istore C (vs' := [(5, .int (nI 1)), (4, .int (nI 0)), (3, .int (nI (fm_least μ ((a % 15) / 3)))), (2, .int (nI a)), (1, .int (nI j)), (0, .ref (Γ.2.2 70))]) dM_next_127 (by decide) rfl ?_
              refine wr_iload C 1 dM_next_129 rfl ?_
              refine wr_if_eq C (tgt := 141) dM_next_131 (by decide) (fun _ => ?_) (fun h54 => absurd (by decide) h54)
              refine wr_iinc C (v := nI (a + 1)) (vs' := [(2, .int (nI (a + 1))), (5, .int (nI 1)), (4, .int (nI 0)), (3, .int (nI (fm_least μ ((a % 15) / 3)))), (1, .int (nI j)), (0, .ref (Γ.2.2 70))]) 3 dM_next_141 rfl (wc_inc1 a) (by decide) rfl ?_
              refine wr_goto C (tgt := 4) dM_next_144 (by decide) ?_
              refine wr_sub [0, 4, 5] rfl ?_
              exact ih (a + 1) (some j) (by omega) (fun j' hj' => by cases hj'; omega) (by rw [← hv]; clear ih hv ha hl; first | (simp [fm_next, fm_can, fm_to, fm_1st, wc_nI0, *]; done) | (simp_all [fm_next, fm_can, fm_to, fm_1st, wc_nI0]; done) | (rw [fm_next, show fm_can μ a = nI 0 from by unfold fm_can fm_to; repeat' split <;> first | rfl | contradiction, show fm_1st μ a (some j) = nI 1 from by unfold fm_1st; dsimp only; repeat' split <;> first | rfl | contradiction]; simp [wc_nI0]; done))
            ·
              refine wr_aload_n C 4 dM_next_92 rfl rfl ?_
              refine wf_Model_arrives C  (Or.inl tw_368) dM_next_93 ?_
              refine wr_iload_n C 2 dM_next_96 rfl rfl ?_
              refine wa_m_arrives C (by omega) dM_next_97 ?_
              refine wr_aload_n C 4 dM_next_98 rfl rfl ?_
              refine wf_Model_arrives C  (Or.inl tw_368) dM_next_99 ?_
              refine wr_iload_n C 3 dM_next_102 rfl rfl ?_
              refine wa_m_arrives C (by omega) dM_next_103 ?_
              refine wr_icmp_ne C (tgt := 126) dM_next_104 (by decide) (fun h55 => ?_) (fun h55 => ?_)
              ·
                refine wr_iconst C (v := nI 0) dM_next_126 (by decide) ?_
                refine wr_istore C (vs' := [(5, .int (nI 0)), (4, .int (nI 0)), (3, .int (nI (fm_least μ ((a % 15) / 3)))), (2, .int (nI a)), (1, .int (nI j)), (0, .ref (Γ.2.2 70))]) dM_next_127 (by decide) rfl ?_
                refine wr_iload C 1 dM_next_129 rfl ?_
                refine wr_if_eq C (tgt := 141) dM_next_131 (by decide) (fun _ => ?_) (fun h56 => absurd (by decide) h56)
                refine wr_iinc C (v := nI (a + 1)) (vs' := [(2, .int (nI (a + 1))), (5, .int (nI 0)), (4, .int (nI 0)), (3, .int (nI (fm_least μ ((a % 15) / 3)))), (1, .int (nI j)), (0, .ref (Γ.2.2 70))]) 3 dM_next_141 rfl (wc_inc1 a) (by decide) rfl ?_
                refine wr_goto C (tgt := 4) dM_next_144 (by decide) ?_
                refine wr_sub [0, 4, 5] rfl ?_
                exact ih (a + 1) (some j) (by omega) (fun j' hj' => by cases hj'; omega) (by rw [← hv]; clear ih hv ha hl; first | (simp [fm_next, fm_can, fm_to, fm_1st, wc_nI0, *]; done) | (simp_all [fm_next, fm_can, fm_to, fm_1st, wc_nI0]; done) | (rw [fm_next, show fm_can μ a = nI 0 from by unfold fm_can fm_to; repeat' split <;> first | rfl | contradiction, show fm_1st μ a (some j) = nI 0 from by unfold fm_1st; dsimp only; repeat' split <;> first | rfl | contradiction]; simp [wc_nI0]; done))
              ·
                refine wr_aload_n C 4 dM_next_107 rfl rfl ?_
                refine wf_Model_number C  (Or.inl tw_369) dM_next_108 ?_
                refine wr_iload_n C 2 dM_next_111 rfl rfl ?_
                refine wa_m_number C (by omega) dM_next_112 ?_
                refine wr_aload_n C 4 dM_next_113 rfl rfl ?_
                refine wf_Model_number C  (Or.inl tw_369) dM_next_114 ?_
                refine wr_iload_n C 3 dM_next_117 rfl rfl ?_
                refine wa_m_number C (by omega) dM_next_118 ?_
                refine wr_icmp_ge C (tgt := 126) dM_next_119 (by decide) (fun h57 => ?_) (fun h57 => ?_)
                ·
                  refine wr_iconst C (v := nI 0) dM_next_126 (by decide) ?_
                  refine wr_istore C (vs' := [(5, .int (nI 0)), (4, .int (nI 0)), (3, .int (nI (fm_least μ ((a % 15) / 3)))), (2, .int (nI a)), (1, .int (nI j)), (0, .ref (Γ.2.2 70))]) dM_next_127 (by decide) rfl ?_
                  refine wr_iload C 1 dM_next_129 rfl ?_
                  refine wr_if_eq C (tgt := 141) dM_next_131 (by decide) (fun _ => ?_) (fun h58 => absurd (by decide) h58)
                  refine wr_iinc C (v := nI (a + 1)) (vs' := [(2, .int (nI (a + 1))), (5, .int (nI 0)), (4, .int (nI 0)), (3, .int (nI (fm_least μ ((a % 15) / 3)))), (1, .int (nI j)), (0, .ref (Γ.2.2 70))]) 3 dM_next_141 rfl (wc_inc1 a) (by decide) rfl ?_
                  refine wr_goto C (tgt := 4) dM_next_144 (by decide) ?_
                  refine wr_sub [0, 4, 5] rfl ?_
                  exact ih (a + 1) (some j) (by omega) (fun j' hj' => by cases hj'; omega) (by rw [← hv]; clear ih hv ha hl; first | (simp [fm_next, fm_can, fm_to, fm_1st, wc_nI0, *]; done) | (simp_all [fm_next, fm_can, fm_to, fm_1st, wc_nI0]; done) | (rw [fm_next, show fm_can μ a = nI 0 from by unfold fm_can fm_to; repeat' split <;> first | rfl | contradiction, show fm_1st μ a (some j) = nI 0 from by unfold fm_1st; dsimp only; repeat' split <;> first | rfl | contradiction]; simp [wc_nI0]; done))
                ·
                  refine wr_iconst C (v := nI 1) dM_next_122 (by decide) ?_
                  refine wr_goto C (tgt := 127) dM_next_123 (by decide) ?_
                  refine wr_istore C (vs' := [(5, .int (nI 1)), (4, .int (nI 0)), (3, .int (nI (fm_least μ ((a % 15) / 3)))), (2, .int (nI a)), (1, .int (nI j)), (0, .ref (Γ.2.2 70))]) dM_next_127 (by decide) rfl ?_
                  refine wr_iload C 1 dM_next_129 rfl ?_
                  refine wr_if_eq C (tgt := 141) dM_next_131 (by decide) (fun _ => ?_) (fun h59 => absurd (by decide) h59)
                  refine wr_iinc C (v := nI (a + 1)) (vs' := [(2, .int (nI (a + 1))), (5, .int (nI 1)), (4, .int (nI 0)), (3, .int (nI (fm_least μ ((a % 15) / 3)))), (1, .int (nI j)), (0, .ref (Γ.2.2 70))]) 3 dM_next_141 rfl (wc_inc1 a) (by decide) rfl ?_
                  refine wr_goto C (tgt := 4) dM_next_144 (by decide) ?_
                  refine wr_sub [0, 4, 5] rfl ?_
                  exact ih (a + 1) (some j) (by omega) (fun j' hj' => by cases hj'; omega) (by rw [← hv]; clear ih hv ha hl; first | (simp [fm_next, fm_can, fm_to, fm_1st, wc_nI0, *]; done) | (simp_all [fm_next, fm_can, fm_to, fm_1st, wc_nI0]; done) | (rw [fm_next, show fm_can μ a = nI 0 from by unfold fm_can fm_to; repeat' split <;> first | rfl | contradiction, show fm_1st μ a (some j) = nI 1 from by unfold fm_1st; dsimp only; repeat' split <;> first | rfl | contradiction]; simp [wc_nI0]; done))
          ·
            have hto := hl a (by omega) (by assumption) (by assumption)
            refine wr_aload_n C 3 dM_next_57 rfl rfl ?_
            refine wf_Model_down C  (Or.inl tw_350) dM_next_58 ?_
            refine wr_iload_n C 0 dM_next_61 rfl rfl ?_
            refine wa_m_down C (by omega) dM_next_62 ?_
            refine wr_if_ne C (tgt := 70) dM_next_63 (by decide) (fun h60 => ?_) (fun h60 => ?_)
            ·
              refine wr_iconst C (v := nI 0) dM_next_70 (by decide) ?_
              refine wr_istore C (vs' := [(4, .int (nI 0)), (3, .int (nI (fm_least μ ((a % 15) / 3)))), (2, .int (nI a)), (1, .int (nI j)), (0, .ref (Γ.2.2 70))]) dM_next_71 (by decide) rfl ?_
              refine wr_iload_n C 3 dM_next_73 rfl rfl ?_
              refine wr_if_lt C (tgt := 122) dM_next_74 (by decide) (fun h61 => absurd h61 (wc_nolt0 (by omega) (by omega))) (fun _ => ?_)
              refine wr_aload_n C 4 dM_next_77 rfl rfl ?_
              refine wf_Model_arrives C  (Or.inl tw_368) dM_next_78 ?_
              refine wr_iload_n C 2 dM_next_81 rfl rfl ?_
              refine wa_m_arrives C (by omega) dM_next_82 ?_
              refine wr_aload_n C 4 dM_next_83 rfl rfl ?_
              refine wf_Model_arrives C  (Or.inl tw_368) dM_next_84 ?_
              refine wr_iload_n C 3 dM_next_87 rfl rfl ?_
              refine wa_m_arrives C (by omega) dM_next_88 ?_
              refine wr_icmp_lt C (tgt := 122) dM_next_89 (by decide) (fun h62 => ?_) (fun h62 => ?_)
              ·
                refine wr_iconst C (v := nI 1) dM_next_122 (by decide) ?_
                refine wr_goto C (tgt := 127) dM_next_123 (by decide) ?_
                refine wr_istore C (vs' := [(5, .int (nI 1)), (4, .int (nI 0)), (3, .int (nI (fm_least μ ((a % 15) / 3)))), (2, .int (nI a)), (1, .int (nI j)), (0, .ref (Γ.2.2 70))]) dM_next_127 (by decide) rfl ?_
                refine wr_iload C 1 dM_next_129 rfl ?_
                refine wr_if_eq C (tgt := 141) dM_next_131 (by decide) (fun _ => ?_) (fun h63 => absurd (by decide) h63)
                refine wr_iinc C (v := nI (a + 1)) (vs' := [(2, .int (nI (a + 1))), (5, .int (nI 1)), (4, .int (nI 0)), (3, .int (nI (fm_least μ ((a % 15) / 3)))), (1, .int (nI j)), (0, .ref (Γ.2.2 70))]) 3 dM_next_141 rfl (wc_inc1 a) (by decide) rfl ?_
                refine wr_goto C (tgt := 4) dM_next_144 (by decide) ?_
                refine wr_sub [0, 4, 5] rfl ?_
                exact ih (a + 1) (some j) (by omega) (fun j' hj' => by cases hj'; omega) (by rw [← hv]; clear ih hv ha hl; first | (simp [fm_next, fm_can, fm_to, fm_1st, wc_nI0, *]; done) | (simp_all [fm_next, fm_can, fm_to, fm_1st, wc_nI0]; done) | (rw [fm_next, show fm_can μ a = nI 0 from by unfold fm_can fm_to; repeat' split <;> first | rfl | contradiction, show fm_1st μ a (some j) = nI 1 from by unfold fm_1st; dsimp only; repeat' split <;> first | rfl | contradiction]; simp [wc_nI0]; done))
              ·
                refine wr_aload_n C 4 dM_next_92 rfl rfl ?_
                refine wf_Model_arrives C  (Or.inl tw_368) dM_next_93 ?_
                refine wr_iload_n C 2 dM_next_96 rfl rfl ?_
                refine wa_m_arrives C (by omega) dM_next_97 ?_
                refine wr_aload_n C 4 dM_next_98 rfl rfl ?_
                refine wf_Model_arrives C  (Or.inl tw_368) dM_next_99 ?_
                refine wr_iload_n C 3 dM_next_102 rfl rfl ?_
                refine wa_m_arrives C (by omega) dM_next_103 ?_
                refine wr_icmp_ne C (tgt := 126) dM_next_104 (by decide) (fun h64 => ?_) (fun h64 => ?_)
                ·
                  refine wr_iconst C (v := nI 0) dM_next_126 (by decide) ?_
                  refine wr_istore C (vs' := [(5, .int (nI 0)), (4, .int (nI 0)), (3, .int (nI (fm_least μ ((a % 15) / 3)))), (2, .int (nI a)), (1, .int (nI j)), (0, .ref (Γ.2.2 70))]) dM_next_127 (by decide) rfl ?_
                  refine wr_iload C 1 dM_next_129 rfl ?_
                  refine wr_if_eq C (tgt := 141) dM_next_131 (by decide) (fun _ => ?_) (fun h65 => absurd (by decide) h65)
                  refine wr_iinc C (v := nI (a + 1)) (vs' := [(2, .int (nI (a + 1))), (5, .int (nI 0)), (4, .int (nI 0)), (3, .int (nI (fm_least μ ((a % 15) / 3)))), (1, .int (nI j)), (0, .ref (Γ.2.2 70))]) 3 dM_next_141 rfl (wc_inc1 a) (by decide) rfl ?_
                  refine wr_goto C (tgt := 4) dM_next_144 (by decide) ?_
                  refine wr_sub [0, 4, 5] rfl ?_
                  exact ih (a + 1) (some j) (by omega) (fun j' hj' => by cases hj'; omega) (by rw [← hv]; clear ih hv ha hl; first | (simp [fm_next, fm_can, fm_to, fm_1st, wc_nI0, *]; done) | (simp_all [fm_next, fm_can, fm_to, fm_1st, wc_nI0]; done) | (rw [fm_next, show fm_can μ a = nI 0 from by unfold fm_can fm_to; repeat' split <;> first | rfl | contradiction, show fm_1st μ a (some j) = nI 0 from by unfold fm_1st; dsimp only; repeat' split <;> first | rfl | contradiction]; simp [wc_nI0]; done))
                ·
                  refine wr_aload_n C 4 dM_next_107 rfl rfl ?_
                  refine wf_Model_number C  (Or.inl tw_369) dM_next_108 ?_
                  refine wr_iload_n C 2 dM_next_111 rfl rfl ?_
                  refine wa_m_number C (by omega) dM_next_112 ?_
                  refine wr_aload_n C 4 dM_next_113 rfl rfl ?_
                  refine wf_Model_number C  (Or.inl tw_369) dM_next_114 ?_
                  refine wr_iload_n C 3 dM_next_117 rfl rfl ?_
                  refine wa_m_number C (by omega) dM_next_118 ?_
                  refine wr_icmp_ge C (tgt := 126) dM_next_119 (by decide) (fun h66 => ?_) (fun h66 => ?_)
                  ·
                    refine wr_iconst C (v := nI 0) dM_next_126 (by decide) ?_
                    refine wr_istore C (vs' := [(5, .int (nI 0)), (4, .int (nI 0)), (3, .int (nI (fm_least μ ((a % 15) / 3)))), (2, .int (nI a)), (1, .int (nI j)), (0, .ref (Γ.2.2 70))]) dM_next_127 (by decide) rfl ?_
                    refine wr_iload C 1 dM_next_129 rfl ?_
                    refine wr_if_eq C (tgt := 141) dM_next_131 (by decide) (fun _ => ?_) (fun h67 => absurd (by decide) h67)
                    refine wr_iinc C (v := nI (a + 1)) (vs' := [(2, .int (nI (a + 1))), (5, .int (nI 0)), (4, .int (nI 0)), (3, .int (nI (fm_least μ ((a % 15) / 3)))), (1, .int (nI j)), (0, .ref (Γ.2.2 70))]) 3 dM_next_141 rfl (wc_inc1 a) (by decide) rfl ?_
                    refine wr_goto C (tgt := 4) dM_next_144 (by decide) ?_
                    refine wr_sub [0, 4, 5] rfl ?_
                    exact ih (a + 1) (some j) (by omega) (fun j' hj' => by cases hj'; omega) (by rw [← hv]; clear ih hv ha hl; first | (simp [fm_next, fm_can, fm_to, fm_1st, wc_nI0, *]; done) | (simp_all [fm_next, fm_can, fm_to, fm_1st, wc_nI0]; done) | (rw [fm_next, show fm_can μ a = nI 0 from by unfold fm_can fm_to; repeat' split <;> first | rfl | contradiction, show fm_1st μ a (some j) = nI 0 from by unfold fm_1st; dsimp only; repeat' split <;> first | rfl | contradiction]; simp [wc_nI0]; done))
                  ·
                    refine wr_iconst C (v := nI 1) dM_next_122 (by decide) ?_
                    refine wr_goto C (tgt := 127) dM_next_123 (by decide) ?_
                    refine wr_istore C (vs' := [(5, .int (nI 1)), (4, .int (nI 0)), (3, .int (nI (fm_least μ ((a % 15) / 3)))), (2, .int (nI a)), (1, .int (nI j)), (0, .ref (Γ.2.2 70))]) dM_next_127 (by decide) rfl ?_
                    refine wr_iload C 1 dM_next_129 rfl ?_
                    refine wr_if_eq C (tgt := 141) dM_next_131 (by decide) (fun _ => ?_) (fun h68 => absurd (by decide) h68)
                    refine wr_iinc C (v := nI (a + 1)) (vs' := [(2, .int (nI (a + 1))), (5, .int (nI 1)), (4, .int (nI 0)), (3, .int (nI (fm_least μ ((a % 15) / 3)))), (1, .int (nI j)), (0, .ref (Γ.2.2 70))]) 3 dM_next_141 rfl (wc_inc1 a) (by decide) rfl ?_
                    refine wr_goto C (tgt := 4) dM_next_144 (by decide) ?_
                    refine wr_sub [0, 4, 5] rfl ?_
                    exact ih (a + 1) (some j) (by omega) (fun j' hj' => by cases hj'; omega) (by rw [← hv]; clear ih hv ha hl; first | (simp [fm_next, fm_can, fm_to, fm_1st, wc_nI0, *]; done) | (simp_all [fm_next, fm_can, fm_to, fm_1st, wc_nI0]; done) | (rw [fm_next, show fm_can μ a = nI 0 from by unfold fm_can fm_to; repeat' split <;> first | rfl | contradiction, show fm_1st μ a (some j) = nI 1 from by unfold fm_1st; dsimp only; repeat' split <;> first | rfl | contradiction]; simp [wc_nI0]; done))
            ·
              refine wr_iconst C (v := nI 1) dM_next_66 (by decide) ?_
              refine wr_goto C (tgt := 71) dM_next_67 (by decide) ?_
              refine wr_istore C (vs' := [(4, .int (nI 1)), (3, .int (nI (fm_least μ ((a % 15) / 3)))), (2, .int (nI a)), (1, .int (nI j)), (0, .ref (Γ.2.2 70))]) dM_next_71 (by decide) rfl ?_
              refine wr_iload_n C 3 dM_next_73 rfl rfl ?_
              refine wr_if_lt C (tgt := 122) dM_next_74 (by decide) (fun h69 => absurd h69 (wc_nolt0 (by omega) (by omega))) (fun _ => ?_)
              refine wr_aload_n C 4 dM_next_77 rfl rfl ?_
              refine wf_Model_arrives C  (Or.inl tw_368) dM_next_78 ?_
              refine wr_iload_n C 2 dM_next_81 rfl rfl ?_
              refine wa_m_arrives C (by omega) dM_next_82 ?_
              refine wr_aload_n C 4 dM_next_83 rfl rfl ?_
              refine wf_Model_arrives C  (Or.inl tw_368) dM_next_84 ?_
              refine wr_iload_n C 3 dM_next_87 rfl rfl ?_
              refine wa_m_arrives C (by omega) dM_next_88 ?_
              refine wr_icmp_lt C (tgt := 122) dM_next_89 (by decide) (fun h70 => ?_) (fun h70 => ?_)
              ·
                refine wr_iconst C (v := nI 1) dM_next_122 (by decide) ?_
                refine wr_goto C (tgt := 127) dM_next_123 (by decide) ?_
                refine wr_istore C (vs' := [(5, .int (nI 1)), (4, .int (nI 1)), (3, .int (nI (fm_least μ ((a % 15) / 3)))), (2, .int (nI a)), (1, .int (nI j)), (0, .ref (Γ.2.2 70))]) dM_next_127 (by decide) rfl ?_
                refine wr_iload C 1 dM_next_129 rfl ?_
                refine wr_if_eq C (tgt := 141) dM_next_131 (by decide) (fun h71 => absurd h71 (by decide)) (fun _ => ?_)
                refine wr_iload C 0 dM_next_134 rfl ?_
                refine wr_if_eq C (tgt := 141) dM_next_136 (by decide) (fun h72 => absurd h72 (by decide)) (fun _ => ?_)
                refine wr_iload_n C 3 dM_next_139 rfl rfl ?_
                refine wr_istore_n C (vs' := [(1, .int (nI a)), (5, .int (nI 1)), (4, .int (nI 1)), (3, .int (nI (fm_least μ ((a % 15) / 3)))), (2, .int (nI a)), (0, .ref (Γ.2.2 70))]) dM_next_140 rfl (by decide) rfl ?_
                refine wr_iinc C (v := nI (a + 1)) (vs' := [(2, .int (nI (a + 1))), (1, .int (nI a)), (5, .int (nI 1)), (4, .int (nI 1)), (3, .int (nI (fm_least μ ((a % 15) / 3)))), (0, .ref (Γ.2.2 70))]) 4 dM_next_141 rfl (wc_inc1 a) (by decide) rfl ?_
                refine wr_goto C (tgt := 4) dM_next_144 (by decide) ?_
                refine wr_sub [0, 1, 5] rfl ?_
                exact ih (a + 1) (some a) (by omega) (fun j' hj' => by cases hj'; omega) (by rw [← hv]; clear ih hv ha hl; first | (simp [fm_next, fm_can, fm_to, fm_1st, wc_nI0, *]; done) | (simp_all [fm_next, fm_can, fm_to, fm_1st, wc_nI0]; done) | (rw [fm_next, show fm_can μ a = nI 1 from by unfold fm_can fm_to; repeat' split <;> first | rfl | contradiction, show fm_1st μ a (some j) = nI 1 from by unfold fm_1st; dsimp only; repeat' split <;> first | rfl | contradiction]; simp [wc_nI0]; done))
              ·
                refine wr_aload_n C 4 dM_next_92 rfl rfl ?_
                refine wf_Model_arrives C  (Or.inl tw_368) dM_next_93 ?_
                refine wr_iload_n C 2 dM_next_96 rfl rfl ?_
                refine wa_m_arrives C (by omega) dM_next_97 ?_
                refine wr_aload_n C 4 dM_next_98 rfl rfl ?_
                refine wf_Model_arrives C  (Or.inl tw_368) dM_next_99 ?_
                refine wr_iload_n C 3 dM_next_102 rfl rfl ?_
                refine wa_m_arrives C (by omega) dM_next_103 ?_
                refine wr_icmp_ne C (tgt := 126) dM_next_104 (by decide) (fun h73 => ?_) (fun h73 => ?_)
                ·
                  refine wr_iconst C (v := nI 0) dM_next_126 (by decide) ?_
                  refine wr_istore C (vs' := [(5, .int (nI 0)), (4, .int (nI 1)), (3, .int (nI (fm_least μ ((a % 15) / 3)))), (2, .int (nI a)), (1, .int (nI j)), (0, .ref (Γ.2.2 70))]) dM_next_127 (by decide) rfl ?_
                  refine wr_iload C 1 dM_next_129 rfl ?_
                  refine wr_if_eq C (tgt := 141) dM_next_131 (by decide) (fun h74 => absurd h74 (by decide)) (fun _ => ?_)
                  refine wr_iload C 0 dM_next_134 rfl ?_
                  refine wr_if_eq C (tgt := 141) dM_next_136 (by decide) (fun _ => ?_) (fun h75 => absurd (by decide) h75)
                  refine wr_iinc C (v := nI (a + 1)) (vs' := [(2, .int (nI (a + 1))), (5, .int (nI 0)), (4, .int (nI 1)), (3, .int (nI (fm_least μ ((a % 15) / 3)))), (1, .int (nI j)), (0, .ref (Γ.2.2 70))]) 3 dM_next_141 rfl (wc_inc1 a) (by decide) rfl ?_
                  refine wr_goto C (tgt := 4) dM_next_144 (by decide) ?_
                  refine wr_sub [0, 4, 5] rfl ?_
                  exact ih (a + 1) (some j) (by omega) (fun j' hj' => by cases hj'; omega) (by rw [← hv]; clear ih hv ha hl; first | (simp [fm_next, fm_can, fm_to, fm_1st, wc_nI0, *]; done) | (simp_all [fm_next, fm_can, fm_to, fm_1st, wc_nI0]; done) | (rw [fm_next, show fm_can μ a = nI 1 from by unfold fm_can fm_to; repeat' split <;> first | rfl | contradiction, show fm_1st μ a (some j) = nI 0 from by unfold fm_1st; dsimp only; repeat' split <;> first | rfl | contradiction]; simp [wc_nI0]; done))
                ·
                  refine wr_aload_n C 4 dM_next_107 rfl rfl ?_
                  refine wf_Model_number C  (Or.inl tw_369) dM_next_108 ?_
                  refine wr_iload_n C 2 dM_next_111 rfl rfl ?_
                  refine wa_m_number C (by omega) dM_next_112 ?_
                  refine wr_aload_n C 4 dM_next_113 rfl rfl ?_
                  refine wf_Model_number C  (Or.inl tw_369) dM_next_114 ?_
                  refine wr_iload_n C 3 dM_next_117 rfl rfl ?_
                  refine wa_m_number C (by omega) dM_next_118 ?_
                  refine wr_icmp_ge C (tgt := 126) dM_next_119 (by decide) (fun h76 => ?_) (fun h76 => ?_)
                  ·
                    refine wr_iconst C (v := nI 0) dM_next_126 (by decide) ?_
                    refine wr_istore C (vs' := [(5, .int (nI 0)), (4, .int (nI 1)), (3, .int (nI (fm_least μ ((a % 15) / 3)))), (2, .int (nI a)), (1, .int (nI j)), (0, .ref (Γ.2.2 70))]) dM_next_127 (by decide) rfl ?_
                    refine wr_iload C 1 dM_next_129 rfl ?_
                    refine wr_if_eq C (tgt := 141) dM_next_131 (by decide) (fun h77 => absurd h77 (by decide)) (fun _ => ?_)
                    refine wr_iload C 0 dM_next_134 rfl ?_
                    refine wr_if_eq C (tgt := 141) dM_next_136 (by decide) (fun _ => ?_) (fun h78 => absurd (by decide) h78)
                    refine wr_iinc C (v := nI (a + 1)) (vs' := [(2, .int (nI (a + 1))), (5, .int (nI 0)), (4, .int (nI 1)), (3, .int (nI (fm_least μ ((a % 15) / 3)))), (1, .int (nI j)), (0, .ref (Γ.2.2 70))]) 3 dM_next_141 rfl (wc_inc1 a) (by decide) rfl ?_
                    refine wr_goto C (tgt := 4) dM_next_144 (by decide) ?_
                    refine wr_sub [0, 4, 5] rfl ?_
                    exact ih (a + 1) (some j) (by omega) (fun j' hj' => by cases hj'; omega) (by rw [← hv]; clear ih hv ha hl; first | (simp [fm_next, fm_can, fm_to, fm_1st, wc_nI0, *]; done) | (simp_all [fm_next, fm_can, fm_to, fm_1st, wc_nI0]; done) | (rw [fm_next, show fm_can μ a = nI 1 from by unfold fm_can fm_to; repeat' split <;> first | rfl | contradiction, show fm_1st μ a (some j) = nI 0 from by unfold fm_1st; dsimp only; repeat' split <;> first | rfl | contradiction]; simp [wc_nI0]; done))
                  ·
                    refine wr_iconst C (v := nI 1) dM_next_122 (by decide) ?_
                    refine wr_goto C (tgt := 127) dM_next_123 (by decide) ?_
                    refine wr_istore C (vs' := [(5, .int (nI 1)), (4, .int (nI 1)), (3, .int (nI (fm_least μ ((a % 15) / 3)))), (2, .int (nI a)), (1, .int (nI j)), (0, .ref (Γ.2.2 70))]) dM_next_127 (by decide) rfl ?_
                    refine wr_iload C 1 dM_next_129 rfl ?_
                    refine wr_if_eq C (tgt := 141) dM_next_131 (by decide) (fun h79 => absurd h79 (by decide)) (fun _ => ?_)
                    refine wr_iload C 0 dM_next_134 rfl ?_
                    refine wr_if_eq C (tgt := 141) dM_next_136 (by decide) (fun h80 => absurd h80 (by decide)) (fun _ => ?_)
                    refine wr_iload_n C 3 dM_next_139 rfl rfl ?_
                    refine wr_istore_n C (vs' := [(1, .int (nI a)), (5, .int (nI 1)), (4, .int (nI 1)), (3, .int (nI (fm_least μ ((a % 15) / 3)))), (2, .int (nI a)), (0, .ref (Γ.2.2 70))]) dM_next_140 rfl (by decide) rfl ?_
                    refine wr_iinc C (v := nI (a + 1)) (vs' := [(2, .int (nI (a + 1))), (1, .int (nI a)), (5, .int (nI 1)), (4, .int (nI 1)), (3, .int (nI (fm_least μ ((a % 15) / 3)))), (0, .ref (Γ.2.2 70))]) 4 dM_next_141 rfl (wc_inc1 a) (by decide) rfl ?_
                    refine wr_goto C (tgt := 4) dM_next_144 (by decide) ?_
                    refine wr_sub [0, 1, 5] rfl ?_
                    exact ih (a + 1) (some a) (by omega) (fun j' hj' => by cases hj'; omega) (by rw [← hv]; clear ih hv ha hl; first | (simp [fm_next, fm_can, fm_to, fm_1st, wc_nI0, *]; done) | (simp_all [fm_next, fm_can, fm_to, fm_1st, wc_nI0]; done) | (rw [fm_next, show fm_can μ a = nI 1 from by unfold fm_can fm_to; repeat' split <;> first | rfl | contradiction, show fm_1st μ a (some j) = nI 1 from by unfold fm_1st; dsimp only; repeat' split <;> first | rfl | contradiction]; simp [wc_nI0]; done))
set_option maxRecDepth 100000 in
set_option maxHeartbeats 4000000 in
theorem mm_next (l : Launch) (Γ : wc_G) (σ μ : wc_St) (hl : ∀ a, a < 45 → ¬ μ 53 0 a ≤ 0 → a / 15 = 1 → fm_least μ (a % 15 / 3) < 3) : wc_M l yM_next cM_next 6 (some .int) 2 Γ [.ref (Γ.2.2 70)] σ μ (some (.int (fm_o (fm_next μ 45 0 none)))) σ (μ) := by
  refine wc_enter "WaitedCommitsModel" (by decide) rfl (Nat.le_of_ble_eq_true rfl) ?_
  intro P0 E0 S0 M0 A0 B0 T0 K0 C hr hlk
  refine wr_vs (vs' := [(0, .ref (Γ.2.2 70))]) rfl ?_
  refine wr_iconst C (v := -1) dM_next_0 (by decide) ?_
  refine wr_istore_n C (vs' := [(1, .int (-1)), (0, .ref (Γ.2.2 70))]) dM_next_1 rfl (by decide) rfl ?_
  refine wr_iconst C (v := nI 0) dM_next_2 (by decide) ?_
  refine wr_istore_n C (vs' := [(2, .int (nI 0)), (1, .int (-1)), (0, .ref (Γ.2.2 70))]) dM_next_3 rfl (by decide) rfl ?_
  refine wr_sub [0, 1, 2] rfl ?_
  exact mn_next C hr hlk σ μ rfl rfl hl 45 0 none rfl (fun _ h => by cases h) rfl
