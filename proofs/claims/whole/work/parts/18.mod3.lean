set_option maxRecDepth 100000 in
set_option maxHeartbeats 4000000 in
theorem mn_deliver {P0 : Program} {l : Launch} {E0 : Env} {S0 : State} {M0 : MethodId} {A0 : Array Value} {B0 : List Frame} {T0 : Method} {K0 : Code} {Γ : wc_G} {A : Nat → Prop} {v : Option Value} {σ' μ' : wc_St} (C : wc_C P0 S0 M0 A0 K0 cM_step 7 "WaitedCommitsModel" Γ A) (hr : T0.sig.returnType = (some .int)) (hlk : T0.locks = false) (P : Nat → Nat → wc_St → Prop) (I cM : Nat) (hmono : ∀ i c c' μ, P i c μ → c ≤ c' → P i c' μ) (htk : ∀ i c μ, P i c μ → i < I → P (i + 1) c (fm_tick μ)) (hnx : ∀ i c μ, P i c μ → ∀ a, a < 45 → ¬ μ 53 0 a ≤ 0 → a / 15 = 1 → fm_least μ (a % 15 / 3) < 3)
    (hdl : ∀ i c μ a, c < cM → P i c μ → fm_next μ 45 0 none = some a → (a / 15 < 2 → fm_least μ (a % 15 / 3) < 3) ∧ (∃ V, μ 37 0 0 = nI V ∧ (a / 15 = 2 → V + fm_w μ (a % 15 / 3) 3 (a % 3) ≤ 512)) ∧ P i (c + 1) (fm_deal μ a))
    (hen : ∀ i c μ t, c + 2 ≤ cM → P i c μ → t < 5 → μ 42 0 t = nI 3 → fm_least μ t < 3 ∧ (∃ V, μ 37 0 0 = nI V ∧ V + fm_w μ t 3 (fm_least μ t) ≤ 512) ∧ (fm_mayEnd μ t = true → P i (c + 2) (fm_endOne μ t (fm_least μ t)))) (k d N : Nat) (i cE : Nat) (hcM : cE ≤ cM) (σ μe : wc_St) (hx : P i cE μe → wc_K P0 l E0 (wc_rm 4) S0 M0 A0 B0 T0 K0 7 Γ A (MQ B0 (wc_Qw Γ A v σ' μ') A0 S0 0 0 A) 0 0 70 [(3, .int (nI k)), (2, .int (nI d)), (0, .ref (Γ.2.2 70)), (1, .int (nI N))] [] σ μe) : ∀ (n q : Nat) (b : Option Nat) (μ : wc_St) (c : Nat), q + n = 45 → P i c μ → c + n ≤ cE → b = fm_next μ 45 0 none → fm_deliver n b μ = μe → wc_K P0 l E0 (wc_rm 4) S0 M0 A0 B0 T0 K0 7 Γ A (MQ B0 (wc_Qw Γ A v σ' μ') A0 S0 0 0 A) 0 0 40 [(5, .int (nI q)), (4, .int (fm_o b)), (3, .int (nI k)), (2, .int (nI d)), (0, .ref (Γ.2.2 70)), (1, .int (nI N))] [] σ μ := by
  intro n
  induction n with
  | zero =>
    intro q b μ c hq hp hc hb hres
    obtain rfl : q = 45 := by omega
    refine wr_iload C 0 dM_step_40 rfl ?_
    refine wr_bipush C (v := nI 45) dM_step_42 (by decide) ?_
    refine wr_icmp_ge C (tgt := 70) dM_step_44 (by decide) (fun _ => ?_) (fun h1 => absurd (by decide) h1)
    refine wr_sub [2, 3, 4, 5] rfl ?_
    obtain rfl : μ = μe := hres
    exact hx (hmono i c cE μ hp (by omega))
  | succ n ih =>
    intro q b μ c hq hp hc hb hres
    rcases b with _ | a
    ·
      refine wr_vs (vs' := [(5, .int (nI q)), (4, .int (-1)), (3, .int (nI k)), (2, .int (nI d)), (0, .ref (Γ.2.2 70)), (1, .int (nI N))]) rfl ?_
      refine wr_iload C 0 dM_step_40 rfl ?_
      refine wr_bipush C (v := nI 45) dM_step_42 (by decide) ?_
      refine wr_icmp_ge C (tgt := 70) dM_step_44 (by decide) (fun h1 => absurd h1 (wc_noge (by omega) (by omega) (by omega))) (fun _ => ?_)
      refine wr_iload C 1 dM_step_47 rfl ?_
      refine wr_if_lt C (tgt := 70) dM_step_49 (by decide) (fun _ => ?_) (fun h2 => absurd (by decide) h2)
      refine wr_sub [2, 3, 4, 5] rfl ?_
      obtain rfl : μ = μe := hres
      exact hx (hmono i c cE μ hp (by omega))
    ·
      obtain ⟨hda, ⟨V, hV, hdb⟩, hP1⟩ := hdl i c μ a (by omega) hp hb.symm
      have ha45 := fm_next_lt 45 0 none a (by omega) (fun _ h => by cases h) hb.symm
      refine wr_vs (vs' := [(5, .int (nI q)), (4, .int (nI a)), (3, .int (nI k)), (2, .int (nI d)), (0, .ref (Γ.2.2 70)), (1, .int (nI N))]) rfl ?_
      refine wr_iload C 0 dM_step_40 rfl ?_
      refine wr_bipush C (v := nI 45) dM_step_42 (by decide) ?_
      refine wr_icmp_ge C (tgt := 70) dM_step_44 (by decide) (fun h1 => absurd h1 (wc_noge (by omega) (by omega) (by omega))) (fun _ => ?_)
      refine wr_iload C 1 dM_step_47 rfl ?_
      refine wr_if_lt C (tgt := 70) dM_step_49 (by decide) (fun h2 => absurd h2 (wc_nolt0 (by omega) (by omega))) (fun _ => ?_)
      refine wr_aload_n C 4 dM_step_52 rfl rfl ?_
      refine wr_iload C 1 dM_step_53 rfl ?_
      refine wr_callV0 C (As := [.int (nI a)]) (rest := []) (mm_deal l Γ σ μ (a := a) ha45 hda V hV hdb) cb_M_deal (Or.inl tw_474) tw_475 tw_572 (by omega) (wc_c_Model) rfl (by decide) (by decide) rfl rfl (Nat.le_of_ble_eq_true rfl) ⟨Nat.le_refl _, Nat.le_refl _⟩ dM_step_55 ?_
      generalize hs1 : fm_deal μ a = μ1
      refine wr_aload_n C 4 dM_step_58 rfl rfl ?_
      refine wr_callV1 C (As := []) (rest := []) (mm_next l Γ σ μ1 (by subst_vars; exact hnx i (c + 1) _ hP1)) cb_M_next (Or.inl tw_471) tw_472 tw_571 (by omega) (wc_c_Model) rfl (by decide) (by decide) rfl rfl (Nat.le_of_ble_eq_true rfl) ⟨Nat.le_refl _, Nat.le_refl _⟩ dM_step_59 ?_
      refine wr_istore C (vs' := [(4, .int (fm_o (fm_next μ1 45 0 none))), (5, .int (nI q)), (3, .int (nI k)), (2, .int (nI d)), (0, .ref (Γ.2.2 70)), (1, .int (nI N))]) dM_step_62 (by decide) rfl ?_
      refine wr_iinc C (v := nI (q + 1)) (vs' := [(5, .int (nI (q + 1))), (4, .int (fm_o (fm_next μ1 45 0 none))), (3, .int (nI k)), (2, .int (nI d)), (0, .ref (Γ.2.2 70)), (1, .int (nI N))]) 1 dM_step_64 rfl (wc_inc1 q) (by decide) rfl ?_
      refine wr_goto C (tgt := 40) dM_step_67 (by decide) ?_
      refine wr_sub [0, 1, 2, 3, 4, 5] rfl ?_
      exact ih (q + 1) _ μ1 (c + 1) (by omega) (by subst_vars; exact hP1) (by omega) rfl (by rw [← hres]; subst_vars; rfl)
set_option maxRecDepth 100000 in
set_option maxHeartbeats 4000000 in
theorem mn_ends {P0 : Program} {l : Launch} {E0 : Env} {S0 : State} {M0 : MethodId} {A0 : Array Value} {B0 : List Frame} {T0 : Method} {K0 : Code} {Γ : wc_G} {A : Nat → Prop} {v : Option Value} {σ' μ' : wc_St} (C : wc_C P0 S0 M0 A0 K0 cM_step 7 "WaitedCommitsModel" Γ A) (hr : T0.sig.returnType = (some .int)) (hlk : T0.locks = false) (P : Nat → Nat → wc_St → Prop) (I cM : Nat) (hmono : ∀ i c c' μ, P i c μ → c ≤ c' → P i c' μ) (htk : ∀ i c μ, P i c μ → i < I → P (i + 1) c (fm_tick μ)) (hnx : ∀ i c μ, P i c μ → ∀ a, a < 45 → ¬ μ 53 0 a ≤ 0 → a / 15 = 1 → fm_least μ (a % 15 / 3) < 3)
    (hdl : ∀ i c μ a, c < cM → P i c μ → fm_next μ 45 0 none = some a → (a / 15 < 2 → fm_least μ (a % 15 / 3) < 3) ∧ (∃ V, μ 37 0 0 = nI V ∧ (a / 15 = 2 → V + fm_w μ (a % 15 / 3) 3 (a % 3) ≤ 512)) ∧ P i (c + 1) (fm_deal μ a))
    (hen : ∀ i c μ t, c + 2 ≤ cM → P i c μ → t < 5 → μ 42 0 t = nI 3 → fm_least μ t < 3 ∧ (∃ V, μ 37 0 0 = nI V ∧ V + fm_w μ t 3 (fm_least μ t) ≤ 512) ∧ (fm_mayEnd μ t = true → P i (c + 2) (fm_endOne μ t (fm_least μ t)))) (k N : Nat) (i cE : Nat) (hcM : cE ≤ cM) (σ : wc_St) (dE : Nat) (μe : wc_St) (hx : P i cE μe → wc_K P0 l E0 (wc_rm 4) S0 M0 A0 B0 T0 K0 7 Γ A (MQ B0 (wc_Qw Γ A v σ' μ') A0 S0 0 0 A) 0 0 175 [(3, .int (nI k)), (2, .int (nI dE)), (0, .ref (Γ.2.2 70)), (1, .int (nI N))] [] σ μe) : ∀ (n : Nat) (t d : Nat) (μ : wc_St) (c : Nat), t + n = 5 → P i c μ → c + 2 * n ≤ cE → fm_ends n t d μ = (dE, μe) → wc_K P0 l E0 (wc_rm 4) S0 M0 A0 B0 T0 K0 7 Γ A (MQ B0 (wc_Qw Γ A v σ' μ') A0 S0 0 0 A) 0 0 73 [(5, .int (nI t)), (3, .int (nI k)), (2, .int (nI d)), (0, .ref (Γ.2.2 70)), (1, .int (nI N))] [] σ μ := by
  intro n
  induction n with
  | zero =>
    intro t d μ c ht hp hc hres
    obtain rfl : t = 5 := by omega
    refine wr_iload C 0 dM_step_73 rfl ?_
    refine wr_iconst C (v := nI 5) dM_step_75 (by decide) ?_
    refine wr_icmp_ge C (tgt := 175) dM_step_76 (by decide) (fun _ => ?_) (fun h1 => absurd (by decide) h1)
    obtain ⟨rfl, rfl⟩ : d = dE ∧ μ = μe := Prod.mk.inj hres
    refine wr_sub [1, 2, 3, 4] rfl ?_
    exact hx (hmono i c cE μ hp (by omega))
  | succ n ih =>
    intro t d μ c ht hp hc hres
    refine wr_iload C 0 dM_step_73 rfl ?_
    refine wr_iconst C (v := nI 5) dM_step_75 (by decide) ?_
    refine wr_icmp_ge C (tgt := 175) dM_step_76 (by decide) (fun h1 => absurd h1 (wc_noge (by omega) (by omega) (by omega))) (fun _ => ?_)
    refine wr_aload_n C 3 dM_step_79 rfl rfl ?_
    refine wr_iload C 0 dM_step_80 rfl ?_
    refine wr_callV1 C (As := [.int (nI t)]) (rest := []) (mm_least l Γ σ μ (t := t) (by omega)) cb_M_least (Or.inl tw_414) tw_415 tw_559 (by omega) (wc_c_Model) rfl (by decide) (by decide) rfl rfl (Nat.le_of_ble_eq_true rfl) ⟨Nat.le_refl _, Nat.le_refl _⟩ dM_step_82 ?_
    have hle1_0 := fm_least_le μ t
    refine wr_istore C (vs' := [(6, .int (nI (fm_least μ t))), (5, .int (nI t)), (3, .int (nI k)), (2, .int (nI d)), (0, .ref (Γ.2.2 70)), (1, .int (nI N))]) dM_step_85 (by decide) rfl ?_
    refine wr_aload_n C 4 dM_step_87 rfl rfl ?_
    refine wf_Model_state C  (Or.inl tw_357) dM_step_88 ?_
    refine wr_iload C 1 dM_step_91 rfl ?_
    refine wa_m_state C (by omega) dM_step_93 ?_
    refine wr_iconst C (v := nI 3) dM_step_94 (by decide) ?_
    refine wr_icmp_ne C (tgt := 169) dM_step_95 (by decide) (fun h2 => ?_) (fun h2 => ?_)
    ·
      refine wr_iinc C (v := nI (t + 1)) (vs' := [(5, .int (nI (t + 1))), (6, .int (nI (fm_least μ t))), (3, .int (nI k)), (2, .int (nI d)), (0, .ref (Γ.2.2 70)), (1, .int (nI N))]) 1 dM_step_169 rfl (wc_inc1 t) (by decide) rfl ?_
      refine wr_goto C (tgt := 73) dM_step_172 (by decide) ?_
      refine wr_sub [0, 2, 3, 4, 5] rfl ?_
      exact ih (t + 1) (d) μ c (by omega) hp (by omega) (by rw [← hres]; first | (simp [fm_ends, fm_mayEnd, *]; done) | (subst_vars; rw [fm_ends, if_pos hme]; rfl) | (simp_all [fm_ends, fm_mayEnd]; done))
    ·
      obtain ⟨hl3, ⟨V, hV, hVb⟩, hP2⟩ := hen i c μ t (by omega) hp (by omega) (by assumption)
      refine wr_aload_n C 4 dM_step_98 rfl rfl ?_
      refine wf_Model_down C  (Or.inl tw_350) dM_step_99 ?_
      refine wr_iload C 0 dM_step_102 rfl ?_
      refine wa_m_down C (by omega) dM_step_104 ?_
      refine wr_if_ne C (tgt := 169) dM_step_105 (by decide) (fun h3 => ?_) (fun h3 => ?_)
      ·
        refine wr_iinc C (v := nI (t + 1)) (vs' := [(5, .int (nI (t + 1))), (6, .int (nI (fm_least μ t))), (3, .int (nI k)), (2, .int (nI d)), (0, .ref (Γ.2.2 70)), (1, .int (nI N))]) 1 dM_step_169 rfl (wc_inc1 t) (by decide) rfl ?_
        refine wr_goto C (tgt := 73) dM_step_172 (by decide) ?_
        refine wr_sub [0, 2, 3, 4, 5] rfl ?_
        exact ih (t + 1) (d) μ c (by omega) hp (by omega) (by rw [← hres]; first | (simp [fm_ends, fm_mayEnd, *]; done) | (subst_vars; rw [fm_ends, if_pos hme]; rfl) | (simp_all [fm_ends, fm_mayEnd]; done))
      ·
        refine wr_aload_n C 4 dM_step_108 rfl rfl ?_
        refine wf_Model_now C  (Or.inl tw_346) dM_step_109 ?_
        refine wr_aload_n C 4 dM_step_112 rfl rfl ?_
        refine wf_Model_early C  (Or.inl tw_347) dM_step_113 ?_
        refine wr_iload C 0 dM_step_116 rfl ?_
        refine wa_m_early C (by omega) dM_step_118 ?_
        refine wr_isub C (z := (μ 31 0 0) - (μ 32 0 (fm_least μ t))) dM_step_119 rfl ?_
        refine wr_aload_n C 4 dM_step_120 rfl rfl ?_
        refine wf_Model_stamp C  (Or.inl tw_359) dM_step_121 ?_
        refine wr_iload C 1 dM_step_124 rfl ?_
        refine wa_m_stamp C (by omega) dM_step_126 ?_
        refine wr_icmp_le C (tgt := 169) dM_step_127 (by decide) (fun h4 => ?_) (fun h4 => ?_)
        ·
          refine wr_iinc C (v := nI (t + 1)) (vs' := [(5, .int (nI (t + 1))), (6, .int (nI (fm_least μ t))), (3, .int (nI k)), (2, .int (nI d)), (0, .ref (Γ.2.2 70)), (1, .int (nI N))]) 1 dM_step_169 rfl (wc_inc1 t) (by decide) rfl ?_
          refine wr_goto C (tgt := 73) dM_step_172 (by decide) ?_
          refine wr_sub [0, 2, 3, 4, 5] rfl ?_
          exact ih (t + 1) (d) μ c (by omega) hp (by omega) (by rw [← hres]; first | (simp [fm_ends, fm_mayEnd, *]; done) | (subst_vars; rw [fm_ends, if_pos hme]; rfl) | (simp_all [fm_ends, fm_mayEnd]; done))
        ·
          refine wr_aload_n C 4 dM_step_130 rfl rfl ?_
          refine wf_Model_state C  (Or.inl tw_357) dM_step_131 ?_
          refine wr_iload C 1 dM_step_134 rfl ?_
          refine wr_iconst C (v := nI 4) dM_step_136 (by decide) ?_
          refine ws_m_state C (by omega) dM_step_137 ?_
          generalize hs1 : wc_st μ 42 0 t (nI 4) = μ1
          refine wr_aload_n C 4 dM_step_138 rfl rfl ?_
          refine wf_Model_ended C  (Or.inl tw_361) dM_step_139 ?_
          refine wr_iload C 1 dM_step_142 rfl ?_
          refine wr_aload_n C 4 dM_step_144 rfl rfl ?_
          refine wf_Model_now C  (Or.inl tw_346) dM_step_145 ?_
          refine ws_m_ended C (by omega) dM_step_148 ?_
          generalize hs2 : wc_st μ1 46 0 t (μ1 31 0 0) = μ2
          refine wr_aload_n C 4 dM_step_149 rfl rfl ?_
          refine wr_iconst C (v := nI 2) dM_step_150 (by decide) ?_
          refine wr_iload C 1 dM_step_151 rfl ?_
          refine wr_iload C 0 dM_step_153 rfl ?_
          refine wr_callV0 C (As := [.int (nI 2), .int (nI t), .int (nI (fm_least μ t))]) (rest := []) (mm_sendAll l Γ σ μ2 (kd := 2) (t := t) (o := fm_least μ t) (by omega) (by omega) (by omega)) cb_M_sendAll (Or.inl tw_455) tw_456 tw_567 (by omega) (wc_c_Model) rfl (by decide) (by decide) rfl rfl (Nat.le_of_ble_eq_true rfl) ⟨Nat.le_refl _, Nat.le_refl _⟩ dM_step_155 ?_
          generalize hs3 : fm_sendAll 2 t (fm_least μ t) (2 - (fm_least μ t)) (fm_least μ t + 1) μ2 = μ3
          refine wr_aload_n C 4 dM_step_158 rfl rfl ?_
          refine wr_iload C 1 dM_step_159 rfl ?_
          refine wr_iload C 0 dM_step_161 rfl ?_
          refine wr_callV0 C (As := [.int (nI t), .int (nI (fm_least μ t))]) (rest := []) (mm_finish l Γ σ μ3 (t := t) (q := fm_least μ t) (by omega) (by omega) V (by subst_vars; rw [fm_sendAll_c (by decide) (by decide) (by decide)]; exact hV) (by subst_vars; exact Nat.le_trans (Nat.le_of_eq (congrArg (V + ·) (fm_w_eq (μ := μ) 3 _ (fun j _ => by rw [fm_sendAll_c (by decide) (by decide) (by decide)]; rfl)))) hVb)) cb_M_finish (Or.inl tw_477) tw_478 tw_573 (by omega) (wc_c_Model) rfl (by decide) (by decide) rfl rfl (Nat.le_of_ble_eq_true rfl) ⟨Nat.le_refl _, Nat.le_refl _⟩ dM_step_163 ?_
          generalize hs4 : fm_finish μ3 t (fm_least μ t) = μ4
          refine wr_iinc C (v := nI (d + 1)) (vs' := [(2, .int (nI (d + 1))), (6, .int (nI (fm_least μ t))), (5, .int (nI t)), (3, .int (nI k)), (0, .ref (Γ.2.2 70)), (1, .int (nI N))]) 3 dM_step_166 rfl (wc_inc1 d) (by decide) rfl ?_
          refine wr_iinc C (v := nI (t + 1)) (vs' := [(5, .int (nI (t + 1))), (2, .int (nI (d + 1))), (6, .int (nI (fm_least μ t))), (3, .int (nI k)), (0, .ref (Γ.2.2 70)), (1, .int (nI N))]) 2 dM_step_169 rfl (wc_inc1 t) (by decide) rfl ?_
          refine wr_goto C (tgt := 73) dM_step_172 (by decide) ?_
          have hme : fm_mayEnd μ t = true := by simp [fm_mayEnd, *]
          refine wr_sub [0, 3, 1, 4, 5] rfl ?_
          exact ih (t + 1) (d + 1) μ4 (c + 2) (by omega) (by subst_vars; exact hP2 hme) (by omega) (by rw [← hres]; first | (simp [fm_ends, fm_mayEnd, *]; done) | (subst_vars; rw [fm_ends, if_pos hme]; rfl) | (simp_all [fm_ends, fm_mayEnd]; done))
set_option maxRecDepth 100000 in
set_option maxHeartbeats 4000000 in
theorem mn_steps {P0 : Program} {l : Launch} {E0 : Env} {S0 : State} {M0 : MethodId} {A0 : Array Value} {B0 : List Frame} {T0 : Method} {K0 : Code} {Γ : wc_G} {A : Nat → Prop} {v : Option Value} {σ' μ' : wc_St} (C : wc_C P0 S0 M0 A0 K0 cM_step 7 "WaitedCommitsModel" Γ A) (hr : T0.sig.returnType = (some .int)) (hlk : T0.locks = false) (P : Nat → Nat → wc_St → Prop) (I cM : Nat) (hmono : ∀ i c c' μ, P i c μ → c ≤ c' → P i c' μ) (htk : ∀ i c μ, P i c μ → i < I → P (i + 1) c (fm_tick μ)) (hnx : ∀ i c μ, P i c μ → ∀ a, a < 45 → ¬ μ 53 0 a ≤ 0 → a / 15 = 1 → fm_least μ (a % 15 / 3) < 3)
    (hdl : ∀ i c μ a, c < cM → P i c μ → fm_next μ 45 0 none = some a → (a / 15 < 2 → fm_least μ (a % 15 / 3) < 3) ∧ (∃ V, μ 37 0 0 = nI V ∧ (a / 15 = 2 → V + fm_w μ (a % 15 / 3) 3 (a % 3) ≤ 512)) ∧ P i (c + 1) (fm_deal μ a))
    (hen : ∀ i c μ t, c + 2 ≤ cM → P i c μ → t < 5 → μ 42 0 t = nI 3 → fm_least μ t < 3 ∧ (∃ V, μ 37 0 0 = nI V ∧ V + fm_w μ t 3 (fm_least μ t) ≤ 512) ∧ (fm_mayEnd μ t = true → P i (c + 2) (fm_endOne μ t (fm_least μ t)))) (N : Nat) (hN : N ≤ 500) (i0 : Nat) (hI : i0 + N ≤ I) (σ : wc_St) (hσ : σ = σ') (r1 : Nat) (hv : some (.int (nI r1)) = v) (cE : Nat) (hcM : cE ≤ cM) : ∀ (n : Nat) (k d : Nat) (μ : wc_St) (c : Nat), k + n = N → P (i0 + k) c μ → c + 60 * n ≤ cE → fm_steps n d μ = (r1, μ') → wc_K P0 l E0 (wc_rm 4) S0 M0 A0 B0 T0 K0 7 Γ A (MQ B0 (wc_Qw Γ A v σ' μ') A0 S0 0 0 A) 0 0 16 [(3, .int (nI k)), (2, .int (nI d)), (0, .ref (Γ.2.2 70)), (1, .int (nI N))] [] σ μ := by
  subst hσ
  intro n
  induction n with
  | zero =>
    intro k d μ c hk hp hc hres
    obtain rfl : k = N := by omega
    refine wr_iload_n C 0 dM_step_16 rfl rfl ?_
    refine wr_iload_n C 3 dM_step_17 rfl rfl ?_
    refine wr_icmp_ge C (tgt := 181) dM_step_18 (by decide) (fun h1 => ?_) (fun h1 => ?_)
    ·
      rw [nI_leI (by omega) (by omega)] at h1
      refine wr_iload_n C 1 dM_step_181 rfl rfl ?_
      exact wr_iret C hr rfl hlk dM_step_182 (by rw [← hv, (Prod.mk.inj (show (d, μ) = (r1, μ') from hres)).1]) (by first | rfl | exact (Prod.mk.inj (show (d, μ) = (r1, μ') from hres)).2) (by first | rfl | exact (Prod.mk.inj (show (d, μ) = (r1, μ') from hres)).2)
    ·
      rw [nI_leI (by omega) (by omega)] at h1
      exact absurd h1 (by omega)
  | succ n ih =>
    intro k d μ c hk hp hc hres
    refine wr_iload_n C 0 dM_step_16 rfl rfl ?_
    refine wr_iload_n C 3 dM_step_17 rfl rfl ?_
    refine wr_icmp_ge C (tgt := 181) dM_step_18 (by decide) (fun h1 => ?_) (fun h1 => ?_)
    ·
      rw [nI_leI (by omega) (by omega)] at h1
      exact absurd h1 (by omega)
    ·
      rw [nI_leI (by omega) (by omega)] at h1
      have hp1 : P (i0 + k + 1) c (fm_tick μ) := htk (i0 + k) c μ hp (by omega)
      refine wr_aload_n C 2 dM_step_21 rfl rfl ?_
      refine wr_dup C dM_step_22 rfl ?_
      refine wf_Model_now C  (Or.inl tw_346) dM_step_23 ?_
      refine wr_iconst C (v := nI 1) dM_step_26 (by decide) ?_
      refine wr_iadd C (z := (μ 31 0 0) + (nI 1)) dM_step_27 rfl ?_
      refine wp_Model_now C  (Or.inl tw_346) dM_step_28 ?_
      generalize hs1 : wc_st μ 31 0 0 ((μ 31 0 0) + (nI 1)) = μ1
      refine wr_aload_n C 2 dM_step_31 rfl rfl ?_
      refine wr_callV1 C (As := []) (rest := []) (mm_next l Γ σ μ1 (by subst_vars; exact hnx _ _ _ hp1)) cb_M_next (Or.inl tw_471) tw_472 tw_571 (by omega) (wc_c_Model) rfl (by decide) (by decide) rfl rfl (Nat.le_of_ble_eq_true rfl) ⟨Nat.le_refl _, Nat.le_refl _⟩ dM_step_32 ?_
      refine wr_istore C (vs' := [(4, .int (fm_o (fm_next μ1 45 0 none))), (3, .int (nI k)), (2, .int (nI d)), (0, .ref (Γ.2.2 70)), (1, .int (nI N))]) dM_step_35 (by decide) rfl ?_
      refine wr_iconst C (v := nI 0) dM_step_37 (by decide) ?_
      refine wr_istore C (vs' := [(5, .int (nI 0)), (4, .int (fm_o (fm_next μ1 45 0 none))), (3, .int (nI k)), (2, .int (nI d)), (0, .ref (Γ.2.2 70)), (1, .int (nI N))]) dM_step_38 (by decide) rfl ?_
      refine wr_sub [0, 1, 2, 3, 4, 5] rfl ?_
      generalize hd1 : fm_deliver 45 (fm_next (fm_tick μ) 45 0 none) (fm_tick μ) = μd
      obtain rfl : μ1 = fm_tick μ := by subst_vars; rfl
      refine mn_deliver C hr hlk P I cM hmono htk hnx hdl hen k d N (i0 + k + 1) (c + 45) (by omega) σ μd (fun hpd => ?_) 45 0 _ _ c rfl hp1 (by omega) rfl hd1
      refine wr_iconst C (v := nI 0) dM_step_70 (by decide) ?_
      refine wr_istore C (vs' := [(5, .int (nI 0)), (3, .int (nI k)), (2, .int (nI d)), (0, .ref (Γ.2.2 70)), (1, .int (nI N))]) dM_step_71 (by decide) rfl ?_
      refine wr_sub [0, 1, 2, 3, 4] rfl ?_
      rcases hd2 : fm_ends 5 0 d μd with ⟨dE, μf⟩
      refine mn_ends C hr hlk P I cM hmono htk hnx hdl hen k N (i0 + k + 1) (c + 55) (by omega) σ dE μf (fun hpf => ?_) 5 0 d μd (c + 45) rfl hpd (by omega) hd2
      refine wr_iinc C (v := nI (k + 1)) (vs' := [(3, .int (nI (k + 1))), (2, .int (nI dE)), (0, .ref (Γ.2.2 70)), (1, .int (nI N))]) 0 dM_step_175 rfl (wc_inc1 k) (by decide) rfl ?_
      refine wr_goto C (tgt := 16) dM_step_178 (by decide) ?_
      refine wr_sub [0, 1, 2, 3] rfl ?_
      exact ih (k + 1) dE μf (c + 55) (by omega) (by rw [show i0 + (k + 1) = i0 + k + 1 by omega]; exact hpf) (by omega) (by rw [← hres, fm_steps, hd1, hd2])
set_option maxRecDepth 100000 in
set_option maxHeartbeats 4000000 in
theorem mm_stepI (l : Launch) (Γ : wc_G) (σ μ : wc_St) {N : Nat} (hN : N ≤ 500) (P : Nat → Nat → wc_St → Prop) (I cM : Nat) (hmono : ∀ i c c' μ, P i c μ → c ≤ c' → P i c' μ) (htk : ∀ i c μ, P i c μ → i < I → P (i + 1) c (fm_tick μ)) (hnx : ∀ i c μ, P i c μ → ∀ a, a < 45 → ¬ μ 53 0 a ≤ 0 → a / 15 = 1 → fm_least μ (a % 15 / 3) < 3)
    (hdl : ∀ i c μ a, c < cM → P i c μ → fm_next μ 45 0 none = some a → (a / 15 < 2 → fm_least μ (a % 15 / 3) < 3) ∧ (∃ V, μ 37 0 0 = nI V ∧ (a / 15 = 2 → V + fm_w μ (a % 15 / 3) 3 (a % 3) ≤ 512)) ∧ P i (c + 1) (fm_deal μ a))
    (hen : ∀ i c μ t, c + 2 ≤ cM → P i c μ → t < 5 → μ 42 0 t = nI 3 → fm_least μ t < 3 ∧ (∃ V, μ 37 0 0 = nI V ∧ V + fm_w μ t 3 (fm_least μ t) ≤ 512) ∧ (fm_mayEnd μ t = true → P i (c + 2) (fm_endOne μ t (fm_least μ t)))) (i0 : Nat) (hI : i0 + N ≤ I) (c : Nat) (hp : P i0 c μ) (hcM : c + 60 * N ≤ cM) : wc_M l yM_step cM_step 7 (some .int) 4 Γ [.ref (Γ.2.2 70), .int (nI N)] σ μ (some (.int (nI ((fm_steps N 0 μ).1)))) σ ((fm_steps N 0 μ).2) := by
  refine wc_enter "WaitedCommitsModel" (by decide) rfl (Nat.le_of_ble_eq_true rfl) ?_
  intro P0 E0 S0 M0 A0 B0 T0 K0 C hr hlk
  refine wr_vs (vs' := [(0, .ref (Γ.2.2 70)), (1, .int (nI N))]) rfl ?_
  refine wr_iload_n C 1 dM_step_0 rfl rfl ?_
  refine wr_sipush C (v := nI 501) dM_step_1 (by decide) ?_
  refine wr_callS1 C (As := [.int (nI N), .int (nI 501)]) (rest := []) (mm_inI l Γ σ μ (j := N) (N := 501) (by omega) (by decide)) cb_M_in (Or.inl tw_399) tw_400 (by decide) (by decide) rfl rfl (Nat.le_of_ble_eq_true rfl) ⟨Nat.le_refl _, Nat.le_refl _⟩ dM_step_4 ?_
  refine wr_if_ne C (tgt := 12) dM_step_7 (by decide) (fun _ => ?_) (fun h1 => absurd h1 (by decide))
  refine wr_iconst C (v := nI 0) dM_step_12 (by decide) ?_
  refine wr_istore_n C (vs' := [(2, .int (nI 0)), (0, .ref (Γ.2.2 70)), (1, .int (nI N))]) dM_step_13 rfl (by decide) rfl ?_
  refine wr_iconst C (v := nI 0) dM_step_14 (by decide) ?_
  refine wr_istore_n C (vs' := [(3, .int (nI 0)), (2, .int (nI 0)), (0, .ref (Γ.2.2 70)), (1, .int (nI N))]) dM_step_15 rfl (by decide) rfl ?_
  refine wr_sub [0, 1, 2, 3] rfl ?_
  exact mn_steps C hr hlk P I cM hmono htk hnx hdl hen N hN i0 hI σ rfl _ rfl (c + 60 * N) hcM N 0 0 μ c (by omega) hp (Nat.le_refl _) rfl
set_option maxRecDepth 100000 in
set_option maxHeartbeats 4000000 in
theorem mm_stepO (l : Launch) (Γ : wc_G) (σ μ : wc_St) (a : Int32) (ha : a < 0 ∨ nI 501 ≤ a) : wc_M l yM_step cM_step 7 (some .int) 4 Γ [.ref (Γ.2.2 70), .int a] σ μ (some (.int (-1))) σ (μ) := by
  refine wc_enter "WaitedCommitsModel" (by decide) rfl (Nat.le_of_ble_eq_true rfl) ?_
  intro P0 E0 S0 M0 A0 B0 T0 K0 C hr hlk
  refine wr_vs (vs' := [(0, .ref (Γ.2.2 70)), (1, .int a)]) rfl ?_
  refine wr_iload_n C 1 dM_step_0 rfl rfl ?_
  refine wr_sipush C (v := nI 501) dM_step_1 (by decide) ?_
  refine wr_callS1 C (As := [.int a, .int (nI 501)]) (rest := []) (mm_inO l Γ σ μ a (N := 501) ha) cb_M_in (Or.inl tw_399) tw_400 (by decide) (by decide) rfl rfl (Nat.le_of_ble_eq_true rfl) ⟨Nat.le_refl _, Nat.le_refl _⟩ dM_step_4 ?_
  refine wr_if_ne C (tgt := 12) dM_step_7 (by decide) (fun h1 => absurd (by decide) h1) (fun _ => ?_)
  refine wr_iconst C (v := -1) dM_step_10 (by decide) ?_
  exact wr_iret C hr rfl hlk dM_step_11 (by rfl) (by rfl) (by rfl)
