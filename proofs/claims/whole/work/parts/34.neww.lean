theorem ni_site {p : Program} {l : Launch} {e : Env} {s : State} {m : MethodId} {args : Array Value} {below : List Frame} {meth : Method} {c : Code} {cells slots : Nat} {Q : State → Prop} {Γ : wc_G} {A : Nat → Prop} {n : Nat} {ω : Nat → Nat × va_E} {a i cells' slots' n' : Nat} {x0 x : Int32} {q1 q2 q3 q4 : Nat} {f : Nat → Option Nat}  (C : wc_C p s m args c cW_init 4 RW Γ A) (B : wn_B s) (h0 : ω 0 = (a, .inr (0, [.int x, .ref q1, .ref q2, .ref q3, .ref q4, .int (nI 0), .int (nI 0), .int (nI 0), .int (nI 0)]))) (h1 : ω 1 = (q1, .inl (Γ.2.1 2, 3, .inr (.inr (.inr (.inr (f))))))) (hn : 4 < n) (hi : i < 3) (hn' : n + 1 = n') (e1 : cells + 1 = cells') (e2 : slots + 5 = slots') (hR : cells' ≤ 69 ∧ slots' ≤ 391)
    (kk : ∀ g : Nat → Nat, wn_K p l e (wn_rm 2 69 391) s m args below meth c 4 Γ A Q cells' slots' 96 [(2, .int (nI i)), (0, .ref a), (1, .int x0)] [] n' (wn_up (wn_jn ω n g (wn_ES x)) 1 (q1, .inl (Γ.2.1 2, 3, .inr (.inr (.inr (.inr (va_up f (i) (some (g 0)))))))))) : wn_K p l e (wn_rm 2 69 391) s m args below meth c 4 Γ A Q cells slots 79 [(2, .int (nI i)), (0, .ref a), (1, .int x0)] [] n ω := by
  subst e1; subst e2; subst hn'
  refine nr_aload_n C 1 dW_init_79 rfl rfl ?_
  refine nr_get C (q := 0) (k := 1) (by omega) h0 rfl (by decide) wl_W tw_119 rfl dW_init_80 ?_
  refine nr_iload_n C 0 dW_init_83 rfl rfl ?_
  refine nr_new C (fs := [.int 0, .int 0, .int 0, .int 0, .int 0]) (n' := n + 1) (cells' := cells + 1) (slots' := slots + 5) (ci := 1) wl_S tyS tyS_ok tw_16 tw_26 tw_3 rfl (by decide) rfl rfl rfl ⟨by show cells + 1 ≤ 69; omega, by show slots + 5 ≤ 391; omega⟩ dW_init_84 (fun q => ?_)
  refine nr_dup C dW_init_87 rfl ?_
  refine nr_aload_n C 1 dW_init_88 rfl rfl ?_
  refine nr_get C (q := 0) (k := 0) (by omega) ((wn_up_ne (by omega)).trans h0) rfl (by decide) wl_W tw_118 rfl dW_init_89 ?_
  refine nr_ctor C B (As := [.int x]) (n1 := 1) (n' := n + 1) (rest := [.ref q, .int (nI (i)), .ref q1]) (cells' := cells + 1) (slots' := slots + 5) (d := 1) (mc := 0) (ms := 0) (ns_S (x := x)) cb_S_init (Or.inr ⟨_, tw_27⟩) rfl tw_28 wn_up_at rfl rfl (by omega) hR ⟨by decide, by decide⟩ (by decide) rfl rfl (Nat.le_of_ble_eq_true rfl) dW_init_92 (fun g hg => ?_)
  subst hg
  rw [wn_jn_up]
  refine nr_ast C (q := 1) (qk := n) (i := i) (t0 := 2) (r := (RS, TS, 5)) (by omega) ((wn_jn_lt (by omega)).trans h1) rfl (by omega) wn_jn_at rfl hi (by decide) dW_init_95 ?_
  exact kk g
theorem ni_key {p : Program} {l : Launch} {e : Env} {s : State} {m : MethodId} {args : Array Value} {below : List Frame} {meth : Method} {c : Code} {cells slots : Nat} {Q : State → Prop} {Γ : wc_G} {A : Nat → Prop} {n : Nat} {ω : Nat → Nat × va_E} {a i cells' slots' n' : Nat} {x0 x : Int32} {q1 q2 q3 q4 : Nat} {f : Nat → Option Nat}  (C : wc_C p s m args c cW_init 4 RW Γ A) (B : wn_B s) (h0 : ω 0 = (a, .inr (0, [.int x, .ref q1, .ref q2, .ref q3, .ref q4, .int (nI 0), .int (nI 0), .int (nI 0), .int (nI 0)]))) (h1 : ω 2 = (q2, .inl (Γ.2.1 3, 9, .inr (.inr (.inr (.inr (f))))))) (hn : 4 < n) (hi : i < 9) (hn' : n + 3 = n') (e1 : cells + 3 = cells') (e2 : slots + 11 = slots') (hR : cells' ≤ 69 ∧ slots' ≤ 391)
    (kk : ∀ g : Nat → Nat, wn_K p l e (wn_rm 2 69 391) s m args below meth c 4 Γ A Q cells' slots' 123 [(2, .int (nI i)), (0, .ref a), (1, .int x0)] [] n' (wn_up (wn_jn ω n g (wn_EK Γ)) 2 (q2, .inl (Γ.2.1 3, 9, .inr (.inr (.inr (.inr (va_up f (i) (some (g 0)))))))))) : wn_K p l e (wn_rm 2 69 391) s m args below meth c 4 Γ A Q cells slots 110 [(2, .int (nI i)), (0, .ref a), (1, .int x0)] [] n ω := by
  subst e1; subst e2; subst hn'
  refine nr_aload_n C 1 dW_init_110 rfl rfl ?_
  refine nr_get C (q := 0) (k := 2) (by omega) h0 rfl (by decide) wl_W tw_120 rfl dW_init_111 ?_
  refine nr_iload_n C 0 dW_init_114 rfl rfl ?_
  refine nr_new C (fs := [.null, .null, .int 0]) (n' := n + 1) (cells' := cells + 1) (slots' := slots + 3) (ci := 2) wl_K tyK tyK_ok tw_17 tw_46 tw_4 rfl (by decide) rfl rfl rfl ⟨by show cells + 1 ≤ 69; omega, by show slots + 3 ≤ 391; omega⟩ dW_init_115 (fun q => ?_)
  refine nr_dup C dW_init_118 rfl ?_
  refine nr_ctor C B (As := []) (n1 := 3) (n' := n + 3) (rest := [.ref q, .int (nI (i)), .ref q2]) (cells' := cells + 3) (slots' := slots + 11) (d := 1) (mc := 2) (ms := 8) ns_K cb_K_init (Or.inr ⟨_, tw_47⟩) rfl tw_48 wn_up_at rfl rfl (by omega) hR ⟨by decide, by decide⟩ (by decide) rfl rfl (Nat.le_of_ble_eq_true rfl) dW_init_119 (fun g hg => ?_)
  subst hg
  rw [wn_jn_up]
  refine nr_ast C (q := 2) (qk := n) (i := i) (t0 := 3) (r := (RK, TK, 3)) (by omega) ((wn_jn_lt (by omega)).trans h1) rfl (by omega) wn_jn_at rfl hi (by decide) dW_init_122 ?_
  exact kk g
theorem ni_tx {p : Program} {l : Launch} {e : Env} {s : State} {m : MethodId} {args : Array Value} {below : List Frame} {meth : Method} {c : Code} {cells slots : Nat} {Q : State → Prop} {Γ : wc_G} {A : Nat → Prop} {n : Nat} {ω : Nat → Nat × va_E} {a i cells' slots' n' : Nat} {x0 x : Int32} {q1 q2 q3 q4 : Nat} {f : Nat → Option Nat}  (C : wc_C p s m args c cW_init 4 RW Γ A) (B : wn_B s) (h0 : ω 0 = (a, .inr (0, [.int x, .ref q1, .ref q2, .ref q3, .ref q4, .int (nI 0), .int (nI 0), .int (nI 0), .int (nI 0)]))) (h1 : ω 3 = (q3, .inl (Γ.2.1 4, 5, .inr (.inr (.inr (.inr (f))))))) (hn : 4 < n) (hi : i < 5) (hn' : n + 4 = n') (e1 : cells + 4 = cells') (e2 : slots + 31 = slots') (hR : cells' ≤ 69 ∧ slots' ≤ 391)
    (kk : ∀ g : Nat → Nat, wn_K p l e (wn_rm 2 69 391) s m args below meth c 4 Γ A Q cells' slots' 149 [(2, .int (nI i)), (0, .ref a), (1, .int x0)] [] n' (wn_up (wn_jn ω n g (wn_ET Γ)) 3 (q3, .inl (Γ.2.1 4, 5, .inr (.inr (.inr (.inr (va_up f (i) (some (g 0)))))))))) : wn_K p l e (wn_rm 2 69 391) s m args below meth c 4 Γ A Q cells slots 136 [(2, .int (nI i)), (0, .ref a), (1, .int x0)] [] n ω := by
  subst e1; subst e2; subst hn'
  refine nr_aload_n C 1 dW_init_136 rfl rfl ?_
  refine nr_get C (q := 0) (k := 3) (by omega) h0 rfl (by decide) wl_W tw_121 rfl dW_init_137 ?_
  refine nr_iload_n C 0 dW_init_140 rfl rfl ?_
  refine nr_new C (fs := [.int 0, .int 0, .int 0, .int 0, .int 0, .int 0, .int 0, .null, .null, .null]) (n' := n + 1) (cells' := cells + 1) (slots' := slots + 10) (ci := 3) wl_T tyT tyT_ok tw_18 tw_60 tw_5 rfl (by decide) rfl rfl rfl ⟨by show cells + 1 ≤ 69; omega, by show slots + 10 ≤ 391; omega⟩ dW_init_141 (fun q => ?_)
  refine nr_dup C dW_init_144 rfl ?_
  refine nr_ctor C B (As := []) (n1 := 4) (n' := n + 4) (rest := [.ref q, .int (nI (i)), .ref q3]) (cells' := cells + 4) (slots' := slots + 31) (d := 1) (mc := 3) (ms := 21) ns_T cb_T_init (Or.inr ⟨_, tw_61⟩) rfl tw_62 wn_up_at rfl rfl (by omega) hR ⟨by decide, by decide⟩ (by decide) rfl rfl (Nat.le_of_ble_eq_true rfl) dW_init_145 (fun g hg => ?_)
  subst hg
  rw [wn_jn_up]
  refine nr_ast C (q := 3) (qk := n) (i := i) (t0 := 4) (r := (RT, TT, 10)) (by omega) ((wn_jn_lt (by omega)).trans h1) rfl (by omega) wn_jn_at rfl hi (by decide) dW_init_148 ?_
  exact kk g
theorem ni_msg {p : Program} {l : Launch} {e : Env} {s : State} {m : MethodId} {args : Array Value} {below : List Frame} {meth : Method} {c : Code} {cells slots : Nat} {Q : State → Prop} {Γ : wc_G} {A : Nat → Prop} {n : Nat} {ω : Nat → Nat × va_E} {a i cells' slots' n' : Nat} {x0 x : Int32} {q1 q2 q3 q4 : Nat} {f : Nat → Option Nat} {r : Nat} (C : wc_C p s m args c cW_init 4 RW Γ A) (B : wn_B s) (h0 : ω 0 = (a, .inr (0, [.int x, .ref q1, .ref q2, .ref q3, .ref q4, .int (nI 0), .int (nI 0), .int (nI 0), .int (nI 0)]))) (h1 : ω 4 = (q4, .inl (Γ.2.1 5, 15, .inr (.inr (.inr (.inr (f))))))) (hn : 4 < n) (hi : i * 3 + r < 15) (hn' : n + 1 = n') (e1 : cells + 1 = cells') (e2 : slots + 6 = slots') (hR : cells' ≤ 69 ∧ slots' ≤ 391)
    (kk : ∀ g : Nat → Nat, wn_K p l e (wn_rm 2 69 391) s m args below meth c 4 Γ A Q cells' slots' 175 [(3, .int (nI r)), (2, .int (nI i)), (0, .ref a), (1, .int x0)] [] n' (wn_up (wn_jn ω n g (wn_EG i r)) 4 (q4, .inl (Γ.2.1 5, 15, .inr (.inr (.inr (.inr (va_up f (i * 3 + r) (some (g 0)))))))))) : wn_K p l e (wn_rm 2 69 391) s m args below meth c 4 Γ A Q cells slots 156 [(3, .int (nI r)), (2, .int (nI i)), (0, .ref a), (1, .int x0)] [] n ω := by
  subst e1; subst e2; subst hn'
  refine nr_aload_n C 2 dW_init_156 rfl rfl ?_
  refine nr_get C (q := 0) (k := 4) (by omega) h0 rfl (by decide) wl_W tw_122 rfl dW_init_157 ?_
  refine nr_iload_n C 1 dW_init_160 rfl rfl ?_
  refine nr_iconst C (v := nI 3) dW_init_161 (by decide) ?_
  refine nr_imul C (z := nI (i * 3)) dW_init_162 (pk_mul i 3) ?_
  refine nr_iload_n C 0 dW_init_163 rfl rfl ?_
  refine nr_iadd C (z := nI (i * 3 + r)) dW_init_164 (nI_add (i * 3) r) ?_
  refine nr_new C (fs := [.int 0, .int 0, .int 0, .int 0, .int 0, .int 0]) (n' := n + 1) (cells' := cells + 1) (slots' := slots + 6) (ci := 4) wl_G tyG tyG_ok tw_19 tw_95 tw_6 rfl (by decide) rfl rfl rfl ⟨by show cells + 1 ≤ 69; omega, by show slots + 6 ≤ 391; omega⟩ dW_init_165 (fun q => ?_)
  refine nr_dup C dW_init_168 rfl ?_
  refine nr_iload_n C 1 dW_init_169 rfl rfl ?_
  refine nr_iload_n C 0 dW_init_170 rfl rfl ?_
  refine nr_ctor C B (As := [.int (nI i), .int (nI r)]) (n1 := 1) (n' := n + 1) (rest := [.ref q, .int (nI (i * 3 + r)), .ref q4]) (cells' := cells + 1) (slots' := slots + 6) (d := 1) (mc := 0) (ms := 0) (ns_G (t := i) (r := r)) cb_G_init (Or.inr ⟨_, tw_96⟩) rfl tw_97 wn_up_at rfl rfl (by omega) hR ⟨by decide, by decide⟩ (by decide) rfl rfl (Nat.le_of_ble_eq_true rfl) dW_init_171 (fun g hg => ?_)
  subst hg
  rw [wn_jn_up]
  refine nr_ast C (q := 4) (qk := n) (i := i * 3 + r) (t0 := 5) (r := (RG, TG, 6)) (by omega) ((wn_jn_lt (by omega)).trans h1) rfl (by omega) wn_jn_at rfl hi (by decide) dW_init_174 ?_
  exact kk g
def wn_EW (Γ : wc_G) (x : Int32) (g : Nat → Nat) (j : Nat) : va_E :=
  if j = 0 then .inr (0, [.int x, .ref (g 1), .ref (g 2), .ref (g 3), .ref (g 4), .int (nI 0), .int (nI 0), .int (nI 0), .int (nI 0)]) else
  if j = 1 then .inl (Γ.2.1 2, 3, .inr (.inr (.inr (.inr (va_up (va_up (va_up (fun _ => none) 0 (some (g 5))) 1 (some (g 6))) 2 (some (g 7))))))) else
  if j = 2 then .inl (Γ.2.1 3, 9, .inr (.inr (.inr (.inr (va_up (va_up (va_up (va_up (va_up (va_up (va_up (va_up (va_up (fun _ => none) 0 (some (g 8))) 1 (some (g 11))) 2 (some (g 14))) 3 (some (g 17))) 4 (some (g 20))) 5 (some (g 23))) 6 (some (g 26))) 7 (some (g 29))) 8 (some (g 32))))))) else
  if j = 3 then .inl (Γ.2.1 4, 5, .inr (.inr (.inr (.inr (va_up (va_up (va_up (va_up (va_up (fun _ => none) 0 (some (g 35))) 1 (some (g 42))) 2 (some (g 49))) 3 (some (g 56))) 4 (some (g 63))))))) else
  if j = 4 then .inl (Γ.2.1 5, 15, .inr (.inr (.inr (.inr (va_up (va_up (va_up (va_up (va_up (va_up (va_up (va_up (va_up (va_up (va_up (va_up (va_up (va_up (va_up (fun _ => none) 0 (some (g 39))) 1 (some (g 40))) 2 (some (g 41))) 3 (some (g 46))) 4 (some (g 47))) 5 (some (g 48))) 6 (some (g 53))) 7 (some (g 54))) 8 (some (g 55))) 9 (some (g 60))) 10 (some (g 61))) 11 (some (g 62))) 12 (some (g 67))) 13 (some (g 68))) 14 (some (g 69))))))) else
  if j < 8 then .inr (1, [.int x, .int x, .int (nI 0), .int (nI 1), .int (nI 0)]) else
  if j < 35 then (if (j - 8) % 3 = 0 then .inr (2, [.ref (g (j + 1)), .ref (g (j + 2)), .int (nI 1)]) else .inl (Γ.2.1 0, 4, .inl (fun _ => 0))) else
  if (j - 35) % 7 = 0 then .inr (3, [.int (nI 0), .int (nI 0), .int (nI 0), .int (nI 0), .int (nI 0), .int (nI 0), .int (nI 0), .ref (g (j + 1)), .ref (g (j + 2)), .ref (g (j + 3))]) else
  if (j - 35) % 7 < 3 then .inl (Γ.2.1 0, 9, .inl (fun _ => 0)) else
  if (j - 35) % 7 = 3 then .inl (Γ.2.1 0, 3, .inl (fun _ => 0)) else
  .inr (4, [.int (nI ((j - 35) / 7)), .int (nI ((j - 35) % 7 - 4)), .int (nI 0), .int (nI 0), .int (nI 0), .int (nI 0)])
set_option maxRecDepth 40000 in
set_option maxHeartbeats 2000000 in
theorem ns_W {l : Launch} {Γ : wc_G} {a : Nat} {x : Int32} : wn_M l yW_init cW_init 4 2 69 391 Γ [.ref a, .int x] (a, .inr (0, [.int 0, .null, .null, .null, .null, .int 0, .int 0, .int 0, .int 0])) 70 (wn_EW Γ (wc_mx (nI 0) (wc_mn x (nI 20)))) := by
  refine wn_enter RW (by decide) rfl rfl (Nat.le_of_ble_eq_true rfl) (fun p e s m args below meth c A C B hin hr hlk => ?_)
  refine nr_aload_n C 0 dW_init_0 rfl rfl ?_
  refine nr_obj C tw_13 (by decide) (by decide) (Nat.le_of_ble_eq_true rfl) dW_init_1 ?_
  refine nr_aload_n C 0 dW_init_4 rfl rfl ?_
  refine nr_iconst C (v := nI 3) dW_init_5 (by decide) ?_
  refine nr_newq C B.2.1 2 (N' := 3) (n' := 2) (cells' := 1) (slots' := 3) rfl tw_16 (by decide) (by decide) (by decide) rfl rfl rfl ⟨by decide, by decide⟩ dW_init_6 (fun q6 => ?_)
  refine nr_putF C (q := 0) (k := 1) (ty := (.array (.object "WaitedCommits$Site"))) (fs' := [.int 0, .ref q6, .null, .null, .null, .int 0, .int 0, .int 0, .int 0]) (by decide) rfl rfl (by decide) wl_W tyW tyW_ok nmW rfl hin rfl (by decide +kernel) (Nat.le_of_ble_eq_true rfl) rfl tw_119 (by first | rfl | decide +kernel) rfl dW_init_9 ?_
  refine nr_aload_n C 0 dW_init_12 rfl rfl ?_
  refine nr_bipush C (v := nI 9) dW_init_13 (by decide) ?_
  refine nr_newq C B.2.2.1 3 (N' := 9) (n' := 3) (cells' := 2) (slots' := 12) rfl tw_17 (by decide) (by decide) (by decide) rfl rfl rfl ⟨by decide, by decide⟩ dW_init_15 (fun q15 => ?_)
  refine nr_putF C (q := 0) (k := 2) (ty := (.array (.object "WaitedCommits$Key"))) (fs' := [.int 0, .ref q6, .ref q15, .null, .null, .int 0, .int 0, .int 0, .int 0]) (by decide) rfl rfl (by decide) wl_W tyW tyW_ok nmW rfl hin rfl (by decide +kernel) (Nat.le_of_ble_eq_true rfl) rfl tw_120 (by first | rfl | decide +kernel) rfl dW_init_18 ?_
  refine nr_aload_n C 0 dW_init_21 rfl rfl ?_
  refine nr_iconst C (v := nI 5) dW_init_22 (by decide) ?_
  refine nr_newq C B.2.2.2.1 4 (N' := 5) (n' := 4) (cells' := 3) (slots' := 17) rfl tw_18 (by decide) (by decide) (by decide) rfl rfl rfl ⟨by decide, by decide⟩ dW_init_23 (fun q23 => ?_)
  refine nr_putF C (q := 0) (k := 3) (ty := (.array (.object "WaitedCommits$Transaction"))) (fs' := [.int 0, .ref q6, .ref q15, .ref q23, .null, .int 0, .int 0, .int 0, .int 0]) (by decide) rfl rfl (by decide) wl_W tyW tyW_ok nmW rfl hin rfl (by decide +kernel) (Nat.le_of_ble_eq_true rfl) rfl tw_121 (by first | rfl | decide +kernel) rfl dW_init_26 ?_
  refine nr_aload_n C 0 dW_init_29 rfl rfl ?_
  refine nr_bipush C (v := nI 15) dW_init_30 (by decide) ?_
  refine nr_newq C B.2.2.2.2 5 (N' := 15) (n' := 5) (cells' := 4) (slots' := 32) rfl tw_19 (by decide) (by decide) (by decide) rfl rfl rfl ⟨by decide, by decide⟩ dW_init_32 (fun q32 => ?_)
  refine nr_putF C (q := 0) (k := 4) (ty := (.array (.object "WaitedCommits$Message"))) (fs' := [.int 0, .ref q6, .ref q15, .ref q23, .ref q32, .int 0, .int 0, .int 0, .int 0]) (by decide) rfl rfl (by decide) wl_W tyW tyW_ok nmW rfl hin rfl (by decide +kernel) (Nat.le_of_ble_eq_true rfl) rfl tw_122 (by first | rfl | decide +kernel) rfl dW_init_35 ?_
  refine nr_aload_n C 0 dW_init_38 rfl rfl ?_
  refine nr_iconst C (v := nI 0) dW_init_39 (by decide) ?_
  refine nr_put C (q := 0) (k := 5) (ty := .int) (fs' := [.int 0, .ref q6, .ref q15, .ref q23, .ref q32, .int (nI 0), .int 0, .int 0, .int 0]) (by decide) rfl rfl (by decide) wl_W tyW tyW_ok nmW rfl (by decide +kernel) (Nat.le_of_ble_eq_true rfl) rfl tw_123 (by first | rfl | decide +kernel) rfl dW_init_40 ?_
  refine nr_aload_n C 0 dW_init_43 rfl rfl ?_
  refine nr_iconst C (v := nI 0) dW_init_44 (by decide) ?_
  refine nr_put C (q := 0) (k := 6) (ty := .int) (fs' := [.int 0, .ref q6, .ref q15, .ref q23, .ref q32, .int (nI 0), .int (nI 0), .int 0, .int 0]) (by decide) rfl rfl (by decide) wl_W tyW tyW_ok nmW rfl (by decide +kernel) (Nat.le_of_ble_eq_true rfl) rfl tw_124 (by first | rfl | decide +kernel) rfl dW_init_45 ?_
  refine nr_aload_n C 0 dW_init_48 rfl rfl ?_
  refine nr_iconst C (v := nI 0) dW_init_49 (by decide) ?_
  refine nr_put C (q := 0) (k := 7) (ty := .int) (fs' := [.int 0, .ref q6, .ref q15, .ref q23, .ref q32, .int (nI 0), .int (nI 0), .int (nI 0), .int 0]) (by decide) rfl rfl (by decide) wl_W tyW tyW_ok nmW rfl (by decide +kernel) (Nat.le_of_ble_eq_true rfl) rfl tw_125 (by first | rfl | decide +kernel) rfl dW_init_50 ?_
  refine nr_aload_n C 0 dW_init_53 rfl rfl ?_
  refine nr_iconst C (v := nI 0) dW_init_54 (by decide) ?_
  refine nr_put C (q := 0) (k := 8) (ty := .int) (fs' := [.int 0, .ref q6, .ref q15, .ref q23, .ref q32, .int (nI 0), .int (nI 0), .int (nI 0), .int (nI 0)]) (by decide) rfl rfl (by decide) wl_W tyW tyW_ok nmW rfl (by decide +kernel) (Nat.le_of_ble_eq_true rfl) rfl tw_126 (by first | rfl | decide +kernel) rfl dW_init_55 ?_
  refine nr_aload_n C 0 dW_init_58 rfl rfl ?_
  refine nr_iconst C (v := nI 0) dW_init_59 (by decide) ?_
  refine nr_iload_n C 1 dW_init_60 rfl rfl ?_
  refine nr_bipush C (v := nI 20) dW_init_61 (by decide) ?_
  refine nr_mmin C tw_20 tw_21 tw_2 tw_22 (by decide) (by decide) (Nat.le_of_ble_eq_true rfl) ⟨by decide, by decide⟩ dW_init_63 ?_
  refine nr_mmax C tw_23 tw_24 tw_2 tw_25 (by decide) (by decide) (Nat.le_of_ble_eq_true rfl) ⟨by decide, by decide⟩ dW_init_66 ?_
  refine nr_putF C (q := 0) (k := 0) (ty := .int) (fs' := [.int (wc_mx (nI 0) (wc_mn x (nI 20))), .ref q6, .ref q15, .ref q23, .ref q32, .int (nI 0), .int (nI 0), .int (nI 0), .int (nI 0)]) (by decide) rfl rfl (by decide) wl_W tyW tyW_ok nmW rfl hin rfl (by decide +kernel) (Nat.le_of_ble_eq_true rfl) rfl tw_118 (by first | rfl | decide +kernel) rfl dW_init_69 ?_
  refine nr_iconst C (v := nI 0) dW_init_72 (by decide) ?_
  refine nr_istore_n C (vs' := [(2, .int (nI 0)), (0, .ref a), (1, .int x)]) dW_init_73 rfl (by decide) rfl ?_
  refine nr_iload_n C 0 dW_init_74 rfl rfl ?_
  refine nr_iconst C (v := nI 3) dW_init_75 (by decide) ?_
  refine nr_icmp_ge C (tgt := 102) dW_init_76 (by decide) (fun h => absurd h (by decide)) (fun _ => ?_)
  refine ni_site C B (i := 0) (n' := 6) (cells' := 5) (slots' := 37) rfl rfl (by decide) (by decide) rfl rfl rfl ⟨by decide, by decide⟩ (fun s0 => ?_)
  refine nr_iinc C (v := nI 1) (vs' := [(2, .int (nI 1)), (0, .ref a), (1, .int x)]) 0 dW_init_96 rfl (by decide) (by decide) rfl ?_
  refine nr_goto C (tgt := 74) dW_init_99 (by decide) ?_
  refine nr_iload_n C 0 dW_init_74 rfl rfl ?_
  refine nr_iconst C (v := nI 3) dW_init_75 (by decide) ?_
  refine nr_icmp_ge C (tgt := 102) dW_init_76 (by decide) (fun h => absurd h (by decide)) (fun _ => ?_)
  refine ni_site C B (i := 1) (n' := 7) (cells' := 6) (slots' := 42) rfl rfl (by decide) (by decide) rfl rfl rfl ⟨by decide, by decide⟩ (fun s1 => ?_)
  refine nr_iinc C (v := nI 2) (vs' := [(2, .int (nI 2)), (0, .ref a), (1, .int x)]) 0 dW_init_96 rfl (by decide) (by decide) rfl ?_
  refine nr_goto C (tgt := 74) dW_init_99 (by decide) ?_
  refine nr_iload_n C 0 dW_init_74 rfl rfl ?_
  refine nr_iconst C (v := nI 3) dW_init_75 (by decide) ?_
  refine nr_icmp_ge C (tgt := 102) dW_init_76 (by decide) (fun h => absurd h (by decide)) (fun _ => ?_)
  refine ni_site C B (i := 2) (n' := 8) (cells' := 7) (slots' := 47) rfl rfl (by decide) (by decide) rfl rfl rfl ⟨by decide, by decide⟩ (fun s2 => ?_)
  refine nr_iinc C (v := nI 3) (vs' := [(2, .int (nI 3)), (0, .ref a), (1, .int x)]) 0 dW_init_96 rfl (by decide) (by decide) rfl ?_
  refine nr_goto C (tgt := 74) dW_init_99 (by decide) ?_
  refine nr_iload_n C 0 dW_init_74 rfl rfl ?_
  refine nr_iconst C (v := nI 3) dW_init_75 (by decide) ?_
  refine nr_icmp_ge C (tgt := 102) dW_init_76 (by decide) (fun _ => ?_) (fun h => absurd h (by decide))
  refine nr_iconst C (v := nI 0) dW_init_102 (by decide) ?_
  refine nr_istore_n C (vs' := [(2, .int (nI 0)), (0, .ref a), (1, .int x)]) dW_init_103 rfl (by decide) rfl ?_
  refine nr_iload_n C 0 dW_init_104 rfl rfl ?_
  refine nr_bipush C (v := nI 9) dW_init_105 (by decide) ?_
  refine nr_icmp_ge C (tgt := 129) dW_init_107 (by decide) (fun h => absurd h (by decide)) (fun _ => ?_)
  refine ni_key C B (i := 0) (n' := 11) (cells' := 10) (slots' := 58) rfl rfl (by decide) (by decide) rfl rfl rfl ⟨by decide, by decide⟩ (fun k0 => ?_)
  refine nr_iinc C (v := nI 1) (vs' := [(2, .int (nI 1)), (0, .ref a), (1, .int x)]) 0 dW_init_123 rfl (by decide) (by decide) rfl ?_
  refine nr_goto C (tgt := 104) dW_init_126 (by decide) ?_
  refine nr_iload_n C 0 dW_init_104 rfl rfl ?_
  refine nr_bipush C (v := nI 9) dW_init_105 (by decide) ?_
  refine nr_icmp_ge C (tgt := 129) dW_init_107 (by decide) (fun h => absurd h (by decide)) (fun _ => ?_)
  refine ni_key C B (i := 1) (n' := 14) (cells' := 13) (slots' := 69) rfl rfl (by decide) (by decide) rfl rfl rfl ⟨by decide, by decide⟩ (fun k1 => ?_)
  refine nr_iinc C (v := nI 2) (vs' := [(2, .int (nI 2)), (0, .ref a), (1, .int x)]) 0 dW_init_123 rfl (by decide) (by decide) rfl ?_
  refine nr_goto C (tgt := 104) dW_init_126 (by decide) ?_
  refine nr_iload_n C 0 dW_init_104 rfl rfl ?_
  refine nr_bipush C (v := nI 9) dW_init_105 (by decide) ?_
  refine nr_icmp_ge C (tgt := 129) dW_init_107 (by decide) (fun h => absurd h (by decide)) (fun _ => ?_)
  refine ni_key C B (i := 2) (n' := 17) (cells' := 16) (slots' := 80) rfl rfl (by decide) (by decide) rfl rfl rfl ⟨by decide, by decide⟩ (fun k2 => ?_)
  refine nr_iinc C (v := nI 3) (vs' := [(2, .int (nI 3)), (0, .ref a), (1, .int x)]) 0 dW_init_123 rfl (by decide) (by decide) rfl ?_
  refine nr_goto C (tgt := 104) dW_init_126 (by decide) ?_
  refine nr_iload_n C 0 dW_init_104 rfl rfl ?_
  refine nr_bipush C (v := nI 9) dW_init_105 (by decide) ?_
  refine nr_icmp_ge C (tgt := 129) dW_init_107 (by decide) (fun h => absurd h (by decide)) (fun _ => ?_)
  refine ni_key C B (i := 3) (n' := 20) (cells' := 19) (slots' := 91) rfl rfl (by decide) (by decide) rfl rfl rfl ⟨by decide, by decide⟩ (fun k3 => ?_)
  refine nr_iinc C (v := nI 4) (vs' := [(2, .int (nI 4)), (0, .ref a), (1, .int x)]) 0 dW_init_123 rfl (by decide) (by decide) rfl ?_
  refine nr_goto C (tgt := 104) dW_init_126 (by decide) ?_
  refine nr_iload_n C 0 dW_init_104 rfl rfl ?_
  refine nr_bipush C (v := nI 9) dW_init_105 (by decide) ?_
  refine nr_icmp_ge C (tgt := 129) dW_init_107 (by decide) (fun h => absurd h (by decide)) (fun _ => ?_)
  refine ni_key C B (i := 4) (n' := 23) (cells' := 22) (slots' := 102) rfl rfl (by decide) (by decide) rfl rfl rfl ⟨by decide, by decide⟩ (fun k4 => ?_)
  refine nr_iinc C (v := nI 5) (vs' := [(2, .int (nI 5)), (0, .ref a), (1, .int x)]) 0 dW_init_123 rfl (by decide) (by decide) rfl ?_
  refine nr_goto C (tgt := 104) dW_init_126 (by decide) ?_
  refine nr_iload_n C 0 dW_init_104 rfl rfl ?_
  refine nr_bipush C (v := nI 9) dW_init_105 (by decide) ?_
  refine nr_icmp_ge C (tgt := 129) dW_init_107 (by decide) (fun h => absurd h (by decide)) (fun _ => ?_)
  refine ni_key C B (i := 5) (n' := 26) (cells' := 25) (slots' := 113) rfl rfl (by decide) (by decide) rfl rfl rfl ⟨by decide, by decide⟩ (fun k5 => ?_)
  refine nr_iinc C (v := nI 6) (vs' := [(2, .int (nI 6)), (0, .ref a), (1, .int x)]) 0 dW_init_123 rfl (by decide) (by decide) rfl ?_
  refine nr_goto C (tgt := 104) dW_init_126 (by decide) ?_
  refine nr_iload_n C 0 dW_init_104 rfl rfl ?_
  refine nr_bipush C (v := nI 9) dW_init_105 (by decide) ?_
  refine nr_icmp_ge C (tgt := 129) dW_init_107 (by decide) (fun h => absurd h (by decide)) (fun _ => ?_)
  refine ni_key C B (i := 6) (n' := 29) (cells' := 28) (slots' := 124) rfl rfl (by decide) (by decide) rfl rfl rfl ⟨by decide, by decide⟩ (fun k6 => ?_)
  refine nr_iinc C (v := nI 7) (vs' := [(2, .int (nI 7)), (0, .ref a), (1, .int x)]) 0 dW_init_123 rfl (by decide) (by decide) rfl ?_
  refine nr_goto C (tgt := 104) dW_init_126 (by decide) ?_
  refine nr_iload_n C 0 dW_init_104 rfl rfl ?_
  refine nr_bipush C (v := nI 9) dW_init_105 (by decide) ?_
  refine nr_icmp_ge C (tgt := 129) dW_init_107 (by decide) (fun h => absurd h (by decide)) (fun _ => ?_)
  refine ni_key C B (i := 7) (n' := 32) (cells' := 31) (slots' := 135) rfl rfl (by decide) (by decide) rfl rfl rfl ⟨by decide, by decide⟩ (fun k7 => ?_)
  refine nr_iinc C (v := nI 8) (vs' := [(2, .int (nI 8)), (0, .ref a), (1, .int x)]) 0 dW_init_123 rfl (by decide) (by decide) rfl ?_
  refine nr_goto C (tgt := 104) dW_init_126 (by decide) ?_
  refine nr_iload_n C 0 dW_init_104 rfl rfl ?_
  refine nr_bipush C (v := nI 9) dW_init_105 (by decide) ?_
  refine nr_icmp_ge C (tgt := 129) dW_init_107 (by decide) (fun h => absurd h (by decide)) (fun _ => ?_)
  refine ni_key C B (i := 8) (n' := 35) (cells' := 34) (slots' := 146) rfl rfl (by decide) (by decide) rfl rfl rfl ⟨by decide, by decide⟩ (fun k8 => ?_)
  refine nr_iinc C (v := nI 9) (vs' := [(2, .int (nI 9)), (0, .ref a), (1, .int x)]) 0 dW_init_123 rfl (by decide) (by decide) rfl ?_
  refine nr_goto C (tgt := 104) dW_init_126 (by decide) ?_
  refine nr_iload_n C 0 dW_init_104 rfl rfl ?_
  refine nr_bipush C (v := nI 9) dW_init_105 (by decide) ?_
  refine nr_icmp_ge C (tgt := 129) dW_init_107 (by decide) (fun _ => ?_) (fun h => absurd h (by decide))
  refine nr_iconst C (v := nI 0) dW_init_129 (by decide) ?_
  refine nr_istore_n C (vs' := [(2, .int (nI 0)), (0, .ref a), (1, .int x)]) dW_init_130 rfl (by decide) rfl ?_
  refine nr_iload_n C 0 dW_init_131 rfl rfl ?_
  refine nr_iconst C (v := nI 5) dW_init_132 (by decide) ?_
  refine nr_icmp_ge C (tgt := 187) dW_init_133 (by decide) (fun h => absurd h (by decide)) (fun _ => ?_)
  refine ni_tx C B (i := 0) (n' := 39) (cells' := 38) (slots' := 177) rfl rfl (by decide) (by decide) rfl rfl rfl ⟨by decide, by decide⟩ (fun t0 => ?_)
  refine nr_iconst C (v := nI 0) dW_init_149 (by decide) ?_
  refine nr_istore_n C (vs' := [(3, .int (nI 0)), (2, .int (nI 0)), (0, .ref a), (1, .int x)]) dW_init_150 rfl (by decide) rfl ?_
  refine nr_iload_n C 0 dW_init_151 rfl rfl ?_
  refine nr_iconst C (v := nI 3) dW_init_152 (by decide) ?_
  refine nr_icmp_ge C (tgt := 181) dW_init_153 (by decide) (fun h => absurd h (by decide)) (fun _ => ?_)
  refine ni_msg C B (i := 0) (r := 0) (n' := 40) (cells' := 39) (slots' := 183) rfl rfl (by decide) (by decide) rfl rfl rfl ⟨by decide, by decide⟩ (fun m00 => ?_)
  refine nr_iinc C (v := nI 1) (vs' := [(3, .int (nI 1)), (2, .int (nI 0)), (0, .ref a), (1, .int x)]) 0 dW_init_175 rfl (by decide) (by decide) rfl ?_
  refine nr_goto C (tgt := 151) dW_init_178 (by decide) ?_
  refine nr_iload_n C 0 dW_init_151 rfl rfl ?_
  refine nr_iconst C (v := nI 3) dW_init_152 (by decide) ?_
  refine nr_icmp_ge C (tgt := 181) dW_init_153 (by decide) (fun h => absurd h (by decide)) (fun _ => ?_)
  refine ni_msg C B (i := 0) (r := 1) (n' := 41) (cells' := 40) (slots' := 189) rfl rfl (by decide) (by decide) rfl rfl rfl ⟨by decide, by decide⟩ (fun m01 => ?_)
  refine nr_iinc C (v := nI 2) (vs' := [(3, .int (nI 2)), (2, .int (nI 0)), (0, .ref a), (1, .int x)]) 0 dW_init_175 rfl (by decide) (by decide) rfl ?_
  refine nr_goto C (tgt := 151) dW_init_178 (by decide) ?_
  refine nr_iload_n C 0 dW_init_151 rfl rfl ?_
  refine nr_iconst C (v := nI 3) dW_init_152 (by decide) ?_
  refine nr_icmp_ge C (tgt := 181) dW_init_153 (by decide) (fun h => absurd h (by decide)) (fun _ => ?_)
  refine ni_msg C B (i := 0) (r := 2) (n' := 42) (cells' := 41) (slots' := 195) rfl rfl (by decide) (by decide) rfl rfl rfl ⟨by decide, by decide⟩ (fun m02 => ?_)
  refine nr_iinc C (v := nI 3) (vs' := [(3, .int (nI 3)), (2, .int (nI 0)), (0, .ref a), (1, .int x)]) 0 dW_init_175 rfl (by decide) (by decide) rfl ?_
  refine nr_goto C (tgt := 151) dW_init_178 (by decide) ?_
  refine nr_iload_n C 0 dW_init_151 rfl rfl ?_
  refine nr_iconst C (v := nI 3) dW_init_152 (by decide) ?_
  refine nr_icmp_ge C (tgt := 181) dW_init_153 (by decide) (fun _ => ?_) (fun h => absurd h (by decide))
  refine nr_iinc C (v := nI 1) (vs' := [(2, .int (nI 1)), (3, .int (nI 3)), (0, .ref a), (1, .int x)]) 1 dW_init_181 rfl (by decide) (by decide) rfl ?_
  refine nr_goto C (tgt := 131) dW_init_184 (by decide) ?_
  refine nr_iload_n C 0 dW_init_131 rfl rfl ?_
  refine nr_iconst C (v := nI 5) dW_init_132 (by decide) ?_
  refine nr_icmp_ge C (tgt := 187) dW_init_133 (by decide) (fun h => absurd h (by decide)) (fun _ => ?_)
  refine nr_sub [0, 2, 3] rfl ?_
  refine ni_tx C B (i := 1) (n' := 46) (cells' := 45) (slots' := 226) rfl rfl (by decide) (by decide) rfl rfl rfl ⟨by decide, by decide⟩ (fun t1 => ?_)
  refine nr_iconst C (v := nI 0) dW_init_149 (by decide) ?_
  refine nr_istore_n C (vs' := [(3, .int (nI 0)), (2, .int (nI 1)), (0, .ref a), (1, .int x)]) dW_init_150 rfl (by decide) rfl ?_
  refine nr_iload_n C 0 dW_init_151 rfl rfl ?_
  refine nr_iconst C (v := nI 3) dW_init_152 (by decide) ?_
  refine nr_icmp_ge C (tgt := 181) dW_init_153 (by decide) (fun h => absurd h (by decide)) (fun _ => ?_)
  refine ni_msg C B (i := 1) (r := 0) (n' := 47) (cells' := 46) (slots' := 232) rfl rfl (by decide) (by decide) rfl rfl rfl ⟨by decide, by decide⟩ (fun m10 => ?_)
  refine nr_iinc C (v := nI 1) (vs' := [(3, .int (nI 1)), (2, .int (nI 1)), (0, .ref a), (1, .int x)]) 0 dW_init_175 rfl (by decide) (by decide) rfl ?_
  refine nr_goto C (tgt := 151) dW_init_178 (by decide) ?_
  refine nr_iload_n C 0 dW_init_151 rfl rfl ?_
  refine nr_iconst C (v := nI 3) dW_init_152 (by decide) ?_
  refine nr_icmp_ge C (tgt := 181) dW_init_153 (by decide) (fun h => absurd h (by decide)) (fun _ => ?_)
  refine ni_msg C B (i := 1) (r := 1) (n' := 48) (cells' := 47) (slots' := 238) rfl rfl (by decide) (by decide) rfl rfl rfl ⟨by decide, by decide⟩ (fun m11 => ?_)
  refine nr_iinc C (v := nI 2) (vs' := [(3, .int (nI 2)), (2, .int (nI 1)), (0, .ref a), (1, .int x)]) 0 dW_init_175 rfl (by decide) (by decide) rfl ?_
  refine nr_goto C (tgt := 151) dW_init_178 (by decide) ?_
  refine nr_iload_n C 0 dW_init_151 rfl rfl ?_
  refine nr_iconst C (v := nI 3) dW_init_152 (by decide) ?_
  refine nr_icmp_ge C (tgt := 181) dW_init_153 (by decide) (fun h => absurd h (by decide)) (fun _ => ?_)
  refine ni_msg C B (i := 1) (r := 2) (n' := 49) (cells' := 48) (slots' := 244) rfl rfl (by decide) (by decide) rfl rfl rfl ⟨by decide, by decide⟩ (fun m12 => ?_)
  refine nr_iinc C (v := nI 3) (vs' := [(3, .int (nI 3)), (2, .int (nI 1)), (0, .ref a), (1, .int x)]) 0 dW_init_175 rfl (by decide) (by decide) rfl ?_
  refine nr_goto C (tgt := 151) dW_init_178 (by decide) ?_
  refine nr_iload_n C 0 dW_init_151 rfl rfl ?_
  refine nr_iconst C (v := nI 3) dW_init_152 (by decide) ?_
  refine nr_icmp_ge C (tgt := 181) dW_init_153 (by decide) (fun _ => ?_) (fun h => absurd h (by decide))
  refine nr_iinc C (v := nI 2) (vs' := [(2, .int (nI 2)), (3, .int (nI 3)), (0, .ref a), (1, .int x)]) 1 dW_init_181 rfl (by decide) (by decide) rfl ?_
  refine nr_goto C (tgt := 131) dW_init_184 (by decide) ?_
  refine nr_iload_n C 0 dW_init_131 rfl rfl ?_
  refine nr_iconst C (v := nI 5) dW_init_132 (by decide) ?_
  refine nr_icmp_ge C (tgt := 187) dW_init_133 (by decide) (fun h => absurd h (by decide)) (fun _ => ?_)
  refine nr_sub [0, 2, 3] rfl ?_
  refine ni_tx C B (i := 2) (n' := 53) (cells' := 52) (slots' := 275) rfl rfl (by decide) (by decide) rfl rfl rfl ⟨by decide, by decide⟩ (fun t2 => ?_)
  refine nr_iconst C (v := nI 0) dW_init_149 (by decide) ?_
  refine nr_istore_n C (vs' := [(3, .int (nI 0)), (2, .int (nI 2)), (0, .ref a), (1, .int x)]) dW_init_150 rfl (by decide) rfl ?_
  refine nr_iload_n C 0 dW_init_151 rfl rfl ?_
  refine nr_iconst C (v := nI 3) dW_init_152 (by decide) ?_
  refine nr_icmp_ge C (tgt := 181) dW_init_153 (by decide) (fun h => absurd h (by decide)) (fun _ => ?_)
  refine ni_msg C B (i := 2) (r := 0) (n' := 54) (cells' := 53) (slots' := 281) rfl rfl (by decide) (by decide) rfl rfl rfl ⟨by decide, by decide⟩ (fun m20 => ?_)
  refine nr_iinc C (v := nI 1) (vs' := [(3, .int (nI 1)), (2, .int (nI 2)), (0, .ref a), (1, .int x)]) 0 dW_init_175 rfl (by decide) (by decide) rfl ?_
  refine nr_goto C (tgt := 151) dW_init_178 (by decide) ?_
  refine nr_iload_n C 0 dW_init_151 rfl rfl ?_
  refine nr_iconst C (v := nI 3) dW_init_152 (by decide) ?_
  refine nr_icmp_ge C (tgt := 181) dW_init_153 (by decide) (fun h => absurd h (by decide)) (fun _ => ?_)
  refine ni_msg C B (i := 2) (r := 1) (n' := 55) (cells' := 54) (slots' := 287) rfl rfl (by decide) (by decide) rfl rfl rfl ⟨by decide, by decide⟩ (fun m21 => ?_)
  refine nr_iinc C (v := nI 2) (vs' := [(3, .int (nI 2)), (2, .int (nI 2)), (0, .ref a), (1, .int x)]) 0 dW_init_175 rfl (by decide) (by decide) rfl ?_
  refine nr_goto C (tgt := 151) dW_init_178 (by decide) ?_
  refine nr_iload_n C 0 dW_init_151 rfl rfl ?_
  refine nr_iconst C (v := nI 3) dW_init_152 (by decide) ?_
  refine nr_icmp_ge C (tgt := 181) dW_init_153 (by decide) (fun h => absurd h (by decide)) (fun _ => ?_)
  refine ni_msg C B (i := 2) (r := 2) (n' := 56) (cells' := 55) (slots' := 293) rfl rfl (by decide) (by decide) rfl rfl rfl ⟨by decide, by decide⟩ (fun m22 => ?_)
  refine nr_iinc C (v := nI 3) (vs' := [(3, .int (nI 3)), (2, .int (nI 2)), (0, .ref a), (1, .int x)]) 0 dW_init_175 rfl (by decide) (by decide) rfl ?_
  refine nr_goto C (tgt := 151) dW_init_178 (by decide) ?_
  refine nr_iload_n C 0 dW_init_151 rfl rfl ?_
  refine nr_iconst C (v := nI 3) dW_init_152 (by decide) ?_
  refine nr_icmp_ge C (tgt := 181) dW_init_153 (by decide) (fun _ => ?_) (fun h => absurd h (by decide))
  refine nr_iinc C (v := nI 3) (vs' := [(2, .int (nI 3)), (3, .int (nI 3)), (0, .ref a), (1, .int x)]) 1 dW_init_181 rfl (by decide) (by decide) rfl ?_
  refine nr_goto C (tgt := 131) dW_init_184 (by decide) ?_
  refine nr_iload_n C 0 dW_init_131 rfl rfl ?_
  refine nr_iconst C (v := nI 5) dW_init_132 (by decide) ?_
  refine nr_icmp_ge C (tgt := 187) dW_init_133 (by decide) (fun h => absurd h (by decide)) (fun _ => ?_)
  refine nr_sub [0, 2, 3] rfl ?_
  refine ni_tx C B (i := 3) (n' := 60) (cells' := 59) (slots' := 324) rfl rfl (by decide) (by decide) rfl rfl rfl ⟨by decide, by decide⟩ (fun t3 => ?_)
  refine nr_iconst C (v := nI 0) dW_init_149 (by decide) ?_
  refine nr_istore_n C (vs' := [(3, .int (nI 0)), (2, .int (nI 3)), (0, .ref a), (1, .int x)]) dW_init_150 rfl (by decide) rfl ?_
  refine nr_iload_n C 0 dW_init_151 rfl rfl ?_
  refine nr_iconst C (v := nI 3) dW_init_152 (by decide) ?_
  refine nr_icmp_ge C (tgt := 181) dW_init_153 (by decide) (fun h => absurd h (by decide)) (fun _ => ?_)
  refine ni_msg C B (i := 3) (r := 0) (n' := 61) (cells' := 60) (slots' := 330) rfl rfl (by decide) (by decide) rfl rfl rfl ⟨by decide, by decide⟩ (fun m30 => ?_)
  refine nr_iinc C (v := nI 1) (vs' := [(3, .int (nI 1)), (2, .int (nI 3)), (0, .ref a), (1, .int x)]) 0 dW_init_175 rfl (by decide) (by decide) rfl ?_
  refine nr_goto C (tgt := 151) dW_init_178 (by decide) ?_
  refine nr_iload_n C 0 dW_init_151 rfl rfl ?_
  refine nr_iconst C (v := nI 3) dW_init_152 (by decide) ?_
  refine nr_icmp_ge C (tgt := 181) dW_init_153 (by decide) (fun h => absurd h (by decide)) (fun _ => ?_)
  refine ni_msg C B (i := 3) (r := 1) (n' := 62) (cells' := 61) (slots' := 336) rfl rfl (by decide) (by decide) rfl rfl rfl ⟨by decide, by decide⟩ (fun m31 => ?_)
  refine nr_iinc C (v := nI 2) (vs' := [(3, .int (nI 2)), (2, .int (nI 3)), (0, .ref a), (1, .int x)]) 0 dW_init_175 rfl (by decide) (by decide) rfl ?_
  refine nr_goto C (tgt := 151) dW_init_178 (by decide) ?_
  refine nr_iload_n C 0 dW_init_151 rfl rfl ?_
  refine nr_iconst C (v := nI 3) dW_init_152 (by decide) ?_
  refine nr_icmp_ge C (tgt := 181) dW_init_153 (by decide) (fun h => absurd h (by decide)) (fun _ => ?_)
  refine ni_msg C B (i := 3) (r := 2) (n' := 63) (cells' := 62) (slots' := 342) rfl rfl (by decide) (by decide) rfl rfl rfl ⟨by decide, by decide⟩ (fun m32 => ?_)
  refine nr_iinc C (v := nI 3) (vs' := [(3, .int (nI 3)), (2, .int (nI 3)), (0, .ref a), (1, .int x)]) 0 dW_init_175 rfl (by decide) (by decide) rfl ?_
  refine nr_goto C (tgt := 151) dW_init_178 (by decide) ?_
  refine nr_iload_n C 0 dW_init_151 rfl rfl ?_
  refine nr_iconst C (v := nI 3) dW_init_152 (by decide) ?_
  refine nr_icmp_ge C (tgt := 181) dW_init_153 (by decide) (fun _ => ?_) (fun h => absurd h (by decide))
  refine nr_iinc C (v := nI 4) (vs' := [(2, .int (nI 4)), (3, .int (nI 3)), (0, .ref a), (1, .int x)]) 1 dW_init_181 rfl (by decide) (by decide) rfl ?_
  refine nr_goto C (tgt := 131) dW_init_184 (by decide) ?_
  refine nr_iload_n C 0 dW_init_131 rfl rfl ?_
  refine nr_iconst C (v := nI 5) dW_init_132 (by decide) ?_
  refine nr_icmp_ge C (tgt := 187) dW_init_133 (by decide) (fun h => absurd h (by decide)) (fun _ => ?_)
  refine nr_sub [0, 2, 3] rfl ?_
  refine ni_tx C B (i := 4) (n' := 67) (cells' := 66) (slots' := 373) rfl rfl (by decide) (by decide) rfl rfl rfl ⟨by decide, by decide⟩ (fun t4 => ?_)
  refine nr_iconst C (v := nI 0) dW_init_149 (by decide) ?_
  refine nr_istore_n C (vs' := [(3, .int (nI 0)), (2, .int (nI 4)), (0, .ref a), (1, .int x)]) dW_init_150 rfl (by decide) rfl ?_
  refine nr_iload_n C 0 dW_init_151 rfl rfl ?_
  refine nr_iconst C (v := nI 3) dW_init_152 (by decide) ?_
  refine nr_icmp_ge C (tgt := 181) dW_init_153 (by decide) (fun h => absurd h (by decide)) (fun _ => ?_)
  refine ni_msg C B (i := 4) (r := 0) (n' := 68) (cells' := 67) (slots' := 379) rfl rfl (by decide) (by decide) rfl rfl rfl ⟨by decide, by decide⟩ (fun m40 => ?_)
  refine nr_iinc C (v := nI 1) (vs' := [(3, .int (nI 1)), (2, .int (nI 4)), (0, .ref a), (1, .int x)]) 0 dW_init_175 rfl (by decide) (by decide) rfl ?_
  refine nr_goto C (tgt := 151) dW_init_178 (by decide) ?_
  refine nr_iload_n C 0 dW_init_151 rfl rfl ?_
  refine nr_iconst C (v := nI 3) dW_init_152 (by decide) ?_
  refine nr_icmp_ge C (tgt := 181) dW_init_153 (by decide) (fun h => absurd h (by decide)) (fun _ => ?_)
  refine ni_msg C B (i := 4) (r := 1) (n' := 69) (cells' := 68) (slots' := 385) rfl rfl (by decide) (by decide) rfl rfl rfl ⟨by decide, by decide⟩ (fun m41 => ?_)
  refine nr_iinc C (v := nI 2) (vs' := [(3, .int (nI 2)), (2, .int (nI 4)), (0, .ref a), (1, .int x)]) 0 dW_init_175 rfl (by decide) (by decide) rfl ?_
  refine nr_goto C (tgt := 151) dW_init_178 (by decide) ?_
  refine nr_iload_n C 0 dW_init_151 rfl rfl ?_
  refine nr_iconst C (v := nI 3) dW_init_152 (by decide) ?_
  refine nr_icmp_ge C (tgt := 181) dW_init_153 (by decide) (fun h => absurd h (by decide)) (fun _ => ?_)
  refine ni_msg C B (i := 4) (r := 2) (n' := 70) (cells' := 69) (slots' := 391) rfl rfl (by decide) (by decide) rfl rfl rfl ⟨by decide, by decide⟩ (fun m42 => ?_)
  refine nr_iinc C (v := nI 3) (vs' := [(3, .int (nI 3)), (2, .int (nI 4)), (0, .ref a), (1, .int x)]) 0 dW_init_175 rfl (by decide) (by decide) rfl ?_
  refine nr_goto C (tgt := 151) dW_init_178 (by decide) ?_
  refine nr_iload_n C 0 dW_init_151 rfl rfl ?_
  refine nr_iconst C (v := nI 3) dW_init_152 (by decide) ?_
  refine nr_icmp_ge C (tgt := 181) dW_init_153 (by decide) (fun _ => ?_) (fun h => absurd h (by decide))
  refine nr_iinc C (v := nI 5) (vs' := [(2, .int (nI 5)), (3, .int (nI 3)), (0, .ref a), (1, .int x)]) 1 dW_init_181 rfl (by decide) (by decide) rfl ?_
  refine nr_goto C (tgt := 131) dW_init_184 (by decide) ?_
  refine nr_iload_n C 0 dW_init_131 rfl rfl ?_
  refine nr_iconst C (v := nI 5) dW_init_132 (by decide) ?_
  refine nr_icmp_ge C (tgt := 187) dW_init_133 (by decide) (fun _ => ?_) (fun h => absurd h (by decide))
  refine nr_vret C hr hlk dW_init_187 (fun k => if k = 0 then a else if k = 1 then q6 else if k = 2 then q15 else if k = 3 then q23 else if k = 4 then q32 else if k = 5 then s0 0 else if k = 6 then s1 0 else if k = 7 then s2 0 else if k = 8 then k0 0 else if k = 9 then k0 1 else if k = 10 then k0 2 else if k = 11 then k1 0 else if k = 12 then k1 1 else if k = 13 then k1 2 else if k = 14 then k2 0 else if k = 15 then k2 1 else if k = 16 then k2 2 else if k = 17 then k3 0 else if k = 18 then k3 1 else if k = 19 then k3 2 else if k = 20 then k4 0 else if k = 21 then k4 1 else if k = 22 then k4 2 else if k = 23 then k5 0 else if k = 24 then k5 1 else if k = 25 then k5 2 else if k = 26 then k6 0 else if k = 27 then k6 1 else if k = 28 then k6 2 else if k = 29 then k7 0 else if k = 30 then k7 1 else if k = 31 then k7 2 else if k = 32 then k8 0 else if k = 33 then k8 1 else if k = 34 then k8 2 else if k = 35 then t0 0 else if k = 36 then t0 1 else if k = 37 then t0 2 else if k = 38 then t0 3 else if k = 39 then m00 0 else if k = 40 then m01 0 else if k = 41 then m02 0 else if k = 42 then t1 0 else if k = 43 then t1 1 else if k = 44 then t1 2 else if k = 45 then t1 3 else if k = 46 then m10 0 else if k = 47 then m11 0 else if k = 48 then m12 0 else if k = 49 then t2 0 else if k = 50 then t2 1 else if k = 51 then t2 2 else if k = 52 then t2 3 else if k = 53 then m20 0 else if k = 54 then m21 0 else if k = 55 then m22 0 else if k = 56 then t3 0 else if k = 57 then t3 1 else if k = 58 then t3 2 else if k = 59 then t3 3 else if k = 60 then m30 0 else if k = 61 then m31 0 else if k = 62 then m32 0 else if k = 63 then t4 0 else if k = 64 then t4 1 else if k = 65 then t4 2 else if k = 66 then t4 3 else if k = 67 then m40 0 else if k = 68 then m41 0 else if k = 69 then m42 0 else 0) rfl rfl ?_
  refine wn_cs 69 ?_ rfl
  refine wn_cs 68 ?_ rfl
  refine wn_cs 67 ?_ rfl
  refine wn_cs 66 ?_ rfl
  refine wn_cs 65 ?_ rfl
  refine wn_cs 64 ?_ rfl
  refine wn_cs 63 ?_ rfl
  refine wn_cs 62 ?_ rfl
  refine wn_cs 61 ?_ rfl
  refine wn_cs 60 ?_ rfl
  refine wn_cs 59 ?_ rfl
  refine wn_cs 58 ?_ rfl
  refine wn_cs 57 ?_ rfl
  refine wn_cs 56 ?_ rfl
  refine wn_cs 55 ?_ rfl
  refine wn_cs 54 ?_ rfl
  refine wn_cs 53 ?_ rfl
  refine wn_cs 52 ?_ rfl
  refine wn_cs 51 ?_ rfl
  refine wn_cs 50 ?_ rfl
  refine wn_cs 49 ?_ rfl
  refine wn_cs 48 ?_ rfl
  refine wn_cs 47 ?_ rfl
  refine wn_cs 46 ?_ rfl
  refine wn_cs 45 ?_ rfl
  refine wn_cs 44 ?_ rfl
  refine wn_cs 43 ?_ rfl
  refine wn_cs 42 ?_ rfl
  refine wn_cs 41 ?_ rfl
  refine wn_cs 40 ?_ rfl
  refine wn_cs 39 ?_ rfl
  refine wn_cs 38 ?_ rfl
  refine wn_cs 37 ?_ rfl
  refine wn_cs 36 ?_ rfl
  refine wn_cs 35 ?_ rfl
  refine wn_cs 34 ?_ rfl
  refine wn_cs 33 ?_ rfl
  refine wn_cs 32 ?_ rfl
  refine wn_cs 31 ?_ rfl
  refine wn_cs 30 ?_ rfl
  refine wn_cs 29 ?_ rfl
  refine wn_cs 28 ?_ rfl
  refine wn_cs 27 ?_ rfl
  refine wn_cs 26 ?_ rfl
  refine wn_cs 25 ?_ rfl
  refine wn_cs 24 ?_ rfl
  refine wn_cs 23 ?_ rfl
  refine wn_cs 22 ?_ rfl
  refine wn_cs 21 ?_ rfl
  refine wn_cs 20 ?_ rfl
  refine wn_cs 19 ?_ rfl
  refine wn_cs 18 ?_ rfl
  refine wn_cs 17 ?_ rfl
  refine wn_cs 16 ?_ rfl
  refine wn_cs 15 ?_ rfl
  refine wn_cs 14 ?_ rfl
  refine wn_cs 13 ?_ rfl
  refine wn_cs 12 ?_ rfl
  refine wn_cs 11 ?_ rfl
  refine wn_cs 10 ?_ rfl
  refine wn_cs 9 ?_ rfl
  refine wn_cs 8 ?_ rfl
  refine wn_cs 7 ?_ rfl
  refine wn_cs 6 ?_ rfl
  refine wn_cs 5 ?_ rfl
  refine wn_cs 4 ?_ rfl
  refine wn_cs 3 ?_ rfl
  refine wn_cs 2 ?_ rfl
  refine wn_cs 1 ?_ rfl
  refine wn_cs 0 ?_ rfl
  exact fun k hk => absurd hk (Nat.not_lt_zero k)
