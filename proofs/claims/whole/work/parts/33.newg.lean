theorem wn_nlt {x : Int32} (h : 0 ≤ x) : ¬ x < 0 := by
  have := Int32.le_iff_toInt_le.mp h
  intro q
  have := Int32.lt_iff_toInt_lt.mp q
  omega
theorem wn_lt {x : Int32} (h : ¬ 0 ≤ x) : x < 0 := by
  rw [Int32.lt_iff_toInt_lt]
  rw [Int32.le_iff_toInt_le] at h
  omega
theorem wn_cs {P : Nat → Prop} (n : Nat) (h : ∀ k, k < n → P k) (hn : P n) : ∀ k, k < n + 1 → P k := fun k hk => by
  by_cases e : k = n
  · subst e; exact hn
  · exact h k (by omega)
theorem wn_jn_lt {ω : Nat → Nat × va_E} {n k : Nat} {g : Nat → Nat} {E : (Nat → Nat) → Nat → va_E} (h : k < n) : wn_jn ω n g E k = ω k := by
  simp [wn_jn, h]
theorem wn_jn_at {ω : Nat → Nat × va_E} {n : Nat} {g : Nat → Nat} {E : (Nat → Nat) → Nat → va_E} : wn_jn ω n g E n = (g 0, E g 0) := by
  simp [wn_jn]
theorem wn_up_at {ω : Nat → Nat × va_E} {n : Nat} {x : Nat × va_E} : wn_up ω n x n = x := by
  simp [wn_up]
theorem wn_up_ne {ω : Nat → Nat × va_E} {n k : Nat} {x : Nat × va_E} (h : k ≠ n) : wn_up ω n x k = ω k := by
  simp [wn_up, h]
theorem wn_jn_up {ω : Nat → Nat × va_E} {n : Nat} {x : Nat × va_E} {g : Nat → Nat} {E : (Nat → Nat) → Nat → va_E} : wn_jn (wn_up ω n x) n g E = wn_jn ω n g E := by
  funext j
  by_cases h : j < n
  · simp [wn_jn, wn_up, h, show ¬ j = n by omega]
  · simp [wn_jn, h]
def wn_ES (x : Int32) (_ : Nat → Nat) (_ : Nat) : va_E := .inr (1, [.int x, .int x, .int (nI 0), .int (nI 1), .int (nI 0)])
def wn_EK (Γ : wc_G) (g : Nat → Nat) (j : Nat) : va_E := if j = 0 then .inr (2, [.ref (g 1), .ref (g 2), .int (nI 1)]) else .inl (Γ.2.1 0, 4, .inl (fun _ => 0))
def wn_ET (Γ : wc_G) (g : Nat → Nat) (j : Nat) : va_E := if j = 0 then .inr (3, [.int (nI 0), .int (nI 0), .int (nI 0), .int (nI 0), .int (nI 0), .int (nI 0), .int (nI 0), .ref (g 1), .ref (g 2), .ref (g 3)]) else .inl (Γ.2.1 0, if j < 3 then 9 else 3, .inl (fun _ => 0))
def wn_EG (t r : Nat) (_ : Nat → Nat) (_ : Nat) : va_E := .inr (4, [.int (nI t), .int (nI r), .int (nI 0), .int (nI 0), .int (nI 0), .int (nI 0)])
def wn_e3 (x : Int32) : Nat → Int32 := upd (upd (upd (fun _ => 0) 0 x) 1 x) 2 x
def wn_EM (Γ : wc_G) (x : Int32) (g : Nat → Nat) (j : Nat) : va_E := if j = 0 then .inr (5, [.int x, .int 0, .ref (g 1), .ref (g 2), .ref (g 3), .ref (g 4), .ref (g 5), .int 0, .ref (g 6), .ref (g 7), .ref (g 8), .int 0, .ref (g 9), .ref (g 10), .ref (g 11), .ref (g 12), .ref (g 13), .ref (g 14), .ref (g 15), .ref (g 16), .ref (g 17), .ref (g 18), .int 0, .ref (g 19), .ref (g 20)]) else if j = 1 then .inl (Γ.2.1 0, 3, .inl (wn_e3 x)) else if j = 2 then .inl (Γ.2.1 0, 3, .inl (wn_e3 x)) else if j = 3 then .inl (Γ.2.1 0, 3, .inl (fun _ => 0)) else if j = 4 then .inl (Γ.2.1 1, 3, .inl (fun _ => 0)) else if j = 5 then .inl (Γ.2.1 0, 3, .inl (fun _ => 0)) else if j = 6 then .inl (Γ.2.1 0, 512, .inl (fun _ => 0)) else if j = 7 then .inl (Γ.2.1 0, 512, .inl (fun _ => 0)) else if j = 8 then .inl (Γ.2.1 0, 512, .inl (fun _ => 0)) else if j = 9 then .inl (Γ.2.1 0, 5, .inl (fun _ => 0)) else if j = 10 then .inl (Γ.2.1 0, 5, .inl (fun _ => 0)) else if j = 11 then .inl (Γ.2.1 0, 5, .inl (fun _ => 0)) else if j = 12 then .inl (Γ.2.1 0, 5, .inl (fun _ => 0)) else if j = 13 then .inl (Γ.2.1 0, 5, .inl (fun _ => 0)) else if j = 14 then .inl (Γ.2.1 0, 45, .inl (fun _ => 0)) else if j = 15 then .inl (Γ.2.1 1, 45, .inl (fun _ => 0)) else if j = 16 then .inl (Γ.2.1 0, 45, .inl (fun _ => 0)) else if j = 17 then .inl (Γ.2.1 1, 15, .inl (fun _ => 0)) else if j = 18 then .inl (Γ.2.1 0, 15, .inl (fun _ => 0)) else if j = 19 then .inl (Γ.2.1 0, 45, .inl (fun _ => 0)) else if j = 20 then .inl (Γ.2.1 0, 45, .inl (fun _ => 0)) else .inr (5, [])
def wn_clip (x : Int32) : Int32 := if x < 0 then nI 0 else if x ≤ nI 20 then x else nI 20
set_option maxRecDepth 20000 in
theorem ns_S {l : Launch} {Γ : wc_G} {a : Nat} {x : Int32} : wn_M l yS_init cS_init 2 1 0 0 Γ [.ref a, .int x] (a, .inr (1, [.int 0, .int 0, .int 0, .int 0, .int 0])) 1 (wn_ES x) := by
  refine wn_enter RS (by decide) rfl rfl (Nat.le_of_ble_eq_true rfl) (fun p e s m args below meth c A C B hin hr hlk => ?_)
  refine nr_aload_n C 0 dS_init_0 rfl rfl ?_
  refine nr_obj C tw_30 (by decide) (by decide) (Nat.le_of_ble_eq_true rfl) dS_init_1 ?_
  refine nr_aload_n C 0 dS_init_4 rfl rfl ?_
  refine nr_iconst C (v := nI 0) dS_init_5 (by decide) ?_
  refine nr_put C (q := 0) (k := 2) (ty := .int) (fs' := [.int 0, .int 0, .int (nI 0), .int 0, .int 0]) (by decide) rfl rfl (by decide) wl_S tyS tyS_ok nmS rfl (by decide +kernel) (Nat.le_of_ble_eq_true rfl) rfl tw_35 (by first | rfl | decide +kernel) rfl dS_init_6 ?_
  refine nr_aload_n C 0 dS_init_9 rfl rfl ?_
  refine nr_iconst C (v := nI 1) dS_init_10 (by decide) ?_
  refine nr_put C (q := 0) (k := 3) (ty := .boolean) (fs' := [.int 0, .int 0, .int (nI 0), .int (nI 1), .int 0]) (by decide) rfl rfl (by decide) wl_S tyS tyS_ok nmS rfl (by decide +kernel) (Nat.le_of_ble_eq_true rfl) rfl tw_37 (by first | rfl | decide +kernel) rfl dS_init_11 ?_
  refine nr_aload_n C 0 dS_init_14 rfl rfl ?_
  refine nr_iconst C (v := nI 0) dS_init_15 (by decide) ?_
  refine nr_put C (q := 0) (k := 4) (ty := .int) (fs' := [.int 0, .int 0, .int (nI 0), .int (nI 1), .int (nI 0)]) (by decide) rfl rfl (by decide) wl_S tyS tyS_ok nmS rfl (by decide +kernel) (Nat.le_of_ble_eq_true rfl) rfl tw_39 (by first | rfl | decide +kernel) rfl dS_init_16 ?_
  refine nr_aload_n C 0 dS_init_19 rfl rfl ?_
  refine nr_iload_n C 1 dS_init_20 rfl rfl ?_
  refine nr_put C (q := 0) (k := 0) (ty := .int) (fs' := [.int x, .int 0, .int (nI 0), .int (nI 1), .int (nI 0)]) (by decide) rfl rfl (by decide) wl_S tyS tyS_ok nmS rfl (by decide +kernel) (Nat.le_of_ble_eq_true rfl) rfl tw_31 (by first | rfl | decide +kernel) rfl dS_init_21 ?_
  refine nr_aload_n C 0 dS_init_24 rfl rfl ?_
  refine nr_iload_n C 1 dS_init_25 rfl rfl ?_
  refine nr_put C (q := 0) (k := 1) (ty := .int) (fs' := [.int x, .int x, .int (nI 0), .int (nI 1), .int (nI 0)]) (by decide) rfl rfl (by decide) wl_S tyS tyS_ok nmS rfl (by decide +kernel) (Nat.le_of_ble_eq_true rfl) rfl tw_33 (by first | rfl | decide +kernel) rfl dS_init_26 ?_
  refine nr_vret C hr hlk dS_init_29 (fun k => if k = 0 then a else 0) rfl rfl ?_
  refine wn_cs 0 ?_ rfl
  exact fun k hk => absurd hk (Nat.not_lt_zero k)
set_option maxRecDepth 20000 in
theorem ns_K {l : Launch} {Γ : wc_G} {a : Nat}  : wn_M l yK_init cK_init 1 1 2 8 Γ [.ref a] (a, .inr (2, [.null, .null, .int 0])) 3 (wn_EK Γ) := by
  refine wn_enter RK (by decide) rfl rfl (Nat.le_of_ble_eq_true rfl) (fun p e s m args below meth c A C B hin hr hlk => ?_)
  refine nr_aload_n C 0 dK_init_0 rfl rfl ?_
  refine nr_obj C tw_50 (by decide) (by decide) (Nat.le_of_ble_eq_true rfl) dK_init_1 ?_
  refine nr_aload_n C 0 dK_init_4 rfl rfl ?_
  refine nr_iconst C (v := nI 4) dK_init_5 (by decide) ?_
  refine nr_newI C B (N' := 4) (n' := 2) (cells' := 1) (slots' := 4) (by decide) (by decide) (by decide) rfl rfl rfl ⟨by decide, by decide⟩ dK_init_6 (fun q6 => ?_)
  refine nr_putF C (q := 0) (k := 0) (ty := (.array .int)) (fs' := [.ref q6, .null, .int 0]) (by decide) rfl rfl (by decide) wl_K tyK tyK_ok nmK rfl hin rfl (by decide +kernel) (Nat.le_of_ble_eq_true rfl) rfl tw_51 (by first | rfl | decide +kernel) rfl dK_init_8 ?_
  refine nr_aload_n C 0 dK_init_11 rfl rfl ?_
  refine nr_iconst C (v := nI 4) dK_init_12 (by decide) ?_
  refine nr_newI C B (N' := 4) (n' := 3) (cells' := 2) (slots' := 8) (by decide) (by decide) (by decide) rfl rfl rfl ⟨by decide, by decide⟩ dK_init_13 (fun q13 => ?_)
  refine nr_putF C (q := 0) (k := 1) (ty := (.array .int)) (fs' := [.ref q6, .ref q13, .int 0]) (by decide) rfl rfl (by decide) wl_K tyK tyK_ok nmK rfl hin rfl (by decide +kernel) (Nat.le_of_ble_eq_true rfl) rfl tw_53 (by first | rfl | decide +kernel) rfl dK_init_15 ?_
  refine nr_aload_n C 0 dK_init_18 rfl rfl ?_
  refine nr_iconst C (v := nI 1) dK_init_19 (by decide) ?_
  refine nr_put C (q := 0) (k := 2) (ty := .int) (fs' := [.ref q6, .ref q13, .int (nI 1)]) (by decide) rfl rfl (by decide) wl_K tyK tyK_ok nmK rfl (by decide +kernel) (Nat.le_of_ble_eq_true rfl) rfl tw_55 (by first | rfl | decide +kernel) rfl dK_init_20 ?_
  refine nr_vret C hr hlk dK_init_23 (fun k => if k = 0 then a else if k = 1 then q6 else if k = 2 then q13 else 0) rfl rfl ?_
  refine wn_cs 2 ?_ rfl
  refine wn_cs 1 ?_ rfl
  refine wn_cs 0 ?_ rfl
  exact fun k hk => absurd hk (Nat.not_lt_zero k)
set_option maxRecDepth 20000 in
theorem ns_T {l : Launch} {Γ : wc_G} {a : Nat}  : wn_M l yT_init cT_init 1 1 3 21 Γ [.ref a] (a, .inr (3, [.int 0, .int 0, .int 0, .int 0, .int 0, .int 0, .int 0, .null, .null, .null])) 4 (wn_ET Γ) := by
  refine wn_enter RT (by decide) rfl rfl (Nat.le_of_ble_eq_true rfl) (fun p e s m args below meth c A C B hin hr hlk => ?_)
  refine nr_aload_n C 0 dT_init_0 rfl rfl ?_
  refine nr_obj C tw_64 (by decide) (by decide) (Nat.le_of_ble_eq_true rfl) dT_init_1 ?_
  refine nr_aload_n C 0 dT_init_4 rfl rfl ?_
  refine nr_iconst C (v := nI 0) dT_init_5 (by decide) ?_
  refine nr_put C (q := 0) (k := 0) (ty := .int) (fs' := [.int (nI 0), .int 0, .int 0, .int 0, .int 0, .int 0, .int 0, .null, .null, .null]) (by decide) rfl rfl (by decide) wl_T tyT tyT_ok nmT rfl (by decide +kernel) (Nat.le_of_ble_eq_true rfl) rfl tw_65 (by first | rfl | decide +kernel) rfl dT_init_6 ?_
  refine nr_aload_n C 0 dT_init_9 rfl rfl ?_
  refine nr_iconst C (v := nI 0) dT_init_10 (by decide) ?_
  refine nr_put C (q := 0) (k := 1) (ty := .int) (fs' := [.int (nI 0), .int (nI 0), .int 0, .int 0, .int 0, .int 0, .int 0, .null, .null, .null]) (by decide) rfl rfl (by decide) wl_T tyT tyT_ok nmT rfl (by decide +kernel) (Nat.le_of_ble_eq_true rfl) rfl tw_67 (by first | rfl | decide +kernel) rfl dT_init_11 ?_
  refine nr_aload_n C 0 dT_init_14 rfl rfl ?_
  refine nr_iconst C (v := nI 0) dT_init_15 (by decide) ?_
  refine nr_put C (q := 0) (k := 2) (ty := .int) (fs' := [.int (nI 0), .int (nI 0), .int (nI 0), .int 0, .int 0, .int 0, .int 0, .null, .null, .null]) (by decide) rfl rfl (by decide) wl_T tyT tyT_ok nmT rfl (by decide +kernel) (Nat.le_of_ble_eq_true rfl) rfl tw_69 (by first | rfl | decide +kernel) rfl dT_init_16 ?_
  refine nr_aload_n C 0 dT_init_19 rfl rfl ?_
  refine nr_iconst C (v := nI 0) dT_init_20 (by decide) ?_
  refine nr_put C (q := 0) (k := 3) (ty := .int) (fs' := [.int (nI 0), .int (nI 0), .int (nI 0), .int (nI 0), .int 0, .int 0, .int 0, .null, .null, .null]) (by decide) rfl rfl (by decide) wl_T tyT tyT_ok nmT rfl (by decide +kernel) (Nat.le_of_ble_eq_true rfl) rfl tw_71 (by first | rfl | decide +kernel) rfl dT_init_21 ?_
  refine nr_aload_n C 0 dT_init_24 rfl rfl ?_
  refine nr_iconst C (v := nI 0) dT_init_25 (by decide) ?_
  refine nr_put C (q := 0) (k := 4) (ty := .int) (fs' := [.int (nI 0), .int (nI 0), .int (nI 0), .int (nI 0), .int (nI 0), .int 0, .int 0, .null, .null, .null]) (by decide) rfl rfl (by decide) wl_T tyT tyT_ok nmT rfl (by decide +kernel) (Nat.le_of_ble_eq_true rfl) rfl tw_73 (by first | rfl | decide +kernel) rfl dT_init_26 ?_
  refine nr_aload_n C 0 dT_init_29 rfl rfl ?_
  refine nr_iconst C (v := nI 0) dT_init_30 (by decide) ?_
  refine nr_put C (q := 0) (k := 5) (ty := .int) (fs' := [.int (nI 0), .int (nI 0), .int (nI 0), .int (nI 0), .int (nI 0), .int (nI 0), .int 0, .null, .null, .null]) (by decide) rfl rfl (by decide) wl_T tyT tyT_ok nmT rfl (by decide +kernel) (Nat.le_of_ble_eq_true rfl) rfl tw_75 (by first | rfl | decide +kernel) rfl dT_init_31 ?_
  refine nr_aload_n C 0 dT_init_34 rfl rfl ?_
  refine nr_iconst C (v := nI 0) dT_init_35 (by decide) ?_
  refine nr_put C (q := 0) (k := 6) (ty := .int) (fs' := [.int (nI 0), .int (nI 0), .int (nI 0), .int (nI 0), .int (nI 0), .int (nI 0), .int (nI 0), .null, .null, .null]) (by decide) rfl rfl (by decide) wl_T tyT tyT_ok nmT rfl (by decide +kernel) (Nat.le_of_ble_eq_true rfl) rfl tw_77 (by first | rfl | decide +kernel) rfl dT_init_36 ?_
  refine nr_aload_n C 0 dT_init_39 rfl rfl ?_
  refine nr_bipush C (v := nI 9) dT_init_40 (by decide) ?_
  refine nr_newI C B (N' := 9) (n' := 2) (cells' := 1) (slots' := 9) (by decide) (by decide) (by decide) rfl rfl rfl ⟨by decide, by decide⟩ dT_init_42 (fun q42 => ?_)
  refine nr_putF C (q := 0) (k := 7) (ty := (.array .int)) (fs' := [.int (nI 0), .int (nI 0), .int (nI 0), .int (nI 0), .int (nI 0), .int (nI 0), .int (nI 0), .ref q42, .null, .null]) (by decide) rfl rfl (by decide) wl_T tyT tyT_ok nmT rfl hin rfl (by decide +kernel) (Nat.le_of_ble_eq_true rfl) rfl tw_79 (by first | rfl | decide +kernel) rfl dT_init_44 ?_
  refine nr_aload_n C 0 dT_init_47 rfl rfl ?_
  refine nr_bipush C (v := nI 9) dT_init_48 (by decide) ?_
  refine nr_newI C B (N' := 9) (n' := 3) (cells' := 2) (slots' := 18) (by decide) (by decide) (by decide) rfl rfl rfl ⟨by decide, by decide⟩ dT_init_50 (fun q50 => ?_)
  refine nr_putF C (q := 0) (k := 8) (ty := (.array .int)) (fs' := [.int (nI 0), .int (nI 0), .int (nI 0), .int (nI 0), .int (nI 0), .int (nI 0), .int (nI 0), .ref q42, .ref q50, .null]) (by decide) rfl rfl (by decide) wl_T tyT tyT_ok nmT rfl hin rfl (by decide +kernel) (Nat.le_of_ble_eq_true rfl) rfl tw_81 (by first | rfl | decide +kernel) rfl dT_init_52 ?_
  refine nr_aload_n C 0 dT_init_55 rfl rfl ?_
  refine nr_iconst C (v := nI 3) dT_init_56 (by decide) ?_
  refine nr_newI C B (N' := 3) (n' := 4) (cells' := 3) (slots' := 21) (by decide) (by decide) (by decide) rfl rfl rfl ⟨by decide, by decide⟩ dT_init_57 (fun q57 => ?_)
  refine nr_putF C (q := 0) (k := 9) (ty := (.array .int)) (fs' := [.int (nI 0), .int (nI 0), .int (nI 0), .int (nI 0), .int (nI 0), .int (nI 0), .int (nI 0), .ref q42, .ref q50, .ref q57]) (by decide) rfl rfl (by decide) wl_T tyT tyT_ok nmT rfl hin rfl (by decide +kernel) (Nat.le_of_ble_eq_true rfl) rfl tw_83 (by first | rfl | decide +kernel) rfl dT_init_59 ?_
  refine nr_vret C hr hlk dT_init_62 (fun k => if k = 0 then a else if k = 1 then q42 else if k = 2 then q50 else if k = 3 then q57 else 0) rfl rfl ?_
  refine wn_cs 3 ?_ rfl
  refine wn_cs 2 ?_ rfl
  refine wn_cs 1 ?_ rfl
  refine wn_cs 0 ?_ rfl
  exact fun k hk => absurd hk (Nat.not_lt_zero k)
set_option maxRecDepth 20000 in
theorem ns_G {l : Launch} {Γ : wc_G} {a : Nat} {t r : Nat} : wn_M l yG_init cG_init 3 1 0 0 Γ [.ref a, .int (nI t), .int (nI r)] (a, .inr (4, [.int 0, .int 0, .int 0, .int 0, .int 0, .int 0])) 1 (wn_EG t r) := by
  refine wn_enter RG (by decide) rfl rfl (Nat.le_of_ble_eq_true rfl) (fun p e s m args below meth c A C B hin hr hlk => ?_)
  refine nr_aload_n C 0 dG_init_0 rfl rfl ?_
  refine nr_obj C tw_99 (by decide) (by decide) (Nat.le_of_ble_eq_true rfl) dG_init_1 ?_
  refine nr_aload_n C 0 dG_init_4 rfl rfl ?_
  refine nr_iconst C (v := nI 0) dG_init_5 (by decide) ?_
  refine nr_put C (q := 0) (k := 2) (ty := .int) (fs' := [.int 0, .int 0, .int (nI 0), .int 0, .int 0, .int 0]) (by decide) rfl rfl (by decide) wl_G tyG tyG_ok nmG rfl (by decide +kernel) (Nat.le_of_ble_eq_true rfl) rfl tw_104 (by first | rfl | decide +kernel) rfl dG_init_6 ?_
  refine nr_aload_n C 0 dG_init_9 rfl rfl ?_
  refine nr_iconst C (v := nI 0) dG_init_10 (by decide) ?_
  refine nr_put C (q := 0) (k := 3) (ty := .int) (fs' := [.int 0, .int 0, .int (nI 0), .int (nI 0), .int 0, .int 0]) (by decide) rfl rfl (by decide) wl_G tyG tyG_ok nmG rfl (by decide +kernel) (Nat.le_of_ble_eq_true rfl) rfl tw_106 (by first | rfl | decide +kernel) rfl dG_init_11 ?_
  refine nr_aload_n C 0 dG_init_14 rfl rfl ?_
  refine nr_iconst C (v := nI 0) dG_init_15 (by decide) ?_
  refine nr_put C (q := 0) (k := 4) (ty := .int) (fs' := [.int 0, .int 0, .int (nI 0), .int (nI 0), .int (nI 0), .int 0]) (by decide) rfl rfl (by decide) wl_G tyG tyG_ok nmG rfl (by decide +kernel) (Nat.le_of_ble_eq_true rfl) rfl tw_108 (by first | rfl | decide +kernel) rfl dG_init_16 ?_
  refine nr_aload_n C 0 dG_init_19 rfl rfl ?_
  refine nr_iconst C (v := nI 0) dG_init_20 (by decide) ?_
  refine nr_put C (q := 0) (k := 5) (ty := .int) (fs' := [.int 0, .int 0, .int (nI 0), .int (nI 0), .int (nI 0), .int (nI 0)]) (by decide) rfl rfl (by decide) wl_G tyG tyG_ok nmG rfl (by decide +kernel) (Nat.le_of_ble_eq_true rfl) rfl tw_110 (by first | rfl | decide +kernel) rfl dG_init_21 ?_
  refine nr_aload_n C 0 dG_init_24 rfl rfl ?_
  refine nr_iload_n C 1 dG_init_25 rfl rfl ?_
  refine nr_putF C (q := 0) (k := 0) (ty := .int) (fs' := [.int (nI t), .int 0, .int (nI 0), .int (nI 0), .int (nI 0), .int (nI 0)]) (by decide) rfl rfl (by decide) wl_G tyG tyG_ok nmG rfl hin rfl (by decide +kernel) (Nat.le_of_ble_eq_true rfl) rfl tw_100 (by first | rfl | decide +kernel) rfl dG_init_26 ?_
  refine nr_aload_n C 0 dG_init_29 rfl rfl ?_
  refine nr_iload_n C 2 dG_init_30 rfl rfl ?_
  refine nr_putF C (q := 0) (k := 1) (ty := .int) (fs' := [.int (nI t), .int (nI r), .int (nI 0), .int (nI 0), .int (nI 0), .int (nI 0)]) (by decide) rfl rfl (by decide) wl_G tyG tyG_ok nmG rfl hin rfl (by decide +kernel) (Nat.le_of_ble_eq_true rfl) rfl tw_102 (by first | rfl | decide +kernel) rfl dG_init_31 ?_
  refine nr_vret C hr hlk dG_init_34 (fun k => if k = 0 then a else 0) rfl rfl ?_
  refine wn_cs 0 ?_ rfl
  exact fun k hk => absurd hk (Nat.not_lt_zero k)
theorem ni_clip {p : Program} {l : Launch} {e : Env} {R : Room} {s : State} {m : MethodId} {args : Array Value} {below : List Frame} {meth : Method} {c : Code} {cells slots : Nat} {Q : State → Prop} {Γ : wc_G} {A : Nat → Prop} {n : Nat} {ω : Nat → Nat × va_E} {a : Nat} {x : Int32} (C : wc_C p s m args c cM_init 3 RM Γ A)
    (kk : wn_K p l e R s m args below meth c 3 Γ A Q cells slots 178 [(0, .ref a), (1, .int x)] [.int (wn_clip x), .ref a] n ω) : wn_K p l e R s m args below meth c 3 Γ A Q cells slots 158 [(0, .ref a), (1, .int x)] [.ref a] n ω := by
  refine nr_iload_n C 1 dM_init_158 rfl rfl ?_
  refine nr_if_ge C (tgt := 166) dM_init_159 (by decide) (fun h1 => ?_) (fun h1 => ?_)
  · refine nr_iload_n C 1 dM_init_166 rfl rfl ?_
    refine nr_bipush C (v := nI 20) dM_init_167 (by decide) ?_
    refine nr_icmp_le C (tgt := 177) dM_init_169 (by decide) (fun h2 => ?_) (fun h2 => ?_)
    · refine nr_iload_n C 1 dM_init_177 rfl rfl ?_
      have e : wn_clip x = x := by unfold wn_clip; rw [if_neg (show ¬ x < 0 from wn_nlt h1), if_pos h2]
      rw [e] at kk
      exact kk
    · refine nr_bipush C (v := nI 20) dM_init_172 (by decide) ?_
      refine nr_goto C (tgt := 178) dM_init_174 (by decide) ?_
      have e : wn_clip x = nI 20 := by unfold wn_clip; rw [if_neg (show ¬ x < 0 from wn_nlt h1), if_neg h2]
      rw [e] at kk
      exact kk
  · refine nr_iconst C (v := nI 0) dM_init_162 (by decide) ?_
    refine nr_goto C (tgt := 178) dM_init_163 (by decide) ?_
    have e : wn_clip x = nI 0 := by unfold wn_clip; rw [if_pos (show x < 0 from wn_lt h1)]
    rw [e] at kk
    exact kk
set_option maxRecDepth 20000 in
theorem ns_M {l : Launch} {Γ : wc_G} {a : Nat} {x : Int32} : wn_M l yM_init cM_init 3 1 20 1831 Γ [.ref a, .int x] (a, .inr (5, [.int 0, .int 0, .null, .null, .null, .null, .null, .int 0, .null, .null, .null, .int 0, .null, .null, .null, .null, .null, .null, .null, .null, .null, .null, .int 0, .null, .null])) 21 (wn_EM Γ (wn_clip x)) := by
  refine wn_enter RM (by decide) rfl rfl (Nat.le_of_ble_eq_true rfl) (fun p e s m args below meth c A C B hin hr hlk => ?_)
  refine nr_aload_n C 0 dM_init_0 rfl rfl ?_
  refine nr_obj C tw_344 (by decide) (by decide) (Nat.le_of_ble_eq_true rfl) dM_init_1 ?_
  refine nr_aload_n C 0 dM_init_4 rfl rfl ?_
  refine nr_iconst C (v := nI 3) dM_init_5 (by decide) ?_
  refine nr_newI C B (N' := 3) (n' := 2) (cells' := 1) (slots' := 3) (by decide) (by decide) (by decide) rfl rfl rfl ⟨by decide, by decide⟩ dM_init_6 (fun q6 => ?_)
  refine nr_put C (q := 0) (k := 2) (ty := (.array .int)) (fs' := [.int 0, .int 0, .ref q6, .null, .null, .null, .null, .int 0, .null, .null, .null, .int 0, .null, .null, .null, .null, .null, .null, .null, .null, .null, .null, .int 0, .null, .null]) (by decide) rfl rfl (by decide) wl_M tyM tyM_ok nmM rfl (by decide +kernel) (Nat.le_of_ble_eq_true rfl) rfl tw_347 (by first | rfl | decide +kernel) rfl dM_init_8 ?_
  refine nr_aload_n C 0 dM_init_11 rfl rfl ?_
  refine nr_iconst C (v := nI 3) dM_init_12 (by decide) ?_
  refine nr_newI C B (N' := 3) (n' := 3) (cells' := 2) (slots' := 6) (by decide) (by decide) (by decide) rfl rfl rfl ⟨by decide, by decide⟩ dM_init_13 (fun q13 => ?_)
  refine nr_put C (q := 0) (k := 3) (ty := (.array .int)) (fs' := [.int 0, .int 0, .ref q6, .ref q13, .null, .null, .null, .int 0, .null, .null, .null, .int 0, .null, .null, .null, .null, .null, .null, .null, .null, .null, .null, .int 0, .null, .null]) (by decide) rfl rfl (by decide) wl_M tyM tyM_ok nmM rfl (by decide +kernel) (Nat.le_of_ble_eq_true rfl) rfl tw_348 (by first | rfl | decide +kernel) rfl dM_init_15 ?_
  refine nr_aload_n C 0 dM_init_18 rfl rfl ?_
  refine nr_iconst C (v := nI 3) dM_init_19 (by decide) ?_
  refine nr_newI C B (N' := 3) (n' := 4) (cells' := 3) (slots' := 9) (by decide) (by decide) (by decide) rfl rfl rfl ⟨by decide, by decide⟩ dM_init_20 (fun q20 => ?_)
  refine nr_put C (q := 0) (k := 4) (ty := (.array .int)) (fs' := [.int 0, .int 0, .ref q6, .ref q13, .ref q20, .null, .null, .int 0, .null, .null, .null, .int 0, .null, .null, .null, .null, .null, .null, .null, .null, .null, .null, .int 0, .null, .null]) (by decide) rfl rfl (by decide) wl_M tyM tyM_ok nmM rfl (by decide +kernel) (Nat.le_of_ble_eq_true rfl) rfl tw_349 (by first | rfl | decide +kernel) rfl dM_init_22 ?_
  refine nr_aload_n C 0 dM_init_25 rfl rfl ?_
  refine nr_iconst C (v := nI 3) dM_init_26 (by decide) ?_
  refine nr_newZ C B (N' := 3) (n' := 5) (cells' := 4) (slots' := 12) (by decide) (by decide) (by decide) rfl rfl rfl ⟨by decide, by decide⟩ dM_init_27 (fun q27 => ?_)
  refine nr_put C (q := 0) (k := 5) (ty := (.array .boolean)) (fs' := [.int 0, .int 0, .ref q6, .ref q13, .ref q20, .ref q27, .null, .int 0, .null, .null, .null, .int 0, .null, .null, .null, .null, .null, .null, .null, .null, .null, .null, .int 0, .null, .null]) (by decide) rfl rfl (by decide) wl_M tyM tyM_ok nmM rfl (by decide +kernel) (Nat.le_of_ble_eq_true rfl) rfl tw_350 (by first | rfl | decide +kernel) rfl dM_init_29 ?_
  refine nr_aload_n C 0 dM_init_32 rfl rfl ?_
  refine nr_iconst C (v := nI 3) dM_init_33 (by decide) ?_
  refine nr_newI C B (N' := 3) (n' := 6) (cells' := 5) (slots' := 15) (by decide) (by decide) (by decide) rfl rfl rfl ⟨by decide, by decide⟩ dM_init_34 (fun q34 => ?_)
  refine nr_put C (q := 0) (k := 6) (ty := (.array .int)) (fs' := [.int 0, .int 0, .ref q6, .ref q13, .ref q20, .ref q27, .ref q34, .int 0, .null, .null, .null, .int 0, .null, .null, .null, .null, .null, .null, .null, .null, .null, .null, .int 0, .null, .null]) (by decide) rfl rfl (by decide) wl_M tyM tyM_ok nmM rfl (by decide +kernel) (Nat.le_of_ble_eq_true rfl) rfl tw_351 (by first | rfl | decide +kernel) rfl dM_init_36 ?_
  refine nr_aload_n C 0 dM_init_39 rfl rfl ?_
  refine nr_sipush C (v := nI 512) dM_init_40 (by decide) ?_
  refine nr_newI C B (N' := 512) (n' := 7) (cells' := 6) (slots' := 527) (by decide) (by decide) (by decide) rfl rfl rfl ⟨by decide, by decide⟩ dM_init_43 (fun q43 => ?_)
  refine nr_put C (q := 0) (k := 8) (ty := (.array .int)) (fs' := [.int 0, .int 0, .ref q6, .ref q13, .ref q20, .ref q27, .ref q34, .int 0, .ref q43, .null, .null, .int 0, .null, .null, .null, .null, .null, .null, .null, .null, .null, .null, .int 0, .null, .null]) (by decide) rfl rfl (by decide) wl_M tyM tyM_ok nmM rfl (by decide +kernel) (Nat.le_of_ble_eq_true rfl) rfl tw_353 (by first | rfl | decide +kernel) rfl dM_init_45 ?_
  refine nr_aload_n C 0 dM_init_48 rfl rfl ?_
  refine nr_sipush C (v := nI 512) dM_init_49 (by decide) ?_
  refine nr_newI C B (N' := 512) (n' := 8) (cells' := 7) (slots' := 1039) (by decide) (by decide) (by decide) rfl rfl rfl ⟨by decide, by decide⟩ dM_init_52 (fun q52 => ?_)
  refine nr_put C (q := 0) (k := 9) (ty := (.array .int)) (fs' := [.int 0, .int 0, .ref q6, .ref q13, .ref q20, .ref q27, .ref q34, .int 0, .ref q43, .ref q52, .null, .int 0, .null, .null, .null, .null, .null, .null, .null, .null, .null, .null, .int 0, .null, .null]) (by decide) rfl rfl (by decide) wl_M tyM tyM_ok nmM rfl (by decide +kernel) (Nat.le_of_ble_eq_true rfl) rfl tw_354 (by first | rfl | decide +kernel) rfl dM_init_54 ?_
  refine nr_aload_n C 0 dM_init_57 rfl rfl ?_
  refine nr_sipush C (v := nI 512) dM_init_58 (by decide) ?_
  refine nr_newI C B (N' := 512) (n' := 9) (cells' := 8) (slots' := 1551) (by decide) (by decide) (by decide) rfl rfl rfl ⟨by decide, by decide⟩ dM_init_61 (fun q61 => ?_)
  refine nr_put C (q := 0) (k := 10) (ty := (.array .int)) (fs' := [.int 0, .int 0, .ref q6, .ref q13, .ref q20, .ref q27, .ref q34, .int 0, .ref q43, .ref q52, .ref q61, .int 0, .null, .null, .null, .null, .null, .null, .null, .null, .null, .null, .int 0, .null, .null]) (by decide) rfl rfl (by decide) wl_M tyM tyM_ok nmM rfl (by decide +kernel) (Nat.le_of_ble_eq_true rfl) rfl tw_355 (by first | rfl | decide +kernel) rfl dM_init_63 ?_
  refine nr_aload_n C 0 dM_init_66 rfl rfl ?_
  refine nr_iconst C (v := nI 5) dM_init_67 (by decide) ?_
  refine nr_newI C B (N' := 5) (n' := 10) (cells' := 9) (slots' := 1556) (by decide) (by decide) (by decide) rfl rfl rfl ⟨by decide, by decide⟩ dM_init_68 (fun q68 => ?_)
  refine nr_put C (q := 0) (k := 12) (ty := (.array .int)) (fs' := [.int 0, .int 0, .ref q6, .ref q13, .ref q20, .ref q27, .ref q34, .int 0, .ref q43, .ref q52, .ref q61, .int 0, .ref q68, .null, .null, .null, .null, .null, .null, .null, .null, .null, .int 0, .null, .null]) (by decide) rfl rfl (by decide) wl_M tyM tyM_ok nmM rfl (by decide +kernel) (Nat.le_of_ble_eq_true rfl) rfl tw_357 (by first | rfl | decide +kernel) rfl dM_init_70 ?_
  refine nr_aload_n C 0 dM_init_73 rfl rfl ?_
  refine nr_iconst C (v := nI 5) dM_init_74 (by decide) ?_
  refine nr_newI C B (N' := 5) (n' := 11) (cells' := 10) (slots' := 1561) (by decide) (by decide) (by decide) rfl rfl rfl ⟨by decide, by decide⟩ dM_init_75 (fun q75 => ?_)
  refine nr_put C (q := 0) (k := 13) (ty := (.array .int)) (fs' := [.int 0, .int 0, .ref q6, .ref q13, .ref q20, .ref q27, .ref q34, .int 0, .ref q43, .ref q52, .ref q61, .int 0, .ref q68, .ref q75, .null, .null, .null, .null, .null, .null, .null, .null, .int 0, .null, .null]) (by decide) rfl rfl (by decide) wl_M tyM tyM_ok nmM rfl (by decide +kernel) (Nat.le_of_ble_eq_true rfl) rfl tw_358 (by first | rfl | decide +kernel) rfl dM_init_77 ?_
  refine nr_aload_n C 0 dM_init_80 rfl rfl ?_
  refine nr_iconst C (v := nI 5) dM_init_81 (by decide) ?_
  refine nr_newI C B (N' := 5) (n' := 12) (cells' := 11) (slots' := 1566) (by decide) (by decide) (by decide) rfl rfl rfl ⟨by decide, by decide⟩ dM_init_82 (fun q82 => ?_)
  refine nr_put C (q := 0) (k := 14) (ty := (.array .int)) (fs' := [.int 0, .int 0, .ref q6, .ref q13, .ref q20, .ref q27, .ref q34, .int 0, .ref q43, .ref q52, .ref q61, .int 0, .ref q68, .ref q75, .ref q82, .null, .null, .null, .null, .null, .null, .null, .int 0, .null, .null]) (by decide) rfl rfl (by decide) wl_M tyM tyM_ok nmM rfl (by decide +kernel) (Nat.le_of_ble_eq_true rfl) rfl tw_359 (by first | rfl | decide +kernel) rfl dM_init_84 ?_
  refine nr_aload_n C 0 dM_init_87 rfl rfl ?_
  refine nr_iconst C (v := nI 5) dM_init_88 (by decide) ?_
  refine nr_newI C B (N' := 5) (n' := 13) (cells' := 12) (slots' := 1571) (by decide) (by decide) (by decide) rfl rfl rfl ⟨by decide, by decide⟩ dM_init_89 (fun q89 => ?_)
  refine nr_put C (q := 0) (k := 15) (ty := (.array .int)) (fs' := [.int 0, .int 0, .ref q6, .ref q13, .ref q20, .ref q27, .ref q34, .int 0, .ref q43, .ref q52, .ref q61, .int 0, .ref q68, .ref q75, .ref q82, .ref q89, .null, .null, .null, .null, .null, .null, .int 0, .null, .null]) (by decide) rfl rfl (by decide) wl_M tyM tyM_ok nmM rfl (by decide +kernel) (Nat.le_of_ble_eq_true rfl) rfl tw_360 (by first | rfl | decide +kernel) rfl dM_init_91 ?_
  refine nr_aload_n C 0 dM_init_94 rfl rfl ?_
  refine nr_iconst C (v := nI 5) dM_init_95 (by decide) ?_
  refine nr_newI C B (N' := 5) (n' := 14) (cells' := 13) (slots' := 1576) (by decide) (by decide) (by decide) rfl rfl rfl ⟨by decide, by decide⟩ dM_init_96 (fun q96 => ?_)
  refine nr_put C (q := 0) (k := 16) (ty := (.array .int)) (fs' := [.int 0, .int 0, .ref q6, .ref q13, .ref q20, .ref q27, .ref q34, .int 0, .ref q43, .ref q52, .ref q61, .int 0, .ref q68, .ref q75, .ref q82, .ref q89, .ref q96, .null, .null, .null, .null, .null, .int 0, .null, .null]) (by decide) rfl rfl (by decide) wl_M tyM tyM_ok nmM rfl (by decide +kernel) (Nat.le_of_ble_eq_true rfl) rfl tw_361 (by first | rfl | decide +kernel) rfl dM_init_98 ?_
  refine nr_aload_n C 0 dM_init_101 rfl rfl ?_
  refine nr_bipush C (v := nI 45) dM_init_102 (by decide) ?_
  refine nr_newI C B (N' := 45) (n' := 15) (cells' := 14) (slots' := 1621) (by decide) (by decide) (by decide) rfl rfl rfl ⟨by decide, by decide⟩ dM_init_104 (fun q104 => ?_)
  refine nr_put C (q := 0) (k := 17) (ty := (.array .int)) (fs' := [.int 0, .int 0, .ref q6, .ref q13, .ref q20, .ref q27, .ref q34, .int 0, .ref q43, .ref q52, .ref q61, .int 0, .ref q68, .ref q75, .ref q82, .ref q89, .ref q96, .ref q104, .null, .null, .null, .null, .int 0, .null, .null]) (by decide) rfl rfl (by decide) wl_M tyM tyM_ok nmM rfl (by decide +kernel) (Nat.le_of_ble_eq_true rfl) rfl tw_362 (by first | rfl | decide +kernel) rfl dM_init_106 ?_
  refine nr_aload_n C 0 dM_init_109 rfl rfl ?_
  refine nr_bipush C (v := nI 45) dM_init_110 (by decide) ?_
  refine nr_newZ C B (N' := 45) (n' := 16) (cells' := 15) (slots' := 1666) (by decide) (by decide) (by decide) rfl rfl rfl ⟨by decide, by decide⟩ dM_init_112 (fun q112 => ?_)
  refine nr_put C (q := 0) (k := 18) (ty := (.array .boolean)) (fs' := [.int 0, .int 0, .ref q6, .ref q13, .ref q20, .ref q27, .ref q34, .int 0, .ref q43, .ref q52, .ref q61, .int 0, .ref q68, .ref q75, .ref q82, .ref q89, .ref q96, .ref q104, .ref q112, .null, .null, .null, .int 0, .null, .null]) (by decide) rfl rfl (by decide) wl_M tyM tyM_ok nmM rfl (by decide +kernel) (Nat.le_of_ble_eq_true rfl) rfl tw_363 (by first | rfl | decide +kernel) rfl dM_init_114 ?_
  refine nr_aload_n C 0 dM_init_117 rfl rfl ?_
  refine nr_bipush C (v := nI 45) dM_init_118 (by decide) ?_
  refine nr_newI C B (N' := 45) (n' := 17) (cells' := 16) (slots' := 1711) (by decide) (by decide) (by decide) rfl rfl rfl ⟨by decide, by decide⟩ dM_init_120 (fun q120 => ?_)
  refine nr_put C (q := 0) (k := 19) (ty := (.array .int)) (fs' := [.int 0, .int 0, .ref q6, .ref q13, .ref q20, .ref q27, .ref q34, .int 0, .ref q43, .ref q52, .ref q61, .int 0, .ref q68, .ref q75, .ref q82, .ref q89, .ref q96, .ref q104, .ref q112, .ref q120, .null, .null, .int 0, .null, .null]) (by decide) rfl rfl (by decide) wl_M tyM tyM_ok nmM rfl (by decide +kernel) (Nat.le_of_ble_eq_true rfl) rfl tw_364 (by first | rfl | decide +kernel) rfl dM_init_122 ?_
  refine nr_aload_n C 0 dM_init_125 rfl rfl ?_
  refine nr_bipush C (v := nI 15) dM_init_126 (by decide) ?_
  refine nr_newZ C B (N' := 15) (n' := 18) (cells' := 17) (slots' := 1726) (by decide) (by decide) (by decide) rfl rfl rfl ⟨by decide, by decide⟩ dM_init_128 (fun q128 => ?_)
  refine nr_put C (q := 0) (k := 20) (ty := (.array .boolean)) (fs' := [.int 0, .int 0, .ref q6, .ref q13, .ref q20, .ref q27, .ref q34, .int 0, .ref q43, .ref q52, .ref q61, .int 0, .ref q68, .ref q75, .ref q82, .ref q89, .ref q96, .ref q104, .ref q112, .ref q120, .ref q128, .null, .int 0, .null, .null]) (by decide) rfl rfl (by decide) wl_M tyM tyM_ok nmM rfl (by decide +kernel) (Nat.le_of_ble_eq_true rfl) rfl tw_365 (by first | rfl | decide +kernel) rfl dM_init_130 ?_
  refine nr_aload_n C 0 dM_init_133 rfl rfl ?_
  refine nr_bipush C (v := nI 15) dM_init_134 (by decide) ?_
  refine nr_newI C B (N' := 15) (n' := 19) (cells' := 18) (slots' := 1741) (by decide) (by decide) (by decide) rfl rfl rfl ⟨by decide, by decide⟩ dM_init_136 (fun q136 => ?_)
  refine nr_put C (q := 0) (k := 21) (ty := (.array .int)) (fs' := [.int 0, .int 0, .ref q6, .ref q13, .ref q20, .ref q27, .ref q34, .int 0, .ref q43, .ref q52, .ref q61, .int 0, .ref q68, .ref q75, .ref q82, .ref q89, .ref q96, .ref q104, .ref q112, .ref q120, .ref q128, .ref q136, .int 0, .null, .null]) (by decide) rfl rfl (by decide) wl_M tyM tyM_ok nmM rfl (by decide +kernel) (Nat.le_of_ble_eq_true rfl) rfl tw_366 (by first | rfl | decide +kernel) rfl dM_init_138 ?_
  refine nr_aload_n C 0 dM_init_141 rfl rfl ?_
  refine nr_bipush C (v := nI 45) dM_init_142 (by decide) ?_
  refine nr_newI C B (N' := 45) (n' := 20) (cells' := 19) (slots' := 1786) (by decide) (by decide) (by decide) rfl rfl rfl ⟨by decide, by decide⟩ dM_init_144 (fun q144 => ?_)
  refine nr_put C (q := 0) (k := 23) (ty := (.array .int)) (fs' := [.int 0, .int 0, .ref q6, .ref q13, .ref q20, .ref q27, .ref q34, .int 0, .ref q43, .ref q52, .ref q61, .int 0, .ref q68, .ref q75, .ref q82, .ref q89, .ref q96, .ref q104, .ref q112, .ref q120, .ref q128, .ref q136, .int 0, .ref q144, .null]) (by decide) rfl rfl (by decide) wl_M tyM tyM_ok nmM rfl (by decide +kernel) (Nat.le_of_ble_eq_true rfl) rfl tw_368 (by first | rfl | decide +kernel) rfl dM_init_146 ?_
  refine nr_aload_n C 0 dM_init_149 rfl rfl ?_
  refine nr_bipush C (v := nI 45) dM_init_150 (by decide) ?_
  refine nr_newI C B (N' := 45) (n' := 21) (cells' := 20) (slots' := 1831) (by decide) (by decide) (by decide) rfl rfl rfl ⟨by decide, by decide⟩ dM_init_152 (fun q152 => ?_)
  refine nr_put C (q := 0) (k := 24) (ty := (.array .int)) (fs' := [.int 0, .int 0, .ref q6, .ref q13, .ref q20, .ref q27, .ref q34, .int 0, .ref q43, .ref q52, .ref q61, .int 0, .ref q68, .ref q75, .ref q82, .ref q89, .ref q96, .ref q104, .ref q112, .ref q120, .ref q128, .ref q136, .int 0, .ref q144, .ref q152]) (by decide) rfl rfl (by decide) wl_M tyM tyM_ok nmM rfl (by decide +kernel) (Nat.le_of_ble_eq_true rfl) rfl tw_369 (by first | rfl | decide +kernel) rfl dM_init_154 ?_
  refine nr_aload_n C 0 dM_init_157 rfl rfl ?_
  refine ni_clip C ?_
  refine nr_put C (q := 0) (k := 0) (ty := .int) (fs' := [.int (wn_clip x), .int 0, .ref q6, .ref q13, .ref q20, .ref q27, .ref q34, .int 0, .ref q43, .ref q52, .ref q61, .int 0, .ref q68, .ref q75, .ref q82, .ref q89, .ref q96, .ref q104, .ref q112, .ref q120, .ref q128, .ref q136, .int 0, .ref q144, .ref q152]) (by decide) rfl rfl (by decide) wl_M tyM tyM_ok nmM rfl (by decide +kernel) (Nat.le_of_ble_eq_true rfl) rfl tw_345 (by first | rfl | decide +kernel) rfl dM_init_178 ?_
  refine nr_iconst C (v := nI 0) dM_init_181 (by decide) ?_
  refine nr_istore_n C (vs' := [(2, .int (nI 0)), (0, .ref a), (1, .int x)]) dM_init_182 rfl (by decide) rfl ?_
  refine nr_iload_n C 0 dM_init_183 rfl rfl ?_
  refine nr_iconst C (v := nI 3) dM_init_184 (by decide) ?_
  refine nr_icmp_ge C (tgt := 214) dM_init_185 (by decide) (fun h => absurd h (by decide)) (fun _ => ?_)
  refine nr_aload_n C 1 dM_init_188 rfl rfl ?_
  refine nr_get C (q := 0) (k := 2) (by decide) rfl rfl (by decide) wl_M tw_347 rfl dM_init_189 ?_
  refine nr_iload_n C 0 dM_init_192 rfl rfl ?_
  refine nr_aload_n C 1 dM_init_193 rfl rfl ?_
  refine nr_get C (q := 0) (k := 0) (by decide) rfl rfl (by decide) wl_M tw_345 rfl dM_init_194 ?_
  refine nr_ist C (q := 1) (i := 0) (by decide) rfl (by decide) (by decide) dM_init_197 ?_
  refine nr_aload_n C 1 dM_init_198 rfl rfl ?_
  refine nr_get C (q := 0) (k := 3) (by decide) rfl rfl (by decide) wl_M tw_348 rfl dM_init_199 ?_
  refine nr_iload_n C 0 dM_init_202 rfl rfl ?_
  refine nr_aload_n C 1 dM_init_203 rfl rfl ?_
  refine nr_get C (q := 0) (k := 0) (by decide) rfl rfl (by decide) wl_M tw_345 rfl dM_init_204 ?_
  refine nr_ist C (q := 2) (i := 0) (by decide) rfl (by decide) (by decide) dM_init_207 ?_
  refine nr_iinc C (v := nI 1) (vs' := [(2, .int (nI 1)), (0, .ref a), (1, .int x)]) 0 dM_init_208 rfl (by decide) (by decide) rfl ?_
  refine nr_goto C (tgt := 183) dM_init_211 (by decide) ?_
  refine nr_iload_n C 0 dM_init_183 rfl rfl ?_
  refine nr_iconst C (v := nI 3) dM_init_184 (by decide) ?_
  refine nr_icmp_ge C (tgt := 214) dM_init_185 (by decide) (fun h => absurd h (by decide)) (fun _ => ?_)
  refine nr_aload_n C 1 dM_init_188 rfl rfl ?_
  refine nr_get C (q := 0) (k := 2) (by decide) rfl rfl (by decide) wl_M tw_347 rfl dM_init_189 ?_
  refine nr_iload_n C 0 dM_init_192 rfl rfl ?_
  refine nr_aload_n C 1 dM_init_193 rfl rfl ?_
  refine nr_get C (q := 0) (k := 0) (by decide) rfl rfl (by decide) wl_M tw_345 rfl dM_init_194 ?_
  refine nr_ist C (q := 1) (i := 1) (by decide) rfl (by decide) (by decide) dM_init_197 ?_
  refine nr_aload_n C 1 dM_init_198 rfl rfl ?_
  refine nr_get C (q := 0) (k := 3) (by decide) rfl rfl (by decide) wl_M tw_348 rfl dM_init_199 ?_
  refine nr_iload_n C 0 dM_init_202 rfl rfl ?_
  refine nr_aload_n C 1 dM_init_203 rfl rfl ?_
  refine nr_get C (q := 0) (k := 0) (by decide) rfl rfl (by decide) wl_M tw_345 rfl dM_init_204 ?_
  refine nr_ist C (q := 2) (i := 1) (by decide) rfl (by decide) (by decide) dM_init_207 ?_
  refine nr_iinc C (v := nI 2) (vs' := [(2, .int (nI 2)), (0, .ref a), (1, .int x)]) 0 dM_init_208 rfl (by decide) (by decide) rfl ?_
  refine nr_goto C (tgt := 183) dM_init_211 (by decide) ?_
  refine nr_iload_n C 0 dM_init_183 rfl rfl ?_
  refine nr_iconst C (v := nI 3) dM_init_184 (by decide) ?_
  refine nr_icmp_ge C (tgt := 214) dM_init_185 (by decide) (fun h => absurd h (by decide)) (fun _ => ?_)
  refine nr_aload_n C 1 dM_init_188 rfl rfl ?_
  refine nr_get C (q := 0) (k := 2) (by decide) rfl rfl (by decide) wl_M tw_347 rfl dM_init_189 ?_
  refine nr_iload_n C 0 dM_init_192 rfl rfl ?_
  refine nr_aload_n C 1 dM_init_193 rfl rfl ?_
  refine nr_get C (q := 0) (k := 0) (by decide) rfl rfl (by decide) wl_M tw_345 rfl dM_init_194 ?_
  refine nr_ist C (q := 1) (i := 2) (by decide) rfl (by decide) (by decide) dM_init_197 ?_
  refine nr_aload_n C 1 dM_init_198 rfl rfl ?_
  refine nr_get C (q := 0) (k := 3) (by decide) rfl rfl (by decide) wl_M tw_348 rfl dM_init_199 ?_
  refine nr_iload_n C 0 dM_init_202 rfl rfl ?_
  refine nr_aload_n C 1 dM_init_203 rfl rfl ?_
  refine nr_get C (q := 0) (k := 0) (by decide) rfl rfl (by decide) wl_M tw_345 rfl dM_init_204 ?_
  refine nr_ist C (q := 2) (i := 2) (by decide) rfl (by decide) (by decide) dM_init_207 ?_
  refine nr_iinc C (v := nI 3) (vs' := [(2, .int (nI 3)), (0, .ref a), (1, .int x)]) 0 dM_init_208 rfl (by decide) (by decide) rfl ?_
  refine nr_goto C (tgt := 183) dM_init_211 (by decide) ?_
  refine nr_iload_n C 0 dM_init_183 rfl rfl ?_
  refine nr_iconst C (v := nI 3) dM_init_184 (by decide) ?_
  refine nr_icmp_ge C (tgt := 214) dM_init_185 (by decide) (fun _ => ?_) (fun h => absurd h (by decide))
  refine nr_vret C hr hlk dM_init_214 (fun k => if k = 0 then a else if k = 1 then q6 else if k = 2 then q13 else if k = 3 then q20 else if k = 4 then q27 else if k = 5 then q34 else if k = 6 then q43 else if k = 7 then q52 else if k = 8 then q61 else if k = 9 then q68 else if k = 10 then q75 else if k = 11 then q82 else if k = 12 then q89 else if k = 13 then q96 else if k = 14 then q104 else if k = 15 then q112 else if k = 16 then q120 else if k = 17 then q128 else if k = 18 then q136 else if k = 19 then q144 else if k = 20 then q152 else 0) rfl rfl ?_
  refine wn_cs 20 ?_ rfl
  refine wn_cs 19 ?_ rfl
  refine wn_cs 18 ?_ rfl
  refine wn_cs 17 ?_ rfl
  refine wn_cs 16 ?_ rfl
  refine wn_cs 15 ?_ rfl
  refine wn_cs 14 ?_ rfl
  refine wn_cs 13 ?_ rfl
  refine wn_cs 12 ?_ rfl
  refine wn_cs 11 ?_ rfl
  refine wn_cs 10 ?_ rfl
  refine wn_cs 9 ?_ rfl
  refine wn_cs 8 ?_ rfl
  refine wn_cs 7 ?_ rfl
  refine wn_cs 6 ?_ rfl
  refine wn_cs 5 ?_ rfl
  refine wn_cs 4 ?_ rfl
  refine wn_cs 3 ?_ rfl
  refine wn_cs 2 ?_ rfl
  refine wn_cs 1 ?_ rfl
  refine wn_cs 0 ?_ rfl
  exact fun k hk => absurd hk (Nat.not_lt_zero k)
