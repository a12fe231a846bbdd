set_option maxRecDepth 100000 in
set_option maxHeartbeats 0 in
theorem wc_tb_ix : wc_tb = ([46, 47, 48, 49, 50, 51, 52, 53, 54, 55, 56, 57, 58, 59, 60, 61, 62, 64, 66, 68, 70, 71, 72, 73, 74, 75, 76, 77, 78, 79, 80, 81, 82, 83, 84, 85, 86, 87, 88, 89, 90, 91, 93, 95, 97, 99, 102, 103, 104, 105, 106, 107, 108, 109, 110, 111, 112, 113, 115, 117, 121, 122, 123, 124, 125, 126, 127, 128, 129, 130, 131, 132, 133, 134, 135, 136, 137, 138, 139, 140, 141, 142, 143, 144, 145, 146, 148, 150, 152, 154, 156, 158, 160, 162, 164, 167, 168, 169, 170, 171, 172, 173, 174, 175, 176, 177, 178, 179, 180, 181, 182, 183, 184, 186, 188, 190, 192, 194, 197, 198, 199, 200, 201, 202, 203, 204, 205, 206, 208, 210, 212, 214, 216, 218, 220, 222, 225, 226, 227, 228, 229, 230, 231, 232, 234, 235, 236, 237, 238, 239, 240, 241, 242, 243, 244, 245, 246, 247, 248, 249, 250, 251, 252, 253, 254, 256, 257, 258, 260, 261, 262, 263, 264, 265, 266, 268, 269, 270, 271, 272, 273, 275, 276, 277, 278, 279, 280, 281, 282, 283, 284, 285, 286, 288, 289, 290, 292, 293, 294, 295, 296, 297, 298, 299, 300, 301, 302, 303, 305, 306, 307, 309, 310, 311, 313, 314, 315, 316, 318, 319, 320, 322, 323, 324, 326, 327, 328, 329, 330, 331, 332, 333, 334, 335, 336, 337, 339, 340, 341, 343, 344, 345, 346, 348, 349, 350, 351, 353, 354, 355, 356, 357, 358, 359, 360, 362, 363, 364, 366, 367, 368, 370, 371, 372, 374, 375, 376, 378, 379, 380, 382, 383, 384, 386, 387, 388, 390, 391, 392, 394, 395, 396, 397, 398, 400, 401, 402, 404, 405, 406, 408, 409, 410, 412, 413, 414, 415, 416, 417, 418, 419, 420, 421, 422, 423, 424, 425, 426, 427, 428, 429, 430, 431, 432, 433, 434, 435, 436, 437, 438, 439, 440, 441, 442, 443, 444, 445, 446, 447, 448, 449, 450, 451, 452, 453, 454, 455, 456, 457, 458, 459, 460, 461, 462, 463, 464, 465, 466, 467, 468, 469, 470, 471, 472, 473, 474, 475, 476, 477, 478, 479, 480, 481, 482, 483, 484, 485, 486, 487, 488, 489, 491, 493, 495, 497, 499, 501, 503, 505, 507, 509, 511, 513, 515, 517, 519, 521, 523, 525, 527, 529, 531, 533, 535, 537, 541, 542, 543, 544, 545, 546, 547, 548, 549, 550, 551, 552, 553, 554, 555, 556, 557, 558, 559, 560, 562, 563, 564, 566, 567, 568, 570, 571, 572, 573, 574, 575, 576, 578, 579, 580, 582, 583, 584, 586, 587, 588, 590, 591, 592, 593, 595, 596, 597, 598, 599, 600, 601, 602, 603, 604, 605, 606, 607, 608, 609, 611, 612, 613, 615, 616, 617, 619, 620, 621, 623, 624, 625, 626, 627, 628, 629, 631, 632, 633, 635, 636, 637, 639, 640, 641, 643, 644, 645, 646, 647, 648, 649, 650, 651, 652, 653, 654, 655, 656, 657, 658, 659, 660, 661, 662, 663, 664, 665, 666, 667, 668, 669, 670, 671, 672, 673, 674, 675, 676, 677, 678, 679, 680, 681, 682, 683, 684, 685, 686, 687, 688, 689, 690, 0, 1, 2, 3, 4, 5, 6, 7, 8, 9, 10, 11, 12, 13, 14, 15, 16, 17, 18, 19, 20, 21, 22, 23, 24, 25, 26, 27, 28, 29, 30, 31, 32, 33, 34, 35, 36, 37, 38, 39, 40, 41, 42, 43, 44, 45] : List Nat).filterMap (fun i => lw_tbl[i]?) := rfl
theorem wc_tb_lw (w : Cond) (hw : w ∈ wc_tb) : w ∈ lw_tbl := by
  rw [wc_tb_ix, List.mem_filterMap] at hw
  obtain ⟨i, _, h⟩ := hw
  exact List.mem_of_getElem? h
theorem lw_a0 : (Jvm.Cond.arrayClass Jvm.ClassFile.FieldType.int) ∈ lw_tbl := List.mem_of_getElem? (i := 120) (by decide +kernel)
theorem lw_a1 : (Jvm.Cond.arrayClass Jvm.ClassFile.FieldType.boolean) ∈ lw_tbl := List.mem_of_getElem? (i := 540) (by decide +kernel)
theorem lw_a2 : (Jvm.Cond.arrayOver (Jvm.ClassFile.FieldType.object "WaitedCommits$Site")) ∈ lw_tbl := List.mem_of_getElem? (i := 63) (by decide +kernel)
theorem lw_a3 : (Jvm.Cond.arrayOver (Jvm.ClassFile.FieldType.object "WaitedCommits$Key")) ∈ lw_tbl := List.mem_of_getElem? (i := 65) (by decide +kernel)
theorem lw_a4 : (Jvm.Cond.arrayOver (Jvm.ClassFile.FieldType.object "WaitedCommits$Transaction")) ∈ lw_tbl := List.mem_of_getElem? (i := 67) (by decide +kernel)
theorem lw_a5 : (Jvm.Cond.arrayOver (Jvm.ClassFile.FieldType.object "WaitedCommits$Message")) ∈ lw_tbl := List.mem_of_getElem? (i := 69) (by decide +kernel)
theorem lw_B {s : State} {args : Array Value} (hts : ∀ w ∈ lw_tbl, w.before args s = true) : wn_B s :=
  ⟨⟨hts _ lw_a0, hts _ lw_a1⟩, hts _ lw_a2, hts _ lw_a3, hts _ lw_a4, hts _ lw_a5⟩
theorem wk_known {s : State} {args : Array Value} (htb : ∀ w ∈ wc_tb, w.before args s = true) (hB : wn_B s) : ∃ Γ : wc_G, va_K Γ.1 vwCl (wc_tys Γ) s := by
  obtain ⟨c0, i0, k0⟩ := u_known htb wl_W (htb _ tw_9)
  obtain ⟨c1, i1, k1⟩ := u_known htb wl_S (htb _ tw_26)
  obtain ⟨c2, i2, k2⟩ := u_known htb wl_K (htb _ tw_46)
  obtain ⟨c3, i3, k3⟩ := u_known htb wl_T (htb _ tw_60)
  obtain ⟨c4, i4, k4⟩ := u_known htb wl_G (htb _ tw_95)
  obtain ⟨c5, i5, k5⟩ := u_known htb wl_M (htb _ tw_340)
  obtain ⟨a0, b0, d0, f0, g0, h0⟩ := Cond.arrayClass_spec hB.1.1
  obtain ⟨a1, b1, d1, f1, g1, h1⟩ := Cond.arrayClass_spec hB.1.2
  obtain ⟨d2, a2, b2, f2, _, g2, h2, j2⟩ := Cond.arrayOver_spec hB.2.1
  obtain ⟨d3, a3, b3, f3, _, g3, h3, j3⟩ := Cond.arrayOver_spec hB.2.2.1
  obtain ⟨d4, a4, b4, f4, _, g4, h4, j4⟩ := Cond.arrayOver_spec hB.2.2.2.1
  obtain ⟨d5, a5, b5, f5, _, g5, h5, j5⟩ := Cond.arrayOver_spec hB.2.2.2.2
  refine ⟨((fun i => if i = 0 then c0 else if i = 1 then c1 else if i = 2 then c2 else if i = 3 then c3 else if i = 4 then c4 else c5, fun i => if i = 0 then i0 else if i = 1 then i1 else if i = 2 then i2 else if i = 3 then i3 else if i = 4 then i4 else i5), (fun i => if i = 0 then a0 else if i = 1 then a1 else if i = 2 then a2 else if i = 3 then a3 else if i = 4 then a4 else a5), fun _ => 0), fun c q h => ?_, fun k q h => ?_⟩
  · rcases c with _ | _ | _ | _ | _ | _ | c
    · have e := Option.some.inj (show some (RW, TW, 9) = some q from h)
      subst e
      exact k0
    · have e := Option.some.inj (show some (RS, TS, 5) = some q from h)
      subst e
      exact k1
    · have e := Option.some.inj (show some (RK, TK, 3) = some q from h)
      subst e
      exact k2
    · have e := Option.some.inj (show some (RT, TT, 10) = some q from h)
      subst e
      exact k3
    · have e := Option.some.inj (show some (RG, TG, 6) = some q from h)
      subst e
      exact k4
    · have e := Option.some.inj (show some (RM, TM, 25) = some q from h)
      subst e
      exact k5
    · exact absurd h (by simp)
  · rcases k with _ | _ | _ | _ | _ | _ | k
    · have e := Option.some.inj (show some (a0, (.int : FieldType)) = some q from h)
      subst e
      exact ⟨fun n z => ⟨fun k h => (by cases h), b0, g0, d0, h0⟩, f0⟩
    · have e := Option.some.inj (show some (a1, (.boolean : FieldType)) = some q from h)
      subst e
      exact ⟨fun n z => ⟨fun k h => (by cases h), b1, g1, d1, h1⟩, f1⟩
    · have e := Option.some.inj (show some (a2, (.object "WaitedCommits$Site" : FieldType)) = some q from h)
      subst e
      exact ⟨fun n z => ⟨fun k h => (by cases h), b2, g2, d2, h2⟩, b2, d2, g2, h2, f2, j2⟩
    · have e := Option.some.inj (show some (a3, (.object "WaitedCommits$Key" : FieldType)) = some q from h)
      subst e
      exact ⟨fun n z => ⟨fun k h => (by cases h), b3, g3, d3, h3⟩, b3, d3, g3, h3, f3, j3⟩
    · have e := Option.some.inj (show some (a4, (.object "WaitedCommits$Transaction" : FieldType)) = some q from h)
      subst e
      exact ⟨fun n z => ⟨fun k h => (by cases h), b4, g4, d4, h4⟩, b4, d4, g4, h4, f4, j4⟩
    · have e := Option.some.inj (show some (a5, (.object "WaitedCommits$Message" : FieldType)) = some q from h)
      subst e
      exact ⟨fun n z => ⟨fun k h => (by cases h), b5, g5, d5, h5⟩, b5, d5, g5, h5, f5, j5⟩
    · exact absurd h (by simp [wc_tys])
def wn_x0 (L : Nat) (xs : Nat → Int32) : Int32 := if L = 0 then nI 0 else xs 0
def lw_cP (b L : Nat) (xs : Nat → Int32) (sz : Nat) (U : State) : Prop := U.heap.size = sz ∧ va_X b L xs U U.heap ∧ b < sz ∧ L < 2 ^ 31
def lw_cQ (v : Int32) : Array Value → State → Outcome → State → Prop := fun _ st oc t => oc = .returned (some (.int v)) ∧ va_F (fun _ => False) st t
theorem ns_cell (l : Launch) (b L : Nat) (xs : Nat → Int32) (sz : Nat) : Met l yL_cell [Cond.code yL_cell cL_cell 2 (some .int)] (wn_rm 0 0 0) (va_Pc [.ref b, .int (nI 0)] (lw_cP b L xs sz)) (lw_cQ (wn_x0 L xs)) 0 0 (fun _ => False) := by
  refine Met.ofW (cc := cL_cell) (maxL := 2) (ret := some .int) (by decide) rfl ?_
  intro p e s m args below meth c s₁ B hml hv
  obtain ⟨rfl, hsz, hX, hb, hL⟩ := hv
  subst hsz
  rw [lg_entry_eq]
  have hl := lv_entry [Value.ref b, Value.int (nI 0)] (n := 2) (Nat.le_of_ble_eq_true rfl)
  have hS : va_S (fun _ => False) s.heap s.heap [] := va_S.rf
  have hr := B.returns
  have hlk := B.notSynchronized
  refine lv_iload_n B.exec B.bytes dL_cell_0 rfl (lv_at hl 1 rfl) ?_
  refine lv_aload_n B.exec B.bytes dL_cell_1 rfl (lv_at hl 0 rfl) ?_
  refine va_slen B.exec B.bytes hX hb (fun h => h) hS dL_cell_2 ?_
  refine lv_icmp_ge (tgt := 12) B.exec B.bytes dL_cell_3 (by decide) (fun h => ?_) (fun h => ?_)
  · refine lv_iconst (v := nI 0) B.exec B.bytes dL_cell_12 (by decide) ?_
    have e0 : wn_x0 L xs = nI 0 := if_pos (by have := (nI_leI (a := L) (b := 0) hL (by decide)).mp h; omega)
    rw [e0]
    exact W.iret B.exec B.bytes hr (fun t ht _ => ⟨rfl, hS.F ht⟩) hS.2.2 dL_cell_13 hlk
  · have hp : 0 < L := Nat.pos_of_ne_zero (fun q => h (by rw [q]; decide))
    have e0 : wn_x0 L xs = xs 0 := if_neg (by omega)
    rw [e0]
    refine lv_aload_n B.exec B.bytes dL_cell_6 rfl (lv_at hl 0 rfl) ?_
    refine lv_iload_n B.exec B.bytes dL_cell_7 rfl (lv_at hl 1 rfl) ?_
    refine va_sld B.exec B.bytes hX hb (fun h => h) hS (vp_in_nI hp hL) dL_cell_8 ?_
    rw [nI_clamp (by decide)]
    refine lv_goto (tgt := 13) B.exec B.bytes dL_cell_9 (by decide) ?_
    exact W.iret B.exec B.bytes hr (fun t ht _ => ⟨rfl, hS.F ht⟩) hS.2.2 dL_cell_13 hlk
theorem nr_cell {p : Program} {l : Launch} {e : Env} {R : Room} {s : State} {m : MethodId} {args : Array Value} {below : List Frame} {meth : Method} {c : Code} {cells slots : Nat} {Q : State → Prop} {nL : Nat} {Γ : wc_G} {A : Nat → Prop} {cc : ByteArray} {pc : Nat} {vs : List (Nat × Value)} {st : List Value} {n : Nat} {ω : Nat → Nat × va_E} (C : wc_C p s m args c cc nL "WaitedCommitsLaw" Γ A) {b L : Nat} {xs : Nat → Int32} (hX : va_X b L xs s s.heap) (hbl : b < s.heap.size) (hbA : ¬ A b) (hL : L < 2 ^ 31) (hR : 1 ≤ R.frames ∧ 40 ≤ R.locals) (hsum : (st.map fun v => v.category).sum ≤ 8) (hcs : cells ≤ R.cells ∧ slots ≤ R.slots) (hd : decode cc pc = .ok (.invokestatic 9, 3))
    (kk : wn_K p l e R s m args below meth c nL Γ A Q cells slots (pc + 3) (vs) (.int (wn_x0 L xs) :: st) n ω) : wn_K p l e R s m args below meth c nL Γ A Q cells slots (pc) (vs) (.int (nI 0) :: .ref b :: st) n ω := by
  intro ls H locs hl hP hD hS
  obtain ⟨c1, c2, c3, c4, c5⟩ := cb_L_cell
  have hRm : (wn_rm 0 0 0).frames + 1 ≤ R.frames ∧ 8 + (2 + 11) + (wn_rm 0 0 0).locals ≤ R.locals := ⟨hR.1, by show 8 + (2 + 11) + 40 * 0 ≤ R.locals; omega⟩
  have hXH : va_X b L xs s H := hX.kept (hS.2.1 b hbl hbA)
  have hp : PreS s H (va_Pc [.ref b, .int (nI 0)] (lw_cP b L xs H.size)) [.ref b, .int (nI 0)] := ⟨fun a U g mk q => by
    obtain ⟨q0, q1, qX, q2, q3⟩ := q
    exact ⟨q0, q1, va_X.moved (u := U) (U := U.calling g mk a) (Vm.Alike.refl U.vm) qX, q2, q3⟩, fun U hU hW => ⟨rfl, by rw [hU], by rw [hU]; exact va_X.moved hW.alike hXH, Nat.lt_of_lt_of_le hbl hS.1, hL⟩⟩
  have hr : va_Run p l e R s m args below meth c H locs cells slots 0 0 (F0 m pc ls (.int (nI 0) :: .ref b :: st)) st (lw_cQ (wn_x0 L xs) [Value.ref b, Value.int (nI 0)].toArray) (fun _ => False) :=
    va_runS C.1 (ns_cell l b L xs H.size) ⟨callB_of 2 C.1.2.2.2.2 (wc_good c1) rfl rfl rfl (C.1.2.2.2.2 _ c2) (C.1.2.2.2.2 _ tw_336) ⟨c3, c4, c5⟩ hRm, C.1.2.2.2.2 _ tw_337⟩ hp rfl rfl hl.1 rfl (lv_room hsum) hd hcs
  intro T hT Y
  obtain ⟨v', st₀, t, T', L', h0, Y', hL', e1, e2, ⟨hv, hz, hk⟩, stp⟩ := hr T hT Y
  cases hv
  rw [h0] at hz hk
  obtain ⟨t2, a1, b1⟩ := kk ls T'.heap (locs ++ L') hl (by rw [e1]; exact hP.kept (fun k q h => hk q.1 ((hP k q h).lt) (fun z => z))) hD
    ⟨Nat.le_trans hS.1 (by rw [e1]; exact hz), fun q h1 h2 => by rw [e1, hk q (Nat.lt_of_lt_of_le h1 hS.1) (fun z => z)]; exact hS.2.1 q h1 h2, fun q hq => by
      rcases List.mem_append.mp hq with h | h
      · exact hS.2.2 q h
      · exact absurd (hL' q h) (fun z => z)⟩ T' rfl Y'
  exact ⟨t2, stp t2 a1, b1⟩
set_option maxRecDepth 20000 in
theorem whole_start {p : Program} {e : Env} {s : State} {m : MethodId} {below : List Frame} {meth : Method} {c : Code} (l : Launch) {b L : Nat} {xs : Nat → Int32} (hL : L ≤ 2049) (C0 : lw_At p s m meth c b L xs) : W p l e room_1 s m #[Value.ref b] below meth c s.heap [] 0 0 (lw_Z below #[Value.ref b] s) (entryFrame m ([Value.ref b] : List Value).toArray 4) := by
  obtain ⟨hx, hb, hr, hml, hown, hts, hX, hbl, hlk, hgv⟩ := C0
  have htb : ∀ w ∈ wc_tb, w.before #[Value.ref b] s = true := fun w hw => hts w (wc_tb_lw w hw)
  have B : wn_B s := lw_B hts
  obtain ⟨Γ, hK⟩ := wk_known htb B
  have hbA : ¬ s.heap.size ≤ b := by omega
  have C : wc_C p s m #[Value.ref b] c code 4 "WaitedCommitsLaw" Γ (fun q => s.heap.size ≤ q) := ⟨⟨hx, hb, hml, hown, htb⟩, hK, fun q h => h⟩
  rw [lg_entry_eq]
  refine (?_ : wn_K p l e room_1 s m #[Value.ref b] below meth c 4 Γ (fun q => s.heap.size ≤ q) (lw_Z below #[Value.ref b] s) 0 0 0 [(0, .ref b)] [] 0 (fun _ => (0, .inr (0, [])))) _ _ _ (lv_entry [Value.ref b] (Nat.le_of_ble_eq_true rfl)) (fun k q h => absurd (wn_lk h).1 (Nat.not_lt_zero k)) ⟨fun i j p q hi hj _ => absurd (wn_lk hi).1 (Nat.not_lt_zero i), fun k q h => absurd (wn_lk h).1 (Nat.not_lt_zero k)⟩ va_S.rf
  refine nr_new C (fs := [.int 0, .null, .null, .null, .null, .int 0, .int 0, .int 0, .int 0]) (n' := 1) (cells' := 1) (slots' := 9) (ci := 0) wl_W tyW tyW_ok tw_8 tw_9 tw_1 rfl (by decide) rfl rfl rfl ⟨by decide, by decide⟩ dL_law_0 (fun q => ?_)
  refine nr_dup C dL_law_3 rfl ?_
  refine nr_aload_n C 0 dL_law_4 rfl rfl ?_
  refine nr_iconst C (v := nI 0) dL_law_5 (by decide) ?_
  refine nr_cell C hX hbl hbA (by omega) ⟨by decide, by decide⟩ (Nat.le_of_ble_eq_true rfl) ⟨by decide, by decide⟩ dL_law_6 ?_
  have nW : ∀ a : Nat, wn_M l yW_init cW_init 4 2 69 391 Γ [.ref a, .int (wn_x0 L xs)] (a, .inr (0, [.int 0, .null, .null, .null, .null, .int 0, .int 0, .int 0, .int 0])) 70 (wn_EW Γ (wn_clip (wn_x0 L xs))) := by
    intro a
    rw [← (wi_x (wn_x0 L xs)).1]
    exact ns_W
  refine nr_ctor C B (n := 0) (As := [.int (wn_x0 L xs)]) (n1 := 70) (n' := 70) (rest := [.ref q]) (cells' := 70) (slots' := 400) (d := 2) (mc := 69) (ms := 391) (nW q) cb_W_init (Or.inl tw_10) rfl tw_11 wn_up_at rfl rfl rfl ⟨by decide, by decide⟩ ⟨by decide, by decide⟩ (by decide) rfl rfl (Nat.le_of_ble_eq_true rfl) dL_law_9 (fun g hg => ?_)
  subst hg
  refine nr_astore_n C (vs' := [(1, .ref (g 0)), (0, .ref b)]) dL_law_12 rfl (by decide) rfl ?_
  refine nr_new C (fs := [.int 0, .int 0, .null, .null, .null, .null, .null, .int 0, .null, .null, .null, .int 0, .null, .null, .null, .null, .null, .null, .null, .null, .null, .null, .int 0, .null, .null]) (n' := 71) (cells' := 71) (slots' := 425) (ci := 5) wl_M tyM tyM_ok tw_339 tw_340 tw_7 rfl (by decide) rfl rfl rfl ⟨by decide, by decide⟩ dL_law_13 (fun q => ?_)
  refine nr_dup C dL_law_16 rfl ?_
  refine nr_aload_n C 1 dL_law_17 rfl rfl ?_
  refine nr_iconst C (v := nI 0) dL_law_18 (by decide) ?_
  refine nr_cell C hX hbl hbA (by omega) ⟨by decide, by decide⟩ (Nat.le_of_ble_eq_true rfl) ⟨by decide, by decide⟩ dL_law_19 ?_
  refine nr_ctor C B (n := 70) (As := [.int (wn_x0 L xs)]) (n1 := 21) (n' := 91) (rest := [.ref q]) (cells' := 91) (slots' := 2256) (d := 1) (mc := 20) (ms := 1831) (ns_M (x := wn_x0 L xs)) cb_M_init (Or.inl tw_341) rfl tw_342 wn_up_at rfl rfl rfl ⟨by decide, by decide⟩ ⟨by decide, by decide⟩ (by decide) rfl rfl (Nat.le_of_ble_eq_true rfl) dL_law_22 (fun h hh => ?_)
  subst hh
  rw [wn_jn_up]
  refine nr_astore_n C (vs' := [(2, .ref (h 0)), (1, .ref (g 0)), (0, .ref b)]) dL_law_25 rfl (by decide) rfl ?_
  refine nr_iconst C (v := nI 1) dL_law_26 (by decide) ?_
  refine nr_istore_n C (vs' := [(3, .int (nI 1)), (2, .ref (h 0)), (1, .ref (g 0)), (0, .ref b)]) dL_law_27 rfl (by decide) rfl ?_
  refine nr_toK ?_
  exact lw_loop (Γ := wi_Γ Γ (wn_clip (wn_x0 L xs)) (wn_up (fun _ => (0, .inr (0, []))) 0 (g 0, .inr (0, [.int 0, .null, .null, .null, .null, .int 0, .int 0, .int 0, .int 0]))) g h) (xs := xs) (L := L) ⟨⟨C.1, C.2.1, C.2.2⟩, hX, hbl, hL, hr, hlk⟩ L 0 _ _ (by omega) (wi_J (wi_x (wn_x0 L xs)).2) (by omega)
