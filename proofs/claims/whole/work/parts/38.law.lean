theorem wr_sld {p : Program} {l : Launch} {e : Env} {R : Room} {s : State} {m : MethodId} {args : Array Value} {below : List Frame} {meth : Method} {c : Code} {cells slots : Nat} {Q : State → Prop} {nL : Nat} {Γ : wc_G} {A : Nat → Prop} {cc : ByteArray} {own : String} {pc : Nat} {vs : List (Nat × Value)} {st : List Value} {σ μ : wc_St} (C : wc_C p s m args c cc nL own Γ A) {b L i : Nat} {xs : Nat → Int32} (hX : va_X b L xs s s.heap) (hbl : b < s.heap.size) (hbA : ¬ A b) (hi : i < L) (hL : L < 2 ^ 31) (hd : decode cc pc = .ok (.iaload, 1))
    (kk : wc_K p l e R s m args below meth c nL Γ A Q cells slots (pc + 1) (vs) (.int (xs i) :: st) σ μ) : wc_K p l e R s m args below meth c nL Γ A Q cells slots (pc) (vs) (.int (nI i) :: .ref b :: st) σ μ :=
  fun ls H locs hl hP hD hS => va_sld C.1.1 C.1.2.1 hX hbl hbA hS (vp_in_nI hi hL) hd (by rw [nI_clamp (by omega)]; exact kk ls H locs hl hP hD hS)
theorem wr_slen {p : Program} {l : Launch} {e : Env} {R : Room} {s : State} {m : MethodId} {args : Array Value} {below : List Frame} {meth : Method} {c : Code} {cells slots : Nat} {Q : State → Prop} {nL : Nat} {Γ : wc_G} {A : Nat → Prop} {cc : ByteArray} {own : String} {pc : Nat} {vs : List (Nat × Value)} {st : List Value} {σ μ : wc_St} (C : wc_C p s m args c cc nL own Γ A) {b L : Nat} {xs : Nat → Int32} (hX : va_X b L xs s s.heap) (hbl : b < s.heap.size) (hbA : ¬ A b) (hd : decode cc pc = .ok (.arraylength, 1))
    (kk : wc_K p l e R s m args below meth c nL Γ A Q cells slots (pc + 1) (vs) (.int (nI L) :: st) σ μ) : wc_K p l e R s m args below meth c nL Γ A Q cells slots (pc) (vs) (.ref b :: st) σ μ :=
  fun ls H locs hl hP hD hS => va_slen C.1.1 C.1.2.1 hX hbl hbA hS hd (kk ls H locs hl hP hD hS)
theorem wr_tabIn {p : Program} {l : Launch} {e : Env} {R : Room} {s : State} {m : MethodId} {args : Array Value} {below : List Frame} {meth : Method} {c : Code} {cells slots : Nat} {Q : State → Prop} {nL : Nat} {Γ : wc_G} {A : Nat → Prop} {cc : ByteArray} {own : String} {pc : Nat} {vs : List (Nat × Value)} {st : List Value} {σ μ : wc_St} (C : wc_C p s m args c cc nL own Γ A) {dflt lo hi off : Int} {offs : Array Int} {len tgt : Nat} {x : Int32} (hd : decode cc pc = .ok (.tableswitch dflt lo hi offs, len)) (h1 : ¬ x.toInt < lo) (h2 : ¬ hi < x.toInt) (ho : offs[(x.toInt - lo).toNat]? = some off) (ht : (pc : Int) + off = (tgt : Int))
    (kk : wc_K p l e R s m args below meth c nL Γ A Q cells slots (tgt) (vs) (st) σ μ) : wc_K p l e R s m args below meth c nL Γ A Q cells slots (pc) (vs) (.int x :: st) σ μ :=
  fun ls H locs hl hP hD hS => lv_tableIn C.1.1 C.1.2.1 hd h1 h2 ho ht (kk ls H locs hl hP hD hS)
theorem wr_tabOut {p : Program} {l : Launch} {e : Env} {R : Room} {s : State} {m : MethodId} {args : Array Value} {below : List Frame} {meth : Method} {c : Code} {cells slots : Nat} {Q : State → Prop} {nL : Nat} {Γ : wc_G} {A : Nat → Prop} {cc : ByteArray} {own : String} {pc : Nat} {vs : List (Nat × Value)} {st : List Value} {σ μ : wc_St} (C : wc_C p s m args c cc nL own Γ A) {dflt lo hi : Int} {offs : Array Int} {len tgt : Nat} {x : Int32} (hd : decode cc pc = .ok (.tableswitch dflt lo hi offs, len)) (h : x.toInt < lo ∨ hi < x.toInt) (ht : (pc : Int) + dflt = (tgt : Int))
    (kk : wc_K p l e R s m args below meth c nL Γ A Q cells slots (tgt) (vs) (st) σ μ) : wc_K p l e R s m args below meth c nL Γ A Q cells slots (pc) (vs) (.int x :: st) σ μ :=
  fun ls H locs hl hP hD hS => lv_tableOut C.1.1 C.1.2.1 hd h ht (kk ls H locs hl hP hD hS)
theorem lw_cmp (v : Int64) : lg_cmp v v = 0 := by
  simp [lg_cmp]
theorem lw_more {L i : Nat} (hL : L ≤ 2049) (hi : i < 2 ^ 20) (h : ¬ nI L - nI 4 < nI i) : i + 4 ≤ L := by
  rw [Int32.lt_iff_toInt_lt, Int32.toInt_sub, nI_toInt (n := L) (by omega), nI_toInt (n := 4) (by decide), nI_toInt (n := i) (by omega), Int.bmod_eq_of_le (by omega) (by omega)] at h
  omega
/-- what the loop stands on -/
def lw_C (p : Program) (s : State) (m : MethodId) (meth : Method) (c : Code) (Γ : wc_G) (b L : Nat) (xs : Nat → Int32) : Prop :=
  wc_C p s m #[Value.ref b] c code 4 "WaitedCommitsLaw" Γ (fun q => s.heap.size ≤ q) ∧ va_X b L xs s s.heap ∧ b < s.heap.size ∧ L ≤ 2049 ∧ meth.sig.returnType = ret ∧ meth.locks = false
abbrev lw_K (p : Program) (l : Launch) (e : Env) (s : State) (m : MethodId) (below : List Frame) (meth : Method) (c : Code) (Γ : wc_G) (b pc i : Nat) (st : List Value) (σ μ : wc_St) : Prop :=
  wc_K p l e room_1 s m #[Value.ref b] below meth c 4 Γ (fun q => s.heap.size ≤ q) (lw_Z below #[Value.ref b] s) 91 2256 pc [(3, .int (nI i)), (2, .ref (Γ.2.2 70)), (1, .ref (Γ.2.2 0)), (0, .ref b)] st σ μ
theorem lw_fin {p : Program} {l : Launch} {e : Env} {s : State} {m : MethodId} {below : List Frame} {meth : Method} {c : Code} {Γ : wc_G} {b : Nat} {σ μ : wc_St} {i : Nat} (C : wc_C p s m #[Value.ref b] c code 4 "WaitedCommitsLaw" Γ (fun q => s.heap.size ≤ q)) (hr : meth.sig.returnType = ret) (hlk : meth.locks = false) : lw_K p l e s m below meth c Γ b 690 (i) [] σ μ := by
  refine wr_iconst C (v := 1) dL_law_690 (by decide) ?_
  intro ls H locs hl hP hD hS
  exact va_forget hS.2.2 (W.widen (by decide) (by decide) (lw_ret C.1.1 C.1.2.1 hr hlk dL_law_691))
set_option maxRecDepth 4000 in
theorem lc_clock {p : Program} {l : Launch} {e : Env} {s : State} {m : MethodId} {below : List Frame} {meth : Method} {c : Code} {Γ : wc_G} {b L : Nat} {xs : Nat → Int32} {n : Nat} {σ μ : wc_St} (C0 : lw_C p s m meth c Γ b L xs) (hi : 4 * n + 1 + 4 ≤ L) (hJ : sj_J n σ μ) (hnext : ∀ σ' μ' : wc_St, sj_J (n + 1) σ' μ' → lw_K p l e s m below meth c Γ b 684 (4 * n + 1) [] σ' μ') : lw_K p l e s m below meth c Γ b 136 (4 * n + 1) [] σ μ := by
  obtain ⟨C, hX, hbl, hL, hr, hlk⟩ := C0
  have hbA : ¬ s.heap.size ≤ b := by omega
  obtain ⟨v, σ', μ', hw, hm, hJ'⟩ := lj_clock l Γ hJ (by omega) (xs (4 * n + 1 + 1)) (xs (4 * n + 1 + 2)) (xs (4 * n + 1 + 3))
  refine wr_aload_n C 2 dL_law_136 rfl rfl ?_
  refine wr_aload_n C 3 dL_law_137 rfl rfl ?_
  refine wr_iload_n C 0 dL_law_138 rfl rfl ?_
  refine wr_iconst C (v := nI 1) dL_law_139 (by decide) ?_
  refine wr_iadd C (z := nI (4 * n + 1 + 1)) dL_law_140 (nI_add (4 * n + 1) 1) ?_
  refine wr_sld C hX hbl hbA (i := 4 * n + 1 + 1) (by omega) (by omega) dL_law_141 ?_
  refine wr_aload_n C 3 dL_law_142 rfl rfl ?_
  refine wr_iload_n C 0 dL_law_143 rfl rfl ?_
  refine wr_iconst C (v := nI 2) dL_law_144 (by decide) ?_
  refine wr_iadd C (z := nI (4 * n + 1 + 2)) dL_law_145 (nI_add (4 * n + 1) 2) ?_
  refine wr_sld C hX hbl hbA (i := 4 * n + 1 + 2) (by omega) (by omega) dL_law_146 ?_
  refine wr_aload_n C 3 dL_law_147 rfl rfl ?_
  refine wr_iload_n C 0 dL_law_148 rfl rfl ?_
  refine wr_iconst C (v := nI 3) dL_law_149 (by decide) ?_
  refine wr_iadd C (z := nI (4 * n + 1 + 3)) dL_law_150 (nI_add (4 * n + 1) 3) ?_
  refine wr_sld C hX hbl hbA (i := 4 * n + 1 + 3) (by omega) (by omega) dL_law_151 ?_
  refine wr_callV1 C (As := [.int (xs (4 * n + 1 + 1)), .int (xs (4 * n + 1 + 2)), .int (xs (4 * n + 1 + 3))]) (rest := []) hw cb_W_clock (Or.inl tw_136) tw_137 tw_138 (by omega) wc_c_WC rfl ⟨by decide, by decide⟩ (by decide) rfl rfl (Nat.le_of_ble_eq_true rfl) ⟨by decide, by decide⟩ dL_law_152 ?_
  refine wr_aload_n C 1 dL_law_155 rfl rfl ?_
  refine wr_aload_n C 3 dL_law_156 rfl rfl ?_
  refine wr_iload_n C 0 dL_law_157 rfl rfl ?_
  refine wr_iconst C (v := nI 1) dL_law_158 (by decide) ?_
  refine wr_iadd C (z := nI (4 * n + 1 + 1)) dL_law_159 (nI_add (4 * n + 1) 1) ?_
  refine wr_sld C hX hbl hbA (i := 4 * n + 1 + 1) (by omega) (by omega) dL_law_160 ?_
  refine wr_aload_n C 3 dL_law_161 rfl rfl ?_
  refine wr_iload_n C 0 dL_law_162 rfl rfl ?_
  refine wr_iconst C (v := nI 2) dL_law_163 (by decide) ?_
  refine wr_iadd C (z := nI (4 * n + 1 + 2)) dL_law_164 (nI_add (4 * n + 1) 2) ?_
  refine wr_sld C hX hbl hbA (i := 4 * n + 1 + 2) (by omega) (by omega) dL_law_165 ?_
  refine wr_aload_n C 3 dL_law_166 rfl rfl ?_
  refine wr_iload_n C 0 dL_law_167 rfl rfl ?_
  refine wr_iconst C (v := nI 3) dL_law_168 (by decide) ?_
  refine wr_iadd C (z := nI (4 * n + 1 + 3)) dL_law_169 (nI_add (4 * n + 1) 3) ?_
  refine wr_sld C hX hbl hbA (i := 4 * n + 1 + 3) (by omega) (by omega) dL_law_170 ?_
  refine wr_callV1 C (As := [.int (xs (4 * n + 1 + 1)), .int (xs (4 * n + 1 + 2)), .int (xs (4 * n + 1 + 3))]) (rest := [.int v]) hm cb_M_clock (Or.inl tw_395) tw_396 tw_397 (by omega) wc_c_Model rfl ⟨by decide, by decide⟩ (by decide) rfl rfl (Nat.le_of_ble_eq_true rfl) ⟨by decide, by decide⟩ dL_law_171 ?_
  refine wr_icmp_eq C (tgt := 684) dL_law_174 (by decide) (fun _ => ?_) (fun h => absurd rfl h)
  exact hnext σ' μ' hJ'
set_option maxRecDepth 4000 in
theorem lc_delay {p : Program} {l : Launch} {e : Env} {s : State} {m : MethodId} {below : List Frame} {meth : Method} {c : Code} {Γ : wc_G} {b L : Nat} {xs : Nat → Int32} {n : Nat} {σ μ : wc_St} (C0 : lw_C p s m meth c Γ b L xs) (hi : 4 * n + 1 + 4 ≤ L) (hJ : sj_J n σ μ) (hnext : ∀ σ' μ' : wc_St, sj_J (n + 1) σ' μ' → lw_K p l e s m below meth c Γ b 684 (4 * n + 1) [] σ' μ') : lw_K p l e s m below meth c Γ b 179 (4 * n + 1) [] σ μ := by
  obtain ⟨C, hX, hbl, hL, hr, hlk⟩ := C0
  have hbA : ¬ s.heap.size ≤ b := by omega
  obtain ⟨v, σ', μ', hw, hm, hJ'⟩ := lj_delay l Γ hJ (by omega) (xs (4 * n + 1 + 1)) (xs (4 * n + 1 + 2))
  refine wr_aload_n C 2 dL_law_179 rfl rfl ?_
  refine wr_aload_n C 3 dL_law_180 rfl rfl ?_
  refine wr_iload_n C 0 dL_law_181 rfl rfl ?_
  refine wr_iconst C (v := nI 1) dL_law_182 (by decide) ?_
  refine wr_iadd C (z := nI (4 * n + 1 + 1)) dL_law_183 (nI_add (4 * n + 1) 1) ?_
  refine wr_sld C hX hbl hbA (i := 4 * n + 1 + 1) (by omega) (by omega) dL_law_184 ?_
  refine wr_aload_n C 3 dL_law_185 rfl rfl ?_
  refine wr_iload_n C 0 dL_law_186 rfl rfl ?_
  refine wr_iconst C (v := nI 2) dL_law_187 (by decide) ?_
  refine wr_iadd C (z := nI (4 * n + 1 + 2)) dL_law_188 (nI_add (4 * n + 1) 2) ?_
  refine wr_sld C hX hbl hbA (i := 4 * n + 1 + 2) (by omega) (by omega) dL_law_189 ?_
  refine wr_callV1 C (As := [.int (xs (4 * n + 1 + 1)), .int (xs (4 * n + 1 + 2))]) (rest := []) hw cb_W_delay (Or.inl tw_146) tw_147 tw_148 (by omega) wc_c_WC rfl ⟨by decide, by decide⟩ (by decide) rfl rfl (Nat.le_of_ble_eq_true rfl) ⟨by decide, by decide⟩ dL_law_190 ?_
  refine wr_aload_n C 1 dL_law_193 rfl rfl ?_
  refine wr_aload_n C 3 dL_law_194 rfl rfl ?_
  refine wr_iload_n C 0 dL_law_195 rfl rfl ?_
  refine wr_iconst C (v := nI 1) dL_law_196 (by decide) ?_
  refine wr_iadd C (z := nI (4 * n + 1 + 1)) dL_law_197 (nI_add (4 * n + 1) 1) ?_
  refine wr_sld C hX hbl hbA (i := 4 * n + 1 + 1) (by omega) (by omega) dL_law_198 ?_
  refine wr_aload_n C 3 dL_law_199 rfl rfl ?_
  refine wr_iload_n C 0 dL_law_200 rfl rfl ?_
  refine wr_iconst C (v := nI 2) dL_law_201 (by decide) ?_
  refine wr_iadd C (z := nI (4 * n + 1 + 2)) dL_law_202 (nI_add (4 * n + 1) 2) ?_
  refine wr_sld C hX hbl hbA (i := 4 * n + 1 + 2) (by omega) (by omega) dL_law_203 ?_
  refine wr_callV1 C (As := [.int (xs (4 * n + 1 + 1)), .int (xs (4 * n + 1 + 2))]) (rest := [.int v]) hm cb_M_delay (Or.inl tw_402) tw_403 tw_404 (by omega) wc_c_Model rfl ⟨by decide, by decide⟩ (by decide) rfl rfl (Nat.le_of_ble_eq_true rfl) ⟨by decide, by decide⟩ dL_law_204 ?_
  refine wr_icmp_eq C (tgt := 684) dL_law_207 (by decide) (fun _ => ?_) (fun h => absurd rfl h)
  exact hnext σ' μ' hJ'
set_option maxRecDepth 4000 in
theorem lc_power {p : Program} {l : Launch} {e : Env} {s : State} {m : MethodId} {below : List Frame} {meth : Method} {c : Code} {Γ : wc_G} {b L : Nat} {xs : Nat → Int32} {n : Nat} {σ μ : wc_St} (C0 : lw_C p s m meth c Γ b L xs) (hi : 4 * n + 1 + 4 ≤ L) (hJ : sj_J n σ μ) (hnext : ∀ σ' μ' : wc_St, sj_J (n + 1) σ' μ' → lw_K p l e s m below meth c Γ b 684 (4 * n + 1) [] σ' μ') : lw_K p l e s m below meth c Γ b 212 (4 * n + 1) [] σ μ := by
  obtain ⟨C, hX, hbl, hL, hr, hlk⟩ := C0
  have hbA : ¬ s.heap.size ≤ b := by omega
  by_cases hx : xs (4 * n + 1 + 2) = 0
  · obtain ⟨v, σ', μ', hw, hm, hJ'⟩ := lj_power l Γ hJ (by omega) (xs (4 * n + 1 + 1)) (nI 0) (Or.inl rfl)
    refine wr_aload_n C 2 dL_law_212 rfl rfl ?_
    refine wr_aload_n C 3 dL_law_213 rfl rfl ?_
    refine wr_iload_n C 0 dL_law_214 rfl rfl ?_
    refine wr_iconst C (v := nI 1) dL_law_215 (by decide) ?_
    refine wr_iadd C (z := nI (4 * n + 1 + 1)) dL_law_216 (nI_add (4 * n + 1) 1) ?_
    refine wr_sld C hX hbl hbA (i := 4 * n + 1 + 1) (by omega) (by omega) dL_law_217 ?_
    refine wr_aload_n C 3 dL_law_218 rfl rfl ?_
    refine wr_iload_n C 0 dL_law_219 rfl rfl ?_
    refine wr_iconst C (v := nI 2) dL_law_220 (by decide) ?_
    refine wr_iadd C (z := nI (4 * n + 1 + 2)) dL_law_221 (nI_add (4 * n + 1) 2) ?_
    refine wr_sld C hX hbl hbA (i := 4 * n + 1 + 2) (by omega) (by omega) dL_law_222 ?_
    refine wr_if_eq C (tgt := 230) dL_law_223 (by decide) (fun _ => ?_) (fun h => absurd hx h)
    refine wr_iconst C (v := nI 0) dL_law_230 (by decide) ?_
    refine wr_callV1 C (As := [.int (xs (4 * n + 1 + 1)), .int (nI 0)]) (rest := []) hw cb_W_power (Or.inl tw_150) tw_151 tw_152 (by omega) wc_c_WC rfl ⟨by decide, by decide⟩ (by decide) rfl rfl (Nat.le_of_ble_eq_true rfl) ⟨by decide, by decide⟩ dL_law_231 ?_
    refine wr_aload_n C 1 dL_law_234 rfl rfl ?_
    refine wr_aload_n C 3 dL_law_235 rfl rfl ?_
    refine wr_iload_n C 0 dL_law_236 rfl rfl ?_
    refine wr_iconst C (v := nI 1) dL_law_237 (by decide) ?_
    refine wr_iadd C (z := nI (4 * n + 1 + 1)) dL_law_238 (nI_add (4 * n + 1) 1) ?_
    refine wr_sld C hX hbl hbA (i := 4 * n + 1 + 1) (by omega) (by omega) dL_law_239 ?_
    refine wr_aload_n C 3 dL_law_240 rfl rfl ?_
    refine wr_iload_n C 0 dL_law_241 rfl rfl ?_
    refine wr_iconst C (v := nI 2) dL_law_242 (by decide) ?_
    refine wr_iadd C (z := nI (4 * n + 1 + 2)) dL_law_243 (nI_add (4 * n + 1) 2) ?_
    refine wr_sld C hX hbl hbA (i := 4 * n + 1 + 2) (by omega) (by omega) dL_law_244 ?_
    refine wr_if_eq C (tgt := 252) dL_law_245 (by decide) (fun _ => ?_) (fun h => absurd hx h)
    refine wr_iconst C (v := nI 0) dL_law_252 (by decide) ?_
    refine wr_callV1 C (As := [.int (xs (4 * n + 1 + 1)), .int (nI 0)]) (rest := [.int v]) hm cb_M_power (Or.inl tw_406) tw_407 tw_408 (by omega) wc_c_Model rfl ⟨by decide, by decide⟩ (by decide) rfl rfl (Nat.le_of_ble_eq_true rfl) ⟨by decide, by decide⟩ dL_law_253 ?_
    refine wr_icmp_eq C (tgt := 684) dL_law_256 (by decide) (fun _ => ?_) (fun h => absurd rfl h)
    exact hnext σ' μ' hJ'
  · obtain ⟨v, σ', μ', hw, hm, hJ'⟩ := lj_power l Γ hJ (by omega) (xs (4 * n + 1 + 1)) (nI 1) (Or.inr rfl)
    refine wr_aload_n C 2 dL_law_212 rfl rfl ?_
    refine wr_aload_n C 3 dL_law_213 rfl rfl ?_
    refine wr_iload_n C 0 dL_law_214 rfl rfl ?_
    refine wr_iconst C (v := nI 1) dL_law_215 (by decide) ?_
    refine wr_iadd C (z := nI (4 * n + 1 + 1)) dL_law_216 (nI_add (4 * n + 1) 1) ?_
    refine wr_sld C hX hbl hbA (i := 4 * n + 1 + 1) (by omega) (by omega) dL_law_217 ?_
    refine wr_aload_n C 3 dL_law_218 rfl rfl ?_
    refine wr_iload_n C 0 dL_law_219 rfl rfl ?_
    refine wr_iconst C (v := nI 2) dL_law_220 (by decide) ?_
    refine wr_iadd C (z := nI (4 * n + 1 + 2)) dL_law_221 (nI_add (4 * n + 1) 2) ?_
    refine wr_sld C hX hbl hbA (i := 4 * n + 1 + 2) (by omega) (by omega) dL_law_222 ?_
    refine wr_if_eq C (tgt := 230) dL_law_223 (by decide) (fun h => absurd h hx) (fun _ => ?_)
    refine wr_iconst C (v := nI 1) dL_law_226 (by decide) ?_
    refine wr_goto C (tgt := 231) dL_law_227 (by decide) ?_
    refine wr_callV1 C (As := [.int (xs (4 * n + 1 + 1)), .int (nI 1)]) (rest := []) hw cb_W_power (Or.inl tw_150) tw_151 tw_152 (by omega) wc_c_WC rfl ⟨by decide, by decide⟩ (by decide) rfl rfl (Nat.le_of_ble_eq_true rfl) ⟨by decide, by decide⟩ dL_law_231 ?_
    refine wr_aload_n C 1 dL_law_234 rfl rfl ?_
    refine wr_aload_n C 3 dL_law_235 rfl rfl ?_
    refine wr_iload_n C 0 dL_law_236 rfl rfl ?_
    refine wr_iconst C (v := nI 1) dL_law_237 (by decide) ?_
    refine wr_iadd C (z := nI (4 * n + 1 + 1)) dL_law_238 (nI_add (4 * n + 1) 1) ?_
    refine wr_sld C hX hbl hbA (i := 4 * n + 1 + 1) (by omega) (by omega) dL_law_239 ?_
    refine wr_aload_n C 3 dL_law_240 rfl rfl ?_
    refine wr_iload_n C 0 dL_law_241 rfl rfl ?_
    refine wr_iconst C (v := nI 2) dL_law_242 (by decide) ?_
    refine wr_iadd C (z := nI (4 * n + 1 + 2)) dL_law_243 (nI_add (4 * n + 1) 2) ?_
    refine wr_sld C hX hbl hbA (i := 4 * n + 1 + 2) (by omega) (by omega) dL_law_244 ?_
    refine wr_if_eq C (tgt := 252) dL_law_245 (by decide) (fun h => absurd h hx) (fun _ => ?_)
    refine wr_iconst C (v := nI 1) dL_law_248 (by decide) ?_
    refine wr_goto C (tgt := 253) dL_law_249 (by decide) ?_
    refine wr_callV1 C (As := [.int (xs (4 * n + 1 + 1)), .int (nI 1)]) (rest := [.int v]) hm cb_M_power (Or.inl tw_406) tw_407 tw_408 (by omega) wc_c_Model rfl ⟨by decide, by decide⟩ (by decide) rfl rfl (Nat.le_of_ble_eq_true rfl) ⟨by decide, by decide⟩ dL_law_253 ?_
    refine wr_icmp_eq C (tgt := 684) dL_law_256 (by decide) (fun _ => ?_) (fun h => absurd rfl h)
    exact hnext σ' μ' hJ'
set_option maxRecDepth 4000 in
theorem lc_begin {p : Program} {l : Launch} {e : Env} {s : State} {m : MethodId} {below : List Frame} {meth : Method} {c : Code} {Γ : wc_G} {b L : Nat} {xs : Nat → Int32} {n : Nat} {σ μ : wc_St} (C0 : lw_C p s m meth c Γ b L xs) (hi : 4 * n + 1 + 4 ≤ L) (hJ : sj_J n σ μ) (hnext : ∀ σ' μ' : wc_St, sj_J (n + 1) σ' μ' → lw_K p l e s m below meth c Γ b 684 (4 * n + 1) [] σ' μ') : lw_K p l e s m below meth c Γ b 261 (4 * n + 1) [] σ μ := by
  obtain ⟨C, hX, hbl, hL, hr, hlk⟩ := C0
  have hbA : ¬ s.heap.size ≤ b := by omega
  obtain ⟨v, σ', μ', hw, hm, hJ'⟩ := lj_begin l Γ hJ (by omega) (xs (4 * n + 1 + 1))
  refine wr_aload_n C 2 dL_law_261 rfl rfl ?_
  refine wr_aload_n C 3 dL_law_262 rfl rfl ?_
  refine wr_iload_n C 0 dL_law_263 rfl rfl ?_
  refine wr_iconst C (v := nI 1) dL_law_264 (by decide) ?_
  refine wr_iadd C (z := nI (4 * n + 1 + 1)) dL_law_265 (nI_add (4 * n + 1) 1) ?_
  refine wr_sld C hX hbl hbA (i := 4 * n + 1 + 1) (by omega) (by omega) dL_law_266 ?_
  refine wr_callV1 C (As := [.int (xs (4 * n + 1 + 1))]) (rest := []) hw cb_W_begin (Or.inl tw_154) tw_155 tw_156 (by omega) wc_c_WC rfl ⟨by decide, by decide⟩ (by decide) rfl rfl (Nat.le_of_ble_eq_true rfl) ⟨by decide, by decide⟩ dL_law_267 ?_
  refine wr_aload_n C 1 dL_law_270 rfl rfl ?_
  refine wr_aload_n C 3 dL_law_271 rfl rfl ?_
  refine wr_iload_n C 0 dL_law_272 rfl rfl ?_
  refine wr_iconst C (v := nI 1) dL_law_273 (by decide) ?_
  refine wr_iadd C (z := nI (4 * n + 1 + 1)) dL_law_274 (nI_add (4 * n + 1) 1) ?_
  refine wr_sld C hX hbl hbA (i := 4 * n + 1 + 1) (by omega) (by omega) dL_law_275 ?_
  refine wr_callV1 C (As := [.int (xs (4 * n + 1 + 1))]) (rest := [.int v]) hm cb_M_begin (Or.inl tw_410) tw_411 tw_412 (by omega) wc_c_Model rfl ⟨by decide, by decide⟩ (by decide) rfl rfl (Nat.le_of_ble_eq_true rfl) ⟨by decide, by decide⟩ dL_law_276 ?_
  refine wr_icmp_eq C (tgt := 684) dL_law_279 (by decide) (fun _ => ?_) (fun h => absurd rfl h)
  exact hnext σ' μ' hJ'
set_option maxRecDepth 4000 in
theorem lc_read {p : Program} {l : Launch} {e : Env} {s : State} {m : MethodId} {below : List Frame} {meth : Method} {c : Code} {Γ : wc_G} {b L : Nat} {xs : Nat → Int32} {n : Nat} {σ μ : wc_St} (C0 : lw_C p s m meth c Γ b L xs) (hi : 4 * n + 1 + 4 ≤ L) (hJ : sj_J n σ μ) (hnext : ∀ σ' μ' : wc_St, sj_J (n + 1) σ' μ' → lw_K p l e s m below meth c Γ b 684 (4 * n + 1) [] σ' μ') : lw_K p l e s m below meth c Γ b 284 (4 * n + 1) [] σ μ := by
  obtain ⟨C, hX, hbl, hL, hr, hlk⟩ := C0
  have hbA : ¬ s.heap.size ≤ b := by omega
  obtain ⟨v, σ', μ', hw, hm, hJ'⟩ := lj_read l Γ hJ (by omega) (xs (4 * n + 1 + 1)) (xs (4 * n + 1 + 2))
  refine wr_aload_n C 2 dL_law_284 rfl rfl ?_
  refine wr_aload_n C 3 dL_law_285 rfl rfl ?_
  refine wr_iload_n C 0 dL_law_286 rfl rfl ?_
  refine wr_iconst C (v := nI 1) dL_law_287 (by decide) ?_
  refine wr_iadd C (z := nI (4 * n + 1 + 1)) dL_law_288 (nI_add (4 * n + 1) 1) ?_
  refine wr_sld C hX hbl hbA (i := 4 * n + 1 + 1) (by omega) (by omega) dL_law_289 ?_
  refine wr_aload_n C 3 dL_law_290 rfl rfl ?_
  refine wr_iload_n C 0 dL_law_291 rfl rfl ?_
  refine wr_iconst C (v := nI 2) dL_law_292 (by decide) ?_
  refine wr_iadd C (z := nI (4 * n + 1 + 2)) dL_law_293 (nI_add (4 * n + 1) 2) ?_
  refine wr_sld C hX hbl hbA (i := 4 * n + 1 + 2) (by omega) (by omega) dL_law_294 ?_
  refine wr_callV1 C (As := [.int (xs (4 * n + 1 + 1)), .int (xs (4 * n + 1 + 2))]) (rest := []) hw cb_W_read (Or.inl tw_170) tw_171 tw_172 (by omega) wc_c_WC rfl ⟨by decide, by decide⟩ (by decide) rfl rfl (Nat.le_of_ble_eq_true rfl) ⟨by decide, by decide⟩ dL_law_295 ?_
  refine wr_aload_n C 1 dL_law_298 rfl rfl ?_
  refine wr_aload_n C 3 dL_law_299 rfl rfl ?_
  refine wr_iload_n C 0 dL_law_300 rfl rfl ?_
  refine wr_iconst C (v := nI 1) dL_law_301 (by decide) ?_
  refine wr_iadd C (z := nI (4 * n + 1 + 1)) dL_law_302 (nI_add (4 * n + 1) 1) ?_
  refine wr_sld C hX hbl hbA (i := 4 * n + 1 + 1) (by omega) (by omega) dL_law_303 ?_
  refine wr_aload_n C 3 dL_law_304 rfl rfl ?_
  refine wr_iload_n C 0 dL_law_305 rfl rfl ?_
  refine wr_iconst C (v := nI 2) dL_law_306 (by decide) ?_
  refine wr_iadd C (z := nI (4 * n + 1 + 2)) dL_law_307 (nI_add (4 * n + 1) 2) ?_
  refine wr_sld C hX hbl hbA (i := 4 * n + 1 + 2) (by omega) (by omega) dL_law_308 ?_
  refine wr_callV1 C (As := [.int (xs (4 * n + 1 + 1)), .int (xs (4 * n + 1 + 2))]) (rest := [.long v]) hm cb_M_read (Or.inl tw_423) tw_424 tw_425 (by omega) wc_c_Model rfl ⟨by decide, by decide⟩ (by decide) rfl rfl (Nat.le_of_ble_eq_true rfl) ⟨by decide, by decide⟩ dL_law_309 ?_
  refine wr_lcmp C dL_law_312 ?_
  refine wr_if_eq C (tgt := 684) dL_law_313 (by decide) (fun _ => ?_) (fun h => absurd (lw_cmp v) h)
  exact hnext σ' μ' hJ'
set_option maxRecDepth 4000 in
theorem lc_write {p : Program} {l : Launch} {e : Env} {s : State} {m : MethodId} {below : List Frame} {meth : Method} {c : Code} {Γ : wc_G} {b L : Nat} {xs : Nat → Int32} {n : Nat} {σ μ : wc_St} (C0 : lw_C p s m meth c Γ b L xs) (hi : 4 * n + 1 + 4 ≤ L) (hJ : sj_J n σ μ) (hnext : ∀ σ' μ' : wc_St, sj_J (n + 1) σ' μ' → lw_K p l e s m below meth c Γ b 684 (4 * n + 1) [] σ' μ') : lw_K p l e s m below meth c Γ b 318 (4 * n + 1) [] σ μ := by
  obtain ⟨C, hX, hbl, hL, hr, hlk⟩ := C0
  have hbA : ¬ s.heap.size ≤ b := by omega
  obtain ⟨v, σ', μ', hw, hm, hJ'⟩ := lj_write l Γ hJ (by omega) (xs (4 * n + 1 + 1)) (xs (4 * n + 1 + 2)) (xs (4 * n + 1 + 3))
  refine wr_aload_n C 2 dL_law_318 rfl rfl ?_
  refine wr_aload_n C 3 dL_law_319 rfl rfl ?_
  refine wr_iload_n C 0 dL_law_320 rfl rfl ?_
  refine wr_iconst C (v := nI 1) dL_law_321 (by decide) ?_
  refine wr_iadd C (z := nI (4 * n + 1 + 1)) dL_law_322 (nI_add (4 * n + 1) 1) ?_
  refine wr_sld C hX hbl hbA (i := 4 * n + 1 + 1) (by omega) (by omega) dL_law_323 ?_
  refine wr_aload_n C 3 dL_law_324 rfl rfl ?_
  refine wr_iload_n C 0 dL_law_325 rfl rfl ?_
  refine wr_iconst C (v := nI 2) dL_law_326 (by decide) ?_
  refine wr_iadd C (z := nI (4 * n + 1 + 2)) dL_law_327 (nI_add (4 * n + 1) 2) ?_
  refine wr_sld C hX hbl hbA (i := 4 * n + 1 + 2) (by omega) (by omega) dL_law_328 ?_
  refine wr_aload_n C 3 dL_law_329 rfl rfl ?_
  refine wr_iload_n C 0 dL_law_330 rfl rfl ?_
  refine wr_iconst C (v := nI 3) dL_law_331 (by decide) ?_
  refine wr_iadd C (z := nI (4 * n + 1 + 3)) dL_law_332 (nI_add (4 * n + 1) 3) ?_
  refine wr_sld C hX hbl hbA (i := 4 * n + 1 + 3) (by omega) (by omega) dL_law_333 ?_
  refine wr_callV1 C (As := [.int (xs (4 * n + 1 + 1)), .int (xs (4 * n + 1 + 2)), .int (xs (4 * n + 1 + 3))]) (rest := []) hw cb_W_write (Or.inl tw_199) tw_200 tw_201 (by omega) wc_c_WC rfl ⟨by decide, by decide⟩ (by decide) rfl rfl (Nat.le_of_ble_eq_true rfl) ⟨by decide, by decide⟩ dL_law_334 ?_
  refine wr_aload_n C 1 dL_law_337 rfl rfl ?_
  refine wr_aload_n C 3 dL_law_338 rfl rfl ?_
  refine wr_iload_n C 0 dL_law_339 rfl rfl ?_
  refine wr_iconst C (v := nI 1) dL_law_340 (by decide) ?_
  refine wr_iadd C (z := nI (4 * n + 1 + 1)) dL_law_341 (nI_add (4 * n + 1) 1) ?_
  refine wr_sld C hX hbl hbA (i := 4 * n + 1 + 1) (by omega) (by omega) dL_law_342 ?_
  refine wr_aload_n C 3 dL_law_343 rfl rfl ?_
  refine wr_iload_n C 0 dL_law_344 rfl rfl ?_
  refine wr_iconst C (v := nI 2) dL_law_345 (by decide) ?_
  refine wr_iadd C (z := nI (4 * n + 1 + 2)) dL_law_346 (nI_add (4 * n + 1) 2) ?_
  refine wr_sld C hX hbl hbA (i := 4 * n + 1 + 2) (by omega) (by omega) dL_law_347 ?_
  refine wr_aload_n C 3 dL_law_348 rfl rfl ?_
  refine wr_iload_n C 0 dL_law_349 rfl rfl ?_
  refine wr_iconst C (v := nI 3) dL_law_350 (by decide) ?_
  refine wr_iadd C (z := nI (4 * n + 1 + 3)) dL_law_351 (nI_add (4 * n + 1) 3) ?_
  refine wr_sld C hX hbl hbA (i := 4 * n + 1 + 3) (by omega) (by omega) dL_law_352 ?_
  refine wr_callV1 C (As := [.int (xs (4 * n + 1 + 1)), .int (xs (4 * n + 1 + 2)), .int (xs (4 * n + 1 + 3))]) (rest := [.int v]) hm cb_M_write (Or.inl tw_443) tw_444 tw_445 (by omega) wc_c_Model rfl ⟨by decide, by decide⟩ (by decide) rfl rfl (Nat.le_of_ble_eq_true rfl) ⟨by decide, by decide⟩ dL_law_353 ?_
  refine wr_icmp_eq C (tgt := 684) dL_law_356 (by decide) (fun _ => ?_) (fun h => absurd rfl h)
  exact hnext σ' μ' hJ'
set_option maxRecDepth 4000 in
theorem lc_commit {p : Program} {l : Launch} {e : Env} {s : State} {m : MethodId} {below : List Frame} {meth : Method} {c : Code} {Γ : wc_G} {b L : Nat} {xs : Nat → Int32} {n : Nat} {σ μ : wc_St} (C0 : lw_C p s m meth c Γ b L xs) (hi : 4 * n + 1 + 4 ≤ L) (hJ : sj_J n σ μ) (hnext : ∀ σ' μ' : wc_St, sj_J (n + 1) σ' μ' → lw_K p l e s m below meth c Γ b 684 (4 * n + 1) [] σ' μ') : lw_K p l e s m below meth c Γ b 361 (4 * n + 1) [] σ μ := by
  obtain ⟨C, hX, hbl, hL, hr, hlk⟩ := C0
  have hbA : ¬ s.heap.size ≤ b := by omega
  obtain ⟨v, σ', μ', hw, hm, hJ'⟩ := lj_commit l Γ hJ (by omega) (xs (4 * n + 1 + 1))
  refine wr_aload_n C 2 dL_law_361 rfl rfl ?_
  refine wr_aload_n C 3 dL_law_362 rfl rfl ?_
  refine wr_iload_n C 0 dL_law_363 rfl rfl ?_
  refine wr_iconst C (v := nI 1) dL_law_364 (by decide) ?_
  refine wr_iadd C (z := nI (4 * n + 1 + 1)) dL_law_365 (nI_add (4 * n + 1) 1) ?_
  refine wr_sld C hX hbl hbA (i := 4 * n + 1 + 1) (by omega) (by omega) dL_law_366 ?_
  refine wr_callV1 C (As := [.int (xs (4 * n + 1 + 1))]) (rest := []) hw cb_W_commit (Or.inl tw_203) tw_204 tw_205 (by omega) wc_c_WC rfl ⟨by decide, by decide⟩ (by decide) rfl rfl (Nat.le_of_ble_eq_true rfl) ⟨by decide, by decide⟩ dL_law_367 ?_
  refine wr_aload_n C 1 dL_law_370 rfl rfl ?_
  refine wr_aload_n C 3 dL_law_371 rfl rfl ?_
  refine wr_iload_n C 0 dL_law_372 rfl rfl ?_
  refine wr_iconst C (v := nI 1) dL_law_373 (by decide) ?_
  refine wr_iadd C (z := nI (4 * n + 1 + 1)) dL_law_374 (nI_add (4 * n + 1) 1) ?_
  refine wr_sld C hX hbl hbA (i := 4 * n + 1 + 1) (by omega) (by omega) dL_law_375 ?_
  refine wr_callV1 C (As := [.int (xs (4 * n + 1 + 1))]) (rest := [.int v]) hm cb_M_commit (Or.inl tw_451) tw_452 tw_453 (by omega) wc_c_Model rfl ⟨by decide, by decide⟩ (by decide) rfl rfl (Nat.le_of_ble_eq_true rfl) ⟨by decide, by decide⟩ dL_law_376 ?_
  refine wr_icmp_eq C (tgt := 684) dL_law_379 (by decide) (fun _ => ?_) (fun h => absurd rfl h)
  exact hnext σ' μ' hJ'
set_option maxRecDepth 4000 in
theorem lc_abort {p : Program} {l : Launch} {e : Env} {s : State} {m : MethodId} {below : List Frame} {meth : Method} {c : Code} {Γ : wc_G} {b L : Nat} {xs : Nat → Int32} {n : Nat} {σ μ : wc_St} (C0 : lw_C p s m meth c Γ b L xs) (hi : 4 * n + 1 + 4 ≤ L) (hJ : sj_J n σ μ) (hnext : ∀ σ' μ' : wc_St, sj_J (n + 1) σ' μ' → lw_K p l e s m below meth c Γ b 684 (4 * n + 1) [] σ' μ') : lw_K p l e s m below meth c Γ b 384 (4 * n + 1) [] σ μ := by
  obtain ⟨C, hX, hbl, hL, hr, hlk⟩ := C0
  have hbA : ¬ s.heap.size ≤ b := by omega
  obtain ⟨v, σ', μ', hw, hm, hJ'⟩ := lj_abort l Γ hJ (by omega) (xs (4 * n + 1 + 1))
  refine wr_aload_n C 2 dL_law_384 rfl rfl ?_
  refine wr_aload_n C 3 dL_law_385 rfl rfl ?_
  refine wr_iload_n C 0 dL_law_386 rfl rfl ?_
  refine wr_iconst C (v := nI 1) dL_law_387 (by decide) ?_
  refine wr_iadd C (z := nI (4 * n + 1 + 1)) dL_law_388 (nI_add (4 * n + 1) 1) ?_
  refine wr_sld C hX hbl hbA (i := 4 * n + 1 + 1) (by omega) (by omega) dL_law_389 ?_
  refine wr_callV1 C (As := [.int (xs (4 * n + 1 + 1))]) (rest := []) hw cb_W_abort (Or.inl tw_227) tw_228 tw_229 (by omega) wc_c_WC rfl ⟨by decide, by decide⟩ (by decide) rfl rfl (Nat.le_of_ble_eq_true rfl) ⟨by decide, by decide⟩ dL_law_390 ?_
  refine wr_aload_n C 1 dL_law_393 rfl rfl ?_
  refine wr_aload_n C 3 dL_law_394 rfl rfl ?_
  refine wr_iload_n C 0 dL_law_395 rfl rfl ?_
  refine wr_iconst C (v := nI 1) dL_law_396 (by decide) ?_
  refine wr_iadd C (z := nI (4 * n + 1 + 1)) dL_law_397 (nI_add (4 * n + 1) 1) ?_
  refine wr_sld C hX hbl hbA (i := 4 * n + 1 + 1) (by omega) (by omega) dL_law_398 ?_
  refine wr_callV1 C (As := [.int (xs (4 * n + 1 + 1))]) (rest := [.int v]) hm cb_M_abort (Or.inl tw_447) tw_448 tw_449 (by omega) wc_c_Model rfl ⟨by decide, by decide⟩ (by decide) rfl rfl (Nat.le_of_ble_eq_true rfl) ⟨by decide, by decide⟩ dL_law_399 ?_
  refine wr_icmp_eq C (tgt := 684) dL_law_402 (by decide) (fun _ => ?_) (fun h => absurd rfl h)
  exact hnext σ' μ' hJ'
set_option maxRecDepth 4000 in
theorem lc_readAt {p : Program} {l : Launch} {e : Env} {s : State} {m : MethodId} {below : List Frame} {meth : Method} {c : Code} {Γ : wc_G} {b L : Nat} {xs : Nat → Int32} {n : Nat} {σ μ : wc_St} (C0 : lw_C p s m meth c Γ b L xs) (hi : 4 * n + 1 + 4 ≤ L) (hJ : sj_J n σ μ) (hnext : ∀ σ' μ' : wc_St, sj_J (n + 1) σ' μ' → lw_K p l e s m below meth c Γ b 684 (4 * n + 1) [] σ' μ') : lw_K p l e s m below meth c Γ b 407 (4 * n + 1) [] σ μ := by
  obtain ⟨C, hX, hbl, hL, hr, hlk⟩ := C0
  have hbA : ¬ s.heap.size ≤ b := by omega
  obtain ⟨v, σ', μ', hw, hm, hJ'⟩ := lj_readAt l Γ hJ (by omega) (xs (4 * n + 1 + 1)) (xs (4 * n + 1 + 2))
  refine wr_aload_n C 2 dL_law_407 rfl rfl ?_
  refine wr_aload_n C 3 dL_law_408 rfl rfl ?_
  refine wr_iload_n C 0 dL_law_409 rfl rfl ?_
  refine wr_iconst C (v := nI 1) dL_law_410 (by decide) ?_
  refine wr_iadd C (z := nI (4 * n + 1 + 1)) dL_law_411 (nI_add (4 * n + 1) 1) ?_
  refine wr_sld C hX hbl hbA (i := 4 * n + 1 + 1) (by omega) (by omega) dL_law_412 ?_
  refine wr_aload_n C 3 dL_law_413 rfl rfl ?_
  refine wr_iload_n C 0 dL_law_414 rfl rfl ?_
  refine wr_iconst C (v := nI 2) dL_law_415 (by decide) ?_
  refine wr_iadd C (z := nI (4 * n + 1 + 2)) dL_law_416 (nI_add (4 * n + 1) 2) ?_
  refine wr_sld C hX hbl hbA (i := 4 * n + 1 + 2) (by omega) (by omega) dL_law_417 ?_
  refine wr_callV1 C (As := [.int (xs (4 * n + 1 + 1)), .int (xs (4 * n + 1 + 2))]) (rest := []) hw cb_W_readAt (Or.inl tw_231) tw_232 tw_233 (by omega) wc_c_WC rfl ⟨by decide, by decide⟩ (by decide) rfl rfl (Nat.le_of_ble_eq_true rfl) ⟨by decide, by decide⟩ dL_law_418 ?_
  refine wr_aload_n C 1 dL_law_421 rfl rfl ?_
  refine wr_aload_n C 3 dL_law_422 rfl rfl ?_
  refine wr_iload_n C 0 dL_law_423 rfl rfl ?_
  refine wr_iconst C (v := nI 1) dL_law_424 (by decide) ?_
  refine wr_iadd C (z := nI (4 * n + 1 + 1)) dL_law_425 (nI_add (4 * n + 1) 1) ?_
  refine wr_sld C hX hbl hbA (i := 4 * n + 1 + 1) (by omega) (by omega) dL_law_426 ?_
  refine wr_aload_n C 3 dL_law_427 rfl rfl ?_
  refine wr_iload_n C 0 dL_law_428 rfl rfl ?_
  refine wr_iconst C (v := nI 2) dL_law_429 (by decide) ?_
  refine wr_iadd C (z := nI (4 * n + 1 + 2)) dL_law_430 (nI_add (4 * n + 1) 2) ?_
  refine wr_sld C hX hbl hbA (i := 4 * n + 1 + 2) (by omega) (by omega) dL_law_431 ?_
  refine wr_callV1 C (As := [.int (xs (4 * n + 1 + 1)), .int (xs (4 * n + 1 + 2))]) (rest := [.long v]) hm cb_M_readAt (Or.inl tw_487) tw_488 tw_489 (by omega) wc_c_Model rfl ⟨by decide, by decide⟩ (by decide) rfl rfl (Nat.le_of_ble_eq_true rfl) ⟨by decide, by decide⟩ dL_law_432 ?_
  refine wr_lcmp C dL_law_435 ?_
  refine wr_if_eq C (tgt := 684) dL_law_436 (by decide) (fun _ => ?_) (fun h => absurd (lw_cmp v) h)
  exact hnext σ' μ' hJ'
set_option maxRecDepth 4000 in
theorem lc_step {p : Program} {l : Launch} {e : Env} {s : State} {m : MethodId} {below : List Frame} {meth : Method} {c : Code} {Γ : wc_G} {b L : Nat} {xs : Nat → Int32} {n : Nat} {σ μ : wc_St} (C0 : lw_C p s m meth c Γ b L xs) (hi : 4 * n + 1 + 4 ≤ L) (hJ : sj_J n σ μ) (hnext : ∀ σ' μ' : wc_St, sj_J (n + 1) σ' μ' → lw_K p l e s m below meth c Γ b 684 (4 * n + 1) [] σ' μ') : lw_K p l e s m below meth c Γ b 441 (4 * n + 1) [] σ μ := by
  obtain ⟨C, hX, hbl, hL, hr, hlk⟩ := C0
  have hbA : ¬ s.heap.size ≤ b := by omega
  obtain ⟨v, σ', μ', hw, hm, hJ'⟩ := lj_step l Γ hJ (by omega) (xs (4 * n + 1 + 1))
  refine wr_aload_n C 2 dL_law_441 rfl rfl ?_
  refine wr_aload_n C 3 dL_law_442 rfl rfl ?_
  refine wr_iload_n C 0 dL_law_443 rfl rfl ?_
  refine wr_iconst C (v := nI 1) dL_law_444 (by decide) ?_
  refine wr_iadd C (z := nI (4 * n + 1 + 1)) dL_law_445 (nI_add (4 * n + 1) 1) ?_
  refine wr_sld C hX hbl hbA (i := 4 * n + 1 + 1) (by omega) (by omega) dL_law_446 ?_
  refine wr_callV1 C (As := [.int (xs (4 * n + 1 + 1))]) (rest := []) hw cb_W_step (Or.inl tw_250) tw_251 tw_252 (by omega) wc_c_WC rfl ⟨by decide, by decide⟩ (by decide) rfl rfl (Nat.le_of_ble_eq_true rfl) ⟨by decide, by decide⟩ dL_law_447 ?_
  refine wr_aload_n C 1 dL_law_450 rfl rfl ?_
  refine wr_aload_n C 3 dL_law_451 rfl rfl ?_
  refine wr_iload_n C 0 dL_law_452 rfl rfl ?_
  refine wr_iconst C (v := nI 1) dL_law_453 (by decide) ?_
  refine wr_iadd C (z := nI (4 * n + 1 + 1)) dL_law_454 (nI_add (4 * n + 1) 1) ?_
  refine wr_sld C hX hbl hbA (i := 4 * n + 1 + 1) (by omega) (by omega) dL_law_455 ?_
  refine wr_callV1 C (As := [.int (xs (4 * n + 1 + 1))]) (rest := [.int v]) hm cb_M_step (Or.inl tw_467) tw_468 tw_469 (by omega) wc_c_Model rfl ⟨by decide, by decide⟩ (by decide) rfl rfl (Nat.le_of_ble_eq_true rfl) ⟨by decide, by decide⟩ dL_law_456 ?_
  refine wr_icmp_eq C (tgt := 684) dL_law_459 (by decide) (fun _ => ?_) (fun h => absurd rfl h)
  exact hnext σ' μ' hJ'
set_option maxRecDepth 4000 in
theorem lc_now {p : Program} {l : Launch} {e : Env} {s : State} {m : MethodId} {below : List Frame} {meth : Method} {c : Code} {Γ : wc_G} {b L : Nat} {xs : Nat → Int32} {n : Nat} {σ μ : wc_St} (C0 : lw_C p s m meth c Γ b L xs) (hi : 4 * n + 1 + 4 ≤ L) (hJ : sj_J n σ μ) (hnext : ∀ σ' μ' : wc_St, sj_J (n + 1) σ' μ' → lw_K p l e s m below meth c Γ b 684 (4 * n + 1) [] σ' μ') : lw_K p l e s m below meth c Γ b 464 (4 * n + 1) [] σ μ := by
  obtain ⟨C, hX, hbl, hL, hr, hlk⟩ := C0
  have hbA : ¬ s.heap.size ≤ b := by omega
  obtain ⟨v, σ', μ', hw, hm, hJ'⟩ := lj_now l Γ hJ (by omega) 
  refine wr_aload_n C 2 dL_law_464 rfl rfl ?_
  refine wr_callV1 C (As := []) (rest := []) hw cb_W_now (Or.inl tw_295) tw_296 tw_297 (by omega) wc_c_WC rfl ⟨by decide, by decide⟩ (by decide) rfl rfl (Nat.le_of_ble_eq_true rfl) ⟨by decide, by decide⟩ dL_law_465 ?_
  refine wr_aload_n C 1 dL_law_468 rfl rfl ?_
  refine wr_callV1 C (As := []) (rest := [.int v]) hm cb_M_now (Or.inl tw_496) tw_497 tw_498 (by omega) wc_c_Model rfl ⟨by decide, by decide⟩ (by decide) rfl rfl (Nat.le_of_ble_eq_true rfl) ⟨by decide, by decide⟩ dL_law_469 ?_
  refine wr_icmp_eq C (tgt := 684) dL_law_472 (by decide) (fun _ => ?_) (fun h => absurd rfl h)
  exact hnext σ' μ' hJ'
set_option maxRecDepth 4000 in
theorem lc_state {p : Program} {l : Launch} {e : Env} {s : State} {m : MethodId} {below : List Frame} {meth : Method} {c : Code} {Γ : wc_G} {b L : Nat} {xs : Nat → Int32} {n : Nat} {σ μ : wc_St} (C0 : lw_C p s m meth c Γ b L xs) (hi : 4 * n + 1 + 4 ≤ L) (hJ : sj_J n σ μ) (hnext : ∀ σ' μ' : wc_St, sj_J (n + 1) σ' μ' → lw_K p l e s m below meth c Γ b 684 (4 * n + 1) [] σ' μ') : lw_K p l e s m below meth c Γ b 477 (4 * n + 1) [] σ μ := by
  obtain ⟨C, hX, hbl, hL, hr, hlk⟩ := C0
  have hbA : ¬ s.heap.size ≤ b := by omega
  obtain ⟨v, σ', μ', hw, hm, hJ'⟩ := lj_state l Γ hJ (by omega) (xs (4 * n + 1 + 1))
  refine wr_aload_n C 2 dL_law_477 rfl rfl ?_
  refine wr_aload_n C 3 dL_law_478 rfl rfl ?_
  refine wr_iload_n C 0 dL_law_479 rfl rfl ?_
  refine wr_iconst C (v := nI 1) dL_law_480 (by decide) ?_
  refine wr_iadd C (z := nI (4 * n + 1 + 1)) dL_law_481 (nI_add (4 * n + 1) 1) ?_
  refine wr_sld C hX hbl hbA (i := 4 * n + 1 + 1) (by omega) (by omega) dL_law_482 ?_
  refine wr_callV1 C (As := [.int (xs (4 * n + 1 + 1))]) (rest := []) hw cb_W_state (Or.inl tw_299) tw_300 tw_301 (by omega) wc_c_WC rfl ⟨by decide, by decide⟩ (by decide) rfl rfl (Nat.le_of_ble_eq_true rfl) ⟨by decide, by decide⟩ dL_law_483 ?_
  refine wr_aload_n C 1 dL_law_486 rfl rfl ?_
  refine wr_aload_n C 3 dL_law_487 rfl rfl ?_
  refine wr_iload_n C 0 dL_law_488 rfl rfl ?_
  refine wr_iconst C (v := nI 1) dL_law_489 (by decide) ?_
  refine wr_iadd C (z := nI (4 * n + 1 + 1)) dL_law_490 (nI_add (4 * n + 1) 1) ?_
  refine wr_sld C hX hbl hbA (i := 4 * n + 1 + 1) (by omega) (by omega) dL_law_491 ?_
  refine wr_callV1 C (As := [.int (xs (4 * n + 1 + 1))]) (rest := [.int v]) hm cb_M_state (Or.inl tw_500) tw_501 tw_502 (by omega) wc_c_Model rfl ⟨by decide, by decide⟩ (by decide) rfl rfl (Nat.le_of_ble_eq_true rfl) ⟨by decide, by decide⟩ dL_law_492 ?_
  refine wr_icmp_eq C (tgt := 684) dL_law_495 (by decide) (fun _ => ?_) (fun h => absurd rfl h)
  exact hnext σ' μ' hJ'
set_option maxRecDepth 4000 in
theorem lc_stamp {p : Program} {l : Launch} {e : Env} {s : State} {m : MethodId} {below : List Frame} {meth : Method} {c : Code} {Γ : wc_G} {b L : Nat} {xs : Nat → Int32} {n : Nat} {σ μ : wc_St} (C0 : lw_C p s m meth c Γ b L xs) (hi : 4 * n + 1 + 4 ≤ L) (hJ : sj_J n σ μ) (hnext : ∀ σ' μ' : wc_St, sj_J (n + 1) σ' μ' → lw_K p l e s m below meth c Γ b 684 (4 * n + 1) [] σ' μ') : lw_K p l e s m below meth c Γ b 500 (4 * n + 1) [] σ μ := by
  obtain ⟨C, hX, hbl, hL, hr, hlk⟩ := C0
  have hbA : ¬ s.heap.size ≤ b := by omega
  obtain ⟨v, σ', μ', hw, hm, hJ'⟩ := lj_stamp l Γ hJ (by omega) (xs (4 * n + 1 + 1))
  refine wr_aload_n C 2 dL_law_500 rfl rfl ?_
  refine wr_aload_n C 3 dL_law_501 rfl rfl ?_
  refine wr_iload_n C 0 dL_law_502 rfl rfl ?_
  refine wr_iconst C (v := nI 1) dL_law_503 (by decide) ?_
  refine wr_iadd C (z := nI (4 * n + 1 + 1)) dL_law_504 (nI_add (4 * n + 1) 1) ?_
  refine wr_sld C hX hbl hbA (i := 4 * n + 1 + 1) (by omega) (by omega) dL_law_505 ?_
  refine wr_callV1 C (As := [.int (xs (4 * n + 1 + 1))]) (rest := []) hw cb_W_stamp (Or.inl tw_303) tw_304 tw_305 (by omega) wc_c_WC rfl ⟨by decide, by decide⟩ (by decide) rfl rfl (Nat.le_of_ble_eq_true rfl) ⟨by decide, by decide⟩ dL_law_506 ?_
  refine wr_aload_n C 1 dL_law_509 rfl rfl ?_
  refine wr_aload_n C 3 dL_law_510 rfl rfl ?_
  refine wr_iload_n C 0 dL_law_511 rfl rfl ?_
  refine wr_iconst C (v := nI 1) dL_law_512 (by decide) ?_
  refine wr_iadd C (z := nI (4 * n + 1 + 1)) dL_law_513 (nI_add (4 * n + 1) 1) ?_
  refine wr_sld C hX hbl hbA (i := 4 * n + 1 + 1) (by omega) (by omega) dL_law_514 ?_
  refine wr_callV1 C (As := [.int (xs (4 * n + 1 + 1))]) (rest := [.int v]) hm cb_M_stamp (Or.inl tw_504) tw_505 tw_506 (by omega) wc_c_Model rfl ⟨by decide, by decide⟩ (by decide) rfl rfl (Nat.le_of_ble_eq_true rfl) ⟨by decide, by decide⟩ dL_law_515 ?_
  refine wr_icmp_eq C (tgt := 684) dL_law_518 (by decide) (fun _ => ?_) (fun h => absurd rfl h)
  exact hnext σ' μ' hJ'
set_option maxRecDepth 4000 in
theorem lc_end {p : Program} {l : Launch} {e : Env} {s : State} {m : MethodId} {below : List Frame} {meth : Method} {c : Code} {Γ : wc_G} {b L : Nat} {xs : Nat → Int32} {n : Nat} {σ μ : wc_St} (C0 : lw_C p s m meth c Γ b L xs) (hi : 4 * n + 1 + 4 ≤ L) (hJ : sj_J n σ μ) (hnext : ∀ σ' μ' : wc_St, sj_J (n + 1) σ' μ' → lw_K p l e s m below meth c Γ b 684 (4 * n + 1) [] σ' μ') : lw_K p l e s m below meth c Γ b 523 (4 * n + 1) [] σ μ := by
  obtain ⟨C, hX, hbl, hL, hr, hlk⟩ := C0
  have hbA : ¬ s.heap.size ≤ b := by omega
  obtain ⟨v, σ', μ', hw, hm, hJ'⟩ := lj_end l Γ hJ (by omega) (xs (4 * n + 1 + 1))
  refine wr_aload_n C 2 dL_law_523 rfl rfl ?_
  refine wr_aload_n C 3 dL_law_524 rfl rfl ?_
  refine wr_iload_n C 0 dL_law_525 rfl rfl ?_
  refine wr_iconst C (v := nI 1) dL_law_526 (by decide) ?_
  refine wr_iadd C (z := nI (4 * n + 1 + 1)) dL_law_527 (nI_add (4 * n + 1) 1) ?_
  refine wr_sld C hX hbl hbA (i := 4 * n + 1 + 1) (by omega) (by omega) dL_law_528 ?_
  refine wr_callV1 C (As := [.int (xs (4 * n + 1 + 1))]) (rest := []) hw cb_W_end (Or.inl tw_308) tw_309 tw_310 (by omega) wc_c_WC rfl ⟨by decide, by decide⟩ (by decide) rfl rfl (Nat.le_of_ble_eq_true rfl) ⟨by decide, by decide⟩ dL_law_529 ?_
  refine wr_aload_n C 1 dL_law_532 rfl rfl ?_
  refine wr_aload_n C 3 dL_law_533 rfl rfl ?_
  refine wr_iload_n C 0 dL_law_534 rfl rfl ?_
  refine wr_iconst C (v := nI 1) dL_law_535 (by decide) ?_
  refine wr_iadd C (z := nI (4 * n + 1 + 1)) dL_law_536 (nI_add (4 * n + 1) 1) ?_
  refine wr_sld C hX hbl hbA (i := 4 * n + 1 + 1) (by omega) (by omega) dL_law_537 ?_
  refine wr_callV1 C (As := [.int (xs (4 * n + 1 + 1))]) (rest := [.int v]) hm cb_M_end (Or.inl tw_508) tw_509 tw_510 (by omega) wc_c_Model rfl ⟨by decide, by decide⟩ (by decide) rfl rfl (Nat.le_of_ble_eq_true rfl) ⟨by decide, by decide⟩ dL_law_538 ?_
  refine wr_icmp_eq C (tgt := 684) dL_law_541 (by decide) (fun _ => ?_) (fun h => absurd rfl h)
  exact hnext σ' μ' hJ'
set_option maxRecDepth 4000 in
theorem lc_marks {p : Program} {l : Launch} {e : Env} {s : State} {m : MethodId} {below : List Frame} {meth : Method} {c : Code} {Γ : wc_G} {b L : Nat} {xs : Nat → Int32} {n : Nat} {σ μ : wc_St} (C0 : lw_C p s m meth c Γ b L xs) (hi : 4 * n + 1 + 4 ≤ L) (hJ : sj_J n σ μ) (hnext : ∀ σ' μ' : wc_St, sj_J (n + 1) σ' μ' → lw_K p l e s m below meth c Γ b 684 (4 * n + 1) [] σ' μ') : lw_K p l e s m below meth c Γ b 546 (4 * n + 1) [] σ μ := by
  obtain ⟨C, hX, hbl, hL, hr, hlk⟩ := C0
  have hbA : ¬ s.heap.size ≤ b := by omega
  obtain ⟨v, σ', μ', hw, hm, hJ'⟩ := lj_marks l Γ hJ (by omega) (xs (4 * n + 1 + 1))
  refine wr_aload_n C 2 dL_law_546 rfl rfl ?_
  refine wr_aload_n C 3 dL_law_547 rfl rfl ?_
  refine wr_iload_n C 0 dL_law_548 rfl rfl ?_
  refine wr_iconst C (v := nI 1) dL_law_549 (by decide) ?_
  refine wr_iadd C (z := nI (4 * n + 1 + 1)) dL_law_550 (nI_add (4 * n + 1) 1) ?_
  refine wr_sld C hX hbl hbA (i := 4 * n + 1 + 1) (by omega) (by omega) dL_law_551 ?_
  refine wr_callV1 C (As := [.int (xs (4 * n + 1 + 1))]) (rest := []) hw cb_W_marks (Or.inl tw_312) tw_313 tw_314 (by omega) wc_c_WC rfl ⟨by decide, by decide⟩ (by decide) rfl rfl (Nat.le_of_ble_eq_true rfl) ⟨by decide, by decide⟩ dL_law_552 ?_
  refine wr_aload_n C 1 dL_law_555 rfl rfl ?_
  refine wr_aload_n C 3 dL_law_556 rfl rfl ?_
  refine wr_iload_n C 0 dL_law_557 rfl rfl ?_
  refine wr_iconst C (v := nI 1) dL_law_558 (by decide) ?_
  refine wr_iadd C (z := nI (4 * n + 1 + 1)) dL_law_559 (nI_add (4 * n + 1) 1) ?_
  refine wr_sld C hX hbl hbA (i := 4 * n + 1 + 1) (by omega) (by omega) dL_law_560 ?_
  refine wr_callV1 C (As := [.int (xs (4 * n + 1 + 1))]) (rest := [.int v]) hm cb_M_marks (Or.inl tw_512) tw_513 tw_514 (by omega) wc_c_Model rfl ⟨by decide, by decide⟩ (by decide) rfl rfl (Nat.le_of_ble_eq_true rfl) ⟨by decide, by decide⟩ dL_law_561 ?_
  refine wr_icmp_eq C (tgt := 684) dL_law_564 (by decide) (fun _ => ?_) (fun h => absurd rfl h)
  exact hnext σ' μ' hJ'
set_option maxRecDepth 4000 in
theorem lc_safe {p : Program} {l : Launch} {e : Env} {s : State} {m : MethodId} {below : List Frame} {meth : Method} {c : Code} {Γ : wc_G} {b L : Nat} {xs : Nat → Int32} {n : Nat} {σ μ : wc_St} (C0 : lw_C p s m meth c Γ b L xs) (hi : 4 * n + 1 + 4 ≤ L) (hJ : sj_J n σ μ) (hnext : ∀ σ' μ' : wc_St, sj_J (n + 1) σ' μ' → lw_K p l e s m below meth c Γ b 684 (4 * n + 1) [] σ' μ') : lw_K p l e s m below meth c Γ b 569 (4 * n + 1) [] σ μ := by
  obtain ⟨C, hX, hbl, hL, hr, hlk⟩ := C0
  have hbA : ¬ s.heap.size ≤ b := by omega
  obtain ⟨v, σ', μ', hw, hm, hJ'⟩ := lj_safe l Γ hJ (by omega) (xs (4 * n + 1 + 1))
  refine wr_aload_n C 2 dL_law_569 rfl rfl ?_
  refine wr_aload_n C 3 dL_law_570 rfl rfl ?_
  refine wr_iload_n C 0 dL_law_571 rfl rfl ?_
  refine wr_iconst C (v := nI 1) dL_law_572 (by decide) ?_
  refine wr_iadd C (z := nI (4 * n + 1 + 1)) dL_law_573 (nI_add (4 * n + 1) 1) ?_
  refine wr_sld C hX hbl hbA (i := 4 * n + 1 + 1) (by omega) (by omega) dL_law_574 ?_
  refine wr_callV1 C (As := [.int (xs (4 * n + 1 + 1))]) (rest := []) hw cb_W_safe (Or.inl tw_316) tw_317 tw_318 (by omega) wc_c_WC rfl ⟨by decide, by decide⟩ (by decide) rfl rfl (Nat.le_of_ble_eq_true rfl) ⟨by decide, by decide⟩ dL_law_575 ?_
  refine wr_aload_n C 1 dL_law_578 rfl rfl ?_
  refine wr_aload_n C 3 dL_law_579 rfl rfl ?_
  refine wr_iload_n C 0 dL_law_580 rfl rfl ?_
  refine wr_iconst C (v := nI 1) dL_law_581 (by decide) ?_
  refine wr_iadd C (z := nI (4 * n + 1 + 1)) dL_law_582 (nI_add (4 * n + 1) 1) ?_
  refine wr_sld C hX hbl hbA (i := 4 * n + 1 + 1) (by omega) (by omega) dL_law_583 ?_
  refine wr_callV1 C (As := [.int (xs (4 * n + 1 + 1))]) (rest := [.int v]) hm cb_M_safe (Or.inl tw_516) tw_492 tw_493 (by omega) wc_c_Model rfl ⟨by decide, by decide⟩ (by decide) rfl rfl (Nat.le_of_ble_eq_true rfl) ⟨by decide, by decide⟩ dL_law_584 ?_
  refine wr_icmp_eq C (tgt := 684) dL_law_587 (by decide) (fun _ => ?_) (fun h => absurd rfl h)
  exact hnext σ' μ' hJ'
set_option maxRecDepth 4000 in
theorem lc_bound {p : Program} {l : Launch} {e : Env} {s : State} {m : MethodId} {below : List Frame} {meth : Method} {c : Code} {Γ : wc_G} {b L : Nat} {xs : Nat → Int32} {n : Nat} {σ μ : wc_St} (C0 : lw_C p s m meth c Γ b L xs) (hi : 4 * n + 1 + 4 ≤ L) (hJ : sj_J n σ μ) (hnext : ∀ σ' μ' : wc_St, sj_J (n + 1) σ' μ' → lw_K p l e s m below meth c Γ b 684 (4 * n + 1) [] σ' μ') : lw_K p l e s m below meth c Γ b 592 (4 * n + 1) [] σ μ := by
  obtain ⟨C, hX, hbl, hL, hr, hlk⟩ := C0
  have hbA : ¬ s.heap.size ≤ b := by omega
  obtain ⟨v, σ', μ', hw, hm, hJ'⟩ := lj_bound l Γ hJ (by omega) (xs (4 * n + 1 + 1))
  refine wr_aload_n C 2 dL_law_592 rfl rfl ?_
  refine wr_aload_n C 3 dL_law_593 rfl rfl ?_
  refine wr_iload_n C 0 dL_law_594 rfl rfl ?_
  refine wr_iconst C (v := nI 1) dL_law_595 (by decide) ?_
  refine wr_iadd C (z := nI (4 * n + 1 + 1)) dL_law_596 (nI_add (4 * n + 1) 1) ?_
  refine wr_sld C hX hbl hbA (i := 4 * n + 1 + 1) (by omega) (by omega) dL_law_597 ?_
  refine wr_callV1 C (As := [.int (xs (4 * n + 1 + 1))]) (rest := []) hw cb_W_bound (Or.inl tw_320) tw_321 tw_322 (by omega) wc_c_WC rfl ⟨by decide, by decide⟩ (by decide) rfl rfl (Nat.le_of_ble_eq_true rfl) ⟨by decide, by decide⟩ dL_law_598 ?_
  refine wr_aload_n C 1 dL_law_601 rfl rfl ?_
  refine wr_aload_n C 3 dL_law_602 rfl rfl ?_
  refine wr_iload_n C 0 dL_law_603 rfl rfl ?_
  refine wr_iconst C (v := nI 1) dL_law_604 (by decide) ?_
  refine wr_iadd C (z := nI (4 * n + 1 + 1)) dL_law_605 (nI_add (4 * n + 1) 1) ?_
  refine wr_sld C hX hbl hbA (i := 4 * n + 1 + 1) (by omega) (by omega) dL_law_606 ?_
  refine wr_callV1 C (As := [.int (xs (4 * n + 1 + 1))]) (rest := [.int v]) hm cb_M_bound (Or.inl tw_517) tw_518 tw_519 (by omega) wc_c_Model rfl ⟨by decide, by decide⟩ (by decide) rfl rfl (Nat.le_of_ble_eq_true rfl) ⟨by decide, by decide⟩ dL_law_607 ?_
  refine wr_icmp_eq C (tgt := 684) dL_law_610 (by decide) (fun _ => ?_) (fun h => absurd rfl h)
  exact hnext σ' μ' hJ'
set_option maxRecDepth 4000 in
theorem lc_holders {p : Program} {l : Launch} {e : Env} {s : State} {m : MethodId} {below : List Frame} {meth : Method} {c : Code} {Γ : wc_G} {b L : Nat} {xs : Nat → Int32} {n : Nat} {σ μ : wc_St} (C0 : lw_C p s m meth c Γ b L xs) (hi : 4 * n + 1 + 4 ≤ L) (hJ : sj_J n σ μ) (hnext : ∀ σ' μ' : wc_St, sj_J (n + 1) σ' μ' → lw_K p l e s m below meth c Γ b 684 (4 * n + 1) [] σ' μ') : lw_K p l e s m below meth c Γ b 615 (4 * n + 1) [] σ μ := by
  obtain ⟨C, hX, hbl, hL, hr, hlk⟩ := C0
  have hbA : ¬ s.heap.size ≤ b := by omega
  obtain ⟨v, σ', μ', hw, hm, hJ'⟩ := lj_holders l Γ hJ (by omega) (xs (4 * n + 1 + 1))
  refine wr_aload_n C 2 dL_law_615 rfl rfl ?_
  refine wr_aload_n C 3 dL_law_616 rfl rfl ?_
  refine wr_iload_n C 0 dL_law_617 rfl rfl ?_
  refine wr_iconst C (v := nI 1) dL_law_618 (by decide) ?_
  refine wr_iadd C (z := nI (4 * n + 1 + 1)) dL_law_619 (nI_add (4 * n + 1) 1) ?_
  refine wr_sld C hX hbl hbA (i := 4 * n + 1 + 1) (by omega) (by omega) dL_law_620 ?_
  refine wr_callV1 C (As := [.int (xs (4 * n + 1 + 1))]) (rest := []) hw cb_W_holders (Or.inl tw_324) tw_325 tw_326 (by omega) wc_c_WC rfl ⟨by decide, by decide⟩ (by decide) rfl rfl (Nat.le_of_ble_eq_true rfl) ⟨by decide, by decide⟩ dL_law_621 ?_
  refine wr_aload_n C 1 dL_law_624 rfl rfl ?_
  refine wr_aload_n C 3 dL_law_625 rfl rfl ?_
  refine wr_iload_n C 0 dL_law_626 rfl rfl ?_
  refine wr_iconst C (v := nI 1) dL_law_627 (by decide) ?_
  refine wr_iadd C (z := nI (4 * n + 1 + 1)) dL_law_628 (nI_add (4 * n + 1) 1) ?_
  refine wr_sld C hX hbl hbA (i := 4 * n + 1 + 1) (by omega) (by omega) dL_law_629 ?_
  refine wr_callV1 C (As := [.int (xs (4 * n + 1 + 1))]) (rest := [.int v]) hm cb_M_holders (Or.inl tw_521) tw_522 tw_523 (by omega) wc_c_Model rfl ⟨by decide, by decide⟩ (by decide) rfl rfl (Nat.le_of_ble_eq_true rfl) ⟨by decide, by decide⟩ dL_law_630 ?_
  refine wr_icmp_eq C (tgt := 684) dL_law_633 (by decide) (fun _ => ?_) (fun h => absurd rfl h)
  exact hnext σ' μ' hJ'
set_option maxRecDepth 4000 in
theorem lc_version {p : Program} {l : Launch} {e : Env} {s : State} {m : MethodId} {below : List Frame} {meth : Method} {c : Code} {Γ : wc_G} {b L : Nat} {xs : Nat → Int32} {n : Nat} {σ μ : wc_St} (C0 : lw_C p s m meth c Γ b L xs) (hi : 4 * n + 1 + 4 ≤ L) (hJ : sj_J n σ μ) (hnext : ∀ σ' μ' : wc_St, sj_J (n + 1) σ' μ' → lw_K p l e s m below meth c Γ b 684 (4 * n + 1) [] σ' μ') : lw_K p l e s m below meth c Γ b 638 (4 * n + 1) [] σ μ := by
  obtain ⟨C, hX, hbl, hL, hr, hlk⟩ := C0
  have hbA : ¬ s.heap.size ≤ b := by omega
  obtain ⟨v, σ', μ', hw, hm, hJ'⟩ := lj_version l Γ hJ (by omega) (xs (4 * n + 1 + 1)) (xs (4 * n + 1 + 2))
  refine wr_aload_n C 2 dL_law_638 rfl rfl ?_
  refine wr_aload_n C 3 dL_law_639 rfl rfl ?_
  refine wr_iload_n C 0 dL_law_640 rfl rfl ?_
  refine wr_iconst C (v := nI 1) dL_law_641 (by decide) ?_
  refine wr_iadd C (z := nI (4 * n + 1 + 1)) dL_law_642 (nI_add (4 * n + 1) 1) ?_
  refine wr_sld C hX hbl hbA (i := 4 * n + 1 + 1) (by omega) (by omega) dL_law_643 ?_
  refine wr_aload_n C 3 dL_law_644 rfl rfl ?_
  refine wr_iload_n C 0 dL_law_645 rfl rfl ?_
  refine wr_iconst C (v := nI 2) dL_law_646 (by decide) ?_
  refine wr_iadd C (z := nI (4 * n + 1 + 2)) dL_law_647 (nI_add (4 * n + 1) 2) ?_
  refine wr_sld C hX hbl hbA (i := 4 * n + 1 + 2) (by omega) (by omega) dL_law_648 ?_
  refine wr_callV1 C (As := [.int (xs (4 * n + 1 + 1)), .int (xs (4 * n + 1 + 2))]) (rest := []) hw cb_W_version (Or.inl tw_328) tw_329 tw_330 (by omega) wc_c_WC rfl ⟨by decide, by decide⟩ (by decide) rfl rfl (Nat.le_of_ble_eq_true rfl) ⟨by decide, by decide⟩ dL_law_649 ?_
  refine wr_aload_n C 1 dL_law_652 rfl rfl ?_
  refine wr_aload_n C 3 dL_law_653 rfl rfl ?_
  refine wr_iload_n C 0 dL_law_654 rfl rfl ?_
  refine wr_iconst C (v := nI 1) dL_law_655 (by decide) ?_
  refine wr_iadd C (z := nI (4 * n + 1 + 1)) dL_law_656 (nI_add (4 * n + 1) 1) ?_
  refine wr_sld C hX hbl hbA (i := 4 * n + 1 + 1) (by omega) (by omega) dL_law_657 ?_
  refine wr_aload_n C 3 dL_law_658 rfl rfl ?_
  refine wr_iload_n C 0 dL_law_659 rfl rfl ?_
  refine wr_iconst C (v := nI 2) dL_law_660 (by decide) ?_
  refine wr_iadd C (z := nI (4 * n + 1 + 2)) dL_law_661 (nI_add (4 * n + 1) 2) ?_
  refine wr_sld C hX hbl hbA (i := 4 * n + 1 + 2) (by omega) (by omega) dL_law_662 ?_
  refine wr_callV1 C (As := [.int (xs (4 * n + 1 + 1)), .int (xs (4 * n + 1 + 2))]) (rest := [.int v]) hm cb_M_version (Or.inl tw_483) tw_484 tw_485 (by omega) wc_c_Model rfl ⟨by decide, by decide⟩ (by decide) rfl rfl (Nat.le_of_ble_eq_true rfl) ⟨by decide, by decide⟩ dL_law_663 ?_
  refine wr_icmp_eq C (tgt := 684) dL_law_666 (by decide) (fun _ => ?_) (fun h => absurd rfl h)
  exact hnext σ' μ' hJ'
set_option maxRecDepth 4000 in
theorem lc_messages {p : Program} {l : Launch} {e : Env} {s : State} {m : MethodId} {below : List Frame} {meth : Method} {c : Code} {Γ : wc_G} {b L : Nat} {xs : Nat → Int32} {n : Nat} {σ μ : wc_St} (C0 : lw_C p s m meth c Γ b L xs) (hi : 4 * n + 1 + 4 ≤ L) (hJ : sj_J n σ μ) (hnext : ∀ σ' μ' : wc_St, sj_J (n + 1) σ' μ' → lw_K p l e s m below meth c Γ b 684 (4 * n + 1) [] σ' μ') : lw_K p l e s m below meth c Γ b 671 (4 * n + 1) [] σ μ := by
  obtain ⟨C, hX, hbl, hL, hr, hlk⟩ := C0
  have hbA : ¬ s.heap.size ≤ b := by omega
  obtain ⟨v, σ', μ', hw, hm, hJ'⟩ := lj_messages l Γ hJ (by omega) 
  refine wr_aload_n C 2 dL_law_671 rfl rfl ?_
  refine wr_callV1 C (As := []) (rest := []) hw cb_W_messages (Or.inl tw_332) tw_333 tw_334 (by omega) wc_c_WC rfl ⟨by decide, by decide⟩ (by decide) rfl rfl (Nat.le_of_ble_eq_true rfl) ⟨by decide, by decide⟩ dL_law_672 ?_
  refine wr_aload_n C 1 dL_law_675 rfl rfl ?_
  refine wr_callV1 C (As := []) (rest := [.int v]) hm cb_M_messages (Or.inl tw_525) tw_526 tw_527 (by omega) wc_c_Model rfl ⟨by decide, by decide⟩ (by decide) rfl rfl (Nat.le_of_ble_eq_true rfl) ⟨by decide, by decide⟩ dL_law_676 ?_
  refine wr_icmp_eq C (tgt := 684) dL_law_679 (by decide) (fun _ => ?_) (fun h => absurd rfl h)
  exact hnext σ' μ' hJ'
theorem lw_loop {p : Program} {l : Launch} {e : Env} {s : State} {m : MethodId} {below : List Frame} {meth : Method} {c : Code} {Γ : wc_G} {b L : Nat} {xs : Nat → Int32} (C0 : lw_C p s m meth c Γ b L xs) : ∀ (f n : Nat) (σ μ : wc_St), L < 4 * n + 1 + f → sj_J n σ μ → n ≤ 600 → lw_K p l e s m below meth c Γ b 28 (4 * n + 1) [] σ μ := by
  intro f
  induction f with
  | zero =>
    intro n σ μ hf hJ hn
    have C := C0.1
    obtain ⟨_, hX, hbl, hL, hr, hlk⟩ := C0
    have hbA : ¬ s.heap.size ≤ b := by omega
    refine wr_iload_n C 0 dL_law_28 rfl rfl ?_
    refine wr_aload_n C 3 dL_law_29 rfl rfl ?_
    refine wr_slen C hX hbl hbA dL_law_30 ?_
    refine wr_iconst C (v := nI 4) dL_law_31 (by decide) ?_
    refine wr_isub C dL_law_32 rfl ?_
    refine wr_icmp_gt C (tgt := 690) dL_law_33 (by decide) (fun _ => ?_) (fun h => absurd (lw_more hL (by omega) h) (by omega))
    exact lw_fin C hr hlk
  | succ f ih =>
    intro n σ μ hf hJ hn
    have C := C0.1
    obtain ⟨_, hX, hbl, hL, hr, hlk⟩ := id C0
    have hbA : ¬ s.heap.size ≤ b := by omega
    refine wr_iload_n C 0 dL_law_28 rfl rfl ?_
    refine wr_aload_n C 3 dL_law_29 rfl rfl ?_
    refine wr_slen C hX hbl hbA dL_law_30 ?_
    refine wr_iconst C (v := nI 4) dL_law_31 (by decide) ?_
    refine wr_isub C dL_law_32 rfl ?_
    refine wr_icmp_gt C (tgt := 690) dL_law_33 (by decide) (fun _ => ?_) (fun h => ?_)
    · exact lw_fin C hr hlk
    have hi : 4 * n + 1 + 4 ≤ L := lw_more hL (by omega) h
    have hnext : ∀ σ' μ' : wc_St, sj_J (n + 1) σ' μ' → lw_K p l e s m below meth c Γ b 684 (4 * n + 1) [] σ' μ' := by
      intro σ' μ' hJ'
      refine wr_iinc C (v := nI (4 * (n + 1) + 1)) (vs' := [(3, .int (nI (4 * (n + 1) + 1))), (2, .ref (Γ.2.2 70)), (1, .ref (Γ.2.2 0)), (0, .ref b)]) 0 dL_law_684 rfl (by rw [show 4 * (n + 1) + 1 = 4 * n + 1 + 4 by omega]; exact nI_add (4 * n + 1) 4) (by decide) rfl ?_
      refine wr_goto C (tgt := 28) dL_law_687 (by decide) ?_
      exact ih (n + 1) σ' μ' (by omega) hJ' (by omega)
    refine wr_aload_n C 3 dL_law_36 rfl rfl ?_
    refine wr_iload_n C 0 dL_law_37 rfl rfl ?_
    refine wr_sld C hX hbl hbA (i := 4 * n + 1) (by omega) (by omega) dL_law_38 ?_
    refine wr_bipush C (v := nI 31) dL_law_39 (by decide) ?_
    obtain ⟨j, hj, ej⟩ := pk_andE (xs (4 * n + 1)) (m := nI 31) 5 (by decide)
    refine wr_iand C (z := nI j) dL_law_41 ej ?_
    by_cases h20 : 20 ≤ j
    · refine wr_tabOut C (tgt := 684) dL_law_42 (Or.inr (by rw [nI_toInt (by omega)]; omega)) (by decide) ?_
      exact hnext σ μ (jj_mono hJ)
    rcases (show j = 0 ∨ j = 1 ∨ j = 2 ∨ j = 3 ∨ j = 4 ∨ j = 5 ∨ j = 6 ∨ j = 7 ∨ j = 8 ∨ j = 9 ∨ j = 10 ∨ j = 11 ∨ j = 12 ∨ j = 13 ∨ j = 14 ∨ j = 15 ∨ j = 16 ∨ j = 17 ∨ j = 18 ∨ j = 19 by omega) with hq | hq | hq | hq | hq | hq | hq | hq | hq | hq | hq | hq | hq | hq | hq | hq | hq | hq | hq | hq
    · subst hq
      exact wr_tabIn C (tgt := 136) dL_law_42 (by decide) (by decide) rfl (by decide) (lc_clock C0 hi hJ hnext)
    · subst hq
      exact wr_tabIn C (tgt := 179) dL_law_42 (by decide) (by decide) rfl (by decide) (lc_delay C0 hi hJ hnext)
    · subst hq
      exact wr_tabIn C (tgt := 212) dL_law_42 (by decide) (by decide) rfl (by decide) (lc_power C0 hi hJ hnext)
    · subst hq
      exact wr_tabIn C (tgt := 261) dL_law_42 (by decide) (by decide) rfl (by decide) (lc_begin C0 hi hJ hnext)
    · subst hq
      exact wr_tabIn C (tgt := 284) dL_law_42 (by decide) (by decide) rfl (by decide) (lc_read C0 hi hJ hnext)
    · subst hq
      exact wr_tabIn C (tgt := 318) dL_law_42 (by decide) (by decide) rfl (by decide) (lc_write C0 hi hJ hnext)
    · subst hq
      exact wr_tabIn C (tgt := 361) dL_law_42 (by decide) (by decide) rfl (by decide) (lc_commit C0 hi hJ hnext)
    · subst hq
      exact wr_tabIn C (tgt := 384) dL_law_42 (by decide) (by decide) rfl (by decide) (lc_abort C0 hi hJ hnext)
    · subst hq
      exact wr_tabIn C (tgt := 407) dL_law_42 (by decide) (by decide) rfl (by decide) (lc_readAt C0 hi hJ hnext)
    · subst hq
      exact wr_tabIn C (tgt := 441) dL_law_42 (by decide) (by decide) rfl (by decide) (lc_step C0 hi hJ hnext)
    · subst hq
      exact wr_tabIn C (tgt := 464) dL_law_42 (by decide) (by decide) rfl (by decide) (lc_now C0 hi hJ hnext)
    · subst hq
      exact wr_tabIn C (tgt := 477) dL_law_42 (by decide) (by decide) rfl (by decide) (lc_state C0 hi hJ hnext)
    · subst hq
      exact wr_tabIn C (tgt := 500) dL_law_42 (by decide) (by decide) rfl (by decide) (lc_stamp C0 hi hJ hnext)
    · subst hq
      exact wr_tabIn C (tgt := 523) dL_law_42 (by decide) (by decide) rfl (by decide) (lc_end C0 hi hJ hnext)
    · subst hq
      exact wr_tabIn C (tgt := 546) dL_law_42 (by decide) (by decide) rfl (by decide) (lc_marks C0 hi hJ hnext)
    · subst hq
      exact wr_tabIn C (tgt := 569) dL_law_42 (by decide) (by decide) rfl (by decide) (lc_safe C0 hi hJ hnext)
    · subst hq
      exact wr_tabIn C (tgt := 592) dL_law_42 (by decide) (by decide) rfl (by decide) (lc_bound C0 hi hJ hnext)
    · subst hq
      exact wr_tabIn C (tgt := 615) dL_law_42 (by decide) (by decide) rfl (by decide) (lc_holders C0 hi hJ hnext)
    · subst hq
      exact wr_tabIn C (tgt := 638) dL_law_42 (by decide) (by decide) rfl (by decide) (lc_version C0 hi hJ hnext)
    · subst hq
      exact wr_tabIn C (tgt := 671) dL_law_42 (by decide) (by decide) rfl (by decide) (lc_messages C0 hi hJ hnext)
