def wn_wl (n : Nat) (ω : Nat → Nat × va_E) : va_W := (List.range n).map ω
def wn_up (ω : Nat → Nat × va_E) (k : Nat) (x : Nat × va_E) : Nat → Nat × va_E := fun j => if j = k then x else ω j
/-- the cells from n on are those that a constructor left -/
def wn_jn (ω : Nat → Nat × va_E) (n : Nat) (g : Nat → Nat) (E : (Nat → Nat) → Nat → va_E) : Nat → Nat × va_E := fun j => if j < n then ω j else (g (j - n), E g (j - n))
theorem wn_at {n k : Nat} {ω : Nat → Nat × va_E} {x : Nat × va_E} (h : k < n) (e : ω k = x) : (wn_wl n ω)[k]? = some x := by
  subst e
  simp [wn_wl, h]
theorem wn_lk {n k : Nat} {ω : Nat → Nat × va_E} {x : Nat × va_E} (h : (wn_wl n ω)[k]? = some x) : k < n ∧ ω k = x := by
  by_cases hk : k < n
  · simp [wn_wl, hk] at h
    exact ⟨hk, h⟩
  · simp [wn_wl, hk] at h
theorem wn_ext {n n' : Nat} {ω ω' : Nat → Nat × va_E} (hn : n = n') (h : ∀ k, k < n → ω k = ω' k) : wn_wl n ω = wn_wl n' ω' := by
  subst hn
  apply List.ext_getElem?
  intro j
  by_cases hj : j < n
  · simp [wn_wl, hj, h j hj]
  · simp [wn_wl, hj]
theorem wn_set (n k : Nat) (ω : Nat → Nat × va_E) (x : Nat × va_E) : (wn_wl n ω).set k x = wn_wl n (wn_up ω k x) := by
  apply List.ext_getElem?
  intro j
  by_cases hj : j = k
  · subst hj
    rw [List.getElem?_set_self']
    by_cases hq : j < n
    · simp [wn_wl, hq, wn_up]
    · simp [wn_wl, hq]
  · rw [List.getElem?_set_ne (Ne.symm hj)]
    by_cases hq : j < n
    · simp [wn_wl, hq, wn_up, hj]
    · simp [wn_wl, hq]
theorem wn_push (n : Nat) (ω : Nat → Nat × va_E) (x : Nat × va_E) : wn_wl n ω ++ [x] = wn_wl (n + 1) (wn_up ω n x) := by
  unfold wn_wl
  rw [List.range_succ, List.map_append]
  congr 1
  · apply List.map_congr_left
    intro a ha
    have := List.mem_range.mp ha
    simp [wn_up, show ¬ a = n by omega]
  · simp [wn_up]
theorem wn_app (n n1 : Nat) (ω : Nat → Nat × va_E) (g : Nat → Nat) (E : (Nat → Nat) → Nat → va_E) : wn_wl n ω ++ wn_wl n1 (fun j => (g j, E g j)) = wn_wl (n + n1) (wn_jn ω n g E) := by
  apply List.ext_getElem?
  intro j
  by_cases hj : j < n
  · rw [List.getElem?_append_left (by simpa [wn_wl] using hj)]
    simp [wn_wl, hj, wn_jn, show j < n + n1 by omega]
  · rw [List.getElem?_append_right (by simpa [wn_wl] using hj)]
    by_cases h1 : j < n + n1
    · simp [wn_wl, wn_jn, hj, h1, show j - n < n1 by omega]
    · simp [wn_wl, h1, show ¬ j - n < n1 by omega]
theorem wn_nd (l : List Nat) (h : l.Nodup) : va_nd l = true := by
  induction l with
  | nil => rfl
  | cons a l ih =>
    rw [List.nodup_cons] at h
    simp [va_nd, h.1, ih h.2]
/-- the tables' words of array classes -/
def wn_B (U : State) : Prop := ((Cond.arrayClass .int).before #[] U = true ∧ (Cond.arrayClass .boolean).before #[] U = true) ∧ va_AO "WaitedCommits$Site" U ∧ va_AO "WaitedCommits$Key" U ∧ va_AO "WaitedCommits$Transaction" U ∧ va_AO "WaitedCommits$Message" U
theorem wn_B.warm {s U : State} (hW : s.WarmedH U.vm) (h : wn_B s) : wn_B U :=
  ⟨⟨word_at hW (Or.inr ⟨_, rfl⟩) h.1.1, word_at hW (Or.inr ⟨_, rfl⟩) h.1.2⟩, va_AO.moved hW.alike h.2.1, va_AO.moved hW.alike h.2.2.1, va_AO.moved hW.alike h.2.2.2.1, va_AO.moved hW.alike h.2.2.2.2⟩
section WNK
variable {p : Program} {l : Launch} {e : Env} {R : Room} {s : State} {m : MethodId} {args : Array Value} {below : List Frame} {meth : Method} {c : Code} {cells slots : Nat} {Q : State → Prop} {nL : Nat} {Γ : wc_G} {A : Nat → Prop}
variable {cc : ByteArray} {own : String} {pc : Nat} {vs : List (Nat × Value)} {st : List Value} {n : Nat} {ω : Nat → Nat × va_E}
def wn_K (p : Program) (l : Launch) (e : Env) (R : Room) (s : State) (m : MethodId) (args : Array Value) (below : List Frame) (meth : Method) (c : Code) (nL : Nat) (Γ : wc_G) (A : Nat → Prop) (Q : State → Prop) (cells slots pc : Nat) (vs : List (Nat × Value)) (st : List Value) (n : Nat) (ω : Nat → Nat × va_E) : Prop :=
  ∀ (ls : Array Slot) (H : Heap) (locs : List Loc), lv_has ls nL vs → va_P Γ.1 vwCl (wn_wl n ω) H → va_D A (wn_wl n ω) → va_S A s.heap H locs → W p l e R s m args below meth c H locs cells slots Q (F0 m pc ls st)
theorem nr_iconst (C : wc_C p s m args c cc nL own Γ A) {n0 : Int} {v : Int32} (hd : decode cc pc = .ok (.iconst n0, 1)) (hv : Int32.ofInt n0 = v)
    (kk : wn_K p l e R s m args below meth c nL Γ A Q cells slots (pc + 1) (vs) (.int v :: st) n ω) : wn_K p l e R s m args below meth c nL Γ A Q cells slots (pc) (vs) (st) n ω :=
  fun ls H locs hl hP hD hS => lv_iconst C.1.1 C.1.2.1 hd hv (kk ls H locs hl hP hD hS)
theorem nr_bipush (C : wc_C p s m args c cc nL own Γ A) {n0 : Int} {v : Int32} (hd : decode cc pc = .ok (.bipush n0, 2)) (hv : (Int8.ofInt n0).toInt32 = v)
    (kk : wn_K p l e R s m args below meth c nL Γ A Q cells slots (pc + 2) (vs) (.int v :: st) n ω) : wn_K p l e R s m args below meth c nL Γ A Q cells slots (pc) (vs) (st) n ω :=
  fun ls H locs hl hP hD hS => lv_bipush C.1.1 C.1.2.1 hd hv (kk ls H locs hl hP hD hS)
theorem nr_sipush (C : wc_C p s m args c cc nL own Γ A) {n0 : Int} {v : Int32} (hd : decode cc pc = .ok (.sipush n0, 3)) (hv : (Int16.ofInt n0).toInt32 = v)
    (kk : wn_K p l e R s m args below meth c nL Γ A Q cells slots (pc + 3) (vs) (.int v :: st) n ω) : wn_K p l e R s m args below meth c nL Γ A Q cells slots (pc) (vs) (st) n ω :=
  fun ls H locs hl hP hD hS => lv_sipush C.1.1 C.1.2.1 hd hv (kk ls H locs hl hP hD hS)
theorem nr_iload_n (C : wc_C p s m args c cc nL own Γ A) {k : Fin 4} {i : Nat} {x : Int32} (j : Nat) (hd : decode cc pc = .ok (.iload_n k, 1)) (hi : (k : Nat) = i) (hv : vs[j]? = some (i, .int x))
    (kk : wn_K p l e R s m args below meth c nL Γ A Q cells slots (pc + 1) (vs) (.int x :: st) n ω) : wn_K p l e R s m args below meth c nL Γ A Q cells slots (pc) (vs) (st) n ω :=
  fun ls H locs hl hP hD hS => lv_iload_n C.1.1 C.1.2.1 hd hi (lv_at hl j hv) (kk ls H locs hl hP hD hS)
theorem nr_aload_n (C : wc_C p s m args c cc nL own Γ A) {k : Fin 4} {i : Nat} {x : Nat} (j : Nat) (hd : decode cc pc = .ok (.aload_n k, 1)) (hi : (k : Nat) = i) (hv : vs[j]? = some (i, .ref x))
    (kk : wn_K p l e R s m args below meth c nL Γ A Q cells slots (pc + 1) (vs) (.ref x :: st) n ω) : wn_K p l e R s m args below meth c nL Γ A Q cells slots (pc) (vs) (st) n ω :=
  fun ls H locs hl hP hD hS => lv_aload_n C.1.1 C.1.2.1 hd hi (lv_at hl j hv) (kk ls H locs hl hP hD hS)
theorem nr_istore_n (C : wc_C p s m args c cc nL own Γ A) {k : Fin 4} {i : Nat} {x : Int32} {vs' : List (Nat × Value)} (hd : decode cc pc = .ok (.istore_n k, 1)) (hi : (k : Nat) = i) (hn : i < nL) (hw : (i, Value.int x) :: vs.filter (fun q => !(q.1 == i) && !(q.1 + 1 == i && q.2.category == 2)) = vs')
    (kk : wn_K p l e R s m args below meth c nL Γ A Q cells slots (pc + 1) (vs') (st) n ω) : wn_K p l e R s m args below meth c nL Γ A Q cells slots (pc) (vs) (.int x :: st) n ω :=
  fun ls H locs hl hP hD hS => lv_istore_n C.1.1 C.1.2.1 hd hi hl hn hw (fun ls' hl' => kk ls' H locs hl' hP hD hS)
theorem nr_astore_n (C : wc_C p s m args c cc nL own Γ A) {k : Fin 4} {i : Nat} {x : Nat} {vs' : List (Nat × Value)} (hd : decode cc pc = .ok (.astore_n k, 1)) (hi : (k : Nat) = i) (hn : i < nL) (hw : (i, Value.ref x) :: vs.filter (fun q => !(q.1 == i) && !(q.1 + 1 == i && q.2.category == 2)) = vs')
    (kk : wn_K p l e R s m args below meth c nL Γ A Q cells slots (pc + 1) (vs') (st) n ω) : wn_K p l e R s m args below meth c nL Γ A Q cells slots (pc) (vs) (.ref x :: st) n ω :=
  fun ls H locs hl hP hD hS => lv_astore_n C.1.1 C.1.2.1 hd hi hl hn hw (fun ls' hl' => kk ls' H locs hl' hP hD hS)
theorem nr_iinc (C : wc_C p s m args c cc nL own Γ A) {i : Nat} {n0 : Int} {x v : Int32} {vs' : List (Nat × Value)} (j : Nat) (hd : decode cc pc = .ok (.iinc i n0, 3)) (hk : vs[j]? = some (i, .int x)) (hv : x + Int32.ofInt n0 = v) (hn : i < nL) (hw : (i, Value.int v) :: vs.filter (fun q => !(q.1 == i) && !(q.1 + 1 == i && q.2.category == 2)) = vs')
    (kk : wn_K p l e R s m args below meth c nL Γ A Q cells slots (pc + 3) (vs') (st) n ω) : wn_K p l e R s m args below meth c nL Γ A Q cells slots (pc) (vs) (st) n ω :=
  fun ls H locs hl hP hD hS => lv_iinc C.1.1 C.1.2.1 hd hl hk hv hn hw (fun ls' hl' => kk ls' H locs hl' hP hD hS)
theorem nr_iadd (C : wc_C p s m args c cc nL own Γ A) {x y z : Int32} (hd : decode cc pc = .ok (.iadd, 1)) (hz : x + y = z)
    (kk : wn_K p l e R s m args below meth c nL Γ A Q cells slots (pc + 1) (vs) (.int z :: st) n ω) : wn_K p l e R s m args below meth c nL Γ A Q cells slots (pc) (vs) (.int y :: .int x :: st) n ω := by
  subst hz; exact fun ls H locs hl hP hD hS => lv_iadd C.1.1 C.1.2.1 hd (kk ls H locs hl hP hD hS)
theorem nr_imul (C : wc_C p s m args c cc nL own Γ A) {x y z : Int32} (hd : decode cc pc = .ok (.imul, 1)) (hz : x * y = z)
    (kk : wn_K p l e R s m args below meth c nL Γ A Q cells slots (pc + 1) (vs) (.int z :: st) n ω) : wn_K p l e R s m args below meth c nL Γ A Q cells slots (pc) (vs) (.int y :: .int x :: st) n ω := by
  subst hz; exact fun ls H locs hl hP hD hS => lv_imul C.1.1 C.1.2.1 hd (kk ls H locs hl hP hD hS)
theorem nr_dup (C : wc_C p s m args c cc nL own Γ A) {va : Value} (hd : decode cc pc = .ok (.dup, 1)) (hva : va.category = 1)
    (kk : wn_K p l e R s m args below meth c nL Γ A Q cells slots (pc + 1) (vs) (va :: va :: st) n ω) : wn_K p l e R s m args below meth c nL Γ A Q cells slots (pc) (vs) (va :: st) n ω :=
  fun ls H locs hl hP hD hS => lv_dup C.1.1 C.1.2.1 hd hva (kk ls H locs hl hP hD hS)
theorem nr_if_ge (C : wc_C p s m args c cc nL own Γ A) {x : Int32} {off : Int} {tgt : Nat} (hd : decode cc pc = .ok (.ifCond .ge off, 3)) (ht : (pc : Int) + off = (tgt : Int))
    (kt : 0 ≤ x → wn_K p l e R s m args below meth c nL Γ A Q cells slots (tgt) (vs) (st) n ω) (kf : ¬ 0 ≤ x → wn_K p l e R s m args below meth c nL Γ A Q cells slots (pc + 3) (vs) (st) n ω) : wn_K p l e R s m args below meth c nL Γ A Q cells slots (pc) (vs) (.int x :: st) n ω :=
  fun ls H locs hl hP hD hS => lv_if_ge C.1.1 C.1.2.1 hd ht (fun h => kt h ls H locs hl hP hD hS) (fun h => kf h ls H locs hl hP hD hS)
theorem nr_icmp_ge (C : wc_C p s m args c cc nL own Γ A) {x y : Int32} {off : Int} {tgt : Nat} (hd : decode cc pc = .ok (.if_icmp .ge off, 3)) (ht : (pc : Int) + off = (tgt : Int))
    (kt : y ≤ x → wn_K p l e R s m args below meth c nL Γ A Q cells slots (tgt) (vs) (st) n ω) (kf : ¬ y ≤ x → wn_K p l e R s m args below meth c nL Γ A Q cells slots (pc + 3) (vs) (st) n ω) : wn_K p l e R s m args below meth c nL Γ A Q cells slots (pc) (vs) (.int y :: .int x :: st) n ω :=
  fun ls H locs hl hP hD hS => lv_icmp_ge C.1.1 C.1.2.1 hd ht (fun h => kt h ls H locs hl hP hD hS) (fun h => kf h ls H locs hl hP hD hS)
theorem nr_icmp_le (C : wc_C p s m args c cc nL own Γ A) {x y : Int32} {off : Int} {tgt : Nat} (hd : decode cc pc = .ok (.if_icmp .le off, 3)) (ht : (pc : Int) + off = (tgt : Int))
    (kt : x ≤ y → wn_K p l e R s m args below meth c nL Γ A Q cells slots (tgt) (vs) (st) n ω) (kf : ¬ x ≤ y → wn_K p l e R s m args below meth c nL Γ A Q cells slots (pc + 3) (vs) (st) n ω) : wn_K p l e R s m args below meth c nL Γ A Q cells slots (pc) (vs) (.int y :: .int x :: st) n ω :=
  fun ls H locs hl hP hD hS => lv_icmp_le C.1.1 C.1.2.1 hd ht (fun h => kt h ls H locs hl hP hD hS) (fun h => kf h ls H locs hl hP hD hS)
theorem nr_goto (C : wc_C p s m args c cc nL own Γ A) {off : Int} {tgt : Nat} (hd : decode cc pc = .ok (.goto off, 3)) (ht : (pc : Int) + off = (tgt : Int)) (kk : wn_K p l e R s m args below meth c nL Γ A Q cells slots (tgt) (vs) (st) n ω) : wn_K p l e R s m args below meth c nL Γ A Q cells slots (pc) (vs) (st) n ω :=
  fun ls H locs hl hP hD hS => lv_goto C.1.1 C.1.2.1 hd ht (kk ls H locs hl hP hD hS)
theorem nr_mmax (C : wc_C p s m args c cc nL own Γ A) {x y : Int32} {index : Nat} (hm : Cond.methodLink own index Lib.Math.max.name ∈ wc_tb) (hst : Cond.static Lib.Math.max.name ∈ wc_tb) (hi : Cond.initialized "java/lang/Math" ∈ wc_tb) (hco : Cond.code Lib.Math.max.name Lib.Math.max.code 2 (some .int) ∈ wc_tb) (hf : 1 ≤ R.frames) (hlo : 40 ≤ R.locals) (hsum : (st.map fun v => v.category).sum ≤ 8) (hcs : cells ≤ R.cells ∧ slots ≤ R.slots) (hd : decode cc pc = .ok (.invokestatic index, 3))
    (kk : wn_K p l e R s m args below meth c nL Γ A Q cells slots (pc + 3) (vs) (.int (wc_mx x y) :: st) n ω) : wn_K p l e R s m args below meth c nL Γ A Q cells slots (pc) (vs) (.int y :: .int x :: st) n ω :=
  fun ls H locs hl hP hD hS => va_mmax C.1.1 C.1.2.1 (C.1.2.2.1.trans hl.1.symm) C.1.2.2.2.1 (C.1.2.2.2.2 _ hm) (C.1.2.2.2.2 _ hst) (C.1.2.2.2.2 _ hi) (C.1.2.2.2.2 _ hco) hf (by omega) hcs.1 hcs.2 hd (kk ls H locs hl hP hD hS)
theorem nr_mmin (C : wc_C p s m args c cc nL own Γ A) {x y : Int32} {index : Nat} (hm : Cond.methodLink own index Lib.Math.min.name ∈ wc_tb) (hst : Cond.static Lib.Math.min.name ∈ wc_tb) (hi : Cond.initialized "java/lang/Math" ∈ wc_tb) (hco : Cond.code Lib.Math.min.name Lib.Math.min.code 2 (some .int) ∈ wc_tb) (hf : 1 ≤ R.frames) (hlo : 40 ≤ R.locals) (hsum : (st.map fun v => v.category).sum ≤ 8) (hcs : cells ≤ R.cells ∧ slots ≤ R.slots) (hd : decode cc pc = .ok (.invokestatic index, 3))
    (kk : wn_K p l e R s m args below meth c nL Γ A Q cells slots (pc + 3) (vs) (.int (wc_mn x y) :: st) n ω) : wn_K p l e R s m args below meth c nL Γ A Q cells slots (pc) (vs) (.int y :: .int x :: st) n ω :=
  fun ls H locs hl hP hD hS => va_mmin C.1.1 C.1.2.1 (C.1.2.2.1.trans hl.1.symm) C.1.2.2.2.1 (C.1.2.2.2.2 _ hm) (C.1.2.2.2.2 _ hst) (C.1.2.2.2.2 _ hi) (C.1.2.2.2.2 _ hco) hf (by omega) hcs.1 hcs.2 hd (kk ls H locs hl hP hD hS)
theorem nr_sub {vs' : List (Nat × Value)} (ks : List Nat) (h : lv_pick vs ks = vs') (kk : wn_K p l e R s m args below meth c nL Γ A Q cells slots (pc) (vs') (st) n ω) : wn_K p l e R s m args below meth c nL Γ A Q cells slots (pc) (vs) (st) n ω :=
  fun ls H locs hl hP hD hS => kk ls H locs (lv_sub hl ks h) hP hD hS
theorem nr_obj (C : wc_C p s m args c cc nL own Γ A) {a idx : Nat} (hm : Cond.methodLink own idx Lib.objectInit ∈ wc_tb) (hf : 1 ≤ R.frames) (hlo : 40 ≤ R.locals) (hsum : (st.map fun v => v.category).sum ≤ 8) (hd : decode cc pc = .ok (.invokespecial idx, 3))
    (kk : wn_K p l e R s m args below meth c nL Γ A Q cells slots (pc + 3) (vs) (st) n ω) : wn_K p l e R s m args below meth c nL Γ A Q cells slots (pc) (vs) (.ref a :: st) n ω :=
  fun ls H locs hl hP hD hS => W.objInit C.1.1 C.1.2.1 C.1.2.2.2.1 (C.1.2.2.2.2 _ hm) (C.1.2.2.2.2 _ tw_14) (C.1.2.2.2.2 _ tw_15) rfl (hl.1.trans C.1.2.2.1.symm) rfl hd hf (by show 2 * 0 + (st.map fun v => v.category).sum + 12 ≤ R.locals; omega) (kk ls H locs hl hP hD hS)
theorem nr_get (C : wc_C p s m args c cc nL own Γ A) {q a ci N k index : Nat} {T : u_T} {Cn : String} {fs : List Value} {v : Value} (hq : q < n) (hcell : ω q = (a, .inr (ci, fs))) (hc : vwCl[ci]? = some (Cn, T, N)) (hk : k < N) (hin : ∀ w ∈ u_ws Cn T N, w ∈ wc_tb) (hlk : Cond.fieldLink own index (T k).1 (T k).2.1 (T k).2.2.1 ∈ wc_tb) (hv : fs[k]? = some v) (hd : decode cc pc = .ok (.getfield index, 3))
    (kk : wn_K p l e R s m args below meth c nL Γ A Q cells slots (pc + 3) (vs) (v :: st) n ω) : wn_K p l e R s m args below meth c nL Γ A Q cells slots (pc) (vs) (.ref a :: st) n ω :=
  fun ls H locs hl hP hD hS => va_get C.1.1 C.1.2.1 C.1.2.2.2.2 hin C.1.2.2.2.1 C.2.1 hP q (wn_at hq hcell) hc k hk (C.1.2.2.2.2 _ hlk) (fun _ h => h) hv hd (kk ls H locs hl hP hD hS)
theorem nr_put (C : wc_C p s m args c cc nL own Γ A) {q a ci N k index : Nat} {T : u_T} {Cn : String} {fs fs' : List Value} {v : Value} {ty : FieldType} (hq : q < n) (hcell : ω q = (a, .inr (ci, fs))) (hc : vwCl[ci]? = some (Cn, T, N)) (hk : k < N) (hin : ∀ w ∈ u_ws Cn T N, w ∈ wc_tb) (ty0 : Nat → FieldType) (hty : ∀ k, k < N → parseFieldDescriptor (T k).2.2.1 = some (ty0 k)) (hnm : ∀ a, a < N → ∀ b, b < N → a ≠ b → (T a).2.1 ≠ (T b).2.1) (hfin : (T k).2.2.2 = false) (hds : parseFieldDescriptor (T k).2.2.1 = some ty) (hlen : k < fs.length) (hset : fs.set k v = fs') (hlk : Cond.fieldLink own index (T k).1 (T k).2.1 (T k).2.2.1 ∈ wc_tb) (hn : narrow ty v = v) (hfit : fits ty v = true) (hd : decode cc pc = .ok (.putfield index, 3))
    (kk : wn_K p l e R s m args below meth c nL Γ A Q cells slots (pc + 3) (vs) (st) n (wn_up ω q (a, .inr (ci, fs')))) : wn_K p l e R s m args below meth c nL Γ A Q cells slots (pc) (vs) (v :: .ref a :: st) n ω := by
  subst hset
  intro ls H locs hl hP hD hS
  refine va_put C.1.1 C.1.2.1 C.1.2.2.2.2 hin ty0 hty hnm C.1.2.2.2.1 C.2.1 hP hD hS q (wn_at hq hcell) hc k hk (C.1.2.2.2.2 _ hlk) (fun _ h => h) hfin hds hn hfit hlen hd (fun H1 locs1 hP1 hD1 hS1 => ?_)
  rw [wn_set] at hP1 hD1
  exact kk ls H1 locs1 hl hP1 hD1 hS1
theorem nr_putF (C : wc_C p s m args c cc nL own Γ A) {q a ci N k index : Nat} {T : u_T} {Cn : String} {fs fs' : List Value} {v : Value} {ty : FieldType} (hq : q < n) (hcell : ω q = (a, .inr (ci, fs))) (hc : vwCl[ci]? = some (Cn, T, N)) (hk : k < N) (hin : ∀ w ∈ u_ws Cn T N, w ∈ wc_tb) (ty0 : Nat → FieldType) (hty : ∀ k, k < N → parseFieldDescriptor (T k).2.2.1 = some (ty0 k)) (hnm : ∀ a, a < N → ∀ b, b < N → a ≠ b → (T a).2.1 ≠ (T b).2.1) (hfin : (T k).2.2.2 = true) (hin2 : meth.name = "<init>") (hdecl : (T k).1 = own) (hds : parseFieldDescriptor (T k).2.2.1 = some ty) (hlen : k < fs.length) (hset : fs.set k v = fs') (hlk : Cond.fieldLink own index (T k).1 (T k).2.1 (T k).2.2.1 ∈ wc_tb) (hn : narrow ty v = v) (hfit : fits ty v = true) (hd : decode cc pc = .ok (.putfield index, 3))
    (kk : wn_K p l e R s m args below meth c nL Γ A Q cells slots (pc + 3) (vs) (st) n (wn_up ω q (a, .inr (ci, fs')))) : wn_K p l e R s m args below meth c nL Γ A Q cells slots (pc) (vs) (v :: .ref a :: st) n ω := by
  subst hset
  intro ls H locs hl hP hD hS
  refine va_putF C.1.1 C.1.2.1 C.1.2.2.2.2 hin ty0 hty hnm C.1.2.2.2.1 C.2.1 hP hD hS q (wn_at hq hcell) hc k hk (C.1.2.2.2.2 _ hlk) (fun _ h => h) hfin hin2 hdecl hds hn hfit hlen hd (fun H1 locs1 hP1 hD1 hS1 => ?_)
  rw [wn_set] at hP1 hD1
  exact kk ls H1 locs1 hl hP1 hD1 hS1
theorem nr_new (C : wc_C p s m args c cc nL own Γ A) {ci N index cells' slots' n' : Nat} {T : u_T} {Cn : String} {fs : List Value} (hin : ∀ w ∈ u_ws Cn T N, w ∈ wc_tb) (ty : Nat → FieldType) (hty : ∀ k, k < N → parseFieldDescriptor (T k).2.2.1 = some (ty k)) (hcl : Cond.classLink own index Cn ∈ wc_tb) (hinst : Cond.instantiable Cn N ∈ wc_tb) (hini : Cond.initialized Cn ∈ wc_tb) (hc : vwCl[ci]? = some (Cn, T, N)) (hfs : ∀ j, j < N → defaultValue (ty j) = vp_V fs j) (hn' : n + 1 = n') (h1 : cells + 1 = cells') (h2 : slots + N = slots') (hR : cells' ≤ R.cells ∧ slots' ≤ R.slots) (hd : decode cc pc = .ok (.new index, 3))
    (kk : ∀ q : Nat, wn_K p l e R s m args below meth c nL Γ A Q cells' slots' (pc + 3) (vs) (.ref q :: st) n' (wn_up ω n (q, .inr (ci, fs)))) : wn_K p l e R s m args below meth c nL Γ A Q cells slots (pc) (vs) (st) n ω := by
  subst h1; subst h2; subst hn'
  intro ls H locs hl hP hD hS
  refine va_new C.1.1 C.1.2.1 C.1.2.2.2.2 hin ty hty C.1.2.2.2.1 (C.1.2.2.2.2 _ hcl) (C.1.2.2.2.2 _ hinst) (C.1.2.2.2.2 _ hini) C.2.1 hP hD hS C.2.2 hc hfs hR.1 hR.2 hd (fun q H1 hP1 hD1 hS1 => ?_)
  rw [wn_push] at hP1 hD1
  exact kk q ls H1 locs hl hP1 hD1 hS1
theorem nr_newI (C : wc_C p s m args c cc nL own Γ A) (B : wn_B s) {x : Int32} {N' cells' slots' n' : Nat} (hx : ¬ x < 0) (hN : x.toNatClampNeg = N') (hb : N' * 4 ≤ 536870912) (hn' : n + 1 = n') (h1 : cells + 1 = cells') (h2 : slots + N' = slots') (hR : cells' ≤ R.cells ∧ slots' ≤ R.slots) (hd : decode cc pc = .ok (.newarray .int, 2))
    (kk : ∀ q : Nat, wn_K p l e R s m args below meth c nL Γ A Q cells' slots' (pc + 2) (vs) (.ref q :: st) n' (wn_up ω n (q, .inl (Γ.2.1 0, N', .inl (fun _ => 0))))) : wn_K p l e R s m args below meth c nL Γ A Q cells slots (pc) (vs) (.int x :: st) n ω := by
  subst h1; subst h2; subst hn'
  intro ls H locs hl hP hD hS
  refine va_newa (ty := .int) (a0 := (N', .inl (fun _ => 0))) C.1.1 C.1.2.1 (atype := .int) (args := args) B.1.1 rfl C.2.1 hP hD hS C.2.2 (fun _ => rfl) hx hN (by show N' * componentBytes .int ≤ _; simp only [componentBytes]; omega) hR.1 hR.2 hd (fun q cA H1 hK1 hP1 hD1 hS1 => ?_)
  have e1 : va_RA s cA .int := (hK1.2 6 (cA, .int) rfl).2
  have e2 : va_RA s (Γ.2.1 0) .int := (C.2.1.2 0 (Γ.2.1 0, .int) rfl).2
  have e3 : cA = Γ.2.1 0 := Option.some.inj (Eq.trans (Eq.symm e1) e2)
  subst e3
  rw [wn_push] at hP1 hD1
  exact kk q ls H1 locs hl hP1 hD1 hS1
theorem nr_newZ (C : wc_C p s m args c cc nL own Γ A) (B : wn_B s) {x : Int32} {N' cells' slots' n' : Nat} (hx : ¬ x < 0) (hN : x.toNatClampNeg = N') (hb : N' * 4 ≤ 536870912) (hn' : n + 1 = n') (h1 : cells + 1 = cells') (h2 : slots + N' = slots') (hR : cells' ≤ R.cells ∧ slots' ≤ R.slots) (hd : decode cc pc = .ok (.newarray .boolean, 2))
    (kk : ∀ q : Nat, wn_K p l e R s m args below meth c nL Γ A Q cells' slots' (pc + 2) (vs) (.ref q :: st) n' (wn_up ω n (q, .inl (Γ.2.1 1, N', .inl (fun _ => 0))))) : wn_K p l e R s m args below meth c nL Γ A Q cells slots (pc) (vs) (.int x :: st) n ω := by
  subst h1; subst h2; subst hn'
  intro ls H locs hl hP hD hS
  refine va_newa (ty := .boolean) (a0 := (N', .inl (fun _ => 0))) C.1.1 C.1.2.1 (atype := .boolean) (args := args) B.1.2 rfl C.2.1 hP hD hS C.2.2 (fun _ => rfl) hx hN (by show N' * componentBytes .boolean ≤ _; simp only [componentBytes]; omega) hR.1 hR.2 hd (fun q cA H1 hK1 hP1 hD1 hS1 => ?_)
  have e1 : va_RA s cA .boolean := (hK1.2 6 (cA, .boolean) rfl).2
  have e2 : va_RA s (Γ.2.1 1) .boolean := (C.2.1.2 1 (Γ.2.1 1, .boolean) rfl).2
  have e3 : cA = Γ.2.1 1 := Option.some.inj (Eq.trans (Eq.symm e1) e2)
  subst e3
  rw [wn_push] at hP1 hD1
  exact kk q ls H1 locs hl hP1 hD1 hS1
theorem nr_newq (C : wc_C p s m args c cc nL own Γ A) {E : String} (B : va_AO E s) (t0 : Nat) {x : Int32} {N' index cells' slots' n' : Nat} (ht : (wc_tys Γ)[t0]? = some (Γ.2.1 t0, .object E)) (hcl : Cond.classLink own index E ∈ wc_tb) (hx : ¬ x < 0) (hN : x.toNatClampNeg = N') (hb : N' * 4 ≤ 536870912) (hn' : n + 1 = n') (h1 : cells + 1 = cells') (h2 : slots + N' = slots') (hR : cells' ≤ R.cells ∧ slots' ≤ R.slots) (hd : decode cc pc = .ok (.anewarray index, 3))
    (kk : ∀ q : Nat, wn_K p l e R s m args below meth c nL Γ A Q cells' slots' (pc + 3) (vs) (.ref q :: st) n' (wn_up ω n (q, .inl (Γ.2.1 t0, N', .inr (.inr (.inr (.inr (fun _ => none)))))))) : wn_K p l e R s m args below meth c nL Γ A Q cells slots (pc) (vs) (.int x :: st) n ω := by
  subst h1; subst h2; subst hn'
  intro ls H locs hl hP hD hS
  refine va_newq C.1.1 C.1.2.1 C.1.2.2.2.1 (C.1.2.2.2.2 _ hcl) B C.2.1 hP hD hS C.2.2 hx hN hb hR.1 hR.2 hd (fun q cA H1 hK1 hP1 hD1 hS1 => ?_)
  have e1 : va_RA s cA (.object E) := (hK1.2 6 (cA, .object E) rfl).2
  have e2 : va_RA s (Γ.2.1 t0) (.object E) := (C.2.1.2 t0 _ ht).2
  obtain ⟨_, _, _, _, _, e3⟩ := e1
  obtain ⟨_, _, _, _, _, e4⟩ := e2
  have e5 : cA = Γ.2.1 t0 := Option.some.inj (Eq.trans (Eq.symm e3) e4)
  subst e5
  rw [wn_push] at hP1 hD1
  exact kk q ls H1 locs hl hP1 hD1 hS1
theorem nr_ist (C : wc_C p s m args c cc nL own Γ A) {q a N' i : Nat} {f : Nat → Int32} {x : Int32} (hq : q < n) (hcell : ω q = (a, .inl (Γ.2.1 0, N', .inl f))) (hi : i < N') (hn : N' < 2 ^ 31) (hd : decode cc pc = .ok (.iastore, 1))
    (kk : wn_K p l e R s m args below meth c nL Γ A Q cells slots (pc + 1) (vs) (st) n (wn_up ω q (a, .inl (Γ.2.1 0, N', .inl (upd f i x))))) : wn_K p l e R s m args below meth c nL Γ A Q cells slots (pc) (vs) (.int x :: .int (nI i) :: .ref a :: st) n ω := by
  intro ls H locs hl hP hD hS
  refine va_iast C.1.1 C.1.2.1 C.2.1 hP hD hS q 0 (wn_at hq hcell) rfl (vp_in_nI hi hn) hd (fun H1 locs1 hP1 hD1 hS1 => ?_)
  rw [nI_clamp (by omega), wn_set] at hP1 hD1
  exact kk ls H1 locs1 hl hP1 hD1 hS1
theorem nr_ast (C : wc_C p s m args c cc nL own Γ A) {q a N' i qk b ci t0 : Nat} {f : Nat → Option Nat} {r : vw_C} {fs : List Value} (hq : q < n) (hcell : ω q = (a, .inl (Γ.2.1 t0, N', .inr (.inr (.inr (.inr f)))))) (ht : (wc_tys Γ)[t0]? = some (Γ.2.1 t0, .object r.1)) (hqk : qk < n) (hk : ω qk = (b, .inr (ci, fs))) (hc : vwCl[ci]? = some r) (hi : i < N') (hn : N' < 2 ^ 31) (hd : decode cc pc = .ok (.aastore, 1))
    (kk : wn_K p l e R s m args below meth c nL Γ A Q cells slots (pc + 1) (vs) (st) n (wn_up ω q (a, .inl (Γ.2.1 t0, N', .inr (.inr (.inr (.inr (va_up f i (some b))))))))) : wn_K p l e R s m args below meth c nL Γ A Q cells slots (pc) (vs) (.ref b :: .int (nI i) :: .ref a :: st) n ω := by
  intro ls H locs hl hP hD hS
  refine va_astq C.1.1 C.1.2.1 C.2.1 hP hD hS q t0 qk ci (wn_at hq hcell) ht (wn_at hqk hk) hc (vp_in_nI hi hn) hd (fun H1 locs1 hP1 hD1 hS1 => ?_)
  rw [nI_clamp (by omega), wn_set] at hP1 hD1
  exact kk ls H1 locs1 hl hP1 hD1 hS1
def wn_Q (Γ : wc_G) (A : Nat → Prop) (a n1 : Nat) (E : (Nat → Nat) → Nat → va_E) : Array Value → State → Outcome → State → Prop := fun _ st oc t => (oc = .returned none ∧ ∃ g : Nat → Nat, g 0 = a ∧ va_P Γ.1 vwCl (wn_wl n1 (fun j => (g j, E g j))) t.heap ∧ va_D A (wn_wl n1 (fun j => (g j, E g j)))) ∧ va_F A st t
def wn_Pre (Γ : wc_G) (n : Nat) (ω : Nat → Nat × va_E) (sz : Nat) (U : State) : Prop := U.heap.size = sz ∧ va_P Γ.1 vwCl (wn_wl n ω) U.heap ∧ va_K Γ.1 vwCl (wc_tys Γ) U ∧ va_D (fun _ => True) (wn_wl n ω) ∧ (∀ w ∈ wc_tb, va_Nw w U) ∧ wn_B U
abbrev wn_rm (d mc ms : Nat) : Room := { frames := d, cells := mc, slots := ms, locals := 40 * d }
/-- a constructor's contract: called on the cell x with av it leaves n1 cells, those of E, the first of them at x's place -/
def wn_M (l : Launch) (y : MethodName) (cc : ByteArray) (maxL : Nat) (d mc ms : Nat) (Γ : wc_G) (av : List Value) (x : Nat × va_E) (n1 : Nat) (E : (Nat → Nat) → Nat → va_E) : Prop :=
  ∀ sz : Nat, Met l y [Cond.code y cc maxL none] (wn_rm d mc ms) (va_Pc av (wn_Pre Γ 1 (fun _ => x) sz)) (wn_Q Γ (va_A (wn_wl 1 (fun _ => x)) sz) x.1 n1 E) mc ms (va_A (wn_wl 1 (fun _ => x)) sz)
theorem wn_enter {y : MethodName} (own : String) {maxL d mc ms n1 : Nat} {av : List Value} {x : Nat × va_E} {E : (Nat → Nat) → Nat → va_E} (hy : plainName y.cls = true) (ho : y.cls = own) (hyn : y.name = "<init>") (hlen : (lg_sl av).length ≤ maxL)
    (body : ∀ (p : Program) (e : Env) (s : State) (m : MethodId) (args : Array Value) (below : List Frame) (meth : Method) (c : Code) (A : Nat → Prop), wc_C p s m args c cc maxL own Γ A → wn_B s → meth.name = "<init>" → meth.sig.returnType = none → meth.locks = false →
      wn_K p l e (wn_rm d mc ms) s m args below meth c maxL Γ A (MQ below (wn_Q Γ A x.1 n1 E) args s mc ms A) 0 0 0 (lv_args 0 av) [] 1 (fun _ => x)) : wn_M l y cc maxL d mc ms Γ av x n1 E := by
  intro sz
  refine Met.ofW (cc := cc) (maxL := maxL) (ret := none) hy rfl ?_
  intro p e s m args below meth c s₁ B hml hv
  obtain ⟨rfl, hsz, hP, hK, hD0, hN, hB⟩ := hv
  subst hsz
  have hown : s.vm.findClass own = some m.cls := ho ▸ findClass_of_methodNamed B.named
  have hin : meth.name = "<init>" := (name_of_methodNamed B.named B.method).1.trans hyn
  rw [lg_entry_eq]
  exact body p e s m _ below meth c _ ⟨⟨B.exec, B.bytes, hml, hown, fun w hw => va_Nw.use (wc_tb_on w hw) (hN w hw)⟩, hK, fun q h => Or.inr h⟩ hB hin B.returns B.notSynchronized _ _ _ (lv_entry av hlen) hP hD0.self va_S.rf
theorem nr_vret (C : wc_C p s m args c cc nL own Γ A) {a n1 : Nat} {E : (Nat → Nat) → Nat → va_E} (hr : meth.sig.returnType = none) (hlk : meth.locks = false) (hd : decode cc pc = .ok (.return_, 1)) (g : Nat → Nat) (h0 : g 0 = a) (hn : n = n1) (hE : ∀ k, k < n → ω k = (g k, E g k)) :
    wn_K p l e R s m args below meth c nL Γ A (MQ below (wn_Q Γ A a n1 E) args s cells slots A) cells slots pc vs [] n ω := by
  intro ls H locs hl hP hD hS
  rw [wn_ext hn hE] at hP hD
  exact W.vret C.1.1 C.1.2.1 hr (fun t ht _ => ⟨⟨rfl, g, h0, by rw [ht]; exact hP, hD⟩, hS.F ht⟩) hS.2.2 hd hlk
theorem wn_blind {av : List Value} {sz : Nat} : FrameBlind (va_Pc av (wn_Pre Γ n ω sz)) := fun a U g mk q => by
  obtain ⟨q0, q1, qP, qK, qD, qN, qB⟩ := q
  exact ⟨q0, q1, qP, va_K.moved (u := U) (U := U.calling g mk a) (Vm.Alike.refl U.vm) qK, qD, fun w hw => va_Nw.same (u := U) (U := U.calling g mk a) (wc_tb_on w hw) rfl (qN w hw), qB⟩
theorem nr_ctor (C : wc_C p s m args c cc nL own Γ A) (B : wn_B s) {y : MethodName} {bytes : ByteArray} {maxL k index d mc ms n1 n' b cells' slots' : Nat} {eb : va_E} {E : (Nat → Nat) → Nat → va_E} {As rest : List Value} (hM : wn_M l y bytes maxL d mc ms Γ (.ref b :: As) (b, eb) n1 E) (hcb : wc_cb y bytes maxL none k) (hml : wc_ml own index y) (hyn : y.name = "<init>") (hins : Cond.instanceMethod y ∈ wc_tb) (hω : ω n = (b, eb)) (hn' : n + n1 = n') (h1 : cells + mc = cells') (h2 : slots + ms = slots') (hRR : cells' ≤ R.cells ∧ slots' ≤ R.slots) (hR : d + 1 ≤ R.frames ∧ 40 * (d + 1) ≤ R.locals) (hmx : maxL ≤ 21) (hn : As.length = k) (hst : st = As.reverse ++ .ref b :: rest) (hsum : (rest.map fun v => v.category).sum ≤ 8) (hd : decode cc pc = .ok (.invokespecial index, 3))
    (kk : ∀ g : Nat → Nat, g 0 = b → wn_K p l e R s m args below meth c nL Γ A Q cells' slots' (pc + 3) (vs) (rest) n' (wn_jn ω n g E)) : wn_K p l e R s m args below meth c nL Γ A Q cells slots (pc) (vs) (st) (n + 1) ω := by
  subst h1; subst h2; subst hn'
  intro ls H locs hl hP hD hS
  obtain ⟨c1, c2, c3, c4, c5⟩ := hcb
  have hRm : (wn_rm d mc ms).frames + 1 ≤ R.frames ∧ 8 + (maxL + 11) + (wn_rm d mc ms).locals ≤ R.locals := ⟨hR.1, by show 8 + (maxL + 11) + 40 * d ≤ R.locals; omega⟩
  have hC : [n].map (fun i => (wn_wl (n + 1) ω)[i]?) = (wn_wl 1 (fun _ => (b, eb))).map some := by
    show [(wn_wl (n + 1) ω)[n]?] = [some (b, eb)]
    rw [wn_at (Nat.lt_succ_self n) hω]
  have hPc : va_P Γ.1 vwCl (wn_wl 1 (fun _ => (b, eb))) H := hP.by (fun _ => n) (fun k q hk => by
    obtain ⟨_, hk⟩ := wn_lk hk
    rw [wn_at (Nat.lt_succ_self n) hω, hk])
  have hDc : va_D (fun _ => True) (wn_wl 1 (fun _ => (b, eb))) := ⟨fun i j _ _ hi hj _ => by have := (wn_lk hi).1; have := (wn_lk hj).1; omega, fun _ _ _ => trivial⟩
  have hF := va_free (wc := wn_wl 1 (fun _ => (b, eb))) hD hS C.2.2 [n] hC
  have hp : PreS s H (va_Pc (.ref b :: As) (wn_Pre Γ 1 (fun _ => (b, eb)) H.size)) (.ref b :: As) := ⟨wn_blind, fun U hU hW => ⟨rfl, by rw [hU], by rw [hU]; exact hPc, va_K.moved hW.alike C.2.1, hDc, wc_tb_warm hW C.1.2.2.2.2, wn_B.warm hW B⟩⟩
  have hr : va_Run p l e R s m args below meth c H locs cells slots mc ms (F0 m pc ls st) rest (wn_Q Γ (va_A (wn_wl 1 (fun _ => (b, eb))) H.size) b n1 E (Value.ref b :: As).toArray) (va_A (wn_wl 1 (fun _ => (b, eb))) H.size) := by
    rcases hml with hm | ⟨host, hm⟩
    · exact va_runI C.1 (hM H.size) ⟨callB_of k C.1.2.2.2.2 (wc_good c1) rfl rfl rfl (C.1.2.2.2.2 _ c2) (C.1.2.2.2.2 _ hm) ⟨c3, c4, c5⟩ hRm, hyn, C.1.2.2.2.2 _ hins⟩ hp rfl hn hl.1 hst (lv_room hsum) hd hRR
    · exact va_runIN C.1 (hM H.size) ⟨va_cnB k C.1.2.2.2.2 (wc_good c1) rfl rfl rfl (va_Nw.of rfl (C.1.2.2.2.2 _ hm)) (C.1.2.2.2.2 _ c2) ⟨c3, c4, c5⟩ hRm, hyn, C.1.2.2.2.2 _ hins⟩ hp rfl hn hl.1 hst (lv_room hsum) hd hRR
  intro T hT Y
  obtain ⟨v', st₀, t, T', L, h0, Y', hL, e1, e2, ⟨⟨hv, g, hg, hP1, hD1⟩, hz, hk⟩, stp⟩ := hr T hT Y
  cases hv
  rw [h0] at hz hk
  obtain ⟨hPj, hDj⟩ := va_join (wr := wn_wl n ω) (w1 := wn_wl n1 (fun j => (g j, E g j))) hP hD [n] (List.range n) hC (by
    unfold wn_wl
    rw [List.map_map]
    apply List.map_congr_left
    intro i hi
    have := List.mem_range.mp hi
    exact wn_at (n := n + 1) (by omega) rfl) (wn_nd _ List.nodup_range) (fun i hi => by
    have := List.mem_range.mp hi
    simp
    omega) hk hF hP1 hD1
  rw [wn_app] at hPj hDj
  obtain ⟨t2, a1, b1⟩ := kk g hg ls T'.heap (locs ++ L) hl (by rw [e1]; exact hPj) hDj
    ⟨Nat.le_trans hS.1 (by rw [e1]; exact hz), fun q h1 h2 => by rw [e1, hk q (Nat.lt_of_lt_of_le h1 hS.1) (fun z => h2 (hF q z))]; exact hS.2.1 q h1 h2, fun q hq => by
      rcases List.mem_append.mp hq with h | h
      · exact hS.2.2 q h
      · exact hF _ (hL q h)⟩ T' rfl Y'
  exact ⟨t2, stp t2 a1, b1⟩
end WNK
