def wc_mx (x y : Int32) : Int32 := if x < y then y else x
def wc_mn (x y : Int32) : Int32 := if y < x then y else x
theorem wc_inc1 (a : Nat) : nI a + Int32.ofInt 1 = nI (a + 1) := nI_1 a
theorem wc_inc3 (a : Nat) : nI a + Int32.ofInt 3 = nI (a + 3) := nI_add a 3
theorem wc_noge {a b : Nat} (h : a < b) (ha : a < 2 ^ 31) (hb : b < 2 ^ 31) : ¬ nI b ≤ nI a := by rw [nI_leI hb ha]; omega
theorem wc_yesge {a b : Nat} (h : b ≤ a) (ha : a < 2 ^ 31) (hb : b < 2 ^ 31) : nI b ≤ nI a := by rw [nI_leI hb ha]; omega
theorem wc_nolt {a b : Nat} (h : b ≤ a) (ha : a < 2 ^ 31) (hb : b < 2 ^ 31) : ¬ nI a < nI b := by rw [nI_ltI ha hb]; omega
theorem wc_yeslt {a b : Nat} (h : a < b) (ha : a < 2 ^ 31) (hb : b < 2 ^ 31) : nI a < nI b := by rw [nI_ltI ha hb]; omega
theorem wc_nogt {a b : Nat} (h : a ≤ b) (ha : a < 2 ^ 31) (hb : b < 2 ^ 31) : ¬ nI b < nI a := by rw [nI_ltI hb ha]; omega
theorem wc_yesgt {a b : Nat} (h : b < a) (ha : a < 2 ^ 31) (hb : b < 2 ^ 31) : nI b < nI a := by rw [nI_ltI hb ha]; omega
theorem wc_nole {a b : Nat} (h : b < a) (ha : a < 2 ^ 31) (hb : b < 2 ^ 31) : ¬ nI a ≤ nI b := by rw [nI_leI ha hb]; omega
theorem wc_yesle {a b : Nat} (h : a ≤ b) (ha : a < 2 ^ 31) (hb : b < 2 ^ 31) : nI a ≤ nI b := by rw [nI_leI ha hb]; omega
theorem wc_noeq {a b : Nat} (h : a ≠ b) (ha : a < 2 ^ 31) (hb : b < 2 ^ 31) : ¬ nI a = nI b := by rw [nI_eq ha hb]; exact h
theorem wc_yeseq {a b : Nat} (h : a = b) (_ : a < 2 ^ 31) (_ : b < 2 ^ 31) : nI a = nI b := by rw [h]
theorem wc_none {a b : Nat} (h : a = b) (_ : a < 2 ^ 31) (_ : b < 2 ^ 31) : ¬ ¬ nI a = nI b := fun q => q (by rw [h])
theorem wc_yesne {a b : Nat} (h : a ≠ b) (ha : a < 2 ^ 31) (hb : b < 2 ^ 31) : ¬ nI a = nI b := by rw [nI_eq ha hb]; exact h
theorem wc_nolt0 {a : Nat} (ha : a < 2 ^ 31) (_ : 0 < 1) : ¬ nI a < 0 := nI_pos ha
theorem wc_yesge0 {a : Nat} (ha : a < 2 ^ 31) (_ : 0 < 1) : 0 ≤ nI a := nI_pos' ha
section WCK
variable {p : Program} {l : Launch} {e : Env} {R : Room} {s : State} {m : MethodId} {args : Array Value} {below : List Frame} {meth : Method} {c : Code} {cells slots : Nat} {Q : State → Prop} {nL : Nat} {Γ : wc_G} {A : Nat → Prop}
variable {cc : ByteArray} {own : String} {pc : Nat} {vs : List (Nat × Value)} {st : List Value} {σ μ : wc_St}
/-- the machine at pc with the locals vs, the stack st, in a heap that holds the system in the state σ, comes to Q -/
def wc_K (p : Program) (l : Launch) (e : Env) (R : Room) (s : State) (m : MethodId) (args : Array Value) (below : List Frame) (meth : Method) (c : Code) (nL : Nat) (Γ : wc_G) (A : Nat → Prop) (Q : State → Prop) (cells slots pc : Nat) (vs : List (Nat × Value)) (st : List Value) (σ μ : wc_St) : Prop :=
  ∀ (ls : Array Slot) (H : Heap) (locs : List Loc), lv_has ls nL vs → va_P Γ.1 vwCl (wc_wl Γ σ μ) H → va_D A (wc_wl Γ σ μ) → va_S A s.heap H locs → W p l e R s m args below meth c H locs cells slots Q (F0 m pc ls st)
/-- what every row uses: machine, code, class, the tables' words, class numbers -/
def wc_C (p : Program) (s : State) (m : MethodId) (args : Array Value) (c : Code) (cc : ByteArray) (nL : Nat) (own : String) (Γ : wc_G) (A : Nat → Prop) : Prop :=
  CallFix p m c cc nL s args wc_tb own ∧ va_K Γ.1 vwCl (wc_tys Γ) s ∧ ∀ q, s.heap.size ≤ q → A q
theorem wr_iconst (C : wc_C p s m args c cc nL own Γ A) {n : Int} {v : Int32} (hd : decode cc pc = .ok (.iconst n, 1)) (hv : Int32.ofInt n = v)
    (kk : wc_K p l e R s m args below meth c nL Γ A Q cells slots (pc + 1) (vs) (.int v :: st) σ μ) : wc_K p l e R s m args below meth c nL Γ A Q cells slots (pc) (vs) (st) σ μ :=
  fun ls H locs hl hP hD hS => lv_iconst C.1.1 C.1.2.1 hd hv (kk ls H locs hl hP hD hS)
theorem wr_bipush (C : wc_C p s m args c cc nL own Γ A) {n : Int} {v : Int32} (hd : decode cc pc = .ok (.bipush n, 2)) (hv : (Int8.ofInt n).toInt32 = v)
    (kk : wc_K p l e R s m args below meth c nL Γ A Q cells slots (pc + 2) (vs) (.int v :: st) σ μ) : wc_K p l e R s m args below meth c nL Γ A Q cells slots (pc) (vs) (st) σ μ :=
  fun ls H locs hl hP hD hS => lv_bipush C.1.1 C.1.2.1 hd hv (kk ls H locs hl hP hD hS)
theorem wr_sipush (C : wc_C p s m args c cc nL own Γ A) {n : Int} {v : Int32} (hd : decode cc pc = .ok (.sipush n, 3)) (hv : (Int16.ofInt n).toInt32 = v)
    (kk : wc_K p l e R s m args below meth c nL Γ A Q cells slots (pc + 3) (vs) (.int v :: st) σ μ) : wc_K p l e R s m args below meth c nL Γ A Q cells slots (pc) (vs) (st) σ μ :=
  fun ls H locs hl hP hD hS => lv_sipush C.1.1 C.1.2.1 hd hv (kk ls H locs hl hP hD hS)
theorem wr_iload_n (C : wc_C p s m args c cc nL own Γ A) {k : Fin 4} {i : Nat} {x : Int32} (j : Nat) (hd : decode cc pc = .ok (.iload_n k, 1)) (hi : (k : Nat) = i) (hv : vs[j]? = some (i, .int x))
    (kk : wc_K p l e R s m args below meth c nL Γ A Q cells slots (pc + 1) (vs) (.int x :: st) σ μ) : wc_K p l e R s m args below meth c nL Γ A Q cells slots (pc) (vs) (st) σ μ :=
  fun ls H locs hl hP hD hS => lv_iload_n C.1.1 C.1.2.1 hd hi (lv_at hl j hv) (kk ls H locs hl hP hD hS)
theorem wr_iload (C : wc_C p s m args c cc nL own Γ A) {i : Nat} {x : Int32} (j : Nat) (hd : decode cc pc = .ok (.iload i, 2)) (hv : vs[j]? = some (i, .int x))
    (kk : wc_K p l e R s m args below meth c nL Γ A Q cells slots (pc + 2) (vs) (.int x :: st) σ μ) : wc_K p l e R s m args below meth c nL Γ A Q cells slots (pc) (vs) (st) σ μ :=
  fun ls H locs hl hP hD hS => lv_iload C.1.1 C.1.2.1 hd (lv_at hl j hv) (kk ls H locs hl hP hD hS)
theorem wr_aload_n (C : wc_C p s m args c cc nL own Γ A) {k : Fin 4} {i : Nat} {x : Nat} (j : Nat) (hd : decode cc pc = .ok (.aload_n k, 1)) (hi : (k : Nat) = i) (hv : vs[j]? = some (i, .ref x))
    (kk : wc_K p l e R s m args below meth c nL Γ A Q cells slots (pc + 1) (vs) (.ref x :: st) σ μ) : wc_K p l e R s m args below meth c nL Γ A Q cells slots (pc) (vs) (st) σ μ :=
  fun ls H locs hl hP hD hS => lv_aload_n C.1.1 C.1.2.1 hd hi (lv_at hl j hv) (kk ls H locs hl hP hD hS)
theorem wr_aload (C : wc_C p s m args c cc nL own Γ A) {i : Nat} {x : Nat} (j : Nat) (hd : decode cc pc = .ok (.aload i, 2)) (hv : vs[j]? = some (i, .ref x))
    (kk : wc_K p l e R s m args below meth c nL Γ A Q cells slots (pc + 2) (vs) (.ref x :: st) σ μ) : wc_K p l e R s m args below meth c nL Γ A Q cells slots (pc) (vs) (st) σ μ :=
  fun ls H locs hl hP hD hS => lv_aload C.1.1 C.1.2.1 hd (lv_at hl j hv) (kk ls H locs hl hP hD hS)
theorem wr_aload_nN (C : wc_C p s m args c cc nL own Γ A) {k : Fin 4} {i : Nat} (j : Nat) (hd : decode cc pc = .ok (.aload_n k, 1)) (hi : (k : Nat) = i) (hv : vs[j]? = some (i, .null))
    (kk : wc_K p l e R s m args below meth c nL Γ A Q cells slots (pc + 1) (vs) (.null :: st) σ μ) : wc_K p l e R s m args below meth c nL Γ A Q cells slots (pc) (vs) (st) σ μ :=
  fun ls H locs hl hP hD hS => lv_aload_nN C.1.1 C.1.2.1 hd hi (lv_at hl j hv) (kk ls H locs hl hP hD hS)
theorem wr_istore_n (C : wc_C p s m args c cc nL own Γ A) {k : Fin 4} {i : Nat} {x : Int32} {vs' : List (Nat × Value)} (hd : decode cc pc = .ok (.istore_n k, 1)) (hi : (k : Nat) = i) (hn : i < nL) (hw : (i, Value.int x) :: vs.filter (fun q => !(q.1 == i) && !(q.1 + 1 == i && q.2.category == 2)) = vs')
    (kk : wc_K p l e R s m args below meth c nL Γ A Q cells slots (pc + 1) (vs') (st) σ μ) : wc_K p l e R s m args below meth c nL Γ A Q cells slots (pc) (vs) (.int x :: st) σ μ :=
  fun ls H locs hl hP hD hS => lv_istore_n C.1.1 C.1.2.1 hd hi hl hn hw (fun ls' hl' => kk ls' H locs hl' hP hD hS)
theorem wr_istore (C : wc_C p s m args c cc nL own Γ A) {i : Nat} {x : Int32} {vs' : List (Nat × Value)} (hd : decode cc pc = .ok (.istore i, 2)) (hn : i < nL) (hw : (i, Value.int x) :: vs.filter (fun q => !(q.1 == i) && !(q.1 + 1 == i && q.2.category == 2)) = vs')
    (kk : wc_K p l e R s m args below meth c nL Γ A Q cells slots (pc + 2) (vs') (st) σ μ) : wc_K p l e R s m args below meth c nL Γ A Q cells slots (pc) (vs) (.int x :: st) σ μ :=
  fun ls H locs hl hP hD hS => lv_istore C.1.1 C.1.2.1 hd hl hn hw (fun ls' hl' => kk ls' H locs hl' hP hD hS)
theorem wr_astore_n (C : wc_C p s m args c cc nL own Γ A) {k : Fin 4} {i : Nat} {x : Nat} {vs' : List (Nat × Value)} (hd : decode cc pc = .ok (.astore_n k, 1)) (hi : (k : Nat) = i) (hn : i < nL) (hw : (i, Value.ref x) :: vs.filter (fun q => !(q.1 == i) && !(q.1 + 1 == i && q.2.category == 2)) = vs')
    (kk : wc_K p l e R s m args below meth c nL Γ A Q cells slots (pc + 1) (vs') (st) σ μ) : wc_K p l e R s m args below meth c nL Γ A Q cells slots (pc) (vs) (.ref x :: st) σ μ :=
  fun ls H locs hl hP hD hS => lv_astore_n C.1.1 C.1.2.1 hd hi hl hn hw (fun ls' hl' => kk ls' H locs hl' hP hD hS)
theorem wr_astore (C : wc_C p s m args c cc nL own Γ A) {i : Nat} {x : Nat} {vs' : List (Nat × Value)} (hd : decode cc pc = .ok (.astore i, 2)) (hn : i < nL) (hw : (i, Value.ref x) :: vs.filter (fun q => !(q.1 == i) && !(q.1 + 1 == i && q.2.category == 2)) = vs')
    (kk : wc_K p l e R s m args below meth c nL Γ A Q cells slots (pc + 2) (vs') (st) σ μ) : wc_K p l e R s m args below meth c nL Γ A Q cells slots (pc) (vs) (.ref x :: st) σ μ :=
  fun ls H locs hl hP hD hS => lv_astore C.1.1 C.1.2.1 hd hl hn hw (fun ls' hl' => kk ls' H locs hl' hP hD hS)
theorem wr_astore_nN (C : wc_C p s m args c cc nL own Γ A) {k : Fin 4} {i : Nat} {vs' : List (Nat × Value)} (hd : decode cc pc = .ok (.astore_n k, 1)) (hi : (k : Nat) = i) (hn : i < nL) (hw : (i, Value.null) :: vs.filter (fun q => !(q.1 == i) && !(q.1 + 1 == i && q.2.category == 2)) = vs')
    (kk : wc_K p l e R s m args below meth c nL Γ A Q cells slots (pc + 1) (vs') (st) σ μ) : wc_K p l e R s m args below meth c nL Γ A Q cells slots (pc) (vs) (.null :: st) σ μ :=
  fun ls H locs hl hP hD hS => lv_astore_nN C.1.1 C.1.2.1 hd hi hl hn hw (fun ls' hl' => kk ls' H locs hl' hP hD hS)
theorem wr_iinc (C : wc_C p s m args c cc nL own Γ A) {i : Nat} {n : Int} {x v : Int32} {vs' : List (Nat × Value)} (j : Nat) (hd : decode cc pc = .ok (.iinc i n, 3)) (hk : vs[j]? = some (i, .int x)) (hv : x + Int32.ofInt n = v) (hn : i < nL) (hw : (i, Value.int v) :: vs.filter (fun q => !(q.1 == i) && !(q.1 + 1 == i && q.2.category == 2)) = vs')
    (kk : wc_K p l e R s m args below meth c nL Γ A Q cells slots (pc + 3) (vs') (st) σ μ) : wc_K p l e R s m args below meth c nL Γ A Q cells slots (pc) (vs) (st) σ μ :=
  fun ls H locs hl hP hD hS => lv_iinc C.1.1 C.1.2.1 hd hl hk hv hn hw (fun ls' hl' => kk ls' H locs hl' hP hD hS)
theorem wr_iadd (C : wc_C p s m args c cc nL own Γ A) {x y z : Int32} (hd : decode cc pc = .ok (.iadd, 1)) (hz : x + y = z)
    (kk : wc_K p l e R s m args below meth c nL Γ A Q cells slots (pc + 1) (vs) (.int z :: st) σ μ) : wc_K p l e R s m args below meth c nL Γ A Q cells slots (pc) (vs) (.int y :: .int x :: st) σ μ := by
  subst hz; exact fun ls H locs hl hP hD hS => lv_iadd C.1.1 C.1.2.1 hd (kk ls H locs hl hP hD hS)
theorem wr_isub (C : wc_C p s m args c cc nL own Γ A) {x y z : Int32} (hd : decode cc pc = .ok (.isub, 1)) (hz : x - y = z)
    (kk : wc_K p l e R s m args below meth c nL Γ A Q cells slots (pc + 1) (vs) (.int z :: st) σ μ) : wc_K p l e R s m args below meth c nL Γ A Q cells slots (pc) (vs) (.int y :: .int x :: st) σ μ := by
  subst hz; exact fun ls H locs hl hP hD hS => lv_isub C.1.1 C.1.2.1 hd (kk ls H locs hl hP hD hS)
theorem wr_imul (C : wc_C p s m args c cc nL own Γ A) {x y z : Int32} (hd : decode cc pc = .ok (.imul, 1)) (hz : x * y = z)
    (kk : wc_K p l e R s m args below meth c nL Γ A Q cells slots (pc + 1) (vs) (.int z :: st) σ μ) : wc_K p l e R s m args below meth c nL Γ A Q cells slots (pc) (vs) (.int y :: .int x :: st) σ μ := by
  subst hz; exact fun ls H locs hl hP hD hS => lv_imul C.1.1 C.1.2.1 hd (kk ls H locs hl hP hD hS)
theorem wr_ior (C : wc_C p s m args c cc nL own Γ A) {x y z : Int32} (hd : decode cc pc = .ok (.ior, 1)) (hz : x ||| y = z)
    (kk : wc_K p l e R s m args below meth c nL Γ A Q cells slots (pc + 1) (vs) (.int z :: st) σ μ) : wc_K p l e R s m args below meth c nL Γ A Q cells slots (pc) (vs) (.int y :: .int x :: st) σ μ := by
  subst hz; exact fun ls H locs hl hP hD hS => lv_ior C.1.1 C.1.2.1 hd (kk ls H locs hl hP hD hS)
theorem wr_iand (C : wc_C p s m args c cc nL own Γ A) {x y z : Int32} (hd : decode cc pc = .ok (.iand, 1)) (hz : x &&& y = z)
    (kk : wc_K p l e R s m args below meth c nL Γ A Q cells slots (pc + 1) (vs) (.int z :: st) σ μ) : wc_K p l e R s m args below meth c nL Γ A Q cells slots (pc) (vs) (.int y :: .int x :: st) σ μ := by
  subst hz; exact fun ls H locs hl hP hD hS => lv_iand C.1.1 C.1.2.1 hd (kk ls H locs hl hP hD hS)
theorem wr_ishl (C : wc_C p s m args c cc nL own Γ A) {x y z : Int32} (hd : decode cc pc = .ok (.ishl, 1)) (hz : x <<< (y &&& 31) = z)
    (kk : wc_K p l e R s m args below meth c nL Γ A Q cells slots (pc + 1) (vs) (.int z :: st) σ μ) : wc_K p l e R s m args below meth c nL Γ A Q cells slots (pc) (vs) (.int y :: .int x :: st) σ μ := by
  subst hz; exact fun ls H locs hl hP hD hS => lv_ishl C.1.1 C.1.2.1 hd (kk ls H locs hl hP hD hS)
theorem wr_idiv (C : wc_C p s m args c cc nL own Γ A) {x y z : Int32} (hd : decode cc pc = .ok (.idiv, 1)) (hne : ¬ y = 0) (hz : x / y = z)
    (kk : wc_K p l e R s m args below meth c nL Γ A Q cells slots (pc + 1) (vs) (.int z :: st) σ μ) : wc_K p l e R s m args below meth c nL Γ A Q cells slots (pc) (vs) (.int y :: .int x :: st) σ μ := by
  subst hz; exact fun ls H locs hl hP hD hS => lv_idiv C.1.1 C.1.2.1 hd hne (kk ls H locs hl hP hD hS)
theorem wr_irem (C : wc_C p s m args c cc nL own Γ A) {x y z : Int32} (hd : decode cc pc = .ok (.irem, 1)) (hne : ¬ y = 0) (hz : x - x / y * y = z)
    (kk : wc_K p l e R s m args below meth c nL Γ A Q cells slots (pc + 1) (vs) (.int z :: st) σ μ) : wc_K p l e R s m args below meth c nL Γ A Q cells slots (pc) (vs) (.int y :: .int x :: st) σ μ := by
  subst hz; exact fun ls H locs hl hP hD hS => lv_irem C.1.1 C.1.2.1 hd hne (kk ls H locs hl hP hD hS)
theorem wr_lconst (C : wc_C p s m args c cc nL own Γ A)  (hd : decode cc pc = .ok (.lconst 0, 1))
    (kk : wc_K p l e R s m args below meth c nL Γ A Q cells slots (pc + 1) (vs) (.long 0 :: st) σ μ) : wc_K p l e R s m args below meth c nL Γ A Q cells slots (pc) (vs) (st) σ μ :=
  fun ls H locs hl hP hD hS => lv_lconst C.1.1 C.1.2.1 hd rfl (kk ls H locs hl hP hD hS)
theorem wr_i2l (C : wc_C p s m args c cc nL own Γ A) {x : Int32} (hd : decode cc pc = .ok (.i2l, 1))
    (kk : wc_K p l e R s m args below meth c nL Γ A Q cells slots (pc + 1) (vs) (.long x.toInt64 :: st) σ μ) : wc_K p l e R s m args below meth c nL Γ A Q cells slots (pc) (vs) (.int x :: st) σ μ :=
  fun ls H locs hl hP hD hS => lv_i2l C.1.1 C.1.2.1 hd rfl (kk ls H locs hl hP hD hS)
theorem wr_lcmp (C : wc_C p s m args c cc nL own Γ A) {x y : Int64} (hd : decode cc pc = .ok (.lcmp, 1))
    (kk : wc_K p l e R s m args below meth c nL Γ A Q cells slots (pc + 1) (vs) (.int (lg_cmp x y) :: st) σ μ) : wc_K p l e R s m args below meth c nL Γ A Q cells slots (pc) (vs) (.long y :: .long x :: st) σ μ :=
  fun ls H locs hl hP hD hS => W.lcmp C.1.1 C.1.2.1 hd (kk ls H locs hl hP hD hS)
theorem wr_dup (C : wc_C p s m args c cc nL own Γ A) {va : Value} (hd : decode cc pc = .ok (.dup, 1)) (hva : va.category = 1)
    (kk : wc_K p l e R s m args below meth c nL Γ A Q cells slots (pc + 1) (vs) (va :: va :: st) σ μ) : wc_K p l e R s m args below meth c nL Γ A Q cells slots (pc) (vs) (va :: st) σ μ :=
  fun ls H locs hl hP hD hS => lv_dup C.1.1 C.1.2.1 hd hva (kk ls H locs hl hP hD hS)
theorem wr_dup_x1 (C : wc_C p s m args c cc nL own Γ A) {va vb : Value} (hd : decode cc pc = .ok (.dup_x1, 1)) (hva : va.category = 1) (hvb : vb.category = 1)
    (kk : wc_K p l e R s m args below meth c nL Γ A Q cells slots (pc + 1) (vs) (va :: vb :: va :: st) σ μ) : wc_K p l e R s m args below meth c nL Γ A Q cells slots (pc) (vs) (va :: vb :: st) σ μ :=
  fun ls H locs hl hP hD hS => lv_dup_x1 C.1.1 C.1.2.1 hd hva hvb (kk ls H locs hl hP hD hS)
theorem wr_dup2 (C : wc_C p s m args c cc nL own Γ A) {va vb : Value} (hd : decode cc pc = .ok (.dup2, 1)) (hva : va.category = 1) (hvb : vb.category = 1)
    (kk : wc_K p l e R s m args below meth c nL Γ A Q cells slots (pc + 1) (vs) (va :: vb :: va :: vb :: st) σ μ) : wc_K p l e R s m args below meth c nL Γ A Q cells slots (pc) (vs) (va :: vb :: st) σ μ :=
  fun ls H locs hl hP hD hS => lv_dup2_11 C.1.1 C.1.2.1 hd hva hvb (kk ls H locs hl hP hD hS)
theorem wr_pop (C : wc_C p s m args c cc nL own Γ A) {va : Value} (hd : decode cc pc = .ok (.pop, 1)) (hva : va.category = 1)
    (kk : wc_K p l e R s m args below meth c nL Γ A Q cells slots (pc + 1) (vs) (st) σ μ) : wc_K p l e R s m args below meth c nL Γ A Q cells slots (pc) (vs) (va :: st) σ μ :=
  fun ls H locs hl hP hD hS => lv_pop C.1.1 C.1.2.1 hd hva (kk ls H locs hl hP hD hS)
theorem wr_null (C : wc_C p s m args c cc nL own Γ A)  (hd : decode cc pc = .ok (.aconst_null, 1))
    (kk : wc_K p l e R s m args below meth c nL Γ A Q cells slots (pc + 1) (vs) (.null :: st) σ μ) : wc_K p l e R s m args below meth c nL Γ A Q cells slots (pc) (vs) (st) σ μ :=
  fun ls H locs hl hP hD hS => lv_null C.1.1 C.1.2.1 hd (kk ls H locs hl hP hD hS)
theorem wr_ldc (C : wc_C p s m args c cc nL own Γ A) {index : Nat} {v : Int32} (hd : decode cc pc = .ok (.ldc index, 2)) (hc : Cond.constant own index v ∈ wc_tb)
    (kk : wc_K p l e R s m args below meth c nL Γ A Q cells slots (pc + 2) (vs) (.int v :: st) σ μ) : wc_K p l e R s m args below meth c nL Γ A Q cells slots (pc) (vs) (st) σ μ :=
  fun ls H locs hl hP hD hS => lv_ldc C.1.1 C.1.2.1 C.1.2.2.2.1 (C.1.2.2.2.2 _ hc) hd (kk ls H locs hl hP hD hS)
theorem wr_ldc2 (C : wc_C p s m args c cc nL own Γ A) {index : Nat} {v : Int64} (hd : decode cc pc = .ok (.ldc2_w index, 3)) (hc : Cond.constantLong own index v ∈ wc_tb)
    (kk : wc_K p l e R s m args below meth c nL Γ A Q cells slots (pc + 3) (vs) (.long v :: st) σ μ) : wc_K p l e R s m args below meth c nL Γ A Q cells slots (pc) (vs) (st) σ μ :=
  fun ls H locs hl hP hD hS => lv_ldc2 C.1.1 C.1.2.1 C.1.2.2.2.1 (C.1.2.2.2.2 _ hc) hd (kk ls H locs hl hP hD hS)
theorem wr_if_eq (C : wc_C p s m args c cc nL own Γ A) {x : Int32} {off : Int} {tgt : Nat} (hd : decode cc pc = .ok (.ifCond .eq off, 3)) (ht : (pc : Int) + off = (tgt : Int))
    (kt : x = 0 → wc_K p l e R s m args below meth c nL Γ A Q cells slots (tgt) (vs) (st) σ μ) (kf : ¬ x = 0 → wc_K p l e R s m args below meth c nL Γ A Q cells slots (pc + 3) (vs) (st) σ μ) : wc_K p l e R s m args below meth c nL Γ A Q cells slots (pc) (vs) (.int x :: st) σ μ :=
  fun ls H locs hl hP hD hS => lv_if_eq C.1.1 C.1.2.1 hd ht (fun h => kt h ls H locs hl hP hD hS) (fun h => kf h ls H locs hl hP hD hS)
theorem wr_icmp_eq (C : wc_C p s m args c cc nL own Γ A) {x y : Int32} {off : Int} {tgt : Nat} (hd : decode cc pc = .ok (.if_icmp .eq off, 3)) (ht : (pc : Int) + off = (tgt : Int))
    (kt : x = y → wc_K p l e R s m args below meth c nL Γ A Q cells slots (tgt) (vs) (st) σ μ) (kf : ¬ x = y → wc_K p l e R s m args below meth c nL Γ A Q cells slots (pc + 3) (vs) (st) σ μ) : wc_K p l e R s m args below meth c nL Γ A Q cells slots (pc) (vs) (.int y :: .int x :: st) σ μ :=
  fun ls H locs hl hP hD hS => lv_icmp_eq C.1.1 C.1.2.1 hd ht (fun h => kt h ls H locs hl hP hD hS) (fun h => kf h ls H locs hl hP hD hS)
theorem wr_if_ne (C : wc_C p s m args c cc nL own Γ A) {x : Int32} {off : Int} {tgt : Nat} (hd : decode cc pc = .ok (.ifCond .ne off, 3)) (ht : (pc : Int) + off = (tgt : Int))
    (kt : ¬ x = 0 → wc_K p l e R s m args below meth c nL Γ A Q cells slots (tgt) (vs) (st) σ μ) (kf : x = 0 → wc_K p l e R s m args below meth c nL Γ A Q cells slots (pc + 3) (vs) (st) σ μ) : wc_K p l e R s m args below meth c nL Γ A Q cells slots (pc) (vs) (.int x :: st) σ μ :=
  fun ls H locs hl hP hD hS => lv_if_ne C.1.1 C.1.2.1 hd ht (fun h => kt h ls H locs hl hP hD hS) (fun h => kf h ls H locs hl hP hD hS)
theorem wr_icmp_ne (C : wc_C p s m args c cc nL own Γ A) {x y : Int32} {off : Int} {tgt : Nat} (hd : decode cc pc = .ok (.if_icmp .ne off, 3)) (ht : (pc : Int) + off = (tgt : Int))
    (kt : ¬ x = y → wc_K p l e R s m args below meth c nL Γ A Q cells slots (tgt) (vs) (st) σ μ) (kf : x = y → wc_K p l e R s m args below meth c nL Γ A Q cells slots (pc + 3) (vs) (st) σ μ) : wc_K p l e R s m args below meth c nL Γ A Q cells slots (pc) (vs) (.int y :: .int x :: st) σ μ :=
  fun ls H locs hl hP hD hS => lv_icmp_ne C.1.1 C.1.2.1 hd ht (fun h => kt h ls H locs hl hP hD hS) (fun h => kf h ls H locs hl hP hD hS)
theorem wr_if_lt (C : wc_C p s m args c cc nL own Γ A) {x : Int32} {off : Int} {tgt : Nat} (hd : decode cc pc = .ok (.ifCond .lt off, 3)) (ht : (pc : Int) + off = (tgt : Int))
    (kt : x < 0 → wc_K p l e R s m args below meth c nL Γ A Q cells slots (tgt) (vs) (st) σ μ) (kf : ¬ x < 0 → wc_K p l e R s m args below meth c nL Γ A Q cells slots (pc + 3) (vs) (st) σ μ) : wc_K p l e R s m args below meth c nL Γ A Q cells slots (pc) (vs) (.int x :: st) σ μ :=
  fun ls H locs hl hP hD hS => lv_if_lt C.1.1 C.1.2.1 hd ht (fun h => kt h ls H locs hl hP hD hS) (fun h => kf h ls H locs hl hP hD hS)
theorem wr_icmp_lt (C : wc_C p s m args c cc nL own Γ A) {x y : Int32} {off : Int} {tgt : Nat} (hd : decode cc pc = .ok (.if_icmp .lt off, 3)) (ht : (pc : Int) + off = (tgt : Int))
    (kt : x < y → wc_K p l e R s m args below meth c nL Γ A Q cells slots (tgt) (vs) (st) σ μ) (kf : ¬ x < y → wc_K p l e R s m args below meth c nL Γ A Q cells slots (pc + 3) (vs) (st) σ μ) : wc_K p l e R s m args below meth c nL Γ A Q cells slots (pc) (vs) (.int y :: .int x :: st) σ μ :=
  fun ls H locs hl hP hD hS => lv_icmp_lt C.1.1 C.1.2.1 hd ht (fun h => kt h ls H locs hl hP hD hS) (fun h => kf h ls H locs hl hP hD hS)
theorem wr_if_ge (C : wc_C p s m args c cc nL own Γ A) {x : Int32} {off : Int} {tgt : Nat} (hd : decode cc pc = .ok (.ifCond .ge off, 3)) (ht : (pc : Int) + off = (tgt : Int))
    (kt : 0 ≤ x → wc_K p l e R s m args below meth c nL Γ A Q cells slots (tgt) (vs) (st) σ μ) (kf : ¬ 0 ≤ x → wc_K p l e R s m args below meth c nL Γ A Q cells slots (pc + 3) (vs) (st) σ μ) : wc_K p l e R s m args below meth c nL Γ A Q cells slots (pc) (vs) (.int x :: st) σ μ :=
  fun ls H locs hl hP hD hS => lv_if_ge C.1.1 C.1.2.1 hd ht (fun h => kt h ls H locs hl hP hD hS) (fun h => kf h ls H locs hl hP hD hS)
theorem wr_icmp_ge (C : wc_C p s m args c cc nL own Γ A) {x y : Int32} {off : Int} {tgt : Nat} (hd : decode cc pc = .ok (.if_icmp .ge off, 3)) (ht : (pc : Int) + off = (tgt : Int))
    (kt : y ≤ x → wc_K p l e R s m args below meth c nL Γ A Q cells slots (tgt) (vs) (st) σ μ) (kf : ¬ y ≤ x → wc_K p l e R s m args below meth c nL Γ A Q cells slots (pc + 3) (vs) (st) σ μ) : wc_K p l e R s m args below meth c nL Γ A Q cells slots (pc) (vs) (.int y :: .int x :: st) σ μ :=
  fun ls H locs hl hP hD hS => lv_icmp_ge C.1.1 C.1.2.1 hd ht (fun h => kt h ls H locs hl hP hD hS) (fun h => kf h ls H locs hl hP hD hS)
theorem wr_if_gt (C : wc_C p s m args c cc nL own Γ A) {x : Int32} {off : Int} {tgt : Nat} (hd : decode cc pc = .ok (.ifCond .gt off, 3)) (ht : (pc : Int) + off = (tgt : Int))
    (kt : 0 < x → wc_K p l e R s m args below meth c nL Γ A Q cells slots (tgt) (vs) (st) σ μ) (kf : ¬ 0 < x → wc_K p l e R s m args below meth c nL Γ A Q cells slots (pc + 3) (vs) (st) σ μ) : wc_K p l e R s m args below meth c nL Γ A Q cells slots (pc) (vs) (.int x :: st) σ μ :=
  fun ls H locs hl hP hD hS => lv_if_gt C.1.1 C.1.2.1 hd ht (fun h => kt h ls H locs hl hP hD hS) (fun h => kf h ls H locs hl hP hD hS)
theorem wr_icmp_gt (C : wc_C p s m args c cc nL own Γ A) {x y : Int32} {off : Int} {tgt : Nat} (hd : decode cc pc = .ok (.if_icmp .gt off, 3)) (ht : (pc : Int) + off = (tgt : Int))
    (kt : y < x → wc_K p l e R s m args below meth c nL Γ A Q cells slots (tgt) (vs) (st) σ μ) (kf : ¬ y < x → wc_K p l e R s m args below meth c nL Γ A Q cells slots (pc + 3) (vs) (st) σ μ) : wc_K p l e R s m args below meth c nL Γ A Q cells slots (pc) (vs) (.int y :: .int x :: st) σ μ :=
  fun ls H locs hl hP hD hS => lv_icmp_gt C.1.1 C.1.2.1 hd ht (fun h => kt h ls H locs hl hP hD hS) (fun h => kf h ls H locs hl hP hD hS)
theorem wr_if_le (C : wc_C p s m args c cc nL own Γ A) {x : Int32} {off : Int} {tgt : Nat} (hd : decode cc pc = .ok (.ifCond .le off, 3)) (ht : (pc : Int) + off = (tgt : Int))
    (kt : x ≤ 0 → wc_K p l e R s m args below meth c nL Γ A Q cells slots (tgt) (vs) (st) σ μ) (kf : ¬ x ≤ 0 → wc_K p l e R s m args below meth c nL Γ A Q cells slots (pc + 3) (vs) (st) σ μ) : wc_K p l e R s m args below meth c nL Γ A Q cells slots (pc) (vs) (.int x :: st) σ μ :=
  fun ls H locs hl hP hD hS => lv_if_le C.1.1 C.1.2.1 hd ht (fun h => kt h ls H locs hl hP hD hS) (fun h => kf h ls H locs hl hP hD hS)
theorem wr_icmp_le (C : wc_C p s m args c cc nL own Γ A) {x y : Int32} {off : Int} {tgt : Nat} (hd : decode cc pc = .ok (.if_icmp .le off, 3)) (ht : (pc : Int) + off = (tgt : Int))
    (kt : x ≤ y → wc_K p l e R s m args below meth c nL Γ A Q cells slots (tgt) (vs) (st) σ μ) (kf : ¬ x ≤ y → wc_K p l e R s m args below meth c nL Γ A Q cells slots (pc + 3) (vs) (st) σ μ) : wc_K p l e R s m args below meth c nL Γ A Q cells slots (pc) (vs) (.int y :: .int x :: st) σ μ :=
  fun ls H locs hl hP hD hS => lv_icmp_le C.1.1 C.1.2.1 hd ht (fun h => kt h ls H locs hl hP hD hS) (fun h => kf h ls H locs hl hP hD hS)
theorem wr_goto (C : wc_C p s m args c cc nL own Γ A) {off : Int} {tgt : Nat} (hd : decode cc pc = .ok (.goto off, 3)) (ht : (pc : Int) + off = (tgt : Int)) (kk : wc_K p l e R s m args below meth c nL Γ A Q cells slots (tgt) (vs) (st) σ μ) : wc_K p l e R s m args below meth c nL Γ A Q cells slots (pc) (vs) (st) σ μ :=
  fun ls H locs hl hP hD hS => lv_goto C.1.1 C.1.2.1 hd ht (kk ls H locs hl hP hD hS)
theorem wr_ifnonnull (C : wc_C p s m args c cc nL own Γ A) {x : Nat} {off : Int} {tgt : Nat} (hd : decode cc pc = .ok (.ifnonnull off, 3)) (ht : (pc : Int) + off = (tgt : Int)) (kk : wc_K p l e R s m args below meth c nL Γ A Q cells slots (tgt) (vs) (st) σ μ) : wc_K p l e R s m args below meth c nL Γ A Q cells slots (pc) (vs) (.ref x :: st) σ μ :=
  fun ls H locs hl hP hD hS => lv_ifnonnull C.1.1 C.1.2.1 hd ht (kk ls H locs hl hP hD hS)
theorem wr_ifnonnullN (C : wc_C p s m args c cc nL own Γ A) {off : Int} (hd : decode cc pc = .ok (.ifnonnull off, 3)) (kk : wc_K p l e R s m args below meth c nL Γ A Q cells slots (pc + 3) (vs) (st) σ μ) : wc_K p l e R s m args below meth c nL Γ A Q cells slots (pc) (vs) (.null :: st) σ μ :=
  fun ls H locs hl hP hD hS => lv_ifnonnullN C.1.1 C.1.2.1 hd (kk ls H locs hl hP hD hS)
theorem wr_ifnull (C : wc_C p s m args c cc nL own Γ A) {x : Nat} {off : Int} (hd : decode cc pc = .ok (.ifnull off, 3)) (kk : wc_K p l e R s m args below meth c nL Γ A Q cells slots (pc + 3) (vs) (st) σ μ) : wc_K p l e R s m args below meth c nL Γ A Q cells slots (pc) (vs) (.ref x :: st) σ μ :=
  fun ls H locs hl hP hD hS => lv_ifnull C.1.1 C.1.2.1 hd (kk ls H locs hl hP hD hS)
theorem wr_ifnullN (C : wc_C p s m args c cc nL own Γ A) {off : Int} {tgt : Nat} (hd : decode cc pc = .ok (.ifnull off, 3)) (ht : (pc : Int) + off = (tgt : Int)) (kk : wc_K p l e R s m args below meth c nL Γ A Q cells slots (tgt) (vs) (st) σ μ) : wc_K p l e R s m args below meth c nL Γ A Q cells slots (pc) (vs) (.null :: st) σ μ :=
  fun ls H locs hl hP hD hS => lv_ifnullN C.1.1 C.1.2.1 hd ht (kk ls H locs hl hP hD hS)
theorem wr_acmp_ne (C : wc_C p s m args c cc nL own Γ A) {x y : Nat} {off : Int} {tgt : Nat} (hd : decode cc pc = .ok (.if_acmp .ne off, 3)) (ht : (pc : Int) + off = (tgt : Int)) (kt : ¬ x = y → wc_K p l e R s m args below meth c nL Γ A Q cells slots (tgt) (vs) (st) σ μ) (kf : x = y → wc_K p l e R s m args below meth c nL Γ A Q cells slots (pc + 3) (vs) (st) σ μ) : wc_K p l e R s m args below meth c nL Γ A Q cells slots (pc) (vs) (.ref y :: .ref x :: st) σ μ :=
  fun ls H locs hl hP hD hS => lv_acmp_ne (rx := some x) (ry := some y) C.1.1 C.1.2.1 hd ht (fun h => kt (fun q => h (by rw [q])) ls H locs hl hP hD hS) (fun h => kf (Option.some.inj h) ls H locs hl hP hD hS)
theorem wr_acmp_eq (C : wc_C p s m args c cc nL own Γ A) {x y : Nat} {off : Int} {tgt : Nat} (hd : decode cc pc = .ok (.if_acmp .eq off, 3)) (ht : (pc : Int) + off = (tgt : Int)) (kt : x = y → wc_K p l e R s m args below meth c nL Γ A Q cells slots (tgt) (vs) (st) σ μ) (kf : ¬ x = y → wc_K p l e R s m args below meth c nL Γ A Q cells slots (pc + 3) (vs) (st) σ μ) : wc_K p l e R s m args below meth c nL Γ A Q cells slots (pc) (vs) (.ref y :: .ref x :: st) σ μ :=
  fun ls H locs hl hP hD hS => lv_acmp_eq (rx := some x) (ry := some y) C.1.1 C.1.2.1 hd ht (fun h => kt (Option.some.inj h) ls H locs hl hP hD hS) (fun h => kf (fun q => h (by rw [q])) ls H locs hl hP hD hS)
/-- another name of the top, of the state -/
theorem wr_top {x y : Int32} (h : x = y) (kk : wc_K p l e R s m args below meth c nL Γ A Q cells slots (pc) (vs) (.int y :: st) σ μ) : wc_K p l e R s m args below meth c nL Γ A Q cells slots (pc) (vs) (.int x :: st) σ μ := by
  subst h; exact kk
theorem wr_eq {σ' μ' : wc_St} (h : σ = σ') (h2 : μ = μ') (kk : wc_K p l e R s m args below meth c nL Γ A Q cells slots (pc) (vs) (st) σ' μ') : wc_K p l e R s m args below meth c nL Γ A Q cells slots (pc) (vs) (st) σ μ := by
  subst h; subst h2; exact kk
theorem wr_vs {vs' : List (Nat × Value)} (h : vs = vs') (kk : wc_K p l e R s m args below meth c nL Γ A Q cells slots (pc) (vs') (st) σ μ) : wc_K p l e R s m args below meth c nL Γ A Q cells slots (pc) (vs) (st) σ μ := by
  subst h; exact kk
theorem wr_sub {vs' : List (Nat × Value)} (ks : List Nat) (h : lv_pick vs ks = vs') (kk : wc_K p l e R s m args below meth c nL Γ A Q cells slots (pc) (vs') (st) σ μ) : wc_K p l e R s m args below meth c nL Γ A Q cells slots (pc) (vs) (st) σ μ :=
  fun ls H locs hl hP hD hS => kk ls H locs (lv_sub hl ks h) hP hD hS
/-- a field's word, as an own field or a nest mate's -/
def wc_lk (own : String) (index : Nat) (t : String × String × String × Bool) : Prop := Cond.fieldLink own index t.1 t.2.1 t.2.2.1 ∈ wc_tb ∨ ∃ host, Cond.fieldLinkNest own index t.1 t.2.1 t.2.2.1 host ∈ wc_tb
theorem wr_get (C : wc_C p s m args c cc nL own Γ A) {q ci N k index : Nat} {T : u_T} {Cn : String} {fs : List Value} {v : Value} (hq : q < 91) (hcell : wc_cell Γ σ μ q = .inr (ci, fs)) (hc : vwCl[ci]? = some (Cn, T, N)) (hk : k < N) (hin : ∀ w ∈ u_ws Cn T N, w ∈ wc_tb) (hlk : wc_lk own index (T k)) (hv : fs[k]? = some v) (hd : decode cc pc = .ok (.getfield index, 3))
    (kk : wc_K p l e R s m args below meth c nL Γ A Q cells slots (pc + 3) (vs) (v :: st) σ μ) : wc_K p l e R s m args below meth c nL Γ A Q cells slots (pc) (vs) (.ref (Γ.2.2 q) :: st) σ μ := by
  intro ls H locs hl hP hD hS
  rcases hlk with h | ⟨host, h⟩
  · exact va_get C.1.1 C.1.2.1 C.1.2.2.2.2 hin C.1.2.2.2.1 C.2.1 hP q (wc_at hq hcell) hc k hk (C.1.2.2.2.2 _ h) (fun _ h => h) hv hd (kk ls H locs hl hP hD hS)
  · exact va_getN C.1.1 C.1.2.1 C.1.2.2.2.2 hin C.1.2.2.2.1 C.2.1 hP q (wc_at hq hcell) hc k hk (C.1.2.2.2.2 _ h) (fun _ h => h) hv hd (kk ls H locs hl hP hD hS)
theorem wr_put (C : wc_C p s m args c cc nL own Γ A) {q ci N k index : Nat} {T : u_T} {Cn : String} {fs : List Value} {v : Value} {σ' μ' : wc_St} {ty : FieldType} (hq : q < 91) (hcell : wc_cell Γ σ μ q = .inr (ci, fs)) (hc : vwCl[ci]? = some (Cn, T, N)) (hk : k < N) (hin : ∀ w ∈ u_ws Cn T N, w ∈ wc_tb) (ty0 : Nat → FieldType) (hty : ∀ k, k < N → parseFieldDescriptor (T k).2.2.1 = some (ty0 k)) (hnm : ∀ a, a < N → ∀ b, b < N → a ≠ b → (T a).2.1 ≠ (T b).2.1) (hfin : (T k).2.2.2 = false) (hds : parseFieldDescriptor (T k).2.2.1 = some ty) (hlen : k < fs.length) (hset : (wc_wl Γ σ μ).set q (Γ.2.2 q, .inr (ci, fs.set k v)) = wc_wl Γ σ' μ') (hlk : wc_lk own index (T k)) (hn : narrow ty v = v) (hfit : fits ty v = true) (hd : decode cc pc = .ok (.putfield index, 3))
    (kk : wc_K p l e R s m args below meth c nL Γ A Q cells slots (pc + 3) (vs) (st) σ' μ') : wc_K p l e R s m args below meth c nL Γ A Q cells slots (pc) (vs) (v :: .ref (Γ.2.2 q) :: st) σ μ := by
  intro ls H locs hl hP hD hS
  rcases hlk with h | ⟨host, h⟩
  · refine va_put C.1.1 C.1.2.1 C.1.2.2.2.2 hin ty0 hty hnm C.1.2.2.2.1 C.2.1 hP hD hS q (wc_at hq hcell) hc k hk (C.1.2.2.2.2 _ h) (fun _ h => h) hfin hds hn hfit hlen hd (fun H1 locs1 hP1 hD1 hS1 => ?_)
    rw [hset] at hP1 hD1
    exact kk ls H1 locs1 hl hP1 hD1 hS1
  · refine va_putN C.1.1 C.1.2.1 C.1.2.2.2.2 hin ty0 hty hnm C.1.2.2.2.1 C.2.1 hP hD hS q (wc_at hq hcell) hc k hk (C.1.2.2.2.2 _ h) (fun _ h => h) hfin hds hn hfit hlen hd (fun H1 locs1 hP1 hD1 hS1 => ?_)
    rw [hset] at hP1 hD1
    exact kk ls H1 locs1 hl hP1 hD1 hS1
theorem wr_ild (C : wc_C p s m args c cc nL own Γ A) {q n t0 i : Nat} {f : Nat → Int32} {cA : ClassId} (hq : q < 91) (hcell : wc_cell Γ σ μ q = .inl (cA, n, .inl f)) (ht : (wc_tys Γ)[t0]? = some (cA, .int)) (hi : i < n) (hn : n < 2 ^ 31) (hd : decode cc pc = .ok (.iaload, 1))
    (kk : wc_K p l e R s m args below meth c nL Γ A Q cells slots (pc + 1) (vs) (.int (f i) :: st) σ μ) : wc_K p l e R s m args below meth c nL Γ A Q cells slots (pc) (vs) (.int (nI i) :: .ref (Γ.2.2 q) :: st) σ μ := by
  intro ls H locs hl hP hD hS
  refine va_iald C.1.1 C.1.2.1 C.2.1 hP q t0 (wc_at hq hcell) ht (vp_in_nI hi hn) hd ?_
  rw [nI_clamp (by omega)]
  exact kk ls H locs hl hP hD hS
theorem wr_zld (C : wc_C p s m args c cc nL own Γ A) {q n t0 i : Nat} {f : Nat → Int32} {cA : ClassId} (hq : q < 91) (hcell : wc_cell Γ σ μ q = .inl (cA, n, .inl f)) (ht : (wc_tys Γ)[t0]? = some (cA, .boolean)) (hi : i < n) (hn : n < 2 ^ 31) (hd : decode cc pc = .ok (.baload, 1))
    (kk : wc_K p l e R s m args below meth c nL Γ A Q cells slots (pc + 1) (vs) (.int (f i) :: st) σ μ) : wc_K p l e R s m args below meth c nL Γ A Q cells slots (pc) (vs) (.int (nI i) :: .ref (Γ.2.2 q) :: st) σ μ := by
  intro ls H locs hl hP hD hS
  refine va_zald C.1.1 C.1.2.1 C.2.1 hP q t0 (wc_at hq hcell) ht (vp_in_nI hi hn) hd ?_
  rw [nI_clamp (by omega)]
  exact kk ls H locs hl hP hD hS
theorem wr_ist (C : wc_C p s m args c cc nL own Γ A) {q n t0 i : Nat} {f : Nat → Int32} {cA : ClassId} {x : Int32} {σ' μ' : wc_St} (hq : q < 91) (hcell : wc_cell Γ σ μ q = .inl (cA, n, .inl f)) (ht : (wc_tys Γ)[t0]? = some (cA, .int)) (hi : i < n) (hn : n < 2 ^ 31) (hset : (wc_wl Γ σ μ).set q (Γ.2.2 q, .inl (cA, n, .inl (upd f i (x)))) = wc_wl Γ σ' μ') (hd : decode cc pc = .ok (.iastore, 1))
    (kk : wc_K p l e R s m args below meth c nL Γ A Q cells slots (pc + 1) (vs) (st) σ' μ') : wc_K p l e R s m args below meth c nL Γ A Q cells slots (pc) (vs) (.int x :: .int (nI i) :: .ref (Γ.2.2 q) :: st) σ μ := by
  intro ls H locs hl hP hD hS
  refine va_iast C.1.1 C.1.2.1 C.2.1 hP hD hS q t0 (wc_at hq hcell) ht (vp_in_nI hi hn) hd (fun H1 locs1 hP1 hD1 hS1 => ?_)
  rw [nI_clamp (by omega), hset] at hP1 hD1
  exact kk ls H1 locs1 hl hP1 hD1 hS1
theorem wr_zst (C : wc_C p s m args c cc nL own Γ A) {q n t0 i : Nat} {f : Nat → Int32} {cA : ClassId} {x : Int32} {σ' μ' : wc_St} (hq : q < 91) (hcell : wc_cell Γ σ μ q = .inl (cA, n, .inl f)) (ht : (wc_tys Γ)[t0]? = some (cA, .boolean)) (hi : i < n) (hn : n < 2 ^ 31) (hset : (wc_wl Γ σ μ).set q (Γ.2.2 q, .inl (cA, n, .inl (upd f i (vp_nar .boolean x)))) = wc_wl Γ σ' μ') (hd : decode cc pc = .ok (.bastore, 1))
    (kk : wc_K p l e R s m args below meth c nL Γ A Q cells slots (pc + 1) (vs) (st) σ' μ') : wc_K p l e R s m args below meth c nL Γ A Q cells slots (pc) (vs) (.int x :: .int (nI i) :: .ref (Γ.2.2 q) :: st) σ μ := by
  intro ls H locs hl hP hD hS
  refine va_zast C.1.1 C.1.2.1 C.2.1 hP hD hS q t0 (wc_at hq hcell) ht (vp_in_nI hi hn) hd (fun H1 locs1 hP1 hD1 hS1 => ?_)
  rw [nI_clamp (by omega), hset] at hP1 hD1
  exact kk ls H1 locs1 hl hP1 hD1 hS1
theorem wr_ald (C : wc_C p s m args c cc nL own Γ A) {q n t0 i a : Nat} {f : Nat → Option Nat} {cA : ClassId} {E : String} (hq : q < 91) (hcell : wc_cell Γ σ μ q = .inl (cA, n, .inr (.inr (.inr (.inr f))))) (ht : (wc_tys Γ)[t0]? = some (cA, .object E)) (hi : i < n) (hn : n < 2 ^ 31) (hf : f i = some a) (hd : decode cc pc = .ok (.aaload, 1))
    (kk : wc_K p l e R s m args below meth c nL Γ A Q cells slots (pc + 1) (vs) (.ref a :: st) σ μ) : wc_K p l e R s m args below meth c nL Γ A Q cells slots (pc) (vs) (.int (nI i) :: .ref (Γ.2.2 q) :: st) σ μ := by
  intro ls H locs hl hP hD hS
  refine va_aldq C.1.1 C.1.2.1 C.2.1 hP q t0 (wc_at hq hcell) ht (vp_in_nI hi hn) hd ?_
  rw [nI_clamp (by omega), hf]
  exact kk ls H locs hl hP hD hS
theorem wr_alen (C : wc_C p s m args c cc nL own Γ A) {q t0 : Nat} {x : vp_A} {cA : ClassId} {ty : FieldType} (hq : q < 91) (hcell : wc_cell Γ σ μ q = .inl (cA, x)) (ht : (wc_tys Γ)[t0]? = some (cA, ty)) (hd : decode cc pc = .ok (.arraylength, 1))
    (kk : wc_K p l e R s m args below meth c nL Γ A Q cells slots (pc + 1) (vs) (.int (nI x.1) :: st) σ μ) : wc_K p l e R s m args below meth c nL Γ A Q cells slots (pc) (vs) (.ref (Γ.2.2 q) :: st) σ μ :=
  fun ls H locs hl hP hD hS => va_alen C.1.1 C.1.2.1 C.2.1 hP q t0 (wc_at hq hcell) ht rfl hd (kk ls H locs hl hP hD hS)
theorem wr_mmax (C : wc_C p s m args c cc nL own Γ A) {x y : Int32} {index : Nat} (hm : Cond.methodLink own index Lib.Math.max.name ∈ wc_tb) (hst : Cond.static Lib.Math.max.name ∈ wc_tb) (hi : Cond.initialized "java/lang/Math" ∈ wc_tb) (hco : Cond.code Lib.Math.max.name Lib.Math.max.code 2 (some .int) ∈ wc_tb) (hf : 1 ≤ R.frames) (hlo : 40 ≤ R.locals) (hsum : (st.map fun v => v.category).sum ≤ 8) (hcs : cells ≤ R.cells ∧ slots ≤ R.slots) (hd : decode cc pc = .ok (.invokestatic index, 3))
    (kk : wc_K p l e R s m args below meth c nL Γ A Q cells slots (pc + 3) (vs) (.int (wc_mx x y) :: st) σ μ) : wc_K p l e R s m args below meth c nL Γ A Q cells slots (pc) (vs) (.int y :: .int x :: st) σ μ :=
  fun ls H locs hl hP hD hS => va_mmax C.1.1 C.1.2.1 (C.1.2.2.1.trans hl.1.symm) C.1.2.2.2.1 (C.1.2.2.2.2 _ hm) (C.1.2.2.2.2 _ hst) (C.1.2.2.2.2 _ hi) (C.1.2.2.2.2 _ hco) hf (by omega) hcs.1 hcs.2 hd (kk ls H locs hl hP hD hS)
theorem wr_mmin (C : wc_C p s m args c cc nL own Γ A) {x y : Int32} {index : Nat} (hm : Cond.methodLink own index Lib.Math.min.name ∈ wc_tb) (hst : Cond.static Lib.Math.min.name ∈ wc_tb) (hi : Cond.initialized "java/lang/Math" ∈ wc_tb) (hco : Cond.code Lib.Math.min.name Lib.Math.min.code 2 (some .int) ∈ wc_tb) (hf : 1 ≤ R.frames) (hlo : 40 ≤ R.locals) (hsum : (st.map fun v => v.category).sum ≤ 8) (hcs : cells ≤ R.cells ∧ slots ≤ R.slots) (hd : decode cc pc = .ok (.invokestatic index, 3))
    (kk : wc_K p l e R s m args below meth c nL Γ A Q cells slots (pc + 3) (vs) (.int (wc_mn x y) :: st) σ μ) : wc_K p l e R s m args below meth c nL Γ A Q cells slots (pc) (vs) (.int y :: .int x :: st) σ μ :=
  fun ls H locs hl hP hD hS => va_mmin C.1.1 C.1.2.1 (C.1.2.2.1.trans hl.1.symm) C.1.2.2.2.1 (C.1.2.2.2.2 _ hm) (C.1.2.2.2.2 _ hst) (C.1.2.2.2.2 _ hi) (C.1.2.2.2.2 _ hco) hf (by omega) hcs.1 hcs.2 hd (kk ls H locs hl hP hD hS)
/-- a method's end: it answers v, the system is in the state σ' -/
def wc_Qw (Γ : wc_G) (A : Nat → Prop) (v : Option Value) (σ' μ' : wc_St) : Array Value → State → Outcome → State → Prop := fun _ st oc t => (oc = .returned v ∧ va_P Γ.1 vwCl (wc_wl Γ σ' μ') t.heap ∧ va_D A (wc_wl Γ σ' μ')) ∧ va_F A st t
def wc_Pre (Γ : wc_G) (σ μ : wc_St) (sz : Nat) (U : State) : Prop := U.heap.size = sz ∧ va_P Γ.1 vwCl (wc_wl Γ σ μ) U.heap ∧ va_K Γ.1 vwCl (wc_tys Γ) U ∧ va_D (fun _ => True) (wc_wl Γ σ μ) ∧ ∀ w ∈ wc_tb, va_Nw w U
abbrev wc_rm (d : Nat) : Room := { frames := d, cells := 0, slots := 0, locals := 40 * d }
/-- a method's contract: called with av in the state σ it answers v, and the state is σ' -/
def wc_M (l : Launch) (y : MethodName) (cc : ByteArray) (maxL : Nat) (ret : Option FieldType) (d : Nat) (Γ : wc_G) (av : List Value) (σ μ : wc_St) (v : Option Value) (σ' μ' : wc_St) : Prop :=
  ∀ sz : Nat, Met l y [Cond.code y cc maxL ret] (wc_rm d) (va_Pc av (wc_Pre Γ σ μ sz)) (wc_Qw Γ (va_A (wc_wl Γ σ μ) sz) v σ' μ') 0 0 (va_A (wc_wl Γ σ μ) sz)
abbrev wc_E (s : State) (below : List Frame) (args : Array Value) (Γ : wc_G) (σ μ : wc_St) (v : Option Value) (σ' μ' : wc_St) : State → Prop :=
  MQ below (wc_Qw Γ (va_A (wc_wl Γ σ μ) s.heap.size) v σ' μ') args s 0 0 (va_A (wc_wl Γ σ μ) s.heap.size)
theorem wc_enter {y : MethodName} (own : String) {maxL : Nat} {ret : Option FieldType} {d : Nat} {av : List Value} {v : Option Value} {σ' μ' : wc_St} (hy : plainName y.cls = true) (ho : y.cls = own) (hlen : (lg_sl av).length ≤ maxL)
    (body : ∀ (p : Program) (e : Env) (s : State) (m : MethodId) (args : Array Value) (below : List Frame) (meth : Method) (c : Code), wc_C p s m args c cc maxL own Γ (va_A (wc_wl Γ σ μ) s.heap.size) → meth.sig.returnType = ret → meth.locks = false →
      wc_K p l e (wc_rm d) s m args below meth c maxL Γ (va_A (wc_wl Γ σ μ) s.heap.size) (wc_E s below args Γ σ μ v σ' μ') 0 0 0 (lv_args 0 av) [] σ μ) : wc_M l y cc maxL ret d Γ av σ μ v σ' μ' := by
  intro sz
  refine Met.ofW (cc := cc) (maxL := maxL) (ret := ret) hy rfl ?_
  intro p e s m args below meth c s₁ B hml hv
  obtain ⟨rfl, hsz, hP, hK, hD0, hN⟩ := hv
  subst hsz
  have hown : s.vm.findClass own = some m.cls := ho ▸ findClass_of_methodNamed B.named
  rw [lg_entry_eq]
  exact body p e s m _ below meth c ⟨⟨B.exec, B.bytes, hml, hown, fun w hw => va_Nw.use (wc_tb_on w hw) (hN w hw)⟩, hK, fun q h => Or.inr h⟩ B.returns B.notSynchronized _ _ _ (lv_entry av hlen) hP hD0.self va_S.rf
theorem wr_iret (C : wc_C p s m args c cc nL own Γ A) {x : Int32} {ty : FieldType} (hr : meth.sig.returnType = some ty) (hn : narrow ty (.int x) = .int x) {v : Option Value} {σ' μ' : wc_St} (hlk : meth.locks = false) (hd : decode cc pc = .ok (.ireturn, 1)) (hv : some (.int x) = v) (hσ : σ = σ') (hμ : μ = μ') :
    wc_K p l e R s m args below meth c nL Γ A (MQ below (wc_Qw Γ A v σ' μ') args s cells slots A) cells slots pc vs [.int x] σ μ := by
  subst hv; subst hσ; subst hμ
  exact fun ls H locs hl hP hD hS => W.zret C.1.1 C.1.2.1 hr hn (fun t ht _ => ⟨⟨rfl, by rw [ht]; exact hP, hD⟩, hS.F ht⟩) hS.2.2 hd hlk
theorem wr_lret (C : wc_C p s m args c cc nL own Γ A) {x : Int64} (hr : meth.sig.returnType = some .long) {v : Option Value} {σ' μ' : wc_St} (hlk : meth.locks = false) (hd : decode cc pc = .ok (.lreturn, 1)) (hv : some (.long x) = v) (hσ : σ = σ') (hμ : μ = μ') :
    wc_K p l e R s m args below meth c nL Γ A (MQ below (wc_Qw Γ A v σ' μ') args s cells slots A) cells slots pc vs [.long x] σ μ := by
  subst hv; subst hσ; subst hμ
  exact fun ls H locs hl hP hD hS => W.lret C.1.1 C.1.2.1 hr (fun t ht _ => ⟨⟨rfl, by rw [ht]; exact hP, hD⟩, hS.F ht⟩) hS.2.2 hd hlk
theorem wr_vret (C : wc_C p s m args c cc nL own Γ A) (hr : meth.sig.returnType = none) {v : Option Value} {σ' μ' : wc_St} (hlk : meth.locks = false) (hd : decode cc pc = .ok (.return_, 1)) (hv : none = v) (hσ : σ = σ') (hμ : μ = μ') :
    wc_K p l e R s m args below meth c nL Γ A (MQ below (wc_Qw Γ A v σ' μ') args s cells slots A) cells slots pc vs [] σ μ := by
  subst hv; subst hσ; subst hμ
  exact fun ls H locs hl hP hD hS => W.vret C.1.1 C.1.2.1 hr (fun t ht _ => ⟨⟨rfl, by rw [ht]; exact hP, hD⟩, hS.F ht⟩) hS.2.2 hd hlk
theorem wr_aret (C : wc_C p s m args c cc nL own Γ A) {x : Value} {n : String} (hr : meth.sig.returnType = some (.object n)) (hx : x = .null ∨ ∃ a, x = .ref a) {v : Option Value} {σ' μ' : wc_St} (hlk : meth.locks = false) (hd : decode cc pc = .ok (.areturn, 1)) (hv : some x = v) (hσ : σ = σ') (hμ : μ = μ') :
    wc_K p l e R s m args below meth c nL Γ A (MQ below (wc_Qw Γ A v σ' μ') args s cells slots A) cells slots pc vs [x] σ μ := by
  subst hv; subst hσ; subst hμ
  exact fun ls H locs hl hP hD hS => W.aret C.1.1 C.1.2.1 hr (Or.inl ⟨_, rfl⟩) hx (fun t ht _ => ⟨⟨rfl, by rw [ht]; exact hP, hD⟩, hS.F ht⟩) hS.2.2 hd hlk
theorem wc_blind {av : List Value} {sz : Nat} : FrameBlind (va_Pc av (wc_Pre Γ σ μ sz)) := fun a U g mk q => by
  obtain ⟨q0, q1, qP, qK, qD, qN⟩ := q
  exact ⟨q0, q1, qP, va_K.moved (u := U) (U := U.calling g mk a) (Vm.Alike.refl U.vm) qK, qD, fun w hw => va_Nw.same (u := U) (U := U.calling g mk a) (wc_tb_on w hw) rfl (qN w hw)⟩
theorem wc_pre {av : List Value} {H : Heap} (hts : ∀ w ∈ wc_tb, w.before args s = true) (hK : va_K Γ.1 vwCl (wc_tys Γ) s) (hP : va_P Γ.1 vwCl (wc_wl Γ σ μ) H) (hD : va_D A (wc_wl Γ σ μ)) : ∀ U : State, U.heap = H → s.WarmedH U.vm → va_Pc av (wc_Pre Γ σ μ H.size) av.toArray U := fun U hU hW =>
  ⟨rfl, by rw [hU], by rw [hU]; exact hP, va_K.moved hW.alike hK, hD.weaken (fun _ _ _ _ => trivial), wc_tb_warm hW hts⟩
theorem wc_back {H : Heap} {locs : List Loc} {ls : Array Slot} {st0 rest : List Value} {v : Option Value} {σ' μ' : wc_St} {a : Array Value} (C : wc_C p s m args c cc nL own Γ A) (hl : lv_has ls nL vs) (hD : va_D A (wc_wl Γ σ μ)) (hS : va_S A s.heap H locs)
    (hr : va_Run p l e R s m args below meth c H locs cells slots 0 0 (F0 m pc ls st0) rest (wc_Qw Γ (va_A (wc_wl Γ σ μ) H.size) v σ' μ' a) (va_A (wc_wl Γ σ μ) H.size))
    (kk : wc_K p l e R s m args below meth c nL Γ A Q cells slots (pc + 3) (vs) (v.toList ++ rest) σ' μ') : W p l e R s m args below meth c H locs cells slots Q (F0 m pc ls st0) := by
  intro T hT X
  obtain ⟨v', st₀, t, T', L, h0, X', hL, e1, e2, ⟨⟨hv, hP1, hD1⟩, hz, hk⟩, stp⟩ := hr T hT X
  cases hv
  have hin : ∀ q, va_A (wc_wl Γ σ μ) H.size q → A q := by
    intro q h
    rcases h with ⟨k, e, h⟩ | h
    · exact hD.2 k (q, e) h
    · exact C.2.2 q (Nat.le_trans hS.1 h)
  rw [h0] at hz hk
  obtain ⟨t2, a1, b1⟩ := kk ls T'.heap (locs ++ L) hl (by rw [e1]; exact hP1) (hD1.weaken (fun k q _ h => hin q.1 h))
    ⟨Nat.le_trans hS.1 (by rw [e1]; exact hz), fun q h1 h2 => by rw [e1, hk q (Nat.lt_of_lt_of_le h1 hS.1) (fun z => h2 (hin q z))]; exact hS.2.1 q h1 h2, fun q hq => by
      rcases List.mem_append.mp hq with h | h
      · exact hS.2.2 q h
      · exact hin _ (hL q h)⟩ T' rfl X'
  exact ⟨t2, stp t2 a1, b1⟩
/-- what a call asks of the tables: the callee's code, its class, its descriptor -/
def wc_cb (y : MethodName) (bytes : ByteArray) (maxL : Nat) (ret : Option FieldType) (n : Nat) : Prop :=
  Cond.code y bytes maxL ret ∈ wc_tb ∧ Cond.initialized y.cls ∈ wc_tb ∧ y.cls ≠ "java/lang/invoke/MethodHandle" ∧ y.cls ≠ "java/lang/invoke/VarHandle" ∧ (parseMethodDescriptor y.desc).map (fun d => d.parameters.length) = some n
def wc_ml (own : String) (index : Nat) (y : MethodName) : Prop := Cond.methodLink own index y ∈ wc_tb ∨ ∃ host, Cond.methodLinkNest own index y host ∈ wc_tb
theorem wc_good {y : MethodName} {bytes : ByteArray} {maxL : Nat} {ret : Option FieldType} (h : Cond.code y bytes maxL ret ∈ wc_tb) : GoodIn wc_tb [Cond.code y bytes maxL ret] := fun w hw => by
  rw [List.mem_singleton] at hw
  subst hw
  exact ⟨h, Or.inl rfl⟩
theorem wr_callS (C : wc_C p s m args c cc nL own Γ A) {y : MethodName} {bytes : ByteArray} {maxL n index d : Nat} {ret : Option FieldType} {v : Option Value} {σ' μ' : wc_St} {As rest : List Value} (hM : wc_M l y bytes maxL ret d Γ As σ μ v σ' μ') (hcb : wc_cb y bytes maxL ret n) (hml : wc_ml own index y) (hstt : Cond.static y ∈ wc_tb) (hR : d + 1 ≤ R.frames ∧ 40 * (d + 1) ≤ R.locals) (hmx : maxL ≤ 21) (hn : As.length = n) (hst : st = As.reverse ++ rest) (hsum : (rest.map fun v => v.category).sum ≤ 8) (hcs : cells ≤ R.cells ∧ slots ≤ R.slots) (hd : decode cc pc = .ok (.invokestatic index, 3))
    (kk : wc_K p l e R s m args below meth c nL Γ A Q cells slots (pc + 3) (vs) (v.toList ++ rest) σ' μ') : wc_K p l e R s m args below meth c nL Γ A Q cells slots (pc) (vs) (st) σ μ := by
  intro ls H locs hl hP hD hS
  obtain ⟨h1, h2, h3, h4, h5⟩ := hcb
  have hRm : (wc_rm d).frames + 1 ≤ R.frames ∧ 8 + (maxL + 11) + (wc_rm d).locals ≤ R.locals := ⟨hR.1, by show 8 + (maxL + 11) + 40 * d ≤ R.locals; omega⟩
  have hp : PreS s H (va_Pc As (wc_Pre Γ σ μ H.size)) As := ⟨wc_blind, wc_pre C.1.2.2.2.2 C.2.1 hP hD⟩
  rcases hml with hm | ⟨host, hm⟩
  · exact wc_back C hl hD hS (va_runS C.1 (hM H.size) ⟨callB_of n C.1.2.2.2.2 (wc_good h1) rfl rfl rfl (C.1.2.2.2.2 _ h2) (C.1.2.2.2.2 _ hm) ⟨h3, h4, h5⟩ hRm, C.1.2.2.2.2 _ hstt⟩ hp rfl hn hl.1 hst (lv_room hsum) hd hcs) kk
  · exact wc_back C hl hD hS (va_runSN C.1 (hM H.size) ⟨va_cnB n C.1.2.2.2.2 (wc_good h1) rfl rfl rfl (va_Nw.of rfl (C.1.2.2.2.2 _ hm)) (C.1.2.2.2.2 _ h2) ⟨h3, h4, h5⟩ hRm, C.1.2.2.2.2 _ hstt, trivial⟩ hp rfl hn hl.1 hst (lv_room hsum) hd hcs) kk
theorem wr_callV (C : wc_C p s m args c cc nL own Γ A) {y : MethodName} {bytes : ByteArray} {maxL n index d : Nat} {ret : Option FieldType} {v : Option Value} {σ' μ' : wc_St} {As rest : List Value} {q ci N : Nat} {fs : List Value} {Cn : String} {T : u_T} (hM : wc_M l y bytes maxL ret d Γ (.ref (Γ.2.2 q) :: As) σ μ v σ' μ') (hcb : wc_cb y bytes maxL ret n) (hml : wc_ml own index y) (hins : Cond.instanceMethod y ∈ wc_tb) (hsel : Cond.selects Cn y y ∈ wc_tb) (hq : q < 91) (hcell : wc_cell Γ σ μ q = .inr (ci, fs)) (hc : vwCl[ci]? = some (Cn, T, N)) (hR : d + 1 ≤ R.frames ∧ 40 * (d + 1) ≤ R.locals) (hmx : maxL ≤ 21) (hn : As.length = n) (hst : st = As.reverse ++ .ref (Γ.2.2 q) :: rest) (hsum : (rest.map fun v => v.category).sum ≤ 8) (hcs : cells ≤ R.cells ∧ slots ≤ R.slots) (hd : decode cc pc = .ok (.invokevirtual index, 3))
    (kk : wc_K p l e R s m args below meth c nL Γ A Q cells slots (pc + 3) (vs) (v.toList ++ rest) σ' μ') : wc_K p l e R s m args below meth c nL Γ A Q cells slots (pc) (vs) (st) σ μ := by
  intro ls H locs hl hP hD hS
  obtain ⟨h1, h2, h3, h4, h5⟩ := hcb
  have hRm : (wc_rm d).frames + 1 ≤ R.frames ∧ 8 + (maxL + 11) + (wc_rm d).locals ≤ R.locals := ⟨hR.1, by show 8 + (maxL + 11) + 40 * d ≤ R.locals; omega⟩
  have hp : PreV s H Cn (Γ.2.2 q) (va_Pc (.ref (Γ.2.2 q) :: As) (wc_Pre Γ σ μ H.size)) As := ⟨wc_blind, va_recv C.2.1 hP hc (wc_at hq hcell), wc_pre C.1.2.2.2.2 C.2.1 hP hD⟩
  rcases hml with hm | ⟨host, hm⟩
  · exact wc_back C hl hD hS (va_runV C.1 (hM H.size) ⟨callB_of n C.1.2.2.2.2 (wc_good h1) rfl rfl rfl (C.1.2.2.2.2 _ h2) (C.1.2.2.2.2 _ hm) ⟨h3, h4, h5⟩ hRm, C.1.2.2.2.2 _ hins, C.1.2.2.2.2 _ hsel⟩ hp rfl hn hl.1 hst (lv_room hsum) hd hcs) kk
  · exact wc_back C hl hD hS (va_runVN C.1 (hM H.size) ⟨va_cnB n C.1.2.2.2.2 (wc_good h1) rfl rfl rfl (va_Nw.of rfl (C.1.2.2.2.2 _ hm)) (C.1.2.2.2.2 _ h2) ⟨h3, h4, h5⟩ hRm, C.1.2.2.2.2 _ hins, C.1.2.2.2.2 _ hsel⟩ hp rfl hn hl.1 hst (lv_room hsum) hd hcs) kk
theorem wr_callS0 (C : wc_C p s m args c cc nL own Γ A) {y : MethodName} {bytes : ByteArray} {maxL n index d : Nat} {ret : Option FieldType} {σ' μ' : wc_St} {As rest : List Value} (hM : wc_M l y bytes maxL ret d Γ As σ μ none σ' μ') (hcb : wc_cb y bytes maxL ret n) (hml : wc_ml own index y) (hstt : Cond.static y ∈ wc_tb) (hR : d + 1 ≤ R.frames ∧ 40 * (d + 1) ≤ R.locals) (hmx : maxL ≤ 21) (hn : As.length = n) (hst : st = As.reverse ++ rest) (hsum : (rest.map fun v => v.category).sum ≤ 8) (hcs : cells ≤ R.cells ∧ slots ≤ R.slots) (hd : decode cc pc = .ok (.invokestatic index, 3))
    (kk : wc_K p l e R s m args below meth c nL Γ A Q cells slots (pc + 3) (vs) (rest) σ' μ') : wc_K p l e R s m args below meth c nL Γ A Q cells slots (pc) (vs) (st) σ μ := wr_callS C hM hcb hml hstt hR hmx hn hst hsum hcs hd kk
theorem wr_callV0 (C : wc_C p s m args c cc nL own Γ A) {y : MethodName} {bytes : ByteArray} {maxL n index d : Nat} {ret : Option FieldType} {σ' μ' : wc_St} {As rest : List Value} {q ci N : Nat} {fs : List Value} {Cn : String} {T : u_T} (hM : wc_M l y bytes maxL ret d Γ (.ref (Γ.2.2 q) :: As) σ μ none σ' μ') (hcb : wc_cb y bytes maxL ret n) (hml : wc_ml own index y) (hins : Cond.instanceMethod y ∈ wc_tb) (hsel : Cond.selects Cn y y ∈ wc_tb) (hq : q < 91) (hcell : wc_cell Γ σ μ q = .inr (ci, fs)) (hc : vwCl[ci]? = some (Cn, T, N)) (hR : d + 1 ≤ R.frames ∧ 40 * (d + 1) ≤ R.locals) (hmx : maxL ≤ 21) (hn : As.length = n) (hst : st = As.reverse ++ .ref (Γ.2.2 q) :: rest) (hsum : (rest.map fun v => v.category).sum ≤ 8) (hcs : cells ≤ R.cells ∧ slots ≤ R.slots) (hd : decode cc pc = .ok (.invokevirtual index, 3))
    (kk : wc_K p l e R s m args below meth c nL Γ A Q cells slots (pc + 3) (vs) (rest) σ' μ') : wc_K p l e R s m args below meth c nL Γ A Q cells slots (pc) (vs) (st) σ μ := wr_callV C hM hcb hml hins hsel hq hcell hc hR hmx hn hst hsum hcs hd kk
theorem wr_callS1 (C : wc_C p s m args c cc nL own Γ A) {y : MethodName} {bytes : ByteArray} {maxL n index d : Nat} {ret : Option FieldType} {σ' μ' : wc_St} {As rest : List Value} {x : Value} (hM : wc_M l y bytes maxL ret d Γ As σ μ (some x) σ' μ') (hcb : wc_cb y bytes maxL ret n) (hml : wc_ml own index y) (hstt : Cond.static y ∈ wc_tb) (hR : d + 1 ≤ R.frames ∧ 40 * (d + 1) ≤ R.locals) (hmx : maxL ≤ 21) (hn : As.length = n) (hst : st = As.reverse ++ rest) (hsum : (rest.map fun v => v.category).sum ≤ 8) (hcs : cells ≤ R.cells ∧ slots ≤ R.slots) (hd : decode cc pc = .ok (.invokestatic index, 3))
    (kk : wc_K p l e R s m args below meth c nL Γ A Q cells slots (pc + 3) (vs) (x :: rest) σ' μ') : wc_K p l e R s m args below meth c nL Γ A Q cells slots (pc) (vs) (st) σ μ := wr_callS C hM hcb hml hstt hR hmx hn hst hsum hcs hd kk
theorem wr_callV1 (C : wc_C p s m args c cc nL own Γ A) {y : MethodName} {bytes : ByteArray} {maxL n index d : Nat} {ret : Option FieldType} {σ' μ' : wc_St} {As rest : List Value} {x : Value} {q ci N : Nat} {fs : List Value} {Cn : String} {T : u_T} (hM : wc_M l y bytes maxL ret d Γ (.ref (Γ.2.2 q) :: As) σ μ (some x) σ' μ') (hcb : wc_cb y bytes maxL ret n) (hml : wc_ml own index y) (hins : Cond.instanceMethod y ∈ wc_tb) (hsel : Cond.selects Cn y y ∈ wc_tb) (hq : q < 91) (hcell : wc_cell Γ σ μ q = .inr (ci, fs)) (hc : vwCl[ci]? = some (Cn, T, N)) (hR : d + 1 ≤ R.frames ∧ 40 * (d + 1) ≤ R.locals) (hmx : maxL ≤ 21) (hn : As.length = n) (hst : st = As.reverse ++ .ref (Γ.2.2 q) :: rest) (hsum : (rest.map fun v => v.category).sum ≤ 8) (hcs : cells ≤ R.cells ∧ slots ≤ R.slots) (hd : decode cc pc = .ok (.invokevirtual index, 3))
    (kk : wc_K p l e R s m args below meth c nL Γ A Q cells slots (pc + 3) (vs) (x :: rest) σ' μ') : wc_K p l e R s m args below meth c nL Γ A Q cells slots (pc) (vs) (st) σ μ := wr_callV C hM hcb hml hins hsel hq hcell hc hR hmx hn hst hsum hcs hd kk
theorem wr_acmpI_ne (C : wc_C p s m args c cc nL own Γ A) {x y : Nat} {off : Int} {tgt : Nat} (hx : x < 91) (hy : y < 91) (hd : decode cc pc = .ok (.if_acmp .ne off, 3)) (ht : (pc : Int) + off = (tgt : Int)) (kt : ¬ x = y → wc_K p l e R s m args below meth c nL Γ A Q cells slots (tgt) (vs) (st) σ μ) (kf : x = y → wc_K p l e R s m args below meth c nL Γ A Q cells slots (pc + 3) (vs) (st) σ μ) : wc_K p l e R s m args below meth c nL Γ A Q cells slots (pc) (vs) (.ref (Γ.2.2 y) :: .ref (Γ.2.2 x) :: st) σ μ :=
  fun ls H locs hl hP hD hS => wr_acmp_ne C hd ht (fun h => kt (fun q => h (by rw [q]))) (fun h => kf (wc_inj hD hx hy h)) ls H locs hl hP hD hS
theorem wr_acmpI_eq (C : wc_C p s m args c cc nL own Γ A) {x y : Nat} {off : Int} {tgt : Nat} (hx : x < 91) (hy : y < 91) (hd : decode cc pc = .ok (.if_acmp .eq off, 3)) (ht : (pc : Int) + off = (tgt : Int)) (kt : x = y → wc_K p l e R s m args below meth c nL Γ A Q cells slots (tgt) (vs) (st) σ μ) (kf : ¬ x = y → wc_K p l e R s m args below meth c nL Γ A Q cells slots (pc + 3) (vs) (st) σ μ) : wc_K p l e R s m args below meth c nL Γ A Q cells slots (pc) (vs) (.ref (Γ.2.2 y) :: .ref (Γ.2.2 x) :: st) σ μ :=
  fun ls H locs hl hP hD hS => wr_acmp_eq C hd ht (fun h => kt (wc_inj hD hx hy h)) (fun h => kf (fun q => h (by rw [q]))) ls H locs hl hP hD hS
end WCK
