/-! The state after both constructors. -/
def wi_σ (x : Int32) : wc_St := fun c _ _ => if c = 0 then x else if c = 1 then x else if c = 22 then x else if c = 3 then nI 1 else if c = 5 then nI 1 else nI 0
def wi_μ (x : Int32) : wc_St := fun c _ j => if c = 30 then x else if c = 32 then wn_e3 x j else if c = 33 then wn_e3 x j else nI 0
theorem wi_3 {p : Nat} (hp : p < 3) {x : Int32} : wn_e3 x p = x := by
  rcases (show p = 0 ∨ p = 1 ∨ p = 2 by omega) with h | h | h <;> subst h <;> rfl
theorem wi_x (e : Int32) : wc_mx (nI 0) (wc_mn e (nI 20)) = wn_clip e ∧ ∃ k, k ≤ 20 ∧ wn_clip e = nI k := by
  have h0 : (nI 0).toInt = 0 := nI_toInt (by decide)
  have h20 : (nI 20).toInt = 20 := nI_toInt (by decide)
  have z : (0 : Int32).toInt = 0 := by decide
  by_cases h1 : e < 0
  · have a1 := Int32.lt_iff_toInt_lt.mp h1
    rw [z] at a1
    have b1 : wc_mn e (nI 20) = e := if_neg (fun q => by rw [Int32.lt_iff_toInt_lt] at q; omega)
    have b2 : wc_mx (nI 0) e = nI 0 := if_neg (fun q => by rw [Int32.lt_iff_toInt_lt] at q; omega)
    have b3 : wn_clip e = nI 0 := if_pos h1
    rw [b1, b2, b3]
    exact ⟨rfl, 0, by omega, rfl⟩
  · have a1 : ¬ e.toInt < 0 := fun q => h1 (Int32.lt_iff_toInt_lt.mpr (by rw [z]; exact q))
    by_cases h2 : e ≤ nI 20
    · have a2 := Int32.le_iff_toInt_le.mp h2
      have b1 : wc_mn e (nI 20) = e := if_neg (fun q => by rw [Int32.lt_iff_toInt_lt] at q; omega)
      have b3 : wn_clip e = e := (if_neg h1).trans (if_pos h2)
      obtain ⟨k, hk, rfl⟩ := nI_of h1
      have h3 : k ≤ 20 := (nI_leI hk (by decide)).mp h2
      rw [b1, b3]
      refine ⟨?_, k, h3, rfl⟩
      unfold wc_mx
      by_cases h4 : nI 0 < nI k
      · rw [if_pos h4]
      · rw [if_neg h4]
        rw [nI_ltI (by decide) hk] at h4
        rw [show k = 0 by omega]
    · have a2 : ¬ e.toInt ≤ 20 := fun q => h2 (Int32.le_iff_toInt_le.mpr (by rw [h20]; exact q))
      have b1 : wc_mn e (nI 20) = nI 20 := if_pos (by rw [Int32.lt_iff_toInt_lt]; omega)
      have b2 : wc_mx (nI 0) (nI 20) = nI 20 := by decide
      have b3 : wn_clip e = nI 20 := (if_neg h1).trans (if_neg h2)
      rw [b1, b2, b3]
      exact ⟨rfl, 20, by omega, rfl⟩
theorem wi_J {x : Int32} (hx : ∃ k, k ≤ 20 ∧ x = nI k) : sj_J 0 (wi_σ x) (wi_μ x) := by
  have z1 : ¬ (nI 0 : Int32) = nI 2 := by decide
  refine ⟨0, 0, 0, 0, by omega, by omega, by omega, by omega, ⟨⟨⟨rfl, hx, rfl, rfl, rfl, rfl, rfl, rfl⟩, ?_, ?_, ?_, ?_, ?_, ?_, ?_, rfl, ?_⟩, ?_, ?_⟩, ?_⟩
  · intro p hp
    exact ⟨(wi_3 hp).symm, (wi_3 hp).symm, hx, rfl, ⟨0, by omega, rfl⟩, rfl, Or.inl ⟨rfl, rfl⟩⟩
  · intro t ht
    exact ⟨rfl, ⟨0, by omega, rfl⟩, rfl, rfl, rfl⟩
  · intro t k ht hk
    exact ⟨rfl, Or.inl rfl, rfl, (if_neg z1).symm⟩
  · intro t p ht hp
    exact Or.inl ⟨rfl, rfl⟩
  · exact ⟨fun t ht q => absurd rfl q, fun t u ht hu hne q => absurd rfl q⟩
  · intro i hi
    exact Or.inl ⟨rfl, fun κ _ => rfl⟩
  · intro i j hi hj hne q
    exact absurd rfl q
  · refine ⟨0, rfl, Nat.le_of_eq rfl, fun k hk => ⟨rfl, fun i hi => ⟨rfl, rfl⟩⟩⟩
  · intro t ht
    exact Or.inl ⟨Or.inl rfl, fun k _ => rfl, fun p _ => ⟨rfl, rfl⟩⟩
  · exact ⟨fun t _ => ⟨0, by omega, rfl⟩, fun i _ => ⟨0, by omega, rfl⟩, fun k _ => (by show nI 1 ≤ nI 4; decide)⟩
  · intro t u k ht hu hk hne q
    exact absurd q z1
/-- the place of a cell in the order of making -/
def wn_ix (k : Nat) : Nat := if k < 8 then k else if k < 17 then 8 + 3 * (k - 8) else if k < 26 then 9 + 3 * (k - 17) else if k < 35 then 10 + 3 * (k - 26) else if k < 40 then 35 + 7 * (k - 35) else if k < 45 then 36 + 7 * (k - 40) else if k < 50 then 37 + 7 * (k - 45) else if k < 55 then 38 + 7 * (k - 50) else if k < 70 then 39 + 7 * ((k - 55) / 3) + (k - 55) % 3 else k
theorem wn_ix_lt : ∀ k, k < 91 → wn_ix k < 91 := by decide +kernel
theorem wn_ix_inj : ∀ i, i < 91 → ∀ j, j < 91 → wn_ix i = wn_ix j → i = j := by decide +kernel
def wi_eq (e e' : va_E) : Prop := e = e' ∨ ∃ (cA : ClassId) (N : Nat) (f f' : Nat → Option Nat), e = .inl (cA, N, .inr (.inr (.inr (.inr f)))) ∧ e' = .inl (cA, N, .inr (.inr (.inr (.inr f')))) ∧ ∀ j, j < N → f j = f' j
theorem wi_at {D : va_G} {cl : List vw_C} {a : Nat} {e e' : va_E} {H : Heap} (h : wi_eq e e') (ha : va_at D cl (a, e) H) : va_at D cl (a, e') H := by
  rcases h with rfl | ⟨cA, N, f, f', rfl, rfl, h⟩
  · exact ha
  · have e1 : vp_cell cA (N, .inr (.inr (.inr (.inr f)))) = vp_cell cA (N, .inr (.inr (.inr (.inr f')))) := by
      show arrV cA N (fun j => va_rf (f j)) = arrV cA N (fun j => va_rf (f' j))
      unfold arrV
      congr 2
      funext j
      show va_rf (f j.val) = va_rf (f' j.val)
      rw [h j.val j.isLt]
    show H[a]? = some (vp_cell cA (N, .inr (.inr (.inr (.inr f')))))
    rw [← e1]
    exact ha
abbrev wi_ω (Γ : wc_G) (x : Int32) (ω1 : Nat → Nat × va_E) (g h : Nat → Nat) : Nat → Nat × va_E := wn_jn (wn_jn ω1 0 g (wn_EW Γ x)) 70 h (wn_EM Γ x)
abbrev wi_Γ (Γ : wc_G) (x : Int32) (ω1 : Nat → Nat × va_E) (g h : Nat → Nat) : wc_G := (Γ.1, Γ.2.1, fun k => (wi_ω Γ x ω1 g h (wn_ix k)).1)
set_option maxRecDepth 20000 in
theorem wi_cells {Γ : wc_G} {x : Int32} {ω1 : Nat → Nat × va_E} {g h : Nat → Nat} : ∀ k, k < 91 → wi_eq (wi_ω Γ x ω1 g h (wn_ix k)).2 (wc_cell (wi_Γ Γ x ω1 g h) (wi_σ x) (wi_μ x) k) := by
  refine wn_cs 90 ?_ (Or.inl rfl)
  refine wn_cs 89 ?_ (Or.inl rfl)
  refine wn_cs 88 ?_ (Or.inl rfl)
  refine wn_cs 87 ?_ (Or.inl rfl)
  refine wn_cs 86 ?_ (Or.inl rfl)
  refine wn_cs 85 ?_ (Or.inl rfl)
  refine wn_cs 84 ?_ (Or.inl rfl)
  refine wn_cs 83 ?_ (Or.inl rfl)
  refine wn_cs 82 ?_ (Or.inl rfl)
  refine wn_cs 81 ?_ (Or.inl rfl)
  refine wn_cs 80 ?_ (Or.inl rfl)
  refine wn_cs 79 ?_ (Or.inl rfl)
  refine wn_cs 78 ?_ (Or.inl rfl)
  refine wn_cs 77 ?_ (Or.inl rfl)
  refine wn_cs 76 ?_ (Or.inl rfl)
  refine wn_cs 75 ?_ (Or.inl rfl)
  refine wn_cs 74 ?_ (Or.inl rfl)
  refine wn_cs 73 ?_ (Or.inl rfl)
  refine wn_cs 72 ?_ (Or.inl rfl)
  refine wn_cs 71 ?_ (Or.inl rfl)
  refine wn_cs 70 ?_ (Or.inl rfl)
  refine wn_cs 69 ?_ (Or.inl rfl)
  refine wn_cs 68 ?_ (Or.inl rfl)
  refine wn_cs 67 ?_ (Or.inl rfl)
  refine wn_cs 66 ?_ (Or.inl rfl)
  refine wn_cs 65 ?_ (Or.inl rfl)
  refine wn_cs 64 ?_ (Or.inl rfl)
  refine wn_cs 63 ?_ (Or.inl rfl)
  refine wn_cs 62 ?_ (Or.inl rfl)
  refine wn_cs 61 ?_ (Or.inl rfl)
  refine wn_cs 60 ?_ (Or.inl rfl)
  refine wn_cs 59 ?_ (Or.inl rfl)
  refine wn_cs 58 ?_ (Or.inl rfl)
  refine wn_cs 57 ?_ (Or.inl rfl)
  refine wn_cs 56 ?_ (Or.inl rfl)
  refine wn_cs 55 ?_ (Or.inl rfl)
  refine wn_cs 54 ?_ (Or.inl rfl)
  refine wn_cs 53 ?_ (Or.inl rfl)
  refine wn_cs 52 ?_ (Or.inl rfl)
  refine wn_cs 51 ?_ (Or.inl rfl)
  refine wn_cs 50 ?_ (Or.inl rfl)
  refine wn_cs 49 ?_ (Or.inl rfl)
  refine wn_cs 48 ?_ (Or.inl rfl)
  refine wn_cs 47 ?_ (Or.inl rfl)
  refine wn_cs 46 ?_ (Or.inl rfl)
  refine wn_cs 45 ?_ (Or.inl rfl)
  refine wn_cs 44 ?_ (Or.inl rfl)
  refine wn_cs 43 ?_ (Or.inl rfl)
  refine wn_cs 42 ?_ (Or.inl rfl)
  refine wn_cs 41 ?_ (Or.inl rfl)
  refine wn_cs 40 ?_ (Or.inl rfl)
  refine wn_cs 39 ?_ (Or.inl rfl)
  refine wn_cs 38 ?_ (Or.inl rfl)
  refine wn_cs 37 ?_ (Or.inl rfl)
  refine wn_cs 36 ?_ (Or.inl rfl)
  refine wn_cs 35 ?_ (Or.inl rfl)
  refine wn_cs 34 ?_ (Or.inl rfl)
  refine wn_cs 33 ?_ (Or.inl rfl)
  refine wn_cs 32 ?_ (Or.inl rfl)
  refine wn_cs 31 ?_ (Or.inl rfl)
  refine wn_cs 30 ?_ (Or.inl rfl)
  refine wn_cs 29 ?_ (Or.inl rfl)
  refine wn_cs 28 ?_ (Or.inl rfl)
  refine wn_cs 27 ?_ (Or.inl rfl)
  refine wn_cs 26 ?_ (Or.inl rfl)
  refine wn_cs 25 ?_ (Or.inl rfl)
  refine wn_cs 24 ?_ (Or.inl rfl)
  refine wn_cs 23 ?_ (Or.inl rfl)
  refine wn_cs 22 ?_ (Or.inl rfl)
  refine wn_cs 21 ?_ (Or.inl rfl)
  refine wn_cs 20 ?_ (Or.inl rfl)
  refine wn_cs 19 ?_ (Or.inl rfl)
  refine wn_cs 18 ?_ (Or.inl rfl)
  refine wn_cs 17 ?_ (Or.inl rfl)
  refine wn_cs 16 ?_ (Or.inl rfl)
  refine wn_cs 15 ?_ (Or.inl rfl)
  refine wn_cs 14 ?_ (Or.inl rfl)
  refine wn_cs 13 ?_ (Or.inl rfl)
  refine wn_cs 12 ?_ (Or.inl rfl)
  refine wn_cs 11 ?_ (Or.inl rfl)
  refine wn_cs 10 ?_ (Or.inl rfl)
  refine wn_cs 9 ?_ (Or.inl rfl)
  refine wn_cs 8 ?_ (Or.inl rfl)
  refine wn_cs 7 ?_ (Or.inl rfl)
  refine wn_cs 6 ?_ (Or.inl rfl)
  refine wn_cs 5 ?_ (Or.inl rfl)
  refine wn_cs 4 ?_ (Or.inr ⟨_, _, _, _, rfl, rfl, ?_⟩)
  rotate_left
  · refine wn_cs 14 ?_ rfl
    refine wn_cs 13 ?_ rfl
    refine wn_cs 12 ?_ rfl
    refine wn_cs 11 ?_ rfl
    refine wn_cs 10 ?_ rfl
    refine wn_cs 9 ?_ rfl
    refine wn_cs 8 ?_ rfl
    refine wn_cs 7 ?_ rfl
    refine wn_cs 6 ?_ rfl
    refine wn_cs 5 ?_ rfl
    refine wn_cs 4 ?_ rfl
    refine wn_cs 3 ?_ rfl
    refine wn_cs 2 ?_ rfl
    refine wn_cs 1 ?_ rfl
    refine wn_cs 0 ?_ rfl
    exact fun j hj => absurd hj (Nat.not_lt_zero j)
  refine wn_cs 3 ?_ (Or.inr ⟨_, _, _, _, rfl, rfl, ?_⟩)
  rotate_left
  · refine wn_cs 4 ?_ rfl
    refine wn_cs 3 ?_ rfl
    refine wn_cs 2 ?_ rfl
    refine wn_cs 1 ?_ rfl
    refine wn_cs 0 ?_ rfl
    exact fun j hj => absurd hj (Nat.not_lt_zero j)
  refine wn_cs 2 ?_ (Or.inr ⟨_, _, _, _, rfl, rfl, ?_⟩)
  rotate_left
  · refine wn_cs 8 ?_ rfl
    refine wn_cs 7 ?_ rfl
    refine wn_cs 6 ?_ rfl
    refine wn_cs 5 ?_ rfl
    refine wn_cs 4 ?_ rfl
    refine wn_cs 3 ?_ rfl
    refine wn_cs 2 ?_ rfl
    refine wn_cs 1 ?_ rfl
    refine wn_cs 0 ?_ rfl
    exact fun j hj => absurd hj (Nat.not_lt_zero j)
  refine wn_cs 1 ?_ (Or.inr ⟨_, _, _, _, rfl, rfl, ?_⟩)
  rotate_left
  · refine wn_cs 2 ?_ rfl
    refine wn_cs 1 ?_ rfl
    refine wn_cs 0 ?_ rfl
    exact fun j hj => absurd hj (Nat.not_lt_zero j)
  refine wn_cs 0 ?_ (Or.inl rfl)
  exact fun k hk => absurd hk (Nat.not_lt_zero k)
theorem wi_lk {Γ : wc_G} {σ μ : wc_St} {k : Nat} {q : Nat × va_E} (h : (wc_wl Γ σ μ)[k]? = some q) : k < 91 ∧ q = (Γ.2.2 k, wc_cell Γ σ μ k) := by
  by_cases hk : k < 91
  · rw [wc_at hk rfl] at h
    exact ⟨hk, (Option.some.inj h).symm⟩
  · simp [wc_wl, hk] at h
theorem wi_P {Γ : wc_G} {x : Int32} {ω1 : Nat → Nat × va_E} {g h : Nat → Nat} {H : Heap} (hP : va_P Γ.1 vwCl (wn_wl 91 (wi_ω Γ x ω1 g h)) H) : va_P Γ.1 vwCl (wc_wl (wi_Γ Γ x ω1 g h) (wi_σ x) (wi_μ x)) H := by
  intro k q hq
  obtain ⟨hk, rfl⟩ := wi_lk hq
  exact wi_at (wi_cells k hk) (hP (wn_ix k) _ (wn_at (wn_ix_lt k hk) rfl))
theorem wi_D {Γ : wc_G} {x : Int32} {ω1 : Nat → Nat × va_E} {g h : Nat → Nat} {A : Nat → Prop} (hD : va_D A (wn_wl 91 (wi_ω Γ x ω1 g h))) : va_D A (wc_wl (wi_Γ Γ x ω1 g h) (wi_σ x) (wi_μ x)) := by
  refine ⟨fun i j p q hi hj e => ?_, fun k q hk => ?_⟩
  · obtain ⟨ai, rfl⟩ := wi_lk hi
    obtain ⟨aj, rfl⟩ := wi_lk hj
    exact wn_ix_inj i ai j aj (hD.1 (wn_ix i) (wn_ix j) _ _ (wn_at (wn_ix_lt i ai) rfl) (wn_at (wn_ix_lt j aj) rfl) e)
  · obtain ⟨ak, rfl⟩ := wi_lk hk
    exact hD.2 (wn_ix k) (wi_ω Γ x ω1 g h (wn_ix k)) (wn_at (wn_ix_lt k ak) rfl)
theorem nr_toK {p : Program} {l : Launch} {e : Env} {R : Room} {s : State} {m : MethodId} {args : Array Value} {below : List Frame} {meth : Method} {c : Code} {cells slots : Nat} {Q : State → Prop} {nL : Nat} {Γ : wc_G} {A : Nat → Prop} {pc : Nat} {vs : List (Nat × Value)} {st : List Value} {x : Int32} {ω1 : Nat → Nat × va_E} {g h : Nat → Nat}
    (kk : wc_K p l e R s m args below meth c nL (wi_Γ Γ x ω1 g h) A Q cells slots pc vs st (wi_σ x) (wi_μ x)) : wn_K p l e R s m args below meth c nL Γ A Q cells slots pc vs st 91 (wi_ω Γ x ω1 g h) :=
  fun ls H locs hl hP hD hS => kk ls H locs hl (wi_P hP) (wi_D hD) hS
