/-! The class's methods as functions of the state: each follows its code's order. -/
def fc_raise (σ : wc_St) (p : Nat) (r : Int32) : wc_St := wc_st σ 4 p 0 (wc_mx (σ 4 p 0) r)
def fc_shift (σ : wc_St) (k i : Nat) : wc_St := wc_st (wc_st σ 6 k (i + 1) (σ 6 k i)) 7 k (i + 1) ((wc_st σ 6 k (i + 1) (σ 6 k i)) 7 k i)
def fc_put0 (σ : wc_St) (k : Nat) (v s : Int32) : wc_St := wc_st (wc_st σ 6 k 0 v) 7 k 0 s
def fc_cnt (σ : wc_St) (k : Nat) : wc_St := wc_st σ 5 k 0 (wc_mn (σ 5 k 0 + nI 1) (nI 4))
def fc_add (σ : wc_St) (k : Nat) (v s : Int32) : wc_St := fc_cnt (fc_put0 (fc_shift (fc_shift (fc_shift σ k 2) k 1) k 0) k v s) k
def fc_vat (σ : wc_St) (k : Nat) (r : Int32) : Nat → Nat → Int64
  | 0, _ => 2199023255552
  | n + 1, i => if σ 5 k 0 ≤ nI i then 2199023255552 else if r < σ 7 k i then fc_vat σ k r n (i + 1) else (σ 6 k i).toInt64
def fc_holds (σ : wc_St) (t p : Nat) : Int32 := if σ 15 t p = 0 then (if σ 15 t (p + 3) = 0 then (if σ 15 t (p + 6) = 0 then nI 0 else nI 1) else nI 1) else nI 1
def fc_least (σ : wc_St) (t : Nat) : Int32 := if fc_holds σ t 0 = 0 then (if fc_holds σ t 1 = 0 then (if fc_holds σ t 2 = 0 then -1 else nI 2) else nI 1) else nI 0
def fc_unlock (σ : wc_St) (t p : Nat) : wc_St := wc_st (wc_st (wc_st σ 15 t p (nI 0)) 15 t (p + 3) (nI 0)) 15 t (p + 6) (nI 0)
def fc_giveUp (σ : wc_St) (t : Nat) : wc_St := wc_st (fc_unlock (fc_unlock (fc_unlock σ t 0) t 1) t 2) 8 t 0 (nI 5)
def fc_gm (σ : wc_St) (t : Nat) : Int32 := wc_mx (wc_mx (wc_mx (nI 0) (σ 17 t 0)) (σ 17 t 1)) (σ 17 t 2)
def fc_before (σ : wc_St) (i j : Nat) : Int32 := if σ 20 i 0 < σ 20 j 0 then nI 1 else if σ 20 i 0 = σ 20 j 0 then (if σ 21 j 0 ≤ σ 21 i 0 then nI 0 else nI 1) else nI 0
def fc_over (σ : wc_St) (t : Nat) : Int32 := if σ 8 t 0 = nI 4 then (if fc_least σ t = -1 then nI 1 else nI 0) else nI 0
def fc_canBegin (σ : wc_St) (t : Nat) : Int32 := if σ 8 t 0 = 0 then nI 1 else if σ 8 t 0 = nI 5 then nI 1 else if fc_over σ t = 0 then nI 0 else nI 1
def fc_latest (σ : wc_St) (p : Nat) : Int32 := σ 23 0 0 + σ 1 p 0
def fc_earliest (σ : wc_St) (p : Nat) : Int32 := σ 23 0 0 - σ 0 p 0
def fc_lm (σ : wc_St) (p : Nat) : Nat → Nat → Int32 → Int32
  | 0, _, a => a
  | n + 1, i, a => fc_lm σ p n (i + 1) (if σ 17 i p = 0 then a else wc_mn a (σ 17 i p))
def fc_leastMark (σ : wc_St) (p : Nat) : Int32 := fc_lm σ p 5 0 2147483647
def fc_ready (σ : wc_St) (p : Nat) : Int32 := wc_mn (fc_latest σ p) (fc_leastMark σ p - nI 1)
def fc_conf (σ : wc_St) (o t k : Nat) (kind : Int32) : Int32 := if o = t then nI 0 else if σ 15 o k = 0 then nI 0 else if kind = nI 2 then nI 1 else if σ 15 o k = nI 2 then nI 1 else nI 0
def fc_push (σ : wc_St) (t o : Nat) : Int32 := if σ 8 o 0 = nI 1 then (if σ 9 o 0 ≤ σ 9 t 0 then nI 0 else nI 1) else nI 0
def fc_blk (σ : wc_St) (t k : Nat) (kind : Int32) : Nat → Nat → Bool
  | 0, _ => false
  | n + 1, i => if fc_conf σ i t k kind = 0 then fc_blk σ t k kind n (i + 1) else if fc_push σ t i = 0 then true else fc_blk σ t k kind n (i + 1)
def fc_pushAll (t k : Nat) (kind : Int32) : Nat → Nat → wc_St → wc_St
  | 0, _, σ => σ
  | n + 1, i, σ => fc_pushAll t k kind n (i + 1) (if fc_conf σ i t k kind = 0 then σ else fc_giveUp σ i)
def fc_lock (σ : wc_St) (t k : Nat) (kind : Int32) : Int32 × wc_St :=
  if σ 3 (k % 3) 0 = 0 then (nI 0, σ) else if σ 15 t k < kind then (if fc_blk σ t k kind 5 0 = true then (nI 0, σ) else (nI 1, wc_st (fc_pushAll t k kind 5 0 σ) 15 t k kind)) else (nI 1, σ)
def fc_send (σ : wc_St) (kind : Int32) (t p c : Nat) : wc_St :=
  let i := t * 3 + p
  let σ1 := wc_st σ 18 i 0 kind
  let σ2 := wc_st σ1 19 i 0 (if kind = nI 2 then nI c else nI p)
  let σ3 := wc_st σ2 20 i 0 (σ2 23 0 0 + nI 1 + σ2 2 c 0 + σ2 2 p 0)
  let σ4 := wc_st σ3 21 i 0 (σ3 25 0 0)
  let σ5 := wc_st σ4 25 0 0 (σ4 25 0 0 + nI 1)
  wc_st σ5 26 0 0 (σ5 26 0 0 + nI 1)
def fc_sto (kind : Int32) (t c : Nat) : Nat → Nat → Nat → wc_St → Nat × wc_St
  | 0, _, a, σ => (a, σ)
  | n + 1, p, a, σ => if p = c then fc_sto kind t c n (p + 1) a σ else if fc_holds σ t p = 0 then fc_sto kind t c n (p + 1) a σ else fc_sto kind t c n (p + 1) (a + 1) (fc_send σ kind t p c)
def fc_choose (σ : wc_St) (t c : Nat) : wc_St :=
  let σ1 := wc_st σ 13 t 0 (wc_mx (wc_mx (σ 11 t 0) (fc_gm σ t)) (σ 4 c 0 + nI 1))
  let σ2 := wc_st σ1 17 t c (σ1 13 t 0)
  let σ3 := wc_st σ2 4 c 0 (σ2 13 t 0)
  wc_st σ3 8 t 0 (nI 3)
def fc_prep1 (σ : wc_St) (t c : Nat) : wc_St :=
  let σ1 := wc_st σ 8 t 0 (nI 2)
  wc_st σ1 11 t 0 (fc_latest σ1 c + nI 1)
def fc_prep2 (σ : wc_St) (t c : Nat) : wc_St :=
  let r := fc_sto (nI 1) t c 3 0 0 (fc_prep1 σ t c)
  wc_st r.2 12 t 0 (nI r.1)
def fc_prepare (σ : wc_St) (t c : Nat) : wc_St :=
  let σ2 := fc_prep2 σ t c
  if σ2 12 t 0 = 0 then fc_choose σ2 t c else σ2
def fc_isDue (σ : wc_St) (i : Nat) : Int32 := if σ 18 i 0 = 0 then nI 0 else if σ 23 0 0 < σ 20 i 0 then nI 0 else if σ 3 (σ 19 i 0).toNatClampNeg 0 = 0 then nI 0 else nI 1
def fc_first (σ : wc_St) : Nat → Nat → Option Nat → Option Nat
  | 0, _, a => a
  | n + 1, i, a => fc_first σ n (i + 1) (if fc_isDue σ i = 0 then a else match a with
    | none => some i
    | some j => if fc_before σ i j = 0 then some j else some i)
def fc_takePrepare (σ : wc_St) (t p c : Nat) : wc_St :=
  let mk := wc_mx (fc_latest σ p) (σ 4 p 0 + nI 1)
  let σ1 := wc_st σ 17 t p mk
  let σ2 := wc_st σ1 4 p 0 mk
  fc_send σ2 (nI 2) t p c
def fc_takePrepared (σ : wc_St) (t c : Nat) : wc_St :=
  let σ1 := wc_st σ 12 t 0 (σ 12 t 0 - nI 1)
  if σ1 12 t 0 = 0 then fc_choose σ1 t c else σ1
def fc_fin1 (σ : wc_St) (t k : Nat) : wc_St := if σ 15 t k = nI 2 then fc_add σ k (σ 16 t k) (σ 13 t 0) else σ
def fc_finish (σ : wc_St) (t p : Nat) : wc_St :=
  let σ1 := fc_fin1 (fc_fin1 (fc_fin1 σ t p) t (p + 3)) t (p + 6)
  let σ2 := fc_unlock σ1 t p
  let σ3 := wc_st σ2 17 t p (nI 0)
  fc_raise σ3 p (σ3 13 t 0)
def fc_deal0 (σ : wc_St) (i : Nat) : wc_St :=
  let σ1 := wc_st σ 18 i 0 (nI 0)
  wc_st σ1 26 0 0 (σ1 26 0 0 - nI 1)
def fc_deal (σ : wc_St) (t p c : Nat) : wc_St :=
  if σ 18 (t * 3 + p) 0 = nI 1 then fc_takePrepare (fc_deal0 σ (t * 3 + p)) t p c else if σ 18 (t * 3 + p) 0 = nI 2 then fc_takePrepared (fc_deal0 σ (t * 3 + p)) t c else fc_finish (fc_deal0 σ (t * 3 + p)) t p
def fc_crd (σ : wc_St) (t : Nat) : Nat := (σ 10 t 0).toNatClampNeg
def fc_deliver : Nat → wc_St → wc_St
  | 0, σ => σ
  | n + 1, σ => if σ 26 0 0 ≤ 0 then σ else match fc_first σ 15 0 none with
    | none => σ
    | some j => fc_deliver n (fc_deal σ (j / 3) (j % 3) (fc_crd σ (j / 3)))
def fc_mayEnd (σ : wc_St) (t : Nat) : Int32 := if σ 8 t 0 = nI 3 then (if σ 3 (fc_crd σ t) 0 = 0 then nI 0 else if fc_earliest σ (fc_crd σ t) ≤ σ 13 t 0 then nI 0 else nI 1) else nI 0
def fc_endOne (σ : wc_St) (t c : Nat) : wc_St :=
  let σ1 := wc_st σ 8 t 0 (nI 4)
  let σ2 := wc_st σ1 14 t 0 (σ1 23 0 0)
  (fc_sto (nI 3) t c 3 0 0 (fc_finish σ2 t c)).2
def fc_ends : Nat → Nat → Nat → wc_St → Nat × wc_St
  | 0, _, a, σ => (a, σ)
  | n + 1, t, a, σ => if fc_mayEnd σ t = 0 then fc_ends n (t + 1) a σ else fc_ends n (t + 1) (a + 1) (fc_endOne σ t (fc_crd σ t))
def fc_tick (σ : wc_St) : wc_St := wc_st σ 23 0 0 (σ 23 0 0 + nI 1)
def fc_steps : Nat → Nat → wc_St → Nat × wc_St
  | 0, a, σ => (a, σ)
  | n + 1, a, σ => fc_steps n (a + (fc_ends 5 0 0 (fc_deliver 15 (fc_tick σ))).1) (fc_ends 5 0 0 (fc_deliver 15 (fc_tick σ))).2
/-! The public calls -/
def fc_active (σ : wc_St) (t : Nat) : Int32 := if σ 8 t 0 = nI 1 then nI 1 else nI 0
def fc_read (σ : wc_St) (t k : Nat) : Int64 × wc_St :=
  if fc_active σ t = 0 then (1099511627776, σ) else if (fc_lock σ t k (nI 1)).1 = 0 then (1099511627776, (fc_lock σ t k (nI 1)).2) else
    if (fc_lock σ t k (nI 1)).2 15 t k = nI 2 then (((fc_lock σ t k (nI 1)).2 16 t k).toInt64, (fc_lock σ t k (nI 1)).2) else (((fc_lock σ t k (nI 1)).2 6 k 0).toInt64, (fc_lock σ t k (nI 1)).2)
def fc_write (σ : wc_St) (t k : Nat) (v : Int32) : Int32 × wc_St :=
  if fc_active σ t = 0 then (nI 0, σ) else if (fc_lock σ t k (nI 2)).1 = 0 then (nI 0, (fc_lock σ t k (nI 2)).2) else (nI 1, wc_st (fc_lock σ t k (nI 2)).2 16 t k v)
def fc_marks (σ : wc_St) (p : Nat) : Nat → Nat → Nat → Nat
  | 0, _, a => a
  | n + 1, t, a => fc_marks σ p n (t + 1) (if σ 17 t p = 0 then a else a + 1)
def fc_holders (σ : wc_St) (k : Nat) : Nat → Nat → Int32 → Int32
  | 0, _, a => a
  | n + 1, t, a => fc_holders σ k n (t + 1) (let b := if σ 15 t k = 0 then a else a ||| (nI 1 <<< (nI t &&& 31))
    if σ 15 t k = nI 2 then b ||| nI 32 else b)
/-! The reference's methods, likewise. -/
def fm_raise (σ : wc_St) (p : Nat) (r : Int32) : wc_St := wc_st σ 36 0 p (if r ≤ σ 36 0 p then σ 36 0 p else r)
def fm_part (σ : wc_St) (t p : Nat) : Int32 := if σ 47 0 (9 * t + p) + σ 47 0 (9 * t + p + 3) + σ 47 0 (9 * t + p + 6) ≤ 0 then nI 0 else nI 1
def fm_least (σ : wc_St) (t : Nat) : Nat := if fm_part σ t 0 = 0 then (if fm_part σ t 1 = 0 then (if fm_part σ t 2 = 0 then 3 else 2) else 1) else 0
def fm_forget : Nat → Nat → wc_St → wc_St
  | 0, _, σ => σ
  | n + 1, k, σ => fm_forget n (k + 1) (wc_st (wc_st σ 47 0 k (nI 0)) 48 0 k (nI 0))
def fm_begin (σ : wc_St) (t : Nat) : wc_St :=
  let σ1 := wc_st (fm_forget 9 (9 * t) σ) 42 0 t (nI 1)
  let σ2 := wc_st σ1 41 0 0 (σ1 41 0 0 + nI 1)
  wc_st σ2 43 0 t (σ2 41 0 0)
def fm_conf (σ : wc_St) (t u k : Nat) (how : Int32) : Int32 := if u = t then nI 0 else if σ 47 0 (9 * u + k) + how ≤ nI 2 then nI 0 else if σ 47 0 (9 * u + k) ≤ 0 then nI 0 else nI 1
def fm_drop (σ : wc_St) (t : Nat) : wc_St := wc_st (fm_forget 9 (9 * t) σ) 42 0 t (nI 5)
def fm_blk (σ : wc_St) (t k : Nat) (how : Int32) : Nat → Nat → Bool
  | 0, _ => false
  | n + 1, u => if fm_conf σ t u k how = 0 then fm_blk σ t k how n (u + 1) else if σ 42 0 u = nI 1 then (if σ 43 0 t ≤ σ 43 0 u then fm_blk σ t k how n (u + 1) else true) else true
def fm_pushAll (t k : Nat) (how : Int32) : Nat → Nat → wc_St → wc_St
  | 0, _, σ => σ
  | n + 1, u, σ => fm_pushAll t k how n (u + 1) (if fm_conf σ t u k how = 0 then σ else fm_drop σ u)
def fm_take (σ : wc_St) (t k : Nat) (how : Int32) : Int32 × wc_St :=
  if σ 35 0 (k % 3) = 0 then (if σ 47 0 (9 * t + k) < how then (if fm_blk σ t k how 5 0 = true then (nI 0, σ) else (nI 1, wc_st (fm_pushAll t k how 5 0 σ) 47 0 (9 * t + k) how)) else (nI 1, σ)) else (nI 0, σ)
def fm_find (σ : wc_St) (k : Nat) : Nat → Nat → Int32
  | 0, left => if left = 0 then -1 else -2
  | n + 1, left => if σ 38 0 n = nI k then (if left = 0 then nI n else fm_find σ k n (left - 1)) else fm_find σ k n left
def fm_vers (σ : wc_St) : Nat := (σ 37 0 0).toNatClampNeg
def fm_at (a : Int32) (σ : wc_St) (c : Nat) : Int32 := σ c 0 a.toNatClampNeg
def fm_active (μ : wc_St) (t : Nat) : Int32 := if μ 42 0 t = nI 1 then nI 1 else nI 0
def fm_value0 (μ : wc_St) (k : Nat) : Int64 := if fm_find μ k (fm_vers μ) 0 < 0 then 0 else (μ 40 0 (fm_find μ k (fm_vers μ) 0).toNatClampNeg).toInt64
def fm_read (μ : wc_St) (t k : Nat) : Int64 × wc_St :=
  if fm_active μ t = 0 then (1099511627776, μ) else if (fm_take μ t k (nI 1)).1 = 0 then (1099511627776, (fm_take μ t k (nI 1)).2) else
    if (fm_take μ t k (nI 1)).2 48 0 (9 * t + k) = 0 then (fm_value0 (fm_take μ t k (nI 1)).2 k, (fm_take μ t k (nI 1)).2) else (((fm_take μ t k (nI 1)).2 49 0 (9 * t + k)).toInt64, (fm_take μ t k (nI 1)).2)
def fm_write (μ : wc_St) (t k : Nat) (v : Int32) : Int32 × wc_St :=
  if fm_active μ t = 0 then (nI 0, μ) else if (fm_take μ t k (nI 2)).1 = 0 then (nI 0, (fm_take μ t k (nI 2)).2) else (nI 1, wc_st (wc_st (fm_take μ t k (nI 2)).2 48 0 (9 * t + k) (nI 1)) 49 0 (9 * t + k) v)
def fm_send (σ : wc_St) (kind t p o : Nat) : wc_St :=
  let a := 15 * kind + 3 * t + p
  let σ1 := wc_st σ 53 0 a (σ 31 0 0 + nI 1 + σ 34 0 p + σ 34 0 o)
  let σ2 := wc_st σ1 52 0 0 (σ1 52 0 0 + nI 1)
  wc_st σ2 54 0 a (σ2 52 0 0)
def fm_sendAll (kind t c : Nat) : Nat → Nat → wc_St → wc_St
  | 0, _, σ => σ
  | n + 1, p, σ => fm_sendAll kind t c n (p + 1) (if fm_part σ t p = 0 then σ else fm_send σ kind t p c)
def fm_put (σ : wc_St) (t p : Nat) (x : Int32) : wc_St := wc_st (wc_st (wc_st σ 50 0 (3 * t + p) (nI 1)) 51 0 (3 * t + p) x) 36 0 p x
def fm_sia (σ : wc_St) (t : Nat) : Nat → Nat → Int32 → Option Int32
  | 0, _, x => some x
  | n + 1, p, x => if 0 < σ 53 0 (3 * t + p) then none else if σ 53 0 (15 + 3 * t + p) ≤ 0 then (if fm_part σ t p = 0 then fm_sia σ t n (p + 1) x else if σ 51 0 (3 * t + p) ≤ x then fm_sia σ t n (p + 1) x else fm_sia σ t n (p + 1) (σ 51 0 (3 * t + p))) else none
def fm_s0 (σ : wc_St) (t c : Nat) : Int32 := if σ 45 0 t ≤ σ 36 0 c + nI 1 then σ 36 0 c + nI 1 else σ 45 0 t
def fm_stampIfAll (σ : wc_St) (t : Nat) : wc_St := match fm_sia σ t (2 - fm_least σ t) (fm_least σ t + 1) (fm_s0 σ t (fm_least σ t)) with
  | none => σ
  | some x => wc_st (fm_put (wc_st σ 44 0 t x) t (fm_least σ t) x) 42 0 t (nI 3)
def fm_clear (t : Nat) : Nat → Nat → wc_St → wc_St
  | 0, _, σ => σ
  | n + 1, p, σ => fm_clear t n (p + 1) (wc_st σ 50 0 (3 * t + p) (nI 0))
def fm_commit (σ : wc_St) (t c : Nat) : wc_St :=
  let σ1 := wc_st σ 42 0 t (nI 2)
  let σ2 := wc_st σ1 45 0 t (σ1 31 0 0 + σ1 33 0 c + nI 1)
  fm_stampIfAll (fm_sendAll 0 t c (2 - c) (c + 1) (fm_clear t 3 0 σ2)) t
def fm_add (σ : wc_St) (t k : Nat) : wc_St :=
  let v := fm_vers σ
  let σ1 := wc_st σ 38 0 v (nI k)
  let σ2 := wc_st σ1 39 0 v (σ1 44 0 t)
  let σ3 := wc_st σ2 40 0 v (σ2 49 0 (9 * t + k))
  wc_st σ3 37 0 0 (nI (v + 1))
def fm_clr (σ : wc_St) (t k : Nat) : wc_St := wc_st (wc_st σ 47 0 (9 * t + k) (nI 0)) 48 0 (9 * t + k) (nI 0)
def fm_fin1 (σ : wc_St) (t k : Nat) : wc_St := if σ 48 0 (9 * t + k) = 0 then fm_clr σ t k else fm_clr (fm_add σ t k) t k
def fm_finL (t : Nat) : Nat → Nat → wc_St → wc_St
  | 0, _, σ => σ
  | n + 1, k, σ => fm_finL t n (k + 3) (fm_fin1 σ t k)
def fm_w (σ : wc_St) (t : Nat) : Nat → Nat → Nat
  | 0, _ => 0
  | n + 1, k => (if σ 48 0 (9 * t + k) = 0 then 0 else 1) + fm_w σ t n (k + 3)
def fm_finish (σ : wc_St) (t p : Nat) : wc_St :=
  let σ1 := wc_st (fm_finL t 3 p σ) 50 0 (3 * t + p) (nI 0)
  fm_raise σ1 p (σ1 44 0 t)
def fm_prep (σ : wc_St) (t p : Nat) : wc_St :=
  let σ1 := fm_put σ t p (if σ 31 0 0 + σ 33 0 p ≤ σ 36 0 p + nI 1 then σ 36 0 p + nI 1 else σ 31 0 0 + σ 33 0 p)
  fm_send σ1 1 t p (fm_least σ1 t)
def fm_deal (σ : wc_St) (a : Nat) : wc_St :=
  let σ1 := wc_st σ 53 0 a (nI 0)
  if a / 15 = 0 then fm_prep σ1 (a % 15 / 3) (a % 3) else if a / 15 = 1 then fm_stampIfAll σ1 (a % 15 / 3) else fm_finish σ1 (a % 15 / 3) (a % 3)
def fm_to (σ : wc_St) (a : Nat) : Nat := if a / 15 = 1 then fm_least σ (a % 15 / 3) else a % 3
def fm_can (σ : wc_St) (a : Nat) : Int32 := if σ 53 0 a ≤ 0 then nI 0 else if σ 31 0 0 < σ 53 0 a then nI 0 else if σ 35 0 (fm_to σ a) = 0 then nI 1 else nI 0
def fm_o (b : Option Nat) : Int32 := match b with
  | none => -1
  | some a => nI a
def fm_1st (σ : wc_St) (a : Nat) (b : Option Nat) : Int32 := match b with
  | none => nI 1
  | some b => if σ 53 0 a < σ 53 0 b then nI 1 else if σ 53 0 a = σ 53 0 b then (if σ 54 0 b ≤ σ 54 0 a then nI 0 else nI 1) else nI 0
def fm_next (σ : wc_St) : Nat → Nat → Option Nat → Option Nat
  | 0, _, b => b
  | n + 1, a, b => fm_next σ n (a + 1) (if fm_can σ a = 0 then b else if fm_1st σ a b = 0 then b else some a)
def fm_deliver : Nat → Option Nat → wc_St → wc_St
  | 0, _, σ => σ
  | _ + 1, none, σ => σ
  | n + 1, some a, σ => fm_deliver n (fm_next (fm_deal σ a) 45 0 none) (fm_deal σ a)
def fm_mayEnd (σ : wc_St) (t : Nat) : Bool := if σ 42 0 t = nI 3 then (if σ 35 0 (fm_least σ t) = 0 then (if σ 31 0 0 - σ 32 0 (fm_least σ t) ≤ σ 44 0 t then false else true) else false) else false
def fm_endOne (σ : wc_St) (t c : Nat) : wc_St :=
  let σ1 := wc_st σ 42 0 t (nI 4)
  let σ2 := wc_st σ1 46 0 t (σ1 31 0 0)
  fm_finish (fm_sendAll 2 t c (2 - c) (c + 1) σ2) t c
def fm_ends : Nat → Nat → Nat → wc_St → Nat × wc_St
  | 0, _, d, σ => (d, σ)
  | n + 1, t, d, σ => if fm_mayEnd σ t = true then fm_ends n (t + 1) (d + 1) (fm_endOne σ t (fm_least σ t)) else fm_ends n (t + 1) d σ
def fm_tick (σ : wc_St) : wc_St := wc_st σ 31 0 0 (σ 31 0 0 + nI 1)
def fm_steps : Nat → Nat → wc_St → Nat × wc_St
  | 0, d, σ => (d, σ)
  | n + 1, d, σ => fm_steps n (fm_ends 5 0 d (fm_deliver 45 (fm_next (fm_tick σ) 45 0 none) (fm_tick σ))).1 (fm_ends 5 0 d (fm_deliver 45 (fm_next (fm_tick σ) 45 0 none) (fm_tick σ))).2
def fm_version (σ : wc_St) (x : Int32) : Int32 := if x < 0 then (if x = -1 then nI 0 else -1) else σ 39 0 x.toNatClampNeg
def fm_safe (σ : wc_St) (p : Nat) : Nat → Nat → Int32 → Int32
  | 0, _, x => x
  | n + 1, t, x => fm_safe σ p n (t + 1) (if σ 50 0 (3 * t + p) = 0 then x else if x < σ 51 0 (3 * t + p) then x else σ 51 0 (3 * t + p) - nI 1)
def fm_rat (σ : wc_St) (k : Nat) (r : Int32) : Nat → Nat → Int64
  | 0, _ => 2199023255552
  | n + 1, i => if fm_find σ k (fm_vers σ) i < 0 then (if fm_find σ k (fm_vers σ) i = -1 then (if r < 0 then fm_rat σ k r n (i + 1) else 0) else fm_rat σ k r n (i + 1)) else if r < σ 39 0 (fm_find σ k (fm_vers σ) i).toNatClampNeg then fm_rat σ k r n (i + 1) else (σ 40 0 (fm_find σ k (fm_vers σ) i).toNatClampNeg).toInt64
def fm_marks (σ : wc_St) (p : Nat) : Nat → Nat → Nat → Int32 → Nat × Int32
  | 0, _, n, f => (n, f)
  | j + 1, t, n, f => if σ 50 0 (3 * t + p) = 0 then fm_marks σ p j (t + 1) n f else fm_marks σ p j (t + 1) (n + 1) (if n = 0 then σ 51 0 (3 * t + p) else if f ≤ σ 51 0 (3 * t + p) then f else σ 51 0 (3 * t + p))
def fm_holders (σ : wc_St) (k : Nat) : Nat → Nat → Int32 → Int32
  | 0, _, a => a
  | n + 1, t, a => fm_holders σ k n (t + 1) (a + (if σ 47 0 (9 * t + k) ≤ 0 then nI 0 else nI 1 <<< (nI t &&& 31)) + (if σ 47 0 (9 * t + k) = nI 2 then nI 32 else nI 0))
def fm_msgs (σ : wc_St) : Nat → Nat → Nat → Nat
  | 0, _, x => x
  | n + 1, a, x => fm_msgs σ n (a + 1) (x + (if σ 53 0 a ≤ 0 then 0 else 1))
/-! ranges -/
theorem wc_notle {a b : Int32} : (¬ a ≤ b) = (b < a) := propext (by rw [Int32.le_iff_toInt_le, Int32.lt_iff_toInt_lt]; omega)
theorem wc_notlt {a b : Int32} : (¬ a < b) = (b ≤ a) := propext (by rw [Int32.le_iff_toInt_le, Int32.lt_iff_toInt_lt]; omega)
theorem wc_nIe {a b : Nat} (ha : a < 2 ^ 31) (hb : b < 2 ^ 31) : (nI a = nI b) = (a = b) := propext (nI_eq ha hb)
theorem wc_nI0 {a : Nat} (ha : a < 2 ^ 31) : (nI a = 0) = (a = 0) := propext (by rw [← nI_0]; exact nI_eq ha (by decide))
theorem wc_0nI {a : Nat} (ha : a < 2 ^ 31) : (0 = nI a) = (a = 0) := propext ⟨fun h => by rw [← wc_nI0 ha]; exact h.symm, fun h => by subst h; decide⟩
theorem wc_nIm {a : Nat} (ha : a < 2 ^ 31) : (nI a = -1) = False := propext ⟨fun h => by
  have h1 := nI_toInt ha
  rw [h] at h1
  have h2 : (-1 : Int32).toInt = -1 := by decide
  omega, fun h => h.elim⟩
def wc_in (a : Int32) (n : Nat) : Int32 := if a < 0 then nI 0 else if nI n ≤ a then nI 0 else nI 1
def fc_isError (σ : wc_St) (a : Int32) : Int32 := if a < 0 then nI 0 else if σ 22 0 0 < a then nI 0 else nI 1
theorem wc_in_I {j N : Nat} (h : j < N) (hN : N < 2 ^ 31) : wc_in (nI j) N = nI 1 := by
  unfold wc_in
  rw [if_neg (nI_pos (by omega)), if_neg (nI_ge h hN)]
theorem wc_in_O {a : Int32} {N : Nat} (h : a < 0 ∨ nI N ≤ a) : wc_in a N = nI 0 := by
  unfold wc_in
  rcases h with h | h
  · rw [if_pos h]
  · rw [if_pos h]; split <;> rfl
theorem fc_least_some {σ : wc_St} {t : Nat} (h : ¬ fc_least σ t = -1) : ∃ c, c < 3 ∧ fc_least σ t = nI c := by
  unfold fc_least at h ⊢
  split
  · split
    · split
      · rename_i h1 h2 h3
        rw [if_pos h1, if_pos h2, if_pos h3] at h
        exact absurd rfl h
      · exact ⟨2, by omega, rfl⟩
    · exact ⟨1, by omega, rfl⟩
  · exact ⟨0, by omega, rfl⟩
theorem fc_send_crd {σ : wc_St} {kind : Int32} {t p c u : Nat} : fc_send σ kind t p c 10 u 0 = σ 10 u 0 := by
  simp [fc_send, wc_st]
def wc_in2 (a b : Int32) : Int32 := if a < 0 then nI 0 else if b ≤ a then nI 0 else nI 1
theorem fm_least_le (μ : wc_St) (t : Nat) : fm_least μ t ≤ 3 := by
  unfold fm_least
  split
  · split
    · split <;> omega
    · omega
  · omega
theorem wc_dec (n : Nat) : nI n + Int32.ofInt (-1) = nI n - nI 1 := by
  have h : Int32.ofInt (-1) = - nI 1 := by decide
  rw [h, Int32.sub_eq_add_neg]
theorem wc_dec1 {n : Nat} (h : ¬ n = 0) : nI n + Int32.ofInt (-1) = nI (n - 1) := by
  rw [wc_dec]
  obtain ⟨j, rfl⟩ : ∃ j, n = j + 1 := ⟨n - 1, by omega⟩
  exact nI_pred j
def fm_power (μ : wc_St) (p : Nat) (u : Int32) : Int32 × wc_St := if μ 35 0 p = u then (nI 1, wc_st μ 35 0 p (if u = 0 then nI 1 else nI 0)) else (nI 0, μ)
def fm_clock (μ : wc_St) (p : Nat) (a b : Int32) : Int32 × wc_St := if wc_in2 a (μ 30 0 0 + nI 1) = 0 then (nI 0, μ) else if wc_in2 b (μ 30 0 0 + nI 1) = 0 then (nI 0, μ) else (nI 1, wc_st (wc_st μ 32 0 p a) 33 0 p b)
def fm_delay (μ : wc_St) (p : Nat) (d : Int32) : Int32 × wc_St := if wc_in d 10 = 0 then (nI 0, μ) else (nI 1, wc_st μ 34 0 p d)
def fm_begin2 (μ : wc_St) (t : Nat) : Int32 × wc_St := if wc_in (μ 42 0 t - nI 1) 3 = 0 then (if μ 42 0 t = nI 4 then (if 3 ≤ fm_least μ t then (nI 1, fm_begin μ t) else (nI 0, μ)) else (nI 1, fm_begin μ t)) else (nI 0, μ)
def fm_abort (μ : wc_St) (t : Nat) : Int32 × wc_St := if fm_active μ t = 0 then (nI 0, μ) else (nI 1, fm_drop μ t)
def fm_commit2 (μ : wc_St) (t : Nat) : Int32 × wc_St := if fm_active μ t = 0 then (nI 0, μ) else if fm_least μ t = 3 then (nI 0, μ) else if μ 35 0 (fm_least μ t) = 0 then (nI 1, fm_commit μ t (fm_least μ t)) else (nI 0, μ)
theorem fm_find_lt {μ : wc_St} {k : Nat} : ∀ (n left : Nat), n < 2 ^ 31 → ¬ fm_find μ k n left < 0 → ∃ j, j < n ∧ fm_find μ k n left = nI j := by
  intro n
  induction n with
  | zero =>
    intro left _ h
    exfalso
    unfold fm_find at h
    split at h
    · exact h (by decide)
    · exact h (by decide)
  | succ n ih =>
    intro left hn h
    unfold fm_find at h ⊢
    split
    · rename_i h1
      rw [if_pos h1] at h
      split
      · exact ⟨n, by omega, rfl⟩
      · rename_i h2
        rw [if_neg h2] at h
        obtain ⟨j, h3, h4⟩ := ih _ (by omega) h
        exact ⟨j, by omega, h4⟩
    · rename_i h1
      rw [if_neg h1] at h
      obtain ⟨j, h3, h4⟩ := ih _ (by omega) h
      exact ⟨j, by omega, h4⟩
theorem fm_part_eq {μ μ' : wc_St} {t p : Nat} (h : ∀ j, μ' 47 0 j = μ 47 0 j) : fm_part μ' t p = fm_part μ t p := by
  unfold fm_part
  rw [h, h, h]
theorem fm_least_eq {μ μ' : wc_St} {t : Nat} (h : ∀ j, μ' 47 0 j = μ 47 0 j) : fm_least μ' t = fm_least μ t := by
  unfold fm_least
  rw [fm_part_eq h, fm_part_eq h, fm_part_eq h]
theorem fm_vers_eq {μ : wc_St} {V : Nat} (h : μ 37 0 0 = nI V) (hV : V < 2 ^ 31) : fm_vers μ = V := by
  unfold fm_vers
  rw [h, nI_clamp hV]
theorem fm_w_eq {μ μ' : wc_St} {t : Nat} : ∀ (n k : Nat), (∀ j, k ≤ j → μ' 48 0 (9 * t + j) = μ 48 0 (9 * t + j)) → fm_w μ' t n k = fm_w μ t n k := by
  intro n
  induction n with
  | zero => intro k _; rfl
  | succ n ih =>
    intro k h
    unfold fm_w
    rw [h k (Nat.le_refl _), ih (k + 3) (fun j hj => h j (by omega))]
theorem fm_w_clr {μ : wc_St} {t k n : Nat} : fm_w (fm_clr μ t k) t n (k + 3) = fm_w μ t n (k + 3) :=
  fm_w_eq n (k + 3) (fun j hj => by simp [fm_clr, wc_st]; omega)
theorem fm_w_add {μ : wc_St} {t k n : Nat} : fm_w (fm_clr (fm_add μ t k) t k) t n (k + 3) = fm_w μ t n (k + 3) :=
  fm_w_eq n (k + 3) (fun j hj => by simp [fm_clr, fm_add, wc_st]; omega)
theorem fm_send_c {μ : wc_St} {kd t q o c : Nat} (h1 : c ≠ 53) (h2 : c ≠ 52) (h3 : c ≠ 54) : fm_send μ kd t q o c = μ c := by
  funext i j
  simp [fm_send, wc_st, h1, h2, h3]
theorem fm_sendAll_c {kd t o c : Nat} (h1 : c ≠ 53) (h2 : c ≠ 52) (h3 : c ≠ 54) : ∀ (n q : Nat) (μ : wc_St), fm_sendAll kd t o n q μ c = μ c := by
  intro n
  induction n with
  | zero => intro q μ; rfl
  | succ n ih =>
    intro q μ
    unfold fm_sendAll
    rw [ih]
    split
    · rfl
    · exact fm_send_c h1 h2 h3
theorem fm_next_lt {μ : wc_St} : ∀ (n a : Nat) (b : Option Nat) (j : Nat), a + n ≤ 45 → (∀ j, b = some j → j < 45) → fm_next μ n a b = some j → j < 45 := by
  intro n
  induction n with
  | zero => intro a b j _ hb h; exact hb j h
  | succ n ih =>
    intro a b j ha hb h
    unfold fm_next at h
    refine ih (a + 1) _ j (by omega) ?_ h
    intro j' hj'
    split at hj'
    · exact hb j' hj'
    · split at hj'
      · exact hb j' hj'
      · cases hj'; omega
def fm_stamp (μ : wc_St) (t : Nat) : Int32 := if μ 42 0 t = nI 3 then μ 44 0 t else if μ 42 0 t = nI 4 then μ 44 0 t else -1
def fm_end (μ : wc_St) (t : Nat) : Int32 := if μ 42 0 t = nI 4 then μ 46 0 t else -1
def fm_safe2 (μ : wc_St) (p : Nat) : Int32 := if μ 35 0 p = 0 then fm_safe μ p 5 0 (μ 31 0 0 + μ 33 0 p) else -1
def fm_readAt (μ : wc_St) (k : Nat) (r : Int32) : Int64 × wc_St := if μ 35 0 (k % 3) = 0 then (if r ≤ fm_safe2 μ (k % 3) then (fm_rat (fm_raise μ (k % 3) r) k r 4 0, fm_raise μ (k % 3) r) else (1099511627776, μ)) else (1099511627776, μ)
def fm_marks2 (μ : wc_St) (p : Nat) : Int32 := nI (fm_marks μ p 5 0 0 (nI 0)).1 + nI 8 * (fm_marks μ p 5 0 0 (nI 0)).2
