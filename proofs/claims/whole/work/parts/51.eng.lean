/-! the hall on the model's row: what each step does (s: the row of the state; D: the other rows) -/
def kn (s : Int → Int) (k w : Int) : Int := s (13 + 3 * k + w)
def td (s : Int → Int) (p k : Int) : Int := s (37 + 8 * p + k)
def qv (s : Int → Int) (p k w : Int) : Int := s (121 + 5 * (13 * p + k) + w)
def sv (s : Int → Int) (p k w : Int) : Int := s (517 + 6 * (4 * p + k) + w)
def ur (s : Int → Int) (p k : Int) : Int := if 0 ≤ kn s k 0 - td s p k then kn s k 0 - td s p k else 0
def msk (s : Int → Int) (p k : Int) : Int := if band (bshr (s (85 + p)) k) 1 = 1 then 1 else 0
def ahd (s : Int → Int) (p k o : Int) : Int := if ur s p (qv s p k 1) = ur s p (qv s p o 1) then (if k < o then 1 else 0) else (if ur s p (qv s p o 1) < ur s p (qv s p k 1) then 1 else 0)
/-- how many of the places from o on (n of them) are ahead of the place k, and acc -/
def cntl (s : Int → Int) (p k : Int) : Nat → Int → Int → Int
  | 0, _, acc => acc
  | n + 1, o, acc => cntl s p k n (o + 1) (acc + (if o = k then 0 else ahd s p o k))
def plcl (s : Int → Int) (p x : Int) : Nat → Int → Int
  | 0, _ => -1
  | n + 1, k => if cntl s p k (s (115 + p)).toNat 0 0 = x then k else plcl s p x n (k + 1)
/-- the place that is the so-manieth in the order -/
def plc (s : Int → Int) (p x : Int) : Int := plcl s p x (s (115 + p)).toNat 0
def nxl (s : Int → Int) (p : Int) : Nat → Int → Int → Int
  | 0, _, best => best
  | n + 1, k, best => nxl s p n (k + 1) (if msk s p (qv s p k 1) = 0 ∧ (best = -1 ∨ ahd s p k best = 1) then k else best)
def nxt (s : Int → Int) (p : Int) : Int := nxl s p (s (115 + p)).toNat 0 (-1)
def may (s : Int → Int) (p u : Int) : Int := if s (511 + p) = 0 ∨ (sv s p (s (511 + p) - 1) 2 + s 11 < u ∧ s (511 + p) < s 10) then 1 else 0
def e_cnt (s : Int → Int) (p w : Int) : Int → Int := ups s (91 + 4 * p + w) (s (91 + 4 * p + w) + 1)
def e_end0 (s : Int → Int) (sig t p k at' : Int) : Int → Int :=
  let s1 := ups s at' sig
  let s2 := ups s1 (at' + 1) t
  let s3 := ups s2 (at' + 2) (s2 0)
  let s4 := ups s3 (at' + 3) p
  let s5 := ups s4 (at' + 4) k
  let s6 := ups s5 2 (s5 2 + 1)
  let s7 := ups s6 (4 + t) (s6 (4 + t) + 1)
  e_cnt s7 p (if t = 0 then 2 else 3)
def e_ends (s : Int → Int) (sig t p k : Int) : Int → Int :=
  let r := e_end0 s sig t p k (661 + 5 * (Int.tmod (s 2) 40))
  ups r (-2) (if sig = r (-1) then t else r (-2))
/-- n steps of a shift by d from i on -/
def sfl (d : Int) : Nat → Int → (Int → Int) → Int → Int
  | 0, _, s => s
  | n + 1, i, s => sfl d n (i + 1) (ups s i (s (i + d)))
def e_lv (s : Int → Int) (p k : Int) : Int → Int :=
  let r := ups s (115 + p) (s (115 + p) - 1)
  sfl 5 (5 * (r (115 + p) - k)).toNat (121 + 5 * (13 * p + k)) r
/-- a signal leaves a queue, with an end -/
def e_eiq (s : Int → Int) (p k t : Int) : Int → Int := e_ends (e_lv s p k) (qv s p k 0) t p (qv s p k 1)
def e_snd0 (s : Int → Int) (p k v by' at' : Int) : Int → Int :=
  let s1 := ups s (at' + 0) (s 1)
  let s2 := ups s1 (at' + 1) k
  let s3 := ups s2 (at' + 2) by'
  let s4 := ups s3 (at' + 3) v
  let s5 := ups s4 (at' + 4) (s4 0)
  let s6 := ups s5 (115 + p) (s5 (115 + p) + 1)
  let s7 := ups s6 1 (s6 1 + 1)
  let s8 := e_cnt s7 p 0
  if by' = -1 then s8 else e_cnt s8 by' 1
def e_snd (D : Nat → Int → Int) (s : Int → Int) (p k v by' : Int) : Int → Int :=
  let r := e_snd0 s p k v by' (121 + 5 * (13 * p + s (115 + p)))
  if D 0 2 < r (115 + p) then e_eiq r p (plc r p (r (115 + p) - 1)) 3 else r
def e_drl (p kd : Int) : Nat → Int → (Int → Int) → Int → Int
  | 0, _, s => s
  | n + 1, k, s => if kd = -1 ∨ qv s p k 1 = kd then e_drl p kd n k (e_eiq s p k 5) else e_drl p kd n (k + 1) s
def e_drops (s : Int → Int) (p kd : Int) : Int → Int := e_drl p kd (s (115 + p)).toNat 0 s
def e_agl (p : Int) : Nat → Int → (Int → Int) → Int → Int
  | 0, _, s => s
  | n + 1, k, s => if kn s (qv s p k 1) 2 ≤ s 0 - qv s p k 4 then e_agl p n k (e_eiq s p k 2) else e_agl p n (k + 1) s
def e_ages (s : Int → Int) (p : Int) : Int → Int := e_agl p (s (115 + p)).toNat 0 s
def e_stk0 (s : Int → Int) (p k u t at' : Int) : Int → Int :=
  let s1 := ups s (at' + 0) (qv s p k 0)
  let s2 := ups s1 (at' + 1) (qv s1 p k 1)
  let s3 := ups s2 (at' + 2) u
  let s4 := ups s3 (at' + 3) t
  let s5 := ups s4 (at' + 4) (qv s4 p k 3)
  let s6 := ups s5 (at' + 5) (qv s5 p k 4)
  ups s6 (511 + p) (s6 (511 + p) + 1)
def e_stk (s : Int → Int) (p k u t : Int) : Int → Int := e_lv (e_stk0 s p k u t (517 + 6 * (4 * p + s (511 + p)))) p k
def e_bgl (D : Nat → Int → Int) (p : Int) : Nat → (Int → Int) → Int → Int
  | 0, s => s
  | n + 1, s =>
    if nxt s p = -1 then s
    else if may s p (ur s p (qv s p (nxt s p) 1)) = 0 then s
    else if ur s p (qv s p (nxt s p) 1) = 0 then e_bgl D p n (e_eiq s p (nxt s p) 1)
    else if D 3 (8 * p + qv s p (nxt s p) 1) = 0 then e_bgl D p n (e_eiq s p (nxt s p) 4)
    else e_stk s p (nxt s p) (ur s p (qv s p (nxt s p) 1)) (D 3 (8 * p + qv s p (nxt s p) 1))
def e_bg (D : Nat → Int → Int) (s : Int → Int) (p : Int) : Int → Int := e_bgl D p ((s (115 + p)).toNat + 1) s
def e_does (D : Nat → Int → Int) (s : Int → Int) (p a v : Int) : Int → Int :=
  if D 5 a = 0 then e_snd D s (D 5 (a + 2)) (D 5 (a + 1)) (Int.tmod (v + D 5 (a + 3)) 1000) p
  else if D 5 a = 1 then ups s (85 + p) (bor (s (85 + p)) (bshl 1 (D 5 (a + 1))))
  else if D 5 a = 2 then ups s (85 + p) (band (s (85 + p)) (bxor (bshl 1 (D 5 (a + 1))) (-1)))
  else e_drops s p (D 5 (a + 1))
def e_acl (D : Nat → Int → Int) (p hd v : Int) : Nat → Int → (Int → Int) → Int → Int
  | 0, _, s => s
  | n + 1, k, s => e_acl D p hd v n (k + 1) (e_does D s p (4 * (4 * hd + k)) v)
/-- the handler on top has ended: all but its acts -/
def e_wk0 (s : Int → Int) (p at' : Int) : Int → Int :=
  let s2 := ups s 3 (s 3 + (s 0 - s (at' + 5)))
  let s3 := ups s2 (511 + p) (s (511 + p) - 1)
  let s4 := ups s3 (37 + 8 * p + s (at' + 1)) (if 99 ≤ td s3 p (s (at' + 1)) + kn s3 (s (at' + 1)) 1 then 99 else td s3 p (s (at' + 1)) + kn s3 (s (at' + 1)) 1)
  e_ends s4 (s (at' + 0)) 0 p (s (at' + 1))
def e_wk (D : Nat → Int → Int) (s : Int → Int) (p : Int) : Int → Int :=
  if s (511 + p) = 0 then s
  else
    let at' := 517 + 6 * (4 * p + (s (511 + p) - 1))
    let s1 := ups s (at' + 3) (s (at' + 3) - 1)
    if 0 < s1 (at' + 3) then s1
    else e_acl D p (8 * p + s1 (at' + 1)) (s1 (at' + 4)) (D 4 (8 * p + s1 (at' + 1))).toNat 0 (e_wk0 s1 p at')
def e_rsl : Nat → Int → (Int → Int) → Int → Int
  | 0, _, s => s
  | n + 1, k, s => e_rsl n (k + 1) (ups s (37 + k) (if 0 ≤ s (37 + k) - 1 then s (37 + k) - 1 else 0))
def e_prl (D : Nat → Int → Int) : Nat → Int → (Int → Int) → Int → Int
  | 0, _, s => s
  | n + 1, p, s => e_prl D n (p + 1) (e_wk D (e_bg D (e_ages s p) p) p)
def e_tick (D : Nat → Int → Int) (s : Int → Int) : Int → Int :=
  let s1 := ups s 0 (s 0 + 1)
  e_prl D (D 0 4).toNat 0 (if Int.tmod (s1 0) (s1 12) = 0 then e_rsl 48 0 s1 else s1)
def e_tks (D : Nat → Int → Int) : Nat → (Int → Int) → Int → Int
  | 0, s => s
  | n + 1, s => e_tks D n (e_tick D s)
