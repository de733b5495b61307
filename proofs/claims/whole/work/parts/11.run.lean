/-! WP: the least predicate that is closed under stretches of code; RUN: calls, by depth. -/
section MONO
variable {hd : PX} {call call' : PC} {mc ms fr : Nat} {Q Q' : Int → PH → Prop} {X X' : Nat → PH → Prop} {jmp jmp' : PK} {nxt nxt' : PL → List PV → PH → Nat → Nat → Prop}
abbrev PCm (call call' : PC) : Prop := ∀ (m : Nat) (a : List PV) (h : PH) (Q Q' : Int → PH → Prop) (X X' : Nat → PH → Prop), (∀ x h, Q x h → Q' x h) → (∀ e h, X e h → X' e h) → call m a h Q X → call' m a h Q' X'
theorem cond_mono {b : Bool} {P P' R R' : Prop} (h1 : P → P') (h2 : R → R') : cond b P R → cond b P' R' := by
  cases b
  · exact h2
  · exact h1
theorem stpG_mono (hX : ∀ e h, X e h → X' e h) (hj : ∀ t L st h c s, jmp t L st h c s → jmp' t L st h c s) (pc : Nat) (L : PL) (c s e : Nat) (h : PH) : ∀ l : PX, stpG X jmp pc L c s e h l → stpG X' jmp' pc L c s e h l
  | [] => hX e h
  | (a, b, k, t, i) :: l => by
    intro H
    simp only [stpG] at H ⊢
    cases hb : (Nat.ble a pc && Nat.blt pc b) with
    | true => rw [hb] at H; exact ⟨fun q => cond_mono (hj _ _ _ _ _ _) id (H.1 q), fun q => stpG_mono hX hj pc L c s e h l (H.2 q)⟩
    | false => rw [hb] at H; exact stpG_mono hX hj pc L c s e h l H
theorem stpR_mono (hn : ∀ L st h c s, nxt L st h c s → nxt' L st h c s) (ret : Nat) (L : PL) (st : List PV) (c s : Nat) (x : Int) (h : PH) : stpR nxt ret L st c s x h → stpR nxt' ret L st c s x h := by
  unfold stpR
  split <;> exact hn _ _ _ _ _
theorem stpK_mono (hc : PCm call call') (hX : ∀ e h, X e h → X' e h) (hj : ∀ t L st h c s, jmp t L st h c s → jmp' t L st h c s) (hn : ∀ L st h c s, nxt L st h c s → nxt' L st h c s) (pc : Nat) (r : Nat × Nat × Nat × Nat) (L : PL) (st : List PV) (h : PH) (c s : Nat) : stpK hd call mc ms X jmp nxt pc r L st h c s → stpK hd call' mc ms X' jmp' nxt' pc r L st h c s := by
  unfold stpK
  split
  · exact hc _ _ _ _ _ _ _ (fun x h => stpR_mono hn _ _ _ _ _ x h) (fun e h => stpG_mono hX hj _ _ _ _ e h hd)
  · exact fun H => ⟨H.1, hc _ _ _ _ _ _ _ (fun x h => stpR_mono hn _ _ _ _ _ x h) (fun e h => stpG_mono hX hj _ _ _ _ e h hd) H.2⟩
theorem stpV_mono {k : Nat} {h : PH} {P P' : Prop} (H : P → P') : ∀ l : List PV, stpV k h P l → stpV k h P' l
  | [] => id
  | .inl _ :: _ => id
  | .inr (.inl _) :: _ => fun q => ⟨q.1, H q.2⟩
  | .inr (.inr _) :: _ => id
theorem stpC_mono (hc : PCm call call') (hX : ∀ e h, X e h → X' e h) (hj : ∀ t L st h c s, jmp t L st h c s → jmp' t L st h c s) (hn : ∀ L st h c s, nxt L st h c s → nxt' L st h c s) (pc : Nat) (r : Nat × Nat × Nat × Nat) (L : PL) (st : List PV) (h : PH) (c s : Nat) : stpC hd call mc ms X jmp nxt pc r L st h c s → stpC hd call' mc ms X' jmp' nxt' pc r L st h c s := by
  unfold stpC
  refine cond_mono ?_ id
  split
  · exact stpK_mono hc hX hj hn _ _ _ _ _ _ _
  · exact stpV_mono (stpK_mono hc hX hj hn _ _ _ _ _ _ _) _
theorem stpL_mono (hn : ∀ L st h c s, nxt L st h c s → nxt' L st h c s) (f : Nat) (L : PL) (st : List PV) (h : PH) (c s : Nat) : stpL fr nxt f L st h c s → stpL fr nxt' f L st h c s := by
  unfold stpL
  split <;> grind
theorem stpLd_mono (hn : ∀ L st h c s, nxt L st h c s → nxt' L st h c s) (t k : Nat) (L : PL) (st : List PV) (h : PH) (c s : Nat) : stpLd nxt t k L st h c s → stpLd nxt' t k L st h c s := by
  unfold stpLd
  split
  · exact cond_mono (hn _ _ _ _ _) id
  · exact id
theorem stpSt_mono (hn : ∀ L st h c s, nxt L st h c s → nxt' L st h c s) (t k : Nat) (L : PL) (st : List PV) (h : PH) (c s : Nat) : stpSt nxt t k L st h c s → stpSt nxt' t k L st h c s := by
  unfold stpSt
  split <;> first | exact cond_mono (hn _ _ _ _ _) id | exact id
theorem stpSd_mono (hn : ∀ L st h c s, nxt L st h c s → nxt' L st h c s) (k : Nat) (L : PL) (st : List PV) (h : PH) (c s : Nat) : stpSd nxt k L st h c s → stpSd nxt' k L st h c s := by
  unfold stpSd
  split <;> first | exact cond_mono (hn _ _ _ _ _) id | exact id
theorem tsw_mono {x : Int} {pc : Nat} {j j' : Nat → Prop} (hj : ∀ t, j t → j' t) : ∀ (l : List Int) (lo : Int), tsw x pc j lo l → tsw x pc j' lo l
  | [], _ => id
  | _ :: l, lo => fun H => ⟨fun q => hj _ (H.1 q), tsw_mono hj l (lo + 1) H.2⟩
set_option maxHeartbeats 4000000 in
set_option maxRecDepth 100000 in
theorem stp_mono (hc : PCm call call') (hQ : ∀ x h, Q x h → Q' x h) (hX : ∀ e h, X e h → X' e h) (hj : ∀ t L st h c s, jmp t L st h c s → jmp' t L st h c s) (hn : ∀ L st h c s, nxt L st h c s → nxt' L st h c s) (q : PI) (L : PL) (st : List PV) (h : PH) (c s : Nat) : stp hd call mc ms fr Q X jmp nxt q L st h c s → stp hd call' mc ms fr Q' X' jmp' nxt' q L st h c s := by
  obtain ⟨pc, i, len, r⟩ := q
  cases i <;> simp only [stp]
  all_goals first
    | exact id
    | exact hn _ _ _ _ _
    | exact hj _ _ _ _ _ _
    | exact stpLd_mono hn _ _ _ _ _ _ _
    | exact stpSt_mono hn _ _ _ _ _ _ _
    | exact stpSd_mono hn _ _ _ _ _ _
    | exact cond_mono (cond_mono (stpL_mono hn _ _ _ _ _ _) id) (stpC_mono hc hX hj hn _ _ _ _ _ _ _)
    | exact cond_mono (hn _ _ _ _ _) id
    | exact cond_mono (cond_mono (fun H => ⟨H.1, H.2.1, fun n' q => hX _ _ (H.2.2 n' q)⟩) id) (fun H => ⟨H.1, fun h' e => hn _ _ _ _ _ (H.2 h' e)⟩)
    | (split <;> first
        | exact id
        | exact hn _ _ _ _ _
        | exact hQ _ _
        | exact cond_mono (hn _ _ _ _ _) id
        | exact fun H => ⟨H.1, fun q => hj _ _ _ _ _ _ (H.2.1 q), tsw_mono (fun t => hj _ _ _ _ _ _) _ _ H.2.2⟩
        | exact fun H => ⟨fun q => hn _ _ _ _ _ (H.1 q), fun q => hj _ _ _ _ _ _ (H.2 q)⟩
        | exact fun H => ⟨H.1, hn _ _ _ _ _ H.2⟩
        | exact fun H => ⟨H.1, H.2.1, hn _ _ _ _ _ H.2.2⟩
        | exact fun H => ⟨H.1, H.2.1, H.2.2.1, hn _ _ _ _ _ H.2.2.2⟩
        | exact fun H => ⟨H.1, H.2.1, fun h' e => hn _ _ _ _ _ (H.2.2 h' e)⟩
        | exact fun H => ⟨H.1, H.2.1, H.2.2.1, fun h' e => hn _ _ _ _ _ (H.2.2.2 h' e)⟩
        | (split <;> first | exact hQ _ _ | exact fun H => ⟨H.1, hQ _ _ H.2⟩)
        | (intro H; refine ⟨H.1, ?_⟩; have H2 := H.2; clear H; revert H2; split <;> first | exact id | exact hn _ _ _ _ _ | exact fun H => ⟨fun q => hn _ _ _ _ _ (H.1 q), fun q => hj _ _ _ _ _ _ (H.2 q)⟩ | exact fun H => ⟨fun q => hj _ _ _ _ _ _ (H.1 q), fun q => hn _ _ _ _ _ (H.2 q)⟩ | exact fun H h' e => hn _ _ _ _ _ (H h' e) | exact fun H => ⟨H.1, fun h' e => hn _ _ _ _ _ (H.2 h' e)⟩)
        | (intro H; refine ⟨H.1, H.2.1, ?_⟩; have H2 := H.2.2; clear H; revert H2; split <;> first | exact id | exact hn _ _ _ _ _ | exact fun H => ⟨fun q => hn _ _ _ _ _ (H.1 q), fun q => hj _ _ _ _ _ _ (H.2 q)⟩ | exact fun H => ⟨fun q => hj _ _ _ _ _ _ (H.1 q), fun q => hn _ _ _ _ _ (H.2 q)⟩ | exact fun H h' e => hn _ _ _ _ _ (H h' e) | exact fun H => ⟨H.1, fun h' e => hn _ _ _ _ _ (H.2 h' e)⟩))
end MONO
theorem wpc_mono {full : List PI} {hd : PX} {call call' : PC} {mc ms fr : Nat} {Q Q' : Int → PH → Prop} {X X' : Nat → PH → Prop} {cuts : List Nat} {K K' : PK} (hc : PCm call call') (hQ : ∀ x h, Q x h → Q' x h) (hX : ∀ e h, X e h → X' e h) (hK : ∀ t L st h c s, K t L st h c s → K' t L st h c s) :
    ∀ (n : Nat) (code : List PI) (L : PL) (st : List PV) (h : PH) (c s : Nat), wpc full hd call mc ms fr Q X cuts K n code L st h c s → wpc full hd call' mc ms fr Q' X' cuts K' n code L st h c s
  | 0, _, _, _, _, _, _ => id
  | _ + 1, [], _, _, _, _, _ => id
  | n + 1, q :: rest, L, st, h, c, s => by
    refine stp_mono hc hQ hX (fun t L st h c s => cond_mono (hK _ _ _ _ _ _) (wpc_mono hc hQ hX hK n _ _ _ _ _ _)) (fun L st h c s => ?_) q L st h c s
    cases rest with
    | nil => exact id
    | cons q' rest' => exact cond_mono (hK _ _ _ _ _ _) (wpc_mono hc hQ hX hK n _ _ _ _ _ _)
/-- the least predicate closed under stretches of the code -/
def WP (full : List PI) (hd : PX) (call : PC) (mc ms fr : Nat) (Q : Int → PH → Prop) (X : Nat → PH → Prop) : PK := fun pc L st h c s =>
  ∀ K : PK, (∀ pc L st h c s, (∃ (cuts : List Nat) (n : Nat), wpc full hd call mc ms fr Q X cuts K n (pto pc full) L st h c s) → K pc L st h c s) → K pc L st h c s
theorem WP.of {full : List PI} {hd : PX} {call : PC} {mc ms fr : Nat} {Q : Int → PH → Prop} {X : Nat → PH → Prop} {pc : Nat} {L : PL} {st : List PV} {h : PH} {c s : Nat} (hm : PCm call call) {cuts : List Nat} {n : Nat}
    (H : wpc full hd call mc ms fr Q X cuts (WP full hd call mc ms fr Q X) n (pto pc full) L st h c s) : WP full hd call mc ms fr Q X pc L st h c s := fun K hK =>
  hK _ _ _ _ _ _ ⟨cuts, n, wpc_mono hm (fun _ _ => id) (fun _ _ => id) (fun _ _ _ _ _ _ q => q K hK) n _ _ _ _ _ _ H⟩
theorem WP.mono {full : List PI} {hd : PX} {call call' : PC} {mc ms fr : Nat} {Q Q' : Int → PH → Prop} {X X' : Nat → PH → Prop} (hc : PCm call call') (hQ : ∀ x h, Q x h → Q' x h) (hX : ∀ e h, X e h → X' e h) {pc : Nat} {L : PL} {st : List PV} {h : PH} {c s : Nat} (H : WP full hd call mc ms fr Q X pc L st h c s) : WP full hd call' mc ms fr Q' X' pc L st h c s := fun K hK =>
  H K (fun pc L st h c s ⟨cuts, n, w⟩ => hK pc L st h c s ⟨cuts, n, wpc_mono hc hQ hX (fun _ _ _ _ _ _ => id) n _ _ _ _ _ _ w⟩)
def ent : Nat → List PV → PL
  | 0, _ => []
  | n + 1, [] => none :: ent n []
  | n + 1, v :: l => some v :: ent n l
def argT : List PV → Bool
  | [] => true
  | v :: l => Nat.blt (ptag v) 2 && argT l
def argB (n : Nat) (a : List PV) : Bool := Nat.ble a.length n && argT a
/-- a program: each method's code, handlers, budget, locals -/
abbrev PG : Type := Nat → List PI × PX × Nat × Nat
def RUN (G : PG) : Nat → PC
  | 0 => fun _ _ _ _ _ => False
  | d + 1 => fun m a h Q X => cond (argB (G m).2.2.2 a) (WP (G m).1 (G m).2.1 (RUN G d) (bdc (G m).2.2.1).1 (bdc (G m).2.2.1).2 (d + 1) Q X 0 (ent (G m).2.2.2 a) [] h 0 0) False
theorem RUN.mono (G : PG) : ∀ d : Nat, PCm (RUN G d) (RUN G d)
  | 0 => fun _ _ _ _ _ _ _ _ _ => id
  | d + 1 => fun _ _ _ _ _ _ _ hQ hX => cond_mono (WP.mono (RUN.mono G d) hQ hX) id
