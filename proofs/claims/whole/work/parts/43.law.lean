/-! THE CLAIM OUT OF ONE WALK OF THE LAW'S BODY. Your part is whole_start (and what it stands on); all else here is the same for every law, but numbers. -/
def R_law : String := "FadingSignalsLaw"
def lw_P (b : Addr) (xs : List Int32) (args : Array Value) (s : State) : Prop := args = #[.ref b] ∧ s.IntsAt b xs ∧ xs.length ≤ 3072 ∧ (Jvm.Cond.and given_1 narrow_1).before args s = true
/-- what a walk over the start with the record d0 says of its end, said of the start itself -/
theorem lw_closed {s t : State} {o : Outcome} {d0 : Drawn} {L : List Loc} {k n : Nat} (hd0 : s.drawn.sameBut d0 lw_cs) (hv : ∃ v, o = .returned v) (hW : (s.setDrawn d0).WarmedH t.vm) (hs : (s.setDrawn d0).sameButNew ({ t with vm := s.vm } : State) L k n) : State.butDraws s t lw_cs (fun t1 => Framed s o t1 L k n) := by
  have h2 : t.drawn = d0 := congrArg State.drawn hs.1
  refine ⟨⟨hv, hW, State.sameButNew.setDrawn hs s.drawn⟩, ?_, by decide⟩
  rw [h2]
  exact hd0
def lw_Q (_ : Array Value) (s : State) (o : Outcome) (t : State) : Prop := o = .returned (some (.int 1)) ∧ State.butDraws s t lw_cs (fun t1 => Framed s o t1 [] 601024 7293034)
def lw_Z (below : List Frame) (a : Array Value) (s : State) : State → Prop := fun t => ∃ o, t.status = .running ∧ Ended t below o ∧ lw_Q a s o t
/-- the law's own end, with 1 on the stack, nothing written that was there before, its room as the claim has it; d0: the record of draws at this point (at the entry s.drawn: begin with 'refine W.base ?_' and 'have hd0 := Drawn.sameBut.refl s.drawn lw_cs') -/
theorem lw_ret {p : Program} {l : Launch} {e : Env} {s : State} {m : MethodId} {below : List Frame} {meth : Method} {c : Code} {b : Nat} {d0 : Drawn} (hd0 : s.drawn.sameBut d0 lw_cs) (hx : p.tables.exec = Jvm.exec) (hb : c.code = code) (hr : meth.sig.returnType = ret) (hlocks : meth.locks = false) {pc : Nat} {H : Heap} {ls : Array Slot} (hdg : decode code pc = .ok (.ireturn, 1)) : W p l e room_1 (s.setDrawn d0) m #[Value.ref b] below meth c H [] 601024 7293034 (lw_Z below #[Value.ref b] s) (F0 m pc ls [.int 1]) := by
  intro T hT X
  obtain ⟨fs, hret, hrun, hended, hW, hframe⟩ := X.leave (v := some (.int 1)) (hlocks := hlocks) (fun h => by rw [hr] at h; cases h)
  have hmeth' : T.vm.method? m = some meth := X.method'
  refine ⟨T.setFrames fs, ?_, .returned (some (.int 1)), hrun, hended, rfl, lw_closed hd0 ⟨_, rfl⟩ hW hframe⟩
  jvm_step X.here [X.here.top, hx, hb, hdg, hmeth', hr, ret, narrow_b1]
  (try refine ⟨rfl, ?_⟩); (try refine ⟨rfl, ?_⟩)
  first | (intro acts; rw [hret _ acts rfl rfl rfl]) | rw [hret _ _ rfl rfl rfl]
  exact Steps.refl _
/-- what holds at the law's entry: the machine, the code, the tables' words (any of lw_tbl by 'hts w (by decide +kernel)'), the script of L ints xs at the cell b, what the Statement gives of the start (any of its parts by flat_of_before) -/
def lw_At (p : Program) (s : State) (m : MethodId) (meth : Method) (c : Code) (b L : Nat) (xs : Nat → Int32) : Prop :=
  p.tables.exec = Jvm.exec ∧ c.code = code ∧ meth.sig.returnType = ret ∧ c.maxLocals = 9 ∧ s.vm.findClass R_law = some m.cls ∧ (∀ w ∈ lw_tbl, w.before #[Value.ref b] s = true) ∧ va_X b L xs s s.heap ∧ b < s.heap.size ∧ meth.locks = false ∧ (Jvm.Cond.and given_1 narrow_1).before #[Value.ref b] s = true
/-! the law's body: from the plain machine to the owed walk -/
theorem law_start {p : Program} {e : Env} {s : State} {m : MethodId} {below : List Frame} {meth : Method} {c : Code} (l : Launch) (hflags : l.flags = flags0) {b L : Nat} {xs : Nat → Int32} (hL : L ≤ 3072) (C0 : lw_At p s m meth c b L xs)
    (H : ∀ (L : Nat) (xs : Nat → Int32), L ≤ 3072 → WP k_L_law [] (RUN GQ 13) 601024 7293034 14 (fun x _ => x = 1) (fun _ _ => False) 0 (ent 9 [pA 1]) [] (sH L xs) 0 0) :
    W p l e room_1 s m #[Value.ref b] below meth c s.heap [] 0 0 (lw_Z below #[Value.ref b] s) (entryFrame m ([Value.ref b] : List Value).toArray 9) := by
  obtain ⟨hx, hb, hr, hml, hown, hts, hX, hbl, hlocks, hgv⟩ := id C0
  obtain ⟨θ, e1, e2, hW, hEX, hEN, hRep⟩ := start_of hts (flat_of_before _ hgv) hL hX hbl
  have hl : l.stackTraces = false := by
    unfold Launch.stackTraces
    rw [hflags]
    rfl
  have hF : FR θ p l room_1 s m #[Value.ref b] meth c q_L_law.1 q_L_law.2.1 q_L_law.2.2.1 q_L_law.2.2.2.1 (13 + 1) := by
    refine ⟨hx, hb, hml, hown, fun w hw => hts w (List.mem_filter.mp hw).1, hEN, fun q _ => by rw [e1], fun i j hi hj hne => ?_, fun i hi => va_Nw.use rfl (hEN.2.1 _ (hEX.2 i hi)), hr, hlocks, fun h => absurd h (by decide +kernel), hl, Nat.le_refl 14, Nat.le_refl 532, by omega⟩
    have := hEX.1 i j hi hj hne
    rwa [e1] at this
  have hent := LR.entry (θ := θ) (m := m) (n := 9) (a := [pA 1]) rfl
  have hev : ([pA 1] : List PV).map (eV θ) = [Value.ref b] := by
    show [eR θ 1] = _
    unfold eR tad
    rw [if_neg (by omega), if_pos (by omega), e2]
  rw [hev] at hent
  obtain ⟨ls, hls, hLR⟩ := hent
  rw [hls]
  have key := H L xs hL (MW θ 9 p l e room_1 s m #[Value.ref b] below meth c (lw_Z below #[Value.ref b] s)) ?_
  · exact key s.heap [] ls hRep hLR (Nat.zero_le _) (Nat.zero_le _)
  · rintro pc L st h' c0 s0 ⟨cuts, n, HW⟩
    rcases pto_spec pc k_L_law with h0 | ⟨pre, q, rest, h1, h2, h3⟩
    · rw [h0] at HW
      cases n <;> exact HW.elim
    · rw [h2] at HW
      rw [← h3]
      refine wpc_sound (R := room_1) (d := 13) (q0 := q_L_law) (hd := []) (call := RUN GQ 13) hW hF t_L_law (fun mi a h Q X hmi hr => sound hl hW hEX pgok 13 mi a h Q X hmi hr) (Or.inr ⟨rfl, fun _ _ q => q⟩) (fun _ _ _ _ _ _ q => q) ?_ ?_ ?_ ?_ n pre q rest L st h' c0 s0 h1 HW
      · exact fun pc k h H locs c0 s0 ls rest q ce hk hx => hx.elim
      · exact fun pc ik k L st h c0 s0 hh hth h6 hst r1 r2 hx => (hx (hn h) (Nat.le_refl _)).elim
      · intro pc rc x hh L c0 s0 hd' hrc hq Hh locs ls hR hL g1 g2
        have hx1 : x = 1 := by
          rcases hrc with ⟨rfl, q⟩ | ⟨rfl, q⟩ | ⟨rfl, q⟩ | ⟨rfl, q⟩
          · cases q
          · exact hq.2
          · cases q
          · cases q
        subst hx1
        refine va_forget (fun q hq' => by have := hR.2 q hq'; rwa [e1] at this) ?_
        refine W.widen (k := 601024) (n := 7293034) g1 g2 ?_
        exact lw_ret (d0 := s.drawn) (Drawn.sameBut.refl s.drawn lw_cs) hx hb hr hlocks hd'
      · intro pc i hh L st c0 s0 hd' hq
        rcases hq with ⟨-, ⟨C, q⟩, -⟩ | ⟨-, q, -⟩ | ⟨-, q, -⟩ | ⟨-, q, -⟩ <;> exact nomatch q
