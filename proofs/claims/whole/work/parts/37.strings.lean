/-! strings: length and charAt of a constant, walked over the library's own code -/
def cnv (t : String) (k : Nat) : Value := .int (oI ((t.toList.getD k 'a').toNat : Int))
def SFat (θ : TH) (U : State) (H : Heap) : Prop := va_Z RJ0 "COMPACT_STRINGS" "Z" (.int 1) (frM θ) U H ∧ (∃ v : Value, (v = .null ∨ ∃ w : Nat, v = .ref w) ∧ va_Z RJ3 "SIOOBE_FORMATTER" "Ljava/util/function/BiFunction;" v (frM θ) U H) ∧
  ∀ j q, stT[j]? = some q → ∃ v : Nat, va_O RJ0 (θ.2.1 (10 + j)) (frM θ) U H ∧ va_OF RJ0 "coder" "B" (.int 0) (θ.2.1 (10 + j)) (frM θ) U H ∧ va_OF RJ0 "value" "[B" (.ref v) (θ.2.1 (10 + j)) (frM θ) U H ∧ va_T .byte v q.2.2.length (cnv q.2.2) (frM θ) U H
/-- what the start gives of the strings -/
def SF (θ : TH) : Prop := SFat θ θ.1 θ.1.heap
theorem SF.at {θ : TH} (h : SF θ) {s : State} (hE : EN θ s) (hs0 : ∀ q, q < θ.1.heap.size → s.heap[q]? = θ.1.heap[q]?) : SFat θ s s.heap := by
  have hk0 : ∀ a : Nat, a < θ.1.heap.size → ¬ frM θ a → s.heap[a]? = θ.1.heap[a]? := fun a ha _ => hs0 a ha
  obtain ⟨h1, ⟨v, hv, h2⟩, h3⟩ := h
  refine ⟨(h1.moved hE.1).kept hk0, ⟨v, hv, (h2.moved hE.1).kept hk0⟩, fun j q hq => ?_⟩
  obtain ⟨v, g1, g2, g3, g4⟩ := h3 j q hq
  exact ⟨v, (g1.moved hE.1).kept hk0, (g2.moved hE.1).kept hk0, (g3.moved hE.1).kept hk0, (g4.moved hE.1).kept hk0⟩
def qS_len : MI := (yJ0_length_8abf5, cJ0_length_8abf5, 1, some .int, [])
def qS_cod : MI := (yJ0_coder_7d493, cJ0_coder_7d493, 1, some .byte, [])
def qS_lat : MI := (yJ0_isLatin1_aae02, cJ0_isLatin1_aae02, 1, some .boolean, [])
def qS_chk : MI := (yJ0_checkIndex_df160, cJ0_checkIndex_df160, 2, none, [])
def qS_pre : MI := (yJ3_checkIndex_8e157, cJ3_checkIndex_8e157, 3, some .int, [])
def qS_lch : MI := (yJ1_charAt_3b067, cJ1_charAt_3b067, 2, some .char, [])
def qS_chr : MI := (yJ0_charAt_5068e, cJ0_charAt_5068e, 2, some .char, [])
theorem qM_len : calM qS_len := ⟨by decide, ⟨by decide +kernel, by decide +kernel⟩, w_133, w_530⟩
theorem qM_cod : calM qS_cod := ⟨by decide, ⟨by decide +kernel, by decide +kernel⟩, w_133, w_534⟩
theorem qM_lat : calM qS_lat := ⟨by decide, ⟨by decide +kernel, by decide +kernel⟩, w_133, w_544⟩
theorem qM_chk : calM qS_chk := ⟨by decide, ⟨by decide +kernel, by decide +kernel⟩, w_133, w_550⟩
theorem qM_pre : calM qS_pre := ⟨by decide, ⟨by decide +kernel, by decide +kernel⟩, w_135, w_555⟩
theorem qM_lch : calM qS_lch := ⟨by decide, ⟨by decide +kernel, by decide +kernel⟩, w_134, w_547⟩
theorem qM_chr : calM qS_chr := ⟨by decide, ⟨by decide +kernel, by decide +kernel⟩, w_133, w_540⟩
/-- a contract of a method that leaves the heap as it is -/
def RC (θ : TH) (l : Launch) (d : Nat) (q : MI) (a : List Value) (h : PH) (v : Option Value) : Prop :=
  vx_Met l q.1 (wsM q) (rmM d 0) (fun w U => w = a.toArray ∧ Rep θ h U.heap ∧ EN θ U) (fun _ _ o t => o = .returned v ∧ Rep θ h t.heap) (fun _ _ _ => False) 0 0 (frM θ)
def BF (θ : TH) (p : Program) (s : State) (m : MethodId) (args : Array Value) (c : Code) (own : String) (cc : ByteArray) (nL : Nat) : Prop :=
  p.tables.exec = Jvm.exec ∧ c.code = cc ∧ c.maxLocals = nL ∧ s.vm.findClass own = some m.cls ∧ (∀ w ∈ TBLg, w.before args s = true) ∧ EN θ s ∧ ∀ a, a < θ.1.heap.size → s.heap[a]? = θ.1.heap[a]?
section STRS
variable {p : Program} {l : Launch} {e : Env} {R : Room} {s : State} {m : MethodId} {args : Array Value} {below : List Frame} {meth : Method} {c : Code} {Z : State → Prop} {θ : TH}
theorem rc_of {d : Nat} {q : MI} {a : List Value} {h : PH} {v : Option Value} (hp : plainName q.1.cls = true) (h0 : q.2.2.2.2 = []) (hw : (lg_sl a).length ≤ q.2.2.1)
    (body : ∀ (p : Program) (e : Env) (s : State) (m : MethodId) (args : Array Value) (below : List Frame) (meth : Method) (c : Code), BF θ p s m args c q.1.cls q.2.1 q.2.2.1 → meth.sig.returnType = q.2.2.2.1 → meth.locks = false →
      ∀ ls, lv_has ls q.2.2.1 (lv_args 0 a) → RepS θ h s.heap [] → W p l e (rmM d 0) s m args below meth c s.heap [] 0 0 (vx_MQ below (fun _ _ o t => o = .returned v ∧ Rep θ h t.heap) (fun _ _ _ => False) args s 0 0 (frM θ)) (F0 m 0 ls [])) : RC θ l d q a h v := by
  refine vx_ofW (ws' := TBLg) (cc := q.2.1) (maxL := q.2.2.1) (ret := q.2.2.2.1) hp (by rw [wsM_eq]; unfold codeW; rw [h0]) ?_
  intro p e s m args below meth c s₁ Bd hml hempty hpc
  obtain ⟨rfl, hrep, hen⟩ := hpc
  have hts0 := atoms_spec (ws := wsM q) Bd.pre
  rw [lg_entry_eq]
  exact body p e s m a.toArray below meth c ⟨Bd.exec, Bd.bytes, hml, findClass_of_methodNamed Bd.named, fun w hw => hts0 w (List.mem_cons_of_mem _ hw), hen, hrep.2.2.1⟩ Bd.returns Bd.notSynchronized _ (lv_entry a hw) ⟨hrep, fun l hl => nomatch hl⟩
/-- the heap has grown -/
theorem z_S {own : String} {cc : ByteArray} {nL : Nat} {h : PH} {H : Heap} {locs : List Loc} {c0 s0 : Nat} {g : JFrame} (B : BF θ p s m args c own cc nL) (hR : RepS θ h H locs)
    (k : va_S (frM θ) s.heap H locs → W p l e R s m args below meth c H locs c0 s0 Z g) : W p l e R s m args below meth c H locs c0 s0 Z g := by
  intro T hT XX
  have hgrow : s.heap.size ≤ H.size := by
    have := (vx_frame XX.same).1
    rw [← hT]
    exact this
  exact k ⟨hgrow, fun q h1 h2 => by rw [hR.1.2.2.1 q (Nat.not_le.mp h2), B.2.2.2.2.2.2 q (Nat.not_le.mp h2)], hR.2⟩ T hT XX
theorem rc_S {own : String} {cc : ByteArray} {nL : Nat} {q : MI} {d idx pc : Nat} {a rest st : List Value} {h : PH} {v : Option Value} {H : Heap} {locs : List Loc} {c0 s0 : Nat} {ls : Array Slot} (B : BF θ p s m args c own cc nL) (hRf : d + 1 ≤ R.frames) (hRl : 38 * (d + 1) ≤ R.locals) (h0 : q.2.2.2.2 = []) (cm : calM q) (hn : nparm q.1 = some a.length)
    (w1 : Cond.methodLink own idx q.1 ∈ TBLg) (w2 : Cond.static q.1 ∈ TBLg) (hM : RC θ l d q a h v) (hR : RepS θ h H locs) (hls : ls.size = nL) (hsum : (rest.map fun v => v.category).sum ≤ 8) (hd' : decode cc pc = .ok (.invokestatic idx, 3)) (hst : st = a.reverse ++ rest) (hf : c0 ≤ R.cells ∧ s0 ≤ R.slots)
    (kk : ∀ H' locs', RepS θ h H' locs' → W p l e R s m args below meth c H' locs' c0 s0 Z (F0 m (pc + 3) ls (v.toList ++ rest))) : W p l e R s m args below meth c H locs c0 s0 Z (F0 m pc ls st) := by
  obtain ⟨hx, hb, hml, hown, hts, hE, hs0⟩ := B
  obtain ⟨o3, o4, o5, o6⟩ := cm
  have hfix : CallFix p m c cc nL s args TBLg own := ⟨hx, hb, hml, hown, hts⟩
  have hpay := ws_warm (q := q) hts o6
  have hcw : codeW q = .code q.1 q.2.1 q.2.2.1 q.2.2.2.1 := by unfold codeW; rw [h0]
  have hcall : PreS s H (fun w U => w = a.toArray ∧ Rep θ h U.heap ∧ EN θ U) a := ⟨fun v U g mk q => ⟨q.1, q.2.1, EN.same (u := U) (U := U.calling g mk v) rfl q.2.2⟩, fun U hU hWU => ⟨rfl, by rw [hU]; exact hR.1, EN.warm hWU hE⟩⟩
  have hrun := vx_runS (n := a.length) (bytes := q.2.1) (maxL := q.2.2.1) (ret := q.2.2.2.1) (g := F0 m pc ls st) (rest := rest) (e := e) (R := R) (below := below) (meth := meth) (cells := c0) (slots := s0) (locs := locs) hfix hM ⟨⟨rfl, rfl, hRf, by show 8 + (q.2.2.1 + 11) + 38 * d ≤ R.locals; omega, hpay, by rw [wsM_eq, hcw]; exact List.mem_cons_self, by rw [← hcw]; exact hts _ o6, hts _ o5, o4, fun sig hs => by unfold nparm at hn; rw [hs] at hn; exact (Option.some.inj hn).symm, hts _ w1⟩, hts _ w2⟩ hcall rfl rfl hls hst (by rw [f0run rfl]; omega) hd' hf
  refine w_run (θ := θ) hrun hR.2 ?_ ?_
  · rintro v' st0 t locs' ⟨ho, hrep⟩ hl'
    cases ho
    exact kk t.heap locs' ⟨hrep, hl'⟩
  · rintro q' E ce st0 t locs' hF
    exact hF.elim
theorem rc_V {own : String} {cc : ByteArray} {nL : Nat} {q : MI} {d idx pc b : Nat} {a rest st : List Value} {h : PH} {v : Option Value} {H : Heap} {locs : List Loc} {c0 s0 : Nat} {ls : Array Slot} (B : BF θ p s m args c own cc nL) (hRf : d + 1 ≤ R.frames) (hRl : 38 * (d + 1) ≤ R.locals) (h0 : q.2.2.2.2 = []) (cm : calM q) (hn : nparm q.1 = some a.length)
    (w1 : Cond.methodLink own idx q.1 ∈ TBLg) (w2 : Cond.instanceMethod q.1 ∈ TBLg) (w3 : Cond.selects q.1.cls q.1 q.1 ∈ TBLg) (hcell : ∃ cell : Cell, H[b]? = some cell ∧ cell.vm.isStatics = false ∧ s.vm.findClass q.1.cls = some cell.cls) (hM : RC θ l d q (.ref b :: a) h v) (hR : RepS θ h H locs) (hls : ls.size = nL) (hsum : (rest.map fun v => v.category).sum ≤ 8) (hd' : decode cc pc = .ok (.invokevirtual idx, 3)) (hst : st = a.reverse ++ .ref b :: rest) (hf : c0 ≤ R.cells ∧ s0 ≤ R.slots)
    (kk : ∀ H' locs', RepS θ h H' locs' → W p l e R s m args below meth c H' locs' c0 s0 Z (F0 m (pc + 3) ls (v.toList ++ rest))) : W p l e R s m args below meth c H locs c0 s0 Z (F0 m pc ls st) := by
  obtain ⟨hx, hb, hml, hown, hts, hE, hs0⟩ := B
  obtain ⟨o3, o4, o5, o6⟩ := cm
  have hfix : CallFix p m c cc nL s args TBLg own := ⟨hx, hb, hml, hown, hts⟩
  have hpay := ws_warm (q := q) hts o6
  have hcw : codeW q = .code q.1 q.2.1 q.2.2.1 q.2.2.2.1 := by unfold codeW; rw [h0]
  have hp : PreV s H q.1.cls b (fun w U => w = (Value.ref b :: a).toArray ∧ Rep θ h U.heap ∧ EN θ U) a := ⟨fun v U g mk q => ⟨q.1, q.2.1, EN.same (u := U) (U := U.calling g mk v) rfl q.2.2⟩, hcell, fun U hU hWU => ⟨rfl, by rw [hU]; exact hR.1, EN.warm hWU hE⟩⟩
  have hrun := vx_runV (n := a.length) (C := q.1.cls) (bytes := q.2.1) (maxL := q.2.2.1) (ret := q.2.2.2.1) (g := F0 m pc ls st) (rest := rest) (e := e) (R := R) (below := below) (meth := meth) (cells := c0) (slots := s0) (locs := locs) hfix hM ⟨⟨rfl, rfl, hRf, by show 8 + (q.2.2.1 + 11) + 38 * d ≤ R.locals; omega, hpay, by rw [wsM_eq, hcw]; exact List.mem_cons_self, by rw [← hcw]; exact hts _ o6, hts _ o5, o4, fun sig hs => by unfold nparm at hn; rw [hs] at hn; exact (Option.some.inj hn).symm, hts _ w1⟩, hts _ w2, hts _ w3⟩ hp rfl rfl hls hst (by rw [f0run rfl]; omega) hd' hf
  refine w_run (θ := θ) hrun hR.2 ?_ ?_
  · rintro v' st0 t locs' ⟨ho, hrep⟩ hl'
    cases ho
    exact kk t.heap locs' ⟨hrep, hl'⟩
  · rintro q' E ce st0 t locs' hF
    exact hF.elim
theorem rc_cell {own : String} {cc : ByteArray} {nL : Nat} {h : PH} {H : Heap} {locs : List Loc} (B : BF θ p s m args c own cc nL) (hS : SF θ) (hR : RepS θ h H locs) {j : Nat} {q : String × Nat × String} (hj : stT[j]? = some q) : ∃ cell : Cell, H[θ.2.1 (10 + j)]? = some cell ∧ cell.vm.isStatics = false ∧ s.vm.findClass RJ0 = some cell.cls := by
  obtain ⟨-, -, h3⟩ := SF.at hS B.2.2.2.2.2.1 B.2.2.2.2.2.2
  obtain ⟨v, ⟨cell, g1, g2, g3, g4⟩, -⟩ := h3 j q hj
  have hlt : θ.2.1 (10 + j) < θ.1.heap.size := Nat.not_le.mp g4
  exact ⟨cell, by rw [hR.1.2.2.1 _ hlt, ← B.2.2.2.2.2.2 _ hlt]; exact g1, g2, g3⟩
end STRS
