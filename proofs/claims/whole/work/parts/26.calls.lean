/-! calls, returns, throws -/
def exN : Nat → String
  | 0 => "java/lang/IllegalStateException"
  | 1 => "java/lang/IllegalArgumentException"
  | _ => "java/lang/IndexOutOfBoundsException"
/-- a method: its name, its code, its locals, what it returns, its handlers -/
abbrev MI : Type := MethodName × ByteArray × Nat × Option FieldType × List (Nat × Nat × Nat × Nat)
def codeW (q : MI) : Cond := match q.2.2.2.2 with
  | [] => .code q.1 q.2.1 q.2.2.1 q.2.2.2.1
  | hh => .codeWith q.1 q.2.1 q.2.2.1 q.2.2.2.1 hh
def wsM (q : MI) : List Cond := codeW q :: TBLg
def rmM (d b : Nat) : Room := { frames := d, cells := (bdc b).1, slots := (bdc b).2, locals := 38 * d }
def eRet (θ : TH) (ret : Option FieldType) (x : Int) : Option Value := match ret with
  | none => none
  | some .int | some .boolean | some .byte | some .char => some (.int (oI x))
  | some .float => some (.float (f32 x))
  | some .double => some (.double (f64 x))
  | some _ => some (eR θ x.toNat)
def PcM (θ : TH) (h : PH) (a : List PV) : Array Value → State → Prop := fun v U => v = (a.map (eV θ)).toArray ∧ Rep θ h U.heap ∧ EN θ U
def QcM (θ : TH) (ret : Option FieldType) (Q : Int → PH → Prop) : Array Value → State → Outcome → State → Prop := fun _ _ o t => ∃ x h', Q x h' ∧ o = .returned (eRet θ ret x) ∧ Rep θ h' t.heap
def XcM (θ : TH) (X : Nat → PH → Prop) : String → State → State → Prop := fun E _ t => ∃ k h', k < 3 ∧ E = exN k ∧ X k h' ∧ Rep θ h' t.heap
def frM (θ : TH) : Nat → Prop := fun q => θ.1.heap.size ≤ q
def CT (θ : TH) (l : Launch) (d b : Nat) (q : MI) (a : List PV) (h : PH) (Q : Int → PH → Prop) (X : Nat → PH → Prop) : Prop :=
  vx_Met l q.1 (wsM q) (rmM d b) (PcM θ h a) (QcM θ q.2.2.2.1 Q) (XcM θ X) (bdc b).1 (bdc b).2 (frM θ)
theorem EN.same {θ : TH} {u U : State} (hv : U.vm = u.vm) (h : EN θ u) : EN θ U := by
  obtain ⟨h1, h2, h3, h4⟩ := h
  refine ⟨by rw [hv]; exact h1, fun w hw => ?_, fun j q hq => vk_R.same hv (h3 j q hq), va_AO.moved (by rw [hv]; exact Vm.Alike.refl _) h4⟩
  have hon : w.onTables = true := by
    have := (List.mem_filter.mp hw).2
    cases w <;> first | rfl | cases this
  exact va_Nw.same hon hv.symm (h2 w hw)
theorem EN.warm {θ : TH} {s U : State} (hW : s.WarmedH U.vm) (h : EN θ s) : EN θ U := by
  obtain ⟨h1, h2, h3, h4⟩ := h
  refine ⟨h1.trans hW.alike, fun w hw => ?_, fun j q hq => vk_R.warm hW (h3 j q hq), va_AO.moved hW.alike h4⟩
  have hh := (List.mem_filter.mp hw).2
  have hz := h2 w hw
  cases w <;> first | exact va_Nw.warmF hW hz | exact va_Nw.warmM hW hz | exact va_Nw.warmC hW hz | exact va_Nw.warmD hW hz | cases hh
theorem PcM.blind (θ : TH) (h : PH) (a : List PV) : FrameBlind (PcM θ h a) := fun v U g mk q => ⟨q.1, q.2.1, EN.same (u := U) (U := U.calling g mk v) rfl q.2.2⟩
section SND4
variable {p : Program} {l : Launch} {e : Env} {R : Room} {s : State} {m : MethodId} {args : Array Value} {below : List Frame} {meth : Method} {c : Code} {Z : State → Prop} {θ : TH} {cc : ByteArray} {nL : Nat}
/-- behind a call -/
theorem w_run {H : Heap} {locs : List Loc} {cells slots mc ms : Nat} {g : JFrame} {rest : List Value} {Qa : State → Outcome → State → Prop} {XC : String → State → State → Prop}
    (hr : vx_Run p l e R s m args below meth c H locs cells slots mc ms g rest Qa XC (frM θ)) (hl : ∀ l ∈ locs, θ.1.heap.size ≤ l.base)
    (kn : ∀ (v : Option Value) (st t : State) (locs' : List Loc), Qa st (.returned v) t → (∀ l ∈ locs', θ.1.heap.size ≤ l.base) → W p l e R s m args below meth c t.heap locs' (cells + mc) (slots + ms) Z { g with pc := g.pc + 3, stack := v.toList ++ rest })
    (kx : ∀ (q : Addr) (E : String) (ce : Cell) (st t : State) (locs' : List Loc), XC E st t → t.heap[q]? = some ce → ce.vm = .none → s.vm.findClass E = some ce.cls → (∀ l ∈ locs', θ.1.heap.size ≤ l.base) → vx_W p l e R s m args below meth c t.heap locs' (cells + mc) (slots + ms) Z { g with stack := rest } q) :
    W p l e R s m args below meth c H locs cells slots Z g := by
  intro T hT X
  have hll : ∀ L : List Loc, (∀ q ∈ L, frM θ q.base) → ∀ l ∈ locs ++ L, θ.1.heap.size ≤ l.base := by
    intro L hL l hl'
    rcases List.mem_append.mp hl' with q | q
    · exact hl l q
    · exact hL l q
  rcases hr T hT X with ⟨v, st, t, T', L, e0, X', hL, e1, e2, hq, st'⟩ | ⟨q, st, t, T', L, E, ce, e0, X', hL, e1, e2, hx, hce, hv, hcl, st'⟩
  · obtain ⟨t2, a1, b1⟩ := kn v st t (locs ++ L) hq (hll L hL) T' e1 X'
    exact ⟨t2, st' t2 a1, b1⟩
  · obtain ⟨t2, a1, b1⟩ := kx q E ce st t (locs ++ L) hx hce hv hcl (hll L hL) T' e1 X'
    exact ⟨t2, st'.trans a1, b1⟩
theorem f0run {g : JFrame} {pc : Nat} {ls : Array Slot} {st : List Value} (h : g = F0 m pc ls st) : 2 * g.monitorRoom = 0 := by
  rw [h]
  rfl
theorem catsum_le (st : List PV) {n : Nat} (h : Nat.ble (2 * st.length) n = true) : ((st.map (eV θ)).map fun v => v.category).sum ≤ n := by
  have h2 := Nat.le_of_ble_eq_true h
  refine Nat.le_trans ?_ h2
  clear h2 h
  induction st with
  | nil => exact Nat.le_refl _
  | cons v st ih =>
    simp only [List.map_cons, List.sum_cons, List.length_cons]
    have : (eV θ v).category ≤ 2 := by
      generalize eV θ v = w
      cases w <;> simp [Value.category]
    omega
theorem prev_eq {α : Type} : ∀ (l acc : List α), prev l acc = l.reverse ++ acc
  | [], acc => rfl
  | a :: l, acc => by rw [prev, prev_eq l]; simp
theorem ptake_drop {α : Type} : ∀ (k : Nat) (l : List α), ptake k l ++ pdrop k l = l
  | 0, _ => rfl
  | _ + 1, [] => rfl
  | k + 1, a :: l => by rw [ptake, pdrop, List.cons_append, ptake_drop k l]
/-- the handlers of a method, as the plain machine has them -/
def hOK (own : String) (cc : ByteArray) (nL : Nat) (q : Nat × Nat × Nat × Nat) (x : Nat × Nat × Nat × Nat × Nat) : Prop :=
  q.1 = x.1 ∧ q.2.1 = x.2.1 ∧ q.2.2.2 ≠ 0 ∧ x.2.2.1 < 3 ∧ Cond.classLink own q.2.2.2 (exN x.2.2.1) ∈ TBLg ∧ x.2.2.2.2 < nL ∧
  ((∃ k : Fin 4, decode cc q.2.2.1 = .ok (.astore_n k, 1) ∧ k.val = x.2.2.2.2 ∧ x.2.2.2.1 = q.2.2.1 + 1) ∨ (decode cc q.2.2.1 = .ok (.astore x.2.2.2.2, 2) ∧ x.2.2.2.1 = q.2.2.1 + 2))
def hAll (own : String) (cc : ByteArray) (nL : Nat) : List (Nat × Nat × Nat × Nat) → PX → Prop
  | [], [] => True
  | q :: l, x :: m => hOK own cc nL q x ∧ hAll own cc nL l m
  | _, _ => False
theorem LR.caught {ls ls' : Array Slot} {i : Nat} {L : PL} {v : Value} (h : LR θ ls nL L) (hl : lnar L i = true)
    (h' : lv_has ls' nL ((i, v) :: (toLv θ L 0).filter (fun q => !(q.1 == i) && !(q.1 + 1 == i && q.2.category == 2)))) : LR θ ls' nL (lset L i none) := by
  refine LR.ofLv h' (by rw [length_lset]; exact h.2.2.1) (fun j w hj => ?_)
  by_cases e : j = i
  · subst e
    have : lget (lset L j none) j = none := lget_lset_eq (by have := lget_lt hj; rwa [length_lset] at this)
    rw [this] at hj
    cases hj
  · rw [lget_lset_ne e] at hj
    refine List.mem_cons_of_mem _ (List.mem_filter.mpr ⟨toLv_mem.mpr ⟨j, w, hj, by rw [Nat.zero_add]⟩, ?_⟩)
    have h1 : (j == i) = false := by simpa using e
    rw [h1]
    by_cases e2 : j + 1 = i
    · rw [lnar_ok (θ := θ) hl hj e2]
      simp
    · have h2 : (j + 1 == i) = false := by simpa using e2
      rw [h2]
      rfl
/-- a thrown exception finds its handler, or leaves -/
theorem w_throw (hx : p.tables.exec = Jvm.exec) (hb : c.code = cc) {own : String} (hown : s.vm.findClass own = some m.cls) (hts : ∀ w ∈ TBLg, w.before args s = true) (hnc : ∀ i j, i < 3 → j < 3 → i ≠ j → va_Nc (exN i) (exN j) s) (hca : ∀ i, i < 3 → (Cond.castable (exN i) (exN i)).before args s = true)
    {jmp : PK} (hj : ∀ t L st h c0 s0, jmp t L st h c0 s0 → MW θ nL p l e R s m args below meth c Z t L st h c0 s0) {X : Nat → PH → Prop} {k pc : Nat} (hk3 : k < 3) {h : PH} {H : Heap} {locs : List Loc} {c0 s0 : Nat} {ls : Array Slot} {rest : List Value} {L : PL} {q : Addr} {ce : Cell}
    (hR : RepS θ h H locs) (hL : LR θ ls nL L) (g1 : c0 ≤ R.cells) (g2 : s0 ≤ R.slots) (hce : H[q]? = some ce) (hv : ce.vm = .none) (hcl : s.vm.findClass (exN k) = some ce.cls)
    (hX : X k h → (∀ z ∈ c.exceptionTable.toList, covers z pc = false ∨ (z.catchType ≠ 0 ∧ ∃ nm : String, (Cond.classLink own z.catchType nm).before args s = true ∧ va_Nc (exN k) nm s)) → vx_W p l e R s m args below meth c H locs c0 s0 Z (F0 m pc ls rest) q) :
    ∀ (hd : PX) (suf : List (Nat × Nat × Nat × Nat)) (pre : List ExceptionTableEntry), c.exceptionTable.toList = pre ++ tableOf suf → hAll own cc nL suf hd → (∀ z ∈ pre, covers z pc = false ∨ (z.catchType ≠ 0 ∧ ∃ nm : String, (Cond.classLink own z.catchType nm).before args s = true ∧ va_Nc (exN k) nm s)) → stpG X jmp pc L c0 s0 k h hd → vx_W p l e R s m args below meth c H locs c0 s0 Z (F0 m pc ls rest) q
  | [], suf, pre, ht, hf, hp, HS => by
    obtain rfl : suf = [] := by cases suf with | nil => rfl | cons q l => exact hf.elim
    refine hX HS (fun z hz => ?_)
    rw [ht] at hz
    exact hp z (by simpa [tableOf] using hz)
  | (a, b, kk, t, i) :: hd, suf, pre, ht, hf, hp, HS => by
    cases suf with
    | nil => exact hf.elim
    | cons qq suf =>
      obtain ⟨ho, hf⟩ := hf
      obtain ⟨h1, h2, h3, h4, h5, h6, h7⟩ := ho
      simp only at h1 h2 h3 h4 h5 h6 h7
      have ht' : c.exceptionTable.toList = pre ++ (⟨qq.1, qq.2.1, qq.2.2.1, qq.2.2.2⟩ : ExceptionTableEntry) :: tableOf suf := ht
      have hcov : covers (⟨qq.1, qq.2.1, qq.2.2.1, qq.2.2.2⟩ : ExceptionTableEntry) pc = (Nat.ble a pc && Nat.blt pc b) := by
        rw [← h1, ← h2]
        rw [Bool.eq_iff_iff]
        simp [covers, Nat.blt, Nat.ble_eq]
        try omega
      have hrec := fun hp' => w_throw hx hb hown hts hnc hca hj hk3 hR hL g1 g2 hce hv hcl hX hd suf (pre ++ [(⟨qq.1, qq.2.1, qq.2.2.1, qq.2.2.2⟩ : ExceptionTableEntry)]) (by rw [ht']; simp) hf hp'
      simp only [stpG] at HS
      cases hcc : (Nat.ble a pc && Nat.blt pc b) with
      | false =>
        rw [hcc] at HS hcov
        refine hrec (fun z hz => ?_) HS
        rcases List.mem_append.mp hz with hz | hz
        · exact hp z hz
        · rw [List.mem_singleton.mp hz]
          exact Or.inl hcov
      | true =>
        rw [hcc] at HS hcov
        by_cases hkk : k = kk
        · subst hkk
          obtain ⟨hn, HJ⟩ := cond_t (HS.1 rfl)
          refine vx_catch hown pre _ (tableOf suf) ht' hp hcov h3 (hts _ h5) (hca k hk3) hce hv hcl ?_
          rcases h7 with ⟨k4, d1, d2, d3⟩ | ⟨d1, d3⟩
          · subst d3
            exact lv_astore_n hx hb d1 d2 hL.has h6 rfl (fun ls' h' => hj _ _ _ _ _ _ HJ H locs ls' hR (hL.caught hn h') g1 g2)
          · subst d3
            exact lv_astore hx hb d1 hL.has h6 rfl (fun ls' h' => hj _ _ _ _ _ _ HJ H locs ls' hR (hL.caught hn h') g1 g2)
        · refine hrec (fun z hz => ?_) (HS.2 hkk)
          rcases List.mem_append.mp hz with hz | hz
          · exact hp z hz
          · rw [List.mem_singleton.mp hz]
            exact Or.inr ⟨h3, _, hts _ h5, hnc k kk hk3 h4 hkk⟩
end SND4
