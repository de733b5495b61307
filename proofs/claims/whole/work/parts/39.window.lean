/-! decoding by windows: a long code's far bytes -/
section WIN
variable {δ : Nat} {A B : ByteArray}
def Shr (δ : Nat) (A B : ByteArray) {α : Type} (r r' : ClassFile.Decoder α) : Prop := ∀ p x q, (ReaderT.run r B).run p = .ok (x, q) → (ReaderT.run r' A).run (p + δ) = .ok (x, q + δ)
theorem shr_pure {α : Type} (x : α) : Shr δ A B (pure x) (pure x) := fun p y q h => by
  cases h
  rfl
theorem shr_bind {α β : Type} {r r' : ClassFile.Decoder α} {f f' : α → ClassFile.Decoder β} (h : Shr δ A B r r') (hf : ∀ x, Shr δ A B (f x) (f' x)) : Shr δ A B (r >>= f) (r' >>= f') := by
  intro p x q hx
  have e1 : (ReaderT.run (r >>= f) B).run p = ((ReaderT.run r B).run p >>= fun z => (ReaderT.run (f z.1) B).run z.2) := rfl
  have e2 : (ReaderT.run (r' >>= f') A).run (p + δ) = ((ReaderT.run r' A).run (p + δ) >>= fun z => (ReaderT.run (f' z.1) A).run z.2) := rfl
  rw [e1] at hx
  rw [e2]
  cases hr : (ReaderT.run r B).run p with
  | error e => rw [hr] at hx; cases hx
  | ok z =>
    rw [hr] at hx
    rw [h p z.1 z.2 hr]
    exact hf z.1 z.2 x q hx
theorem shr_map {α β : Type} {r r' : ClassFile.Decoder α} (g : α → β) (h : Shr δ A B r r') : Shr δ A B (g <$> r) (g <$> r') := shr_bind h (fun x => shr_pure (g x))
def Wnd (δ : Nat) (A B : ByteArray) : Prop := ∀ p (h : p < B.size), ∃ h' : p + δ < A.size, A[p + δ] = B[p]
theorem u1_run (A : ByteArray) (p : Nat) : (ReaderT.run (ClassFile.Reader.u1 : ClassFile.Decoder Nat) A).run p = if h : p < A.size then .ok (A[p].toNat, p + 1) else .error (ClassFile.HasTruncated.truncated p) := by
  have e0 : (ReaderT.run (ClassFile.Reader.u1 : ClassFile.Decoder Nat) A).run p = (if h : p < A.size then ((do set (p + 1); Pure.pure A[p].toNat) : ClassFile.Decoder Nat) else throw (ClassFile.HasTruncated.truncated p)) A p := rfl
  rw [e0]
  by_cases hp : p < A.size
  · rw [dif_pos hp, dif_pos hp]; rfl
  · rw [dif_neg hp, dif_neg hp]; rfl
theorem shr_u1 (hw : Wnd δ A B) : Shr δ A B ClassFile.Reader.u1 ClassFile.Reader.u1 := by
  intro p x q h
  rw [u1_run] at h ⊢
  by_cases hp : p < B.size
  · obtain ⟨h', e⟩ := hw p hp
    rw [dif_pos hp] at h
    cases h
    rw [dif_pos h', e, show p + δ + 1 = p + 1 + δ by omega]
  · rw [dif_neg hp] at h
    cases h
theorem shr_u2 (hw : Wnd δ A B) : Shr δ A B ClassFile.Reader.u2 ClassFile.Reader.u2 := shr_bind (shr_u1 hw) (fun _ => shr_bind (shr_u1 hw) (fun _ => shr_pure _))
theorem shr_s1 (hw : Wnd δ A B) : Shr δ A B ClassFile.Reader.s1 ClassFile.Reader.s1 := shr_map _ (shr_u1 hw)
theorem shr_s2 (hw : Wnd δ A B) : Shr δ A B ClassFile.Reader.s2 ClassFile.Reader.s2 := shr_map _ (shr_u2 hw)
/-- the opcodes of the law, but for its switch and its two arrays -/
def wOp : List Nat := [2, 3, 4, 5, 6, 7, 8, 9, 10, 16, 17, 18, 19, 21, 23, 24, 25, 26, 27, 28, 29, 34, 35, 36, 37, 38, 39, 40, 41, 42, 43, 44, 45, 46, 47, 49, 54, 56, 57, 58, 59, 60, 61, 62, 71, 72, 73, 74, 75, 76, 77, 78, 89, 96, 100, 126, 132, 133, 141, 148, 149, 150, 151, 152, 153, 154, 155, 156, 157, 158, 159, 160, 161, 162, 163, 164, 167, 172, 182, 183, 184, 187, 190]
theorem instr_F (hw : Wnd δ A B) : ∃ F : Nat → Nat → ClassFile.Decoder Instr, (∀ pc, ClassFile.Decoder.instr pc = ClassFile.Reader.u1 >>= F pc) ∧ ∀ op ∈ wOp, ∀ pc pc', Shr δ A B (F pc op) (F pc' op) := by
  refine ⟨_, fun pc => rfl, ?_⟩
  intro op hop pc pc'
  simp only [wOp, List.mem_cons, List.not_mem_nil, or_false] at hop
  rcases hop with rfl | rfl | rfl | rfl | rfl | rfl | rfl | rfl | rfl | rfl | rfl | rfl | rfl | rfl | rfl | rfl | rfl | rfl | rfl | rfl | rfl | rfl | rfl | rfl | rfl | rfl | rfl | rfl | rfl | rfl | rfl | rfl | rfl | rfl | rfl | rfl | rfl | rfl | rfl | rfl | rfl | rfl | rfl | rfl | rfl | rfl | rfl | rfl | rfl | rfl | rfl | rfl | rfl | rfl | rfl | rfl | rfl | rfl | rfl | rfl | rfl | rfl | rfl | rfl | rfl | rfl | rfl | rfl | rfl | rfl | rfl | rfl | rfl | rfl | rfl | rfl | rfl | rfl | rfl | rfl | rfl | rfl | rfl
  all_goals first
    | exact shr_pure _
    | exact shr_bind (shr_u1 hw) (fun _ => shr_pure _)
    | exact shr_bind (shr_u2 hw) (fun _ => shr_pure _)
    | exact shr_bind (shr_s1 hw) (fun _ => shr_pure _)
    | exact shr_bind (shr_s2 hw) (fun _ => shr_pure _)
    | exact shr_bind (shr_u1 hw) (fun _ => shr_bind (shr_s1 hw) (fun _ => shr_pure _))
theorem instr_win (hw : Wnd δ A B) {pc pc' p x q : Nat} {i : Instr} (hop : ∀ h : p < B.size, B[p].toNat ∈ wOp) (h : (ReaderT.run (ClassFile.Decoder.instr pc) B).run p = .ok (i, q)) : (ReaderT.run (ClassFile.Decoder.instr pc') A).run (p + δ) = .ok (i, q + δ) := by
  obtain ⟨F, hF, hs⟩ := instr_F hw
  rw [hF] at h ⊢
  have e1 : (ReaderT.run (ClassFile.Reader.u1 >>= F pc) B).run p = ((ReaderT.run (ClassFile.Reader.u1 : ClassFile.Decoder Nat) B).run p >>= fun z => (ReaderT.run (F pc z.1) B).run z.2) := rfl
  have e2 : (ReaderT.run (ClassFile.Reader.u1 >>= F pc') A).run (p + δ) = ((ReaderT.run (ClassFile.Reader.u1 : ClassFile.Decoder Nat) A).run (p + δ) >>= fun z => (ReaderT.run (F pc' z.1) A).run z.2) := rfl
  rw [e1] at h
  rw [e2]
  cases hr : (ReaderT.run (ClassFile.Reader.u1 : ClassFile.Decoder Nat) B).run p with
  | error e => rw [hr] at h; cases h
  | ok z =>
    rw [hr] at h
    rw [shr_u1 hw p z.1 z.2 hr]
    rw [u1_run] at hr
    by_cases hp : p < B.size
    · rw [dif_pos hp] at hr
      cases hr
      exact hs _ (hop hp) pc pc' _ _ _ h
    · rw [dif_neg hp] at hr
      cases hr
theorem decode_win (hw : Wnd δ A B) {p n : Nat} {i : Instr} (hop : ∀ h : p < B.size, B[p].toNat ∈ wOp) (h : decode B p = .ok (i, n)) : decode A (p + δ) = .ok (i, n) := by
  have e1 : decode B p = ((ReaderT.run (ClassFile.Decoder.instr p) B).run p >>= fun z => .ok (z.1, z.2 - p)) := rfl
  have e2 : decode A (p + δ) = ((ReaderT.run (ClassFile.Decoder.instr (p + δ)) A).run (p + δ) >>= fun z => .ok (z.1, z.2 - (p + δ))) := rfl
  rw [e1] at h
  rw [e2]
  cases hr : (ReaderT.run (ClassFile.Decoder.instr p) B).run p with
  | error e => rw [hr] at h; cases h
  | ok z =>
    rw [hr] at h
    rw [instr_win (x := 0) (pc' := p + δ) hw hop hr]
    cases h
    show Except.ok (z.1, z.2 + δ - (p + δ)) = _
    rw [show z.2 + δ - (p + δ) = z.2 - p by omega]
def win (A : ByteArray) (δ n : Nat) : ByteArray := ByteArray.mk (Array.mk ((A.data.toList.drop δ).take n))
theorem win_ok (A : ByteArray) (δ n : Nat) : Wnd δ A (win A δ n) := by
  intro p h
  have h1 : p < ((A.data.toList.drop δ).take n).length := h
  have h2 : p + δ < A.data.toList.length := by
    rw [List.length_take, List.length_drop] at h1
    omega
  refine ⟨h2, ?_⟩
  show A.data.toList[p + δ] = ((A.data.toList.drop δ).take n)[p]
  rw [List.getElem_take, List.getElem_drop]
  congr 1
  omega
/-- okB but for the decoding -/
def okR (y : MethodName) (ret : Option FieldType) (q : PI) : Bool :=
  (Nat.beq q.2.2.1 (ilen q.2.1) || isTsw q.2.1) && iimm q.2.1 && ijmp q.1 q.2.1 && (match q.2.1 with
  | .baload | .bastore => Nat.beq q.2.2.2.1 21 || Nat.beq q.2.2.2.1 22
  | .fconst n => decide (n = 0)
  | .dconst n => decide (n = 0)
  | .ireturn => retB ret q.2.2.2.1
  | .areturn => objB ret
  | .freturn => decide (ret = some .float)
  | .dreturn => decide (ret = some .double)
  | .return_ => decide (ret = none)
  | .putfield _ => decide ((clT (q.2.2.2.1 - 1) q.2.2.2.2.1).2.2.2 = false) || decide (y.name = "<init>")
  | _ => true)
theorem okB_of {y : MethodName} {cc : ByteArray} {ret : Option FieldType} {q : PI} (h1 : decode cc q.1 = .ok (q.2.1, q.2.2.1)) (h2 : okR y ret q = true) : okB y cc ret q = true := by
  unfold okR at h2
  unfold okB
  rw [decide_eq_true h1, Bool.true_and]
  exact h2
def okW (δ n : Nat) (y : MethodName) (cc : ByteArray) (ret : Option FieldType) (q : PI) : Bool :=
  (Nat.ble δ q.1 && (match (win cc δ n).data.toList[q.1 - δ]? with
    | some b => wOp.contains b.toNat
    | none => false)) && decide (decode (win cc δ n) (q.1 - δ) = .ok (q.2.1, q.2.2.1)) && okR y ret q
theorem okW_spec {δ n : Nat} {y : MethodName} {cc : ByteArray} {ret : Option FieldType} {q : PI} (h : okW δ n y cc ret q = true) : okB y cc ret q = true := by
  simp only [okW, Bool.and_eq_true, decide_eq_true_eq] at h
  obtain ⟨⟨⟨h1, h2⟩, h3⟩, h4⟩ := h
  refine okB_of ?_ h4
  have hle := Nat.le_of_ble_eq_true h1
  have := decode_win (win_ok cc δ n) (p := q.1 - δ) (fun hp => ?_) h3
  · rwa [show q.1 - δ + δ = q.1 by omega] at this
  · have hp' : q.1 - δ < (win cc δ n).data.toList.length := hp
    rw [List.getElem?_eq_getElem hp'] at h2
    exact List.contains_iff_mem.mp h2
theorem okW_all {δ n : Nat} {y : MethodName} {cc : ByteArray} {ret : Option FieldType} {l : List PI} (h : l.all (okW δ n y cc ret) = true) : l.all (okB y cc ret) = true :=
  List.all_eq_true.mpr (fun q hq => okW_spec (List.all_eq_true.mp h q hq))
end WIN
