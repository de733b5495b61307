/-! every instruction; a stretch of code; a method; all methods -/
theorem cl_ref : ∀ ci, ci < 8 → ∀ k, k < clN ci → tyc (cly ci k) = 1 → (cly ci k).isReference = true := by decide +kernel
theorem tyc_0 {t : FieldType} (h : tyc t = 0) : t = .int := by cases t <;> first | rfl | cases h
theorem tyc_2 {t : FieldType} (h : tyc t = 2) : t = .boolean := by cases t <;> first | rfl | cases h
def strL : MethodName := yJ0_length_8abf5
def strC : MethodName := yJ0_charAt_5068e
def libOK (own : String) (i : Instr) (f : Nat) : Prop := match i with
  | .invokespecial idx => f = 0 ∧ Cond.methodLink own idx Lib.objectInit ∈ TBLg ∧ Cond.instanceMethod Lib.objectInit ∈ TBLg ∧ Cond.code Lib.objectInit ⟨#[0xb1]⟩ 1 none ∈ TBLg
  | .invokestatic idx => (f = 1 ∧ Cond.initialized "java/lang/Math" ∈ TBLg ∧ Cond.methodLink own idx Lib.Math.min.name ∈ TBLg ∧ Cond.static Lib.Math.min.name ∈ TBLg ∧ Cond.code Lib.Math.min.name Lib.Math.min.code 2 (some .int) ∈ TBLg) ∨ (f = 2 ∧ Cond.initialized "java/lang/Math" ∈ TBLg ∧ Cond.methodLink own idx Lib.Math.max.name ∈ TBLg ∧ Cond.static Lib.Math.max.name ∈ TBLg ∧ Cond.code Lib.Math.max.name Lib.Math.max.code 2 (some .int) ∈ TBLg) ∨
      (f = 3 ∧ Cond.methodLink own idx arraycopyName ∈ TBLg ∧ Cond.native arraycopyName ∈ TBLg ∧ Cond.static arraycopyName ∈ TBLg ∧ Cond.initialized "java/lang/System" ∈ TBLg)
  | .invokevirtual idx => (f = 4 ∧ Cond.methodLink own idx strL ∈ TBLg) ∨ (f = 5 ∧ Cond.methodLink own idx strC ∈ TBLg)
  | _ => False
def specOK (M : Nat → MI) (B : Nat → Nat) (N : Nat) (y : MethodName) (cc : ByteArray) (ret : Option FieldType) (pc : Nat) (i : Instr) (r : Nat × Nat × Nat × Nat) : Prop := match i with
  | .ldc idx | .ldc_w idx => ∃ j tx, stT[j]? = some (y.cls, idx, tx) ∧ j < 54 ∧ r.1 = 10 + j
  | .getfield idx => 1 ≤ r.1 ∧ fldW y.cls idx (r.1 - 1) r.2.1 ∧ tyc (cly (r.1 - 1) r.2.1) = r.2.2.1
  | .putfield idx => 1 ≤ r.1 ∧ fldW y.cls idx (r.1 - 1) r.2.1 ∧ tyc (cly (r.1 - 1) r.2.1) = r.2.2.1 ∧ ((clT (r.1 - 1) r.2.1).2.2.2 = false ∨ (y.cls = (clT (r.1 - 1) r.2.1).1 ∧ y.name = "<init>"))
  | .getstatic idx => ∃ j n, saT[j]? = some n ∧ j < 50 ∧ r.1 = 2 + j ∧ (Cond.fieldLink y.cls idx "FadingSignals" n "[I" ∈ TBLg ∨ ∃ host, Cond.fieldLinkNest y.cls idx "FadingSignals" n "[I" host ∈ TBLn)
  | .new idx => (90 ≤ r.1 ∧ thrOK y.cls cc pc idx (r.1 - 90)) ∨ (1 ≤ r.1 ∧ r.1 ≤ 8 ∧ r.2.1 = clN (r.1 - 1) ∧ Cond.classLink y.cls idx (clR (r.1 - 1)) ∈ TBLg ∧ Cond.instantiable (clR (r.1 - 1)) (clN (r.1 - 1)) ∈ TBLg ∧ Cond.initialized (clR (r.1 - 1)) ∈ TBLg)
  | .newarray t => Cond.arrayClass (newarray.typeOf t) ∈ TBLg ∧ (r.1 = 20 ∧ t = .int ∨ r.1 = 21 ∧ t = .byte ∨ r.1 = 22 ∧ t = .boolean ∨ r.1 = 23 ∧ t = .long ∨ r.1 = 24 ∧ t = .double)
  | .anewarray idx => Cond.classLink y.cls idx RX0 ∈ TBLg
  | .invokevirtual idx => (1000 ≤ r.1 ∧ libOK y.cls i (r.1 - 1000)) ∨ (r.1 < N ∧ N ≤ 1000 ∧ calOK (M r.1) (B r.1) y.cls i r)
  | .invokestatic idx => (1000 ≤ r.1 ∧ libOK y.cls i (r.1 - 1000)) ∨ (r.1 < N ∧ N ≤ 1000 ∧ calOK (M r.1) (B r.1) y.cls i r)
  | .invokespecial idx => (1000 ≤ r.1 ∧ libOK y.cls i (r.1 - 1000)) ∨ (r.1 < N ∧ N ≤ 1000 ∧ calOK (M r.1) (B r.1) y.cls i r)
  | .fconst n => n = 0
  | .dconst n => n = 0
  | .ireturn => retI ret r.1
  | .areturn => ∃ C, ret = some (.object C)
  | .freturn => ret = some .float
  | .dreturn => ret = some .double
  | .return_ => ret = none
  | _ => True
def okI (M : Nat → MI) (B : Nat → Nat) (N : Nat) (y : MethodName) (cc : ByteArray) (ret : Option FieldType) (q : PI) : Prop :=
  decode cc q.1 = .ok (q.2.1, q.2.2.1) ∧ (q.2.2.1 = ilen q.2.1 ∨ ∃ d lo up os, q.2.1 = .tableswitch d lo up os) ∧ (q.2.1 = .baload ∨ q.2.1 = .bastore → q.2.2.2.1 = 21 ∨ q.2.2.2.1 = 22) ∧ iimm q.2.1 = true ∧ ijmp q.1 q.2.1 = true ∧ specOK M B N y cc ret q.1 q.2.1 q.2.2.2
/-- String.length and String.charAt on a constant -/
def STRR (θ : TH) : Prop := ∀ (p : Program) (l : Launch) (e : Env) (R : Room) (s : State) (m : MethodId) (args : Array Value) (below : List Frame) (meth : Method) (c : Code) (Z : State → Prop) (cc : ByteArray) (nL : Nat) (own : String) (pc idx : Nat) (h : PH) (H : Heap) (locs : List Loc) (c0 s0 : Nat) (ls : Array Slot) (L : PL) (st : List PV) (r : Nat),
  p.tables.exec = Jvm.exec → c.code = cc → c.maxLocals = nL → s.vm.findClass own = some m.cls → (∀ w ∈ TBLg, w.before args s = true) → EN θ s → (∀ q, q < θ.1.heap.size → s.heap[q]? = θ.1.heap[q]?) → decode cc pc = .ok (.invokevirtual idx, 3) → 6 ≤ R.frames → 228 ≤ R.locals → RepS θ h H locs → LR θ ls nL L → Nat.ble (2 * st.length) 8 = true → hk h r = 27 → c0 ≤ R.cells → s0 ≤ R.slots →
  (Cond.methodLink own idx strL ∈ TBLg → (∀ H' locs', RepS θ h H' locs' → W p l e R s m args below meth c H' locs' c0 s0 Z (F0 m (pc + 3) ls ((pI (hl h r) :: st).map (eV θ)))) → W p l e R s m args below meth c H locs c0 s0 Z (F0 m pc ls ((pA r :: st).map (eV θ)))) ∧
  (Cond.methodLink own idx strC ∈ TBLg → ∀ i : Int, 0 ≤ i ∧ i < hl h r → (∀ H' locs', RepS θ h H' locs' → W p l e R s m args below meth c H' locs' c0 s0 Z (F0 m (pc + 3) ls ((pI (hi h r i.toNat) :: st).map (eV θ)))) → W p l e R s m args below meth c H locs c0 s0 Z (F0 m pc ls ((pI i :: pA r :: st).map (eV θ))))
theorem ble_f {n : Nat} (h : n < 1000) : Nat.ble 1000 n = false := by
  cases hbb : Nat.ble 1000 n with
  | false => rfl
  | true => exact absurd (Nat.ble_eq.mp hbb) (by omega)
theorem ble_len {st : List PV} {k n : Nat} (h : Nat.ble st.length k = true) {st' : List PV} {j : Nat} (e : st.length = st'.length + j) (hk : 2 * (k - j) ≤ n) : Nat.ble (2 * st'.length) n = true := by
  have := Nat.le_of_ble_eq_true h
  exact Nat.ble_eq.mpr (by omega)
section FULL
variable {p : Program} {l : Launch} {e : Env} {R : Room} {s : State} {m : MethodId} {args : Array Value} {below : List Frame} {meth : Method} {c : Code} {Z : State → Prop} {θ : TH} {cc : ByteArray} {nL : Nat}
/-- what holds in a method, whatever it does -/
def FR (θ : TH) (p : Program) (l : Launch) (R : Room) (s : State) (m : MethodId) (args : Array Value) (meth : Method) (c : Code) (y : MethodName) (cc : ByteArray) (nL : Nat) (ret : Option FieldType) (fr : Nat) : Prop :=
  p.tables.exec = Jvm.exec ∧ c.code = cc ∧ c.maxLocals = nL ∧ s.vm.findClass y.cls = some m.cls ∧ (∀ w ∈ TBLg, w.before args s = true) ∧ EN θ s ∧ (∀ q, q < θ.1.heap.size → s.heap[q]? = θ.1.heap[q]?) ∧ (∀ i j, i < 3 → j < 3 → i ≠ j → va_Nc (exN i) (exN j) s) ∧ (∀ i, i < 3 → (Cond.castable (exN i) (exN i)).before args s = true) ∧
  meth.sig.returnType = ret ∧ meth.locks = false ∧ (y.name = "<init>" → meth.name = "<init>") ∧ l.stackTraces = false ∧ fr ≤ R.frames ∧ 38 * fr ≤ R.locals ∧ 1 ≤ fr
/-- the world's facts -/
def WF (θ : TH) : Prop := TW θ ∧ LAYS ∧ THR θ ∧ STRR θ
set_option maxHeartbeats 4000000 in
set_option maxRecDepth 100000 in
theorem stp_spec {M : Nat → MI} {B : Nat → Nat} {N : Nat} {y : MethodName} {ret : Option FieldType} {hh : List (Nat × Nat × Nat × Nat)} {d : Nat} (hW : WF θ) (hF : FR θ p l R s m args meth c y cc nL ret (d + 1)) {hd : PX} (hhd : hAll y.cls cc nL hh hd) {call : PC} (hC : ∀ mi a h Q X, mi < N → call mi a h Q X → CT θ l d (B mi) (M mi) a h Q X)
    {Q : Int → PH → Prop} {X : Nat → PH → Prop} (htab : c.exceptionTable.toList = tableOf hh ∨ (hd = [] ∧ ∀ k h, ¬ X k h)) {jmp : PK} {nxt : PL → List PV → PH → Nat → Nat → Prop} {pc len : Nat} {i : Instr} {r : Nat × Nat × Nat × Nat} (hok : okI M B N y cc ret (pc, i, len, r)) (hs : ispec i = true)
    (hj : ∀ t L st h c0 s0, jmp t L st h c0 s0 → MW θ nL p l e R s m args below meth c Z t L st h c0 s0)
    (hnx : ∀ L st h c0 s0, nxt L st h c0 s0 → MW θ nL p l e R s m args below meth c Z (pc + len) L st h c0 s0)
    (hX : ∀ k h H locs c0 s0 ls rest q ce, k < 3 → X k h → RepS θ h H locs → c0 ≤ R.cells → s0 ≤ R.slots → H[q]? = some ce → ce.vm = .none → s.vm.findClass (exN k) = some ce.cls → (∀ z ∈ c.exceptionTable.toList, covers z pc = false ∨ (z.catchType ≠ 0 ∧ ∃ nm : String, (Cond.classLink y.cls z.catchType nm).before args s = true ∧ va_Nc (exN k) nm s)) → vx_W p l e R s m args below meth c H locs c0 s0 Z (F0 m pc ls rest) q)
    (hT : ∀ k (L : PL) (st : List PV) (h : PH) c0 s0, (∃ idx, i = .new idx) → 90 ≤ r.1 → thrOK y.cls cc pc (match i with | .new idx => idx | _ => 0) k → 6 ≤ d + 1 → Nat.ble (2 * st.length) 8 = true → c0 + 1 ≤ R.cells → s0 + 6 ≤ R.slots → (∀ n', hn h ≤ n' → X k (hup h n')) → MW θ nL p l e R s m args below meth c Z pc L st h c0 s0)
    (hI : i = .ireturn → ∀ (x : Int) h (L : PL) c0 s0, retQ r.1 Q x h → MW θ nL p l e R s m args below meth c Z pc L [pI x] h c0 s0)
    (hV : ∀ h (L : PL) (st : List PV) c0 s0, (i = .areturn ∧ (∃ r : Nat, st = [pA r] ∧ Q r h) ∨ i = .freturn ∧ (∃ x, st = [pW 3 x] ∧ Q x h) ∨ i = .dreturn ∧ (∃ x, st = [pW 4 x] ∧ Q x h) ∨ i = .return_ ∧ st = [] ∧ Q 0 h) → MW θ nL p l e R s m args below meth c Z pc L st h c0 s0)
    {L : PL} {st : List PV} {h : PH} {c0 s0 : Nat} (H : stp hd call R.cells R.slots (d + 1) Q X jmp nxt (pc, i, len, r) L st h c0 s0) : MW θ nL p l e R s m args below meth c Z pc L st h c0 s0 := by
  obtain ⟨hx, hb, hml, hown, hts, hE, hs0', hnc, hca, hret, hlocks, hini, hfl, hfr, hlo, hfr1⟩ := hF
  obtain ⟨hTW, hLY, hTH, hST⟩ := hW
  obtain ⟨hd', hlen, -, -, -, hsp⟩ := hok
  dsimp only at hd' hlen hsp
  cases i
  all_goals try (simp [ispec] at hs; done)
  all_goals (obtain rfl := hlen.elim id (fun q => by obtain ⟨_, _, _, _, q⟩ := q; cases q))
  all_goals simp only [stp] at H
  all_goals try simp only [specOK] at hsp
  case ldc idx =>
    obtain ⟨j, tx, h1, h2, h3⟩ := hsp
    intro Hh locs ls hR hL g1 g2
    have := hnx _ _ _ _ _ H Hh locs ls hR hL g1 g2
    rw [h3] at this
    exact m_ldc hx hb hown hE hd' (Or.inl ⟨rfl, rfl⟩) h1 h2 this
  case ldc_w idx =>
    obtain ⟨j, tx, h1, h2, h3⟩ := hsp
    intro Hh locs ls hR hL g1 g2
    have := hnx _ _ _ _ _ H Hh locs ls hR hL g1 g2
    rw [h3] at this
    exact m_ldc hx hb hown hE hd' (Or.inr ⟨rfl, rfl⟩) h1 h2 this
  case getstatic idx =>
    obtain ⟨j, n, h1, h2, h3, h4⟩ := hsp
    intro Hh locs ls hR hL g1 g2
    have := hnx _ _ _ _ _ H Hh locs ls hR hL g1 g2
    rw [h3] at this
    exact m_gets hx hb hown hts hTW hE hd' h1 h2 h4 hR this
  case fconst n =>
    obtain ⟨hz, H⟩ := cond_t H
    have hsp : n = 0 := hsp
    subst hsp
    exact fun Hh locs ls hR hL g1 g2 => lv_fconst0 hx hb hd' (hnx _ _ _ _ _ H Hh locs ls hR hL g1 g2)
  case dconst n =>
    obtain ⟨hz, H⟩ := cond_t H
    have hsp : n = 0 := hsp
    subst hsp
    exact fun Hh locs ls hR hL g1 g2 => lv_dconst0 hx hb hd' (hnx _ _ _ _ _ H Hh locs ls hR hL g1 g2)
  case getfield idx =>
    split at H
    · rename_i a st'
      obtain ⟨hka, H⟩ := H
      obtain ⟨h1, h2, h3⟩ := hsp
      intro Hh locs ls hR hL g1 g2
      refine m_getf hx hb hown hts hTW hE hLY hd' h2 (a := a) (by omega) hR ?_
      have h3' := h3.symm
      split at H
      · rename_i e
        rw [eF_1 (h3.trans e)]
        exact hnx _ _ _ _ _ H Hh locs ls hR hL g1 g2
      · rename_i e
        rcases cl_tyc _ h2.1 _ h2.2.1 with q | q | q
        · rw [eF_0 q]
          exact hnx _ _ _ _ _ H Hh locs ls hR hL g1 g2
        · exact absurd (h3.symm.trans q) e
        · rw [eF_2 q]
          exact hnx _ _ _ _ _ H Hh locs ls hR hL g1 g2
    · exact H.elim
  case putfield idx =>
    obtain ⟨h1, h2, h3, h4⟩ := hsp
    have hfin : (clT (r.1 - 1) r.2.1).2.2.2 = false ∨ (y.cls = (clT (r.1 - 1) r.2.1).1 ∧ meth.name = "<init>") := h4.imp id (fun q => ⟨q.1, hini q.2⟩)
    split at H
    · rename_i x a st'
      obtain ⟨hka, H⟩ := H
      intro Hh locs ls hR hL g1 g2
      split at H
      · rename_i e
        have ht := tyc_0 (h3.trans e)
        exact m_putf hx hb hown hts hTW hE hLY hd' h2 hfin (h := h) (h' := hsi h a r.2.1 x) (a := a) (by omega) (v := .int (oI x)) (by rw [ht]; exact ⟨rfl, rfl⟩) rfl (fun _ => rfl) (fun _ => rfl) (fun q hq => ⟨hi_hsi_ne hq, rfl⟩) (by rw [eF_0 (h3.trans e), hi_hsi_eq, if_pos rfl]) (fun j hj' => ⟨by rw [hi_hsi_eq, if_neg hj'], rfl⟩) hR (fun H' locs' hR' => hnx _ _ _ _ _ (H _ rfl) H' locs' ls hR' hL g1 g2)
      · rename_i e
        have ht := tyc_2 (h3.trans e)
        exact m_putf hx hb hown hts hTW hE hLY hd' h2 hfin (h := h) (h' := hsi h a r.2.1 x) (a := a) (by omega) (v := .int (oI x)) (by rw [ht]; rcases H.1 with rfl | rfl <;> exact ⟨rfl, rfl⟩) rfl (fun _ => rfl) (fun _ => rfl) (fun q hq => ⟨hi_hsi_ne hq, rfl⟩) (by rw [eF_2 (h3.trans e), hi_hsi_eq, if_pos rfl]) (fun j hj' => ⟨by rw [hi_hsi_eq, if_neg hj'], rfl⟩) hR (fun H' locs' hR' => hnx _ _ _ _ _ (H.2 _ rfl) H' locs' ls hR' hL g1 g2)
      · exact H.elim
    · rename_i x a st'
      obtain ⟨hka, H⟩ := H
      intro Hh locs ls hR hL g1 g2
      split at H
      · rename_i e
        have hrf := cl_ref _ h2.1 _ h2.2.1 (h3.trans e)
        have hv : narrow (cly (r.1 - 1) r.2.1) (eV θ (pA x)) = eV θ (pA x) ∧ fits (cly (r.1 - 1) r.2.1) (eV θ (pA x)) = true := by
          show narrow (cly (r.1 - 1) r.2.1) (eR θ x) = eR θ x ∧ fits (cly (r.1 - 1) r.2.1) (eR θ x) = true
          unfold eR
          generalize cly (r.1 - 1) r.2.1 = t at hrf ⊢
          cases t <;> first | (cases hrf; done) | (split <;> exact ⟨rfl, rfl⟩)
        exact m_putf hx hb hown hts hTW hE hLY hd' h2 hfin (h := h) (h' := hsr h a r.2.1 x) (a := a) (by omega) (v := eV θ (pA x)) hv rfl (fun _ => rfl) (fun _ => rfl) (fun q hq => ⟨rfl, hr_hsr_ne hq⟩) (by rw [eF_1 (h3.trans e), hr_hsr_eq, if_pos rfl]; rfl) (fun j hj' => ⟨rfl, by rw [hr_hsr_eq, if_neg hj']⟩) hR (fun H' locs' hR' => hnx _ _ _ _ _ (H _ rfl) H' locs' ls hR' hL g1 g2)
      · exact H.elim
    · exact H.elim
  case new idx =>
    rcases hsp with ⟨h90, hth⟩ | ⟨h1, h2, h3, w1, w2, w3⟩
    · rw [show Nat.ble 90 r.1 = true from Nat.ble_eq.mpr h90] at H
      obtain ⟨hst, H1, H2, H3⟩ := cond_t H
      exact hT _ _ _ _ _ _ ⟨idx, rfl⟩ h90 hth H1 hst H2.1 H2.2 H3
    · rw [show Nat.ble 90 r.1 = false from by cases hbb : Nat.ble 90 r.1 with | false => rfl | true => exact absurd (Nat.ble_eq.mp hbb) (by omega)] at H
      obtain ⟨H1, H2⟩ := H
      intro Hh locs ls hR hL g1 g2
      rw [h3] at H1 H2
      refine m_new hx hb hown hts hTW hE hLY hd' (ci := r.1 - 1) (by omega) w1 w2 w3 hR H1.1 H1.2 (fun H' hR' => ?_)
      have e1 : r.1 - 1 + 1 = r.1 := by omega
      rw [e1] at hR'
      exact hnx _ _ _ _ _ (H2 _ rfl) H' locs ls hR' hL H1.1 H1.2
  case newarray t =>
    split at H
    · rename_i x st'
      obtain ⟨H1, H2, H3⟩ := H
      exact fun Hh locs ls hR hL g1 g2 => m_newa hx hb hts hE.1 hd' hsp.1 hsp.2 hR H1 H2.1 H2.2 (fun H' hR' => hnx _ _ _ _ _ (H3 _ rfl) H' locs ls hR' hL H2.1 H2.2)
    · exact H.elim
  case anewarray idx =>
    split at H
    · rename_i x st'
      obtain ⟨H1, H2, H3⟩ := H
      exact fun Hh locs ls hR hL g1 g2 => m_anew hx hb hown hts hE hd' hsp hR H1 H2.1 H2.2 (fun H' hR' => hnx _ _ _ _ _ (H3 _ rfl) H' locs ls hR' hL H2.1 H2.2)
    · exact H.elim
  case aastore =>
    split at H
    · rename_i x j a st'
      obtain ⟨H1, H2, H3, H4⟩ := H
      exact fun Hh locs ls hR hL g1 g2 => m_aast hx hb hTW hE hd' hR H1 H2 H3 (fun H' locs' hR' => hnx _ _ _ _ _ (H4 _ rfl) H' locs' ls hR' hL g1 g2)
    · exact H.elim
  case ireturn =>
    split at H
    · exact hI rfl _ _ _ _ _ H
    · exact H.elim
  case areturn =>
    split at H
    · exact hV _ _ _ _ _ (Or.inl ⟨rfl, _, rfl, H⟩)
    · exact H.elim
  case freturn =>
    split at H
    · exact hV _ _ _ _ _ (Or.inr (Or.inl ⟨rfl, _, rfl, H⟩))
    · exact H.elim
  case dreturn =>
    split at H
    · exact hV _ _ _ _ _ (Or.inr (Or.inr (Or.inl ⟨rfl, _, rfl, H⟩)))
    · exact H.elim
  case return_ =>
    split at H
    · exact hV _ _ _ _ _ (Or.inr (Or.inr (Or.inr ⟨rfl, rfl, H⟩)))
    · exact H.elim
  case invokevirtual idx =>
    rcases hsp with ⟨h1, h2⟩ | ⟨h1, h2, h3⟩
    · rw [Nat.ble_eq.mpr h1] at H
      obtain ⟨hst, H⟩ := cond_t H
      rcases h2 with ⟨e, w⟩ | ⟨e, w⟩ <;> rw [e] at H hst
      · rcases st with _ | ⟨x | a | z, st⟩ <;> first | exact H.elim | skip
        obtain ⟨H1, H2, H3⟩ := H
        intro Hh locs ls hR hL g1 g2
        exact (hST p l _ R s m args below meth c Z cc nL y.cls pc idx h Hh locs c0 s0 ls L st a hx hb hml hown hts hE hs0' hd' (by omega) (by omega) hR hL (ble_len hst (j := 1) rfl (by decide)) H2 g1 g2).1 w (fun H' locs' hR' => hnx _ _ _ _ _ H3 H' locs' ls hR' hL g1 g2)
      · rcases st with _ | ⟨i | a | z, _ | ⟨x | a | z, st⟩⟩ <;> first | exact H.elim | skip
        obtain ⟨H1, H2, H3, H4⟩ := H
        intro Hh locs ls hR hL g1 g2
        exact (hST p l _ R s m args below meth c Z cc nL y.cls pc idx h Hh locs c0 s0 ls L st a hx hb hml hown hts hE hs0' hd' (by omega) (by omega) hR hL (ble_len hst (j := 2) rfl (by decide)) H2 g1 g2).2 w i H3 (fun H' locs' hR' => hnx _ _ _ _ _ H4 H' locs' ls hR' hL g1 g2)
    · rw [ble_f (by omega)] at H
      exact m_call hx hb hml hown hts hTW hE hnc hca hd' h3 (fun a h Q X q => hC _ a h Q X h1 q) hfr hlo htab hhd hj hnx hX H
  case invokestatic idx =>
    rcases hsp with ⟨h1, h2⟩ | ⟨h1, h2, h3⟩
    · rw [Nat.ble_eq.mpr h1] at H
      obtain ⟨hst, H⟩ := cond_t H
      rcases h2 with ⟨e, w0, w1, w2, w3⟩ | ⟨e, w0, w1, w2, w3⟩ | ⟨e, w1, w2, w3, w4⟩ <;> rw [e] at H hst
      · rcases st with _ | ⟨y' | a | z, _ | ⟨x | a | z, st⟩⟩ <;> first | exact H.elim | skip
        obtain ⟨H1, H2, H3⟩ := H
        intro Hh locs ls hR hL g1 g2
        exact m_minmax (h := h) hx hb hml hown hts hd' w0 (by omega) (by omega) (f := 1) (Or.inl ⟨rfl, w1, w2, w3⟩) hL (ble_len hst (j := 2) rfl (by decide)) g1 g2 H1 H2 (hnx _ _ _ _ _ H3 Hh locs ls hR hL g1 g2)
      · rcases st with _ | ⟨y' | a | z, _ | ⟨x | a | z, st⟩⟩ <;> first | exact H.elim | skip
        obtain ⟨H1, H2, H3⟩ := H
        intro Hh locs ls hR hL g1 g2
        exact m_minmax (h := h) hx hb hml hown hts hd' w0 (by omega) (by omega) (f := 2) (Or.inr ⟨rfl, w1, w2, w3⟩) hL (ble_len hst (j := 2) rfl (by decide)) g1 g2 H1 H2 (hnx _ _ _ _ _ H3 Hh locs ls hR hL g1 g2)
      · rcases st with _ | ⟨n | a | z, _ | ⟨j | a | z, _ | ⟨x | b | z, _ | ⟨i | a | z, _ | ⟨x | a | z, st⟩⟩⟩⟩⟩ <;> first | exact H.elim | skip
        obtain ⟨⟨H1, H2, H3⟩, H4, H5⟩ := H
        have hst0 : st = [] := by
          have := Nat.le_of_ble_eq_true hst
          have h5 : limL 3 = 5 := rfl
          rw [h5] at this
          simp only [List.length_cons] at this
          cases st with
          | nil => rfl
          | cons v st => simp only [List.length_cons] at this; omega
        subst hst0
        intro Hh locs ls hR hL g1 g2
        exact m_copy hx hb hml hown hts hE.1 hd' w1 w2 w3 w4 (by omega) (by omega) hR hL H1 H2 H4 (fun H' locs' hR' => hnx _ _ _ _ _ (H5 _ rfl) H' locs' ls hR' hL g1 g2)
    · rw [ble_f (by omega)] at H
      exact m_call hx hb hml hown hts hTW hE hnc hca hd' h3 (fun a h Q X q => hC _ a h Q X h1 q) hfr hlo htab hhd hj hnx hX H
  case invokespecial idx =>
    rcases hsp with ⟨h1, h2⟩ | ⟨h1, h2, h3⟩
    · rw [Nat.ble_eq.mpr h1] at H
      obtain ⟨hst, H⟩ := cond_t H
      obtain ⟨e, w1, w2, w3⟩ := h2
      rw [e] at H hst
      rcases st with _ | ⟨x | a | z, st⟩ <;> first | exact H.elim | skip
      obtain ⟨ha, H⟩ := H
      intro Hh locs ls hR hL g1 g2
      exact m_objInit hx hb hml hown hts hd' w1 w2 w3 (by omega) (by omega) hL (ble_len hst (j := 1) rfl (by decide)) ha (hnx _ _ _ _ _ H Hh locs ls hR hL g1 g2)
    · rw [ble_f (by omega)] at H
      exact m_call hx hb hml hown hts hTW hE hnc hca hd' h3 (fun a h Q X q => hC _ a h Q X h1 q) hfr hlo htab hhd hj hnx hX H
end FULL
