/-! the plain heap in the machine's -/
/-- the start; the addresses of the fixed cells (numbers below 64); each class' number and slots -/
abbrev TH : Type := State × (Nat → Nat) × (Nat → ClassId) × (Nat → Nat → Nat)
def tad (θ : TH) (r : Nat) : Nat := if r < 64 then θ.2.1 r else θ.1.heap.size + (r - 64)
def eR (θ : TH) (r : Nat) : Value := if r = 0 then .null else .ref (tad θ r)
def eV (θ : TH) : PV → Value
  | .inl x => .int (oI x)
  | .inr (.inl r) => eR θ r
  | .inr (.inr (2, x)) => .long (Int64.ofInt x)
  | .inr (.inr (3, x)) => .float (f32 x)
  | .inr (.inr (_, x)) => .double (f64 x)
def eF (θ : TH) (ci k : Nat) (x : Int) (r : Nat) : Value := match cly ci k with
  | .int => .int (oI x)
  | .boolean => .int (oI x)
  | _ => eR θ r
def aOK (θ : TH) (h : PH) (r : Nat) (cell : Cell) (ty : FieldType) (f : Nat → Value) : Prop :=
  θ.1.isArrayOf cell ty ∧ cell.vm ≠ .unknown ∧ (hl h r ≤ cell.slots.size ∧ cell.slots.size.toInt32 = oI (hl h r : Int)) ∧ hl h r < 2147483648 ∧ ∀ j, j < hl h r → cell.slots[j]? = some (f j)
def oOK (θ : TH) (h : PH) (r : Nat) (cell : Cell) (ci : Nat) : Prop :=
  cell.cls = θ.2.2.1 ci ∧ cell.vm = .none ∧ (∀ k, k < clN ci → cell.slots[θ.2.2.2 ci k]? = some (eF θ ci k (hi h r k) (hr h r k)))
def cOK (θ : TH) (h : PH) (r : Nat) (cell : Cell) : Prop := match hk h r with
  | 0 => True
  | 20 => aOK θ h r cell .int (fun j => .int (oI (hi h r j)))
  | 26 => aOK θ h r cell .int (fun j => .int (oI (hi h r j)))
  | 21 => aOK θ h r cell .byte (fun j => .int (oI (hi h r j)))
  | 22 => aOK θ h r cell .boolean (fun j => .int (oI (hi h r j)))
  | 23 => aOK θ h r cell .long (fun j => .long (Int64.ofInt (hi h r j)))
  | 24 => aOK θ h r cell .double (fun j => .double (f64 (hi h r j)))
  | 25 => aOK θ h r cell (.object RX0) (fun j => eR θ (hr h r j)) ∧ va_RA θ.1 cell.cls (.object RX0)
  | n + 1 => oOK θ h r cell n
/-- the strings: each entry's class, place, text -/
def stT : List (String × Nat × String) := [("FadingSignals", 280, "hfaqnd"), ("FadingSignals", 340, "no text was loaded"), ("FadingSignals", 345, "there is nothing to go back to"), ("FadingSignals", 349, "there is no such kind, program, signal, slot or index"), ("FadingSignals", 354, "an argument is out of its range, or the text has an error"), ("FadingSignals$Parser", 41, "hall"), ("FadingSignals$Parser", 71, "kind"), ("FadingSignals$Parser", 76, "program"), ("FadingSignals$Parser", 81, "handle"), ("FadingSignals$Parser", 86, "hide"), ("FadingSignals$Parser", 91, "send"), ("FadingSignals$Parser", 150, "raise"), ("FadingSignals$Parser", 152, "mask"), ("FadingSignals$Parser", 154, "unmask"), ("FadingSignals$Parser", 156, "drop"), ("FadingSignalsModel", 177, "raise"), ("FadingSignalsModel", 183, "mask"), ("FadingSignalsModel", 185, "unmask"), ("FadingSignalsModel", 187, "drop"), ("FadingSignalsModel", 207, "kind"), ("FadingSignalsModel", 212, "program"), ("FadingSignalsModel", 217, "handle"), ("FadingSignalsModel", 222, "hide"), ("FadingSignalsModel", 227, "send"), ("FadingSignalsModel", 232, "hall")]
def sOK (h : PH) (r : Nat) : Prop := ∃ q : String × Nat × String, stT[r - 10]? = some q ∧ 10 ≤ r ∧ r < 64 ∧ hl h r = q.2.2.length ∧ ∀ j, j < q.2.2.length → hi h r j = ((q.2.2.toList.getD j 'a').toNat : Int)
def Rep (θ : TH) (h : PH) (H : Heap) : Prop :=
  64 ≤ hn h ∧ H.size = θ.1.heap.size + (hn h - 64) ∧ (∀ q, q < θ.1.heap.size → H[q]? = θ.1.heap[q]?) ∧
  ∀ r, hk h r ≠ 0 → r ≠ 0 ∧ r < hn h ∧ (r < 64 → (hk h r = 26 ∨ hk h r = 27) ∧ θ.2.1 r < θ.1.heap.size) ∧ (64 ≤ r → hk h r ≤ 8 ∨ 20 ≤ hk h r ∧ hk h r ≤ 25) ∧ (hk h r = 27 → sOK h r) ∧ (hk h r ≠ 27 → ∃ cell, H[tad θ r]? = some cell ∧ cOK θ h r cell)
def RepS (θ : TH) (h : PH) (H : Heap) (locs : List Loc) : Prop := Rep θ h H ∧ ∀ l ∈ locs, θ.1.heap.size ≤ l.base
def LR (θ : TH) (ls : Array Slot) (nL : Nat) (L : PL) : Prop := ls.size = nL ∧ lv_wf ls ∧ L.length = nL ∧ ∀ i v, lget L i = some v → ls[i]? = some (.val (eV θ v))
theorem LR.at {θ : TH} {ls : Array Slot} {nL : Nat} {L : PL} {i : Nat} {v : PV} (h : LR θ ls nL L) (hv : lget L i = some v) : ls[i]? = some (.val (eV θ v)) := h.2.2.2 i v hv
theorem lget_lset_eq : ∀ {L : PL} {i : Nat} {v : Option PV}, i < L.length → lget (lset L i v) i = v
  | [], _, _, h => absurd h (Nat.not_lt_zero _)
  | _ :: l, 0, v, _ => by cases v <;> rfl
  | a :: l, i + 1, v, h => by
    show lget (a :: lset l i v) (i + 1) = v
    simp only [lget]
    exact lget_lset_eq (by simpa using h)
theorem lget_lset_ne : ∀ {L : PL} {i j : Nat} {v : Option PV}, j ≠ i → lget (lset L i v) j = lget L j
  | [], _, _, _, _ => rfl
  | _ :: l, 0, 0, _, h => absurd rfl h
  | _ :: l, 0, j + 1, v, _ => by cases v <;> rfl
  | a :: l, i + 1, 0, v, _ => rfl
  | a :: l, i + 1, j + 1, v, h => by
    show lget (a :: lset l i v) (j + 1) = lget (a :: l) (j + 1)
    simp only [lget]
    exact lget_lset_ne (by omega)
theorem length_lset : ∀ (L : PL) (i : Nat) (v : Option PV), (lset L i v).length = L.length
  | [], _, _ => rfl
  | _ :: _, 0, _ => rfl
  | _ :: l, i + 1, v => by simp [lset, length_lset l i v]
theorem lget_lt : ∀ {L : PL} {i : Nat} {v : PV}, lget L i = some v → i < L.length
  | [], _, _, h => nomatch h
  | _ :: l, 0, _, _ => by simp
  | _ :: l, i + 1, _, h => by
    have := lget_lt (L := l) (i := i) h
    simp only [List.length_cons]
    omega
/-- the list of what the locals hold, as the kit writes it -/
def toLv (θ : TH) : PL → Nat → List (Nat × Value)
  | [], _ => []
  | none :: l, i => toLv θ l (i + 1)
  | some v :: l, i => (i, eV θ v) :: toLv θ l (i + 1)
theorem toLv_mem {θ : TH} : ∀ {L : PL} {i : Nat} {q : Nat × Value}, q ∈ toLv θ L i ↔ ∃ k v, lget L k = some v ∧ q = (i + k, eV θ v)
  | [], i, q => by simp [toLv, lget]
  | none :: l, i, q => by
    rw [toLv, toLv_mem (L := l)]
    constructor
    · rintro ⟨k, v, h, rfl⟩
      exact ⟨k + 1, v, h, by rw [show i + (k + 1) = i + 1 + k by omega]⟩
    · rintro ⟨k, v, h, rfl⟩
      cases k with
      | zero => exact nomatch h
      | succ k => exact ⟨k, v, h, by rw [show i + (k + 1) = i + 1 + k by omega]⟩
  | some w :: l, i, q => by
    rw [toLv, List.mem_cons, toLv_mem (L := l)]
    constructor
    · rintro (rfl | ⟨k, v, h, rfl⟩)
      · exact ⟨0, w, rfl, rfl⟩
      · exact ⟨k + 1, v, h, by rw [show i + (k + 1) = i + 1 + k by omega]⟩
    · rintro ⟨k, v, h, rfl⟩
      cases k with
      | zero => exact Or.inl (by cases h; rfl)
      | succ k => exact Or.inr ⟨k, v, h, by rw [show i + (k + 1) = i + 1 + k by omega]⟩
theorem LR.has {θ : TH} {ls : Array Slot} {nL : Nat} {L : PL} (h : LR θ ls nL L) : lv_has ls nL (toLv θ L 0) := by
  refine ⟨h.1, h.2.1, fun q hq => ?_⟩
  obtain ⟨k, v, hv, rfl⟩ := toLv_mem.mp hq
  rw [Nat.zero_add]
  exact h.2.2.2 k v hv
theorem LR.ofLv {θ : TH} {ls : Array Slot} {nL : Nat} {L : PL} {lv : List (Nat × Value)} (h : lv_has ls nL lv) (hn : L.length = nL) (hs : ∀ i v, lget L i = some v → (i, eV θ v) ∈ lv) : LR θ ls nL L := ⟨h.1, h.2.1, hn, fun i v hv => h.2.2 _ (hs i v hv)⟩
theorem eV_cat1 {θ : TH} {v : PV} (h : match v with | .inr (.inr (t, _)) => Nat.beq t 3 = true | _ => True) : (eV θ v).category = 1 := by
  rcases v with x | r | ⟨t, x⟩
  · rfl
  · show (eR θ r).category = 1
    unfold eR
    split <;> rfl
  · have : t = 3 := Nat.eq_of_beq_eq_true h
    subst this
    rfl
theorem lnar_ok {θ : TH} {L : PL} {k j : Nat} {v : PV} (h : lnar L k = true) (hj : lget L j = some v) (he : j + 1 = k) : (eV θ v).category = 1 := by
  subst he
  simp only [lnar, hj] at h
  refine eV_cat1 ?_
  rcases v with x | r | ⟨t, x⟩
  · trivial
  · trivial
  · exact h
/-- behind a store of one slot -/
theorem LR.store {θ : TH} {ls ls' : Array Slot} {nL i : Nat} {L : PL} {v : PV} (h : LR θ ls nL L) (hl : lnar L i = true)
    (h' : lv_has ls' nL ((i, eV θ v) :: (toLv θ L 0).filter (fun q => !(q.1 == i) && !(q.1 + 1 == i && q.2.category == 2)))) : LR θ ls' nL (lset L i (some v)) := by
  refine LR.ofLv h' (by rw [length_lset]; exact h.2.2.1) (fun j w hj => ?_)
  by_cases e : j = i
  · subst e
    have : lget (lset L j (some v)) j = some v := lget_lset_eq (by have := lget_lt hj; rwa [length_lset] at this)
    rw [this] at hj
    cases hj
    exact List.mem_cons_self
  · rw [lget_lset_ne e] at hj
    refine List.mem_cons_of_mem _ (List.mem_filter.mpr ⟨toLv_mem.mpr ⟨j, w, hj, by rw [Nat.zero_add]⟩, ?_⟩)
    have h1 : (j == i) = false := by simpa using e
    rw [h1]
    by_cases e2 : j + 1 = i
    · rw [lnar_ok (θ := θ) hl hj e2]
      simp
    · have h2 : (j + 1 == i) = false := by simpa using e2
      rw [h2]
      rfl
theorem LR.drop {θ : TH} {ls : Array Slot} {nL i : Nat} {L : PL} (h : LR θ ls nL L) : LR θ ls nL (lset L i none) := by
  refine ⟨h.1, h.2.1, by rw [length_lset]; exact h.2.2.1, fun j v hj => ?_⟩
  by_cases e : j = i
  · subst e
    have : lget (lset L j none) j = none := lget_lset_eq (by have := lget_lt hj; rwa [length_lset] at this)
    rw [this] at hj
    cases hj
  · rw [lget_lset_ne e] at hj
    exact h.2.2.2 j v hj
/-- behind a store of two slots -/
theorem LR.store2 {θ : TH} {ls ls' : Array Slot} {nL i : Nat} {L : PL} {v : PV} (h : LR θ ls nL L) (hl : lnar L i = true)
    (h' : lv_has ls' nL ((i, eV θ v) :: (toLv θ L 0).filter (fun q => !(q.1 == i) && (!(q.1 == i + 1) && !(q.1 + 1 == i && q.2.category == 2))))) : LR θ ls' nL (lset (lset L i (some v)) (i + 1) none) := by
  refine LR.ofLv h' (by rw [length_lset, length_lset]; exact h.2.2.1) (fun j w hj => ?_)
  have hjl := lget_lt hj
  rw [length_lset, length_lset] at hjl
  by_cases e3 : j = i + 1
  · subst e3
    have : lget (lset (lset L i (some v)) (i + 1) none) (i + 1) = none := lget_lset_eq (by rw [length_lset]; exact hjl)
    rw [this] at hj
    cases hj
  rw [lget_lset_ne e3] at hj
  by_cases e : j = i
  · subst e
    have : lget (lset L j (some v)) j = some v := lget_lset_eq hjl
    rw [this] at hj
    cases hj
    exact List.mem_cons_self
  · rw [lget_lset_ne e] at hj
    refine List.mem_cons_of_mem _ (List.mem_filter.mpr ⟨toLv_mem.mpr ⟨j, w, hj, by rw [Nat.zero_add]⟩, ?_⟩)
    have h1 : (j == i) = false := by simpa using e
    have h3 : (j == i + 1) = false := by simpa using e3
    rw [h1, h3]
    by_cases e2 : j + 1 = i
    · rw [lnar_ok (θ := θ) hl hj e2]
      simp
    · have h2 : (j + 1 == i) = false := by simpa using e2
      rw [h2]
      rfl
