/-! the tables' words: the good ones, and those of nest mates -/
def isNestW : Cond → Bool
  | .fieldLinkNest _ _ _ _ _ _ => true
  | .methodLinkNest _ _ _ _ => true
  | .castable _ _ => true
  | .declares _ => true
  | _ => false
def TBLg : List Cond := lw_tbl.filter goodWord
def TBLn : List Cond := lw_tbl.filter isNestW
theorem tbg {w : Cond} (i : Nat) (h : lw_tbl[i]? = some w) (g : goodWord w = true) : w ∈ TBLg := List.mem_filter.mpr ⟨List.mem_of_getElem? h, g⟩
theorem tbn {w : Cond} (i : Nat) (h : lw_tbl[i]? = some w) (g : isNestW w = true) : w ∈ TBLn := List.mem_filter.mpr ⟨List.mem_of_getElem? h, g⟩
/-- a list's words by their places in the table -/
theorem tbgs {ws : List Cond} (ps : List Nat) (h : ws = ps.filterMap (fun i => lw_tbl[i]?)) (g : ws.all goodWord = true) : ∀ w ∈ ws, w ∈ TBLg := by
  intro w hw
  refine List.mem_filter.mpr ⟨?_, List.all_eq_true.mp g w hw⟩
  rw [h] at hw
  obtain ⟨i, -, hi⟩ := List.mem_filterMap.mp hw
  exact List.mem_of_getElem? hi
def clR : Nat → String
  | 0 => RX0
  | 1 => RX1
  | 2 => RX2
  | 3 => RX3
  | 4 => RX4
  | 5 => RX5
  | 6 => RX6
  | _ => RX7
def clT : Nat → u_T
  | 0 => TX0
  | 1 => TX1
  | 2 => TX2
  | 3 => TX3
  | 4 => TX4
  | 5 => TX5
  | 6 => TX6
  | _ => TX7
def cly : Nat → Nat → FieldType
  | 0 => tyX0
  | 1 => tyX1
  | 2 => tyX2
  | 3 => tyX3
  | 4 => tyX4
  | 5 => tyX5
  | 6 => tyX6
  | _ => tyX7
def clN : Nat → Nat
  | 0 => 15
  | 1 => 3
  | 2 => 3
  | 3 => 2
  | 4 => 11
  | 5 => 5
  | 6 => 15
  | _ => 47
theorem cl_ty : ∀ ci, ci < 8 → ∀ k, k < clN ci → parseFieldDescriptor (clT ci k).2.2.1 = some (cly ci k) := by decide +kernel
theorem cl_nm : ∀ ci, ci < 8 → ∀ a, a < clN ci → ∀ b, b < clN ci → a ≠ b → (clT ci a).2.1 ≠ (clT ci b).2.1 := by decide +kernel
theorem tbn_tab {w : Cond} (h : w ∈ TBLn) : w.onTables = true := by
  have g := (List.mem_filter.mp h).2
  cases w <;> first | rfl | cases g
