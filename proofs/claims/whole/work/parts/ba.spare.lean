/-! the spare hall beside the others -/
theorem Bx.sa {n : Nat} {K L : Nat → Nat} {RF : List (Nat × Nat × Nat)} {b b' n' : Nat} {h0 h : PH} {E : Nat → Int → Int} (B : Bx n K L RF b h0 h0 E) (S : Sa b' n' h0 h) (hd : b' + n' ≤ b ∨ b + n ≤ b') : Bx n K L RF b h h E := by
  obtain ⟨m1, m2, m3⟩ := B
  refine ⟨⟨m1.1, fun j hj => ?_, fun q hq => ?_⟩, Sa.rfl', fun j e hj he => ?_⟩
  · rw [S.ek, S.el]; exact m1.2.1 j hj
  · rw [S.er]; exact m1.2.2 q hq
  · rw [S.2.2.2 _ _ (by omega)]; exact m3 j e hj he
/-- a hall's block apart from the object, the hall and the plan -/
def DJ (A2 A B : Nat) : Prop := 66 ≤ A2 ∧ (A2 + 14 ≤ A ∨ A + 14 ≤ A2) ∧ (A2 + 14 ≤ B ∨ B + 10 ≤ A2)
theorem FT.sa {h0 h : PH} {B A A2 : Nat} {EP E D : Nat → Int → Int} {s : Int → Int} (T : FT h0 B A EP E D s) (S : Sa A2 14 h0 h) (dj : DJ A2 A B) : FT h B A EP E D s := by
  obtain ⟨t1, t2, t3, t4, t5⟩ := T
  have d1 := dj.1
  refine ⟨?_, ?_, t3.sa S dj.2.2, t4.sa S dj.2.1, t5⟩
  · unfold XC at t1 ⊢
    rw [S.ek, S.er, S.er, S.er, S.er]
    exact t1
  · unfold XI at t2 ⊢
    rw [S.2.2.2 64 1 (by omega), S.2.2.2 64 2 (by omega), S.2.2.2 64 3 (by omega), S.2.2.2 64 4 (by omega)]
    exact t2
section IDL
variable {D : Nat → Int → Int} {K P c N : Int} {s : Int → Int}
theorem idl_suml (hs : ∀ q, 0 ≤ q → q < 6 → 0 ≤ s (115 + q) ∧ 0 ≤ s (511 + q)) : ∀ (n : Nat) (p a b : Int), 0 ≤ p → p + n ≤ 6 → (idl s n p = 1 ∧ suml s 115 n p a = a ∧ suml s 511 n p b = b) ∨ (idl s n p = 0 ∧ a ≤ suml s 115 n p a ∧ b ≤ suml s 511 n p b ∧ (a < suml s 115 n p a ∨ b < suml s 511 n p b))
  | 0, _, _, _, _, _ => Or.inl ⟨rfl, rfl, rfl⟩
  | n + 1, p, a, b, h0, h1 => by
    have z := hs p h0 (by omega)
    have ih := idl_suml hs n (p + 1) (a + s (115 + p)) (b + s (511 + p)) (by omega) (by omega)
    have e1 : suml s 115 (n + 1) p a = suml s 115 n (p + 1) (a + s (115 + p)) := rfl
    have e2 : suml s 511 (n + 1) p b = suml s 511 n (p + 1) (b + s (511 + p)) := rfl
    have e3 : idl s (n + 1) p = if 0 < s (115 + p) ∨ 0 < s (511 + p) then 0 else idl s n (p + 1) := rfl
    rw [e1, e2, e3]
    by_cases q : 0 < s (115 + p) ∨ 0 < s (511 + p)
    · rw [if_pos q]
      refine Or.inr ⟨rfl, ?_⟩
      omega
    · rw [if_neg q]
      omega
/-- a program and the one behind the last: what the model asks -/
def WHO (D : Nat → Int → Int) (a z p : Int) : Prop := (p = -1 ∧ a = 0 ∧ z = D 0 4) ∨ (p = a ∧ z = a + 1 ∧ 0 ≤ a ∧ a < D 0 4)
theorem idl_idc {a z p : Int} (I : HI K P c N s) (V : PIv D) (hw : WHO D a z p) : idl s (z - a).toNat a = idc D s p := by
  have hs : ∀ q, 0 ≤ q → q < 6 → 0 ≤ s (115 + q) ∧ 0 ≤ s (511 + q) := fun q h0 h1 => ⟨(I.qn ⟨h0, h1⟩).1, (I.sn ⟨h0, h1⟩).1⟩
  have v4 := V.2.2.1
  rcases hw with ⟨rfl, rfl, rfl⟩ | ⟨rfl, rfl, h0, h1⟩
  · have := idl_suml hs (D 0 4 - 0).toNat 0 0 0 (by omega) (by omega)
    unfold idc
    rw [if_neg (by omega), show (D 0 4).toNat = (D 0 4 - 0).toNat by omega]
    rcases this with t | t
    · rw [if_pos ⟨t.2.1, t.2.2⟩]; exact t.1
    · rw [if_neg (by omega)]; exact t.1
  · rw [show (p + 1 - p).toNat = 1 by omega]
    unfold idc
    rw [if_pos (by omega)]
    have z := hs p h0 (by omega)
    show (if 0 < s (115 + p) ∨ 0 < s (511 + p) then 0 else 1) = _
    by_cases q : 0 < s (115 + p) ∨ 0 < s (511 + p)
    · rw [if_pos q, if_neg (by omega)]
    · rw [if_neg q, if_pos (by omega)]
end IDL
/-- as the class looks for the end of a signal: a tick first -/
def cte (D : Nat → Int → Int) : Nat → Int → (Int → Int) → Int
  | 0, _, _ => -1
  | n + 1, k, s => if e_tick D s (-2) ≠ -1 then k else cte D n (k + 1) (e_tick D s)
theorem cte_eq (D : Nat → Int → Int) : ∀ (n : Nat) (k : Int) (s : Int → Int), s (-2) = -1 → cte D n k s = if teE D n s = -1 then -1 else teN D n (k - 1) s
  | 0, k, s, h => by
    show -1 = if s (-2) = -1 then -1 else k - 1
    rw [if_pos h]
  | n + 1, k, s, h => by
    have e1 : teE D (n + 1) s = teE D n (e_tick D s) := by rw [teE, if_pos h]
    have e2 : teN D (n + 1) (k - 1) s = teN D n (k - 1 + 1) (e_tick D s) := by rw [teN, if_pos h]
    rw [e1, e2, show k - 1 + 1 = k by omega]
    show (if e_tick D s (-2) ≠ -1 then k else cte D n (k + 1) (e_tick D s)) = _
    by_cases q : e_tick D s (-2) ≠ -1
    · rw [if_pos q]
      have a : teE D n (e_tick D s) = e_tick D s (-2) := by
        cases n with
        | zero => rfl
        | succ n => rw [teE, if_neg q]
      have b : teN D n k (e_tick D s) = k := by
        cases n with
        | zero => rfl
        | succ n => rw [teN, if_neg q]
      rw [a, b, if_neg q]
    · rw [if_neg q, cte_eq D n (k + 1) _ (by omega), show k + 1 - 1 = k by omega]
theorem teE_stop (D : Nat → Int → Int) {n : Nat} {s : Int → Int} (h : s (-2) ≠ -1) : teE D n s = s (-2) := by
  cases n with
  | zero => rfl
  | succ n => rw [teE, if_neg h]
theorem wat_HR {E F : Nat → Int → Int} {C K : Int} {s : Int → Int} {g : Int} (R : HR (cpE F E) C K s) : HR (dst (cpE F E) 0 13 g) C K (wat s g) := by
  obtain ⟨r0, ⟨a1, a2, a3, a4, a5, a6, a7, a8⟩, rq, rs, re, rf⟩ := R
  have ne : ∀ i, 0 ≤ i → wat s g i = s i := fun i h => wat_out (by omega) (by omega)
  have w1 : wat s g (-1) = g := by unfold wat; rw [ups_ne (by omega), ups_eq]
  have w2 : wat s g (-2) = -1 := ups_eq _ _ _
  refine ⟨r0, ⟨a1.of rfl (fun i _ _ => ne i (by omega)), a2.of rfl (fun i _ _ => ne i (by omega)), a3.of rfl (fun i _ _ => ne i (by omega)), a4.of rfl (fun i _ _ => ne i (by omega)), a5.of rfl (fun i _ _ => ne i (by omega)), a6.of rfl (fun i _ _ => ne i (by omega)), a7.of rfl (fun i _ _ => ne i (by omega)), a8.of rfl (fun i _ _ => ne i (by omega))⟩, ?_, ?_, re.of rfl (fun i _ _ => ne i (by omega)) (ne 2 (by omega)), ?_⟩
  · intro p i w h1 h2 h3 h4 h5 h6
    rw [ne _ (by omega)] at h4
    have e : qv (wat s g) p i w = qv s p i w := ne _ (by omega)
    rw [e]
    exact rq p i w h1 h2 h3 h4 h5 h6
  · intro p i h1 h2 h3 h4
    rw [ne _ (by omega)] at h4
    have e : ∀ w, 0 ≤ w → sv (wat s g) p i w = sv s p i w := fun w _ => ne _ (by omega)
    rw [e 0 (by omega), e 1 (by omega), e 2 (by omega), e 3 (by omega), e 4 (by omega), e 5 (by omega)]
    exact rs p i h1 h2 h3 h4
  · obtain ⟨f1, f2, f3, f4, f5, f6⟩ := rf
    unfold HRf
    rw [ne 2 (by omega), ne 0 (by omega), ne 1 (by omega), ne 3 (by omega), w1, w2]
    exact ⟨f1, f2, f3, f4, rfl, fun _ => (cpE_0 (E := E) (F := F)).2.2.2.2.2⟩
theorem teN_ge (D : Nat → Int → Int) : ∀ (n : Nat) (k : Int) (s : Int → Int), k ≤ teN D n k s ∧ teN D n k s ≤ k + n
  | 0, k, _ => by show k ≤ k ∧ k ≤ k + ((0 : Nat) : Int); omega
  | n + 1, k, s => by
    have ih := teN_ge D n (k + 1) (e_tick D s)
    show k ≤ (if s (-2) = -1 then teN D n (k + 1) (e_tick D s) else k) ∧ (if s (-2) = -1 then teN D n (k + 1) (e_tick D s) else k) ≤ k + ((n + 1 : Nat) : Int)
    split <;> omega
theorem eiv_eov (D : Nat → Int → Int) (s : Int → Int) (g : Int) : (eiv D s g = -1 ↔ eov D s g = -1) ∧ InR (eiv D s g) := by
  have a := teN_ge D 200 0 (wat s g)
  unfold eiv
  split
  · rename_i h
    exact ⟨⟨fun _ => h, fun _ => rfl⟩, by omega, by omega⟩
  · rename_i h
    exact ⟨⟨fun z => by omega, fun z => absurd z h⟩, by omega, by omega⟩
