/-! the class's text against a list -/
def TXO (E : Nat → Int → Int) (l : List Int) : Prop := E 0 1 = l.length ∧ ∀ i : Nat, i < l.length → E 1 i = l.getD i 0
theorem getD_right : ∀ (l m : List Int) (j : Nat), (l ++ m).getD (l.length + j) 0 = m.getD j 0
  | [], m, j => by rw [List.nil_append, show ([] : List Int).length + j = j from Nat.zero_add j]
  | _ :: l, m, j => by
    have e : ∀ (x : Int), (x :: l).length + j = (l.length + j) + 1 := fun x => by show l.length + 1 + j = _; omega
    rw [e]
    exact getD_right l m j
theorem TXO.nil (E : Nat → Int → Int) : TXO (dst E 0 1 0) [] := ⟨rfl, fun i h => absurd h (Nat.not_lt_zero i)⟩
theorem bi2b_bmod {x : Int} (h : InR x) : bi2b x = Int.bmod x 256 := by
  unfold bi2b
  have e : (Int32.ofInt x).toInt = x := oI_toInt h
  rw [Int8.toInt_toInt32, Int32.toInt_toInt8, e]
theorem bi2b_id {x : Int} (h : -128 ≤ x ∧ x ≤ 127) : bi2b x = x := by
  rw [bi2b_bmod ⟨by omega, by omega⟩, Int.bmod_eq_of_le (by omega) (by omega)]
theorem band_255 {x : Int} (h : InR x) : band x 255 = x % 256 := by
  unfold band
  have e : (Int32.ofInt x).toInt = x := oI_toInt h
  rw [show Int32.ofInt 255 = 255 from rfl]
  generalize Int32.ofInt x = y at e
  have h1 : (y &&& 255).toBitVec.toNat = y.toBitVec.toNat % 256 := by
    rw [Int32.toBitVec_and, BitVec.toNat_and, show (255 : Int32).toBitVec.toNat = 2 ^ 8 - 1 from rfl, Nat.and_two_pow_sub_one_eq_mod]
  have h2 : (y &&& 255).toInt = ((y &&& 255).toBitVec.toNat : Int) := by
    show (y &&& 255).toBitVec.toInt = _
    rw [BitVec.toInt_eq_toNat_of_lt (by omega)]
  have h3 : y.toInt = Int.bmod (y.toBitVec.toNat : Int) (2 ^ 32) := BitVec.toInt_eq_toNat_bmod _
  rw [h2, h1, ← e, h3, Int.bmod_def]
  have h4 := y.toBitVec.isLt
  split <;> omega
/-- a byte of a word, on both sides -/
theorem sgb_band {x : Int} (h : InR x) : sgb (band x 255) = bi2b x := by
  rw [band_255 h, bi2b_bmod h, Int.bmod_def]
  unfold sgb
  split <;> split <;> omega
theorem TXO.put {E : Nat → Int → Int} {l : List Int} (T : TXO E l) {c : Int} : TXO (dst (dst E 1 (E 0 1) c) 0 1 (E 0 1 + 1)) (l ++ [c]) := by
  obtain ⟨t1, t2⟩ := T
  refine ⟨?_, fun i hi => ?_⟩
  · rw [dst_eq, t1, List.length_append]
    rfl
  · rw [List.length_append] at hi
    have hi' : i < l.length + 1 := hi
    rw [dst_row (by decide), t1]
    by_cases q : i = l.length
    · rw [q, dst_eq, getD_last]
    · rw [dst_ne (by omega), t2 i (by omega), getD_left _ _ _ (by omega)]
/-- a number that is being written from its end on: n of its digits are wanting -/
def PN (E : Nat → Int → Int) (l : List Int) (v : Int) (g n : Nat) : Prop := E 0 1 = l.length ∧ (∀ i : Nat, i < l.length → E 1 i = l.getD i 0) ∧ ∀ i : Nat, n ≤ i → i < g → E 1 ((l.length + i : Nat) : Int) = (dgl v g).getD i 0
theorem dgl_getD (v : Int) : ∀ (g i : Nat), i < g → (dgl v g).getD i 0 = 48 + dv v (g - 1 - i) % 10
  | 0, i, h => absurd h (Nat.not_lt_zero i)
  | g + 1, 0, _ => rfl
  | g + 1, i + 1, h => by
    have := dgl_getD v g i (by omega)
    show (dgl v g).getD i 0 = _
    rw [this, show g + 1 - 1 - (i + 1) = g - 1 - i by omega]
theorem PN.step {E : Nat → Int → Int} {l : List Int} {v c a : Int} {g n : Nat} (T : PN E l v g (n + 1)) (hn : n + 1 ≤ g) (ha : a = ((l.length + n : Nat) : Int)) (hc : c = 48 + dv v (g - 1 - n) % 10) : PN (dst E 1 a c) l v g n := by
  obtain ⟨t1, t2, t3⟩ := T
  subst ha
  refine ⟨by rw [dst_row (by decide)]; exact t1, fun i hi => ?_, fun i h0 h1 => ?_⟩
  · rw [dst_ne (by omega)]; exact t2 i hi
  · by_cases q : i = n
    · rw [q, dst_eq, dgl_getD v g n (by omega), hc]
    · rw [dst_ne (by omega)]; exact t3 i (by omega) h1
theorem PN.done {E : Nat → Int → Int} {l : List Int} {v a : Int} {g : Nat} (T : PN E l v g 0) (ha : a = ((l.length + g : Nat) : Int)) : TXO (dst E 0 1 a) (l ++ dgl v g) := by
  obtain ⟨t1, t2, t3⟩ := T
  have hl : (l ++ dgl v g).length = l.length + g := by rw [List.length_append, dgl_len]
  refine ⟨by rw [dst_eq, ha, hl], fun i hi => ?_⟩
  rw [hl] at hi
  rw [dst_row (by decide)]
  by_cases q : i < l.length
  · rw [getD_left _ _ _ q]; exact t2 i q
  · have e : i = l.length + (i - l.length) := by omega
    have := t3 (i - l.length) (by omega) (by omega)
    rw [← e] at this
    rw [this]
    conv => rhs; rw [e]
    rw [getD_right]
theorem TXO.pn {E : Nat → Int → Int} {l : List Int} (T : TXO E l) (v : Int) (g : Nat) : PN E l v g g := ⟨T.1, T.2, fun i h0 h1 => by omega⟩
theorem TXO.cast {E : Nat → Int → Int} {l l' : List Int} (T : TXO E l) (e : l = l') : TXO E l' := e ▸ T
theorem dv_8 {v : Int} (h : 0 ≤ v ∧ v ≤ 99999999) : dv v 8 = 0 := by
  show v / 10 / 10 / 10 / 10 / 10 / 10 / 10 / 10 = 0
  omega
theorem ndl_8 {v : Int} (h : dv v 8 = 0) : ∀ f n : Nat, n ≤ 7 → ndl v f n ≤ 7
  | 0, n, hn => hn
  | f + 1, n, hn => by
    rw [ndl]
    split
    · rename_i q
      by_cases z : n = 7
      · rw [z] at q
        have q' : 0 < dv v 8 := q
        omega
      · exact ndl_8 h f (n + 1) (by omega)
    · exact hn
theorem num_len8 {v : Int} (h : 0 ≤ v ∧ v ≤ 99999999) : (numL v).length ≤ 8 := by
  unfold numL
  rw [dgl_len]
  have := ndl_8 (dv_8 h) 9 0 (by omega)
  omega
/-- the letters of a name -/
theorem chL_zero (f : Int → Int) {n : Nat} {i : Int} (h : f i = 0) : chL f n i = [] := by
  cases n with
  | zero => rfl
  | succ n => rw [chL, if_pos h]
theorem we1_len8 {s : Int → Int} {i : Int} (l : List Int) (h : 0 ≤ rv s (Int.tmod (s 2 - 1 - i) 40) 0 ∧ rv s (Int.tmod (s 2 - 1 - i) 40) 0 ≤ 99999999) : (we1 s i l).length ≤ l.length + 10 := by
  unfold we1
  simp only [List.length_append, List.length_cons, List.length_nil]
  have h1 := sep_len l 32
  have h2 := num_len8 h
  omega
/-- the output's block apart from the hall and the plan -/
def DO (A B : Nat) : Prop := (119 ≤ A ∨ A + 14 ≤ 117) ∧ (119 ≤ B ∨ B + 10 ≤ 117)
theorem FT.so {h0 h : PH} {B A : Nat} {EP E D : Nat → Int → Int} {s : Int → Int} (T : FT h0 B A EP E D s) (S : Sa 117 2 h0 h) (dj : DO A B) : FT h B A EP E D s := by
  obtain ⟨t1, t2, t3, t4, t5⟩ := T
  have d1 := dj.1
  have d2 := dj.2
  refine ⟨?_, ?_, t3.sa S (by omega), t4.sa S (by omega), t5⟩
  · unfold XC at t1 ⊢
    rw [S.ek, S.er, S.er, S.er, S.er]
    exact t1
  · unfold XI at t2 ⊢
    rw [S.2.2.2 64 1 (by omega), S.2.2.2 64 2 (by omega), S.2.2.2 64 3 (by omega), S.2.2.2 64 4 (by omega)]
    exact t2
theorem lett_rng (w : Int) : 97 ≤ lett w ∧ lett w ≤ 113 := by
  unfold lett
  (repeat' split) <;> omega
theorem wq1_pos {D : Nat → Int → Int} {s : Int → Int} {p k : Int} (l : List Int) : 0 < (wq1 D s p k l).length := by
  unfold wq1
  simp only [List.length_append, List.length_cons, List.length_nil]
  omega
theorem ws1_pos {D : Nat → Int → Int} {s : Int → Int} {p k : Int} (l : List Int) : 0 < (ws1 D s p k l).length := by
  unfold ws1
  simp only [List.length_append, List.length_cons, List.length_nil]
  omega
theorem we1_pos {s : Int → Int} {i : Int} (l : List Int) : 0 < (we1 s i l).length := by
  unfold we1
  simp only [List.length_append, List.length_cons, List.length_nil]
  omega
theorem lett_str {t : Int} (h : 0 ≤ t ∧ t < 6) : ([104, 102, 97, 113, 110, 100] : List Int).getD t.toNat 0 = lett t := by
  have : t = 0 ∨ t = 1 ∨ t = 2 ∨ t = 3 ∨ t = 4 ∨ t = 5 := by omega
  rcases this with rfl | rfl | rfl | rfl | rfl | rfl <;> rfl
/-! the buffer; names that are looked for -/
/-- the bytes of the buffer, with their signs -/
def BFR (h : PH) (D : Nat → Int → Int) : Prop := hk h 65 = 21 ∧ hl h 65 = 700 ∧ ∀ e : Int, 0 ≤ e → e < 700 → hi h 65 e.toNat = sgb (D 10 e)
theorem BFR.sa {b n : Nat} {h0 h : PH} {D : Nat → Int → Int} (F : BFR h0 D) (S : Sa b n h0 h) (hd : 66 ≤ b) : BFR h D := by
  obtain ⟨f1, f2, f3⟩ := F
  refine ⟨by rw [S.ek]; exact f1, by rw [S.el]; exact f2, fun e h1 h2 => ?_⟩
  rw [S.2.2.2 _ _ (by omega)]
  exact f3 e h1 h2
/-- whether n letters from i on are the bytes -/
def iel (lt bb : Int → Int) (a fr : Int) : Nat → Int → Int
  | 0, _ => 1
  | n + 1, i => if lt (a + i) = bb (fr + i) then iel lt bb a fr n (i + 1) else 0
theorem iel_spec (lt bb : Int → Int) (a fr : Int) : ∀ (n : Nat) (i : Int), (iel lt bb a fr n i = 1 ∧ ∀ j, i ≤ j → j < i + n → lt (a + j) = bb (fr + j)) ∨ (iel lt bb a fr n i = 0 ∧ ∃ j, i ≤ j ∧ j < i + n ∧ lt (a + j) ≠ bb (fr + j))
  | 0, i => Or.inl ⟨rfl, fun j h1 h2 => by omega⟩
  | n + 1, i => by
    have e : iel lt bb a fr (n + 1) i = if lt (a + i) = bb (fr + i) then iel lt bb a fr n (i + 1) else 0 := rfl
    rw [e]
    by_cases q : lt (a + i) = bb (fr + i)
    · rw [if_pos q]
      rcases iel_spec lt bb a fr n (i + 1) with h | ⟨h, j, h1, h2, h3⟩
      · refine Or.inl ⟨h.1, fun j h1 h2 => ?_⟩
        by_cases z : j = i
        · rw [z]; exact q
        · exact h.2 j (by omega) (by omega)
      · exact Or.inr ⟨h, j, by omega, by omega, h3⟩
    · rw [if_neg q]
      exact Or.inr ⟨rfl, i, by omega, by omega, q⟩
theorem nme_z (f : Int → Int) (D : Nat → Int → Int) (bg en k : Int) : ∀ (n : Nat) (i : Int), nme f D bg en k n i 0 = 0
  | 0, _ => rfl
  | n + 1, i => by
    show nme f D bg en k n (i + 1) (if (0 : Int) = 1 ∧ f (7 * k + i) = nmc D bg en i ∧ (nmc D bg en i ≠ 0 ∨ en ≤ bg + i) then 1 else 0) = 0
    rw [if_neg (fun z => absurd z.1 (by decide))]
    exact nme_z f D bg en k n (i + 1)
theorem nme_spec (f : Int → Int) (D : Nat → Int → Int) (bg en k : Int) : ∀ (n : Nat) (i : Int), (nme f D bg en k n i 1 = 1 ∧ ∀ j, i ≤ j → j < i + n → f (7 * k + j) = nmc D bg en j ∧ (nmc D bg en j ≠ 0 ∨ en ≤ bg + j)) ∨ (nme f D bg en k n i 1 = 0 ∧ ∃ j, i ≤ j ∧ j < i + n ∧ ¬ (f (7 * k + j) = nmc D bg en j ∧ (nmc D bg en j ≠ 0 ∨ en ≤ bg + j)))
  | 0, i => Or.inl ⟨rfl, fun j h1 h2 => by omega⟩
  | n + 1, i => by
    have e : nme f D bg en k (n + 1) i 1 = nme f D bg en k n (i + 1) (if (1 : Int) = 1 ∧ f (7 * k + i) = nmc D bg en i ∧ (nmc D bg en i ≠ 0 ∨ en ≤ bg + i) then 1 else 0) := rfl
    rw [e]
    by_cases q : f (7 * k + i) = nmc D bg en i ∧ (nmc D bg en i ≠ 0 ∨ en ≤ bg + i)
    · rw [if_pos ⟨rfl, q⟩]
      rcases nme_spec f D bg en k n (i + 1) with h | ⟨h, j, h1, h2, h3⟩
      · refine Or.inl ⟨h.1, fun j h1 h2 => ?_⟩
        by_cases z : j = i
        · rw [z]; exact q
        · exact h.2 j (by omega) (by omega)
      · exact Or.inr ⟨h, j, by omega, by omega, h3⟩
    · rw [if_neg (fun z => q z.2), nme_z]
      exact Or.inr ⟨rfl, i, by omega, by omega, q⟩
/-- the class's test of a name is the model's -/
theorem isAt_nme {lt f : Int → Int} {D : Nat → Int → Int} {k bg en ln : Int} (n1 : 1 ≤ ln ∧ ln ≤ 7) (n2 : ∀ i, 0 ≤ i → i < ln → lt (7 * k + i) = f (7 * k + i) ∧ 97 ≤ f (7 * k + i) ∧ f (7 * k + i) ≤ 122) (n3 : ∀ i, ln ≤ i → i < 7 → f (7 * k + i) = 0) (hb : ∀ i, 0 ≤ i → i < en - bg → 0 ≤ D 10 (bg + i) ∧ D 10 (bg + i) ≤ 255) (hl : en - bg ≤ 7) :
    (if ln = en - bg then iel lt (fun e => sgb (D 10 e)) (7 * k) bg (en - bg).toNat 0 else 0) = nme f D bg en k 7 0 1 := by
  have hc : ∀ i, 0 ≤ i → i < en - bg → nmc D bg en i = D 10 (bg + i) := fun i _ h => by unfold nmc; rw [if_pos (by omega)]
  have hz : ∀ i, en - bg ≤ i → nmc D bg en i = 0 := fun i h => by unfold nmc; rw [if_neg (by omega)]
  rcases nme_spec f D bg en k 7 0 with ⟨h, g⟩ | ⟨h, j, j0, j1, g⟩
  · rw [h]
    have el : ln = en - bg := by
      by_cases a : ln < en - bg
      · exfalso
        have := g ln (by omega) (by omega)
        have z := n3 ln (by omega) (by omega)
        have := hc ln (by omega) a
        omega
      · by_cases b : en - bg < ln
        · exfalso
          by_cases b0 : 0 ≤ en - bg
          · have := g (en - bg) b0 (by omega)
            have z := n2 (en - bg) b0 b
            have := hz (en - bg) (by omega)
            omega
          · have := g 0 (by omega) (by omega)
            have z := n2 0 (by omega) (by omega)
            have := hz 0 (by omega)
            omega
        · omega
    rw [if_pos el]
    rcases iel_spec lt (fun e => sgb (D 10 e)) (7 * k) bg (en - bg).toNat 0 with q | ⟨_, j, j0, j1, q⟩
    · exact q.1
    · exfalso
      have a := g j (by omega) (by omega)
      have b := n2 j j0 (by omega)
      have d := hc j j0 (by omega)
      apply q
      show lt (7 * k + j) = sgb (D 10 (bg + j))
      unfold sgb
      rw [if_pos (by omega)]
      omega
  · rw [h]
    by_cases el : ln = en - bg
    · rw [if_pos el]
      rcases iel_spec lt (fun e => sgb (D 10 e)) (7 * k) bg (en - bg).toNat 0 with ⟨_, q⟩ | q
      · exfalso
        apply g
        by_cases w : j < en - bg
        · have a := q j j0 (by omega)
          have b := n2 j j0 (by omega)
          have d := hc j j0 w
          have e := hb j j0 w
          have a' : lt (7 * k + j) = sgb (D 10 (bg + j)) := a
          unfold sgb at a'
          split at a' <;> omega
        · have d := hz j (by omega)
          have e := n3 j (by omega) (by omega)
          omega
      · exact q.1
    · rw [if_neg el]
theorem nmv_bad {f : Int → Int} {D : Nat → Int → Int} {fr m : Int} : ∀ {n : Nat} {k : Int}, nmv f D fr (fr + m) n k = -1 ∨ 1 ≤ m ∧ m ≤ 7
  | 0, _ => Or.inl rfl
  | n + 1, k => by
    by_cases q : 1 ≤ m ∧ m ≤ 7
    · exact Or.inr q
    · refine Or.inl ?_
      show (if 1 ≤ fr + m - fr ∧ fr + m - fr ≤ 7 then (if nme f D fr (fr + m) k 7 0 1 = 1 then k else nmv f D fr (fr + m) n (k + 1)) else -1) = -1
      rw [if_neg (by omega)]
