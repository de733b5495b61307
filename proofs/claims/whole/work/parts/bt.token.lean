/-! the class goes on to the next token -/
section TOK2
variable {d p : Nat} {h0 h : PH} {ES D : Nat → Int → Int} {Q : Int → PH → Prop} {X : Nat → PH → Prop}
theorem L_X4_advance_53 {t : Int} (r0 : hr h0 p 0 = 65) (F : BFR h0 D) (hd : 66 ≤ p) (B : BY D) (hL : 0 ≤ D 0 20 ∧ D 0 20 ≤ 700) (S : Sx p h0 h ES) (e1 : ES 0 1 = D 0 20) (e5 : ES 0 5 = t) (ht : 0 ≤ t ∧ t ≤ D 0 20)
    (H : ∀ h' ES', Sx p h0 h' ES' → (ES' 0 6 = tkN D t ∧ ES' 0 4 = tkc (tkS D t) ∧ (tkS D t = 2 → ES' 0 7 = tkV D t (D 0 24)) ∧ ∀ k, k ≠ 4 → k ≠ 6 → k ≠ 7 → ES' 0 k = ES 0 k) → Q 0 h') : WP k_X4_advance [] (RUN GQ (d + 2)) 0 0 (d + 3) Q X 53 [some (pA p)] [] h 0 0 := by
  refine WP.of (RUN.mono GQ _) (cuts := [16, 53]) (n := 400) (v_X4_advance_53 _ _ _ _ ?_)
  have k5 : hk h p = 5 := S.k 0 (by decide) rfl
  have f5 : hi h p 5 = t := (S.f5 0 (by decide)).trans e5
  have cq := cb_bt B hL.2 ht.1
  rw [f5]
  refine ⟨k5, Bx.pf6 S 0 5 (by decide) rfl (fun h3 S3 => ?_)⟩
  have k3 : hk h3 p = 5 := S3.k 0 (by decide) rfl
  have g1 : dst ES 0 6 t 0 1 = D 0 20 := e1
  have g5 : dst ES 0 6 t 0 5 = t := e5
  have f1 : hi h3 p 1 = D 0 20 := (S3.f1 0 (by decide)).trans g1
  have f5 : hi h3 p 5 = t := (S3.f5 0 (by decide)).trans g5
  have fr : ∀ k, k ≠ 6 → dst ES 0 6 t 0 k = ES 0 k := fun k a => dst_ne a
  rw [f1, f5]
  refine ⟨k3, k3, ir (by omega) (by omega), ir (by omega) (by omega), fun c0 => ⟨k3, k3, ?_⟩, fun c0 => ⟨k3, fun h15 q15 => ?_⟩⟩
  · refine S_X4_byteAt S3 r0 F hd g1 hL (ir (by omega) (by omega)) ?_
    have n1 : bt D t ≠ -1 := by omega
    refine S_X4_isLetter (ir (by omega) (by omega)) (fun c => ?_) (fun c => ?_)
    · have cc : isL (bt D t) := by unfold isL at c ⊢; omega
      refine ⟨ir (by omega) (by omega), fun z => absurd z (by omega), fun _ => ⟨k3, ?_⟩⟩
      refine S_X4_scanWord r0 F hd B hL (st := t) (q := t) (by omega) S3 g1 g5 rfl ht (fun h' ES' S' z => ?_)
      have eN : tkN D t = ltl D (D 0 20 - t).toNat t := by unfold tkN; rw [if_neg n1, if_pos cc]
      have eS : tkS D t = if 7 < ltl D (D 0 20 - t).toNat t - t then 4 else 1 := by unfold tkS; rw [if_neg n1, if_pos cc]
      refine H h' ES' S' ⟨z.1.trans eN.symm, ?_, fun y => ?_, fun k a b _ => (z.2.2 k a b).trans (fr k b)⟩
      · rw [z.2.1, eS]
        by_cases w : 7 < ltl D (D 0 20 - t).toNat t - t
        · rw [if_pos w, if_pos w]; rfl
        · rw [if_neg w, if_neg w]; rfl
      · exfalso
        rw [eS] at y
        split at y <;> omega
    · have cc : ¬ isL (bt D t) := by unfold isL at c ⊢; omega
      rw [f5]
      refine ⟨ir (by omega) (by omega), fun _ => ⟨k3, k3, ?_⟩, fun z => absurd rfl z⟩
      refine S_X4_byteAt S3 r0 F hd g1 hL (ir (by omega) (by omega)) ?_
      refine S_X4_isDigit (ir (by omega) (by omega)) (fun e => ?_) (fun e => ?_)
      · have ce : isD (bt D t) := by unfold isD at e ⊢; omega
        refine ⟨ir (by omega) (by omega), fun z => absurd z (by omega), fun _ => ⟨k3, ?_⟩⟩
        refine S_X4_scanNumber r0 F hd B hL (st := t) (q := t) (by omega) S3 g1 g5 rfl ht (fun h' ES' S' z => ?_)
        have eN : tkN D t = dgn D (D 0 20 - t).toNat t := by unfold tkN; rw [if_neg n1, if_neg cc, if_pos ce]
        have eS : tkS D t = if 3 < dgn D (D 0 20 - t).toNat t - t then 4 else 2 := by unfold tkS; rw [if_neg n1, if_neg cc, if_pos ce]
        refine H h' ES' S' ⟨z.1.trans eN.symm, ?_, fun y => ?_, fun k a b c => (z.2.2.2 k a b c).trans (fr k b)⟩
        · rw [z.2.1, eS]
          by_cases w : 3 < dgn D (D 0 20 - t).toNat t - t
          · rw [if_pos w, if_pos w]; rfl
          · rw [if_neg w, if_neg w]; rfl
        · have w : ¬ 3 < dgn D (D 0 20 - t).toNat t - t := fun w => by rw [eS, if_pos w] at y; omega
          rw [z.2.2.1]
          unfold tkV
          rw [if_pos ce]
          exact nvl_dgv t _ t 0 (by omega)
      · have ce : ¬ isD (bt D t) := by unfold isD at e ⊢; omega
        have eN : tkN D t = t + 1 := by unfold tkN; rw [if_neg n1, if_neg cc, if_neg ce]
        have eS : tkS D t = if bt D t = 59 then 3 else 4 := by unfold tkS; rw [if_neg n1, if_neg cc, if_neg ce]
        rw [f5]
        refine ⟨ir (by omega) (by omega), fun _ => ⟨k3, k3, ?_⟩, fun z => absurd rfl z⟩
        refine S_X4_byteAt S3 r0 F hd g1 hL (ir (by omega) (by omega)) ?_
        refine ⟨ir (by omega) (by omega), ir (by omega) (by omega), fun w => Bx.pf4 S3 0 5 (by decide) rfl (fun h9 S9 => ?_), fun w => Bx.pf4 S3 0 5 (by decide) rfl (fun h9 S9 => ?_)⟩
        · have k9 : hk h9 p = 5 := S9.k 0 (by decide) rfl
          have f9 : hi h9 p 5 = t := (S9.f5 0 (by decide)).trans g5
          rw [f9]
          refine ⟨k9, Bx.pf6 S9 0 5 (by decide) rfl (fun h' S' => ?_)⟩
          refine H h' _ S' ⟨eN.symm, ?_, fun y => ?_, fun k a b _ => (dst_ne b).trans ((dst_ne a).trans (fr k b))⟩
          · rw [eS, if_pos (by omega)]; rfl
          · rw [eS, if_pos (by omega)] at y; omega
        · have k9 : hk h9 p = 5 := S9.k 0 (by decide) rfl
          have f9 : hi h9 p 5 = t := (S9.f5 0 (by decide)).trans g5
          rw [f9]
          refine ⟨k9, Bx.pf6 S9 0 5 (by decide) rfl (fun h' S' => ?_)⟩
          refine H h' _ S' ⟨eN.symm, ?_, fun y => ?_, fun k a b _ => (dst_ne b).trans ((dst_ne a).trans (fr k b))⟩
          · rw [eS, if_neg (by omega)]; rfl
          · rw [eS, if_neg (by omega)] at y; omega
  · have b1 : bt D t = -1 := by omega
    have eN : tkN D t = t := by unfold tkN; rw [if_pos b1]
    have eS : tkS D t = 0 := by unfold tkS; rw [if_pos b1]
    refine (Bx.pf4 S3 0 5 (by decide) rfl (fun h' S' => ?_)).2 h15 q15
    exact H h' _ S' ⟨eN.symm, by rw [eS]; rfl, fun y => by rw [eS] at y; omega, fun k a b _ => (dst_ne a).trans (fr k b)⟩
theorem L_X4_advance_16 (r0 : hr h0 p 0 = 65) (F : BFR h0 D) (hd : 66 ≤ p) (B : BY D) (hL : 0 ≤ D 0 20 ∧ D 0 20 ≤ 700) : ∀ (n : Nat) (q : Int) (ES : Nat → Int → Int) (h : PH), Sx p h0 h ES → ES 0 1 = D 0 20 → ES 0 5 = q → 0 ≤ q → q + n = D 0 20 →
    (∀ h' ES', Sx p h0 h' ES' → (ES' 0 6 = tkN D (skl D n q) ∧ ES' 0 4 = tkc (tkS D (skl D n q)) ∧ (tkS D (skl D n q) = 2 → ES' 0 7 = tkV D (skl D n q) (D 0 24)) ∧ ES' 0 5 = skl D n q ∧ ∀ k, k ≠ 4 → k ≠ 5 → k ≠ 6 → k ≠ 7 → ES' 0 k = ES 0 k) → Q 0 h') → WP k_X4_advance [] (RUN GQ (d + 2)) 0 0 (d + 3) Q X 16 [some (pA p)] [] h 0 0 := by
  intro n
  induction n with
  | zero =>
    intro q ES h S e1 e5 q0 qn H
    refine WP.of (RUN.mono GQ _) (cuts := [16, 53]) (n := 400) (v_X4_advance_16 _ _ _ _ ?_)
    have k5 : hk h p = 5 := S.k 0 (by decide) rfl
    have f1 : hi h p 1 = D 0 20 := (S.f1 0 (by decide)).trans e1
    have f5 : hi h p 5 = q := (S.f5 0 (by decide)).trans e5
    rw [f1, f5]
    refine ⟨k5, k5, ir (by omega) (by omega), ir (by omega) (by omega), fun c => absurd c (by omega), fun _ => ?_⟩
    exact L_X4_advance_53 r0 F hd B hL S e1 e5 ⟨q0, by omega⟩ (fun h' ES' S' z => H h' ES' S' ⟨z.1, z.2.1, z.2.2.1, (z.2.2.2 5 (by decide) (by decide) (by decide)).trans e5, fun k a _ b c => z.2.2.2 k a b c⟩)
  | succ n ih =>
    intro q ES h S e1 e5 q0 qn H
    refine WP.of (RUN.mono GQ _) (cuts := [16, 53]) (n := 400) (v_X4_advance_16 _ _ _ _ ?_)
    have k5 : hk h p = 5 := S.k 0 (by decide) rfl
    have f1 : hi h p 1 = D 0 20 := (S.f1 0 (by decide)).trans e1
    have f5 : hi h p 5 = q := (S.f5 0 (by decide)).trans e5
    have cq := cb_bt B hL.2 q0
    have e : skl D (n + 1) q = if bt D q = 32 then skl D n (q + 1) else q := rfl
    rw [e] at H
    rw [f1, f5]
    refine ⟨k5, k5, ir (by omega) (by omega), ir (by omega) (by omega), fun _ => ⟨k5, k5, ?_⟩, fun c => absurd c (by omega)⟩
    refine S_X4_byteAt S r0 F hd e1 hL (ir (by omega) (by omega)) ?_
    rw [f5]
    refine ⟨ir (by omega) (by omega), ir (by omega) (by omega), fun c => ⟨k5, Bx.pf5 S 0 5 (by decide) rfl (fun h6 S6 => ?_)⟩, fun c => ?_⟩
    · rw [if_pos (by omega : bt D q = 32)] at H
      exact ih (q + 1) _ h6 S6 e1 rfl (by omega) (by omega) (fun h' ES' S' z => H h' ES' S' ⟨z.1, z.2.1, z.2.2.1, z.2.2.2.1, fun k a b c d => (z.2.2.2.2 k a b c d).trans (dst_ne b)⟩)
    · rw [if_neg (by omega : ¬ bt D q = 32)] at H
      exact L_X4_advance_53 r0 F hd B hL S e1 e5 ⟨q0, by omega⟩ (fun h' ES' S' z => H h' ES' S' ⟨z.1, z.2.1, z.2.2.1, (z.2.2.2 5 (by decide) (by decide) (by decide)).trans e5, fun k a _ b c => z.2.2.2 k a b c⟩)
/-- the first token, too -/
theorem S_X4_advance_1 (r0 : hr h0 p 0 = 65) (F : BFR h0 D) (hd : 66 ≤ p) (B : BY D) (hL : 0 ≤ D 0 20 ∧ D 0 20 ≤ 700) (S : Sx p h0 h ES) (e1 : ES 0 1 = D 0 20) (e6 : ES 0 6 = D 0 21) (e9 : ES 0 9 = D 0 25) (e10 : ES 0 10 = D 0 26) (h21 : 0 ≤ D 0 21 ∧ D 0 21 ≤ D 0 20) (h25 : D 0 25 = 0)
    (H : ∀ h' ES', Sx p h0 h' ES' → PCr ES' (tokD D) → ES' 0 8 = ES 0 8 → Q 0 h') : RUN GQ (d + 3) m_X4_advance [pA p] h Q X := by
  rw [e_X4_advance]
  refine WP.of (RUN.mono GQ _) (cuts := [16, 53]) (n := 400) (v_X4_advance_0 _ _ _ _ ?_)
  have k5 : hk h p = 5 := S.k 0 (by decide) rfl
  have f6 : hi h p 6 = D 0 21 := (S.f6 0 (by decide)).trans e6
  have f9 : hi h p 9 = 0 := ((S.f9 0 (by decide)).trans e9).trans h25
  rw [f6, f9]
  refine ⟨k5, ir (by omega) (by omega), fun _ => ⟨k5, Bx.pf5 S 0 5 (by decide) rfl (fun h1 S1 => ?_)⟩, fun c => absurd rfl c⟩
  refine L_X4_advance_16 r0 F hd B hL (D 0 20 - D 0 21).toNat (D 0 21) _ h1 S1 e1 rfl h21.1 (by omega) (fun h' ES' S' z => ?_)
  refine H h' ES' S' ⟨?_, z.2.1, z.2.2.2.1, z.1, z.2.2.1, ?_, ?_⟩ ?_
  · exact (z.2.2.2.2 1 (by decide) (by decide) (by decide) (by decide)).trans e1
  · exact (z.2.2.2.2 9 (by decide) (by decide) (by decide) (by decide)).trans e9
  · exact (z.2.2.2.2 10 (by decide) (by decide) (by decide) (by decide)).trans e10
  · exact z.2.2.2.2 8 (by decide) (by decide) (by decide) (by decide)
theorem S_X4_advance (r0 : hr h0 p 0 = 65) (F : BFR h0 D) (hd : 66 ≤ p) (R : PR D) (S : Sx p h0 h ES) (P : PCr ES D)
    (H : ∀ h' ES', Sx p h0 h' ES' → PCr ES' (gD D) → ES' 0 8 = ES 0 8 → Q 0 h') : RUN GQ (d + 3) m_X4_advance [pA p] h Q X := by
  by_cases c : D 0 25 = 0
  · have e : gD D = tokD D := if_pos c
    rw [e] at H
    exact S_X4_advance_1 r0 F hd R.B R.L S P.1 P.2.2.2.1 P.2.2.2.2.2.1 P.2.2.2.2.2.2 R.n c H
  · have e : gD D = D := if_neg c
    rw [e] at H
    rw [e_X4_advance]
    refine WP.of (RUN.mono GQ _) (cuts := [16, 53]) (n := 400) (v_X4_advance_0 _ _ _ _ ?_)
    have k5 : hk h p = 5 := S.k 0 (by decide) rfl
    have f9 : hi h p 9 = D 0 25 := (S.f9 0 (by decide)).trans P.2.2.2.2.2.1
    have w := R.w
    rw [f9]
    exact ⟨k5, w, fun z => absurd z c, fun _ => H h ES S P rfl⟩
end TOK2
