/-! copies of rows; what a tick asks of the plan -/
def dcp (j : Nat) (o : Int) (f : Int → Int) : Nat → Int → (Nat → Int → Int) → Nat → Int → Int
  | 0, _, D => D
  | n + 1, k, D => dcp j o f n (k + 1) (dst D j (o + k) (f k))
theorem dcp_eq {j : Nat} {o : Int} {f : Int → Int} : ∀ (n : Nat) (k : Int) (D : Nat → Int → Int), dcp j o f n k D = srow D j (fun e => if o + k ≤ e ∧ e < o + k + n then f (e - o) else D j e)
  | 0, k, D => by
    show D = _
    funext j' e
    unfold srow
    by_cases q : j' = j
    · rw [if_pos q, q]
      exact (if_neg (by omega)).symm
    · rw [if_neg q]
  | n + 1, k, D => by
    show dcp j o f n (k + 1) (dst D j (o + k) (f k)) = _
    rw [dcp_eq n (k + 1), srow_dst]
    congr 1
    funext e
    by_cases q : e = o + k
    · rw [q, if_neg (by omega), if_pos (by omega), dst_eq]
      congr 1
      omega
    · rw [dst_ne q]
      by_cases q2 : o + k ≤ e ∧ e < o + k + (n + 1 : Nat)
      · rw [if_pos (by omega), if_pos q2]
      · rw [if_neg (by omega), if_neg q2]
def scp (o : Int) (f : Int → Int) : Nat → Int → (Int → Int) → Int → Int
  | 0, _, s => s
  | n + 1, k, s => scp o f n (k + 1) (ups s k (f (o + k)))
theorem scp_at {o : Int} {f : Int → Int} : ∀ (n : Nat) (k : Int) (s : Int → Int) (e : Int), scp o f n k s e = if k ≤ e ∧ e < k + n then f (o + e) else s e
  | 0, k, s, e => by rw [if_neg (by omega)]; rfl
  | n + 1, k, s, e => by
    show scp o f n (k + 1) (ups s k (f (o + k))) e = _
    rw [scp_at n (k + 1)]
    by_cases q : e = k
    · rw [q, if_neg (by omega), if_pos (by omega), ups_eq]
    · rw [ups_ne q]
      by_cases q2 : k ≤ e ∧ e < k + (n + 1 : Nat)
      · rw [if_pos (by omega), if_pos q2]
      · rw [if_neg (by omega), if_neg q2]
/-- the rows that a step of the hall asks -/
def DEq (D D' : Nat → Int → Int) : Prop := D' 0 2 = D 0 2 ∧ D' 0 3 = D 0 3 ∧ D' 0 4 = D 0 4 ∧ D' 3 = D 3 ∧ D' 4 = D 4 ∧ D' 5 = D 5
section DEQ
variable {D D' : Nat → Int → Int} {s : Int → Int}
theorem snd_D (q : DEq D D') (s : Int → Int) (p k v w : Int) : e_snd D' s p k v w = e_snd D s p k v w := by
  simp only [e_snd]
  rw [q.1]
theorem bgl_D (q : DEq D D') (p : Int) : ∀ (n : Nat) (s : Int → Int), e_bgl D' p n s = e_bgl D p n s
  | 0, _ => rfl
  | n + 1, s => by
    simp only [e_bgl]
    rw [q.2.2.2.1, bgl_D q p n, bgl_D q p n]
theorem does_D (q : DEq D D') (s : Int → Int) (p a v : Int) : e_does D' s p a v = e_does D s p a v := by
  unfold e_does
  rw [q.2.2.2.2.2, snd_D q]
theorem acl_D (q : DEq D D') (p hd v : Int) : ∀ (n : Nat) (k : Int) (s : Int → Int), e_acl D' p hd v n k s = e_acl D p hd v n k s
  | 0, _, _ => rfl
  | n + 1, k, s => by
    show e_acl D' p hd v n (k + 1) (e_does D' s p (4 * (4 * hd + k)) v) = e_acl D p hd v n (k + 1) (e_does D s p (4 * (4 * hd + k)) v)
    rw [does_D q, acl_D q p hd v n]
theorem wk_D (q : DEq D D') (s : Int → Int) (p : Int) : e_wk D' s p = e_wk D s p := by
  simp only [e_wk]
  rw [q.2.2.2.2.1, acl_D q]
theorem prl_D (q : DEq D D') : ∀ (n : Nat) (p : Int) (s : Int → Int), e_prl D' n p s = e_prl D n p s
  | 0, _, _ => rfl
  | n + 1, p, s => by
    show e_prl D' n (p + 1) (e_wk D' (e_bgl D' p (((e_ages s p) (115 + p)).toNat + 1) (e_ages s p)) p) = e_prl D n (p + 1) (e_wk D (e_bgl D p (((e_ages s p) (115 + p)).toNat + 1) (e_ages s p)) p)
    rw [bgl_D q, wk_D q, prl_D q n]
theorem tick_D (q : DEq D D') (s : Int → Int) : e_tick D' s = e_tick D s := by
  simp only [e_tick]
  rw [q.2.2.1, prl_D q]
theorem tks_D (q : DEq D D') : ∀ (n : Nat) (s : Int → Int), e_tks D' n s = e_tks D n s
  | 0, _ => rfl
  | n + 1, s => by
    show e_tks D' n (e_tick D' s) = e_tks D n (e_tick D s)
    rw [tick_D q, tks_D q n]
theorem PIv.eq (q : DEq D D') (V : PIv D) : PIv D' := by
  unfold PIv at V ⊢
  rw [q.1, q.2.1, q.2.2.1, q.2.2.2.1, q.2.2.2.2.1, q.2.2.2.2.2]
  exact V
theorem DEq.thr (D : Nat → Int → Int) (t : Int) : DEq D (dst D 0 0 t) := ⟨rfl, rfl, rfl, rfl, rfl, rfl⟩
theorem DEq.row (D : Nat → Int → Int) {j : Nat} (f : Int → Int) (h0 : j ≠ 0) (h3 : j ≠ 3) (h4 : j ≠ 4) (h5 : j ≠ 5) : DEq D (srow D j f) := by
  have e0 : srow D j f 0 = D 0 := if_neg (Ne.symm h0)
  unfold DEq
  rw [e0]
  exact ⟨rfl, rfl, rfl, if_neg (Ne.symm h3), if_neg (Ne.symm h4), if_neg (Ne.symm h5)⟩
end DEQ
/-- the same row of the state, but for what was watched last -/
def SEq (s s' : Int → Int) : Prop := (∀ e, 0 ≤ e → e < 861 → s' e = s e) ∧ s' (-1) = s (-1) ∧ InR (s' (-2))
theorem SEq.HI {K P c N : Int} {s s' : Int → Int} (q : SEq s s') (I : HI K P c N s) (hK : 0 ≤ K) (hP : 0 ≤ P) : HI K P c N s' := by
  have e := q.1
  have e0 := e 0 (by omega) (by omega)
  have e1 := e 1 (by omega) (by omega)
  refine ⟨I.hk.of (fun i _ _ => e i (by omega) (by omega)), I.ht.of (fun i _ _ => e i (by omega) (by omega)), I.hm.of (fun i _ _ => e i (by omega) (by omega)), fun i hi => ?_, I.hq.of (fun i _ _ => e i (by omega) (by omega)) (by omega) (by omega), I.hs.of (fun i _ _ => e i (by omega) (by omega)) (by omega) (by omega), I.hr.of (fun i _ _ => e i (by omega) (by omega)) (by omega) (by omega) (e 2 (by omega) (by omega)), I.hz.of hK hP (fun p h1 h2 => ⟨e _ (by omega) (by omega), e _ (by omega) (by omega)⟩) (fun i _ _ => e i (by omega) (by omega)), HId.of I.hq I.hs I.hd (fun i _ _ => e i (by omega) (by omega)), I.ho.of (fun i _ _ => e i (by omega) (by omega)) q.2.1 q.2.2⟩
  have := I.cn hi
  unfold isC at hi
  rw [e i (by omega) (by omega)]
  exact this
def kpA (D : Nat → Int → Int) (s : Int → Int) : Nat → Int → Int :=
  let D1 := if D 0 14 = 8 then dst (srow D 8 (sfl 861 6027 0 (D 8))) 0 14 (D 0 14 - 1) else D
  let D2 := dcp 8 (861 * (0 + D1 0 14)) s 861 0 D1
  dst D2 0 14 (D2 0 14 + 1)
