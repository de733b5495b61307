/-! the engine with what is thrown apart; what is kept -/
section ENGT
variable {d b : Nat} {h0 h : PH} {D D' : Nat → Int → Int} {s : Int → Int} {t N : Int} {Q : Int → PH → Prop} {X : Nat → PH → Prop}
theorem HI.eqD (q : DEq D D') (I : HI (D 0 3) (D 0 4) (D 0 2) N s) : HI (D' 0 3) (D' 0 4) (D' 0 2) N s := by rw [q.1, q.2.1, q.2.2.1]; exact I
theorem S_X7_sends_t {p k v w : Int} (M : Mt b h0 h D s t) (I : HI (D 0 3) (D 0 4) (D 0 2) N s) (V : PIv D) (hN : N ≤ 1999500000) (hp : 0 ≤ p ∧ p < D 0 4) (hk' : 0 ≤ k ∧ k < D 0 3) (hv : 0 ≤ v ∧ v < 1000) (hw : -1 ≤ w ∧ w < 6) (H : ∀ (x : Int) h', x = 0 → Mt b h0 h' D (e_snd D s p k v w) t → Q x h') : RUN GQ (d + 5) m_X7_sends [pA b, pI p, pI k, pI v, pI w] h Q X :=
  S_X7_sends M.md (HI.eqD (DEq.thr D t) I) (V.eq (DEq.thr D t)) hN hp hk' hv hw (fun x h' e M' => H x h' e (by unfold Mt; rw [snd_D (DEq.thr D t)] at M'; exact M'))
theorem S_X7_drops_t {p k : Int} (M : Mt b h0 h D s t) (I : HI (D 0 3) (D 0 4) (D 0 2) N s) (V : PIv D) (hN : N ≤ 1999500000) (hp : 0 ≤ p ∧ p < D 0 4) (hk' : InR k) (H : ∀ (x : Int) h', x = s (115 + p) - e_drops s p k (115 + p) → Mt b h0 h' D (e_drops s p k) t → Q x h') : RUN GQ (d + 4) m_X7_drops [pA b, pI p, pI k] h Q X :=
  S_X7_drops M.md (HI.eqD (DEq.thr D t) I) (V.eq (DEq.thr D t)) hN hp hk' H
theorem S_X7_endsInQueue_t {p k u : Int} (M : Mt b h0 h D s t) (I : HI (D 0 3) (D 0 4) (D 0 2) N s) (V : PIv D) (hN : N ≤ 1999500000) (hp : 0 ≤ p ∧ p < 6) (hk' : 0 ≤ k ∧ k < s (115 + p)) (hu : 0 ≤ u ∧ u < 6) (H : ∀ (x : Int) h', x = 0 → Mt b h0 h' D (e_eiq s p k u) t → Q x h') : RUN GQ (d + 3) m_X7_endsInQueue [pA b, pI p, pI k, pI u] h Q X :=
  S_X7_endsInQueue M.md I V.2.1 (by omega) hp hk' hu H
theorem S_X7_ticksOnce_t (M : Mt b h0 h D s t) (I : HI (D 0 3) (D 0 4) (D 0 2) N s) (V : PIv D) (hN : N ≤ 1998900000) (H : ∀ (x : Int) h', x = 0 → Mt b h0 h' D (e_tick D s) t → Q x h') : RUN GQ (d + 8) m_X7_ticksOnce [pA b] h Q X :=
  S_X7_ticksOnce M.md (HI.eqD (DEq.thr D t) I) (V.eq (DEq.thr D t)) hN (fun x h' e M' => H x h' e (by unfold Mt; rw [tick_D (DEq.thr D t)] at M'; exact M'))
theorem S_X7_goesTicks_t {m : Int} (M : Mt b h0 h D s t) (I : HI (D 0 3) (D 0 4) (D 0 2) N s) (V : PIv D) (hN : N ≤ 1998000000) (hm : 0 ≤ m ∧ m ≤ 200) (H : ∀ (x : Int) h', x = 0 → Mt b h0 h' D (e_tks D m.toNat s) t → Q x h') : RUN GQ (d + 9) m_X7_goesTicks [pA b, pI m] h Q X :=
  S_X7_goesTicks M.md (HI.eqD (DEq.thr D t) I) (V.eq (DEq.thr D t)) hN hm (fun x h' e M' => H x h' e (by unfold Mt; rw [tks_D (DEq.thr D t)] at M'; exact M'))
theorem S_X7_ends_t {g u p k : Int} (M : Mt b h0 h D s t) (hu : 0 ≤ u ∧ u < 6) (hp : 0 ≤ p ∧ p < 6) (hE : 0 ≤ s 2 ∧ s 2 ≤ 2000000000) (hg : InR g) (hw : InR (s (-1))) (H : ∀ (x : Int) h', x = 0 → Mt b h0 h' D (e_ends s g u p k) t → Q x h') : RUN GQ (d + 2) m_X7_ends [pA b, pI g, pI u, pI p, pI k] h Q X := S_X7_ends M.md hu hp hE hg hw H
end ENGT
def kpB (D : Nat → Int → Int) (s : Int → Int) : Nat → Int → Int := dst (dcp 8 (861 * (0 + D 0 14)) s 861 0 D) 0 14 (D 0 14 + 1)
theorem dcp_row {j k : Nat} {o : Int} {f : Int → Int} {n : Nat} {i : Int} {D : Nat → Int → Int} (h : k ≠ j) : dcp j o f n i D k = D k := by
  rw [dcp_eq]
  exact if_neg h
theorem kpA_eq (D : Nat → Int → Int) (s : Int → Int) : kpA D s = kpB (if D 0 14 = 8 then dst (srow D 8 (sfl 861 6027 0 (D 8))) 0 14 (D 0 14 - 1) else D) s := by
  simp only [kpA, kpB]
  rw [dcp_row (by decide)]
theorem kpA_row (D : Nat → Int → Int) (s : Int → Int) {j : Nat} (h0 : j ≠ 0) (h8 : j ≠ 8) : kpA D s j = D j := by
  rw [kpA_eq]
  unfold kpB
  rw [dst_row h0, dcp_row h8]
  split
  · rw [dst_row h0]
    exact if_neg h8
  · rfl
theorem kpA_0 (D : Nat → Int → Int) (s : Int → Int) {e : Int} (h : e ≠ 14) : kpA D s 0 e = D 0 e := by
  rw [kpA_eq]
  unfold kpB
  rw [dst_ne h, dcp_row (by decide)]
  split
  · rw [dst_ne h]
    exact congrFun (if_neg (by decide)) e
  · rfl
theorem kpA_14 (D : Nat → Int → Int) (s : Int → Int) : kpA D s 0 14 = if D 0 14 = 8 then 8 else D 0 14 + 1 := by
  rw [kpA_eq]
  unfold kpB
  rw [dst_eq]
  split
  · rw [dst_eq]; omega
  · rfl
theorem DEq.kpA (D : Nat → Int → Int) (s : Int → Int) : DEq D (kpA D s) := ⟨kpA_0 D s (by decide), kpA_0 D s (by decide), kpA_0 D s (by decide), kpA_row D s (by decide) (by decide), kpA_row D s (by decide) (by decide), kpA_row D s (by decide) (by decide)⟩
theorem kp_step {D : Nat → Int → Int} {n : Nat} {k : Int} : srow D 8 (sfl 861 (n + 1) k (D 8)) = srow (dst D 8 k (D 8 (k + 861))) 8 (sfl 861 n (k + 1) ((dst D 8 k (D 8 (k + 861))) 8)) := by
  have e2 : (dst D 8 k (D 8 (k + 861))) 8 = ups (D 8) k (D 8 (k + 861)) := if_pos rfl
  rw [srow_dst, e2]
  rfl
