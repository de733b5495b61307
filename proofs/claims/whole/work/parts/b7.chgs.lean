/-! changes of a hall that were wanting: what holds, on both sides -/
section SLV
variable {K P c N : Int} {s : Int → Int} {p k : Int}
theorem slv_sz (hp : 0 ≤ p ∧ p < 6) (hk : 0 ≤ k ∧ k < s (511 + p)) : e_slv s p k (511 + p) = s (511 + p) - 1 := by
  rw [slv_at hp hk, if_neg (by omega), if_pos rfl]
theorem slv_sv {q i w : Int} (hp : 0 ≤ p ∧ p < 6) (hk : 0 ≤ k ∧ k < s (511 + p)) (hc : s (511 + p) ≤ 4) (hi : 0 ≤ i ∧ i < 4) (hq : 0 ≤ q ∧ q < 6) (hw : 0 ≤ w ∧ w < 6) (hpq : p = q → i < s (511 + p) - 1) : sv (e_slv s p k) q i w = if q = p ∧ k ≤ i then sv s q (i + 1) w else sv s q i w := by
  unfold sv
  rw [slv_at hp hk]
  by_cases h : q = p ∧ k ≤ i
  · have := hpq h.1.symm
    rw [if_pos (by omega), if_pos h]
    congr 1
    omega
  · rw [if_neg (by omega), if_neg (by omega), if_neg h]
theorem slv_HI (I : HI K P c N s) (hK : 0 ≤ K) (hP : 0 ≤ P) (hp : 0 ≤ p ∧ p < 6) (hk : 0 ≤ k ∧ k < s (511 + p)) : HI K P c N (e_slv s p k) := by
  have hs := I.sn hp
  have hc13 := I.hq.1
  have ne : ∀ e, e ≠ 511 + p → ¬ (517 + 24 * p ≤ e ∧ e < 517 + 24 * p + 24) → e_slv s p k e = s e := fun e a1 a2 => slv_ne hp hk (by omega) a1 a2
  have sz : ∀ q, 0 ≤ q → q < 6 → e_slv s p k (511 + q) = if q = p then s (511 + p) - 1 else s (511 + q) := by
    intro q h1 h2
    by_cases h : q = p
    · rw [if_pos h, h]; exact slv_sz hp hk
    · rw [if_neg h]; exact ne _ (by omega) (by omega)
  have qe : ∀ q i w, 0 ≤ q → q < 6 → 0 ≤ i → i < e_slv s p k (511 + q) → 0 ≤ w → w < 6 → sv (e_slv s p k) q i w = sv s q (if q = p ∧ k ≤ i then i + 1 else i) w := by
    intro q i w h1 h2 h3 h4 h5 h6
    rw [sz q h1 h2] at h4
    have hq2 := I.sn ⟨h1, h2⟩
    rw [slv_sv hp hk (by omega) ⟨h3, by split at h4 <;> omega⟩ ⟨h1, h2⟩ ⟨h5, h6⟩ (fun e => by rw [if_pos e.symm] at h4; exact h4)]
    split <;> rfl
  have old : ∀ q i, 0 ≤ q → q < 6 → 0 ≤ i → i < e_slv s p k (511 + q) → 0 ≤ (if q = p ∧ k ≤ i then i + 1 else i) ∧ (if q = p ∧ k ≤ i then i + 1 else i) < s (511 + q) := by
    intro q i h1 h2 h3 h4
    rw [sz q h1 h2] at h4
    by_cases h : q = p
    · subst h
      rw [if_pos rfl] at h4
      split <;> omega
    · rw [if_neg h] at h4
      rw [if_neg (fun z => h z.1)]
      exact ⟨h3, h4⟩
  refine ⟨I.hk.of (fun i _ _ => ne i (by omega) (by omega)), I.ht.of (fun i _ _ => ne i (by omega) (by omega)), I.hm.of (fun i _ _ => ne i (by omega) (by omega)), fun e he => ?_, I.hq.of (fun i _ _ => ne i (by omega) (by omega)) (by rw [ne 0 (by omega) (by omega)]; exact Int.le_refl _) (by rw [ne 1 (by omega) (by omega)]; exact Int.le_refl _), fun q h1 h2 => ⟨?_, fun i h3 h4 => ?_⟩, I.hr.of (fun i _ _ => ne i (by omega) (by omega)) (by rw [ne 0 (by omega) (by omega)]; exact Int.le_refl _) (by rw [ne 1 (by omega) (by omega)]; exact Int.le_refl _) (ne 2 (by omega) (by omega)), ?_, ?_, I.ho.of (fun i _ _ => ne i (by omega) (by omega)) (ne _ (by omega) (by omega)) ?_⟩
  · have h5 := I.cn he
    unfold isC at he
    rw [ne e (by omega) (by omega)]
    exact h5
  · rw [sz q h1 h2]
    have := I.sn ⟨h1, h2⟩
    split <;> omega
  · have o := old q i h1 h2 h3 h4
    exact (I.se ⟨h1, h2⟩ o).mv (fun w hw hw' => qe q i w h1 h2 h3 h4 hw hw') (by rw [ne 0 (by omega) (by omega)]; exact Int.le_refl _) (by rw [ne 1 (by omega) (by omega)]; exact Int.le_refl _)
  · refine ⟨fun q h1 h2 => ?_, fun q k' h1 h2 h3 h4 => ?_⟩
    · have := I.hz.1 q h1 h2
      have hpq : q ≠ p := fun e => by subst e; omega
      rw [sz q (by omega) h2, if_neg hpq, ne _ (by omega) (by omega)]
      exact this
    · have := I.hz.2 q k' h1 h2 h3 h4
      unfold td at this ⊢
      rw [ne _ (by omega) (by omega)]
      exact this
  · have qv' : ∀ q i, 0 ≤ q → q < 6 → 0 ≤ i → i < s (115 + q) → qv (e_slv s p k) q i 0 = qv s q i 0 := fun q i h1 h2 h3 h4 => by
      have := I.qn ⟨h1, h2⟩
      exact qv_of (s := s) (fun i _ _ => ne i (by omega) (by omega)) ⟨h1, h2⟩ ⟨h3, by omega⟩ ⟨by omega, by omega⟩
    refine ⟨fun q i r j h1 h2 h3 h4 h5 h6 h7 h8 => ?_, fun q i r j h1 h2 h3 h4 h5 h6 h7 h8 => ?_⟩
    · rw [ne _ (by omega) (by omega)] at h4 h8
      rw [qv' q i h1 h2 h3 h4, qv' r j h5 h6 h7 h8]
      exact I.hd.1 q i r j h1 h2 h3 h4 h5 h6 h7 h8
    · rw [ne _ (by omega) (by omega)] at h4
      have o := old r j h5 h6 h7 h8
      rw [qv' q i h1 h2 h3 h4, qe r j 0 h5 h6 h7 h8 (by omega) (by omega)]
      exact I.hd.2 q i r _ h1 h2 h3 h4 h5 h6 o.1 o.2
  · rw [ne _ (by omega) (by omega)]
    exact I.ho.2.2.2.2
theorem drn_HI (I : HI K P c N s) (hK : 0 ≤ K ∧ K ≤ 8) (hP : 0 ≤ P) (hp : 0 ≤ p ∧ p < 6) (hk : 0 ≤ k ∧ k < s (511 + p)) : HI K P c (N + 1) (e_drn s p k) := by
  have I1 := slv_HI I hK.1 hP hp hk
  have q := I.se hp hk
  have hq := I.sn hp
  unfold SE at q
  exact ends_HI I1 hK.1 hP (by rw [slv_ne hp hk (by omega) (by omega) (by omega)]; exact q.1) (by omega) hp (by omega)
theorem rfs_HI (hK : 0 ≤ K) (hP : 0 ≤ P) (hp : 0 ≤ p ∧ p < 6) : ∀ (n : Nat) (k : Int) (s : Int → Int), HI K P c N s → 0 ≤ k → k + n ≤ 8 → HI K P c N (rfs p n k s)
  | 0, _, _, I, _, _ => I
  | n + 1, k, s, I, h0, h1 => rfs_HI hK hP hp n (k + 1) _ (tir_HI I hK hP (by omega) (by omega) (fun _ => rfl)) (by omega) (by omega)
theorem num_HI {e v : Int} (I : HI K P c N s) (hK : 0 ≤ K) (hP : 0 ≤ P) (he : 13 ≤ e ∧ e < 37) (hv : 0 ≤ v ∧ v ≤ 200) (h0 : (e - 13) % 3 = 0 → v ≤ 99) (h1 : (e - 13) % 3 = 1 → v ≤ 20) : HI K P c N (ups s e v) := by
  have ne : ∀ i, i ≠ e → ups s e v i = s i := fun i h => ups_ne h
  have ht : ∀ i, ups s e v i = if i = e then v else s i := fun i => rfl
  refine ⟨fun q a b => ?_, I.ht.of (fun i _ _ => ne i (by omega)), I.hm.of (fun i _ _ => ne i (by omega)), fun i hi => ?_, I.hq.of (fun i _ _ => ne i (by omega)) (by rw [ne 0 (by omega)]; exact Int.le_refl _) (by rw [ne 1 (by omega)]; exact Int.le_refl _), I.hs.of (fun i _ _ => ne i (by omega)) (by rw [ne 0 (by omega)]; exact Int.le_refl _) (by rw [ne 1 (by omega)]; exact Int.le_refl _), I.hr.of (fun i _ _ => ne i (by omega)) (by rw [ne 0 (by omega)]; exact Int.le_refl _) (by rw [ne 1 (by omega)]; exact Int.le_refl _) (ne 2 (by omega)), I.hz.of hK hP (fun p _ _ => ⟨ne _ (by omega), ne _ (by omega)⟩) (fun i _ _ => ne i (by omega)), HId.of I.hq I.hs I.hd (fun i _ _ => ne i (by omega)), I.ho.of (fun i _ _ => ne i (by omega)) (ne _ (by omega)) (by rw [ne _ (by omega)]; exact I.ho.2.2.2.2)⟩
  · have := I.hk q a b
    unfold kn at this ⊢
    rw [ht, ht, ht]
    refine ⟨?_, ?_, ?_⟩
    · split
      · have := h0 (by omega); omega
      · exact this.1
    · split
      · have := h1 (by omega); omega
      · exact this.2.1
    · split
      · omega
      · exact this.2.2
  · have := I.cn hi
    unfold isC at hi
    rw [ne _ (by omega)]
    exact this
theorem put_HI {e v : Int} (I : HI K P c N s) (hK : 0 ≤ K) (hP : 0 ≤ P) (he : 0 ≤ e ∧ e < 3) (hv : stl e ≤ v ∧ v ≤ sth e) : HI K P c N (ups s (10 + e) v) := by
  have ne : ∀ i, i ≠ 10 + e → ups s (10 + e) v i = s i := fun i h => ups_ne h
  have ht : ∀ i, ups s (10 + e) v i = if i = 10 + e then v else s i := fun i => rfl
  have so := st_or e
  refine ⟨I.hk.of (fun i _ _ => ne i (by omega)), I.ht.of (fun i _ _ => ne i (by omega)), I.hm.of (fun i _ _ => ne i (by omega)), fun i hi => ?_, I.hq.of (fun i _ _ => ne i (by omega)) (by rw [ne 0 (by omega)]; exact Int.le_refl _) (by rw [ne 1 (by omega)]; exact Int.le_refl _), I.hs.of (fun i _ _ => ne i (by omega)) (by rw [ne 0 (by omega)]; exact Int.le_refl _) (by rw [ne 1 (by omega)]; exact Int.le_refl _), I.hr.of (fun i _ _ => ne i (by omega)) (by rw [ne 0 (by omega)]; exact Int.le_refl _) (by rw [ne 1 (by omega)]; exact Int.le_refl _) (ne 2 (by omega)), I.hz.of hK hP (fun p _ _ => ⟨ne _ (by omega), ne _ (by omega)⟩) (fun i _ _ => ne i (by omega)), HId.of I.hq I.hs I.hd (fun i _ _ => ne i (by omega)), ?_⟩
  · have := I.cn hi
    unfold isC at hi
    rw [ne _ (by omega)]
    exact this
  · have o := I.ho
    unfold HIo at o ⊢
    rw [ht 10, ht 11, ht 12, ne (-1) (by omega), ne (-2) (by omega)]
    refine ⟨?_, ?_, ?_, o.2.2.2⟩
    · split
      · omega
      · exact o.1
    · split
      · omega
      · exact o.2.1
    · split
      · omega
      · exact o.2.2.1
/-- a signal of a stack is dropped, on both sides -/
theorem cend_d {E : Nat → Int → Int} {C : Int} (R : HR E C K s) (I : HI K P c N s) (hp : 0 ≤ p ∧ p < 6) (hk : 0 ≤ k ∧ k < s (511 + p)) : HR (c_end 9 4 E p k 5) C K (e_drn s p k) := by
  have hq := I.sn hp
  have hE := I.e2.1
  have ht6 : (0 : Int) ≤ 5 ∧ (5 : Int) < 6 := by omega
  have hqc : ∀ q, 0 ≤ q → q < 6 → s (115 + q) ≤ 13 := fun q a b => by have := I.qn ⟨a, b⟩; have := I.hq.1; omega
  obtain ⟨g0, g1, -, -, -, -⟩ := R.sv hp hk
  have l2 : e_slv s p k 2 = s 2 := slv_ne hp hk (by omega) (by omega) (by omega)
  have lne : ∀ e, e ≠ 511 + p → ¬ (517 + 24 * p ≤ e ∧ e < 517 + 24 * p + 24) → e_slv s p k e = s e := fun e a b => slv_ne hp hk (by omega) a b
  have X0 : HRx E K (e_slv s p k) := R.x.of (fun _ _ => rfl) (fun i hi' => lne i (by omega) (by omega))
  have X1 : HRx (c_E10 9 4 E p k 5) K (e_drn s p k) := e10_HRx (Or.inr rfl) X0 (by rw [l2]; exact hE) ht6 hp g0 g1 (Or.inr trivial)
  have e10 : c_E10 9 4 E p k 5 10 = E 10 := e10_list (by omega)
  have e11 : c_E10 9 4 E p k 5 11 = E 11 := e10_list (by omega)
  have rr : ∀ j, j ≠ 10 → j ≠ 11 → c_end 9 4 E p k 5 j = c_E10 9 4 E p k 5 j := fun j a b => by rw [c_end_eq]; exact rm_row a b
  have sne : ∀ e, e ≠ -2 → e ≠ 2 → ¬ (4 ≤ e ∧ e < 10) → ¬ (91 ≤ e ∧ e < 115) → ¬ (661 ≤ e ∧ e < 861) → e_drn s p k e = e_slv s p k e := fun e a1 a2 a3 a4 a5 => ends_ne (by rw [l2]; exact hE) ht6 hp a1 a2 a3 a4 a5
  refine HR.mk' ?_ (X1.of (fun j hj => rr j (by omega) (by omega)) (fun _ _ => rfl)) ?_ ?_ (fun e h1 h2 => ?_) (fun q i h1 h2 h3 h4 => ?_) ?_
  · unfold HRo
    rw [rr 6 (by decide) (by decide), rr 9 (by decide) (by decide), rr 1 (by decide) (by decide), e10_list (by omega), e10_list (by omega), e10_list (by omega)]
    exact R.1
  · exact (R.2.1.2.2.2.2.2.1).of (by rw [rr 7 (by decide) (by decide), e10_list (by omega)]) (fun i _ _ => by rw [sne i (by omega) (by omega) (by omega) (by omega) (by omega), lne i (by omega) (by omega)])
  · exact (R.2.2.1).of (by rw [rr 8 (by decide) (by decide), e10_list (by omega)]) (fun i _ _ => by rw [sne i (by omega) (by omega) (by omega) (by omega) (by omega), lne i (by omega) (by omega)]) hqc
  · rw [c_end_eq, show (10 : Nat) = 9 + 1 from rfl, rm_sz]
    show (if e = p then c_E10 9 4 E p k 5 10 p - 1 else c_E10 9 4 E p k 5 10 e) = _
    rw [e10, sne _ (by omega) (by omega) (by omega) (by omega) (by omega), R.sn hp, R.sn ⟨h1, h2⟩]
    by_cases h : e = p
    · rw [if_pos h, h, slv_sz hp hk]
    · rw [if_neg h, lne _ (by omega) (by omega)]
  · rw [sne _ (by omega) (by omega) (by omega) (by omega) (by omega)] at h4
    have hq2 := I.sn ⟨h1, h2⟩
    have h4' : q = p → i < s (511 + p) - 1 := fun e => by rw [e, slv_sz hp hk] at h4; exact h4
    have h4n : q ≠ p → i < s (511 + q) := fun e => by rw [lne _ (by omega) (by omega)] at h4; exact h4
    have i4 : i < 4 := by
      by_cases h : q = p
      · have := h4' h; subst h; omega
      · have := h4n h; omega
    have cell : ∀ w, 0 ≤ w → w < 7 → c_end 9 4 E p k 5 11 ((q * 4 + i) * 7 + w) = E 11 ((q * 4 + (if q = p ∧ k ≤ i then i + 1 else i)) * 7 + w) := fun w w0 w1 => by
      rw [c_end_eq, show (11 : Nat) = 9 + 2 from rfl, rm_cell (by show 0 ≤ c_E10 9 4 E p k 5 10 p - k - 1; rw [e10, R.sn hp]; omega)]
      show (if (p * 4 + k) * 7 ≤ (q * 4 + i) * 7 + w ∧ (q * 4 + i) * 7 + w < (p * 4 + k) * 7 + 7 * (c_E10 9 4 E p k 5 10 p - k - 1) then c_E10 9 4 E p k 5 11 ((q * 4 + i) * 7 + w + 7) else c_E10 9 4 E p k 5 11 ((q * 4 + i) * 7 + w)) = _
      rw [e10, e11, R.sn hp]
      by_cases h : q = p ∧ k ≤ i
      · have := h4' h.1
        rw [if_pos (by omega), if_pos h]
        congr 1
        omega
      · rw [if_neg h]
        by_cases h7 : q = p
        · have := h4' h7
          rw [if_neg (by omega)]
        · rw [if_neg (by omega)]
    have val : ∀ w, 0 ≤ w → w < 6 → sv (e_drn s p k) q i w = sv s q (if q = p ∧ k ≤ i then i + 1 else i) w := fun w w0 w1 => by
      rw [sv_of (s := e_slv s p k) (fun i _ _ => sne i (by omega) (by omega) (by omega) (by omega) (by omega)) ⟨h1, h2⟩ ⟨h3, i4⟩ ⟨w0, w1⟩, slv_sv hp hk (by omega) ⟨h3, i4⟩ ⟨h1, h2⟩ ⟨w0, w1⟩ (fun e => h4' e.symm)]
      split <;> rfl
    have o : 0 ≤ (if q = p ∧ k ≤ i then i + 1 else i) ∧ (if q = p ∧ k ≤ i then i + 1 else i) < s (511 + q) := by
      by_cases h : q = p
      · have := h4' h
        subst h
        split <;> omega
      · rw [if_neg (fun z => h z.1)]
        exact ⟨h3, h4n h⟩
    have z := R.sv ⟨h1, h2⟩ o
    rw [cell 0 (by omega) (by omega), cell 1 (by omega) (by omega), cell 3 (by omega) (by omega), cell 4 (by omega) (by omega), cell 5 (by omega) (by omega), cell 6 (by omega) (by omega), val 0 (by omega) (by omega), val 1 (by omega) (by omega), val 2 (by omega) (by omega), val 3 (by omega) (by omega), val 4 (by omega) (by omega), val 5 (by omega) (by omega)]
    exact z
  · rw [rr 0 (by decide) (by decide), e10_w (Or.inr rfl), if_neg (by omega), sne 3 (by omega) (by omega) (by omega) (by omega) (by omega), lne 3 (by omega) (by omega)]
    exact R.fl.2.2.2.1
end SLV
/-! a hall that is copied -/
def cpr (m : Int) (f g : Int → Int) : Int → Int := fun e => if 0 ≤ e ∧ e < m then f e else g e
def crow (j : Nat) (m : Int) (F E : Nat → Int → Int) : Nat → Int → Int := srow E j (cpr m (F j) (E j))
theorem crow_ne {j i : Nat} {m : Int} {F E : Nat → Int → Int} (h : i ≠ j) : crow j m F E i = E i := if_neg h
theorem crow_eq {j : Nat} {m : Int} {F E : Nat → Int → Int} {e : Int} (h : 0 ≤ e ∧ e < m) : crow j m F E j e = F j e := by
  unfold crow srow cpr
  rw [if_pos rfl, if_pos h]
def cpE (F E : Nat → Int → Int) : Nat → Int → Int :=
  dst (dst (dst (dst (dst (dst (crow 11 168 F (crow 10 6 F (crow 8 546 F (crow 7 6 F (crow 13 200 F (crow 12 6 F (crow 5 24 F (crow 4 6 F (crow 3 48 F (crow 2 24 F (crow 1 4 F E))))))))))) 0 9 (F 0 9)) 0 10 (F 0 10)) 0 11 (F 0 11)) 0 12 (F 0 12)) 0 13 (-1)) 0 14 (-1)
section CPE
variable {E F : Nat → Int → Int}
theorem cpE_row {j : Nat} (h : j ≠ 0) : cpE F E j = crow 11 168 F (crow 10 6 F (crow 8 546 F (crow 7 6 F (crow 13 200 F (crow 12 6 F (crow 5 24 F (crow 4 6 F (crow 3 48 F (crow 2 24 F (crow 1 4 F E)))))))))) j := by
  unfold cpE
  rw [dst_row h, dst_row h, dst_row h, dst_row h, dst_row h, dst_row h]
theorem cpE_at {j : Nat} {m e : Int} (hj : (j, m) ∈ [(1, 4), (2, 24), (3, 48), (4, 6), (5, 24), (12, 6), (13, 200), (7, 6), (8, 546), (10, 6), (11, (168 : Int))]) (h : 0 ≤ e ∧ e < m) : cpE F E j e = F j e := by
  simp only [List.mem_cons, List.not_mem_nil, or_false, Prod.mk.injEq] at hj
  rcases hj with ⟨rfl, rfl⟩ | ⟨rfl, rfl⟩ | ⟨rfl, rfl⟩ | ⟨rfl, rfl⟩ | ⟨rfl, rfl⟩ | ⟨rfl, rfl⟩ | ⟨rfl, rfl⟩ | ⟨rfl, rfl⟩ | ⟨rfl, rfl⟩ | ⟨rfl, rfl⟩ | ⟨rfl, rfl⟩ <;>
    (rw [cpE_row (by decide)]; (repeat rw [crow_ne (by decide)]); exact crow_eq h)
theorem cpE_6 : cpE F E 6 = E 6 ∧ cpE F E 9 = E 9 := by
  constructor <;> (rw [cpE_row (by decide)]; (repeat rw [crow_ne (by decide)]))
theorem cpE_0 : cpE F E 0 9 = F 0 9 ∧ cpE F E 0 10 = F 0 10 ∧ cpE F E 0 11 = F 0 11 ∧ cpE F E 0 12 = F 0 12 ∧ cpE F E 0 13 = -1 ∧ cpE F E 0 14 = -1 := ⟨rfl, rfl, rfl, rfl, rfl, rfl⟩
theorem cpE_HR {C K : Int} {s : Int → Int} (R : HR F C K s) (h6 : E 6 0 = 13) (h9 : E 9 0 = 4) (hq : ∀ p, 0 ≤ p → p < 6 → s (115 + p) ≤ 13) (hs : ∀ p, 0 ≤ p → p < 6 → s (511 + p) ≤ 4) (hw : s (-1) = -1) : HR (cpE F E) C K s := by
  obtain ⟨⟨o1, o2, o3⟩, ⟨a1, a2, a3, a4, a5, a6, a7, a8⟩, rq, rs, re, rf⟩ := R
  refine ⟨⟨by rw [cpE_6.1]; exact h6, by rw [cpE_6.2]; exact h9, by rw [cpE_at (j := 1) (m := 4) (by decide) (by decide)]; exact o3⟩, ⟨fun e x y => ?_, fun e x y z => ?_, fun e x y => ?_, fun e x y => ?_, fun e x y => ?_, fun e x y => ?_, fun e x y => ?_, fun e x y => ?_⟩, fun p i w x y x' y' x2 y2 => ?_, fun p i x y x' y' => ?_, fun j w x y z x' y' => ?_, ?_⟩
  · rw [cpE_at (j := 1) (m := 4) (by decide) (by omega)]; exact a1 e x y
  · rw [cpE_at (j := 2) (m := 24) (by decide) (by omega)]; exact a2 e x y z
  · rw [cpE_at (j := 3) (m := 48) (by decide) (by omega)]; exact a3 e x y
  · rw [cpE_at (j := 4) (m := 6) (by decide) (by omega)]; exact a4 e x y
  · rw [cpE_at (j := 5) (m := 24) (by decide) (by omega)]; exact a5 e x y
  · rw [cpE_at (j := 7) (m := 6) (by decide) (by omega)]; exact a6 e x y
  · rw [cpE_at (j := 10) (m := 6) (by decide) (by omega)]; exact a7 e x y
  · rw [cpE_at (j := 12) (m := 6) (by decide) (by omega)]; exact a8 e x y
  · have := hq p x y
    rw [cpE_at (j := 8) (m := 546) (by decide) (by omega)]; exact rq p i w x y x' y' x2 y2
  · have := hs p x y
    rw [cpE_at (j := 11) (m := 168) (by decide) (by omega), cpE_at (j := 11) (m := 168) (by decide) (by omega), cpE_at (j := 11) (m := 168) (by decide) (by omega), cpE_at (j := 11) (m := 168) (by decide) (by omega), cpE_at (j := 11) (m := 168) (by decide) (by omega), cpE_at (j := 11) (m := 168) (by decide) (by omega)]
    exact rs p i x y x' y'
  · rw [cpE_at (j := 13) (m := 200) (by decide) (by omega)]; exact re j w x y z x' y'
  · obtain ⟨f1, f2, f3, f4, f5, f6⟩ := rf
    unfold HRf
    rw [cpE_0.1, cpE_0.2.1, cpE_0.2.2.1, cpE_0.2.2.2.1, cpE_0.2.2.2.2.1, hw]
    exact ⟨f1, f2, f3, f4, rfl, fun z => absurd rfl z⟩
end CPE
/-- ints of one block come into another -/
theorem Bx.cp {n n' : Nat} {K K' L L' : Nat → Nat} {RF RF' : List (Nat × Nat × Nat)} {a b : Nat} {h0 h : PH} {E F : Nat → Int → Int} (M : Bx n K L RF b h0 h E) (S : Bx n' K' L' RF' a h h F) (hd : a + n' ≤ b ∨ b + n ≤ a) (j m : Nat) (hj : j < n) (hj' : j < n') (k1 : K j = 20) (k2 : K' j = 20) (l1 : L j = m) (l2 : L' j = m) {c : Int} (hc : c = m) {P : PH → Prop} (H : ∀ h', Bx n K L RF b h0 h' (crow j m F E) → P h') :
    (hk h (a + j) = 20 ∧ hk h (b + j) = 20 ∧ a + j ≠ b + j) ∧ ((0 : Int) ≤ (0 : Int) ∧ (0 : Int) ≤ (0 : Int) ∧ 0 ≤ c ∧ (0 : Int) + c ≤ hl h (a + j) ∧ (0 : Int) + c ≤ hl h (b + j)) ∧ (∀ h', h' = hcp h (a + j) (Int.toNat (0 : Int)) (b + j) (Int.toNat (0 : Int)) c.toNat → P h') := by
  have b0 := M.b0
  have a0 := S.b0
  refine ⟨⟨S.k j hj' k2, M.k j hj k1, by omega⟩, ⟨by omega, by omega, by omega, by rw [(S.1.2.1 j hj').2, l2]; omega, by rw [(M.1.2.1 j hj).2, l1]; omega⟩, fun h' q => H h' ?_⟩
  subst q
  refine ⟨M.1, ⟨M.2.1.1, M.2.1.2.1, M.2.1.2.2.1, fun r k hn' => ?_⟩, fun j' e hj'' he => ?_⟩
  · show (if r = b + j ∧ Int.toNat (0 : Int) ≤ k ∧ k < Int.toNat (0 : Int) + c.toNat then h.2.2.1 (a + j) (Int.toNat (0 : Int) + (k - Int.toNat (0 : Int))) else h.2.2.1 r k) = _
    rw [if_neg (fun z => hn' (by omega))]
    exact M.2.1.2.2.2 r k hn'
  · show (if b + j' = b + j ∧ Int.toNat (0 : Int) ≤ e.toNat ∧ e.toNat < Int.toNat (0 : Int) + c.toNat then h.2.2.1 (a + j) (Int.toNat (0 : Int) + (e.toNat - Int.toNat (0 : Int))) else h.2.2.1 (b + j') e.toNat) = _
    have t0 : Int.toNat (0 : Int) = 0 := rfl
    rw [t0, Nat.zero_add, Nat.sub_zero]
    by_cases q : j' = j
    · subst q
      unfold crow srow cpr
      rw [if_pos rfl]
      by_cases z : e < m
      · rw [if_pos ⟨rfl, by omega, by omega⟩, if_pos ⟨he, z⟩]
        have z0 := S.2.2 j' e hj' he
        rw [← Nat.zero_add e.toNat] at z0
        exact z0
      · rw [if_neg (by omega), if_neg (by omega)]
        exact M.2.2 j' e hj'' he
    · rw [if_neg (by omega), crow_ne q]
      exact M.2.2 j' e hj'' he
theorem S_X0_endSignal_sD {d b : Nat} {h0 h : PH} {E : Nat → Int → Int} {Q : Int → PH → Prop} {X : Nat → PH → Prop} {C K P c N : Int} {s : Int → Int} {p k : Int} (M : Hx b h0 h E) (R : HR E C K s) (I : HI K P c N s) (hN : N ≤ 2000000000) (hp : 0 ≤ p ∧ p < 6) (hk : 0 ≤ k ∧ k < s (511 + p))
    (H : ∀ (x : Int) h' E', x = 0 → Hx b h0 h' E' → HR E' C K (e_drn s p k) → Q x h') : RUN GQ (d + 2) m_X0_endSignal [pA b, pA (b + 9), pI p, pI k, pI 5] h Q X := by
  have q := I.sn hp
  have e2 := I.e2
  have e1 := I.e1
  have se := (I.se hp hk).1
  have rs := (R.sv hp hk).1
  refine S_X0_endSignal_s M R.r9 hp (by rw [R.sn hp]; exact hk) (by rw [R.sn hp]; omega) (by omega) (by rw [R.fl.1]; omega) (by rw [rs]; exact ⟨by omega, by omega⟩) (by rw [R.fl.2.2.2.2.1]; exact I.ho.2.2.2.1) (fun x h' e M' => H x h' _ e M' (cend_d R I hp hk))
theorem drl_sz {K P c : Int} {p : Int} (hK : 0 ≤ K ∧ K ≤ 8) (hP : 0 ≤ P) (hp : 0 ≤ p ∧ p < 6) : ∀ (n : Nat) (N : Int) (s : Int → Int), HI K P c N s → s (115 + p) = n → e_drl p (-1) n 0 s (115 + p) = 0
  | 0, _, _, _, h => h
  | n + 1, N, s, I, h => by
    have e : e_drl p (-1) (n + 1) 0 s = e_drl p (-1) n 0 (e_eiq s p 0 5) := if_pos (Or.inl rfl)
    have sz := eiq_sz (t := 5) (k := 0) I hp ⟨by omega, by omega⟩ (by omega)
    rw [e]
    exact drl_sz hK hP hp n _ _ (eiq_HI (t := 5) (k := 0) I hK hP hp ⟨by omega, by omega⟩ (by omega)) (by omega)
theorem rfs_add (p : Int) (n : Nat) : ∀ (m : Nat) (k : Int) (s : Int → Int), rfs p (m + n) k s = rfs p n (k + m) (rfs p m k s)
  | 0, k, s => by
    rw [Nat.zero_add, show k + ((0 : Nat) : Int) = k by omega]
    rfl
  | m + 1, k, s => by
    have e : rfs p (m + 1 + n) k s = rfs p (m + n) (k + 1) (ups s (37 + 8 * p + k) 0) := by
      rw [show m + 1 + n = (m + n) + 1 by omega]
      rfl
    rw [e, rfs_add p n m, show k + 1 + (m : Int) = k + ((m + 1 : Nat) : Int) by omega]
    rfl
theorem rfs_zero (p : Int) : ∀ (n : Nat) (k : Int) (s : Int → Int), (∀ q, k ≤ q → q < k + n → s (37 + 8 * p + q) = 0) → rfs p n k s = s
  | 0, _, _, _ => rfl
  | n + 1, k, s, h => by
    have z := h k (by omega) (by omega)
    have e : ups s (37 + 8 * p + k) 0 = s := by
      have := ups_self s (37 + 8 * p + k)
      rw [z] at this
      exact this
    show rfs p n (k + 1) (ups s (37 + 8 * p + k) 0) = s
    rw [e]
    exact rfs_zero p n (k + 1) s (fun q a b => h q (by omega) (by omega))
theorem rfs_at (p : Int) : ∀ (n : Nat) (k : Int) (s : Int → Int) (e : Int), ¬ (37 + 8 * p + k ≤ e ∧ e < 37 + 8 * p + k + n) → rfs p n k s e = s e
  | 0, _, _, _, _ => rfl
  | n + 1, k, s, e, h => by
    show rfs p n (k + 1) (ups s (37 + 8 * p + k) 0) e = s e
    rw [rfs_at p n (k + 1) _ e (by omega), ups_ne (by omega)]
/-- the kinds that aren't there are never tired -/
theorem rfs_8 {K P c N p : Int} {s : Int → Int} (I : HI K P c N s) (hK : 0 ≤ K ∧ K ≤ 8) (hp : 0 ≤ p ∧ p < 6) : rfs p 8 0 s = rfs p K.toNat 0 s := by
  rw [show (8 : Nat) = K.toNat + (8 - K.toNat) by omega, rfs_add, rfs_zero]
  intro q a b
  rw [rfs_at _ _ _ _ _ (by omega)]
  exact I.hz.2 p q hp.1 hp.2 (by omega) (by omega)
theorem rfsum_add (p : Int) (n : Nat) : ∀ (m : Nat) (k : Int) (s : Int → Int) (acc : Int), rfsum p (m + n) k s acc = rfsum p n (k + m) (rfs p m k s) (rfsum p m k s acc)
  | 0, k, s, acc => by
    rw [Nat.zero_add, show k + ((0 : Nat) : Int) = k by omega]
    rfl
  | m + 1, k, s, acc => by
    have e : rfsum p (m + 1 + n) k s acc = rfsum p (m + n) (k + 1) (ups s (37 + 8 * p + k) 0) (acc + td s p k) := by
      rw [show m + 1 + n = (m + n) + 1 by omega]
      rfl
    rw [e, rfsum_add p n m, show k + 1 + (m : Int) = k + ((m + 1 : Nat) : Int) by omega]
    rfl
theorem rfsum_zero (p : Int) : ∀ (n : Nat) (k : Int) (s : Int → Int) (acc : Int), (∀ q, k ≤ q → q < k + n → s (37 + 8 * p + q) = 0) → rfsum p n k s acc = acc
  | 0, _, _, _, _ => rfl
  | n + 1, k, s, acc, h => by
    have z := h k (by omega) (by omega)
    show rfsum p n (k + 1) (ups s (37 + 8 * p + k) 0) (acc + td s p k) = acc
    rw [rfsum_zero p n (k + 1) _ _ (fun q a b => by rw [ups_ne (by omega)]; exact h q (by omega) (by omega)), show td s p k = 0 from z]
    omega
theorem rfsum_8 {K P c N p : Int} {s : Int → Int} (I : HI K P c N s) (hK : 0 ≤ K ∧ K ≤ 8) (hp : 0 ≤ p ∧ p < 6) : rfsum p 8 0 s 0 = rfsum p K.toNat 0 s 0 := by
  rw [show (8 : Nat) = K.toNat + (8 - K.toNat) by omega, rfsum_add, rfsum_zero]
  intro q a b
  rw [rfs_at _ _ _ _ _ (by omega)]
  exact I.hz.2 p q hp.1 hp.2 (by omega) (by omega)
