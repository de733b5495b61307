/-! the rows behind each change -/
section CHG
variable {D : Nat → Int → Int} {s : Int → Int} {N : Int}
theorem drps_all {K P c g : Int} (I : HI K P c N s) (hK : 0 ≤ K ∧ K ≤ 8) (hP : 0 ≤ P) (v4 : 0 ≤ D 0 4 ∧ D 0 4 ≤ 6) : HI K P c (N + 1) (drps D s g) ∧ drps D s g (-1) = s (-1) := by
  have pr := pnl_spec (s := s) (g := g) (fun p a b => ⟨(I.qn ⟨a, b⟩).1, (I.sn ⟨a, b⟩).1⟩) (D 0 4).toNat 0 (by omega) (by omega)
  unfold drps
  generalize pnl s g (D 0 4).toNat 0 = pl at pr ⊢
  by_cases c1 : pl = -1
  · rw [if_pos c1]
    exact ⟨I.mono (by omega), rfl⟩
  rw [if_neg c1]
  by_cases c2 : pl < 10
  · rw [if_pos c2]
    have f1 := ffi_spec (f := fun i => qv s pl i 0) (g := g) (s (115 + pl)).toNat 0
    have qn := I.qn (p := pl) ⟨by omega, by omega⟩
    exact ⟨eiq_HI (t := 5) I hK hP ⟨by omega, by omega⟩ ⟨by omega, by omega⟩ (by omega), eiq_neg I ⟨by omega, by omega⟩ ⟨by omega, by omega⟩ (by omega)⟩
  · rw [if_neg c2]
    have f1 := ffi_spec (f := fun i => sv s (pl - 10) i 0) (g := g) (s (511 + (pl - 10))).toNat 0
    have sn := I.sn (p := pl - 10) ⟨by omega, by omega⟩
    refine ⟨drn_HI I hK hP ⟨by omega, by omega⟩ ⟨by omega, by omega⟩, ?_⟩
    have J := slv_HI I hK.1 hP (p := pl - 10) (k := ffi (fun i => sv s (pl - 10) i 0) g (s (511 + (pl - 10))).toNat 0) ⟨by omega, by omega⟩ ⟨by omega, by omega⟩
    unfold e_drn
    rw [ends_ne J.e2.1 (by omega) ⟨by omega, by omega⟩ (by omega) (by omega) (by omega) (by omega) (by omega), slv_ne ⟨by omega, by omega⟩ ⟨by omega, by omega⟩ sn.2 (by omega) (by omega)]
theorem G_tick {m : Int} (G : CD D s N) (hN : N + 97000 ≤ 1990000000) (t : tTk D s m = 0) : CD (kpA D s) (e_tks D m.toNat s) (N + 97000) := by
  have a := tTk_n t
  obtain ⟨I, V, sw⟩ := G.u a.1
  exact G.chg ((tks_HI V rfl rfl m.toNat N s I).mono (by omega)) a.1 ((tks_neg V rfl rfl m.toNat N s I).trans sw) hN
theorem G_send {p k v : Int} (G : CD D s N) (hN : N + 97000 ≤ 1990000000) (t : ck (ck (ck (tL D) p 0 (D 0 4 - 1) 2) k 0 (D 0 3 - 1) 2) v 0 (999) 3 = 0) : CD (kpA D s) (e_snd D s p k v (-1)) (N + 97000) ∧ e_snd D s p k v (-1) 1 - 1 = s 1 := by
  have l := tL_n (ck_t (ck_t (ck_t t)))
  obtain ⟨I, V, sw⟩ := G.u l
  have a := ck_v (ck_t (ck_t t)) (by decide)
  have b := ck_v (ck_t t) (by decide)
  have c := ck_v t (by decide)
  refine ⟨G.chg ((snd_HI I V.1.2 V.2.1 V.2.2.1 ⟨by omega, by omega⟩ ⟨by omega, by omega⟩ ⟨by omega, by omega⟩ ⟨by omega, by omega⟩).mono (by omega)) l ((snd_neg I V.1.2 V.2.1 V.2.2.1 ⟨by omega, by omega⟩ ⟨by omega, by omega⟩ ⟨by omega, by omega⟩ ⟨by omega, by omega⟩).trans sw) hN, ?_⟩
  have := snd_1 I V (p := p) (k := k) (v := v) ⟨by omega, by omega⟩ ⟨by omega, by omega⟩ ⟨by omega, by omega⟩
  omega
theorem G_mask {p k z : Int} (G : CD D s N) (hN : N + 97000 ≤ 1990000000) (t : ck (ck (tL D) p 0 (D 0 4 - 1) 2) k 0 (D 0 3 - 1) 2 = 0) : CD (kpA D s) (ups s (85 + p) (bor (band (s (85 + p)) (bxor (bshl 1 k) (-1))) (bshl z k))) (N + 97000) := by
  have l := tL_n (ck_t (ck_t t))
  obtain ⟨I, V, sw⟩ := G.u l
  have a := ck_v (ck_t t) (by decide)
  have v4 := V.2.2.1
  refine G.chg ((msk_HI I V.2.1.1 V.2.2.1.1 ⟨by omega, by omega⟩ (bor_InR _ _)).mono (by omega)) l ?_ hN
  rw [ups_ne (by omega)]
  exact sw
theorem G_drop {g : Int} (G : CD D s N) (hN : N + 97000 ≤ 1990000000) (t : ck (tL D) g 0 (s 1 - 1) 2 = 0) : CD (kpA D s) (drps D s g) (N + 97000) := by
  have l := tL_n (ck_t t)
  obtain ⟨I, V, sw⟩ := G.u l
  have q := drps_all (D := D) (g := g) I V.2.1 V.2.2.1.1 V.2.2.1
  exact G.chg (q.1.mono (by omega)) l (q.2.trans sw) hN
theorem G_clear {p : Int} (G : CD D s N) (hN : N + 97000 ≤ 1990000000) (t : ck (tL D) p 0 (D 0 4 - 1) 2 = 0) : CD (kpA D s) (e_drops s p (-1)) (N + 97000) ∧ s (115 + p) - e_drops s p (-1) (115 + p) = s (115 + p) := by
  have l := tL_n (ck_t t)
  obtain ⟨I, V, sw⟩ := G.u l
  have a := ck_v t (by decide)
  have v4 := V.2.2.1
  have q := I.qn (p := p) ⟨by omega, by omega⟩
  refine ⟨G.chg ((drops_HI I V.2.1 V.2.2.1.1 ⟨by omega, by omega⟩).mono (by omega)) l ((drops_neg I V.2.1 V.2.2.1.1 ⟨by omega, by omega⟩).trans sw) hN, ?_⟩
  have z : e_drops s p (-1) (115 + p) = 0 := by
    unfold e_drops
    exact drl_sz V.2.1 V.2.2.1.1 ⟨by omega, by omega⟩ _ N s I (by omega)
  omega
theorem G_refresh {p : Int} (G : CD D s N) (hN : N + 97000 ≤ 1990000000) (t : ck (tL D) p 0 (D 0 4 - 1) 2 = 0) : CD (kpA D s) (rfs p (D 0 3).toNat 0 s) (N + 97000) := by
  have l := tL_n (ck_t t)
  obtain ⟨I, V, sw⟩ := G.u l
  have a := ck_v t (by decide)
  have v3 := V.2.1
  have v4 := V.2.2.1
  refine G.chg ((rfs_HI V.2.1.1 V.2.2.1.1 ⟨by omega, by omega⟩ (D 0 3).toNat 0 s I (by omega) (by omega)).mono (by omega)) l ?_ hN
  rw [rfs_at p _ _ _ _ (by omega)]
  exact sw
theorem G_setKind {k w v : Int} (G : CD D s N) (hN : N + 97000 ≤ 1990000000) (t : ck (ck (ck (tL D) k 0 (D 0 3 - 1) 2) w 0 (2) 3) v (knl w) (knh w) 3 = 0) : CD (kpA D s) (ups s (13 + 3 * k + w) v) (N + 97000) := by
  have l := tL_n (ck_t (ck_t (ck_t t)))
  obtain ⟨I, V, sw⟩ := G.u l
  have a := ck_v (ck_t (ck_t t)) (by decide)
  have b := ck_v (ck_t t) (by decide)
  have c := ck_v t (by decide)
  have v3 := V.2.1
  have hw : w = 0 ∧ knl w = 1 ∧ knh w = 99 ∨ w = 1 ∧ knl w = 0 ∧ knh w = 20 ∨ w = 2 ∧ knl w = 1 ∧ knh w = 200 := by
    have : w = 0 ∨ w = 1 ∨ w = 2 := by omega
    rcases this with rfl | rfl | rfl
    · exact Or.inl ⟨rfl, rfl, rfl⟩
    · exact Or.inr (Or.inl ⟨rfl, rfl, rfl⟩)
    · exact Or.inr (Or.inr ⟨rfl, rfl, rfl⟩)
  refine G.chg ((num_HI I V.2.1.1 V.2.2.1.1 ⟨by omega, by omega⟩ ⟨by omega, by omega⟩ (fun _ => by omega) (fun _ => by omega)).mono (by omega)) l ?_ hN
  rw [ups_ne (by omega)]
  exact sw
theorem G_set {w v : Int} (G : CD D s N) (hN : N + 97000 ≤ 1990000000) (t : ck (ck (tL D) w 0 (2) 2) v (stl w) (sth w) 2 = 0) : CD (kpA D s) (ups s (10 + w) v) (N + 97000) := by
  have l := tL_n (ck_t (ck_t t))
  obtain ⟨I, V, sw⟩ := G.u l
  have b := ck_v (ck_t t) (by decide)
  have c := ck_v t (by decide)
  refine G.chg ((put_HI I V.2.1.1 V.2.2.1.1 ⟨by omega, by omega⟩ c).mono (by omega)) l ?_ hN
  rw [ups_ne (by omega)]
  exact sw
/-- codes are ints -/
theorem tL_ir (D : Nat → Int → Int) : InR (tL D) := by
  have := tL_or D
  exact ir (by omega) (by omega)
theorem ck_ir {t v l u c : Int} (h : InR t) (hc : InR c) : InR (ck t v l u c) := by
  unfold ck
  split
  · exact h
  · split
    · exact ir (by omega) (by omega)
    · exact hc
theorem tTk_ir (D : Nat → Int → Int) (s : Int → Int) (m : Int) : InR (tTk D s m) := by
  have := tTk_or D s m
  exact ir (by omega) (by omega)
theorem tUn_ir (D : Nat → Int → Int) : InR (tUn D) := by
  have := tUn_or2 D
  exact ir (by omega) (by omega)
theorem tRs_ir (D : Nat → Int → Int) (j : Int) : InR (tRs D j) := by
  have := tRs_or2 D j
  exact ir (by omega) (by omega)
theorem tLd_or (D : Nat → Int → Int) (n : Int) : (tLd D n = 0 ∧ (0 ≤ n ∧ n ≤ D 0 17) ∧ rdD (dst D 0 17 0) n 0 25 = 0) ∨ (tLd D n = 1 ∧ ¬ (0 ≤ n ∧ n ≤ D 0 17)) ∨ (tLd D n = 2 ∧ (0 ≤ n ∧ n ≤ D 0 17) ∧ rdD (dst D 0 17 0) n 0 25 ≠ 0) := by
  unfold tLd
  split
  · rename_i a
    split
    · rename_i b; exact Or.inl ⟨rfl, a, b⟩
    · rename_i b; exact Or.inr (Or.inr ⟨rfl, a, b⟩)
  · rename_i a; exact Or.inr (Or.inl ⟨rfl, a⟩)
theorem tLd_ir (D : Nat → Int → Int) (n : Int) : InR (tLd D n) := by
  rcases tLd_or D n with h | h | h <;> rw [h.1] <;> exact ir (by omega) (by omega)
end CHG
/-! the state of the law between its calls -/
def SP (h : PH) (L : Nat) (xs : Nat → Int32) : Prop := hk h 1 = 26 ∧ hl h 1 = L ∧ ∀ k, hi h 1 k = (xs k).toInt
theorem SP.ir {h : PH} {L : Nat} {xs : Nat → Int32} (p : SP h L xs) (k : Nat) : InR (hi h 1 k) := by
  rw [p.2.2]
  exact toInt_InR _
theorem SP.cg {h h' : PH} {L : Nat} {xs : Nat → Int32} (p : SP h L xs) (c : CG h h') : SP h' L xs := by
  have s := c.2.1 1 (by decide) (by decide) (by decide) (by decide)
  exact ⟨s.k.trans p.1, s.l.trans p.2.1, fun k => (s.2 k).1.trans (p.2.2 k)⟩
theorem SP.eq {h h' : PH} {L : Nat} {xs : Nat → Int32} (p : SP h L xs) (q : SP h' L xs) (k : Nat) : hi h' 1 k = hi h 1 k := (q.2.2 k).trans (p.2.2 k).symm
theorem Md.sc {b : Nat} {h h' : PH} {D : Nat → Int → Int} {s : Int → Int} (M : Md b h h D s) (S : ∀ r, b ≤ r → r < b + 20 → SC h h' r) : Md b h' h' D s := by
  obtain ⟨⟨m1, m2, m3, m4⟩, _, m6, m7, m8, m9⟩ := M
  have s0 := S b (Nat.le_refl _) (by omega)
  refine ⟨⟨s0.k.trans m1, m2, fun q hq => (s0.2 _).2.trans (m3 q hq), fun j a c => ?_⟩, Sa.rfl', fun j e a c d f => ((S (b + j) (by omega) (by omega)).2 _).1.trans (m6 j e a c d f), fun e a => ((S (b + 6) (by omega) (by omega)).2 _).1.trans (m7 e a), (s0.2 _).1.trans m8, (s0.2 _).1.trans m9⟩
  have s := S (b + j) (by omega) (by omega)
  rw [s.k, s.l]
  exact m4 j a c
theorem Md.nw {b : Nat} {h0 h : PH} {D : Nat → Int → Int} {s : Int → Int} (M : Md b h0 h D s) : Md b h h D s := ⟨M.1, Sa.rfl', M.2.2⟩
theorem Md.sa {b : Nat} {h0 h : PH} {D : Nat → Int → Int} {s : Int → Int} (M : Md b h0 h D s) : Sa b 20 h0 h := M.2.1
theorem Mt.cg {h h' : PH} {D : Nat → Int → Int} {s : Int → Int} {t : Int} (M : Mt 119 h h D s t) (c : CG h h') : Mt 119 h' h' D s t := Md.sc M (fun r a b => c.2.1 r (by omega) (by omega) (by omega) (by omega))
theorem Mt.sa {h h' : PH} {D : Nat → Int → Int} {s : Int → Int} {t : Int} (M : Mt 119 h h' D s t) : Sa 119 20 h h' := Md.sa M
def LT (h : PH) (L : Nat) (xs : Nat → Int32) (N : Int) : Prop := ∃ D s t, CP h D s N ∧ CD D s N ∧ Mt 119 h h D s t ∧ OS h ∧ SP h L xs
theorem Sa.os {h h' : PH} (S : Sa 119 20 h h') (o : OS h) : OS h' := by
  obtain ⟨⟨o1, o2⟩, o3, o4⟩ := o
  exact ⟨⟨(S.ek 139).trans o1, (S.el 139).trans o2⟩, (S.ek 140).trans o3, (S.el 140).trans o4⟩
theorem Sa.sp {h h' : PH} {L : Nat} {xs : Nat → Int32} (S : Sa 119 20 h h') (p : SP h L xs) : SP h' L xs :=
  ⟨(S.ek 1).trans p.1, (S.el 1).trans p.2.1, fun k => (S.2.2.2 1 k (by omega)).trans (p.2.2 k)⟩
theorem LT.mk {h1 h2 : PH} {L : Nat} {xs : Nat → Int32} {N : Int} {D : Nat → Int → Int} {s : Int → Int} {t : Int} (C : CP h1 D s N) (G : CD D s N) (M : Mt 119 h1 h2 D s t) (o : OS h1) (p : SP h1 L xs) : LT h2 L xs N :=
  ⟨D, s, t, C.sc (fun r a b => M.sa.sc (by omega)) (by rw [show hn h2 = hn h1 from M.sa.1]; exact Nat.le_refl _) (Int.le_refl _), G, Md.nw M, M.sa.os o, M.sa.sp p⟩
/-- what the law compares -/
theorem law_cmp {x1 x2 x3 T V : Int} {h3 : PH} {P F : Prop} (e1 : x1 = T) (e3 : x3 = T) (rT : InR T) (hv : T = 0 → (hi h3 139 0 = V ∧ InR V) ∧ x2 = V) (o : OS h3) (k : P) : InR x3 ∧ InR x1 ∧ (x3 = x1 →
 InR x1 ∧ (x1 = 0 →
 hk h3 139 = 23 ∧ (0 ≤ (0 : Int) ∧ (0 : Int) < (hl h3 139 : Int)) ∧ InR x2 ∧ InL (hi h3 139 (Int.toNat (0 : Int))) ∧ InL x2 ∧ InR (if (hi h3 139 (Int.toNat (0 : Int))) < x2 then -1 else if (hi h3 139 (Int.toNat (0 : Int))) = x2 then 0 else 1) ∧ ((if (hi h3 139 (Int.toNat (0 : Int))) < x2 then -1 else if (hi h3 139 (Int.toNat (0 : Int))) = x2 then 0 else 1) = 0 →
 P) ∧
((if (hi h3 139 (Int.toNat (0 : Int))) < x2 then -1 else if (hi h3 139 (Int.toNat (0 : Int))) = x2 then 0 else 1) ≠ 0 →
 F)) ∧
(x1 ≠ 0 →
 P)) ∧
(x3 ≠ x1 →
 F) := by
  subst e1
  refine ⟨by rw [e3]; exact rT, rT, fun _ => ⟨rT, fun t => ?_, fun _ => k⟩, fun c => absurd e3 c⟩
  obtain ⟨⟨v1, v2⟩, v3⟩ := hv t
  have v1 : hi h3 139 (Int.toNat (0 : Int)) = V := v1
  rw [v1, v3]
  have e : (if V < V then (-1 : Int) else if V = V then 0 else 1) = 0 := by
    rw [if_neg (by omega), if_pos rfl]
  rw [e]
  exact ⟨o.1.1, ⟨by decide, by rw [o.1.2]; decide⟩, v2, ⟨by have := v2.1; omega, by have := v2.2; omega⟩, ⟨by have := v2.1; omega, by have := v2.2; omega⟩, ir (by omega) (by omega), fun _ => k, fun c => absurd rfl c⟩
abbrev WPL (pc : Nat) (l : PL) (st : List PV) (h : PH) (c s : Nat) : Prop := WP k_L_law [] (RUN GQ 13) 601024 7293034 14 (fun x _ => x = 1) (fun _ _ => False) pc l st h c s
/-- the loop goes on -/
abbrev HKL (L : Nat) (xs : Nat → Int32) (i N : Int) (c s : Nat) : Prop := ∀ (z6 z7 z8 : Option PV) (h' : PH) (c' s' : Nat), LT h' L xs (N + 97000) → c' ≤ c + 24 → s' ≤ s + 1700 → WPL 28 [some (pA 1), some (pA 64), some (pA 119), some (pA 139), some (pA 140), some (pI (i + 6)), z6, z7, z8] [] h' c' s'
theorem CP.h5 {h : PH} {D : Nat → Int → Int} {s : Int → Int} {N : Int} (C : CP h D s N) (l : D 0 1 ≠ 0) : 0 ≤ D 0 5 ∧ D 0 5 ≤ 48 := by
  obtain ⟨B, A, B2, A2, nx, EP, E, C⟩ := C
  have u := (C.2.1.u l).2.2.2.2.1
  have := hcn_le (D 3) 48
  omega
theorem CP.wr {h : PH} {D : Nat → Int → Int} {s : Int → Int} {N : Int} (C : CP h D s N) : WRD h := by
  obtain ⟨B, A, B2, A2, nx, EP, E, C⟩ := C
  exact C.2.2.2.2.2.2.2.2.2.1.1
