/-! the model's block, what is thrown apart (t); written by wip/whole/tools/gen90.py -/
def Mt (b : Nat) (h0 h : PH) (D : Nat → Int → Int) (s : Int → Int) (t : Int) : Prop := Md b h0 h (dst D 0 0 t) s
theorem dst_comm {D : Nat → Int → Int} {j : Nat} {e v t : Int} (h : j ≠ 0 ∨ e ≠ 0) : dst (dst D 0 0 t) j e v = dst (dst D j e v) 0 0 t := by
  funext j' e'
  unfold dst ups
  by_cases a : j' = j <;> by_cases b : j' = 0
  · subst a
    subst b
    simp only [if_true]
    by_cases c : e' = e <;> by_cases d : e' = 0
    · omega
    · rw [if_pos c, if_neg d, if_pos c]
    · rw [if_neg c, if_pos d, if_pos d]
    · rw [if_neg c, if_neg d, if_neg d, if_neg c]
  · subst a
    simp only [if_true, if_neg b]
  · subst b
    simp only [if_true, if_neg a, if_neg (Ne.symm a)]
  · simp only [if_neg a, if_neg b]
theorem dst_dst (D : Nat → Int → Int) (j : Nat) (e v w : Int) : dst (dst D j e v) j e w = dst D j e w := by
  funext j' e'
  unfold dst ups
  by_cases a : j' = j
  · subst a
    simp only [if_true]
    split <;> rfl
  · simp only [if_neg a]
theorem dst_self (D : Nat → Int → Int) (j : Nat) (e : Int) : dst D j e (D j e) = D := by
  funext j' e'
  unfold dst ups
  by_cases a : j' = j
  · subst a
    rw [if_pos rfl]
    split
    · rename_i h; rw [h]
    · rfl
  · rw [if_neg a]
section MT
variable {b : Nat} {h0 h : PH} {D D' : Nat → Int → Int} {s s' : Int → Int} {t t' : Int}
theorem Mt.md (M : Mt b h0 h D s t) : Md b h0 h (dst D 0 0 t) s := M
theorem Mt.of (M : Md b h0 h D s) : Mt b h0 h D s (D 0 0) := by
  unfold Mt
  rw [dst_self]
  exact M
theorem Mt.k0 (M : Mt b h0 h D s t) : hk h b = 8 := M.1.1
theorem Mt.castT (M : Mt b h0 h D s t) (e : t' = t) : Mt b h0 h D s t' := by rw [e]; exact M
theorem Mt.cast (M : Mt b h0 h D s t) (e : s' = s) : Mt b h0 h D s' t := by rw [e]; exact M
theorem Mt.castD (M : Mt b h0 h D s t) (e : D' = D) : Mt b h0 h D' s t := by rw [e]; exact M
theorem Mt.f0 (M : Mt b h0 h D s t) : hi h b 0 = t := (Md.f0 M).trans (dst_eq _ _ _ _)
theorem Mt.p0 (M : Mt b h0 h D s t) {v : Int} {P : PH → Prop} (H : ∀ h', Mt b h0 h' D s v → P h') : hk h b = 8 ∧ (∀ h', h' = hsi h b 0 v → P h') := Md.p0 M (fun h' M' => H h' (by unfold Mt; rw [dst_dst] at M'; exact M'))
theorem Mt.r6 (M : Mt b h0 h D s t) : hr h b 6 = b + 1 := Md.r6 M
theorem Mt.r7 (M : Mt b h0 h D s t) : hr h b 7 = b + 2 := Md.r7 M
theorem Mt.r8 (M : Mt b h0 h D s t) : hr h b 8 = b + 3 := Md.r8 M
theorem Mt.r9 (M : Mt b h0 h D s t) : hr h b 9 = b + 4 := Md.r9 M
theorem Mt.r10 (M : Mt b h0 h D s t) : hr h b 10 = b + 5 := Md.r10 M
theorem Mt.r11 (M : Mt b h0 h D s t) : hr h b 11 = b + 6 := Md.r11 M
theorem Mt.r12 (M : Mt b h0 h D s t) : hr h b 12 = b + 7 := Md.r12 M
theorem Mt.r13 (M : Mt b h0 h D s t) : hr h b 13 = b + 8 := Md.r13 M
theorem Mt.r15 (M : Mt b h0 h D s t) : hr h b 15 = b + 9 := Md.r15 M
theorem Mt.r16 (M : Mt b h0 h D s t) : hr h b 16 = b + 10 := Md.r16 M
theorem Mt.r35 (M : Mt b h0 h D s t) : hr h b 35 = b + 11 := Md.r35 M
theorem Mt.r36 (M : Mt b h0 h D s t) : hr h b 36 = b + 12 := Md.r36 M
theorem Mt.r37 (M : Mt b h0 h D s t) : hr h b 37 = b + 13 := Md.r37 M
theorem Mt.r38 (M : Mt b h0 h D s t) : hr h b 38 = b + 14 := Md.r38 M
theorem Mt.r39 (M : Mt b h0 h D s t) : hr h b 39 = b + 15 := Md.r39 M
theorem Mt.r40 (M : Mt b h0 h D s t) : hr h b 40 = b + 16 := Md.r40 M
theorem Mt.r41 (M : Mt b h0 h D s t) : hr h b 41 = b + 17 := Md.r41 M
theorem Mt.r42 (M : Mt b h0 h D s t) : hr h b 42 = b + 18 := Md.r42 M
theorem Mt.r45 (M : Mt b h0 h D s t) : hr h b 45 = b + 19 := Md.r45 M
theorem Mt.f1 (M : Mt b h0 h D s t) : hi h b 1 = D 0 1 := (Md.f1 M).trans (dst_ne (by decide))
theorem Mt.p1 (M : Mt b h0 h D s t) {v : Int} {P : PH → Prop} (hv : v = 0 ∨ v = 1) (H : ∀ h', Mt b h0 h' (dst D 0 1 v) s t → P h') : hk h b = 8 ∧ (v = 0 ∨ v = 1) ∧ (∀ h', h' = hsi h b 1 v → P h') := Md.p1 M hv (fun h' M' => H h' (by unfold Mt; rw [dst_comm (Or.inr (by decide))] at M'; exact M'))
theorem Mt.f2 (M : Mt b h0 h D s t) : hi h b 2 = D 0 2 := (Md.f2 M).trans (dst_ne (by decide))
theorem Mt.p2 (M : Mt b h0 h D s t) {v : Int} {P : PH → Prop} (H : ∀ h', Mt b h0 h' (dst D 0 2 v) s t → P h') : hk h b = 8 ∧ (∀ h', h' = hsi h b 2 v → P h') := Md.p2 M (fun h' M' => H h' (by unfold Mt; rw [dst_comm (Or.inr (by decide))] at M'; exact M'))
theorem Mt.f3 (M : Mt b h0 h D s t) : hi h b 3 = D 0 3 := (Md.f3 M).trans (dst_ne (by decide))
theorem Mt.p3 (M : Mt b h0 h D s t) {v : Int} {P : PH → Prop} (H : ∀ h', Mt b h0 h' (dst D 0 3 v) s t → P h') : hk h b = 8 ∧ (∀ h', h' = hsi h b 3 v → P h') := Md.p3 M (fun h' M' => H h' (by unfold Mt; rw [dst_comm (Or.inr (by decide))] at M'; exact M'))
theorem Mt.f4 (M : Mt b h0 h D s t) : hi h b 4 = D 0 4 := (Md.f4 M).trans (dst_ne (by decide))
theorem Mt.p4 (M : Mt b h0 h D s t) {v : Int} {P : PH → Prop} (H : ∀ h', Mt b h0 h' (dst D 0 4 v) s t → P h') : hk h b = 8 ∧ (∀ h', h' = hsi h b 4 v → P h') := Md.p4 M (fun h' M' => H h' (by unfold Mt; rw [dst_comm (Or.inr (by decide))] at M'; exact M'))
theorem Mt.f5 (M : Mt b h0 h D s t) : hi h b 5 = D 0 5 := (Md.f5 M).trans (dst_ne (by decide))
theorem Mt.p5 (M : Mt b h0 h D s t) {v : Int} {P : PH → Prop} (H : ∀ h', Mt b h0 h' (dst D 0 5 v) s t → P h') : hk h b = 8 ∧ (∀ h', h' = hsi h b 5 v → P h') := Md.p5 M (fun h' M' => H h' (by unfold Mt; rw [dst_comm (Or.inr (by decide))] at M'; exact M'))
theorem Mt.f14 (M : Mt b h0 h D s t) : hi h b 14 = D 0 14 := (Md.f14 M).trans (dst_ne (by decide))
theorem Mt.p14 (M : Mt b h0 h D s t) {v : Int} {P : PH → Prop} (H : ∀ h', Mt b h0 h' (dst D 0 14 v) s t → P h') : hk h b = 8 ∧ (∀ h', h' = hsi h b 14 v → P h') := Md.p14 M (fun h' M' => H h' (by unfold Mt; rw [dst_comm (Or.inr (by decide))] at M'; exact M'))
theorem Mt.f17 (M : Mt b h0 h D s t) : hi h b 17 = D 0 17 := (Md.f17 M).trans (dst_ne (by decide))
theorem Mt.p17 (M : Mt b h0 h D s t) {v : Int} {P : PH → Prop} (H : ∀ h', Mt b h0 h' (dst D 0 17 v) s t → P h') : hk h b = 8 ∧ (∀ h', h' = hsi h b 17 v → P h') := Md.p17 M (fun h' M' => H h' (by unfold Mt; rw [dst_comm (Or.inr (by decide))] at M'; exact M'))
theorem Mt.f18 (M : Mt b h0 h D s t) : hi h b 18 = D 0 18 := (Md.f18 M).trans (dst_ne (by decide))
theorem Mt.p18 (M : Mt b h0 h D s t) {v : Int} {P : PH → Prop} (H : ∀ h', Mt b h0 h' (dst D 0 18 v) s t → P h') : hk h b = 8 ∧ (∀ h', h' = hsi h b 18 v → P h') := Md.p18 M (fun h' M' => H h' (by unfold Mt; rw [dst_comm (Or.inr (by decide))] at M'; exact M'))
theorem Mt.f19 (M : Mt b h0 h D s t) : hi h b 19 = D 0 19 := (Md.f19 M).trans (dst_ne (by decide))
theorem Mt.p19 (M : Mt b h0 h D s t) {v : Int} {P : PH → Prop} (H : ∀ h', Mt b h0 h' (dst D 0 19 v) s t → P h') : hk h b = 8 ∧ (∀ h', h' = hsi h b 19 v → P h') := Md.p19 M (fun h' M' => H h' (by unfold Mt; rw [dst_comm (Or.inr (by decide))] at M'; exact M'))
theorem Mt.f20 (M : Mt b h0 h D s t) : hi h b 20 = D 0 20 := (Md.f20 M).trans (dst_ne (by decide))
theorem Mt.p20 (M : Mt b h0 h D s t) {v : Int} {P : PH → Prop} (H : ∀ h', Mt b h0 h' (dst D 0 20 v) s t → P h') : hk h b = 8 ∧ (∀ h', h' = hsi h b 20 v → P h') := Md.p20 M (fun h' M' => H h' (by unfold Mt; rw [dst_comm (Or.inr (by decide))] at M'; exact M'))
theorem Mt.f21 (M : Mt b h0 h D s t) : hi h b 21 = D 0 21 := (Md.f21 M).trans (dst_ne (by decide))
theorem Mt.p21 (M : Mt b h0 h D s t) {v : Int} {P : PH → Prop} (H : ∀ h', Mt b h0 h' (dst D 0 21 v) s t → P h') : hk h b = 8 ∧ (∀ h', h' = hsi h b 21 v → P h') := Md.p21 M (fun h' M' => H h' (by unfold Mt; rw [dst_comm (Or.inr (by decide))] at M'; exact M'))
theorem Mt.f22 (M : Mt b h0 h D s t) : hi h b 22 = D 0 22 := (Md.f22 M).trans (dst_ne (by decide))
theorem Mt.p22 (M : Mt b h0 h D s t) {v : Int} {P : PH → Prop} (H : ∀ h', Mt b h0 h' (dst D 0 22 v) s t → P h') : hk h b = 8 ∧ (∀ h', h' = hsi h b 22 v → P h') := Md.p22 M (fun h' M' => H h' (by unfold Mt; rw [dst_comm (Or.inr (by decide))] at M'; exact M'))
theorem Mt.f23 (M : Mt b h0 h D s t) : hi h b 23 = D 0 23 := (Md.f23 M).trans (dst_ne (by decide))
theorem Mt.p23 (M : Mt b h0 h D s t) {v : Int} {P : PH → Prop} (H : ∀ h', Mt b h0 h' (dst D 0 23 v) s t → P h') : hk h b = 8 ∧ (∀ h', h' = hsi h b 23 v → P h') := Md.p23 M (fun h' M' => H h' (by unfold Mt; rw [dst_comm (Or.inr (by decide))] at M'; exact M'))
theorem Mt.f24 (M : Mt b h0 h D s t) : hi h b 24 = D 0 24 := (Md.f24 M).trans (dst_ne (by decide))
theorem Mt.p24 (M : Mt b h0 h D s t) {v : Int} {P : PH → Prop} (H : ∀ h', Mt b h0 h' (dst D 0 24 v) s t → P h') : hk h b = 8 ∧ (∀ h', h' = hsi h b 24 v → P h') := Md.p24 M (fun h' M' => H h' (by unfold Mt; rw [dst_comm (Or.inr (by decide))] at M'; exact M'))
theorem Mt.f25 (M : Mt b h0 h D s t) : hi h b 25 = D 0 25 := (Md.f25 M).trans (dst_ne (by decide))
theorem Mt.p25 (M : Mt b h0 h D s t) {v : Int} {P : PH → Prop} (H : ∀ h', Mt b h0 h' (dst D 0 25 v) s t → P h') : hk h b = 8 ∧ (∀ h', h' = hsi h b 25 v → P h') := Md.p25 M (fun h' M' => H h' (by unfold Mt; rw [dst_comm (Or.inr (by decide))] at M'; exact M'))
theorem Mt.f26 (M : Mt b h0 h D s t) : hi h b 26 = D 0 26 := (Md.f26 M).trans (dst_ne (by decide))
theorem Mt.p26 (M : Mt b h0 h D s t) {v : Int} {P : PH → Prop} (H : ∀ h', Mt b h0 h' (dst D 0 26 v) s t → P h') : hk h b = 8 ∧ (∀ h', h' = hsi h b 26 v → P h') := Md.p26 M (fun h' M' => H h' (by unfold Mt; rw [dst_comm (Or.inr (by decide))] at M'; exact M'))
theorem Mt.f27 (M : Mt b h0 h D s t) : hi h b 27 = D 0 27 := (Md.f27 M).trans (dst_ne (by decide))
theorem Mt.p27 (M : Mt b h0 h D s t) {v : Int} {P : PH → Prop} (H : ∀ h', Mt b h0 h' (dst D 0 27 v) s t → P h') : hk h b = 8 ∧ (∀ h', h' = hsi h b 27 v → P h') := Md.p27 M (fun h' M' => H h' (by unfold Mt; rw [dst_comm (Or.inr (by decide))] at M'; exact M'))
theorem Mt.f28 (M : Mt b h0 h D s t) : hi h b 28 = D 0 28 := (Md.f28 M).trans (dst_ne (by decide))
theorem Mt.p28 (M : Mt b h0 h D s t) {v : Int} {P : PH → Prop} (H : ∀ h', Mt b h0 h' (dst D 0 28 v) s t → P h') : hk h b = 8 ∧ (∀ h', h' = hsi h b 28 v → P h') := Md.p28 M (fun h' M' => H h' (by unfold Mt; rw [dst_comm (Or.inr (by decide))] at M'; exact M'))
theorem Mt.f29 (M : Mt b h0 h D s t) : hi h b 29 = D 0 29 := (Md.f29 M).trans (dst_ne (by decide))
theorem Mt.p29 (M : Mt b h0 h D s t) {v : Int} {P : PH → Prop} (H : ∀ h', Mt b h0 h' (dst D 0 29 v) s t → P h') : hk h b = 8 ∧ (∀ h', h' = hsi h b 29 v → P h') := Md.p29 M (fun h' M' => H h' (by unfold Mt; rw [dst_comm (Or.inr (by decide))] at M'; exact M'))
theorem Mt.f30 (M : Mt b h0 h D s t) : hi h b 30 = D 0 30 := (Md.f30 M).trans (dst_ne (by decide))
theorem Mt.p30 (M : Mt b h0 h D s t) {v : Int} {P : PH → Prop} (H : ∀ h', Mt b h0 h' (dst D 0 30 v) s t → P h') : hk h b = 8 ∧ (∀ h', h' = hsi h b 30 v → P h') := Md.p30 M (fun h' M' => H h' (by unfold Mt; rw [dst_comm (Or.inr (by decide))] at M'; exact M'))
theorem Mt.f31 (M : Mt b h0 h D s t) : hi h b 31 = D 0 31 := (Md.f31 M).trans (dst_ne (by decide))
theorem Mt.p31 (M : Mt b h0 h D s t) {v : Int} {P : PH → Prop} (H : ∀ h', Mt b h0 h' (dst D 0 31 v) s t → P h') : hk h b = 8 ∧ (∀ h', h' = hsi h b 31 v → P h') := Md.p31 M (fun h' M' => H h' (by unfold Mt; rw [dst_comm (Or.inr (by decide))] at M'; exact M'))
theorem Mt.f32 (M : Mt b h0 h D s t) : hi h b 32 = D 0 32 := (Md.f32 M).trans (dst_ne (by decide))
theorem Mt.p32 (M : Mt b h0 h D s t) {v : Int} {P : PH → Prop} (H : ∀ h', Mt b h0 h' (dst D 0 32 v) s t → P h') : hk h b = 8 ∧ (∀ h', h' = hsi h b 32 v → P h') := Md.p32 M (fun h' M' => H h' (by unfold Mt; rw [dst_comm (Or.inr (by decide))] at M'; exact M'))
theorem Mt.f33 (M : Mt b h0 h D s t) : hi h b 33 = D 0 33 := (Md.f33 M).trans (dst_ne (by decide))
theorem Mt.p33 (M : Mt b h0 h D s t) {v : Int} {P : PH → Prop} (H : ∀ h', Mt b h0 h' (dst D 0 33 v) s t → P h') : hk h b = 8 ∧ (∀ h', h' = hsi h b 33 v → P h') := Md.p33 M (fun h' M' => H h' (by unfold Mt; rw [dst_comm (Or.inr (by decide))] at M'; exact M'))
theorem Mt.f34 (M : Mt b h0 h D s t) : hi h b 34 = D 0 34 := (Md.f34 M).trans (dst_ne (by decide))
theorem Mt.p34 (M : Mt b h0 h D s t) {v : Int} {P : PH → Prop} (H : ∀ h', Mt b h0 h' (dst D 0 34 v) s t → P h') : hk h b = 8 ∧ (∀ h', h' = hsi h b 34 v → P h') := Md.p34 M (fun h' M' => H h' (by unfold Mt; rw [dst_comm (Or.inr (by decide))] at M'; exact M'))
theorem Mt.f43 (M : Mt b h0 h D s t) : hi h b 43 = s (-1) := Md.f43 M
theorem Mt.p43 (M : Mt b h0 h D s t) {v : Int} {P : PH → Prop} (H : ∀ h', Mt b h0 h' D (ups s (-1) v) t → P h') : hk h b = 8 ∧ (∀ h', h' = hsi h b 43 v → P h') := Md.p43 M (fun h' M' => H h' M')
theorem Mt.f44 (M : Mt b h0 h D s t) : hi h b 44 = s (-2) := Md.f44 M
theorem Mt.p44 (M : Mt b h0 h D s t) {v : Int} {P : PH → Prop} (H : ∀ h', Mt b h0 h' D (ups s (-2) v) t → P h') : hk h b = 8 ∧ (∀ h', h' = hsi h b 44 v → P h') := Md.p44 M (fun h' M' => H h' M')
theorem Mt.f46 (M : Mt b h0 h D s t) : hi h b 46 = D 0 46 := (Md.f46 M).trans (dst_ne (by decide))
theorem Mt.p46 (M : Mt b h0 h D s t) {v : Int} {P : PH → Prop} (H : ∀ h', Mt b h0 h' (dst D 0 46 v) s t → P h') : hk h b = 8 ∧ (∀ h', h' = hsi h b 46 v → P h') := Md.p46 M (fun h' M' => H h' (by unfold Mt; rw [dst_comm (Or.inr (by decide))] at M'; exact M'))
theorem Mt.ld1 (M : Mt b h0 h D s t) {e : Int} {P : Prop} (h1 : 0 ≤ e) (h2 : e < 56) (H : hi h (b + 1) e.toNat = D 1 e → P) : (hk h (b + 1) = 20 ∨ hk h (b + 1) = 26) ∧ (0 ≤ e ∧ e < (hl h (b + 1) : Int)) ∧ P := Md.ld1 M h1 h2 H
theorem Mt.as1 (M : Mt b h0 h D s t) {e v : Int} {P : PH → Prop} (h1 : 0 ≤ e) (h2 : e < 56) (H : ∀ h', Mt b h0 h' (dst D 1 e v) s t → P h') : hk h (b + 1) = 20 ∧ (0 ≤ e ∧ e < (hl h (b + 1) : Int)) ∧ (∀ h', h' = hsi h (b + 1) e.toNat v → P h') := Md.as1 M h1 h2 (fun h' M' => H h' (by unfold Mt; rw [dst_comm (Or.inl (by decide))] at M'; exact M'))
theorem Mt.ld2 (M : Mt b h0 h D s t) {e : Int} {P : Prop} (h1 : 0 ≤ e) (h2 : e < 42) (H : hi h (b + 2) e.toNat = D 2 e → P) : (hk h (b + 2) = 20 ∨ hk h (b + 2) = 26) ∧ (0 ≤ e ∧ e < (hl h (b + 2) : Int)) ∧ P := Md.ld2 M h1 h2 H
theorem Mt.as2 (M : Mt b h0 h D s t) {e v : Int} {P : PH → Prop} (h1 : 0 ≤ e) (h2 : e < 42) (H : ∀ h', Mt b h0 h' (dst D 2 e v) s t → P h') : hk h (b + 2) = 20 ∧ (0 ≤ e ∧ e < (hl h (b + 2) : Int)) ∧ (∀ h', h' = hsi h (b + 2) e.toNat v → P h') := Md.as2 M h1 h2 (fun h' M' => H h' (by unfold Mt; rw [dst_comm (Or.inl (by decide))] at M'; exact M'))
theorem Mt.ld3 (M : Mt b h0 h D s t) {e : Int} {P : Prop} (h1 : 0 ≤ e) (h2 : e < 48) (H : hi h (b + 3) e.toNat = D 3 e → P) : (hk h (b + 3) = 20 ∨ hk h (b + 3) = 26) ∧ (0 ≤ e ∧ e < (hl h (b + 3) : Int)) ∧ P := Md.ld3 M h1 h2 H
theorem Mt.as3 (M : Mt b h0 h D s t) {e v : Int} {P : PH → Prop} (h1 : 0 ≤ e) (h2 : e < 48) (H : ∀ h', Mt b h0 h' (dst D 3 e v) s t → P h') : hk h (b + 3) = 20 ∧ (0 ≤ e ∧ e < (hl h (b + 3) : Int)) ∧ (∀ h', h' = hsi h (b + 3) e.toNat v → P h') := Md.as3 M h1 h2 (fun h' M' => H h' (by unfold Mt; rw [dst_comm (Or.inl (by decide))] at M'; exact M'))
theorem Mt.ld4 (M : Mt b h0 h D s t) {e : Int} {P : Prop} (h1 : 0 ≤ e) (h2 : e < 48) (H : hi h (b + 4) e.toNat = D 4 e → P) : (hk h (b + 4) = 20 ∨ hk h (b + 4) = 26) ∧ (0 ≤ e ∧ e < (hl h (b + 4) : Int)) ∧ P := Md.ld4 M h1 h2 H
theorem Mt.as4 (M : Mt b h0 h D s t) {e v : Int} {P : PH → Prop} (h1 : 0 ≤ e) (h2 : e < 48) (H : ∀ h', Mt b h0 h' (dst D 4 e v) s t → P h') : hk h (b + 4) = 20 ∧ (0 ≤ e ∧ e < (hl h (b + 4) : Int)) ∧ (∀ h', h' = hsi h (b + 4) e.toNat v → P h') := Md.as4 M h1 h2 (fun h' M' => H h' (by unfold Mt; rw [dst_comm (Or.inl (by decide))] at M'; exact M'))
theorem Mt.ld5 (M : Mt b h0 h D s t) {e : Int} {P : Prop} (h1 : 0 ≤ e) (h2 : e < 768) (H : hi h (b + 5) e.toNat = D 5 e → P) : (hk h (b + 5) = 20 ∨ hk h (b + 5) = 26) ∧ (0 ≤ e ∧ e < (hl h (b + 5) : Int)) ∧ P := Md.ld5 M h1 h2 H
theorem Mt.as5 (M : Mt b h0 h D s t) {e v : Int} {P : PH → Prop} (h1 : 0 ≤ e) (h2 : e < 768) (H : ∀ h', Mt b h0 h' (dst D 5 e v) s t → P h') : hk h (b + 5) = 20 ∧ (0 ≤ e ∧ e < (hl h (b + 5) : Int)) ∧ (∀ h', h' = hsi h (b + 5) e.toNat v → P h') := Md.as5 M h1 h2 (fun h' M' => H h' (by unfold Mt; rw [dst_comm (Or.inl (by decide))] at M'; exact M'))
theorem Mt.ld6 (M : Mt b h0 h D s t) {e : Int} {P : Prop} (h1 : 0 ≤ e) (h2 : e < 861) (H : hi h (b + 6) e.toNat = s e → P) : (hk h (b + 6) = 20 ∨ hk h (b + 6) = 26) ∧ (0 ≤ e ∧ e < (hl h (b + 6) : Int)) ∧ P := Md.ld6 M h1 h2 H
theorem Mt.as6 (M : Mt b h0 h D s t) {e v : Int} {P : PH → Prop} (h1 : 0 ≤ e) (h2 : e < 861) (H : ∀ h', Mt b h0 h' D (ups s e v) t → P h') : hk h (b + 6) = 20 ∧ (0 ≤ e ∧ e < (hl h (b + 6) : Int)) ∧ (∀ h', h' = hsi h (b + 6) e.toNat v → P h') := Md.as6 M h1 h2 (fun h' M' => H h' M')
theorem Mt.ld7 (M : Mt b h0 h D s t) {e : Int} {P : Prop} (h1 : 0 ≤ e) (h2 : e < 861) (H : hi h (b + 7) e.toNat = D 7 e → P) : (hk h (b + 7) = 20 ∨ hk h (b + 7) = 26) ∧ (0 ≤ e ∧ e < (hl h (b + 7) : Int)) ∧ P := Md.ld7 M h1 h2 H
theorem Mt.as7 (M : Mt b h0 h D s t) {e v : Int} {P : PH → Prop} (h1 : 0 ≤ e) (h2 : e < 861) (H : ∀ h', Mt b h0 h' (dst D 7 e v) s t → P h') : hk h (b + 7) = 20 ∧ (0 ≤ e ∧ e < (hl h (b + 7) : Int)) ∧ (∀ h', h' = hsi h (b + 7) e.toNat v → P h') := Md.as7 M h1 h2 (fun h' M' => H h' (by unfold Mt; rw [dst_comm (Or.inl (by decide))] at M'; exact M'))
theorem Mt.ld8 (M : Mt b h0 h D s t) {e : Int} {P : Prop} (h1 : 0 ≤ e) (h2 : e < 8610) (H : hi h (b + 8) e.toNat = D 8 e → P) : (hk h (b + 8) = 20 ∨ hk h (b + 8) = 26) ∧ (0 ≤ e ∧ e < (hl h (b + 8) : Int)) ∧ P := Md.ld8 M h1 h2 H
theorem Mt.as8 (M : Mt b h0 h D s t) {e v : Int} {P : PH → Prop} (h1 : 0 ≤ e) (h2 : e < 8610) (H : ∀ h', Mt b h0 h' (dst D 8 e v) s t → P h') : hk h (b + 8) = 20 ∧ (0 ≤ e ∧ e < (hl h (b + 8) : Int)) ∧ (∀ h', h' = hsi h (b + 8) e.toNat v → P h') := Md.as8 M h1 h2 (fun h' M' => H h' (by unfold Mt; rw [dst_comm (Or.inl (by decide))] at M'; exact M'))
theorem Mt.ld9 (M : Mt b h0 h D s t) {e : Int} {P : Prop} (h1 : 0 ≤ e) (h2 : e < 2) (H : hi h (b + 9) e.toNat = D 9 e → P) : hk h (b + 9) = 22 ∧ (0 ≤ e ∧ e < (hl h (b + 9) : Int)) ∧ P := Md.ld9 M h1 h2 H
theorem Mt.as9 (M : Mt b h0 h D s t) {e v : Int} {P : PH → Prop} (h1 : 0 ≤ e) (h2 : e < 2) (hv : v = 0 ∨ v = 1) (H : ∀ h', Mt b h0 h' (dst D 9 e v) s t → P h') : hk h (b + 9) = 22 ∧ (0 ≤ e ∧ e < (hl h (b + 9) : Int)) ∧ (v = 0 ∨ v = 1) ∧ (∀ h', h' = hsi h (b + 9) e.toNat v → P h') := Md.as9 M h1 h2 hv (fun h' M' => H h' (by unfold Mt; rw [dst_comm (Or.inl (by decide))] at M'; exact M'))
theorem Mt.ld10 (M : Mt b h0 h D s t) {e : Int} {P : Prop} (h1 : 0 ≤ e) (h2 : e < 700) (H : hi h (b + 10) e.toNat = D 10 e → P) : (hk h (b + 10) = 20 ∨ hk h (b + 10) = 26) ∧ (0 ≤ e ∧ e < (hl h (b + 10) : Int)) ∧ P := Md.ld10 M h1 h2 H
theorem Mt.as10 (M : Mt b h0 h D s t) {e v : Int} {P : PH → Prop} (h1 : 0 ≤ e) (h2 : e < 700) (H : ∀ h', Mt b h0 h' (dst D 10 e v) s t → P h') : hk h (b + 10) = 20 ∧ (0 ≤ e ∧ e < (hl h (b + 10) : Int)) ∧ (∀ h', h' = hsi h (b + 10) e.toNat v → P h') := Md.as10 M h1 h2 (fun h' M' => H h' (by unfold Mt; rw [dst_comm (Or.inl (by decide))] at M'; exact M'))
theorem Mt.ld11 (M : Mt b h0 h D s t) {e : Int} {P : Prop} (h1 : 0 ≤ e) (h2 : e < 56) (H : hi h (b + 11) e.toNat = D 11 e → P) : (hk h (b + 11) = 20 ∨ hk h (b + 11) = 26) ∧ (0 ≤ e ∧ e < (hl h (b + 11) : Int)) ∧ P := Md.ld11 M h1 h2 H
theorem Mt.as11 (M : Mt b h0 h D s t) {e v : Int} {P : PH → Prop} (h1 : 0 ≤ e) (h2 : e < 56) (H : ∀ h', Mt b h0 h' (dst D 11 e v) s t → P h') : hk h (b + 11) = 20 ∧ (0 ≤ e ∧ e < (hl h (b + 11) : Int)) ∧ (∀ h', h' = hsi h (b + 11) e.toNat v → P h') := Md.as11 M h1 h2 (fun h' M' => H h' (by unfold Mt; rw [dst_comm (Or.inl (by decide))] at M'; exact M'))
theorem Mt.ld12 (M : Mt b h0 h D s t) {e : Int} {P : Prop} (h1 : 0 ≤ e) (h2 : e < 42) (H : hi h (b + 12) e.toNat = D 12 e → P) : (hk h (b + 12) = 20 ∨ hk h (b + 12) = 26) ∧ (0 ≤ e ∧ e < (hl h (b + 12) : Int)) ∧ P := Md.ld12 M h1 h2 H
theorem Mt.as12 (M : Mt b h0 h D s t) {e v : Int} {P : PH → Prop} (h1 : 0 ≤ e) (h2 : e < 42) (H : ∀ h', Mt b h0 h' (dst D 12 e v) s t → P h') : hk h (b + 12) = 20 ∧ (0 ≤ e ∧ e < (hl h (b + 12) : Int)) ∧ (∀ h', h' = hsi h (b + 12) e.toNat v → P h') := Md.as12 M h1 h2 (fun h' M' => H h' (by unfold Mt; rw [dst_comm (Or.inl (by decide))] at M'; exact M'))
theorem Mt.ld13 (M : Mt b h0 h D s t) {e : Int} {P : Prop} (h1 : 0 ≤ e) (h2 : e < 24) (H : hi h (b + 13) e.toNat = D 13 e → P) : (hk h (b + 13) = 20 ∨ hk h (b + 13) = 26) ∧ (0 ≤ e ∧ e < (hl h (b + 13) : Int)) ∧ P := Md.ld13 M h1 h2 H
theorem Mt.as13 (M : Mt b h0 h D s t) {e v : Int} {P : PH → Prop} (h1 : 0 ≤ e) (h2 : e < 24) (H : ∀ h', Mt b h0 h' (dst D 13 e v) s t → P h') : hk h (b + 13) = 20 ∧ (0 ≤ e ∧ e < (hl h (b + 13) : Int)) ∧ (∀ h', h' = hsi h (b + 13) e.toNat v → P h') := Md.as13 M h1 h2 (fun h' M' => H h' (by unfold Mt; rw [dst_comm (Or.inl (by decide))] at M'; exact M'))
theorem Mt.ld14 (M : Mt b h0 h D s t) {e : Int} {P : Prop} (h1 : 0 ≤ e) (h2 : e < 6) (H : hi h (b + 14) e.toNat = D 14 e → P) : (hk h (b + 14) = 20 ∨ hk h (b + 14) = 26) ∧ (0 ≤ e ∧ e < (hl h (b + 14) : Int)) ∧ P := Md.ld14 M h1 h2 H
theorem Mt.as14 (M : Mt b h0 h D s t) {e v : Int} {P : PH → Prop} (h1 : 0 ≤ e) (h2 : e < 6) (H : ∀ h', Mt b h0 h' (dst D 14 e v) s t → P h') : hk h (b + 14) = 20 ∧ (0 ≤ e ∧ e < (hl h (b + 14) : Int)) ∧ (∀ h', h' = hsi h (b + 14) e.toNat v → P h') := Md.as14 M h1 h2 (fun h' M' => H h' (by unfold Mt; rw [dst_comm (Or.inl (by decide))] at M'; exact M'))
theorem Mt.ld15 (M : Mt b h0 h D s t) {e : Int} {P : Prop} (h1 : 0 ≤ e) (h2 : e < 48) (H : hi h (b + 15) e.toNat = D 15 e → P) : (hk h (b + 15) = 20 ∨ hk h (b + 15) = 26) ∧ (0 ≤ e ∧ e < (hl h (b + 15) : Int)) ∧ P := Md.ld15 M h1 h2 H
theorem Mt.as15 (M : Mt b h0 h D s t) {e v : Int} {P : PH → Prop} (h1 : 0 ≤ e) (h2 : e < 48) (H : ∀ h', Mt b h0 h' (dst D 15 e v) s t → P h') : hk h (b + 15) = 20 ∧ (0 ≤ e ∧ e < (hl h (b + 15) : Int)) ∧ (∀ h', h' = hsi h (b + 15) e.toNat v → P h') := Md.as15 M h1 h2 (fun h' M' => H h' (by unfold Mt; rw [dst_comm (Or.inl (by decide))] at M'; exact M'))
theorem Mt.ld16 (M : Mt b h0 h D s t) {e : Int} {P : Prop} (h1 : 0 ≤ e) (h2 : e < 48) (H : hi h (b + 16) e.toNat = D 16 e → P) : (hk h (b + 16) = 20 ∨ hk h (b + 16) = 26) ∧ (0 ≤ e ∧ e < (hl h (b + 16) : Int)) ∧ P := Md.ld16 M h1 h2 H
theorem Mt.as16 (M : Mt b h0 h D s t) {e v : Int} {P : PH → Prop} (h1 : 0 ≤ e) (h2 : e < 48) (H : ∀ h', Mt b h0 h' (dst D 16 e v) s t → P h') : hk h (b + 16) = 20 ∧ (0 ≤ e ∧ e < (hl h (b + 16) : Int)) ∧ (∀ h', h' = hsi h (b + 16) e.toNat v → P h') := Md.as16 M h1 h2 (fun h' M' => H h' (by unfold Mt; rw [dst_comm (Or.inl (by decide))] at M'; exact M'))
theorem Mt.ld17 (M : Mt b h0 h D s t) {e : Int} {P : Prop} (h1 : 0 ≤ e) (h2 : e < 768) (H : hi h (b + 17) e.toNat = D 17 e → P) : (hk h (b + 17) = 20 ∨ hk h (b + 17) = 26) ∧ (0 ≤ e ∧ e < (hl h (b + 17) : Int)) ∧ P := Md.ld17 M h1 h2 H
theorem Mt.as17 (M : Mt b h0 h D s t) {e v : Int} {P : PH → Prop} (h1 : 0 ≤ e) (h2 : e < 768) (H : ∀ h', Mt b h0 h' (dst D 17 e v) s t → P h') : hk h (b + 17) = 20 ∧ (0 ≤ e ∧ e < (hl h (b + 17) : Int)) ∧ (∀ h', h' = hsi h (b + 17) e.toNat v → P h') := Md.as17 M h1 h2 (fun h' M' => H h' (by unfold Mt; rw [dst_comm (Or.inl (by decide))] at M'; exact M'))
theorem Mt.ld18 (M : Mt b h0 h D s t) {e : Int} {P : Prop} (h1 : 0 ≤ e) (h2 : e < 36) (H : hi h (b + 18) e.toNat = D 18 e → P) : (hk h (b + 18) = 20 ∨ hk h (b + 18) = 26) ∧ (0 ≤ e ∧ e < (hl h (b + 18) : Int)) ∧ P := Md.ld18 M h1 h2 H
theorem Mt.as18 (M : Mt b h0 h D s t) {e v : Int} {P : PH → Prop} (h1 : 0 ≤ e) (h2 : e < 36) (H : ∀ h', Mt b h0 h' (dst D 18 e v) s t → P h') : hk h (b + 18) = 20 ∧ (0 ≤ e ∧ e < (hl h (b + 18) : Int)) ∧ (∀ h', h' = hsi h (b + 18) e.toNat v → P h') := Md.as18 M h1 h2 (fun h' M' => H h' (by unfold Mt; rw [dst_comm (Or.inl (by decide))] at M'; exact M'))
theorem Mt.ld19 (M : Mt b h0 h D s t) {e : Int} {P : Prop} (h1 : 0 ≤ e) (h2 : e < 600) (H : hi h (b + 19) e.toNat = D 19 e → P) : (hk h (b + 19) = 20 ∨ hk h (b + 19) = 26) ∧ (0 ≤ e ∧ e < (hl h (b + 19) : Int)) ∧ P := Md.ld19 M h1 h2 H
theorem Mt.as19 (M : Mt b h0 h D s t) {e v : Int} {P : PH → Prop} (h1 : 0 ≤ e) (h2 : e < 600) (H : ∀ h', Mt b h0 h' (dst D 19 e v) s t → P h') : hk h (b + 19) = 20 ∧ (0 ≤ e ∧ e < (hl h (b + 19) : Int)) ∧ (∀ h', h' = hsi h (b + 19) e.toNat v → P h') := Md.as19 M h1 h2 (fun h' M' => H h' (by unfold Mt; rw [dst_comm (Or.inl (by decide))] at M'; exact M'))
end MT
