/-! the class reads a text: its head -/
theorem emH_z {E : Nat → Int → Int} : (∀ j m, (j, m) ∈ [(1, (4 : Int)), (2, 24), (3, 48), (4, 6), (5, 24), (7, 6), (10, 6), (12, 6)] → ∀ e, 0 ≤ e → e < m → emH E j e = 0) ∧ emH E 6 = E 6 ∧ emH E 9 = E 9 := by
  have o : ∀ j, j ≠ 0 → emH E j = (zrw 10 6 0 (zrw 7 6 0 (zrw 12 6 0 (zrw 5 24 0 (zrw 4 6 0 (zrw 3 48 0 (zrw 2 24 0 (zrw 1 4 0 E)))))))) j := fun j a => by
    unfold emH
    rw [dst_row a, dst_row a, dst_row a, dst_row a, dst_row a, dst_row a]
  refine ⟨fun j m hm e h0 h1 => ?_, ?_, ?_⟩
  · simp only [List.mem_cons, Prod.mk.injEq, List.not_mem_nil, or_false] at hm
    rcases hm with ⟨rfl, rfl⟩ | ⟨rfl, rfl⟩ | ⟨rfl, rfl⟩ | ⟨rfl, rfl⟩ | ⟨rfl, rfl⟩ | ⟨rfl, rfl⟩ | ⟨rfl, rfl⟩ | ⟨rfl, rfl⟩
    · rw [o _ (by decide), zrw_row (by decide), zrw_row (by decide), zrw_row (by decide), zrw_row (by decide), zrw_row (by decide), zrw_row (by decide), zrw_row (by decide), zrw_at (by omega)]
    · rw [o _ (by decide), zrw_row (by decide), zrw_row (by decide), zrw_row (by decide), zrw_row (by decide), zrw_row (by decide), zrw_row (by decide), zrw_at (by omega)]
    · rw [o _ (by decide), zrw_row (by decide), zrw_row (by decide), zrw_row (by decide), zrw_row (by decide), zrw_row (by decide), zrw_at (by omega)]
    · rw [o _ (by decide), zrw_row (by decide), zrw_row (by decide), zrw_row (by decide), zrw_row (by decide), zrw_at (by omega)]
    · rw [o _ (by decide), zrw_row (by decide), zrw_row (by decide), zrw_row (by decide), zrw_at (by omega)]
    · rw [o _ (by decide), zrw_row (by decide), zrw_at (by omega)]
    · rw [o _ (by decide), zrw_at (by omega)]
    · rw [o _ (by decide), zrw_row (by decide), zrw_row (by decide), zrw_at (by omega)]
  · rw [o _ (by decide), zrw_row (by decide), zrw_row (by decide), zrw_row (by decide), zrw_row (by decide), zrw_row (by decide), zrw_row (by decide), zrw_row (by decide), zrw_row (by decide)]
  · rw [o _ (by decide), zrw_row (by decide), zrw_row (by decide), zrw_row (by decide), zrw_row (by decide), zrw_row (by decide), zrw_row (by decide), zrw_row (by decide), zrw_row (by decide)]
/-- the hall behind the head, against what the model's becomes -/
theorem head_HR {E D : Nat → Int → Int} {s : Int → Int} {v0 v1 v2 v3 : Int} (e6 : E 6 0 = 13) (e9 : E 9 0 = 4) (e34 : D 0 34 = 0) (u0 : v0 = D 0 27) (u1 : v1 = D 0 28) (u2 : v2 = D 0 29) (u3 : v3 = D 0 30) (h14 : ∀ p, 0 ≤ p → p < 6 → D 14 p = 0) (sw : s (-1) = -1) :
    HR (dst (dst (dst (dst (emH E) 1 0 v0) 1 1 v1) 1 2 v2) 1 3 v3) (D 0 30) 0 (bcS D s) := by
  have z := (emH_z (E := E)).1
  have b : bcS D s = b4 (bcD D) s := by
    rw [bcS_as, e34]
    rfl
  have bz : ∀ e, 0 ≤ e → e < 861 → (e < 10 ∨ 36 < e) → (e < 85 ∨ 90 < e) → bcS D s e = 0 := fun e a a1 a2 a3 => by
    rw [b, b4_bc, if_neg (by omega), if_neg (by omega), if_neg (by omega), if_neg (by omega), if_neg (by omega), if_pos ⟨a, a1⟩]
  have r : ∀ j, j ≠ 1 → dst (dst (dst (dst (emH E) 1 0 v0) 1 1 v1) 1 2 v2) 1 3 v3 j = emH E j := fun j a => by rw [dst_row a, dst_row a, dst_row a, dst_row a]
  refine ⟨⟨?_, ?_, ?_⟩, ⟨fun e a a1 => ?_, fun e a a1 a2 => absurd a2 (by omega), fun e a a1 => ?_, fun e a a1 => ?_, fun e a a1 => ?_, fun e a a1 => ?_, fun e a a1 => ?_, fun e a a1 => ?_⟩, fun p i w a a1 a2 a3 _ _ => ?_, fun p i a a1 a2 a3 => ?_, fun j w a a1 a2 _ _ => ?_, ?_⟩
  · rw [r 6 (by decide), emH_z.2.1]; exact e6
  · rw [r 9 (by decide), emH_z.2.2]; exact e9
  · rw [dst_eq]; exact u3
  · have he : e = 0 ∨ e = 1 ∨ e = 2 := by omega
    rcases he with rfl | rfl | rfl
    · rw [dst_ne (by decide), dst_ne (by decide), dst_ne (by decide), dst_eq, b, b4_bc, if_neg (by decide), if_neg (by decide), if_neg (by decide), if_neg (by decide), if_pos (by decide)]; exact u0
    · rw [dst_ne (by decide), dst_ne (by decide), dst_eq, b, b4_bc, if_neg (by decide), if_neg (by decide), if_neg (by decide), if_pos (by decide)]; exact u1
    · rw [dst_ne (by decide), dst_eq, b, b4_bc, if_neg (by decide), if_neg (by decide), if_pos (by decide)]; exact u2
  · rw [r 3 (by decide), z 3 48 (by decide) e a a1, bz _ (by omega) (by omega) (by omega) (by omega)]
  · rw [r 4 (by decide), z 4 6 (by decide) e a a1, b, b4_bc, if_pos (by omega)]
    exact (h14 _ (by omega) (by omega)).symm
  · rw [r 5 (by decide), z 5 24 (by decide) e a a1, bz _ (by omega) (by omega) (by omega) (by omega)]
  · rw [r 7 (by decide), z 7 6 (by decide) e a a1, bz _ (by omega) (by omega) (by omega) (by omega)]
  · rw [r 10 (by decide), z 10 6 (by decide) e a a1, bz _ (by omega) (by omega) (by omega) (by omega)]
  · rw [r 12 (by decide), z 12 6 (by decide) e a a1, bz _ (by omega) (by omega) (by omega) (by omega)]
  · rw [bz _ (by omega) (by omega) (by omega) (by omega)] at a3; omega
  · rw [bz _ (by omega) (by omega) (by omega) (by omega)] at a3; omega
  · rw [bz _ (by omega) (by omega) (by omega) (by omega)] at a2; omega
  · have m1 : bcS D s (-1) = -1 := by
      rw [b, b4_bc, if_neg (by omega), if_neg (by omega), if_neg (by omega), if_neg (by omega), if_neg (by omega), if_neg (by omega)]; exact sw
    unfold HRf
    rw [r 0 (by decide), bz 2 (by omega) (by omega) (by omega) (by omega), bz 0 (by omega) (by omega) (by omega) (by omega), bz 1 (by omega) (by omega) (by omega) (by omega), bz 3 (by omega) (by omega) (by omega) (by omega), m1]
    exact ⟨rfl, rfl, rfl, rfl, rfl, fun c => absurd rfl c⟩
section HDT
variable {d p b : Nat} {h0 h : PH} {ES EP E D : Nat → Int → Int} {f1 f2 : Int → Int} {K1 K2 : Int} {s : Int → Int} {Q : Int → PH → Prop} {X : Nat → PH → Prop}
theorem set_38 {w : Int} (Z : PWs h0 h p b ES EP E D f1 f2 K1 K2) (R : PR D) (hw : 0 ≤ w ∧ w < 4) (H : ∀ v h' ES', PWs h0 h' p b ES' EP (dst E 1 w v) (gD (tkE D (slo w) (shi w))) f1 f2 K1 K2 → ES' 0 8 = ES 0 8 → (tkE D (slo w) (shi w) 0 25 = 0 → v = tvV D (slo w) (shi w)) → WP k_X4_readText [] (RUN GQ (d + 10)) 0 0 (d + 11) Q X 38 [some (pA p), some (pI (w + 1))] [] h' 0 0) :
    WP k_X4_readText [] (RUN GQ (d + 10)) 0 0 (d + 11) Q X 38 [some (pA p), some (pI w)] [] h 0 0 := by
  refine WP.of (RUN.mono GQ _) (cuts := [38, 73, 191]) (n := 400) (v_X4_readText_38 _ _ _ _ _ ?_)
  have g2 := Z.G.g2
  have g3 := Z.G.g3
  have rs : (0 ≤ slo w ∧ slo w ≤ 1) ∧ (0 ≤ shi w ∧ shi w ≤ 50) := by
    unfold slo shi
    (repeat' split) <;> omega
  refine ⟨ir (by omega) (by omega), ir (by omega) (by omega), fun _ => ⟨Z.k5, Or.inr g2.1, ⟨hw.1, by rw [g2.2.1]; omega⟩, Or.inr g3.1, ⟨hw.1, by rw [g3.2.1]; omega⟩, Z.k5, ?_⟩, fun c => absurd c (by omega)⟩
  rw [g2.2.2 w hw.1 (by omega), g3.2.2 w hw.1 (by omega), Z.r3]
  refine W_takeNumber Z R (ir (by omega) (by omega)) (ir (by omega) (by omega)) (fun v h1 ES1 Z1 q1 t1 => ⟨Z1.M.k 0 (by decide) rfl, ?_⟩)
  refine S_X0_putSetting Z1.M hw (fun x h2 ex M2 => ?_)
  exact H v h2 ES1 (Z1.m M2 Z1.e6 Z1.e9) q1 t1
end HDT
