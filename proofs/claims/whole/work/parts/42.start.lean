/-! the start in the plain machine -/
theorem stT_want : ∀ q ∈ stT, (∀ w ∈ wantS q.1 q.2.1 q.2.2, w ∈ FLT) ∧ Cond.stringRef q.1 q.2.1 q.2.2 ∈ lw_tbl := by
  intro q hq
  simp only [stT, List.mem_cons, List.not_mem_nil, or_false] at hq
  rcases hq with rfl | rfl | rfl | rfl | rfl | rfl | rfl | rfl | rfl | rfl | rfl | rfl | rfl | rfl | rfl | rfl | rfl | rfl | rfl | rfl | rfl | rfl | rfl | rfl | rfl
  · exact ⟨fs_0, lt_s0⟩
  · exact ⟨fs_1, lt_s1⟩
  · exact ⟨fs_2, lt_s2⟩
  · exact ⟨fs_3, lt_s3⟩
  · exact ⟨fs_4, lt_s4⟩
  · exact ⟨fs_5, lt_s5⟩
  · exact ⟨fs_6, lt_s6⟩
  · exact ⟨fs_7, lt_s7⟩
  · exact ⟨fs_8, lt_s8⟩
  · exact ⟨fs_9, lt_s9⟩
  · exact ⟨fs_10, lt_s10⟩
  · exact ⟨fs_11, lt_s11⟩
  · exact ⟨fs_12, lt_s12⟩
  · exact ⟨fs_13, lt_s13⟩
  · exact ⟨fs_14, lt_s14⟩
  · exact ⟨fs_15, lt_s15⟩
  · exact ⟨fs_16, lt_s16⟩
  · exact ⟨fs_17, lt_s17⟩
  · exact ⟨fs_18, lt_s18⟩
  · exact ⟨fs_19, lt_s19⟩
  · exact ⟨fs_20, lt_s20⟩
  · exact ⟨fs_21, lt_s21⟩
  · exact ⟨fs_22, lt_s22⟩
  · exact ⟨fs_23, lt_s23⟩
  · exact ⟨fs_24, lt_s24⟩
theorem saT_want : ∀ j n, saT[j]? = some n → j < 5 ∧ (∀ w ∈ wantA n (saV.getD j []), w ∈ FLT) ∧ Cond.laysStatic "FadingSignals" n "[I" ∈ lw_tbl := by
  intro j n h
  match j, h with
  | 0, h => cases h; exact ⟨by decide, fa_0, lt_a0⟩
  | 1, h => cases h; exact ⟨by decide, fa_1, lt_a1⟩
  | 2, h => cases h; exact ⟨by decide, fa_2, lt_a2⟩
  | 3, h => cases h; exact ⟨by decide, fa_3, lt_a3⟩
  | 4, h => cases h; exact ⟨by decide, fa_4, lt_a4⟩
  | j + 5, h => exact absurd h (by simp [saT])
/-- the plain heap at the start: the script of L ints xs in the cell 1 -/
def sH (L : Nat) (xs : Nat → Int32) : PH := (64, (fun r => if r = 1 then (26, L) else if 2 ≤ r ∧ r < 7 then (26, (saV.getD (r - 2) []).length) else if 10 ≤ r ∧ r < 35 then (27, (stT.getD (r - 10) ("", 0, "")).2.2.length) else (0, 0)),
  (fun r k => if r = 1 then (xs k).toInt else if 2 ≤ r ∧ r < 7 then (saV.getD (r - 2) []).getD k 0 else (((stT.getD (r - 10) ("", 0, "")).2.2.toList.getD k 'a').toNat : Int)), fun _ _ => 0)
section START
variable {s : State} {b : Nat}
theorem str_of (hts : ∀ w ∈ lw_tbl, w.before #[Value.ref b] s = true) (hfl : ∀ w ∈ FLT, w.before #[Value.ref b] s = true) : ∀ q ∈ stT, ∃ a v : Nat, vk_R q.1 q.2.1 q.2.2 a s ∧ va_O RJ0 a (fun q => s.heap.size ≤ q) s s.heap ∧ va_OF RJ0 "coder" "B" (.int 0) a (fun q => s.heap.size ≤ q) s s.heap ∧ va_OF RJ0 "value" "[B" (.ref v) a (fun q => s.heap.size ≤ q) s s.heap ∧ va_T .byte v q.2.2.length (cnv q.2.2) (fun q => s.heap.size ≤ q) s s.heap := by
  intro q hq
  obtain ⟨hw, hr⟩ := stT_want q hq
  have hA : ∀ a : Nat, a < s.heap.size → ¬ s.heap.size ≤ a := fun a ha => Nat.not_le.mpr ha
  have hN : ∀ q ∈ stT, q.2.2.length < 2 ^ 31 := by decide +kernel
  obtain ⟨ex, co, ar, le, el⟩ : (Cond.exactly (.string q.1 q.2.1) "java/lang/String").before #[Value.ref b] s = true ∧ (Cond.eq (.field (.string q.1 q.2.1) "java/lang/String" "coder" "B") (.int 0)).before #[Value.ref b] s = true ∧ (Cond.arrayOf (strF q.1 q.2.1) .byte).before #[Value.ref b] s = true ∧ (Cond.eq (.length (strF q.1 q.2.1)) (.int (Int32.ofNat q.2.2.length))).before #[Value.ref b] s = true ∧ ∀ j, j < q.2.2.length → (Cond.eq (.elem (strF q.1 q.2.1) (.int (Int32.ofNat j))) (.int (oI ((q.2.2.toList.getD j 'a').toNat : Int)))).before #[Value.ref b] s = true := by
    refine ⟨hfl _ (hw _ (by simp [wantS])), hfl _ (hw _ (by simp [wantS])), hfl _ (hw _ (by simp [wantS])), hfl _ (hw _ (by simp [wantS])), fun j hj => hfl _ (hw _ ?_)⟩
    unfold wantS
    exact List.mem_append.mpr (Or.inr (List.mem_map.mpr ⟨j, List.mem_range.mpr hj, rfl⟩))
  obtain ⟨a, c, cA, kA, q1, q2, q3, q4, q5, q6, -⟩ := Cond.exactly_spec (args := #[Value.ref b]) (first := s) (o := none) (s := s) (idx := []) ex
  obtain ⟨t, ht, hT⟩ := va_Tof (f := cnv q.2.2) (A := fun q => s.heap.size ≤ q) (hN q hq) ar (va_eqt le) (fun j hj => va_eqt (el j hj)) hA
  exact ⟨a, t, vk_R.of (hts _ hr) q1, ⟨cA, q3, q5, by rw [q6]; exact q2, hA a (Array.getElem?_eq_some_iff.mp q3).1⟩, vk_OFof q1 (va_eqt co) hA, vk_OFof q1 ht hA, hT⟩
theorem sta_of (hts : ∀ w ∈ lw_tbl, w.before #[Value.ref b] s = true) (hfl : ∀ w ∈ FLT, w.before #[Value.ref b] s = true) : ∀ j n, saT[j]? = some n → ∃ a : Nat, va_Z "FadingSignals" n "[I" (.ref a) (fun q => s.heap.size ≤ q) s s.heap ∧ va_T .int a (saV.getD j []).length (fun k => .int (oI ((saV.getD j []).getD k 0))) (fun q => s.heap.size ≤ q) s s.heap := by
  intro j n h
  obtain ⟨hj, hw, hl⟩ := saT_want j n h
  have hA : ∀ a : Nat, a < s.heap.size → ¬ s.heap.size ≤ a := fun a ha => Nat.not_le.mpr ha
  have hN : ∀ j, j < 5 → (saV.getD j []).length < 2 ^ 31 := by decide +kernel
  obtain ⟨ar, le, el⟩ : (Cond.arrayOf (.static "FadingSignals" n "[I") .int).before #[Value.ref b] s = true ∧ (Cond.eq (.length (.static "FadingSignals" n "[I")) (.int (Int32.ofNat (saV.getD j []).length))).before #[Value.ref b] s = true ∧ ∀ k, k < (saV.getD j []).length → (Cond.eq (.elem (.static "FadingSignals" n "[I") (.int (Int32.ofNat k))) (.int (oI ((saV.getD j []).getD k 0)))).before #[Value.ref b] s = true := by
    refine ⟨hfl _ (hw _ (by simp [wantA])), hfl _ (hw _ (by simp [wantA])), fun k hk => hfl _ (hw _ ?_)⟩
    unfold wantA
    exact List.mem_append.mpr (Or.inr (List.mem_map.mpr ⟨k, List.mem_range.mpr hk, rfl⟩))
  obtain ⟨t, ht, hT⟩ := va_Tof (f := fun k => .int (oI ((saV.getD j []).getD k 0))) (A := fun q => s.heap.size ≤ q) (hN j hj) ar (va_eqt le) (fun k hk => va_eqt (el k hk)) hA
  exact ⟨t, va_Zref (hts _ hl) (hts _ lt_fs) ht hA, hT⟩
theorem vx_L.start {C n d : String} {A : Nat → Prop} {args : Array Value} (hl : (Cond.laysStatic C n d).before args s = true) (hA : ∀ a : Nat, a < s.heap.size → ¬ A a) : vx_L C n d A s s.heap := by
  obtain ⟨c, k, i, f, a, cell, hc, hi, hst, ha, hcell, hs, hcls, hlt, hty⟩ := Cond.laysStatic_spec hl
  exact ⟨c, k, i, f, a, cell, hc, hi, hst, ha, hcell, hs, hcls, hlt, hty, hA a (Array.getElem?_eq_some_iff.mp hcell).1⟩
/-- the world of the start -/
theorem start_of (hts : ∀ w ∈ lw_tbl, w.before #[Value.ref b] s = true) (hfl : ∀ w ∈ FLT, w.before #[Value.ref b] s = true) {L : Nat} {xs : Nat → Int32} (hL : L ≤ 3072) (hX : va_X b L xs s s.heap) (hb : b < s.heap.size) : ∃ θ : TH, θ.1 = s ∧ θ.2.1 1 = b ∧ WF θ ∧ EXC θ ∧ EN θ s ∧ RepS θ (sH L xs) s.heap [] := by
  have hA : ∀ a : Nat, a < s.heap.size → ¬ s.heap.size ≤ a := fun a ha => Nat.not_le.mpr ha
  have hg : ∀ w ∈ TBLg, w.before #[Value.ref b] s = true := fun w hw => hts w (List.mem_filter.mp hw).1
  have ins : ∀ ci, ci < 8 → Cond.instantiable (clR ci) (clN ci) ∈ lw_tbl := by
    intro ci hci
    have : ci = 0 ∨ ci = 1 ∨ ci = 2 ∨ ci = 3 ∨ ci = 4 ∨ ci = 5 ∨ ci = 6 ∨ ci = 7 := by omega
    rcases this with rfl | rfl | rfl | rfl | rfl | rfl | rfl | rfl
    · exact lt_n0
    · exact lt_n1
    · exact lt_n2
    · exact lt_n3
    · exact lt_n4
    · exact lt_n5
    · exact lt_n6
    · exact lt_n7
  have h1 : ∀ ci : Nat, ∃ z : ClassId × (Nat → Nat), ci < 8 → u_Kn s (clR ci) (clT ci) (clN ci) z.1 z.2 := by
    intro ci
    by_cases hci : ci < 8
    · obtain ⟨cC, iS, hk⟩ := u_known (C := clR ci) (T := clT ci) (N := clN ci) (n := clN ci) hg (lays ci hci) (hts _ (ins ci hci))
      exact ⟨(cC, iS), fun _ => hk⟩
    · obtain ⟨cC, iS, hk⟩ := u_known (C := clR 0) (T := clT 0) (N := clN 0) (n := clN 0) hg (lays 0 (by decide)) (hts _ (ins 0 (by decide)))
      exact ⟨(cC, iS), fun h => absurd h hci⟩
  obtain ⟨kc, hkc⟩ := Classical.axiomOfChoice h1
  have h2 : ∀ j : Nat, ∃ z : Nat × Nat, ∀ q, stT[j]? = some q → vk_R q.1 q.2.1 q.2.2 z.1 s ∧ va_O RJ0 z.1 (fun q => s.heap.size ≤ q) s s.heap ∧ va_OF RJ0 "coder" "B" (.int 0) z.1 (fun q => s.heap.size ≤ q) s s.heap ∧ va_OF RJ0 "value" "[B" (.ref z.2) z.1 (fun q => s.heap.size ≤ q) s s.heap ∧ va_T .byte z.2 q.2.2.length (cnv q.2.2) (fun q => s.heap.size ≤ q) s s.heap := by
    intro j
    cases hj : stT[j]? with
    | none => exact ⟨(0, 0), fun q hq => nomatch hq⟩
    | some q =>
      obtain ⟨a, v, hh⟩ := str_of hts hfl q (List.mem_of_getElem? hj)
      exact ⟨(a, v), fun q' hq' => by cases hq'; exact hh⟩
  obtain ⟨ks, hks⟩ := Classical.axiomOfChoice h2
  have h3 : ∀ j : Nat, ∃ a : Nat, ∀ n, saT[j]? = some n → va_Z "FadingSignals" n "[I" (.ref a) (fun q => s.heap.size ≤ q) s s.heap ∧ va_T .int a (saV.getD j []).length (fun k => .int (oI ((saV.getD j []).getD k 0))) (fun q => s.heap.size ≤ q) s s.heap := by
    intro j
    cases hj : saT[j]? with
    | none => exact ⟨0, fun n hn => nomatch hn⟩
    | some n =>
      obtain ⟨a, hh⟩ := sta_of hts hfl j n hj
      exact ⟨a, fun n' hn' => by cases hn'; exact hh⟩
  obtain ⟨ka, hka⟩ := Classical.axiomOfChoice h3
  let θ : TH := (s, (fun r => if r = 1 then b else if r < 10 then ka (r - 2) else (ks (r - 10)).1), (fun ci => (kc ci).1), fun ci => (kc ci).2)
  have e10 : ∀ j, θ.2.1 (10 + j) = (ks j).1 := by
    intro j
    show (if 10 + j = 1 then b else if 10 + j < 10 then ka (10 + j - 2) else (ks (10 + j - 10)).1) = _
    rw [if_neg (by omega), if_neg (by omega), show 10 + j - 10 = j by omega]
  have e2 : ∀ j, j < 8 → θ.2.1 (2 + j) = ka j := by
    intro j hj
    show (if 2 + j = 1 then b else if 2 + j < 10 then ka (2 + j - 2) else (ks (2 + j - 10)).1) = _
    rw [if_neg (by omega), if_pos (by omega), show 2 + j - 2 = j by omega]
  have hTW : TW θ := by
    refine ⟨fun ci hci => hkc ci hci, fun j n hn => ?_⟩
    rw [e2 j (by have := (saT_want j n hn).1; omega)]
    exact (hka j n hn).1
  have hSF : SF θ := by
    refine ⟨va_Zof (hts _ lt_cs) (hts _ lt_is) (va_eqi (hfl _ (fg_cs _ (by simp)))) hA, ?_, fun j q hq => ?_⟩
    · rcases va_Zqof (hts _ lt_sf) (hts _ lt_ip) (hfl _ (fg_sf _ (by simp))) hA with h | ⟨t, h⟩
      · exact ⟨_, Or.inl rfl, h⟩
      · exact ⟨_, Or.inr ⟨t, rfl⟩, h⟩
    · obtain ⟨-, g1, g2, g3, g4⟩ := hks j q hq
      rw [e10 j]
      exact ⟨_, g1, g2, g3, g4⟩
  have hTH : THR θ := ⟨⟨va_Zqof (hts _ lt_us) (hts _ lt_th) (hfl _ (fg_us _ (by simp))) hA, vx_L.start (hts _ lt_us) hA⟩, ⟨va_Zqof (hts _ lt_ss) (hts _ lt_th) (hfl _ (fg_ss _ (by simp))) hA, vx_L.start (hts _ lt_ss) hA⟩⟩
  have hEX : EXC θ := by
    refine ⟨fun i j hi hj hne => ?_, fun i hi => ?_⟩
    · have hi : i = 0 ∨ i = 1 ∨ i = 2 := by omega
      have hj : j = 0 ∨ j = 1 ∨ j = 2 := by omega
      rcases hi with rfl | rfl | rfl <;> rcases hj with rfl | rfl | rfl
      · exact absurd rfl hne
      · exact va_Nc.of (hfl _ (fx_0_1 _ (by simp)))
      · exact va_Nc.of (hfl _ (fx_0_2 _ (by simp)))
      · exact va_Nc.of (hfl _ (fx_1_0 _ (by simp)))
      · exact absurd rfl hne
      · exact va_Nc.of (hfl _ (fx_1_2 _ (by simp)))
      · exact va_Nc.of (hfl _ (fx_2_0 _ (by simp)))
      · exact va_Nc.of (hfl _ (fx_2_1 _ (by simp)))
      · exact absurd rfl hne
    · have hi : i = 0 ∨ i = 1 ∨ i = 2 := by omega
      rcases hi with rfl | rfl | rfl
      · exact List.mem_filter.mpr ⟨lt_x0, rfl⟩
      · exact List.mem_filter.mpr ⟨lt_x1, rfl⟩
      · exact List.mem_filter.mpr ⟨lt_x2, rfl⟩
  have hEN : EN θ s := by
    refine ⟨Vm.Alike.refl _, fun w hw => va_Nw.of (tbn_tab hw) (hts w (List.mem_filter.mp hw).1), fun j q hq => ?_, hts _ lt_ao⟩
    rw [e10 j]
    exact (hks j q hq).1
  refine ⟨θ, rfl, rfl, ⟨hTW, lays, hTH, strr hSF⟩, hEX, hEN, ⟨Nat.le_refl 64, rfl, fun _ _ => rfl, ?_⟩, fun l hl => nomatch hl⟩
  intro r hr
  have hkk : hk (sH L xs) r = (if r = 1 then (26, L) else if 2 ≤ r ∧ r < 7 then (26, (saV.getD (r - 2) []).length) else if 10 ≤ r ∧ r < 35 then (27, (stT.getD (r - 10) ("", 0, "")).2.2.length) else ((0, 0) : Nat × Nat)).1 := rfl
  have hll : hl (sH L xs) r = (if r = 1 then (26, L) else if 2 ≤ r ∧ r < 7 then (26, (saV.getD (r - 2) []).length) else if 10 ≤ r ∧ r < 35 then (27, (stT.getD (r - 10) ("", 0, "")).2.2.length) else ((0, 0) : Nat × Nat)).2 := rfl
  by_cases r1 : r = 1
  · subst r1
    rw [if_pos rfl] at hkk hll
    obtain ⟨scr, x1, x2, x3, x4, x5⟩ := hX
    refine ⟨by decide, by show 1 < 64; omega, fun _ => ⟨Or.inl hkk, hb⟩, fun h => absurd h (by omega), fun h => absurd (hkk.symm.trans h) (by show ¬ ((26 : Nat) = 27); omega), fun _ => ⟨scr, x1, ?_⟩⟩
    unfold cOK
    rw [hkk]
    refine ⟨x2, x3, ⟨by rw [hll, x4]; exact Nat.le_refl _, by rw [hll, x4]; exact sz32 L⟩, by rw [hll]; show L < _; omega, fun j hj => ?_⟩
    rw [hll] at hj
    rw [x5 j hj]
    show some (Value.int (xs j)) = some (.int (oI (xs j).toInt))
    rw [oI_of]
  · by_cases r2 : 2 ≤ r ∧ r < 7
    · rw [if_neg r1, if_pos r2] at hkk hll
      obtain ⟨j, rfl, hj⟩ : ∃ j, r = 2 + j ∧ j < 5 := ⟨r - 2, by omega, by omega⟩
      rw [show 2 + j - 2 = j by omega] at hll
      obtain ⟨n, hn⟩ : ∃ n, saT[j]? = some n := ⟨_, List.getElem?_eq_getElem (show j < saT.length from hj)⟩
      obtain ⟨cell, x1, x2, x3, x4, x5, x6, x7⟩ := (hka j n hn).2
      have ht : tad θ (2 + j) = ka j := by
        unfold tad
        rw [if_pos (by omega), e2 j (by omega)]
      refine ⟨by omega, by show 2 + j < 64; omega, fun _ => ⟨Or.inl hkk, ?_⟩, fun h => absurd h (by omega), fun h => absurd (hkk.symm.trans h) (by show ¬ ((26 : Nat) = 27); omega), fun _ => ⟨cell, by rw [ht]; exact x1, ?_⟩⟩
      · rw [e2 j (by omega)]
        exact (Array.getElem?_eq_some_iff.mp x1).1
      unfold cOK
      rw [hkk]
      have hN : ∀ j, j < 5 → (saV.getD j []).length < 2147483648 := by decide +kernel
      refine ⟨x2, x3, ⟨by rw [hll]; exact x4, by rw [hll, x5]; exact sz32 _⟩, by rw [hll]; exact hN j hj, fun k hk' => ?_⟩
      rw [hll] at hk'
      rw [x6 k hk']
      have : hi (sH L xs) (2 + j) k = (saV.getD j []).getD k 0 := by
        show (if 2 + j = 1 then (xs k).toInt else if 2 ≤ 2 + j ∧ 2 + j < 7 then (saV.getD (2 + j - 2) []).getD k 0 else _) = _
        rw [if_neg (by omega), if_pos (by omega), show 2 + j - 2 = j by omega]
      show some (Value.int (oI ((saV.getD j []).getD k 0))) = some (Value.int (oI (hi (sH L xs) (2 + j) k)))
      rw [this]
    · by_cases r3 : 10 ≤ r ∧ r < 35
      · rw [if_neg r1, if_neg r2, if_pos r3] at hkk hll
        obtain ⟨j, rfl, hj⟩ : ∃ j, r = 10 + j ∧ j < 25 := ⟨r - 10, by omega, by omega⟩
        rw [show 10 + j - 10 = j by omega] at hll
        obtain ⟨q, hq⟩ : ∃ q, stT[j]? = some q := ⟨_, List.getElem?_eq_getElem (show j < stT.length from hj)⟩
        have hgd : stT.getD j ("", 0, "") = q := by
          rw [List.getD_eq_getElem?_getD, hq]
          rfl
        rw [hgd] at hll
        obtain ⟨-, ⟨cell, x1, -⟩, -⟩ := hks j q hq
        refine ⟨by omega, by show 10 + j < 64; omega, fun _ => ⟨Or.inr hkk, ?_⟩, fun h => absurd h (by omega), fun _ => ⟨q, by rw [show 10 + j - 10 = j by omega]; exact hq, by omega, by omega, hll, fun k hk' => ?_⟩, fun h => absurd hkk h⟩
        · rw [e10 j]
          exact (Array.getElem?_eq_some_iff.mp x1).1
        · show (if 10 + j = 1 then (xs k).toInt else if 2 ≤ 10 + j ∧ 10 + j < 7 then (saV.getD (10 + j - 2) []).getD k 0 else (((stT.getD (10 + j - 10) ("", 0, "")).2.2.toList.getD k 'a').toNat : Int)) = _
          rw [if_neg (by omega), if_neg (by omega), show 10 + j - 10 = j by omega, hgd]
      · rw [if_neg r1, if_neg r2, if_neg r3] at hkk
        exact absurd hkk hr
end START
