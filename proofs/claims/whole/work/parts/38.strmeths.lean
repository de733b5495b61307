/-! the library's methods that length and charAt stand on -/
theorem i32_shr0 (x : Int32) : x >>> ((0 : Int32) &&& 31) = x := by
  rw [show ((0 : Int32) &&& 31) = 0 by decide]
  simp
theorem chr_nar : ∀ n : Nat, n < 128 → ((((oI (n : Int)) &&& 255).toUInt32 % 65536).toInt32 = oI (n : Int)) ∧ narrow .char (.int (oI (n : Int))) = .int (oI (n : Int)) := by decide +kernel
theorem sT_small : ∀ q ∈ stT, q.2.2.length < 100 ∧ ∀ ch ∈ q.2.2.toList, ch.toNat < 128 := by decide +kernel
theorem sT_ch {j : Nat} {q : String × Nat × String} (hj : stT[j]? = some q) {k : Nat} (hk : k < q.2.2.length) : (q.2.2.toList.getD k 'a').toNat < 128 := by
  have h := (sT_small q (List.mem_of_getElem? hj)).2
  have hl : k < q.2.2.toList.length := by rw [String.length_toList]; exact hk
  rw [List.getD_eq_getElem?_getD, List.getElem?_eq_getElem hl]
  exact h _ (List.getElem_mem _)
section STRM
variable {l : Launch} {θ : TH}
theorem r_cod {d : Nat} (hS : SF θ) {j : Nat} {q : String × Nat × String} (hj : stT[j]? = some q) {h : PH} : RC θ l d qS_cod [.ref (θ.2.1 (10 + j))] h (some (.int 0)) := by
  refine rc_of (by decide +kernel) rfl (by show 1 ≤ 1; omega) ?_
  intro p e s m args below meth c B hret hlk ls hls hR
  refine z_S B hR (fun hV => ?_)
  obtain ⟨hx, hb, hml, hown, hts, hE, hs0⟩ := id B
  obtain ⟨z1, -, z3⟩ := SF.at hS hE hs0
  obtain ⟨v, g1, g2, g3, g4⟩ := z3 j q hj
  refine va_gets hx hb z1 hV hown (hts _ w_535) (fun x hx => hx) (by decide +kernel : decode cJ0_coder_7d493 0 = .ok (.getstatic 38, 3)) ?_
  refine lv_if_eq hx hb (by decide +kernel : decode cJ0_coder_7d493 3 = .ok (.ifCond .eq 10, 3)) (tgt := 13) rfl (fun e => absurd e (by decide)) (fun _ => ?_)
  refine lv_aload_n hx hb (by decide +kernel : decode cJ0_coder_7d493 6 = .ok (.aload_n 0, 1)) rfl (lv_at hls 0 rfl) ?_
  refine vk_getf hx hb g2 hV hown (hts _ w_2025) (fun x hx => hx) (by decide +kernel : decode cJ0_coder_7d493 7 = .ok (.getfield 15, 3)) ?_
  refine lv_goto hx hb (by decide +kernel : decode cJ0_coder_7d493 10 = .ok (.goto 4, 3)) (tgt := 14) rfl ?_
  exact vx_ret (W.zret hx hb hret (by decide +kernel) (fun t ht _ => ⟨rfl, by rw [ht]; exact hR.1⟩) hR.2 (by decide +kernel : decode cJ0_coder_7d493 14 = .ok (.ireturn, 1)))
theorem r_lat {d : Nat} (hS : SF θ) {j : Nat} {q : String × Nat × String} (hj : stT[j]? = some q) {h : PH} : RC θ l d qS_lat [.ref (θ.2.1 (10 + j))] h (some (.int 1)) := by
  refine rc_of (by decide +kernel) rfl (by show 1 ≤ 1; omega) ?_
  intro p e s m args below meth c B hret hlk ls hls hR
  refine z_S B hR (fun hV => ?_)
  obtain ⟨hx, hb, hml, hown, hts, hE, hs0⟩ := id B
  obtain ⟨z1, -, z3⟩ := SF.at hS hE hs0
  obtain ⟨v, g1, g2, g3, g4⟩ := z3 j q hj
  refine va_gets hx hb z1 hV hown (hts _ w_535) (fun x hx => hx) (by decide +kernel : decode cJ0_isLatin1_aae02 0 = .ok (.getstatic 38, 3)) ?_
  refine lv_if_eq hx hb (by decide +kernel : decode cJ0_isLatin1_aae02 3 = .ok (.ifCond .eq 14, 3)) (tgt := 17) rfl (fun e => absurd e (by decide)) (fun _ => ?_)
  refine lv_aload_n hx hb (by decide +kernel : decode cJ0_isLatin1_aae02 6 = .ok (.aload_n 0, 1)) rfl (lv_at hls 0 rfl) ?_
  refine vk_getf hx hb g2 hV hown (hts _ w_2025) (fun x hx => hx) (by decide +kernel : decode cJ0_isLatin1_aae02 7 = .ok (.getfield 15, 3)) ?_
  refine lv_if_ne hx hb (by decide +kernel : decode cJ0_isLatin1_aae02 10 = .ok (.ifCond .ne 7, 3)) (tgt := 17) rfl (fun e => absurd rfl e) (fun _ => ?_)
  refine lv_iconst hx hb (by decide +kernel : decode cJ0_isLatin1_aae02 13 = .ok (.iconst 1, 1)) (v := 1) rfl ?_
  refine lv_goto hx hb (by decide +kernel : decode cJ0_isLatin1_aae02 14 = .ok (.goto 4, 3)) (tgt := 18) rfl ?_
  exact vx_ret (W.zret hx hb hret (by decide +kernel) (fun t ht _ => ⟨rfl, by rw [ht]; exact hR.1⟩) hR.2 (by decide +kernel : decode cJ0_isLatin1_aae02 18 = .ok (.ireturn, 1)))
theorem r_len {d : Nat} (hS : SF θ) {j : Nat} {q : String × Nat × String} (hj : stT[j]? = some q) {h : PH} : RC θ l (d + 1) qS_len [.ref (θ.2.1 (10 + j))] h (some (.int (oI (q.2.2.length : Int)))) := by
  refine rc_of (by decide +kernel) rfl (by show 1 ≤ 1; omega) ?_
  intro p e s m args below meth c B hret hlk ls hls hR
  refine z_S B hR (fun hV => ?_)
  obtain ⟨hx, hb, hml, hown, hts, hE, hs0⟩ := id B
  obtain ⟨z1, -, z3⟩ := SF.at hS hE hs0
  obtain ⟨v, g1, g2, g3, g4⟩ := z3 j q hj
  refine lv_aload_n hx hb (by decide +kernel : decode cJ0_length_8abf5 0 = .ok (.aload_n 0, 1)) rfl (lv_at hls 0 rfl) ?_
  refine vk_getf hx hb g3 hV hown (hts _ w_2024) (fun x hx => hx) (by decide +kernel : decode cJ0_length_8abf5 1 = .ok (.getfield 9, 3)) ?_
  refine va_tlen hx hb g4 hV (v := oI (q.2.2.length : Int)) (by show Int32.ofNat _ = Int32.ofInt _; exact (Int32.ofInt_eq_ofNat ..).symm) (by decide +kernel : decode cJ0_length_8abf5 4 = .ok (.arraylength, 1)) ?_
  refine lv_aload_n hx hb (by decide +kernel : decode cJ0_length_8abf5 5 = .ok (.aload_n 0, 1)) rfl (lv_at hls 0 rfl) ?_
  refine rc_V (a := []) (rest := [.int (oI (q.2.2.length : Int))]) (d := d) B (by show d + 1 ≤ d + 1; omega) (by show 38 * (d + 1) ≤ 38 * (d + 1); omega) rfl qM_cod (by decide +kernel) w_531 w_532 w_533 (rc_cell B hS hR hj) (r_cod hS hj) hR hls.1 (by show 1 ≤ 8; omega) (by decide +kernel : decode cJ0_length_8abf5 6 = .ok (.invokevirtual 335, 3)) rfl ⟨Nat.zero_le _, Nat.zero_le _⟩ (fun H' locs' hR' => ?_)
  refine lv_ishr hx hb (by decide +kernel : decode cJ0_length_8abf5 9 = .ok (.ishr, 1)) ?_
  rw [i32_shr0]
  exact vx_ret (W.iret hx hb hret (fun t ht _ => ⟨rfl, by rw [ht]; exact hR'.1⟩) hR'.2 (by decide +kernel : decode cJ0_length_8abf5 10 = .ok (.ireturn, 1)))
theorem r_pre {d : Nat} {i n : Int} (h0 : 0 ≤ i) (h1 : i < n) (hn : n < 100) {w : Value} (hw : w = .null ∨ ∃ a : Nat, w = .ref a) {h : PH} : RC θ l d qS_pre [.int (oI i), .int (oI n), w] h (some (.int (oI i))) := by
  have hcat : w.category = 1 := by
    rcases hw with rfl | ⟨a, rfl⟩ <;> rfl
  refine rc_of (by decide +kernel) rfl (by rcases hw with rfl | ⟨a, rfl⟩ <;> (show 3 ≤ 3; omega)) ?_
  intro p e s m args below meth c B hret hlk ls hls hR
  obtain ⟨hx, hb, hml, hown, hts, hE, hs0⟩ := id B
  refine lv_iload_n hx hb (by decide +kernel : decode cJ3_checkIndex_8e157 0 = .ok (.iload_n 0, 1)) rfl (lv_at hls 0 rfl) ?_
  refine lv_if_lt hx hb (by decide +kernel : decode cJ3_checkIndex_8e157 1 = .ok (.ifCond .lt 8, 3)) (tgt := 9) rfl (fun e => absurd ((oI_lt0 (by omega)).mp e) (by omega)) (fun _ => ?_)
  refine lv_iload_n hx hb (by decide +kernel : decode cJ3_checkIndex_8e157 4 = .ok (.iload_n 0, 1)) rfl (lv_at hls 0 rfl) ?_
  refine lv_iload_n hx hb (by decide +kernel : decode cJ3_checkIndex_8e157 5 = .ok (.iload_n 1, 1)) rfl (lv_at hls 1 rfl) ?_
  refine lv_icmp_lt hx hb (by decide +kernel : decode cJ3_checkIndex_8e157 6 = .ok (.if_icmp .lt 10, 3)) (tgt := 16) rfl (fun _ => ?_) (fun e => absurd ((oI_lt (by omega) (by omega)).mpr h1) e)
  refine lv_iload_n hx hb (by decide +kernel : decode cJ3_checkIndex_8e157 16 = .ok (.iload_n 0, 1)) rfl (lv_at hls 0 rfl) ?_
  exact vx_ret (W.iret hx hb hret (fun t ht _ => ⟨rfl, by rw [ht]; exact hR.1⟩) hR.2 (by decide +kernel : decode cJ3_checkIndex_8e157 17 = .ok (.ireturn, 1)))
theorem r_chk {d : Nat} (hS : SF θ) {i n : Int} (h0 : 0 ≤ i) (h1 : i < n) (hn : n < 100) {h : PH} : RC θ l (d + 1) qS_chk [.int (oI i), .int (oI n)] h none := by
  refine rc_of (by decide +kernel) rfl (by show 2 ≤ 2; omega) ?_
  intro p e s m args below meth c B hret hlk ls hls hR
  refine z_S B hR (fun hV => ?_)
  obtain ⟨hx, hb, hml, hown, hts, hE, hs0⟩ := id B
  obtain ⟨-, ⟨w, hw, z2⟩, -⟩ := SF.at hS hE hs0
  refine lv_iload_n hx hb (by decide +kernel : decode cJ0_checkIndex_df160 0 = .ok (.iload_n 0, 1)) rfl (lv_at hls 0 rfl) ?_
  refine lv_iload_n hx hb (by decide +kernel : decode cJ0_checkIndex_df160 1 = .ok (.iload_n 1, 1)) rfl (lv_at hls 1 rfl) ?_
  refine va_gets hx hb z2 hV hown (hts _ w_551) (fun x hx => hx) (by decide +kernel : decode cJ0_checkIndex_df160 2 = .ok (.getstatic 1053, 3)) ?_
  refine rc_S (a := [.int (oI i), .int (oI n), w]) (rest := []) (d := d) B (by show d + 1 ≤ d + 1; omega) (by show 38 * (d + 1) ≤ 38 * (d + 1); omega) rfl qM_pre (by show nparm qS_pre.1 = some 3; decide +kernel) w_553 w_554 (r_pre h0 h1 hn hw) hR hls.1 (by show 0 ≤ 8; omega) (by decide +kernel : decode cJ0_checkIndex_df160 5 = .ok (.invokestatic 1059, 3)) rfl ⟨Nat.zero_le _, Nat.zero_le _⟩ (fun H' locs' hR' => ?_)
  refine lv_pop hx hb (by decide +kernel : decode cJ0_checkIndex_df160 8 = .ok (.pop, 1)) rfl ?_
  exact vx_ret (W.vret hx hb hret (fun t ht _ => ⟨rfl, by rw [ht]; exact hR'.1⟩) hR'.2 (by decide +kernel : decode cJ0_checkIndex_df160 9 = .ok (.return_, 1)))
theorem r_lch {d : Nat} (hS : SF θ) {j : Nat} {q : String × Nat × String} (hj : stT[j]? = some q) {v : Nat} (hv : ∀ (s : State), EN θ s → (∀ a, a < θ.1.heap.size → s.heap[a]? = θ.1.heap[a]?) → va_T .byte v q.2.2.length (cnv q.2.2) (frM θ) s s.heap) {i : Int} (h0 : 0 ≤ i) (h1 : i < q.2.2.length) {h : PH} : RC θ l (d + 2) qS_lch [.ref v, .int (oI i)] h (some (.int (oI ((q.2.2.toList.getD i.toNat 'a').toNat : Int)))) := by
  refine rc_of (by decide +kernel) rfl (by show 2 ≤ 2; omega) ?_
  intro p e s m args below meth c B hret hlk ls hls hR
  have hlen := (sT_small q (List.mem_of_getElem? hj)).1
  refine z_S B hR (fun hV => ?_)
  obtain ⟨hx, hb, hml, hown, hts, hE, hs0⟩ := id B
  have g4 := hv s hE hs0
  refine lv_iload_n hx hb (by decide +kernel : decode cJ1_charAt_3b067 0 = .ok (.iload_n 1, 1)) rfl (lv_at hls 1 rfl) ?_
  refine lv_aload_n hx hb (by decide +kernel : decode cJ1_charAt_3b067 1 = .ok (.aload_n 0, 1)) rfl (lv_at hls 0 rfl) ?_
  refine va_tlen hx hb g4 hV (v := oI (q.2.2.length : Int)) (by show Int32.ofNat _ = Int32.ofInt _; exact (Int32.ofInt_eq_ofNat ..).symm) (by decide +kernel : decode cJ1_charAt_3b067 2 = .ok (.arraylength, 1)) ?_
  refine rc_S (a := [.int (oI i), .int (oI (q.2.2.length : Int))]) (rest := []) (d := d + 1) B (by show d + 1 + 1 ≤ d + 2; omega) (by show 38 * (d + 1 + 1) ≤ 38 * (d + 2); omega) rfl qM_chk (by show nparm qS_chk.1 = some 2; decide +kernel) w_548 w_549 (r_chk hS h0 h1 (by omega)) hR hls.1 (by show 0 ≤ 8; omega) (by decide +kernel : decode cJ1_charAt_3b067 3 = .ok (.invokestatic 9, 3)) rfl ⟨Nat.zero_le _, Nat.zero_le _⟩ (fun H' locs' hR' => ?_)
  refine lv_aload_n hx hb (by decide +kernel : decode cJ1_charAt_3b067 6 = .ok (.aload_n 0, 1)) rfl (lv_at hls 0 rfl) ?_
  refine lv_iload_n hx hb (by decide +kernel : decode cJ1_charAt_3b067 7 = .ok (.iload_n 1, 1)) rfl (lv_at hls 1 rfl) ?_
  refine z_S B hR' (fun hV' => ?_)
  have hcl : (oI i).toNatClampNeg = i.toNat := oI_clamp h0 (by omega)
  refine va_tb hx hb g4 hV' (v := .int (oI ((q.2.2.toList.getD i.toNat 'a').toNat : Int))) (oI_in (n := q.2.2.length) ⟨h0, h1⟩ (by omega)) (by rw [hcl]; rfl) (by decide +kernel : decode cJ1_charAt_3b067 8 = .ok (.baload, 1)) ?_
  have hch := chr_nar _ (sT_ch hj (k := i.toNat) (by omega))
  refine lv_sipush hx hb (by decide +kernel : decode cJ1_charAt_3b067 9 = .ok (.sipush 255, 3)) (v := 255) rfl ?_
  refine lv_iand hx hb (by decide +kernel : decode cJ1_charAt_3b067 12 = .ok (.iand, 1)) ?_
  refine lv_i2c hx hb (by decide +kernel : decode cJ1_charAt_3b067 13 = .ok (.i2c, 1)) hch.1 ?_
  exact vx_ret (W.zret hx hb hret hch.2 (fun t ht _ => ⟨rfl, by rw [ht]; exact hR'.1⟩) hR'.2 (by decide +kernel : decode cJ1_charAt_3b067 14 = .ok (.ireturn, 1)))
theorem r_chr {d : Nat} (hS : SF θ) {j : Nat} {q : String × Nat × String} (hj : stT[j]? = some q) {i : Int} (h0 : 0 ≤ i) (h1 : i < q.2.2.length) {h : PH} : RC θ l (d + 3) qS_chr [.ref (θ.2.1 (10 + j)), .int (oI i)] h (some (.int (oI ((q.2.2.toList.getD i.toNat 'a').toNat : Int)))) := by
  refine rc_of (by decide +kernel) rfl (by show 2 ≤ 2; omega) ?_
  intro p e s m args below meth c B hret hlk ls hls hR
  obtain ⟨hx, hb, hml, hown, hts, hE, hs0⟩ := id B
  obtain ⟨v, g1, g2, g3, g4⟩ := hS.2.2 j q hj
  refine lv_aload_n hx hb (by decide +kernel : decode cJ0_charAt_5068e 0 = .ok (.aload_n 0, 1)) rfl (lv_at hls 0 rfl) ?_
  refine rc_V (a := []) (rest := []) (d := d + 2) B (by show d + 2 + 1 ≤ d + 3; omega) (by show 38 * (d + 2 + 1) ≤ 38 * (d + 3); omega) rfl qM_lat (by decide +kernel) w_541 w_542 w_543 (rc_cell B hS hR hj) (r_lat hS hj) hR hls.1 (by show 0 ≤ 8; omega) (by decide +kernel : decode cJ0_charAt_5068e 1 = .ok (.invokevirtual 492, 3)) rfl ⟨Nat.zero_le _, Nat.zero_le _⟩ (fun H' locs' hR' => ?_)
  refine lv_if_eq hx hb (by decide +kernel : decode cJ0_charAt_5068e 4 = .ok (.ifCond .eq 12, 3)) (tgt := 16) rfl (fun e => absurd e (by decide)) (fun _ => ?_)
  refine lv_aload_n hx hb (by decide +kernel : decode cJ0_charAt_5068e 7 = .ok (.aload_n 0, 1)) rfl (lv_at hls 0 rfl) ?_
  refine z_S B hR' (fun hV => ?_)
  have hk0 : ∀ (s : State), (∀ a, a < θ.1.heap.size → s.heap[a]? = θ.1.heap[a]?) → ∀ a : Nat, a < θ.1.heap.size → ¬ frM θ a → s.heap[a]? = θ.1.heap[a]? := fun s hs a ha _ => hs a ha
  refine vk_getf hx hb ((g3.moved hE.1).kept (hk0 s hs0)) hV hown (hts _ w_2024) (fun x hx => hx) (by decide +kernel : decode cJ0_charAt_5068e 8 = .ok (.getfield 9, 3)) ?_
  refine lv_iload_n hx hb (by decide +kernel : decode cJ0_charAt_5068e 11 = .ok (.iload_n 1, 1)) rfl (lv_at hls 1 rfl) ?_
  refine rc_S (a := [.ref v, .int (oI i)]) (rest := []) (d := d + 2) B (by show d + 2 + 1 ≤ d + 3; omega) (by show 38 * (d + 2 + 1) ≤ 38 * (d + 3); omega) rfl qM_lch (by show nparm qS_lch.1 = some 2; decide +kernel) w_545 w_546 (r_lch hS hj (fun s hE hs => (g4.moved hE.1).kept (hk0 s hs)) h0 h1) hR' hls.1 (by show 0 ≤ 8; omega) (by decide +kernel : decode cJ0_charAt_5068e 12 = .ok (.invokestatic 495, 3)) rfl ⟨Nat.zero_le _, Nat.zero_le _⟩ (fun H'' locs'' hR'' => ?_)
  have hlen := (sT_small q (List.mem_of_getElem? hj)).1
  have hch := chr_nar _ (sT_ch hj (k := i.toNat) (by omega))
  exact vx_ret (W.zret hx hb hret hch.2 (fun t ht _ => ⟨rfl, by rw [ht]; exact hR''.1⟩) hR''.2 (by decide +kernel : decode cJ0_charAt_5068e 15 = .ok (.ireturn, 1)))
theorem strr (hS : SF θ) : STRR θ := by
  intro p l e R s m args below meth c Z cc nL own pc idx h H locs c0 s0 ls L st r hx hb hml hown hts hE hs0 hd' hRf hRl hR hL hst hk27 g1 g2
  have B : BF θ p s m args c own cc nL := ⟨hx, hb, hml, hown, hts, hE, hs0⟩
  obtain ⟨hr0, -, -, h64, hso, -⟩ := hR.1.2.2.2 r (by omega)
  obtain ⟨q, hj, h10, hr64, hlen, hch⟩ := hso hk27
  have h64' : ¬ 64 ≤ r := by omega
  have hev : eV θ (pA r) = .ref (θ.2.1 (10 + (r - 10))) := by
    rw [eV_ref hr0, tad_lo (by omega), show 10 + (r - 10) = r by omega]
  have hsum := catsum_le (θ := θ) st hst
  refine ⟨fun wl kk => ?_, fun wl i hi0 kk => ?_⟩
  · rw [List.map_cons, hev]
    refine rc_V (q := qS_len) (a := []) (rest := st.map (eV θ)) (d := 5) B (by omega) (by omega) rfl qM_len (by decide +kernel) wl w_528 w_529 (rc_cell B hS hR hj) (r_len (d := 4) hS hj) hR hL.1 hsum hd' rfl ⟨g1, g2⟩ (fun H' locs' hR' => ?_)
    have := kk H' locs' hR'
    rw [hlen] at this
    exact this
  · rw [List.map_cons, List.map_cons, hev]
    rw [hlen] at hi0
    refine rc_V (q := qS_chr) (a := [.int (oI i)]) (rest := st.map (eV θ)) (d := 5) B (by omega) (by omega) rfl qM_chr (by show nparm qS_chr.1 = some 1; decide +kernel) wl w_538 w_539 (rc_cell B hS hR hj) (r_chr (d := 2) hS hj hi0.1 hi0.2) hR hL.1 hsum hd' rfl ⟨g1, g2⟩ (fun H' locs' hR' => ?_)
    have := kk H' locs' hR'
    rw [hch i.toNat (by omega)] at this
    exact this
end STRM
