/-! the law: its start and its loop (written by wip/whole/tools/gencn.py) -/
section CNV
variable {call : PC} {mc ms fr : Nat} {Q : Int → PH → Prop} {X : Nat → PH → Prop} {K : PK}
set_option maxRecDepth 100000 in
theorem v_L_law_0 (a0 : Nat) (z1 : Option PV) (z2 : Option PV) (z3 : Option PV) (z4 : Option PV) (z5 : Option PV) (z6 : Option PV) (z7 : Option PV) (z8 : Option PV) (h : PH) (c s : Nat) (H : (c + 1 ≤ mc ∧ s + 15 ≤ ms) ∧ ∀ h1, h1 = hnew h 7 15 →
 hk h1 (hn h) = 7 ∧ ((c + 1) + 64 ≤ mc ∧ (s + 15) + 7000 ≤ ms) ∧ call m_X6_init [pA (hn h)] h1 (fun _ h2 =>
 (((c + 1) + 64) + 1 ≤ mc ∧ ((s + 15) + 7000) + 47 ≤ ms) ∧ ∀ h3, h3 = hnew h2 8 47 →
 hk h3 (hn h2) = 8 ∧ ((((c + 1) + 64) + 1) + 30 ≤ mc ∧ (((s + 15) + 7000) + 47) + 20000 ≤ ms) ∧ call m_X7_init [pA (hn h2)] h3 (fun _ h4 =>
 (0 ≤ (1 : Int) ∧ (1 : Int) ≤ (100000 : Int)) ∧ (((((c + 1) + 64) + 1) + 30) + 1 ≤ mc ∧ ((((s + 15) + 7000) + 47) + 20000) + (Int.toNat (1 : Int)) ≤ ms) ∧ ∀ h5, h5 = hnew h4 23 (Int.toNat (1 : Int)) →
 (0 ≤ (1 : Int) ∧ (1 : Int) ≤ (100000 : Int)) ∧ ((((((c + 1) + 64) + 1) + 30) + 1) + 1 ≤ mc ∧ (((((s + 15) + 7000) + 47) + 20000) + (Int.toNat (1 : Int))) + (Int.toNat (1 : Int)) ≤ ms) ∧ ∀ h6, h6 = hnew h5 24 (Int.toNat (1 : Int)) →
 K 28 [some (pA a0), some (pA (hn h)), some (pA (hn h2)), some (pA (hn h4)), some (pA (hn h5)), some (pI 0), z6, z7, z8] [] h6 ((((((c + 1) + 64) + 1) + 30) + 1) + 1) ((((((s + 15) + 7000) + 47) + 20000) + (Int.toNat (1 : Int))) + (Int.toNat (1 : Int)))) X) X) : wpc k_L_law [] call mc ms fr Q X [28] K 400 (pto 0 k_L_law) [some (pA a0), z1, z2, z3, z4, z5, z6, z7, z8] [] h c s :=
  H

set_option maxRecDepth 100000 in
theorem v_L_law_28 (a0 : Nat) (a1 : Nat) (a2 : Nat) (a3 : Nat) (a4 : Nat) (i5 : Int) (z6 : Option PV) (z7 : Option PV) (z8 : Option PV) (h : PH) (c s : Nat) (H : (20 ≤ hk h a0 ∧ hk h a0 ≤ 26) ∧ InR i5 ∧ InR (((hl h a0 : Int)) - 6) ∧ ((((hl h a0 : Int)) - 6) < i5 →
 ((1 : Int) = 0 ∨ (1 : Int) = 1) ∧ Q 1 h) ∧
(i5 ≤ (((hl h a0 : Int)) - 6) →
 (hk h a0 = 20 ∨ hk h a0 = 26) ∧ (0 ≤ i5 ∧ i5 < (hl h a0 : Int)) ∧ InR (band (hi h a0 (Int.toNat i5)) 63) ∧ ((band (hi h a0 (Int.toNat i5)) 63) < 0 ∨ 48 < (band (hi h a0 (Int.toNat i5)) 63) →
 K 28 [some (pA a0), some (pA a1), some (pA a2), some (pA a3), some (pA a4), some (pI (i5 + 6)), z6, z7, z8] [] h c s) ∧
((band (hi h a0 (Int.toNat i5)) 63) = 0 →
 K 256 [some (pA a0), some (pA a1), some (pA a2), some (pA a3), some (pA a4), some (pI i5), z6, z7, z8] [] h c s) ∧
((band (hi h a0 (Int.toNat i5)) 63) = 1 →
 K 329 [some (pA a0), some (pA a1), some (pA a2), some (pA a3), some (pA a4), some (pI i5), z6, z7, z8] [] h c s) ∧
((band (hi h a0 (Int.toNat i5)) 63) = 2 →
 K 385 [some (pA a0), some (pA a1), some (pA a2), some (pA a3), some (pA a4), some (pI i5), z6, z7, z8] [] h c s) ∧
((band (hi h a0 (Int.toNat i5)) 63) = 3 →
 K 398 [some (pA a0), some (pA a1), some (pA a2), some (pA a3), some (pA a4), some (pI i5), z6, z7, z8] [] h c s) ∧
((band (hi h a0 (Int.toNat i5)) 63) = 4 →
 K 411 [some (pA a0), some (pA a1), some (pA a2), some (pA a3), some (pA a4), some (pI i5), z6, z7, z8] [] h c s) ∧
((band (hi h a0 (Int.toNat i5)) 63) = 5 →
 K 424 [some (pA a0), some (pA a1), some (pA a2), some (pA a3), some (pA a4), some (pI i5), z6, z7, z8] [] h c s) ∧
((band (hi h a0 (Int.toNat i5)) 63) = 6 →
 K 508 [some (pA a0), some (pA a1), some (pA a2), some (pA a3), some (pA a4), some (pI i5), z6, z7, z8] [] h c s) ∧
((band (hi h a0 (Int.toNat i5)) 63) = 7 →
 K 564 [some (pA a0), some (pA a1), some (pA a2), some (pA a3), some (pA a4), some (pI i5), z6, z7, z8] [] h c s) ∧
((band (hi h a0 (Int.toNat i5)) 63) = 8 →
 K 620 [some (pA a0), some (pA a1), some (pA a2), some (pA a3), some (pA a4), some (pI i5), z6, z7, z8] [] h c s) ∧
((band (hi h a0 (Int.toNat i5)) 63) = 9 →
 K 688 [some (pA a0), some (pA a1), some (pA a2), some (pA a3), some (pA a4), some (pI i5), z6, z7, z8] [] h c s) ∧
((band (hi h a0 (Int.toNat i5)) 63) = 10 →
 K 756 [some (pA a0), some (pA a1), some (pA a2), some (pA a3), some (pA a4), some (pI i5), z6, z7, z8] [] h c s) ∧
((band (hi h a0 (Int.toNat i5)) 63) = 11 →
 K 836 [some (pA a0), some (pA a1), some (pA a2), some (pA a3), some (pA a4), some (pI i5), z6, z7, z8] [] h c s) ∧
((band (hi h a0 (Int.toNat i5)) 63) = 12 →
 K 904 [some (pA a0), some (pA a1), some (pA a2), some (pA a3), some (pA a4), some (pI i5), z6, z7, z8] [] h c s) ∧
((band (hi h a0 (Int.toNat i5)) 63) = 13 →
 K 972 [some (pA a0), some (pA a1), some (pA a2), some (pA a3), some (pA a4), some (pI i5), z6, z7, z8] [] h c s) ∧
((band (hi h a0 (Int.toNat i5)) 63) = 14 →
 K 1052 [some (pA a0), some (pA a1), some (pA a2), some (pA a3), some (pA a4), some (pI i5), z6, z7, z8] [] h c s) ∧
((band (hi h a0 (Int.toNat i5)) 63) = 15 →
 K 1132 [some (pA a0), some (pA a1), some (pA a2), some (pA a3), some (pA a4), some (pI i5), z6, z7, z8] [] h c s) ∧
((band (hi h a0 (Int.toNat i5)) 63) = 16 →
 K 1200 [some (pA a0), some (pA a1), some (pA a2), some (pA a3), some (pA a4), some (pI i5), z6, z7, z8] [] h c s) ∧
((band (hi h a0 (Int.toNat i5)) 63) = 17 →
 K 1256 [some (pA a0), some (pA a1), some (pA a2), some (pA a3), some (pA a4), some (pI i5), z6, z7, z8] [] h c s) ∧
((band (hi h a0 (Int.toNat i5)) 63) = 18 →
 K 1312 [some (pA a0), some (pA a1), some (pA a2), some (pA a3), some (pA a4), some (pI i5), z6, z7, z8] [] h c s) ∧
((band (hi h a0 (Int.toNat i5)) 63) = 19 →
 K 1356 [some (pA a0), some (pA a1), some (pA a2), some (pA a3), some (pA a4), some (pI i5), z6, z7, z8] [] h c s) ∧
((band (hi h a0 (Int.toNat i5)) 63) = 20 →
 K 1412 [some (pA a0), some (pA a1), some (pA a2), some (pA a3), some (pA a4), some (pI i5), z6, z7, z8] [] h c s) ∧
((band (hi h a0 (Int.toNat i5)) 63) = 21 →
 K 1456 [some (pA a0), some (pA a1), some (pA a2), some (pA a3), some (pA a4), some (pI i5), z6, z7, z8] [] h c s) ∧
((band (hi h a0 (Int.toNat i5)) 63) = 22 →
 K 1524 [some (pA a0), some (pA a1), some (pA a2), some (pA a3), some (pA a4), some (pI i5), z6, z7, z8] [] h c s) ∧
((band (hi h a0 (Int.toNat i5)) 63) = 23 →
 K 1589 [some (pA a0), some (pA a1), some (pA a2), some (pA a3), some (pA a4), some (pI i5), z6, z7, z8] [] h c s) ∧
((band (hi h a0 (Int.toNat i5)) 63) = 24 →
 K 1655 [some (pA a0), some (pA a1), some (pA a2), some (pA a3), some (pA a4), some (pI i5), z6, z7, z8] [] h c s) ∧
((band (hi h a0 (Int.toNat i5)) 63) = 25 →
 K 1711 [some (pA a0), some (pA a1), some (pA a2), some (pA a3), some (pA a4), some (pI i5), z6, z7, z8] [] h c s) ∧
((band (hi h a0 (Int.toNat i5)) 63) = 26 →
 K 1767 [some (pA a0), some (pA a1), some (pA a2), some (pA a3), some (pA a4), some (pI i5), z6, z7, z8] [] h c s) ∧
((band (hi h a0 (Int.toNat i5)) 63) = 27 →
 K 1811 [some (pA a0), some (pA a1), some (pA a2), some (pA a3), some (pA a4), some (pI i5), z6, z7, z8] [] h c s) ∧
((band (hi h a0 (Int.toNat i5)) 63) = 28 →
 K 1867 [some (pA a0), some (pA a1), some (pA a2), some (pA a3), some (pA a4), some (pI i5), z6, z7, z8] [] h c s) ∧
((band (hi h a0 (Int.toNat i5)) 63) = 29 →
 K 1923 [some (pA a0), some (pA a1), some (pA a2), some (pA a3), some (pA a4), some (pI i5), z6, z7, z8] [] h c s) ∧
((band (hi h a0 (Int.toNat i5)) 63) = 30 →
 K 1991 [some (pA a0), some (pA a1), some (pA a2), some (pA a3), some (pA a4), some (pI i5), z6, z7, z8] [] h c s) ∧
((band (hi h a0 (Int.toNat i5)) 63) = 31 →
 K 2071 [some (pA a0), some (pA a1), some (pA a2), some (pA a3), some (pA a4), some (pI i5), z6, z7, z8] [] h c s) ∧
((band (hi h a0 (Int.toNat i5)) 63) = 32 →
 K 2127 [some (pA a0), some (pA a1), some (pA a2), some (pA a3), some (pA a4), some (pI i5), z6, z7, z8] [] h c s) ∧
((band (hi h a0 (Int.toNat i5)) 63) = 33 →
 K 2183 [some (pA a0), some (pA a1), some (pA a2), some (pA a3), some (pA a4), some (pI i5), z6, z7, z8] [] h c s) ∧
((band (hi h a0 (Int.toNat i5)) 63) = 34 →
 K 2239 [some (pA a0), some (pA a1), some (pA a2), some (pA a3), some (pA a4), some (pI i5), z6, z7, z8] [] h c s) ∧
((band (hi h a0 (Int.toNat i5)) 63) = 35 →
 K 2295 [some (pA a0), some (pA a1), some (pA a2), some (pA a3), some (pA a4), some (pI i5), z6, z7, z8] [] h c s) ∧
((band (hi h a0 (Int.toNat i5)) 63) = 36 →
 K 2339 [some (pA a0), some (pA a1), some (pA a2), some (pA a3), some (pA a4), some (pI i5), z6, z7, z8] [] h c s) ∧
((band (hi h a0 (Int.toNat i5)) 63) = 37 →
 K 2395 [some (pA a0), some (pA a1), some (pA a2), some (pA a3), some (pA a4), some (pI i5), z6, z7, z8] [] h c s) ∧
((band (hi h a0 (Int.toNat i5)) 63) = 38 →
 K 2451 [some (pA a0), some (pA a1), some (pA a2), some (pA a3), some (pA a4), some (pI i5), z6, z7, z8] [] h c s) ∧
((band (hi h a0 (Int.toNat i5)) 63) = 39 →
 K 2531 [some (pA a0), some (pA a1), some (pA a2), some (pA a3), some (pA a4), some (pI i5), z6, z7, z8] [] h c s) ∧
((band (hi h a0 (Int.toNat i5)) 63) = 40 →
 K 2634 [some (pA a0), some (pA a1), some (pA a2), some (pA a3), some (pA a4), some (pI i5), z6, z7, z8] [] h c s) ∧
((band (hi h a0 (Int.toNat i5)) 63) = 41 →
 K 2690 [some (pA a0), some (pA a1), some (pA a2), some (pA a3), some (pA a4), some (pI i5), z6, z7, z8] [] h c s) ∧
((band (hi h a0 (Int.toNat i5)) 63) = 42 →
 K 2746 [some (pA a0), some (pA a1), some (pA a2), some (pA a3), some (pA a4), some (pI i5), z6, z7, z8] [] h c s) ∧
((band (hi h a0 (Int.toNat i5)) 63) = 43 →
 K 2802 [some (pA a0), some (pA a1), some (pA a2), some (pA a3), some (pA a4), some (pI i5), z6, z7, z8] [] h c s) ∧
((band (hi h a0 (Int.toNat i5)) 63) = 44 →
 K 2882 [some (pA a0), some (pA a1), some (pA a2), some (pA a3), some (pA a4), some (pI i5), z6, z7, z8] [] h c s) ∧
((band (hi h a0 (Int.toNat i5)) 63) = 45 →
 K 2950 [some (pA a0), some (pA a1), some (pA a2), some (pA a3), some (pA a4), some (pI i5), z6, z7, z8] [] h c s) ∧
((band (hi h a0 (Int.toNat i5)) 63) = 46 →
 K 2994 [some (pA a0), some (pA a1), some (pA a2), some (pA a3), some (pA a4), some (pI i5), z6, z7, z8] [] h c s) ∧
((band (hi h a0 (Int.toNat i5)) 63) = 47 →
 K 3007 [some (pA a0), some (pA a1), some (pA a2), some (pA a3), some (pA a4), some (pI i5), z6, z7, z8] [] h c s) ∧
((band (hi h a0 (Int.toNat i5)) 63) = 48 →
 K 3063 [some (pA a0), some (pA a1), some (pA a2), some (pA a3), some (pA a4), some (pI i5), z6, z7, z8] [] h c s) ∧ True)) : wpc k_L_law [] call mc ms fr Q X [28, 256, 329, 385, 398, 411, 424, 508, 564, 620, 688, 756, 836, 904, 972, 1052, 1132, 1200, 1256, 1312, 1356, 1412, 1456, 1524, 1589, 1655, 1711, 1767, 1811, 1867, 1923, 1991, 2071, 2127, 2183, 2239, 2295, 2339, 2395, 2451, 2531, 2634, 2690, 2746, 2802, 2882, 2950, 2994, 3007, 3063] K 400 (pto 28 k_L_law) [some (pA a0), some (pA a1), some (pA a2), some (pA a3), some (pA a4), some (pI i5), z6, z7, z8] [] h c s :=
  H

end CNV
/-! the start's constants -/
def stL (j : Nat) : List Int := (stT.getD j ("", 0, "")).2.2.toList.map (fun ch => (ch.toNat : Int))
theorem st_all : (∀ r, r < 35 → 15 ≤ r → stL (r - 10) = wdt r) ∧ stL 0 = [104, 102, 97, 113, 110, 100] := by decide +kernel
theorem st_len : ∀ r, r < 35 → 10 ≤ r → (stT.getD (r - 10) ("", 0, "")).2.2.length = (stL (r - 10)).length := by decide +kernel
theorem sH_str {L : Nat} {xs : Nat → Int32} {r : Nat} (h1 : 10 ≤ r) (h2 : r < 35) (hw : ∀ x ∈ stL (r - 10), 0 ≤ x ∧ x ≤ 65535) : STR (sH L xs) r (stL (r - 10)) := by
  have hkk : (sH L xs).2.1 r = (27, (stT.getD (r - 10) ("", 0, "")).2.2.length) := by
    show (if r = 1 then (26, L) else if 2 ≤ r ∧ r < 7 then (26, (saV.getD (r - 2) []).length) else if 10 ≤ r ∧ r < 35 then (27, (stT.getD (r - 10) ("", 0, "")).2.2.length) else ((0, 0) : Nat × Nat)) = _
    rw [if_neg (by omega), if_neg (by omega), if_pos ⟨h1, h2⟩]
  refine ⟨by unfold hk; rw [hkk], by unfold hl; rw [hkk]; exact st_len r h2 h1, fun i x y => ?_, fun i => ?_⟩
  · show (if r = 1 then (xs i.toNat).toInt else if 2 ≤ r ∧ r < 7 then (saV.getD (r - 2) []).getD i.toNat 0 else (((stT.getD (r - 10) ("", 0, "")).2.2.toList.getD i.toNat 'a').toNat : Int)) = _
    rw [if_neg (by omega), if_neg (by omega)]
    unfold stL at y ⊢
    generalize stT.getD (r - 10) ("", 0, "") = q at y ⊢
    rw [List.length_map] at y
    have z : i.toNat < q.2.2.toList.length := by omega
    rw [List.getD_eq_getElem?_getD, List.getD_eq_getElem?_getD, List.getElem?_map, List.getElem?_eq_getElem z]
    rfl
  · by_cases c : i < (stL (r - 10)).length
    · rw [List.getD_eq_getElem?_getD, List.getElem?_eq_getElem c]
      exact hw _ (List.getElem_mem c)
    · rw [List.getD_eq_getElem?_getD, List.getElem?_eq_none (by omega)]
      exact ⟨by decide, by decide⟩
theorem wd_low : ∀ r, r < 35 → 15 ≤ r → ∀ x ∈ wdt r, 0 ≤ x ∧ x ≤ 65535 := by decide
theorem sH_SA {L : Nat} {xs : Nat → Int32} {r n : Nat} {f : Int → Int} (h1 : 2 ≤ r) (h2 : r < 7) (hn : (saV.getD (r - 2) []).length = n) (hf : ∀ i : Nat, i < n → (saV.getD (r - 2) []).getD i 0 = f i) : SA5 (sH L xs) r n f := by
  have hkk : (sH L xs).2.1 r = (26, (saV.getD (r - 2) []).length) := by
    show (if r = 1 then (26, L) else if 2 ≤ r ∧ r < 7 then (26, (saV.getD (r - 2) []).length) else if 10 ≤ r ∧ r < 35 then (27, (stT.getD (r - 10) ("", 0, "")).2.2.length) else ((0, 0) : Nat × Nat)) = _
    rw [if_neg (by omega), if_pos ⟨h1, h2⟩]
  refine ⟨by unfold hk; rw [hkk], by unfold hl; rw [hkk]; exact hn, fun i x y => ?_⟩
  show (if r = 1 then (xs i.toNat).toInt else if 2 ≤ r ∧ r < 7 then (saV.getD (r - 2) []).getD i.toNat 0 else (((stT.getD (r - 10) ("", 0, "")).2.2.toList.getD i.toNat 'a').toNat : Int)) = _
  rw [if_neg (by omega), if_pos ⟨h1, h2⟩, hf _ (by omega)]
  exact congrArg f (by omega)
theorem sH_KN (L : Nat) (xs : Nat → Int32) : KN (sH L xs) := by
  refine ⟨fun r a b => ?_, ⟨?_, ?_, ?_, ?_, ?_⟩, ?_⟩
  · rw [← st_all.1 r b a]
    exact sH_str (by omega) b (by rw [st_all.1 r b a]; exact wd_low r b a)
  · exact sH_SA (by decide) (by decide) rfl (by decide)
  · exact sH_SA (by decide) (by decide) rfl (by decide)
  · exact sH_SA (by decide) (by decide) rfl (by decide)
  · exact sH_SA (by decide) (by decide) rfl (by decide)
  · exact sH_SA (by decide) (by decide) rfl (by decide)
  · rw [← st_all.2]
    exact sH_str (r := 10) (by decide) (by decide) (by rw [st_all.2]; decide)
theorem sH_SP (L : Nat) (xs : Nat → Int32) : SP (sH L xs) L xs := ⟨rfl, rfl, fun _ => rfl⟩
theorem D00_z {j : Nat} {e : Int} (h : j = 0 → e ≠ 19) : D00 j e = 0 := by
  unfold D00
  by_cases z : j = 0
  · subst z
    exact dst_ne (h rfl)
  · rw [dst_row z]
/-- the class's object at the start -/
theorem I6.cp {h : PH} (I : I6 h) (K : KN h) (n : 141 ≤ hn h) : CP h D00 s00 100 := by
  obtain ⟨x, ⟨r7, r8, r9, r12, r13⟩, ⟨i3, iz⟩, ⟨⟨E1, p1⟩, ⟨E2, p2⟩, ⟨E3, p3⟩, E4, p4⟩, b5, b14, b15, b16, o⟩ := I
  have z := fun {j : Nat} {e : Int} (q : j = 0 → e ≠ 19) => D00_z (j := j) (e := e) q
  have rz : ∀ i, i < 10 → rho h i = 0 := fun i hi' => by
    unfold rho
    split
    · exact b14.2.2 i
    · exact b15.2.2 _
  have d1 : D00 0 1 = 0 := z (by intro q; omega)
  have d14 : D00 0 14 = 0 := z (by intro q; omega)
  have d46 : D00 0 46 = 0 := z (by intro q; omega)
  refine ⟨66, 76, 90, 100, 0, E1, E2, Or.inl ⟨rfl, rfl, rfl, rfl⟩, ⟨x, ⟨?_, ?_, ?_, ?_, Or.inl d1⟩, p1, p2.1, fun l => absurd d1 l⟩, p2.2, ⟨r7, r8, ⟨E3, p3⟩, E4, p4⟩, ⟨b5.1, b5.2.1, fun e a b => ?_⟩, ⟨_, o, ?_, fun e a b => ?_⟩, ⟨⟨r9, iz 10 (by decide), ?_⟩, by decide, by omega, b14.1, b14.2.1⟩, ⟨⟨r12, r13⟩, ⟨b15.1, b15.2.1⟩, ⟨b16.1, b16.2.1⟩, fun j a b => ?_⟩, ⟨fun i a => Or.inl (rz i a), fun i k a b c u v => absurd (rz i a) u, fun i j a b => ?_⟩, K, n⟩
  · rw [z (by intro q; omega)]; exact iz 1 (by decide)
  · rw [z (by intro q; omega)]; exact iz 2 (by decide)
  · unfold D00; rw [dst_eq]; exact i3
  · rw [d1]; exact iz 4 (by decide)
  · rw [z (by intro q; omega), b5.2.2]
    rfl
  · rw [d46]
  · rw [d46] at b
    omega
  · rw [d14]; exact iz 11 (by decide)
  · rw [z (by intro q; omega), b16.2.2]
    exact ⟨rfl, Or.inl rfl⟩
  · rcases b with ⟨b1, _⟩ | ⟨_, _, _, b4⟩
    · rw [d14] at b1
      exact absurd b1 (by omega)
    · exact absurd (z (by intro q; omega)) b4
theorem CD00 : CD D00 s00 100 := by
  have z := fun {j : Nat} {e : Int} (q : j = 0 → e ≠ 19) => D00_z (j := j) (e := e) q
  have nb : ∀ j, j ≠ 0 → NB (D00 j) := fun j hj e a b => by
    rw [z (fun q => absurd q hj)]
    exact ⟨by decide, by decide⟩
  have z13 : ∀ e, D00 13 e = 0 := fun e => z (by intro q; omega)
  refine ⟨⟨Or.inl (z (by intro q; omega)), ?_, ?_, by decide, ?_, fun l => absurd (z (by intro q; omega)) l⟩, ?_, fun e a b => ?_, ⟨nb 1 (by decide), nb 2 (by decide), nb 11 (by decide), nb 12 (by decide)⟩, fun k a b => ?_, ⟨by unfold s00; rw [if_pos rfl], ?_⟩, ⟨?_, ?_⟩, ?_, fun e a b => ?_, ?_, fun j a b => Or.inl (z (by intro q; omega))⟩
  · rw [z (by intro q; omega)]; decide
  · rw [z (by intro q; omega)]; decide
  · unfold s00; rw [if_neg (by decide)]; decide
  · rw [z (by intro q; omega)]; decide
  · rw [z (by intro q; omega)]; decide
  · rw [z13, z13, z13]; decide
  · unfold s00; rw [if_neg (by decide)]; exact ir (by decide) (by decide)
  · rw [z (by intro q; omega)]; exact ir (by decide) (by decide)
  · unfold D00; rw [dst_eq]; exact ir (by decide) (by decide)
  · rw [z (by intro q; omega)]; decide
  · rw [z (by intro q; omega)]; exact ir (by decide) (by decide)
  · rw [z (by intro q; omega)]; decide
/-- what I6 says stays -/
theorem I6.sc {h h' : PH} (I : I6 h) (S : ∀ r, 64 ≤ r → r < 119 → SC h h' r) : I6 h' := by
  obtain ⟨x, ⟨r7, r8, r9, r12, r13⟩, ⟨i3, iz⟩, ⟨⟨E1, p1⟩, ⟨E2, p2⟩, ⟨E3, p3⟩, E4, p4⟩, b5, b14, b15, b16, o⟩ := I
  have s4 := S 64 (by decide) (by decide)
  refine ⟨?_, ⟨(s4.2 _).2.trans r7, (s4.2 _).2.trans r8, (s4.2 _).2.trans r9, (s4.2 _).2.trans r12, (s4.2 _).2.trans r13⟩, ⟨(s4.2 _).1.trans i3, fun k a => (s4.2 _).1.trans (iz k a)⟩, ⟨⟨E1, p1.sc (fun r a b => S r (by omega) (by omega)) rP_lt⟩, ⟨E2, p2.sc (fun r a b => S r (by omega) (by omega))⟩, ⟨E3, p3.sc (fun r a b => S r (by omega) (by omega)) rP_lt⟩, E4, p4.sc (fun r a b => S r (by omega) (by omega))⟩, ?_, ?_, ?_, ?_, o.sc (fun r a b => S r (by omega) (by omega)) rO_lt⟩
  · unfold XC at x ⊢
    rw [s4.k, (s4.2 0).2, (s4.2 5).2, (s4.2 6).2, (s4.2 14).2]
    exact x
  · have s := S 65 (by decide) (by decide)
    exact ⟨s.k.trans b5.1, s.l.trans b5.2.1, fun k => (s.2 k).1.trans (b5.2.2 k)⟩
  · have s := S 114 (by decide) (by decide)
    exact ⟨s.k.trans b14.1, s.l.trans b14.2.1, fun k => (s.2 k).2.trans (b14.2.2 k)⟩
  · have s := S 115 (by decide) (by decide)
    exact ⟨s.k.trans b15.1, s.l.trans b15.2.1, fun k => (s.2 k).2.trans (b15.2.2 k)⟩
  · have s := S 116 (by decide) (by decide)
    exact ⟨s.k.trans b16.1, s.l.trans b16.2.1, fun k => (s.2 k).1.trans (b16.2.2 k)⟩
set_option maxRecDepth 100000 in
/-- the loop -/
theorem law_loop {L : Nat} {xs : Nat → Int32} (hL : L ≤ 3072) : ∀ (n j : Nat) (z6 z7 z8 : Option PV) (h : PH) (c s : Nat), L < 6 * (j + n) + 6 → 6 * j ≤ L + 6 → LT h L xs (100 + 97000 * (j : Int)) → c ≤ 200 + 24 * j → s ≤ 30000 + 1700 * j → WPL 28 [some (pA 1), some (pA 64), some (pA 119), some (pA 139), some (pA 140), some (pI (6 * (j : Int))), z6, z7, z8] [] h c s := by
  intro n
  induction n with
  | zero =>
    intro j z6 z7 z8 h c s h1 h2 Z hc hs
    refine WP.of (RUN.mono GQ _) (cuts := [28, 256, 329, 385, 398, 411, 424, 508, 564, 620, 688, 756, 836, 904, 972, 1052, 1132, 1200, 1256, 1312, 1356, 1412, 1456, 1524, 1589, 1655, 1711, 1767, 1811, 1867, 1923, 1991, 2071, 2127, 2183, 2239, 2295, 2339, 2395, 2451, 2531, 2634, 2690, 2746, 2802, 2882, 2950, 2994, 3007, 3063]) (n := 400) (v_L_law_28 _ _ _ _ _ _ _ _ _ _ _ _ ?_)
    obtain ⟨D, sr, t, C, G, M, o, sp⟩ := Z
    refine ⟨by rw [sp.1]; decide, ir (by omega) (by omega), by rw [sp.2.1]; exact ir (by omega) (by omega), fun _ => ⟨Or.inr rfl, rfl⟩, fun y => ?_⟩
    rw [sp.2.1] at y
    omega
  | succ n ih =>
    intro j z6 z7 z8 h c s h1 h2 Z hc hs
    refine WP.of (RUN.mono GQ _) (cuts := [28, 256, 329, 385, 398, 411, 424, 508, 564, 620, 688, 756, 836, 904, 972, 1052, 1132, 1200, 1256, 1312, 1356, 1412, 1456, 1524, 1589, 1655, 1711, 1767, 1811, 1867, 1923, 1991, 2071, 2127, 2183, 2239, 2295, 2339, 2395, 2451, 2531, 2634, 2690, 2746, 2802, 2882, 2950, 2994, 3007, 3063]) (n := 400) (v_L_law_28 _ _ _ _ _ _ _ _ _ _ _ _ ?_)
    have sp : SP h L xs := by
      obtain ⟨D, sr, t, C, G, M, o, sp⟩ := Z
      exact sp
    refine ⟨by rw [sp.1]; decide, ir (by omega) (by omega), by rw [sp.2.1]; exact ir (by omega) (by omega), fun _ => ⟨Or.inr rfl, rfl⟩, fun y => ?_⟩
    rw [sp.2.1] at y
    have hi0 : 0 ≤ 6 * (j : Int) := by omega
    have hiL : 6 * (j : Int) + 6 ≤ L := by omega
    have hN : 100 + 97000 * (j : Int) + 97000 ≤ 99999999 := by omega
    have hc' : c + 24 ≤ 601024 := by omega
    have hs' : s + 1700 ≤ 7293034 := by omega
    have HK : HKL L xs (6 * (j : Int)) (100 + 97000 * (j : Int)) c s := by
      intro y6 y7 y8 h' c' s' Z' a b
      have q := ih (j + 1) y6 y7 y8 h' c' s' (by omega) (by omega) (by rw [show 100 + 97000 * ((j + 1 : Nat) : Int) = 100 + 97000 * (j : Int) + 97000 by omega]; exact Z') (by omega) (by omega)
      rw [show 6 * ((j + 1 : Nat) : Int) = 6 * (j : Int) + 6 by omega] at q
      exact q
    refine ⟨Or.inr sp.1, ⟨by omega, by rw [sp.2.1]; omega⟩, band_InR _ _, fun _ => HK _ _ _ _ _ _ ?_ (by omega) (by omega), fun _ => cl_append Z hi0 hiL hN hc' hs' HK, fun _ => cl_load Z hi0 hiL hN hc' hs' HK, fun _ => cl_parseError Z hi0 hiL hN hc' hs' HK, fun _ => cl_errorPosition Z hi0 hiL hN hc' hs' HK, fun _ => cl_buffered Z hi0 hiL hN hc' hs' HK, fun _ => cl_find Z hi0 hiL hN hc' hs' HK, fun _ => cl_count Z hi0 hiL hN hc' hs' HK, fun _ => cl_setting Z hi0 hiL hN hc' hs' HK, fun _ => cl_kind Z hi0 hiL hN hc' hs' HK, fun _ => cl_program Z hi0 hiL hN hc' hs' HK, fun _ => cl_handler Z hi0 hiL hN hc' hs' HK, fun _ => cl_urgency Z hi0 hiL hN hc' hs' HK, fun _ => cl_tiredness Z hi0 hiL hN hc' hs' HK, fun _ => cl_queue Z hi0 hiL hN hc' hs' HK, fun _ => cl_running Z hi0 hiL hN hc' hs' HK, fun _ => cl_end Z hi0 hiL hN hc' hs' HK, fun _ => cl_whereIs Z hi0 hiL hN hc' hs' HK, fun _ => cl_next Z hi0 hiL hN hc' hs' HK, fun _ => cl_busiest Z hi0 hiL hN hc' hs' HK, fun _ => cl_tiredest Z hi0 hiL hN hc' hs' HK, fun _ => cl_oldest Z hi0 hiL hN hc' hs' HK, fun _ => cl_loser Z hi0 hiL hN hc' hs' HK, fun _ => cl_meanWait Z hi0 hiL hN hc' hs' HK, fun _ => cl_handledShare Z hi0 hiL hN hc' hs' HK, fun _ => cl_raisers Z hi0 hiL hN hc' hs' HK, fun _ => cl_idleIn Z hi0 hiL hN hc' hs' HK, fun _ => cl_calmIn Z hi0 hiL hN hc' hs' HK, fun _ => cl_endIn Z hi0 hiL hN hc' hs' HK, fun _ => cl_endOf Z hi0 hiL hN hc' hs' HK, fun _ => cl_endsIn Z hi0 hiL hN hc' hs' HK, fun _ => cl_urgencyIn Z hi0 hiL hN hc' hs' HK, fun _ => cl_sentIn Z hi0 hiL hN hc' hs' HK, fun _ => cl_bestMask Z hi0 hiL hN hc' hs' HK, fun _ => cl_writeQueue Z hi0 hiL hN hc' hs' HK, fun _ => cl_writeStack Z hi0 hiL hN hc' hs' HK, fun _ => cl_writeEnds Z hi0 hiL hN hc' hs' HK, fun _ => cl_textByte Z hi0 hiL hN hc' hs' HK, fun _ => cl_tick Z hi0 hiL hN hc' hs' HK, fun _ => cl_send Z hi0 hiL hN hc' hs' HK, fun _ => cl_mask Z hi0 hiL hN hc' hs' HK, fun _ => cl_drop Z hi0 hiL hN hc' hs' HK, fun _ => cl_clear Z hi0 hiL hN hc' hs' HK, fun _ => cl_refresh Z hi0 hiL hN hc' hs' HK, fun _ => cl_setKind Z hi0 hiL hN hc' hs' HK, fun _ => cl_set Z hi0 hiL hN hc' hs' HK, fun _ => cl_undo Z hi0 hiL hN hc' hs' HK, fun _ => cl_undoable Z hi0 hiL hN hc' hs' HK, fun _ => cl_save Z hi0 hiL hN hc' hs' HK, fun _ => cl_restore Z hi0 hiL hN hc' hs' HK, trivial⟩
    obtain ⟨D, sr, t, C, G, M, o, sp⟩ := Z
    exact ⟨D, sr, t, C.sc (fun r _ _ => SC.refl h r) (Nat.le_refl _) (by omega), G.mono (by omega) (by omega), M, o, sp⟩
set_option maxRecDepth 100000 in
/-- the law's walk in the plain machine -/
theorem law_wp (L : Nat) (xs : Nat → Int32) (hL : L ≤ 3072) : WP k_L_law [] (RUN GQ 13) 601024 7293034 14 (fun x _ => x = 1) (fun _ _ => False) 0 (ent 9 [pA 1]) [] (sH L xs) 0 0 := by
  refine WP.of (RUN.mono GQ _) (cuts := [28]) (n := 400) (v_L_law_0 _ _ _ _ _ _ _ _ _ _ _ _ ?_)
  have n0 : hn (sH L xs) = 64 := rfl
  rw [n0]
  refine ⟨⟨by decide, by decide⟩, fun h1 q1 => ?_⟩
  obtain ⟨n1, sc1, b1⟩ := new1 q1 n0
  refine ⟨b1.1, ⟨by decide, by decide⟩, S_X6_init n1 b1.1 (fun k => ⟨b1.2.2.1 k, b1.2.2.2 k⟩) (fun h2 n2 sc2 I2 => ?_)⟩
  rw [n2]
  refine ⟨⟨by decide, by decide⟩, fun h3 q3 => ?_⟩
  have A3 : AL h2 h3 119 1 kM lM (fun _ _ => 0) (fun _ _ => 0) := by
    have A := AL.begin h2 8 47 kM lM rfl rfl
    rw [← q3, n2] at A
    exact A
  refine ⟨A3.k (j := 0) (by decide), ⟨by decide, by decide⟩, S_X7_init A3 (by decide) (fun h4 n4 sc4 M4 => ?_)⟩
  have n4 : hn h4 = 139 := n4
  rw [n4]
  refine ⟨⟨by decide, by decide⟩, ⟨by decide, by decide⟩, fun h5 q5 => ?_⟩
  obtain ⟨n5, sc5, b5⟩ := new1 q5 n4
  rw [n5]
  refine ⟨⟨by decide, by decide⟩, ⟨by decide, by decide⟩, fun h6 q6 => ?_⟩
  obtain ⟨n6, sc6, b6⟩ := new1 q6 n5
  have S4 : ∀ r, r < 139 → SC h4 h6 r := fun r a => (sc5 r (by omega)).trans (sc6 r (by omega))
  have S0 : ∀ r, r < 64 → SC (sH L xs) h6 r := fun r a => (sc1 r a).trans ((sc2 r a).trans ((sc4 r (by omega)).trans (S4 r (by omega))))
  have I6' : I6 h6 := I2.sc (fun r a b => (sc4 r (by omega)).trans (S4 r (by omega)))
  have K6 : KN h6 := (sH_KN L xs).sc S0
  have s1 := S0 1 (by decide)
  have p0 := sH_SP L xs
  have sp : SP h6 L xs := ⟨s1.k.trans p0.1, s1.l.trans p0.2.1, fun k => (s1.2 k).1.trans (p0.2.2 k)⟩
  have s139 := sc6 139 (by decide)
  have o6 : OS h6 := ⟨⟨s139.k.trans b5.1, s139.l.trans b5.2.1⟩, b6.1, b6.2.1⟩
  have M6 : Mt 119 h6 h6 D00 s00 0 := Md.sc M4 (fun r a b => S4 r (by omega))
  exact law_loop hL 513 0 _ _ _ h6 _ _ (by omega) (by omega) ⟨D00, s00, 0, I6'.cp K6 (by omega), CD00, M6, o6, sp⟩ (by decide) (by decide)
