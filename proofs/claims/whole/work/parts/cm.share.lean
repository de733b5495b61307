/-! the two shares (to come) -/
theorem cl_meanWait {L : Nat} {xs : Nat → Int32} {i N : Int} {h : PH} {c s : Nat} {z6 z7 z8 : Option PV} (Z : LT h L xs N) (hi0 : 0 ≤ i) (hL : i + 6 ≤ L) (hN : N + 97000 ≤ 99999999) (hc : c + 24 ≤ 601024) (hs : s + 1700 ≤ 7293034) (HK : HKL L xs i N c s) : WPL 1524 [some (pA 1), some (pA 64), some (pA 119), some (pA 139), some (pA 140), some (pI i), z6, z7, z8] [] h c s := by
  sorry
theorem cl_handledShare {L : Nat} {xs : Nat → Int32} {i N : Int} {h : PH} {c s : Nat} {z6 z7 z8 : Option PV} (Z : LT h L xs N) (hi0 : 0 ≤ i) (hL : i + 6 ≤ L) (hN : N + 97000 ≤ 99999999) (hc : c + 24 ≤ 601024) (hs : s + 1700 ≤ 7293034) (HK : HKL L xs i N c s) : WPL 1589 [some (pA 1), some (pA 64), some (pA 119), some (pA 139), some (pA 140), some (pI i), z6, z7, z8] [] h c s := by
  sorry
