/-! a state that differs only in what is watched -/
section SQ
variable {h : PH} {D : Nat → Int → Int} {s s' : Int → Int} {N : Int}
theorem CP.seq (C : CP h D s N) (G : CD D s N) (q : SEq s s') : CP h D s' N := by
  obtain ⟨B, A, B2, A2, nx, EP, E, p, T, r⟩ := C
  refine ⟨B, A, B2, A2, nx, EP, E, p, ?_, r⟩
  obtain ⟨t1, t2, t3, t4, t5⟩ := T
  refine ⟨t1, t2, t3, t4, fun l => ?_⟩
  have sz := HI_sz (G.u l).1
  exact ⟨(t5 l).1.seq q G.sw sz.1 sz.2, (t5 l).2⟩
theorem CD.seq (G : CD D s N) (q : SEq s s') : CD D s' N := by
  obtain ⟨⟨w1, w2, w3, w4, w5, w6⟩, g2, g3, g4, g5, ⟨g6, g7⟩, g8⟩ := G
  refine ⟨⟨w1, w2, w3, w4, ?_, fun l => ?_⟩, g2, g3, g4, g5, ⟨q.2.1.trans g6, q.2.2⟩, g8⟩
  · rw [q.1 1 (by decide) (by decide)]
    exact w5
  · obtain ⟨I, V, sw⟩ := w6 l
    exact ⟨q.HI I w2.1 w3.1, V, q.2.1.trans sw⟩
theorem seq_w {v : Int} (hv : InR v) : SEq s (ups s (-2) v) := ⟨fun e a b => ups_ne (by omega), ups_ne (by omega), by rw [ups_eq]; exact hv⟩
end SQ
