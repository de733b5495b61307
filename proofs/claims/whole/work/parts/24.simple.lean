/-! the simple instructions together -/
section SND2
variable {p : Program} {l : Launch} {e : Env} {R : Room} {s : State} {m : MethodId} {args : Array Value} {below : List Frame} {meth : Method} {c : Code} {Z : State → Prop} {θ : TH} {cc : ByteArray} {nL : Nat}
variable {hd : PX} {call : PC} {mc ms fr : Nat} {Q : Int → PH → Prop} {X : Nat → PH → Prop} {jmp : PK} {nxt : PL → List PV → PH → Nat → Nat → Prop}
/-- where jumps go: not below 0 -/
def ijmp (pc : Nat) : Instr → Bool
  | .goto o | .if_icmp _ o | .ifCond _ o | .ifnonnull o => decide (0 ≤ (pc : Int) + o)
  | .tableswitch d lo up os => decide (0 ≤ (pc : Int) + d) && os.toList.all (fun o => decide (0 ≤ (pc : Int) + o)) && decide (up - lo + 1 = os.toList.length) && decide (lo ≤ up)
  | _ => true
theorem oI_def (x : Int) : Value.int (Int32.ofInt x) = Value.int (oI x) := rfl
set_option maxHeartbeats 4000000 in
set_option maxRecDepth 100000 in
theorem stp_simple (hx : p.tables.exec = Jvm.exec) (hb : c.code = cc) (hal : θ.1.vm.Alike s.vm) {pc len : Nat} {i : Instr} {r : Nat × Nat × Nat × Nat} (hd' : decode cc pc = .ok (i, len)) (hlen : len = ilen i ∨ ∃ d lo up os, i = .tableswitch d lo up os) (hbb : i = .baload ∨ i = .bastore → r.1 = 21 ∨ r.1 = 22) (him : iimm i = true) (hij : ijmp pc i = true) (hs : ispec i = false)
    (hj : ∀ t L st h c0 s0, jmp t L st h c0 s0 → MW θ nL p l e R s m args below meth c Z t L st h c0 s0)
    (hn : ∀ L st h c0 s0, nxt L st h c0 s0 → MW θ nL p l e R s m args below meth c Z (pc + len) L st h c0 s0)
    {L : PL} {st : List PV} {h : PH} {c0 s0 : Nat} (H : stp hd call mc ms fr Q X jmp nxt (pc, i, len, r) L st h c0 s0) : MW θ nL p l e R s m args below meth c Z pc L st h c0 s0 := by
  cases i
  all_goals try (simp [ispec] at hs; done)
  all_goals simp only [stp] at H
  case tableswitch d lo up os =>
    split at H
    · rename_i x st'
      obtain ⟨ix, H1, H2⟩ := H
      intro Hh locs ls hR hL g1 g2
      simp only [ijmp, Bool.and_eq_true, decide_eq_true_eq, List.all_eq_true] at hij
      obtain ⟨⟨⟨j1, j2⟩, j3⟩, j4⟩ := hij
      by_cases q : x < lo ∨ up < x
      · exact lv_tableOut hx hb hd' (by rw [oI_toInt ix]; exact q) (jtgt' j1) (hj _ _ _ _ _ _ (H1 q) Hh locs ls hR hL g1 g2)
      · have h1 : ¬ x < lo := fun z => q (Or.inl z)
        have h2 : ¬ up < x := fun z => q (Or.inr z)
        have hlt : (x - lo).toNat < os.toList.length := by omega
        obtain ⟨o, ho⟩ : ∃ o, os.toList[(x - lo).toNat]? = some o := ⟨_, List.getElem?_eq_getElem hlt⟩
        have hm := m_tsw os.toList lo H2 o ho (by omega)
        exact lv_tableIn (off := o) hx hb hd' (by rw [oI_toInt ix]; exact h1) (by rw [oI_toInt ix]; exact h2) (by rw [oI_toInt ix, ← Array.getElem?_toList]; exact ho) (jtgt' (j2 o (List.mem_of_getElem? ho))) (hj _ _ _ _ _ _ hm Hh locs ls hR hL g1 g2)
    · exact H.elim
  all_goals (obtain rfl := hlen.elim id (fun q => by obtain ⟨_, _, _, _, q⟩ := q; cases q))
  case aload_n k => exact m_load hx hb hd' (Or.inr (Or.inl ⟨rfl, Or.inr ⟨k, rfl, rfl, rfl⟩⟩)) hn H
  case iload_n k => exact m_load hx hb hd' (Or.inl ⟨rfl, Or.inr ⟨k, rfl, rfl, rfl⟩⟩) hn H
  case aload k => exact m_load hx hb hd' (Or.inr (Or.inl ⟨rfl, Or.inl ⟨rfl, rfl⟩⟩)) hn H
  case iload k => exact m_load hx hb hd' (Or.inl ⟨rfl, Or.inl ⟨rfl, rfl⟩⟩) hn H
  case fload k => exact m_load hx hb hd' (Or.inr (Or.inr (Or.inl ⟨rfl, Or.inl ⟨rfl, rfl⟩⟩))) hn H
  case dload k => exact m_load hx hb hd' (Or.inr (Or.inr (Or.inr ⟨rfl, Or.inl ⟨rfl, rfl⟩⟩))) hn H
  case istore_n k => exact m_store hx hb hd' (Or.inl ⟨rfl, Or.inr ⟨k, rfl, rfl, rfl⟩⟩) hn H
  case astore_n k => exact m_store hx hb hd' (Or.inr (Or.inl ⟨rfl, Or.inr ⟨k, rfl, rfl, rfl⟩⟩)) hn H
  case fstore_n k => exact m_store hx hb hd' (Or.inr (Or.inr ⟨rfl, Or.inr ⟨k, rfl, rfl, rfl⟩⟩)) hn H
  case istore k => exact m_store hx hb hd' (Or.inl ⟨rfl, Or.inl ⟨rfl, rfl⟩⟩) hn H
  case astore k => exact m_store hx hb hd' (Or.inr (Or.inl ⟨rfl, Or.inl ⟨rfl, rfl⟩⟩)) hn H
  case fstore k => exact m_store hx hb hd' (Or.inr (Or.inr ⟨rfl, Or.inl ⟨rfl, rfl⟩⟩)) hn H
  case dstore k => exact m_stored hx hb hd' (Or.inl ⟨rfl, rfl⟩) hn H
  case dstore_n k => exact m_stored hx hb hd' (Or.inr ⟨k, rfl, rfl, rfl⟩) hn H
  case iconst n => exact fun Hh locs ls hR hL g1 g2 => lv_iconst hx hb hd' rfl (hn _ _ _ _ _ H Hh locs ls hR hL g1 g2)
  case bipush n => exact fun Hh locs ls hR hL g1 g2 => lv_bipush hx hb hd' (oI_i8 (of_decide_eq_true him)) (hn _ _ _ _ _ H Hh locs ls hR hL g1 g2)
  case sipush n => exact fun Hh locs ls hR hL g1 g2 => lv_sipush hx hb hd' (oI_i16 (of_decide_eq_true him)) (hn _ _ _ _ _ H Hh locs ls hR hL g1 g2)
  case lconst n => exact fun Hh locs ls hR hL g1 g2 => lv_lconst hx hb hd' rfl (hn _ _ _ _ _ H Hh locs ls hR hL g1 g2)
  case goto o => exact fun Hh locs ls hR hL g1 g2 => lv_goto hx hb hd' (jtgt' (of_decide_eq_true hij)) (hj _ _ _ _ _ _ H Hh locs ls hR hL g1 g2)
  case iinc k n =>
    split at H
    · rename_i x hv
      obtain ⟨ht, H⟩ := cond_t H
      simp only [Bool.and_eq_true] at ht
      intro Hh locs ls hR hL g1 g2
      have hk : k < nL := by rw [← hL.2.2.1]; exact Nat.le_of_ble_eq_true ht.1
      obtain ⟨j, hj'⟩ := List.getElem?_of_mem (toLv_mem (θ := θ) (L := L) (i := 0).mpr ⟨k, _, hv, rfl⟩)
      refine lv_iinc (v := oI (x + n)) hx hb hd' hL.has (k := j) (x := oI x) (by rw [hj', Nat.zero_add]; rfl) (oI_add x n).symm hk rfl (fun ls' h' => ?_)
      exact hn _ _ _ _ _ H Hh locs ls' hR (hL.store (v := pI (x + n)) ht.2 h') g1 g2
    · exact H.elim
  case if_icmp cd o =>
    split at H
    · rename_i y x st'
      obtain ⟨iy, ix, H⟩ := H
      intro Hh locs ls hR hL g1 g2
      have T := jtgt' (of_decide_eq_true hij)
      cases cd <;> simp only at H
      · exact lv_icmp_eq hx hb hd' T (fun q => hj _ _ _ _ _ _ (H.1 ((oI_eq iy ix).mp q)) Hh locs ls hR hL g1 g2) (fun q => hn _ _ _ _ _ (H.2 (fun z => q ((oI_eq iy ix).mpr z))) Hh locs ls hR hL g1 g2)
      · exact lv_icmp_ne hx hb hd' T (fun q => hj _ _ _ _ _ _ (H.2 (fun z => q ((oI_eq iy ix).mpr z))) Hh locs ls hR hL g1 g2) (fun q => hn _ _ _ _ _ (H.1 ((oI_eq iy ix).mp q)) Hh locs ls hR hL g1 g2)
      · exact lv_icmp_lt hx hb hd' T (fun q => hj _ _ _ _ _ _ (H.1 ((oI_lt iy ix).mp q)) Hh locs ls hR hL g1 g2) (fun q => hn _ _ _ _ _ (H.2 (Int.not_lt.mp (fun z => q ((oI_lt iy ix).mpr z)))) Hh locs ls hR hL g1 g2)
      · exact lv_icmp_ge hx hb hd' T (fun q => hj _ _ _ _ _ _ (H.2 ((oI_le ix iy).mp q)) Hh locs ls hR hL g1 g2) (fun q => hn _ _ _ _ _ (H.1 (Int.not_le.mp (fun z => q ((oI_le ix iy).mpr z)))) Hh locs ls hR hL g1 g2)
      · exact lv_icmp_gt hx hb hd' T (fun q => hj _ _ _ _ _ _ (H.1 ((oI_lt ix iy).mp q)) Hh locs ls hR hL g1 g2) (fun q => hn _ _ _ _ _ (H.2 (Int.not_lt.mp (fun z => q ((oI_lt ix iy).mpr z)))) Hh locs ls hR hL g1 g2)
      · exact lv_icmp_le hx hb hd' T (fun q => hj _ _ _ _ _ _ (H.2 ((oI_le iy ix).mp q)) Hh locs ls hR hL g1 g2) (fun q => hn _ _ _ _ _ (H.1 (Int.not_le.mp (fun z => q ((oI_le iy ix).mpr z)))) Hh locs ls hR hL g1 g2)
    · exact H.elim
  case ifCond cd o =>
    split at H
    · rename_i x st'
      obtain ⟨ix, H⟩ := H
      intro Hh locs ls hR hL g1 g2
      have T := jtgt' (of_decide_eq_true hij)
      cases cd <;> simp only at H
      · exact lv_if_eq hx hb hd' T (fun q => hj _ _ _ _ _ _ (H.1 ((oI_eq0 ix).mp q)) Hh locs ls hR hL g1 g2) (fun q => hn _ _ _ _ _ (H.2 (fun z => q ((oI_eq0 ix).mpr z))) Hh locs ls hR hL g1 g2)
      · exact lv_if_ne hx hb hd' T (fun q => hj _ _ _ _ _ _ (H.2 (fun z => q ((oI_eq0 ix).mpr z))) Hh locs ls hR hL g1 g2) (fun q => hn _ _ _ _ _ (H.1 ((oI_eq0 ix).mp q)) Hh locs ls hR hL g1 g2)
      · exact lv_if_lt hx hb hd' T (fun q => hj _ _ _ _ _ _ (H.1 ((oI_lt0 ix).mp q)) Hh locs ls hR hL g1 g2) (fun q => hn _ _ _ _ _ (H.2 (Int.not_lt.mp (fun z => q ((oI_lt0 ix).mpr z)))) Hh locs ls hR hL g1 g2)
      · exact lv_if_ge hx hb hd' T (fun q => hj _ _ _ _ _ _ (H.2 ((oI_0le ix).mp q)) Hh locs ls hR hL g1 g2) (fun q => hn _ _ _ _ _ (H.1 (Int.not_le.mp (fun z => q ((oI_0le ix).mpr z)))) Hh locs ls hR hL g1 g2)
      · exact lv_if_gt hx hb hd' T (fun q => hj _ _ _ _ _ _ (H.1 ((oI_0lt ix).mp q)) Hh locs ls hR hL g1 g2) (fun q => hn _ _ _ _ _ (H.2 (Int.not_lt.mp (fun z => q ((oI_0lt ix).mpr z)))) Hh locs ls hR hL g1 g2)
      · exact lv_if_le hx hb hd' T (fun q => hj _ _ _ _ _ _ (H.2 ((oI_le0 ix).mp q)) Hh locs ls hR hL g1 g2) (fun q => hn _ _ _ _ _ (H.1 (Int.not_le.mp (fun z => q ((oI_le0 ix).mpr z)))) Hh locs ls hR hL g1 g2)
    · exact H.elim
  case ifnonnull o =>
    split at H
    · rename_i a st'
      intro Hh locs ls hR hL g1 g2
      by_cases ha : a = 0
      · subst ha
        exact lv_ifnonnullN hx hb hd' (hn _ _ _ _ _ (H.1 rfl) Hh locs ls hR hL g1 g2)
      · simp only [List.map_cons, eV_ref ha]
        exact lv_ifnonnull hx hb hd' (jtgt' (of_decide_eq_true hij)) (hj _ _ _ _ _ _ (H.2 ha) Hh locs ls hR hL g1 g2)
    · exact H.elim
  case iadd =>
    split at H
    · rename_i y x st'
      exact fun Hh locs ls hR hL g1 g2 => lv_iadd hx hb hd' (by rw [← oI_add]; exact hn _ _ _ _ _ H Hh locs ls hR hL g1 g2)
    · exact H.elim
  case isub =>
    split at H
    · rename_i y x st'
      exact fun Hh locs ls hR hL g1 g2 => lv_isub hx hb hd' (by rw [← oI_sub]; exact hn _ _ _ _ _ H Hh locs ls hR hL g1 g2)
    · exact H.elim
  case imul =>
    split at H
    · rename_i y x st'
      exact fun Hh locs ls hR hL g1 g2 => lv_imul hx hb hd' (by rw [← oI_mul]; exact hn _ _ _ _ _ H Hh locs ls hR hL g1 g2)
    · exact H.elim
  case idiv =>
    split at H
    · rename_i y x st'
      obtain ⟨ix, iy, hne, H⟩ := H
      exact fun Hh locs ls hR hL g1 g2 => lv_idiv hx hb hd' (fun q => hne ((oI_eq0 iy).mp q)) (by rw [← oI_div ix iy]; exact hn _ _ _ _ _ H Hh locs ls hR hL g1 g2)
    · exact H.elim
  case irem =>
    split at H
    · rename_i y x st'
      obtain ⟨ix, iy, hne, H⟩ := H
      exact fun Hh locs ls hR hL g1 g2 => lv_irem hx hb hd' (fun q => hne ((oI_eq0 iy).mp q)) (by rw [← oI_rem ix iy]; exact hn _ _ _ _ _ H Hh locs ls hR hL g1 g2)
    · exact H.elim
  case ishl =>
    split at H
    · rename_i y x st'
      exact fun Hh locs ls hR hL g1 g2 => lv_ishl hx hb hd' (by have hg := hn _ _ _ _ _ H Hh locs ls hR hL g1 g2; rw [← oI_of (oI x <<< (oI y &&& 31))]; exact hg)
    · exact H.elim
  case ishr =>
    split at H
    · rename_i y x st'
      exact fun Hh locs ls hR hL g1 g2 => lv_ishr hx hb hd' (by have hg := hn _ _ _ _ _ H Hh locs ls hR hL g1 g2; rw [← oI_of (oI x >>> (oI y &&& 31))]; exact hg)
    · exact H.elim
  case iand =>
    split at H
    · rename_i y x st'
      exact fun Hh locs ls hR hL g1 g2 => lv_iand hx hb hd' (by have hg := hn _ _ _ _ _ H Hh locs ls hR hL g1 g2; rw [← oI_of (oI x &&& oI y)]; exact hg)
    · exact H.elim
  case ior =>
    split at H
    · rename_i y x st'
      exact fun Hh locs ls hR hL g1 g2 => lv_ior hx hb hd' (by have hg := hn _ _ _ _ _ H Hh locs ls hR hL g1 g2; rw [← oI_of (oI x ||| oI y)]; exact hg)
    · exact H.elim
  case ixor =>
    split at H
    · rename_i y x st'
      exact fun Hh locs ls hR hL g1 g2 => lv_ixor hx hb hd' (by have hg := hn _ _ _ _ _ H Hh locs ls hR hL g1 g2; rw [← oI_of (oI x ^^^ oI y)]; exact hg)
    · exact H.elim
  case i2b =>
    split at H
    · rename_i x st'
      exact fun Hh locs ls hR hL g1 g2 => lv_i2b hx hb hd' (oI_of _).symm (hn _ _ _ _ _ H Hh locs ls hR hL g1 g2)
    · exact H.elim
  case i2l =>
    split at H
    · rename_i x st'
      exact fun Hh locs ls hR hL g1 g2 => lv_i2l hx hb hd' (oI_long H.1) (hn _ _ _ _ _ H.2 Hh locs ls hR hL g1 g2)
    · exact H.elim
  case i2d =>
    split at H
    · rename_i x st'
      exact fun Hh locs ls hR hL g1 g2 => lv_i2d hx hb hd' (by have hg := hn _ _ _ _ _ H Hh locs ls hR hL g1 g2; rw [← f64_of (FP.i2d (oI x))]; exact hg)
    · exact H.elim
  case i2f =>
    split at H
    · rename_i x st'
      exact fun Hh locs ls hR hL g1 g2 => lv_i2f hx hb hd' (by have hg := hn _ _ _ _ _ H Hh locs ls hR hL g1 g2; rw [← f32_of (FP.i2f (oI x))]; exact hg)
    · exact H.elim
  case f2d =>
    split at H
    · rename_i x st'
      obtain ⟨h1, H⟩ := H
      unfold okD ff2d at h1
      rw [f64_of] at h1
      exact fun Hh locs ls hR hL g1 g2 => lv_f2d hx hb hd' h1 (by have hg := hn _ _ _ _ _ H Hh locs ls hR hL g1 g2; rw [← f64_of (FP.f2d (f32 x))]; exact hg)
    · exact H.elim
  case fdiv =>
    split at H
    · rename_i y x st'
      obtain ⟨h1, H⟩ := H
      unfold okF ffdiv at h1
      rw [f32_of] at h1
      exact fun Hh locs ls hR hL g1 g2 => lv_fdiv hx hb hd' h1 (by have hg := hn _ _ _ _ _ H Hh locs ls hR hL g1 g2; rw [← f32_of (FP.fdiv (f32 x) (f32 y))]; exact hg)
    · exact H.elim
  case ddiv =>
    split at H
    · rename_i y x st'
      obtain ⟨h1, H⟩ := H
      unfold okD fddiv at h1
      rw [f64_of] at h1
      exact fun Hh locs ls hR hL g1 g2 => lv_ddiv hx hb hd' h1 (by have hg := hn _ _ _ _ _ H Hh locs ls hR hL g1 g2; rw [← f64_of (FP.ddiv (f64 x) (f64 y))]; exact hg)
    · exact H.elim
  case dcmp op =>
    split at H
    · rename_i y x st'
      exact fun Hh locs ls hR hL g1 g2 => lv_dcmp hx hb hd' (by have hg := hn _ _ _ _ _ H Hh locs ls hR hL g1 g2; rw [← oI_of (Op.cmpValue (FP.dcmp (f64 x) (f64 y)) op)]; exact hg)
    · exact H.elim
  case fcmp op =>
    split at H
    · rename_i y x st'
      exact fun Hh locs ls hR hL g1 g2 => lv_fcmp hx hb hd' (by have hg := hn _ _ _ _ _ H Hh locs ls hR hL g1 g2; rw [← oI_of (Op.cmpValue (FP.fcmp (f32 x) (f32 y)) op)]; exact hg)
    · exact H.elim
  case lcmp =>
    split at H
    · rename_i y x st'
      obtain ⟨ix, iy, H⟩ := H
      refine fun Hh locs ls hR hL g1 g2 => W.lcmp hx hb hd' ?_
      have hg := hn _ _ _ _ _ H Hh locs ls hR hL g1 g2
      have he : lg_cmp (Int64.ofInt x) (Int64.ofInt y) = oI (if x < y then -1 else if x = y then 0 else 1) := by
        unfold lg_cmp
        simp only [oL_lt ix iy, oL_eq ix iy, oL_lt iy ix]
        by_cases h1 : x < y
        · have : ¬ y < x := by omega
          have : ¬ x = y := by omega
          simp [*]
          try rfl
        · by_cases h2 : x = y
          · simp [*]
            try rfl
          · have : y < x := by omega
            simp [*]
            try rfl
      rw [he]
      exact hg
    · exact H.elim
  case pop =>
    split at H
    · exact fun Hh locs ls hR hL g1 g2 => lv_pop hx hb hd' rfl (hn _ _ _ _ _ H Hh locs ls hR hL g1 g2)
    · exact H.elim
  case dup =>
    split at H
    · exact fun Hh locs ls hR hL g1 g2 => lv_dup hx hb hd' rfl (hn _ _ _ _ _ H Hh locs ls hR hL g1 g2)
    · exact fun Hh locs ls hR hL g1 g2 => lv_dup hx hb hd' (dup_cat (θ := θ) trivial) (hn _ _ _ _ _ H Hh locs ls hR hL g1 g2)
    · exact H.elim
  case dup2 =>
    split at H
    · exact fun Hh locs ls hR hL g1 g2 => lv_dup2_11 hx hb hd' rfl (dup_cat (θ := θ) trivial) (hn _ _ _ _ _ H Hh locs ls hR hL g1 g2)
    · exact H.elim
  case arraylength =>
    split at H
    · rename_i a st'
      obtain ⟨⟨k1, k2⟩, H⟩ := H
      intro Hh locs ls hR hL g1 g2
      obtain ⟨cell, hc, hcok, ha⟩ := hR.1.at (r := a) (by omega) (by omega)
      have hA : ∃ ty f, aOK θ h a cell ty f := by
        have hkk : hk h a = 20 ∨ hk h a = 21 ∨ hk h a = 22 ∨ hk h a = 23 ∨ hk h a = 24 ∨ hk h a = 25 ∨ hk h a = 26 := by omega
        unfold cOK at hcok
        rcases hkk with e | e | e | e | e | e | e <;> rw [e] at hcok <;> first | exact ⟨_, _, hcok⟩ | exact ⟨_, _, hcok.1⟩
      obtain ⟨ty, f, hA⟩ := hA
      simp only [List.map_cons, eV_ref ha]
      exact W.alen hx hb hc (hA.moved hal) (n := oI (hl h a)) hA.2.2.1.2 rfl rfl hd' (hn _ _ _ _ _ H Hh locs ls hR hL g1 g2)
    · exact H.elim
  case iaload =>
    split at H
    · rename_i j a st'
      obtain ⟨hkk, hj2, H⟩ := H
      intro Hh locs ls hR hL g1 g2
      obtain ⟨cell, hc, hcok, ha⟩ := hR.1.at (r := a) (by omega) (by omega)
      have hA : aOK θ h a cell .int (fun j => .int (oI (hi h a j))) := by
        unfold cOK at hcok
        rcases hkk with e | e <;> rw [e] at hcok <;> exact hcok
      obtain ⟨b1, b2, b3⟩ := lv_bounds hA hj2
      simp only [List.map_cons, eV_ref ha]
      exact W.iald hx hb hc (hA.moved hal) hA.2.1 b1 (v := .int (oI (hi h a j.toNat))) (by rw [b2]; exact hA.2.2.2.2 _ b3) rfl rfl hd' (hn _ _ _ _ _ H Hh locs ls hR hL g1 g2)
    · exact H.elim
  case baload =>
    split at H
    · rename_i j a st'
      obtain ⟨hkk, hj2, H⟩ := H
      intro Hh locs ls hR hL g1 g2
      obtain ⟨cell, hc, hcok, ha⟩ := hR.1.at (r := a) (by have := hbb (Or.inl rfl); omega) (by have := hbb (Or.inl rfl); omega)
      simp only [List.map_cons, eV_ref ha]
      unfold cOK at hcok
      rcases hbb (Or.inl rfl) with e | e <;> rw [hkk, e] at hcok
      · obtain ⟨b1, b2, b3⟩ := lv_bounds hcok hj2
        exact W.bald hx hb hc (aOK.moved hal hcok) hcok.2.1 b1 (v := .int (oI (hi h a j.toNat))) (by rw [b2]; exact hcok.2.2.2.2 _ b3) rfl rfl hd' (hn _ _ _ _ _ H Hh locs ls hR hL g1 g2)
      · obtain ⟨b1, b2, b3⟩ := lv_bounds hcok hj2
        exact W.zald hx hb hc (aOK.moved hal hcok) hcok.2.1 b1 (v := .int (oI (hi h a j.toNat))) (by rw [b2]; exact hcok.2.2.2.2 _ b3) rfl rfl hd' (hn _ _ _ _ _ H Hh locs ls hR hL g1 g2)
    · exact H.elim
  case laload =>
    split at H
    · rename_i j a st'
      obtain ⟨hkk, hj2, H⟩ := H
      intro Hh locs ls hR hL g1 g2
      obtain ⟨cell, hc, hcok, ha⟩ := hR.1.at (r := a) (by omega) (by omega)
      simp only [List.map_cons, eV_ref ha]
      unfold cOK at hcok
      rw [hkk] at hcok
      obtain ⟨b1, b2, b3⟩ := lv_bounds hcok hj2
      exact W.lald hx hb hc (aOK.moved hal hcok) hcok.2.1 b1 (v := .long (Int64.ofInt (hi h a j.toNat))) (by rw [b2]; exact hcok.2.2.2.2 _ b3) rfl rfl hd' (hn _ _ _ _ _ H Hh locs ls hR hL g1 g2)
    · exact H.elim
  case daload =>
    split at H
    · rename_i j a st'
      obtain ⟨hkk, hj2, H⟩ := H
      intro Hh locs ls hR hL g1 g2
      obtain ⟨cell, hc, hcok, ha⟩ := hR.1.at (r := a) (by omega) (by omega)
      simp only [List.map_cons, eV_ref ha]
      unfold cOK at hcok
      rw [hkk] at hcok
      obtain ⟨b1, b2, b3⟩ := lv_bounds hcok hj2
      exact W.dald hx hb hc (aOK.moved hal hcok) hcok.2.1 b1 (v := .double (f64 (hi h a j.toNat))) (by rw [b2]; exact hcok.2.2.2.2 _ b3) rfl rfl hd' (hn _ _ _ _ _ H Hh locs ls hR hL g1 g2)
    · exact H.elim
  case aaload =>
    split at H
    · rename_i j a st'
      obtain ⟨hkk, hj2, H⟩ := H
      intro Hh locs ls hR hL g1 g2
      obtain ⟨cell, hc, hcok, ha⟩ := hR.1.at (r := a) (by omega) (by omega)
      simp only [List.map_cons, eV_ref ha]
      unfold cOK at hcok
      rw [hkk] at hcok
      have hcok := hcok.1
      obtain ⟨b1, b2, b3⟩ := lv_bounds hcok hj2
      exact W.aald hx hb hc (aOK.moved hal hcok) rfl hcok.2.1 b1 (v := eR θ (hr h a j.toNat)) (by rw [b2]; exact hcok.2.2.2.2 _ b3) rfl rfl hd' (hn _ _ _ _ _ H Hh locs ls hR hL g1 g2)
    · exact H.elim
  case iastore =>
    split at H
    · rename_i x j a st'
      obtain ⟨hkk, hj2, H⟩ := H
      intro Hh locs ls hR hL g1 g2
      obtain ⟨cell, hc, hcok, ha⟩ := hR.1.at (r := a) (by omega) (by omega)
      have h64 := hR.1.big (r := a) (by omega) (by omega) (by omega)
      simp only [List.map_cons, eV_ref ha]
      unfold cOK at hcok
      rw [hkk] at hcok
      obtain ⟨b1, b2, b3⟩ := lv_bounds hcok hj2
      refine W.iast hx hb hc (aOK.moved hal hcok) hcok.2.1 b1 rfl rfl hd' (fun H' e1 e2 e3 => ?_)
      rw [b2] at e1
      refine hn _ _ _ _ _ (H _ rfl) H' _ ls ⟨hR.1.put h64 (by omega) rfl (fun _ => rfl) (fun _ => rfl) (fun q hq => ⟨hi_hsi_ne hq, rfl⟩) e1 ?_ e2 e3, locs_put hR.2 (by rw [tad_hi h64]; omega)⟩ hL g1 g2
      unfold cOK
      rw [show hk (hsi h a j.toNat x) a = 20 from hkk]
      exact aOK.set hcok b3 rfl (by rw [hi_hsi_eq, if_pos rfl]) (fun q hq => by rw [hi_hsi_eq, if_neg hq])
    · exact H.elim
  case lastore =>
    split at H
    · rename_i x j a st'
      obtain ⟨hkk, hj2, H⟩ := H
      intro Hh locs ls hR hL g1 g2
      obtain ⟨cell, hc, hcok, ha⟩ := hR.1.at (r := a) (by omega) (by omega)
      have h64 := hR.1.big (r := a) (by omega) (by omega) (by omega)
      simp only [List.map_cons, eV_ref ha]
      unfold cOK at hcok
      rw [hkk] at hcok
      obtain ⟨b1, b2, b3⟩ := lv_bounds hcok hj2
      refine W.last hx hb hc (aOK.moved hal hcok) hcok.2.1 b1 rfl rfl hd' (fun H' e1 e2 e3 => ?_)
      rw [b2] at e1
      refine hn _ _ _ _ _ (H _ rfl) H' _ ls ⟨hR.1.put h64 (by omega) rfl (fun _ => rfl) (fun _ => rfl) (fun q hq => ⟨hi_hsi_ne hq, rfl⟩) e1 ?_ e2 e3, locs_put hR.2 (by rw [tad_hi h64]; omega)⟩ hL g1 g2
      unfold cOK
      rw [show hk (hsi h a j.toNat x) a = 23 from hkk]
      exact aOK.set hcok b3 rfl (by rw [hi_hsi_eq, if_pos rfl]) (fun q hq => by rw [hi_hsi_eq, if_neg hq])
    · exact H.elim
  case dastore =>
    split at H
    · rename_i x j a st'
      obtain ⟨hkk, hj2, H⟩ := H
      intro Hh locs ls hR hL g1 g2
      obtain ⟨cell, hc, hcok, ha⟩ := hR.1.at (r := a) (by omega) (by omega)
      have h64 := hR.1.big (r := a) (by omega) (by omega) (by omega)
      simp only [List.map_cons, eV_ref ha]
      unfold cOK at hcok
      rw [hkk] at hcok
      obtain ⟨b1, b2, b3⟩ := lv_bounds hcok hj2
      refine W.dast hx hb hc (aOK.moved hal hcok) hcok.2.1 b1 rfl rfl hd' (fun H' e1 e2 e3 => ?_)
      rw [b2] at e1
      refine hn _ _ _ _ _ (H _ rfl) H' _ ls ⟨hR.1.put h64 (by omega) rfl (fun _ => rfl) (fun _ => rfl) (fun q hq => ⟨hi_hsi_ne hq, rfl⟩) e1 ?_ e2 e3, locs_put hR.2 (by rw [tad_hi h64]; omega)⟩ hL g1 g2
      unfold cOK
      rw [show hk (hsi h a j.toNat x) a = 24 from hkk]
      exact aOK.set hcok b3 rfl (by rw [hi_hsi_eq, if_pos rfl]) (fun q hq => by rw [hi_hsi_eq, if_neg hq])
    · exact H.elim
  case bastore =>
    split at H
    · rename_i x j a st'
      obtain ⟨hkk, hj2, H⟩ := H
      intro Hh locs ls hR hL g1 g2
      obtain ⟨cell, hc, hcok, ha⟩ := hR.1.at (r := a) (by have := hbb (Or.inr rfl); omega) (by have := hbb (Or.inr rfl); omega)
      have h64 := hR.1.big (r := a) (by have := hbb (Or.inr rfl); omega) (by have := hbb (Or.inr rfl); omega) (by have := hbb (Or.inr rfl); omega)
      simp only [List.map_cons, eV_ref ha]
      unfold cOK at hcok
      rcases hbb (Or.inr rfl) with e | e <;> rw [hkk, e] at hcok <;> rw [e] at H hkk <;> simp only at H
      · obtain ⟨b1, b2, b3⟩ := lv_bounds hcok hj2
        refine W.bast hx hb hc (aOK.moved hal hcok) hcok.2.1 b1 rfl rfl hd' (fun H' e1 e2 e3 => ?_)
        rw [b2] at e1
        refine hn _ _ _ _ _ (H _ rfl) H' _ ls ⟨hR.1.put h64 (by omega) rfl (fun _ => rfl) (fun _ => rfl) (fun q hq => ⟨hi_hsi_ne hq, rfl⟩) e1 ?_ e2 e3, locs_put hR.2 (by rw [tad_hi h64]; omega)⟩ hL g1 g2
        unfold cOK
        rw [show hk (hsi h a j.toNat (bi2b x)) a = 21 from hkk]
        exact aOK.set hcok b3 rfl (by rw [hi_hsi_eq, if_pos rfl]; unfold bi2b; rw [oI_of]; rfl) (fun q hq => by rw [hi_hsi_eq, if_neg hq])
      · obtain ⟨b1, b2, b3⟩ := lv_bounds hcok hj2
        obtain ⟨hx01, H⟩ := H
        refine W.zast hx hb hc (aOK.moved hal hcok) hcok.2.1 b1 rfl rfl hd' (fun H' e1 e2 e3 => ?_)
        rw [b2] at e1
        refine hn _ _ _ _ _ (H _ rfl) H' _ ls ⟨hR.1.put h64 (by omega) rfl (fun _ => rfl) (fun _ => rfl) (fun q hq => ⟨hi_hsi_ne hq, rfl⟩) e1 ?_ e2 e3, locs_put hR.2 (by rw [tad_hi h64]; omega)⟩ hL g1 g2
        unfold cOK
        rw [show hk (hsi h a j.toNat x) a = 22 from hkk]
        exact aOK.set hcok b3 rfl (by rw [hi_hsi_eq, if_pos rfl]; rcases hx01 with rfl | rfl <;> rfl) (fun q hq => by rw [hi_hsi_eq, if_neg hq])
    · exact H.elim
end SND2
