/-! each table is good: decoding, words of the tables (written by wip/whole/tools/gen12.py) -/
def isWI (q : PI) : Bool := match q.2.1 with
  | .ldc _ | .ldc_w _ | .getfield _ | .putfield _ | .getstatic _ | .newarray _ | .anewarray _ | .invokevirtual _ | .invokestatic _ | .invokespecial _ => true
  | .new _ => Nat.blt q.2.2.2.1 90
  | _ => false
def isTsw : Instr → Bool
  | .tableswitch _ _ _ _ => true
  | _ => false
def retB (ret : Option FieldType) (r : Nat) : Bool := match ret with
  | some .int => r == 1
  | some .boolean => r == 5
  | some .byte => r == 6
  | some .char => r == 7
  | _ => false
def objB : Option FieldType → Bool
  | some (.object _) => true
  | _ => false
def okB (y : MethodName) (cc : ByteArray) (ret : Option FieldType) (q : PI) : Bool :=
  decide (decode cc q.1 = .ok (q.2.1, q.2.2.1)) && (Nat.beq q.2.2.1 (ilen q.2.1) || isTsw q.2.1) && iimm q.2.1 && ijmp q.1 q.2.1 && (match q.2.1 with
  | .baload | .bastore => Nat.beq q.2.2.2.1 21 || Nat.beq q.2.2.2.1 22
  | .fconst n => decide (n = 0)
  | .dconst n => decide (n = 0)
  | .ireturn => retB ret q.2.2.2.1
  | .areturn => objB ret
  | .freturn => decide (ret = some .float)
  | .dreturn => decide (ret = some .double)
  | .return_ => decide (ret = none)
  | .putfield _ => decide ((clT (q.2.2.2.1 - 1) q.2.2.2.2.1).2.2.2 = false) || decide (y.name = "<init>")
  | _ => true)
/-- a site: the instruction, its operand; the class -/
abbrev siOK (own : String) (z : Instr × Nat × Nat × Nat × Nat) : Prop := specOK MTq BQ 338 ⟨own, "<init>", ""⟩ ByteArray.empty none 0 z.1 z.2
def siteOf (q : PI) : Option (Instr × Nat × Nat × Nat × Nat) := cond (isWI q) (some (q.2.1, q.2.2.2)) none
theorem okI_of {y : MethodName} {cc : ByteArray} {ret : Option FieldType} {q : PI} (hb : okB y cc ret q = true) (hw : isWI q = true → siOK y.cls (q.2.1, q.2.2.2)) (ht : ∀ idx, q.2.1 = .new idx → 90 ≤ q.2.2.2.1 → thrOK y.cls cc q.1 idx (q.2.2.2.1 - 90)) : okI MTq BQ 338 y cc ret q := by
  obtain ⟨pc, i, len, r⟩ := q
  simp only [okB, Bool.and_eq_true, decide_eq_true_eq, Bool.or_eq_true] at hb
  obtain ⟨⟨⟨⟨b1, b2⟩, b3⟩, b4⟩, b5⟩ := hb
  refine ⟨b1, ?_, ?_, b3, b4, ?_⟩
  · rcases b2 with b2 | b2
    · exact Or.inl (Nat.eq_of_beq_eq_true b2)
    · right
      dsimp only at b2 ⊢
      cases i <;> first | exact ⟨_, _, _, _, rfl⟩ | exact nomatch b2
  · dsimp only at b5 ⊢
    rintro (rfl | rfl)
    · simp only [Bool.or_eq_true] at b5; exact b5.imp Nat.eq_of_beq_eq_true Nat.eq_of_beq_eq_true
    · simp only [Bool.or_eq_true] at b5; exact b5.imp Nat.eq_of_beq_eq_true Nat.eq_of_beq_eq_true
  · dsimp only at b5 hw ht ⊢
    cases i
    case new idx =>
      by_cases h9 : 90 ≤ r.1
      · exact Or.inl ⟨h9, ht idx rfl h9⟩
      · refine (hw (Nat.blt_eq.mpr (by dsimp only; omega))).elim (fun q => absurd q.1 h9) Or.inr
    case putfield idx =>
      obtain ⟨s1, s2, s3, s4⟩ : 1 ≤ r.1 ∧ fldW y.cls idx (r.1 - 1) r.2.1 ∧ tyc (cly (r.1 - 1) r.2.1) = r.2.2.1 ∧ ((clT (r.1 - 1) r.2.1).2.2.2 = false ∨ (y.cls = (clT (r.1 - 1) r.2.1).1 ∧ "<init>" = "<init>")) := hw rfl
      refine ⟨s1, s2, s3, ?_⟩
      simp only [Bool.or_eq_true, decide_eq_true_eq] at b5
      rcases b5 with b5 | b5
      · exact Or.inl b5
      · exact s4.imp id (fun q => ⟨q.1, b5⟩)
    case areturn =>
      show ∃ C, ret = some (.object C)
      dsimp only [objB] at b5
      split at b5
      · exact ⟨_, rfl⟩
      · cases b5
    case ireturn =>
      show retI ret r.1
      dsimp only [retB] at b5
      unfold retI
      split at b5 <;> simp_all
    all_goals first | exact hw rfl | trivial | (simp only [decide_eq_true_eq] at b5; exact b5)
theorem sites_ok {own : String} {ST : List (Instr × Nat × Nat × Nat × Nat)} (hS : ∀ z ∈ ST, siOK own z) {full : List PI} (ps : List Nat) (h : full.filterMap siteOf = ps.filterMap (fun i => ST[i]?)) : ∀ q ∈ full, isWI q = true → siOK own (q.2.1, q.2.2.2) := by
  intro q hq hw
  have h1 : (q.2.1, q.2.2.2) ∈ full.filterMap siteOf := List.mem_filterMap.mpr ⟨q, hq, by unfold siteOf; rw [hw]; rfl⟩
  rw [h] at h1
  obtain ⟨i, -, hi⟩ := List.mem_filterMap.mp h1
  exact hS _ (List.mem_of_getElem? hi)
def noThr (full : List PI) : Bool := full.all (fun q => !nofall q)
theorem noThr_spec {full : List PI} (h : noThr full = true) : ∀ q ∈ full, ∀ idx, q.2.1 = .new idx → q.2.2.2.1 < 90 := by
  intro q hq idx hi
  have := List.all_eq_true.mp h q hq
  unfold nofall at this
  rw [hi] at this
  have this : (!Nat.ble 90 q.2.2.2.1) = true := this
  by_cases h9 : 90 ≤ q.2.2.2.1
  · rw [Nat.ble_eq.mpr h9] at this; cases this
  · omega
theorem tbga {ws : List Cond} (h : ws.all (fun w => (goodWord w || isNestW w) && lw_tbl.any (fun v => decide (v = w))) = true) : ∀ w ∈ ws, w ∈ TBLg ∨ w ∈ TBLn := by
  intro w hw
  have h := List.all_eq_true.mp h w hw
  simp only [Bool.and_eq_true, Bool.or_eq_true, List.any_eq_true, decide_eq_true_eq] at h
  obtain ⟨g, v, hv, rfl⟩ := h
  exact g.imp (fun g => List.mem_filter.mpr ⟨hv, g⟩) (fun g => List.mem_filter.mpr ⟨hv, g⟩)
/-- what a call asks of the called -/
def calM (q : MI) : Prop := q.2.2.1 ≤ 19 ∧ (q.1.cls ≠ "java/lang/invoke/MethodHandle" ∧ q.1.cls ≠ "java/lang/invoke/VarHandle") ∧ Cond.initialized q.1.cls ∈ TBLg ∧ codeW q ∈ TBLg
theorem siV {own : String} {k n t b idx ci : Nat} {q : MI} (hM : MTq k = q) (hB : BQ k = b % 16) (hk' : k < 338) (hc : calM q) (h1 : retc q.2.2.2.1 = t) (h2 : q.2.2.2.2 = []) (h3 : ci < 8) (h4 : clR ci = q.1.cls) (h5 : b / 16 = ci + 1) (h6 : nparm q.1 = some (n - 1)) (h7 : 1 ≤ n) (w1 : Cond.methodLink own idx q.1 ∈ TBLg) (w2 : Cond.instanceMethod q.1 ∈ TBLg) (w3 : Cond.selects q.1.cls q.1 q.1 ∈ TBLg) : siOK own (.invokevirtual idx, k, n, t, b) := by
  subst hM
  exact Or.inr ⟨hk', by decide, h1, hB.symm, hc.1, hc.2.1, hc.2.2.1, hc.2.2.2, h2, ⟨ci, h3, h4, h5⟩, h6, h7, w1, w2, w3⟩
theorem siS {own : String} {k n t b idx : Nat} {q : MI} (hM : MTq k = q) (hB : BQ k = b % 16) (hk' : k < 338) (hc : calM q) (h1 : retc q.2.2.2.1 = t) (h5 : b / 16 = 0) (h6 : nparm q.1 = some n) (w1 : Cond.methodLink own idx q.1 ∈ TBLg) (w2 : Cond.static q.1 ∈ TBLg) : siOK own (.invokestatic idx, k, n, t, b) := by
  subst hM
  exact Or.inr ⟨hk', by decide, h1, hB.symm, hc.1, hc.2.1, hc.2.2.1, hc.2.2.2, h5, h6, w1, w2⟩
theorem siI {own : String} {k n t b idx ci : Nat} {q : MI} (hM : MTq k = q) (hB : BQ k = b % 16) (hk' : k < 338) (hc : calM q) (h1 : retc q.2.2.2.1 = t) (h2 : q.2.2.2.2 = []) (h3 : q.2.2.2.1 = none) (h4 : q.1.name = "<init>") (h5 : b / 16 = ci + 1) (h6 : nparm q.1 = some (n - 1)) (h7 : 1 ≤ n) (w1 : Cond.methodLink own idx q.1 ∈ TBLg ∨ ∃ host, Cond.methodLinkNest own idx q.1 host ∈ TBLn) (w2 : Cond.instanceMethod q.1 ∈ TBLg) : siOK own (.invokespecial idx, k, n, t, b) := by
  subst hM
  exact Or.inr ⟨hk', by decide, h1, hB.symm, hc.1, hc.2.1, hc.2.2.1, hc.2.2.2, h2, h3, h4, ⟨ci, h5⟩, h6, h7, w1, w2⟩
theorem cw_X0_init : codeW q_X0_init ∈ TBLg := w_202
theorem cm_X0_init : calM q_X0_init := ⟨by decide, ⟨by decide +kernel, by decide +kernel⟩, w_124, cw_X0_init⟩
theorem cw_X0_empty : codeW q_X0_empty ∈ TBLg := w_492
theorem cm_X0_empty : calM q_X0_empty := ⟨by decide, ⟨by decide +kernel, by decide +kernel⟩, w_124, cw_X0_empty⟩
theorem cw_X0_fillWithZeros : codeW q_X0_fillWithZeros ∈ TBLg := w_495
theorem cm_X0_fillWithZeros : calM q_X0_fillWithZeros := ⟨by decide, ⟨by decide +kernel, by decide +kernel⟩, w_124, cw_X0_fillWithZeros⟩
theorem cw_X0_copyFrom : codeW q_X0_copyFrom ∈ TBLg := w_1032
theorem cm_X0_copyFrom : calM q_X0_copyFrom := ⟨by decide, ⟨by decide +kernel, by decide +kernel⟩, w_124, cw_X0_copyFrom⟩
theorem cw_X0_copyRow : codeW q_X0_copyRow ∈ TBLg := w_1035
theorem cm_X0_copyRow : calM q_X0_copyRow := ⟨by decide, ⟨by decide +kernel, by decide +kernel⟩, w_124, cw_X0_copyRow⟩
theorem cw_X0_settingOf : codeW q_X0_settingOf ∈ TBLg := w_818
theorem cm_X0_settingOf : calM q_X0_settingOf := ⟨by decide, ⟨by decide +kernel, by decide +kernel⟩, w_124, cw_X0_settingOf⟩
theorem cw_X0_putSetting : codeW q_X0_putSetting ∈ TBLg := w_590
theorem cm_X0_putSetting : calM q_X0_putSetting := ⟨by decide, ⟨by decide +kernel, by decide +kernel⟩, w_124, cw_X0_putSetting⟩
theorem cw_X0_kindNumber : codeW q_X0_kindNumber ∈ TBLg := w_833
theorem cm_X0_kindNumber : calM q_X0_kindNumber := ⟨by decide, ⟨by decide +kernel, by decide +kernel⟩, w_124, cw_X0_kindNumber⟩
theorem cw_X0_putKindNumber : codeW q_X0_putKindNumber ∈ TBLg := w_623
theorem cm_X0_putKindNumber : calM q_X0_putKindNumber := ⟨by decide, ⟨by decide +kernel, by decide +kernel⟩, w_124, cw_X0_putKindNumber⟩
theorem cw_X0_tiredOf : codeW q_X0_tiredOf ∈ TBLg := w_886
theorem cm_X0_tiredOf : calM q_X0_tiredOf := ⟨by decide, ⟨by decide +kernel, by decide +kernel⟩, w_124, cw_X0_tiredOf⟩
theorem cw_X0_urgencyOf : codeW q_X0_urgencyOf ∈ TBLg := w_719
theorem cm_X0_urgencyOf : calM q_X0_urgencyOf := ⟨by decide, ⟨by decide +kernel, by decide +kernel⟩, w_124, cw_X0_urgencyOf⟩
theorem cw_X0_maskOf : codeW q_X0_maskOf ∈ TBLg := w_678
theorem cm_X0_maskOf : calM q_X0_maskOf := ⟨by decide, ⟨by decide +kernel, by decide +kernel⟩, w_124, cw_X0_maskOf⟩
theorem cw_X0_isMasked : codeW q_X0_isMasked ∈ TBLg := w_674
theorem cm_X0_isMasked : calM q_X0_isMasked := ⟨by decide, ⟨by decide +kernel, by decide +kernel⟩, w_124, cw_X0_isMasked⟩
theorem cw_X0_putMask : codeW q_X0_putMask ∈ TBLg := w_682
theorem cm_X0_putMask : calM q_X0_putMask := ⟨by decide, ⟨by decide +kernel, by decide +kernel⟩, w_124, cw_X0_putMask⟩
theorem cw_X0_tally : codeW q_X0_tally ∈ TBLg := w_851
theorem cm_X0_tally : calM q_X0_tally := ⟨by decide, ⟨by decide +kernel, by decide +kernel⟩, w_124, cw_X0_tally⟩
theorem cw_X0_addToTally : codeW q_X0_addToTally ∈ TBLg := w_703
theorem cm_X0_addToTally : calM q_X0_addToTally := ⟨by decide, ⟨by decide +kernel, by decide +kernel⟩, w_124, cw_X0_addToTally⟩
theorem cw_X0_endedBy : codeW q_X0_endedBy ∈ TBLg := w_807
theorem cm_X0_endedBy : calM q_X0_endedBy := ⟨by decide, ⟨by decide +kernel, by decide +kernel⟩, w_124, cw_X0_endedBy⟩
theorem cw_X0_told : codeW q_X0_told ∈ TBLg := w_803
theorem cm_X0_told : calM q_X0_told := ⟨by decide, ⟨by decide +kernel, by decide +kernel⟩, w_124, cw_X0_told⟩
theorem cw_X0_endPart : codeW q_X0_endPart ∈ TBLg := w_922
theorem cm_X0_endPart : calM q_X0_endPart := ⟨by decide, ⟨by decide +kernel, by decide +kernel⟩, w_124, cw_X0_endPart⟩
theorem cw_X0_toldEndOf : codeW q_X0_toldEndOf ∈ TBLg := w_947
theorem cm_X0_toldEndOf : calM q_X0_toldEndOf := ⟨by decide, ⟨by decide +kernel, by decide +kernel⟩, w_124, cw_X0_toldEndOf⟩
theorem cw_X0_areIdle : codeW q_X0_areIdle ∈ TBLg := w_1051
theorem cm_X0_areIdle : calM q_X0_areIdle := ⟨by decide, ⟨by decide +kernel, by decide +kernel⟩, w_124, cw_X0_areIdle⟩
theorem cw_X0_firstUnmasked : codeW q_X0_firstUnmasked ∈ TBLg := w_960
theorem cm_X0_firstUnmasked : calM q_X0_firstUnmasked := ⟨by decide, ⟨by decide +kernel, by decide +kernel⟩, w_124, cw_X0_firstUnmasked⟩
theorem cw_X0_lastInOrder : codeW q_X0_lastInOrder ∈ TBLg := w_711
theorem cm_X0_lastInOrder : calM q_X0_lastInOrder := ⟨by decide, ⟨by decide +kernel, by decide +kernel⟩, w_124, cw_X0_lastInOrder⟩
theorem cw_X0_placeInOrder : codeW q_X0_placeInOrder ∈ TBLg := w_897
theorem cm_X0_placeInOrder : calM q_X0_placeInOrder := ⟨by decide, ⟨by decide +kernel, by decide +kernel⟩, w_124, cw_X0_placeInOrder⟩
theorem cw_X0_comesBefore : codeW q_X0_comesBefore ∈ TBLg := w_901
theorem cm_X0_comesBefore : calM q_X0_comesBefore := ⟨by decide, ⟨by decide +kernel, by decide +kernel⟩, w_124, cw_X0_comesBefore⟩
theorem cw_X0_sendSignal : codeW q_X0_sendSignal ∈ TBLg := w_691
theorem cm_X0_sendSignal : calM q_X0_sendSignal := ⟨by decide, ⟨by decide +kernel, by decide +kernel⟩, w_124, cw_X0_sendSignal⟩
theorem cw_X0_endSignal : codeW q_X0_endSignal ∈ TBLg := w_723
theorem cm_X0_endSignal : calM q_X0_endSignal := ⟨by decide, ⟨by decide +kernel, by decide +kernel⟩, w_124, cw_X0_endSignal⟩
theorem cw_X0_dropFrom : codeW q_X0_dropFrom ∈ TBLg := w_1264
theorem cm_X0_dropFrom : calM q_X0_dropFrom := ⟨by decide, ⟨by decide +kernel, by decide +kernel⟩, w_124, cw_X0_dropFrom⟩
theorem cw_X0_dropAll : codeW q_X0_dropAll ∈ TBLg := w_1277
theorem cm_X0_dropAll : calM q_X0_dropAll := ⟨by decide, ⟨by decide +kernel, by decide +kernel⟩, w_124, cw_X0_dropAll⟩
theorem cw_X0_dropKind : codeW q_X0_dropKind ∈ TBLg := w_1098
theorem cm_X0_dropKind : calM q_X0_dropKind := ⟨by decide, ⟨by decide +kernel, by decide +kernel⟩, w_124, cw_X0_dropKind⟩
theorem cw_X0_takeTirednessAway : codeW q_X0_takeTirednessAway ∈ TBLg := w_1288
theorem cm_X0_takeTirednessAway : calM q_X0_takeTirednessAway := ⟨by decide, ⟨by decide +kernel, by decide +kernel⟩, w_124, cw_X0_takeTirednessAway⟩
theorem cw_X0_passTick : codeW q_X0_passTick ∈ TBLg := w_1055
theorem cm_X0_passTick : calM q_X0_passTick := ⟨by decide, ⟨by decide +kernel, by decide +kernel⟩, w_124, cw_X0_passTick⟩
theorem cw_X0_recover : codeW q_X0_recover ∈ TBLg := w_1059
theorem cm_X0_recover : calM q_X0_recover := ⟨by decide, ⟨by decide +kernel, by decide +kernel⟩, w_124, cw_X0_recover⟩
theorem cw_X0_loseAged : codeW q_X0_loseAged ∈ TBLg := w_1063
theorem cm_X0_loseAged : calM q_X0_loseAged := ⟨by decide, ⟨by decide +kernel, by decide +kernel⟩, w_124, cw_X0_loseAged⟩
theorem cw_X0_beginNext : codeW q_X0_beginNext ∈ TBLg := w_1068
theorem cm_X0_beginNext : calM q_X0_beginNext := ⟨by decide, ⟨by decide +kernel, by decide +kernel⟩, w_124, cw_X0_beginNext⟩
theorem cw_X0_mayBegin : codeW q_X0_mayBegin ∈ TBLg := w_1073
theorem cm_X0_mayBegin : calM q_X0_mayBegin := ⟨by decide, ⟨by decide +kernel, by decide +kernel⟩, w_124, cw_X0_mayBegin⟩
theorem cw_X0_pushHandler : codeW q_X0_pushHandler ∈ TBLg := w_1078
theorem cm_X0_pushHandler : calM q_X0_pushHandler := ⟨by decide, ⟨by decide +kernel, by decide +kernel⟩, w_124, cw_X0_pushHandler⟩
theorem cw_X0_workOnTop : codeW q_X0_workOnTop ∈ TBLg := w_1082
theorem cm_X0_workOnTop : calM q_X0_workOnTop := ⟨by decide, ⟨by decide +kernel, by decide +kernel⟩, w_124, cw_X0_workOnTop⟩
theorem cw_X0_tire : codeW q_X0_tire ∈ TBLg := w_1086
theorem cm_X0_tire : calM q_X0_tire := ⟨by decide, ⟨by decide +kernel, by decide +kernel⟩, w_124, cw_X0_tire⟩
theorem cw_X0_doAct : codeW q_X0_doAct ∈ TBLg := w_1091
theorem cm_X0_doAct : calM q_X0_doAct := ⟨by decide, ⟨by decide +kernel, by decide +kernel⟩, w_124, cw_X0_doAct⟩
theorem cw_X1_init : codeW q_X1_init ∈ TBLg := w_208
theorem cm_X1_init : calM q_X1_init := ⟨by decide, ⟨by decide +kernel, by decide +kernel⟩, w_125, cw_X1_init⟩
theorem cw_X1_empty : codeW q_X1_empty ∈ TBLg := w_499
theorem cm_X1_empty : calM q_X1_empty := ⟨by decide, ⟨by decide +kernel, by decide +kernel⟩, w_125, cw_X1_empty⟩
theorem cw_X1_copyFrom : codeW q_X1_copyFrom ∈ TBLg := w_1045
theorem cm_X1_copyFrom : calM q_X1_copyFrom := ⟨by decide, ⟨by decide +kernel, by decide +kernel⟩, w_125, cw_X1_copyFrom⟩
theorem cw_X1_sizeOf : codeW q_X1_sizeOf ∈ TBLg := w_707
theorem cm_X1_sizeOf : calM q_X1_sizeOf := ⟨by decide, ⟨by decide +kernel, by decide +kernel⟩, w_125, cw_X1_sizeOf⟩
theorem cw_X1_total : codeW q_X1_total ∈ TBLg := w_799
theorem cm_X1_total : calM q_X1_total := ⟨by decide, ⟨by decide +kernel, by decide +kernel⟩, w_125, cw_X1_total⟩
theorem cw_X1_part : codeW q_X1_part ∈ TBLg := w_715
theorem cm_X1_part : calM q_X1_part := ⟨by decide, ⟨by decide +kernel, by decide +kernel⟩, w_125, cw_X1_part⟩
theorem cw_X1_put : codeW q_X1_put ∈ TBLg := w_699
theorem cm_X1_put : calM q_X1_put := ⟨by decide, ⟨by decide +kernel, by decide +kernel⟩, w_125, cw_X1_put⟩
theorem cw_X1_addRow : codeW q_X1_addRow ∈ TBLg := w_695
theorem cm_X1_addRow : calM q_X1_addRow := ⟨by decide, ⟨by decide +kernel, by decide +kernel⟩, w_125, cw_X1_addRow⟩
theorem cw_X1_removeRow : codeW q_X1_removeRow ∈ TBLg := w_727
theorem cm_X1_removeRow : calM q_X1_removeRow := ⟨by decide, ⟨by decide +kernel, by decide +kernel⟩, w_125, cw_X1_removeRow⟩
theorem cw_X1_indexOf : codeW q_X1_indexOf ∈ TBLg := w_941
theorem cm_X1_indexOf : calM q_X1_indexOf := ⟨by decide, ⟨by decide +kernel, by decide +kernel⟩, w_125, cw_X1_indexOf⟩
theorem cw_X1_programOf : codeW q_X1_programOf ∈ TBLg := w_937
theorem cm_X1_programOf : calM q_X1_programOf := ⟨by decide, ⟨by decide +kernel, by decide +kernel⟩, w_125, cw_X1_programOf⟩
theorem cw_X2_init : codeW q_X2_init ∈ TBLg := w_159
theorem cm_X2_init : calM q_X2_init := ⟨by decide, ⟨by decide +kernel, by decide +kernel⟩, w_123, cw_X2_init⟩
theorem cw_X2_placeOf : codeW q_X2_placeOf ∈ TBLg := w_607
theorem cm_X2_placeOf : calM q_X2_placeOf := ⟨by decide, ⟨by decide +kernel, by decide +kernel⟩, w_123, cw_X2_placeOf⟩
theorem cw_X2_isAt : codeW q_X2_isAt ∈ TBLg := w_611
theorem cm_X2_isAt : calM q_X2_isAt := ⟨by decide, ⟨by decide +kernel, by decide +kernel⟩, w_123, cw_X2_isAt⟩
theorem cw_X2_lengthOf : codeW q_X2_lengthOf ∈ TBLg := w_1188
theorem cm_X2_lengthOf : calM q_X2_lengthOf := ⟨by decide, ⟨by decide +kernel, by decide +kernel⟩, w_123, cw_X2_lengthOf⟩
theorem cw_X2_letterOf : codeW q_X2_letterOf ∈ TBLg := w_1192
theorem cm_X2_letterOf : calM q_X2_letterOf := ⟨by decide, ⟨by decide +kernel, by decide +kernel⟩, w_123, cw_X2_letterOf⟩
theorem cw_X2_add : codeW q_X2_add ∈ TBLg := w_615
theorem cm_X2_add : calM q_X2_add := ⟨by decide, ⟨by decide +kernel, by decide +kernel⟩, w_123, cw_X2_add⟩
theorem cw_X3_init : codeW q_X3_init ∈ TBLg := w_279
theorem cm_X3_init : calM q_X3_init := ⟨by decide, ⟨by decide +kernel, by decide +kernel⟩, w_126, cw_X3_init⟩
theorem cw_X3_restart : codeW q_X3_restart ∈ TBLg := w_1172
theorem cm_X3_restart : calM q_X3_restart := ⟨by decide, ⟨by decide +kernel, by decide +kernel⟩, w_126, cw_X3_restart⟩
theorem cw_X3_byteAt : codeW q_X3_byteAt ∈ TBLg := w_1224
theorem cm_X3_byteAt : calM q_X3_byteAt := ⟨by decide, ⟨by decide +kernel, by decide +kernel⟩, w_126, cw_X3_byteAt⟩
theorem cw_X3_putByte : codeW q_X3_putByte ∈ TBLg := w_1176
theorem cm_X3_putByte : calM q_X3_putByte := ⟨by decide, ⟨by decide +kernel, by decide +kernel⟩, w_126, cw_X3_putByte⟩
theorem cw_X3_putNumber : codeW q_X3_putNumber ∈ TBLg := w_1180
theorem cm_X3_putNumber : calM q_X3_putNumber := ⟨by decide, ⟨by decide +kernel, by decide +kernel⟩, w_126, cw_X3_putNumber⟩
theorem cw_X3_putName : codeW q_X3_putName ∈ TBLg := w_1184
theorem cm_X3_putName : calM q_X3_putName := ⟨by decide, ⟨by decide +kernel, by decide +kernel⟩, w_126, cw_X3_putName⟩
theorem cw_X4_init : codeW q_X4_init ∈ TBLg := w_443
theorem cm_X4_init : calM q_X4_init := ⟨by decide, ⟨by decide +kernel, by decide +kernel⟩, w_132, cw_X4_init⟩
theorem cw_X4_readText : codeW q_X4_readText ∈ TBLg := w_484
theorem cm_X4_readText : calM q_X4_readText := ⟨by decide, ⟨by decide +kernel, by decide +kernel⟩, w_132, cw_X4_readText⟩
theorem cw_X4_readKindLine : codeW q_X4_readKindLine ∈ TBLg := w_595
theorem cm_X4_readKindLine : calM q_X4_readKindLine := ⟨by decide, ⟨by decide +kernel, by decide +kernel⟩, w_132, cw_X4_readKindLine⟩
theorem cw_X4_readProgramLine : codeW q_X4_readProgramLine ∈ TBLg := w_628
theorem cm_X4_readProgramLine : calM q_X4_readProgramLine := ⟨by decide, ⟨by decide +kernel, by decide +kernel⟩, w_132, cw_X4_readProgramLine⟩
theorem cw_X4_readHandleLine : codeW q_X4_readHandleLine ∈ TBLg := w_633
theorem cm_X4_readHandleLine : calM q_X4_readHandleLine := ⟨by decide, ⟨by decide +kernel, by decide +kernel⟩, w_132, cw_X4_readHandleLine⟩
theorem cw_X4_readAct : codeW q_X4_readAct ∈ TBLg := w_653
theorem cm_X4_readAct : calM q_X4_readAct := ⟨by decide, ⟨by decide +kernel, by decide +kernel⟩, w_132, cw_X4_readAct⟩
theorem cw_X4_actType : codeW q_X4_actType ∈ TBLg := w_657
theorem cm_X4_actType : calM q_X4_actType := ⟨by decide, ⟨by decide +kernel, by decide +kernel⟩, w_132, cw_X4_actType⟩
theorem cw_X4_readHideLine : codeW q_X4_readHideLine ∈ TBLg := w_670
theorem cm_X4_readHideLine : calM q_X4_readHideLine := ⟨by decide, ⟨by decide +kernel, by decide +kernel⟩, w_132, cw_X4_readHideLine⟩
theorem cw_X4_readSendLine : codeW q_X4_readSendLine ∈ TBLg := w_687
theorem cm_X4_readSendLine : calM q_X4_readSendLine := ⟨by decide, ⟨by decide +kernel, by decide +kernel⟩, w_132, cw_X4_readSendLine⟩
theorem cw_X4_takeFirstWord : codeW q_X4_takeFirstWord ∈ TBLg := w_599
theorem cm_X4_takeFirstWord : calM q_X4_takeFirstWord := ⟨by decide, ⟨by decide +kernel, by decide +kernel⟩, w_132, cw_X4_takeFirstWord⟩
theorem cw_X4_takeNewName : codeW q_X4_takeNewName ∈ TBLg := w_603
theorem cm_X4_takeNewName : calM q_X4_takeNewName := ⟨by decide, ⟨by decide +kernel, by decide +kernel⟩, w_132, cw_X4_takeNewName⟩
theorem cw_X4_takeName : codeW q_X4_takeName ∈ TBLg := w_637
theorem cm_X4_takeName : calM q_X4_takeName := ⟨by decide, ⟨by decide +kernel, by decide +kernel⟩, w_132, cw_X4_takeName⟩
theorem cw_X4_knownName : codeW q_X4_knownName ∈ TBLg := w_641
theorem cm_X4_knownName : calM q_X4_knownName := ⟨by decide, ⟨by decide +kernel, by decide +kernel⟩, w_132, cw_X4_knownName⟩
theorem cw_X4_takeNumber : codeW q_X4_takeNumber ∈ TBLg := w_586
theorem cm_X4_takeNumber : calM q_X4_takeNumber := ⟨by decide, ⟨by decide +kernel, by decide +kernel⟩, w_132, cw_X4_takeNumber⟩
theorem cw_X4_fail : codeW q_X4_fail ∈ TBLg := w_578
theorem cm_X4_fail : calM q_X4_fail := ⟨by decide, ⟨by decide +kernel, by decide +kernel⟩, w_132, cw_X4_fail⟩
theorem cw_X4_wordIs : codeW q_X4_wordIs ∈ TBLg := w_526
theorem cm_X4_wordIs : calM q_X4_wordIs := ⟨by decide, ⟨by decide +kernel, by decide +kernel⟩, w_132, cw_X4_wordIs⟩
theorem cw_X4_byteAt : codeW q_X4_byteAt ∈ TBLg := w_507
theorem cm_X4_byteAt : calM q_X4_byteAt := ⟨by decide, ⟨by decide +kernel, by decide +kernel⟩, w_132, cw_X4_byteAt⟩
theorem cw_X4_advance : codeW q_X4_advance ∈ TBLg := w_503
theorem cm_X4_advance : calM q_X4_advance := ⟨by decide, ⟨by decide +kernel, by decide +kernel⟩, w_132, cw_X4_advance⟩
theorem cw_X4_scanWord : codeW q_X4_scanWord ∈ TBLg := w_514
theorem cm_X4_scanWord : calM q_X4_scanWord := ⟨by decide, ⟨by decide +kernel, by decide +kernel⟩, w_132, cw_X4_scanWord⟩
theorem cw_X4_scanNumber : codeW q_X4_scanNumber ∈ TBLg := w_521
theorem cm_X4_scanNumber : calM q_X4_scanNumber := ⟨by decide, ⟨by decide +kernel, by decide +kernel⟩, w_132, cw_X4_scanNumber⟩
theorem cw_X4_isLetter : codeW q_X4_isLetter ∈ TBLg := w_510
theorem cm_X4_isLetter : calM q_X4_isLetter := ⟨by decide, ⟨by decide +kernel, by decide +kernel⟩, w_132, cw_X4_isLetter⟩
theorem cw_X4_isDigit : codeW q_X4_isDigit ∈ TBLg := w_517
theorem cm_X4_isDigit : calM q_X4_isDigit := ⟨by decide, ⟨by decide +kernel, by decide +kernel⟩, w_132, cw_X4_isDigit⟩
theorem cw_X5_init : codeW q_X5_init ∈ TBLg := w_153
theorem cm_X5_init : calM q_X5_init := ⟨by decide, ⟨by decide +kernel, by decide +kernel⟩, w_122, cw_X5_init⟩
theorem cw_X5_empty : codeW q_X5_empty ∈ TBLg := w_488
theorem cm_X5_empty : calM q_X5_empty := ⟨by decide, ⟨by decide +kernel, by decide +kernel⟩, w_122, cw_X5_empty⟩
theorem cw_X5_ticksOf : codeW q_X5_ticksOf ∈ TBLg := w_645
theorem cm_X5_ticksOf : calM q_X5_ticksOf := ⟨by decide, ⟨by decide +kernel, by decide +kernel⟩, w_122, cw_X5_ticksOf⟩
theorem cw_X5_actsOf : codeW q_X5_actsOf ∈ TBLg := w_863
theorem cm_X5_actsOf : calM q_X5_actsOf := ⟨by decide, ⟨by decide +kernel, by decide +kernel⟩, w_122, cw_X5_actsOf⟩
theorem cw_X5_actPart : codeW q_X5_actPart ∈ TBLg := w_867
theorem cm_X5_actPart : calM q_X5_actPart := ⟨by decide, ⟨by decide +kernel, by decide +kernel⟩, w_122, cw_X5_actPart⟩
theorem cw_X5_addHandler : codeW q_X5_addHandler ∈ TBLg := w_649
theorem cm_X5_addHandler : calM q_X5_addHandler := ⟨by decide, ⟨by decide +kernel, by decide +kernel⟩, w_122, cw_X5_addHandler⟩
theorem cw_X5_addAct : codeW q_X5_addAct ∈ TBLg := w_665
theorem cm_X5_addAct : calM q_X5_addAct := ⟨by decide, ⟨by decide +kernel, by decide +kernel⟩, w_122, cw_X5_addAct⟩
theorem cw_X5_handlersOf : codeW q_X5_handlersOf ∈ TBLg := w_794
theorem cm_X5_handlersOf : calM q_X5_handlersOf := ⟨by decide, ⟨by decide +kernel, by decide +kernel⟩, w_122, cw_X5_handlersOf⟩
theorem cw_X5_handlersInAll : codeW q_X5_handlersInAll ∈ TBLg := w_790
theorem cm_X5_handlersInAll : calM q_X5_handlersInAll := ⟨by decide, ⟨by decide +kernel, by decide +kernel⟩, w_122, cw_X5_handlersInAll⟩
theorem cw_X5_raises : codeW q_X5_raises ∈ TBLg := w_1015
theorem cm_X5_raises : calM q_X5_raises := ⟨by decide, ⟨by decide +kernel, by decide +kernel⟩, w_122, cw_X5_raises⟩
theorem cw_X6_init : codeW q_X6_init ∈ TBLg := w_145
theorem cm_X6_init : calM q_X6_init := ⟨by decide, ⟨by decide +kernel, by decide +kernel⟩, w_121, cw_X6_init⟩
theorem cw_X6_append : codeW q_X6_append ∈ TBLg := w_339
theorem cm_X6_append : calM q_X6_append := ⟨by decide, ⟨by decide +kernel, by decide +kernel⟩, w_121, cw_X6_append⟩
theorem cw_X6_appendWord : codeW q_X6_appendWord ∈ TBLg := w_343
theorem cm_X6_appendWord : calM q_X6_appendWord := ⟨by decide, ⟨by decide +kernel, by decide +kernel⟩, w_121, cw_X6_appendWord⟩
theorem cw_X6_load : codeW q_X6_load ∈ TBLg := w_368
theorem cm_X6_load : calM q_X6_load := ⟨by decide, ⟨by decide +kernel, by decide +kernel⟩, w_121, cw_X6_load⟩
theorem cw_X6_takeSpare : codeW q_X6_takeSpare ∈ TBLg := w_750
theorem cm_X6_takeSpare : calM q_X6_takeSpare := ⟨by decide, ⟨by decide +kernel, by decide +kernel⟩, w_121, cw_X6_takeSpare⟩
theorem cw_X6_parseError : codeW q_X6_parseError ∈ TBLg := w_347
theorem cm_X6_parseError : calM q_X6_parseError := ⟨by decide, ⟨by decide +kernel, by decide +kernel⟩, w_121, cw_X6_parseError⟩
theorem cw_X6_errorPosition : codeW q_X6_errorPosition ∈ TBLg := w_351
theorem cm_X6_errorPosition : calM q_X6_errorPosition := ⟨by decide, ⟨by decide +kernel, by decide +kernel⟩, w_121, cw_X6_errorPosition⟩
theorem cw_X6_buffered : codeW q_X6_buffered ∈ TBLg := w_355
theorem cm_X6_buffered : calM q_X6_buffered := ⟨by decide, ⟨by decide +kernel, by decide +kernel⟩, w_121, cw_X6_buffered⟩
theorem cw_X6_find : codeW q_X6_find ∈ TBLg := w_758
theorem cm_X6_find : calM q_X6_find := ⟨by decide, ⟨by decide +kernel, by decide +kernel⟩, w_121, cw_X6_find⟩
theorem cw_X6_count : codeW q_X6_count ∈ TBLg := w_786
theorem cm_X6_count : calM q_X6_count := ⟨by decide, ⟨by decide +kernel, by decide +kernel⟩, w_121, cw_X6_count⟩
theorem cw_X6_setting : codeW q_X6_setting ∈ TBLg := w_814
theorem cm_X6_setting : calM q_X6_setting := ⟨by decide, ⟨by decide +kernel, by decide +kernel⟩, w_121, cw_X6_setting⟩
theorem cw_X6_kind : codeW q_X6_kind ∈ TBLg := w_825
theorem cm_X6_kind : calM q_X6_kind := ⟨by decide, ⟨by decide +kernel, by decide +kernel⟩, w_121, cw_X6_kind⟩
theorem cw_X6_program : codeW q_X6_program ∈ TBLg := w_840
theorem cm_X6_program : calM q_X6_program := ⟨by decide, ⟨by decide +kernel, by decide +kernel⟩, w_121, cw_X6_program⟩
theorem cw_X6_handler : codeW q_X6_handler ∈ TBLg := w_858
theorem cm_X6_handler : calM q_X6_handler := ⟨by decide, ⟨by decide +kernel, by decide +kernel⟩, w_121, cw_X6_handler⟩
theorem cw_X6_urgency : codeW q_X6_urgency ∈ TBLg := w_874
theorem cm_X6_urgency : calM q_X6_urgency := ⟨by decide, ⟨by decide +kernel, by decide +kernel⟩, w_121, cw_X6_urgency⟩
theorem cw_X6_tiredness : codeW q_X6_tiredness ∈ TBLg := w_882
theorem cm_X6_tiredness : calM q_X6_tiredness := ⟨by decide, ⟨by decide +kernel, by decide +kernel⟩, w_121, cw_X6_tiredness⟩
theorem cw_X6_queue : codeW q_X6_queue ∈ TBLg := w_893
theorem cm_X6_queue : calM q_X6_queue := ⟨by decide, ⟨by decide +kernel, by decide +kernel⟩, w_121, cw_X6_queue⟩
theorem cw_X6_running : codeW q_X6_running ∈ TBLg := w_909
theorem cm_X6_running : calM q_X6_running := ⟨by decide, ⟨by decide +kernel, by decide +kernel⟩, w_121, cw_X6_running⟩
theorem cw_X6_end : codeW q_X6_end ∈ TBLg := w_918
theorem cm_X6_end : calM q_X6_end := ⟨by decide, ⟨by decide +kernel, by decide +kernel⟩, w_121, cw_X6_end⟩
theorem cw_X6_whereIs : codeW q_X6_whereIs ∈ TBLg := w_929
theorem cm_X6_whereIs : calM q_X6_whereIs := ⟨by decide, ⟨by decide +kernel, by decide +kernel⟩, w_121, cw_X6_whereIs⟩
theorem cw_X6_next : codeW q_X6_next ∈ TBLg := w_956
theorem cm_X6_next : calM q_X6_next := ⟨by decide, ⟨by decide +kernel, by decide +kernel⟩, w_121, cw_X6_next⟩
theorem cw_X6_busiest : codeW q_X6_busiest ∈ TBLg := w_968
theorem cm_X6_busiest : calM q_X6_busiest := ⟨by decide, ⟨by decide +kernel, by decide +kernel⟩, w_121, cw_X6_busiest⟩
theorem cw_X6_tiredest : codeW q_X6_tiredest ∈ TBLg := w_975
theorem cm_X6_tiredest : calM q_X6_tiredest := ⟨by decide, ⟨by decide +kernel, by decide +kernel⟩, w_121, cw_X6_tiredest⟩
theorem cw_X6_oldest : codeW q_X6_oldest ∈ TBLg := w_982
theorem cm_X6_oldest : calM q_X6_oldest := ⟨by decide, ⟨by decide +kernel, by decide +kernel⟩, w_121, cw_X6_oldest⟩
theorem cw_X6_loser : codeW q_X6_loser ∈ TBLg := w_989
theorem cm_X6_loser : calM q_X6_loser := ⟨by decide, ⟨by decide +kernel, by decide +kernel⟩, w_121, cw_X6_loser⟩
theorem cw_X6_meanWait : codeW q_X6_meanWait ∈ TBLg := w_997
theorem cm_X6_meanWait : calM q_X6_meanWait := ⟨by decide, ⟨by decide +kernel, by decide +kernel⟩, w_121, cw_X6_meanWait⟩
theorem cw_X6_handledShare : codeW q_X6_handledShare ∈ TBLg := w_1004
theorem cm_X6_handledShare : calM q_X6_handledShare := ⟨by decide, ⟨by decide +kernel, by decide +kernel⟩, w_121, cw_X6_handledShare⟩
theorem cw_X6_raisers : codeW q_X6_raisers ∈ TBLg := w_1011
theorem cm_X6_raisers : calM q_X6_raisers := ⟨by decide, ⟨by decide +kernel, by decide +kernel⟩, w_121, cw_X6_raisers⟩
theorem cw_X6_idleIn : codeW q_X6_idleIn ∈ TBLg := w_1024
theorem cm_X6_idleIn : calM q_X6_idleIn := ⟨by decide, ⟨by decide +kernel, by decide +kernel⟩, w_121, cw_X6_idleIn⟩
theorem cw_X6_calmIn : codeW q_X6_calmIn ∈ TBLg := w_1105
theorem cm_X6_calmIn : calM q_X6_calmIn := ⟨by decide, ⟨by decide +kernel, by decide +kernel⟩, w_121, cw_X6_calmIn⟩
theorem cw_X6_ticksUntilIdle : codeW q_X6_ticksUntilIdle ∈ TBLg := w_1028
theorem cm_X6_ticksUntilIdle : calM q_X6_ticksUntilIdle := ⟨by decide, ⟨by decide +kernel, by decide +kernel⟩, w_121, cw_X6_ticksUntilIdle⟩
theorem cw_X6_endIn : codeW q_X6_endIn ∈ TBLg := w_1112
theorem cm_X6_endIn : calM q_X6_endIn := ⟨by decide, ⟨by decide +kernel, by decide +kernel⟩, w_121, cw_X6_endIn⟩
theorem cw_X6_endOf : codeW q_X6_endOf ∈ TBLg := w_1123
theorem cm_X6_endOf : calM q_X6_endOf := ⟨by decide, ⟨by decide +kernel, by decide +kernel⟩, w_121, cw_X6_endOf⟩
theorem cw_X6_ticksUntilEnd : codeW q_X6_ticksUntilEnd ∈ TBLg := w_1116
theorem cm_X6_ticksUntilEnd : calM q_X6_ticksUntilEnd := ⟨by decide, ⟨by decide +kernel, by decide +kernel⟩, w_121, cw_X6_ticksUntilEnd⟩
theorem cw_X6_endsIn : codeW q_X6_endsIn ∈ TBLg := w_1130
theorem cm_X6_endsIn : calM q_X6_endsIn := ⟨by decide, ⟨by decide +kernel, by decide +kernel⟩, w_121, cw_X6_endsIn⟩
theorem cw_X6_urgencyIn : codeW q_X6_urgencyIn ∈ TBLg := w_1141
theorem cm_X6_urgencyIn : calM q_X6_urgencyIn := ⟨by decide, ⟨by decide +kernel, by decide +kernel⟩, w_121, cw_X6_urgencyIn⟩
theorem cw_X6_sentIn : codeW q_X6_sentIn ∈ TBLg := w_1148
theorem cm_X6_sentIn : calM q_X6_sentIn := ⟨by decide, ⟨by decide +kernel, by decide +kernel⟩, w_121, cw_X6_sentIn⟩
theorem cw_X6_passInSpare : codeW q_X6_passInSpare ∈ TBLg := w_1134
theorem cm_X6_passInSpare : calM q_X6_passInSpare := ⟨by decide, ⟨by decide +kernel, by decide +kernel⟩, w_121, cw_X6_passInSpare⟩
theorem cw_X6_bestMask : codeW q_X6_bestMask ∈ TBLg := w_1155
theorem cm_X6_bestMask : calM q_X6_bestMask := ⟨by decide, ⟨by decide +kernel, by decide +kernel⟩, w_121, cw_X6_bestMask⟩
theorem cw_X6_othersIfMasked : codeW q_X6_othersIfMasked ∈ TBLg := w_1160
theorem cm_X6_othersIfMasked : calM q_X6_othersIfMasked := ⟨by decide, ⟨by decide +kernel, by decide +kernel⟩, w_121, cw_X6_othersIfMasked⟩
theorem cw_X6_writeQueue : codeW q_X6_writeQueue ∈ TBLg := w_1168
theorem cm_X6_writeQueue : calM q_X6_writeQueue := ⟨by decide, ⟨by decide +kernel, by decide +kernel⟩, w_121, cw_X6_writeQueue⟩
theorem cw_X6_writeStack : codeW q_X6_writeStack ∈ TBLg := w_1200
theorem cm_X6_writeStack : calM q_X6_writeStack := ⟨by decide, ⟨by decide +kernel, by decide +kernel⟩, w_121, cw_X6_writeStack⟩
theorem cw_X6_writeEnds : codeW q_X6_writeEnds ∈ TBLg := w_1207
theorem cm_X6_writeEnds : calM q_X6_writeEnds := ⟨by decide, ⟨by decide +kernel, by decide +kernel⟩, w_121, cw_X6_writeEnds⟩
theorem cw_X6_endLetter : codeW q_X6_endLetter ∈ TBLg := w_1210
theorem cm_X6_endLetter : calM q_X6_endLetter := ⟨by decide, ⟨by decide +kernel, by decide +kernel⟩, w_121, cw_X6_endLetter⟩
theorem cw_X6_textByte : codeW q_X6_textByte ∈ TBLg := w_1220
theorem cm_X6_textByte : calM q_X6_textByte := ⟨by decide, ⟨by decide +kernel, by decide +kernel⟩, w_121, cw_X6_textByte⟩
theorem cw_X6_tick : codeW q_X6_tick ∈ TBLg := w_1231
theorem cm_X6_tick : calM q_X6_tick := ⟨by decide, ⟨by decide +kernel, by decide +kernel⟩, w_121, cw_X6_tick⟩
theorem cw_X6_send : codeW q_X6_send ∈ TBLg := w_1245
theorem cm_X6_send : calM q_X6_send := ⟨by decide, ⟨by decide +kernel, by decide +kernel⟩, w_121, cw_X6_send⟩
theorem cw_X6_mask : codeW q_X6_mask ∈ TBLg := w_1253
theorem cm_X6_mask : calM q_X6_mask := ⟨by decide, ⟨by decide +kernel, by decide +kernel⟩, w_121, cw_X6_mask⟩
theorem cw_X6_drop : codeW q_X6_drop ∈ TBLg := w_1260
theorem cm_X6_drop : calM q_X6_drop := ⟨by decide, ⟨by decide +kernel, by decide +kernel⟩, w_121, cw_X6_drop⟩
theorem cw_X6_clear : codeW q_X6_clear ∈ TBLg := w_1273
theorem cm_X6_clear : calM q_X6_clear := ⟨by decide, ⟨by decide +kernel, by decide +kernel⟩, w_121, cw_X6_clear⟩
theorem cw_X6_refresh : codeW q_X6_refresh ∈ TBLg := w_1284
theorem cm_X6_refresh : calM q_X6_refresh := ⟨by decide, ⟨by decide +kernel, by decide +kernel⟩, w_121, cw_X6_refresh⟩
theorem cw_X6_setKind : codeW q_X6_setKind ∈ TBLg := w_1295
theorem cm_X6_setKind : calM q_X6_setKind := ⟨by decide, ⟨by decide +kernel, by decide +kernel⟩, w_121, cw_X6_setKind⟩
theorem cw_X6_set : codeW q_X6_set ∈ TBLg := w_1305
theorem cm_X6_set : calM q_X6_set := ⟨by decide, ⟨by decide +kernel, by decide +kernel⟩, w_121, cw_X6_set⟩
theorem cw_X6_undo : codeW q_X6_undo ∈ TBLg := w_1315
theorem cm_X6_undo : calM q_X6_undo := ⟨by decide, ⟨by decide +kernel, by decide +kernel⟩, w_121, cw_X6_undo⟩
theorem cw_X6_undoable : codeW q_X6_undoable ∈ TBLg := w_359
theorem cm_X6_undoable : calM q_X6_undoable := ⟨by decide, ⟨by decide +kernel, by decide +kernel⟩, w_121, cw_X6_undoable⟩
theorem cw_X6_save : codeW q_X6_save ∈ TBLg := w_1326
theorem cm_X6_save : calM q_X6_save := ⟨by decide, ⟨by decide +kernel, by decide +kernel⟩, w_121, cw_X6_save⟩
theorem cw_X6_restore : codeW q_X6_restore ∈ TBLg := w_1333
theorem cm_X6_restore : calM q_X6_restore := ⟨by decide, ⟨by decide +kernel, by decide +kernel⟩, w_121, cw_X6_restore⟩
theorem cw_X6_remember : codeW q_X6_remember ∈ TBLg := w_1235
theorem cm_X6_remember : calM q_X6_remember := ⟨by decide, ⟨by decide +kernel, by decide +kernel⟩, w_121, cw_X6_remember⟩
theorem cw_X6_roomAt : codeW q_X6_roomAt ∈ TBLg := w_1238
theorem cm_X6_roomAt : calM q_X6_roomAt := ⟨by decide, ⟨by decide +kernel, by decide +kernel⟩, w_121, cw_X6_roomAt⟩
theorem cw_X6_needHall : codeW q_X6_needHall ∈ TBLg := w_762
theorem cm_X6_needHall : calM q_X6_needHall := ⟨by decide, ⟨by decide +kernel, by decide +kernel⟩, w_121, cw_X6_needHall⟩
theorem cw_X6_needKind : codeW q_X6_needKind ∈ TBLg := w_829
theorem cm_X6_needKind : calM q_X6_needKind := ⟨by decide, ⟨by decide +kernel, by decide +kernel⟩, w_121, cw_X6_needKind⟩
theorem cw_X6_needProgram : codeW q_X6_needProgram ∈ TBLg := w_844
theorem cm_X6_needProgram : calM q_X6_needProgram := ⟨by decide, ⟨by decide +kernel, by decide +kernel⟩, w_121, cw_X6_needProgram⟩
theorem cw_X6_needSignal : codeW q_X6_needSignal ∈ TBLg := w_933
theorem cm_X6_needSignal : calM q_X6_needSignal := ⟨by decide, ⟨by decide +kernel, by decide +kernel⟩, w_121, cw_X6_needSignal⟩
theorem cw_X6_needState : codeW q_X6_needState ∈ TBLg := w_1318
theorem cm_X6_needState : calM q_X6_needState := ⟨by decide, ⟨by decide +kernel, by decide +kernel⟩, w_121, cw_X6_needState⟩
theorem cw_X6_needIndex : codeW q_X6_needIndex ∈ TBLg := w_371
theorem cm_X6_needIndex : calM q_X6_needIndex := ⟨by decide, ⟨by decide +kernel, by decide +kernel⟩, w_121, cw_X6_needIndex⟩
theorem cw_X6_needArgument : codeW q_X6_needArgument ∈ TBLg := w_730
theorem cm_X6_needArgument : calM q_X6_needArgument := ⟨by decide, ⟨by decide +kernel, by decide +kernel⟩, w_121, cw_X6_needArgument⟩
theorem cw_X7_init : codeW q_X7_init ∈ TBLg := w_1338
theorem cm_X7_init : calM q_X7_init := ⟨by decide, ⟨by decide +kernel, by decide +kernel⟩, w_127, cw_X7_init⟩
theorem cw_X7_thrown : codeW q_X7_thrown ∈ TBLg := w_1485
theorem cm_X7_thrown : calM q_X7_thrown := ⟨by decide, ⟨by decide +kernel, by decide +kernel⟩, w_127, cw_X7_thrown⟩
theorem cw_X7_in : codeW q_X7_in ∈ TBLg := w_1508
theorem cm_X7_in : calM q_X7_in := ⟨by decide, ⟨by decide +kernel, by decide +kernel⟩, w_127, cw_X7_in⟩
theorem cw_X7_flag : codeW q_X7_flag ∈ TBLg := w_1578
theorem cm_X7_flag : calM q_X7_flag := ⟨by decide, ⟨by decide +kernel, by decide +kernel⟩, w_127, cw_X7_flag⟩
theorem cw_X7_refuse : codeW q_X7_refuse ∈ TBLg := w_1512
theorem cm_X7_refuse : calM q_X7_refuse := ⟨by decide, ⟨by decide +kernel, by decide +kernel⟩, w_127, cw_X7_refuse⟩
theorem cw_X7_notLoaded : codeW q_X7_notLoaded ∈ TBLg := w_1676
theorem cm_X7_notLoaded : calM q_X7_notLoaded := ⟨by decide, ⟨by decide +kernel, by decide +kernel⟩, w_127, cw_X7_notLoaded⟩
theorem cw_X7_append : codeW q_X7_append ∈ TBLg := w_1489
theorem cm_X7_append : calM q_X7_append := ⟨by decide, ⟨by decide +kernel, by decide +kernel⟩, w_127, cw_X7_append⟩
theorem cw_X7_buffered : codeW q_X7_buffered ∈ TBLg := w_1493
theorem cm_X7_buffered : calM q_X7_buffered := ⟨by decide, ⟨by decide +kernel, by decide +kernel⟩, w_127, cw_X7_buffered⟩
theorem cw_X7_parseError : codeW q_X7_parseError ∈ TBLg := w_1497
theorem cm_X7_parseError : calM q_X7_parseError := ⟨by decide, ⟨by decide +kernel, by decide +kernel⟩, w_127, cw_X7_parseError⟩
theorem cw_X7_errorPosition : codeW q_X7_errorPosition ∈ TBLg := w_1501
theorem cm_X7_errorPosition : calM q_X7_errorPosition := ⟨by decide, ⟨by decide +kernel, by decide +kernel⟩, w_127, cw_X7_errorPosition⟩
theorem cw_X7_seen : codeW q_X7_seen ∈ TBLg := w_1524
theorem cm_X7_seen : calM q_X7_seen := ⟨by decide, ⟨by decide +kernel, by decide +kernel⟩, w_127, cw_X7_seen⟩
theorem cw_X7_isLetter : codeW q_X7_isLetter ∈ TBLg := w_1527
theorem cm_X7_isLetter : calM q_X7_isLetter := ⟨by decide, ⟨by decide +kernel, by decide +kernel⟩, w_127, cw_X7_isLetter⟩
theorem cw_X7_isDigit : codeW q_X7_isDigit ∈ TBLg := w_1530
theorem cm_X7_isDigit : calM q_X7_isDigit := ⟨by decide, ⟨by decide +kernel, by decide +kernel⟩, w_127, cw_X7_isDigit⟩
theorem cw_X7_token : codeW q_X7_token ∈ TBLg := w_1520
theorem cm_X7_token : calM q_X7_token := ⟨by decide, ⟨by decide +kernel, by decide +kernel⟩, w_127, cw_X7_token⟩
theorem cw_X7_fails : codeW q_X7_fails ∈ TBLg := w_1545
theorem cm_X7_fails : calM q_X7_fails := ⟨by decide, ⟨by decide +kernel, by decide +kernel⟩, w_127, cw_X7_fails⟩
theorem cw_X7_failsIf : codeW q_X7_failsIf ∈ TBLg := w_1541
theorem cm_X7_failsIf : calM q_X7_failsIf := ⟨by decide, ⟨by decide +kernel, by decide +kernel⟩, w_127, cw_X7_failsIf⟩
theorem cw_X7_goesOn : codeW q_X7_goesOn ∈ TBLg := w_1549
theorem cm_X7_goesOn : calM q_X7_goesOn := ⟨by decide, ⟨by decide +kernel, by decide +kernel⟩, w_127, cw_X7_goesOn⟩
theorem cw_X7_isWord : codeW q_X7_isWord ∈ TBLg := w_1535
theorem cm_X7_isWord : calM q_X7_isWord := ⟨by decide, ⟨by decide +kernel, by decide +kernel⟩, w_127, cw_X7_isWord⟩
theorem cw_X7_takes : codeW q_X7_takes ∈ TBLg := w_1553
theorem cm_X7_takes : calM q_X7_takes := ⟨by decide, ⟨by decide +kernel, by decide +kernel⟩, w_127, cw_X7_takes⟩
theorem cw_X7_named : codeW q_X7_named ∈ TBLg := w_1570
theorem cm_X7_named : calM q_X7_named := ⟨by decide, ⟨by decide +kernel, by decide +kernel⟩, w_127, cw_X7_named⟩
theorem cw_X7_newName : codeW q_X7_newName ∈ TBLg := w_1566
theorem cm_X7_newName : calM q_X7_newName := ⟨by decide, ⟨by decide +kernel, by decide +kernel⟩, w_127, cw_X7_newName⟩
theorem cw_X7_namedHere : codeW q_X7_namedHere ∈ TBLg := w_1591
theorem cm_X7_namedHere : calM q_X7_namedHere := ⟨by decide, ⟨by decide +kernel, by decide +kernel⟩, w_127, cw_X7_namedHere⟩
theorem cw_X7_programHere : codeW q_X7_programHere ∈ TBLg := w_1587
theorem cm_X7_programHere : calM q_X7_programHere := ⟨by decide, ⟨by decide +kernel, by decide +kernel⟩, w_127, cw_X7_programHere⟩
theorem cw_X7_kindHere : codeW q_X7_kindHere ∈ TBLg := w_1607
theorem cm_X7_kindHere : calM q_X7_kindHere := ⟨by decide, ⟨by decide +kernel, by decide +kernel⟩, w_127, cw_X7_kindHere⟩
theorem cw_X7_kindLine : codeW q_X7_kindLine ∈ TBLg := w_1562
theorem cm_X7_kindLine : calM q_X7_kindLine := ⟨by decide, ⟨by decide +kernel, by decide +kernel⟩, w_127, cw_X7_kindLine⟩
theorem cw_X7_programLine : codeW q_X7_programLine ∈ TBLg := w_1575
theorem cm_X7_programLine : calM q_X7_programLine := ⟨by decide, ⟨by decide +kernel, by decide +kernel⟩, w_127, cw_X7_programLine⟩
theorem cw_X7_actHere : codeW q_X7_actHere ∈ TBLg := w_1599
theorem cm_X7_actHere : calM q_X7_actHere := ⟨by decide, ⟨by decide +kernel, by decide +kernel⟩, w_127, cw_X7_actHere⟩
theorem cw_X7_act : codeW q_X7_act ∈ TBLg := w_1595
theorem cm_X7_act : calM q_X7_act := ⟨by decide, ⟨by decide +kernel, by decide +kernel⟩, w_127, cw_X7_act⟩
theorem cw_X7_handleLine : codeW q_X7_handleLine ∈ TBLg := w_1583
theorem cm_X7_handleLine : calM q_X7_handleLine := ⟨by decide, ⟨by decide +kernel, by decide +kernel⟩, w_127, cw_X7_handleLine⟩
theorem cw_X7_hideLine : codeW q_X7_hideLine ∈ TBLg := w_1612
theorem cm_X7_hideLine : calM q_X7_hideLine := ⟨by decide, ⟨by decide +kernel, by decide +kernel⟩, w_127, cw_X7_hideLine⟩
theorem cw_X7_sendLine : codeW q_X7_sendLine ∈ TBLg := w_1617
theorem cm_X7_sendLine : calM q_X7_sendLine := ⟨by decide, ⟨by decide +kernel, by decide +kernel⟩, w_127, cw_X7_sendLine⟩
theorem cw_X7_line : codeW q_X7_line ∈ TBLg := w_1557
theorem cm_X7_line : calM q_X7_line := ⟨by decide, ⟨by decide +kernel, by decide +kernel⟩, w_127, cw_X7_line⟩
theorem cw_X7_reads : codeW q_X7_reads ∈ TBLg := w_1516
theorem cm_X7_reads : calM q_X7_reads := ⟨by decide, ⟨by decide +kernel, by decide +kernel⟩, w_127, cw_X7_reads⟩
theorem cw_X7_becomes : codeW q_X7_becomes ∈ TBLg := w_1621
theorem cm_X7_becomes : calM q_X7_becomes := ⟨by decide, ⟨by decide +kernel, by decide +kernel⟩, w_127, cw_X7_becomes⟩
theorem cw_X7_load : codeW q_X7_load ∈ TBLg := w_1505
theorem cm_X7_load : calM q_X7_load := ⟨by decide, ⟨by decide +kernel, by decide +kernel⟩, w_127, cw_X7_load⟩
theorem cw_X7_find : codeW q_X7_find ∈ TBLg := w_1672
theorem cm_X7_find : calM q_X7_find := ⟨by decide, ⟨by decide +kernel, by decide +kernel⟩, w_127, cw_X7_find⟩
theorem cw_X7_ofKind : codeW q_X7_ofKind ∈ TBLg := w_1649
theorem cm_X7_ofKind : calM q_X7_ofKind := ⟨by decide, ⟨by decide +kernel, by decide +kernel⟩, w_127, cw_X7_ofKind⟩
theorem cw_X7_tiredOf : codeW q_X7_tiredOf ∈ TBLg := w_1653
theorem cm_X7_tiredOf : calM q_X7_tiredOf := ⟨by decide, ⟨by decide +kernel, by decide +kernel⟩, w_127, cw_X7_tiredOf⟩
theorem cw_X7_urgencyOf : codeW q_X7_urgencyOf ∈ TBLg := w_1645
theorem cm_X7_urgencyOf : calM q_X7_urgencyOf := ⟨by decide, ⟨by decide +kernel, by decide +kernel⟩, w_127, cw_X7_urgencyOf⟩
theorem cw_X7_isMasked : codeW q_X7_isMasked ∈ TBLg := w_1789
theorem cm_X7_isMasked : calM q_X7_isMasked := ⟨by decide, ⟨by decide +kernel, by decide +kernel⟩, w_127, cw_X7_isMasked⟩
theorem cw_X7_inQueue : codeW q_X7_inQueue ∈ TBLg := w_1641
theorem cm_X7_inQueue : calM q_X7_inQueue := ⟨by decide, ⟨by decide +kernel, by decide +kernel⟩, w_127, cw_X7_inQueue⟩
theorem cw_X7_onStack : codeW q_X7_onStack ∈ TBLg := w_1749
theorem cm_X7_onStack : calM q_X7_onStack := ⟨by decide, ⟨by decide +kernel, by decide +kernel⟩, w_127, cw_X7_onStack⟩
theorem cw_X7_counts : codeW q_X7_counts ∈ TBLg := w_1629
theorem cm_X7_counts : calM q_X7_counts := ⟨by decide, ⟨by decide +kernel, by decide +kernel⟩, w_127, cw_X7_counts⟩
theorem cw_X7_ends : codeW q_X7_ends ∈ TBLg := w_1668
theorem cm_X7_ends : calM q_X7_ends := ⟨by decide, ⟨by decide +kernel, by decide +kernel⟩, w_127, cw_X7_ends⟩
theorem cw_X7_leaves : codeW q_X7_leaves ∈ TBLg := w_1664
theorem cm_X7_leaves : calM q_X7_leaves := ⟨by decide, ⟨by decide +kernel, by decide +kernel⟩, w_127, cw_X7_leaves⟩
theorem cw_X7_endsInQueue : codeW q_X7_endsInQueue ∈ TBLg := w_1660
theorem cm_X7_endsInQueue : calM q_X7_endsInQueue := ⟨by decide, ⟨by decide +kernel, by decide +kernel⟩, w_127, cw_X7_endsInQueue⟩
theorem cw_X7_isAhead : codeW q_X7_isAhead ∈ TBLg := w_1637
theorem cm_X7_isAhead : calM q_X7_isAhead := ⟨by decide, ⟨by decide +kernel, by decide +kernel⟩, w_127, cw_X7_isAhead⟩
theorem cw_X7_placeOf : codeW q_X7_placeOf ∈ TBLg := w_1633
theorem cm_X7_placeOf : calM q_X7_placeOf := ⟨by decide, ⟨by decide +kernel, by decide +kernel⟩, w_127, cw_X7_placeOf⟩
theorem cw_X7_sends : codeW q_X7_sends ∈ TBLg := w_1625
theorem cm_X7_sends : calM q_X7_sends := ⟨by decide, ⟨by decide +kernel, by decide +kernel⟩, w_127, cw_X7_sends⟩
theorem cw_X7_drops : codeW q_X7_drops ∈ TBLg := w_1873
theorem cm_X7_drops : calM q_X7_drops := ⟨by decide, ⟨by decide +kernel, by decide +kernel⟩, w_127, cw_X7_drops⟩
theorem cw_X7_ages : codeW q_X7_ages ∈ TBLg := w_1849
theorem cm_X7_ages : calM q_X7_ages := ⟨by decide, ⟨by decide +kernel, by decide +kernel⟩, w_127, cw_X7_ages⟩
theorem cw_X7_nextOf : codeW q_X7_nextOf ∈ TBLg := w_1785
theorem cm_X7_nextOf : calM q_X7_nextOf := ⟨by decide, ⟨by decide +kernel, by decide +kernel⟩, w_127, cw_X7_nextOf⟩
theorem cw_X7_mayBegin : codeW q_X7_mayBegin ∈ TBLg := w_1857
theorem cm_X7_mayBegin : calM q_X7_mayBegin := ⟨by decide, ⟨by decide +kernel, by decide +kernel⟩, w_127, cw_X7_mayBegin⟩
theorem cw_X7_begins : codeW q_X7_begins ∈ TBLg := w_1853
theorem cm_X7_begins : calM q_X7_begins := ⟨by decide, ⟨by decide +kernel, by decide +kernel⟩, w_127, cw_X7_begins⟩
theorem cw_X7_stacks : codeW q_X7_stacks ∈ TBLg := w_1861
theorem cm_X7_stacks : calM q_X7_stacks := ⟨by decide, ⟨by decide +kernel, by decide +kernel⟩, w_127, cw_X7_stacks⟩
theorem cw_X7_works : codeW q_X7_works ∈ TBLg := w_1865
theorem cm_X7_works : calM q_X7_works := ⟨by decide, ⟨by decide +kernel, by decide +kernel⟩, w_127, cw_X7_works⟩
theorem cw_X7_does : codeW q_X7_does ∈ TBLg := w_1869
theorem cm_X7_does : calM q_X7_does := ⟨by decide, ⟨by decide +kernel, by decide +kernel⟩, w_127, cw_X7_does⟩
theorem cw_X7_ticksOnce : codeW q_X7_ticksOnce ∈ TBLg := w_1845
theorem cm_X7_ticksOnce : calM q_X7_ticksOnce := ⟨by decide, ⟨by decide +kernel, by decide +kernel⟩, w_127, cw_X7_ticksOnce⟩
theorem cw_X7_goesTicks : codeW q_X7_goesTicks ∈ TBLg := w_1905
theorem cm_X7_goesTicks : calM q_X7_goesTicks := ⟨by decide, ⟨by decide +kernel, by decide +kernel⟩, w_127, cw_X7_goesTicks⟩
theorem cw_X7_sumOf : codeW q_X7_sumOf ∈ TBLg := w_1684
theorem cm_X7_sumOf : calM q_X7_sumOf := ⟨by decide, ⟨by decide +kernel, by decide +kernel⟩, w_127, cw_X7_sumOf⟩
theorem cw_X7_toldEnds : codeW q_X7_toldEnds ∈ TBLg := w_1688
theorem cm_X7_toldEnds : calM q_X7_toldEnds := ⟨by decide, ⟨by decide +kernel, by decide +kernel⟩, w_127, cw_X7_toldEnds⟩
theorem cw_X7_count : codeW q_X7_count ∈ TBLg := w_1680
theorem cm_X7_count : calM q_X7_count := ⟨by decide, ⟨by decide +kernel, by decide +kernel⟩, w_127, cw_X7_count⟩
theorem cw_X7_setting : codeW q_X7_setting ∈ TBLg := w_1693
theorem cm_X7_setting : calM q_X7_setting := ⟨by decide, ⟨by decide +kernel, by decide +kernel⟩, w_127, cw_X7_setting⟩
theorem cw_X7_isKind : codeW q_X7_isKind ∈ TBLg := w_1705
theorem cm_X7_isKind : calM q_X7_isKind := ⟨by decide, ⟨by decide +kernel, by decide +kernel⟩, w_127, cw_X7_isKind⟩
theorem cw_X7_isProgram : codeW q_X7_isProgram ∈ TBLg := w_1717
theorem cm_X7_isProgram : calM q_X7_isProgram := ⟨by decide, ⟨by decide +kernel, by decide +kernel⟩, w_127, cw_X7_isProgram⟩
theorem cw_X7_noKind : codeW q_X7_noKind ∈ TBLg := w_1701
theorem cm_X7_noKind : calM q_X7_noKind := ⟨by decide, ⟨by decide +kernel, by decide +kernel⟩, w_127, cw_X7_noKind⟩
theorem cw_X7_noProgram : codeW q_X7_noProgram ∈ TBLg := w_1713
theorem cm_X7_noProgram : calM q_X7_noProgram := ⟨by decide, ⟨by decide +kernel, by decide +kernel⟩, w_127, cw_X7_noProgram⟩
theorem cw_X7_noPair : codeW q_X7_noPair ∈ TBLg := w_1729
theorem cm_X7_noPair : calM q_X7_noPair := ⟨by decide, ⟨by decide +kernel, by decide +kernel⟩, w_127, cw_X7_noPair⟩
theorem cw_X7_noSignal : codeW q_X7_noSignal ∈ TBLg := w_1765
theorem cm_X7_noSignal : calM q_X7_noSignal := ⟨by decide, ⟨by decide +kernel, by decide +kernel⟩, w_127, cw_X7_noSignal⟩
theorem cw_X7_kind : codeW q_X7_kind ∈ TBLg := w_1697
theorem cm_X7_kind : calM q_X7_kind := ⟨by decide, ⟨by decide +kernel, by decide +kernel⟩, w_127, cw_X7_kind⟩
theorem cw_X7_handlersOf : codeW q_X7_handlersOf ∈ TBLg := w_1721
theorem cm_X7_handlersOf : calM q_X7_handlersOf := ⟨by decide, ⟨by decide +kernel, by decide +kernel⟩, w_127, cw_X7_handlersOf⟩
theorem cw_X7_program : codeW q_X7_program ∈ TBLg := w_1709
theorem cm_X7_program : calM q_X7_program := ⟨by decide, ⟨by decide +kernel, by decide +kernel⟩, w_127, cw_X7_program⟩
theorem cw_X7_handler : codeW q_X7_handler ∈ TBLg := w_1725
theorem cm_X7_handler : calM q_X7_handler := ⟨by decide, ⟨by decide +kernel, by decide +kernel⟩, w_127, cw_X7_handler⟩
theorem cw_X7_urgency : codeW q_X7_urgency ∈ TBLg := w_1733
theorem cm_X7_urgency : calM q_X7_urgency := ⟨by decide, ⟨by decide +kernel, by decide +kernel⟩, w_127, cw_X7_urgency⟩
theorem cw_X7_tiredness : codeW q_X7_tiredness ∈ TBLg := w_1737
theorem cm_X7_tiredness : calM q_X7_tiredness := ⟨by decide, ⟨by decide +kernel, by decide +kernel⟩, w_127, cw_X7_tiredness⟩
theorem cw_X7_queue : codeW q_X7_queue ∈ TBLg := w_1741
theorem cm_X7_queue : calM q_X7_queue := ⟨by decide, ⟨by decide +kernel, by decide +kernel⟩, w_127, cw_X7_queue⟩
theorem cw_X7_running : codeW q_X7_running ∈ TBLg := w_1745
theorem cm_X7_running : calM q_X7_running := ⟨by decide, ⟨by decide +kernel, by decide +kernel⟩, w_127, cw_X7_running⟩
theorem cw_X7_ofEnd : codeW q_X7_ofEnd ∈ TBLg := w_1757
theorem cm_X7_ofEnd : calM q_X7_ofEnd := ⟨by decide, ⟨by decide +kernel, by decide +kernel⟩, w_127, cw_X7_ofEnd⟩
theorem cw_X7_end : codeW q_X7_end ∈ TBLg := w_1753
theorem cm_X7_end : calM q_X7_end := ⟨by decide, ⟨by decide +kernel, by decide +kernel⟩, w_127, cw_X7_end⟩
theorem cw_X7_queuedAt : codeW q_X7_queuedAt ∈ TBLg := w_1773
theorem cm_X7_queuedAt : calM q_X7_queuedAt := ⟨by decide, ⟨by decide +kernel, by decide +kernel⟩, w_127, cw_X7_queuedAt⟩
theorem cw_X7_stackedAt : codeW q_X7_stackedAt ∈ TBLg := w_1777
theorem cm_X7_stackedAt : calM q_X7_stackedAt := ⟨by decide, ⟨by decide +kernel, by decide +kernel⟩, w_127, cw_X7_stackedAt⟩
theorem cw_X7_placeNow : codeW q_X7_placeNow ∈ TBLg := w_1769
theorem cm_X7_placeNow : calM q_X7_placeNow := ⟨by decide, ⟨by decide +kernel, by decide +kernel⟩, w_127, cw_X7_placeNow⟩
theorem cw_X7_whereIs : codeW q_X7_whereIs ∈ TBLg := w_1761
theorem cm_X7_whereIs : calM q_X7_whereIs := ⟨by decide, ⟨by decide +kernel, by decide +kernel⟩, w_127, cw_X7_whereIs⟩
theorem cw_X7_next : codeW q_X7_next ∈ TBLg := w_1781
theorem cm_X7_next : calM q_X7_next := ⟨by decide, ⟨by decide +kernel, by decide +kernel⟩, w_127, cw_X7_next⟩
theorem cw_X7_busiest : codeW q_X7_busiest ∈ TBLg := w_1793
theorem cm_X7_busiest : calM q_X7_busiest := ⟨by decide, ⟨by decide +kernel, by decide +kernel⟩, w_127, cw_X7_busiest⟩
theorem cw_X7_tiredest : codeW q_X7_tiredest ∈ TBLg := w_1797
theorem cm_X7_tiredest : calM q_X7_tiredest := ⟨by decide, ⟨by decide +kernel, by decide +kernel⟩, w_127, cw_X7_tiredest⟩
theorem cw_X7_oldest : codeW q_X7_oldest ∈ TBLg := w_1801
theorem cm_X7_oldest : calM q_X7_oldest := ⟨by decide, ⟨by decide +kernel, by decide +kernel⟩, w_127, cw_X7_oldest⟩
theorem cw_X7_loser : codeW q_X7_loser ∈ TBLg := w_1805
theorem cm_X7_loser : calM q_X7_loser := ⟨by decide, ⟨by decide +kernel, by decide +kernel⟩, w_127, cw_X7_loser⟩
theorem cw_X7_meanWait : codeW q_X7_meanWait ∈ TBLg := w_1809
theorem cm_X7_meanWait : calM q_X7_meanWait := ⟨by decide, ⟨by decide +kernel, by decide +kernel⟩, w_127, cw_X7_meanWait⟩
theorem cw_X7_handledShare : codeW q_X7_handledShare ∈ TBLg := w_1813
theorem cm_X7_handledShare : calM q_X7_handledShare := ⟨by decide, ⟨by decide +kernel, by decide +kernel⟩, w_127, cw_X7_handledShare⟩
theorem cw_X7_raises : codeW q_X7_raises ∈ TBLg := w_1821
theorem cm_X7_raises : calM q_X7_raises := ⟨by decide, ⟨by decide +kernel, by decide +kernel⟩, w_127, cw_X7_raises⟩
theorem cw_X7_raisers : codeW q_X7_raisers ∈ TBLg := w_1817
theorem cm_X7_raisers : calM q_X7_raisers := ⟨by decide, ⟨by decide +kernel, by decide +kernel⟩, w_127, cw_X7_raisers⟩
theorem cw_X7_putsAside : codeW q_X7_putsAside ∈ TBLg := w_1833
theorem cm_X7_putsAside : calM q_X7_putsAside := ⟨by decide, ⟨by decide +kernel, by decide +kernel⟩, w_127, cw_X7_putsAside⟩
theorem cw_X7_fetchesBack : codeW q_X7_fetchesBack ∈ TBLg := w_1877
theorem cm_X7_fetchesBack : calM q_X7_fetchesBack := ⟨by decide, ⟨by decide +kernel, by decide +kernel⟩, w_127, cw_X7_fetchesBack⟩
theorem cw_X7_isIdle : codeW q_X7_isIdle ∈ TBLg := w_1841
theorem cm_X7_isIdle : calM q_X7_isIdle := ⟨by decide, ⟨by decide +kernel, by decide +kernel⟩, w_127, cw_X7_isIdle⟩
theorem cw_X7_areIdle : codeW q_X7_areIdle ∈ TBLg := w_1837
theorem cm_X7_areIdle : calM q_X7_areIdle := ⟨by decide, ⟨by decide +kernel, by decide +kernel⟩, w_127, cw_X7_areIdle⟩
theorem cw_X7_ticksToIdle : codeW q_X7_ticksToIdle ∈ TBLg := w_1829
theorem cm_X7_ticksToIdle : calM q_X7_ticksToIdle := ⟨by decide, ⟨by decide +kernel, by decide +kernel⟩, w_127, cw_X7_ticksToIdle⟩
theorem cw_X7_idleIn : codeW q_X7_idleIn ∈ TBLg := w_1825
theorem cm_X7_idleIn : calM q_X7_idleIn := ⟨by decide, ⟨by decide +kernel, by decide +kernel⟩, w_127, cw_X7_idleIn⟩
theorem cw_X7_calmIn : codeW q_X7_calmIn ∈ TBLg := w_1881
theorem cm_X7_calmIn : calM q_X7_calmIn := ⟨by decide, ⟨by decide +kernel, by decide +kernel⟩, w_127, cw_X7_calmIn⟩
theorem cw_X7_ticksToEnd : codeW q_X7_ticksToEnd ∈ TBLg := w_1889
theorem cm_X7_ticksToEnd : calM q_X7_ticksToEnd := ⟨by decide, ⟨by decide +kernel, by decide +kernel⟩, w_127, cw_X7_ticksToEnd⟩
theorem cw_X7_endIn : codeW q_X7_endIn ∈ TBLg := w_1885
theorem cm_X7_endIn : calM q_X7_endIn := ⟨by decide, ⟨by decide +kernel, by decide +kernel⟩, w_127, cw_X7_endIn⟩
theorem cw_X7_endOf : codeW q_X7_endOf ∈ TBLg := w_1893
theorem cm_X7_endOf : calM q_X7_endOf := ⟨by decide, ⟨by decide +kernel, by decide +kernel⟩, w_127, cw_X7_endOf⟩
theorem cw_X7_moreOf : codeW q_X7_moreOf ∈ TBLg := w_1901
theorem cm_X7_moreOf : calM q_X7_moreOf := ⟨by decide, ⟨by decide +kernel, by decide +kernel⟩, w_127, cw_X7_moreOf⟩
theorem cw_X7_endsIn : codeW q_X7_endsIn ∈ TBLg := w_1897
theorem cm_X7_endsIn : calM q_X7_endsIn := ⟨by decide, ⟨by decide +kernel, by decide +kernel⟩, w_127, cw_X7_endsIn⟩
theorem cw_X7_urgencyIn : codeW q_X7_urgencyIn ∈ TBLg := w_1909
theorem cm_X7_urgencyIn : calM q_X7_urgencyIn := ⟨by decide, ⟨by decide +kernel, by decide +kernel⟩, w_127, cw_X7_urgencyIn⟩
theorem cw_X7_sentIn : codeW q_X7_sentIn ∈ TBLg := w_1913
theorem cm_X7_sentIn : calM q_X7_sentIn := ⟨by decide, ⟨by decide +kernel, by decide +kernel⟩, w_127, cw_X7_sentIn⟩
theorem cw_X7_bestMask : codeW q_X7_bestMask ∈ TBLg := w_1917
theorem cm_X7_bestMask : calM q_X7_bestMask := ⟨by decide, ⟨by decide +kernel, by decide +kernel⟩, w_127, cw_X7_bestMask⟩
theorem cw_X7_says : codeW q_X7_says ∈ TBLg := w_1929
theorem cm_X7_says : calM q_X7_says := ⟨by decide, ⟨by decide +kernel, by decide +kernel⟩, w_127, cw_X7_says⟩
theorem cw_X7_saysNumber : codeW q_X7_saysNumber ∈ TBLg := w_1933
theorem cm_X7_saysNumber : calM q_X7_saysNumber := ⟨by decide, ⟨by decide +kernel, by decide +kernel⟩, w_127, cw_X7_saysNumber⟩
theorem cw_X7_saysKind : codeW q_X7_saysKind ∈ TBLg := w_1937
theorem cm_X7_saysKind : calM q_X7_saysKind := ⟨by decide, ⟨by decide +kernel, by decide +kernel⟩, w_127, cw_X7_saysKind⟩
theorem cw_X7_parts : codeW q_X7_parts ∈ TBLg := w_1925
theorem cm_X7_parts : calM q_X7_parts := ⟨by decide, ⟨by decide +kernel, by decide +kernel⟩, w_127, cw_X7_parts⟩
theorem cw_X7_writeQueue : codeW q_X7_writeQueue ∈ TBLg := w_1921
theorem cm_X7_writeQueue : calM q_X7_writeQueue := ⟨by decide, ⟨by decide +kernel, by decide +kernel⟩, w_127, cw_X7_writeQueue⟩
theorem cw_X7_writeStack : codeW q_X7_writeStack ∈ TBLg := w_1941
theorem cm_X7_writeStack : calM q_X7_writeStack := ⟨by decide, ⟨by decide +kernel, by decide +kernel⟩, w_127, cw_X7_writeStack⟩
theorem cw_X7_letterOf : codeW q_X7_letterOf ∈ TBLg := w_1948
theorem cm_X7_letterOf : calM q_X7_letterOf := ⟨by decide, ⟨by decide +kernel, by decide +kernel⟩, w_127, cw_X7_letterOf⟩
theorem cw_X7_writeEnds : codeW q_X7_writeEnds ∈ TBLg := w_1945
theorem cm_X7_writeEnds : calM q_X7_writeEnds := ⟨by decide, ⟨by decide +kernel, by decide +kernel⟩, w_127, cw_X7_writeEnds⟩
theorem cw_X7_textByte : codeW q_X7_textByte ∈ TBLg := w_1952
theorem cm_X7_textByte : calM q_X7_textByte := ⟨by decide, ⟨by decide +kernel, by decide +kernel⟩, w_127, cw_X7_textByte⟩
theorem cw_X7_keeps : codeW q_X7_keeps ∈ TBLg := w_1964
theorem cm_X7_keeps : calM q_X7_keeps := ⟨by decide, ⟨by decide +kernel, by decide +kernel⟩, w_127, cw_X7_keeps⟩
theorem cw_X7_fetches : codeW q_X7_fetches ∈ TBLg := w_2008
theorem cm_X7_fetches : calM q_X7_fetches := ⟨by decide, ⟨by decide +kernel, by decide +kernel⟩, w_127, cw_X7_fetches⟩
theorem cw_X7_keepsAll : codeW q_X7_keepsAll ∈ TBLg := w_1960
theorem cm_X7_keepsAll : calM q_X7_keepsAll := ⟨by decide, ⟨by decide +kernel, by decide +kernel⟩, w_127, cw_X7_keepsAll⟩
theorem cw_X7_tick : codeW q_X7_tick ∈ TBLg := w_1956
theorem cm_X7_tick : calM q_X7_tick := ⟨by decide, ⟨by decide +kernel, by decide +kernel⟩, w_127, cw_X7_tick⟩
theorem cw_X7_send : codeW q_X7_send ∈ TBLg := w_1968
theorem cm_X7_send : calM q_X7_send := ⟨by decide, ⟨by decide +kernel, by decide +kernel⟩, w_127, cw_X7_send⟩
theorem cw_X7_mask : codeW q_X7_mask ∈ TBLg := w_1972
theorem cm_X7_mask : calM q_X7_mask := ⟨by decide, ⟨by decide +kernel, by decide +kernel⟩, w_127, cw_X7_mask⟩
theorem cw_X7_dropsRunning : codeW q_X7_dropsRunning ∈ TBLg := w_1980
theorem cm_X7_dropsRunning : calM q_X7_dropsRunning := ⟨by decide, ⟨by decide +kernel, by decide +kernel⟩, w_127, cw_X7_dropsRunning⟩
theorem cw_X7_drop : codeW q_X7_drop ∈ TBLg := w_1976
theorem cm_X7_drop : calM q_X7_drop := ⟨by decide, ⟨by decide +kernel, by decide +kernel⟩, w_127, cw_X7_drop⟩
theorem cw_X7_clear : codeW q_X7_clear ∈ TBLg := w_1984
theorem cm_X7_clear : calM q_X7_clear := ⟨by decide, ⟨by decide +kernel, by decide +kernel⟩, w_127, cw_X7_clear⟩
theorem cw_X7_refresh : codeW q_X7_refresh ∈ TBLg := w_1988
theorem cm_X7_refresh : calM q_X7_refresh := ⟨by decide, ⟨by decide +kernel, by decide +kernel⟩, w_127, cw_X7_refresh⟩
theorem cw_X7_sets : codeW q_X7_sets ∈ TBLg := w_1996
theorem cm_X7_sets : calM q_X7_sets := ⟨by decide, ⟨by decide +kernel, by decide +kernel⟩, w_127, cw_X7_sets⟩
theorem cw_X7_setKind : codeW q_X7_setKind ∈ TBLg := w_1992
theorem cm_X7_setKind : calM q_X7_setKind := ⟨by decide, ⟨by decide +kernel, by decide +kernel⟩, w_127, cw_X7_setKind⟩
theorem cw_X7_set : codeW q_X7_set ∈ TBLg := w_2000
theorem cm_X7_set : calM q_X7_set := ⟨by decide, ⟨by decide +kernel, by decide +kernel⟩, w_127, cw_X7_set⟩
theorem cw_X7_undo : codeW q_X7_undo ∈ TBLg := w_2004
theorem cm_X7_undo : calM q_X7_undo := ⟨by decide, ⟨by decide +kernel, by decide +kernel⟩, w_127, cw_X7_undo⟩
theorem cw_X7_undoable : codeW q_X7_undoable ∈ TBLg := w_2012
theorem cm_X7_undoable : calM q_X7_undoable := ⟨by decide, ⟨by decide +kernel, by decide +kernel⟩, w_127, cw_X7_undoable⟩
theorem cw_X7_save : codeW q_X7_save ∈ TBLg := w_2016
theorem cm_X7_save : calM q_X7_save := ⟨by decide, ⟨by decide +kernel, by decide +kernel⟩, w_127, cw_X7_save⟩
theorem cw_X7_restore : codeW q_X7_restore ∈ TBLg := w_2020
theorem cm_X7_restore : calM q_X7_restore := ⟨by decide, ⟨by decide +kernel, by decide +kernel⟩, w_127, cw_X7_restore⟩
theorem cw_L_load : codeW q_L_load ∈ TBLg := w_362
theorem cm_L_load : calM q_L_load := ⟨by decide, ⟨by decide +kernel, by decide +kernel⟩, w_120, cw_L_load⟩
theorem cw_L_find : codeW q_L_find ∈ TBLg := w_753
theorem cm_L_find : calM q_L_find := ⟨by decide, ⟨by decide +kernel, by decide +kernel⟩, w_120, cw_L_find⟩
theorem cw_L_count : codeW q_L_count ∈ TBLg := w_782
theorem cm_L_count : calM q_L_count := ⟨by decide, ⟨by decide +kernel, by decide +kernel⟩, w_120, cw_L_count⟩
theorem cw_L_setting : codeW q_L_setting ∈ TBLg := w_810
theorem cm_L_setting : calM q_L_setting := ⟨by decide, ⟨by decide +kernel, by decide +kernel⟩, w_120, cw_L_setting⟩
theorem cw_L_kind : codeW q_L_kind ∈ TBLg := w_821
theorem cm_L_kind : calM q_L_kind := ⟨by decide, ⟨by decide +kernel, by decide +kernel⟩, w_120, cw_L_kind⟩
theorem cw_L_program : codeW q_L_program ∈ TBLg := w_836
theorem cm_L_program : calM q_L_program := ⟨by decide, ⟨by decide +kernel, by decide +kernel⟩, w_120, cw_L_program⟩
theorem cw_L_handler : codeW q_L_handler ∈ TBLg := w_854
theorem cm_L_handler : calM q_L_handler := ⟨by decide, ⟨by decide +kernel, by decide +kernel⟩, w_120, cw_L_handler⟩
theorem cw_L_urgency : codeW q_L_urgency ∈ TBLg := w_870
theorem cm_L_urgency : calM q_L_urgency := ⟨by decide, ⟨by decide +kernel, by decide +kernel⟩, w_120, cw_L_urgency⟩
theorem cw_L_tiredness : codeW q_L_tiredness ∈ TBLg := w_878
theorem cm_L_tiredness : calM q_L_tiredness := ⟨by decide, ⟨by decide +kernel, by decide +kernel⟩, w_120, cw_L_tiredness⟩
theorem cw_L_queue : codeW q_L_queue ∈ TBLg := w_889
theorem cm_L_queue : calM q_L_queue := ⟨by decide, ⟨by decide +kernel, by decide +kernel⟩, w_120, cw_L_queue⟩
theorem cw_L_running : codeW q_L_running ∈ TBLg := w_905
theorem cm_L_running : calM q_L_running := ⟨by decide, ⟨by decide +kernel, by decide +kernel⟩, w_120, cw_L_running⟩
theorem cw_L_end : codeW q_L_end ∈ TBLg := w_914
theorem cm_L_end : calM q_L_end := ⟨by decide, ⟨by decide +kernel, by decide +kernel⟩, w_120, cw_L_end⟩
theorem cw_L_whereIs : codeW q_L_whereIs ∈ TBLg := w_925
theorem cm_L_whereIs : calM q_L_whereIs := ⟨by decide, ⟨by decide +kernel, by decide +kernel⟩, w_120, cw_L_whereIs⟩
theorem cw_L_next : codeW q_L_next ∈ TBLg := w_952
theorem cm_L_next : calM q_L_next := ⟨by decide, ⟨by decide +kernel, by decide +kernel⟩, w_120, cw_L_next⟩
theorem cw_L_busiest : codeW q_L_busiest ∈ TBLg := w_964
theorem cm_L_busiest : calM q_L_busiest := ⟨by decide, ⟨by decide +kernel, by decide +kernel⟩, w_120, cw_L_busiest⟩
theorem cw_L_tiredest : codeW q_L_tiredest ∈ TBLg := w_971
theorem cm_L_tiredest : calM q_L_tiredest := ⟨by decide, ⟨by decide +kernel, by decide +kernel⟩, w_120, cw_L_tiredest⟩
theorem cw_L_oldest : codeW q_L_oldest ∈ TBLg := w_978
theorem cm_L_oldest : calM q_L_oldest := ⟨by decide, ⟨by decide +kernel, by decide +kernel⟩, w_120, cw_L_oldest⟩
theorem cw_L_loser : codeW q_L_loser ∈ TBLg := w_985
theorem cm_L_loser : calM q_L_loser := ⟨by decide, ⟨by decide +kernel, by decide +kernel⟩, w_120, cw_L_loser⟩
theorem cw_L_meanWait : codeW q_L_meanWait ∈ TBLg := w_993
theorem cm_L_meanWait : calM q_L_meanWait := ⟨by decide, ⟨by decide +kernel, by decide +kernel⟩, w_120, cw_L_meanWait⟩
theorem cw_L_handledShare : codeW q_L_handledShare ∈ TBLg := w_1000
theorem cm_L_handledShare : calM q_L_handledShare := ⟨by decide, ⟨by decide +kernel, by decide +kernel⟩, w_120, cw_L_handledShare⟩
theorem cw_L_raisers : codeW q_L_raisers ∈ TBLg := w_1007
theorem cm_L_raisers : calM q_L_raisers := ⟨by decide, ⟨by decide +kernel, by decide +kernel⟩, w_120, cw_L_raisers⟩
theorem cw_L_idleIn : codeW q_L_idleIn ∈ TBLg := w_1020
theorem cm_L_idleIn : calM q_L_idleIn := ⟨by decide, ⟨by decide +kernel, by decide +kernel⟩, w_120, cw_L_idleIn⟩
theorem cw_L_calmIn : codeW q_L_calmIn ∈ TBLg := w_1101
theorem cm_L_calmIn : calM q_L_calmIn := ⟨by decide, ⟨by decide +kernel, by decide +kernel⟩, w_120, cw_L_calmIn⟩
theorem cw_L_endIn : codeW q_L_endIn ∈ TBLg := w_1108
theorem cm_L_endIn : calM q_L_endIn := ⟨by decide, ⟨by decide +kernel, by decide +kernel⟩, w_120, cw_L_endIn⟩
theorem cw_L_endOf : codeW q_L_endOf ∈ TBLg := w_1119
theorem cm_L_endOf : calM q_L_endOf := ⟨by decide, ⟨by decide +kernel, by decide +kernel⟩, w_120, cw_L_endOf⟩
theorem cw_L_endsIn : codeW q_L_endsIn ∈ TBLg := w_1126
theorem cm_L_endsIn : calM q_L_endsIn := ⟨by decide, ⟨by decide +kernel, by decide +kernel⟩, w_120, cw_L_endsIn⟩
theorem cw_L_urgencyIn : codeW q_L_urgencyIn ∈ TBLg := w_1137
theorem cm_L_urgencyIn : calM q_L_urgencyIn := ⟨by decide, ⟨by decide +kernel, by decide +kernel⟩, w_120, cw_L_urgencyIn⟩
theorem cw_L_sentIn : codeW q_L_sentIn ∈ TBLg := w_1144
theorem cm_L_sentIn : calM q_L_sentIn := ⟨by decide, ⟨by decide +kernel, by decide +kernel⟩, w_120, cw_L_sentIn⟩
theorem cw_L_bestMask : codeW q_L_bestMask ∈ TBLg := w_1151
theorem cm_L_bestMask : calM q_L_bestMask := ⟨by decide, ⟨by decide +kernel, by decide +kernel⟩, w_120, cw_L_bestMask⟩
theorem cw_L_writeQueue : codeW q_L_writeQueue ∈ TBLg := w_1164
theorem cm_L_writeQueue : calM q_L_writeQueue := ⟨by decide, ⟨by decide +kernel, by decide +kernel⟩, w_120, cw_L_writeQueue⟩
theorem cw_L_writeStack : codeW q_L_writeStack ∈ TBLg := w_1196
theorem cm_L_writeStack : calM q_L_writeStack := ⟨by decide, ⟨by decide +kernel, by decide +kernel⟩, w_120, cw_L_writeStack⟩
theorem cw_L_writeEnds : codeW q_L_writeEnds ∈ TBLg := w_1203
theorem cm_L_writeEnds : calM q_L_writeEnds := ⟨by decide, ⟨by decide +kernel, by decide +kernel⟩, w_120, cw_L_writeEnds⟩
theorem cw_L_textByte : codeW q_L_textByte ∈ TBLg := w_1216
theorem cm_L_textByte : calM q_L_textByte := ⟨by decide, ⟨by decide +kernel, by decide +kernel⟩, w_120, cw_L_textByte⟩
theorem cw_L_tick : codeW q_L_tick ∈ TBLg := w_1227
theorem cm_L_tick : calM q_L_tick := ⟨by decide, ⟨by decide +kernel, by decide +kernel⟩, w_120, cw_L_tick⟩
theorem cw_L_send : codeW q_L_send ∈ TBLg := w_1241
theorem cm_L_send : calM q_L_send := ⟨by decide, ⟨by decide +kernel, by decide +kernel⟩, w_120, cw_L_send⟩
theorem cw_L_mask : codeW q_L_mask ∈ TBLg := w_1249
theorem cm_L_mask : calM q_L_mask := ⟨by decide, ⟨by decide +kernel, by decide +kernel⟩, w_120, cw_L_mask⟩
theorem cw_L_drop : codeW q_L_drop ∈ TBLg := w_1256
theorem cm_L_drop : calM q_L_drop := ⟨by decide, ⟨by decide +kernel, by decide +kernel⟩, w_120, cw_L_drop⟩
theorem cw_L_clear : codeW q_L_clear ∈ TBLg := w_1269
theorem cm_L_clear : calM q_L_clear := ⟨by decide, ⟨by decide +kernel, by decide +kernel⟩, w_120, cw_L_clear⟩
theorem cw_L_refresh : codeW q_L_refresh ∈ TBLg := w_1280
theorem cm_L_refresh : calM q_L_refresh := ⟨by decide, ⟨by decide +kernel, by decide +kernel⟩, w_120, cw_L_refresh⟩
theorem cw_L_setKind : codeW q_L_setKind ∈ TBLg := w_1291
theorem cm_L_setKind : calM q_L_setKind := ⟨by decide, ⟨by decide +kernel, by decide +kernel⟩, w_120, cw_L_setKind⟩
theorem cw_L_set : codeW q_L_set ∈ TBLg := w_1301
theorem cm_L_set : calM q_L_set := ⟨by decide, ⟨by decide +kernel, by decide +kernel⟩, w_120, cw_L_set⟩
theorem cw_L_undo : codeW q_L_undo ∈ TBLg := w_1311
theorem cm_L_undo : calM q_L_undo := ⟨by decide, ⟨by decide +kernel, by decide +kernel⟩, w_120, cw_L_undo⟩
theorem cw_L_save : codeW q_L_save ∈ TBLg := w_1322
theorem cm_L_save : calM q_L_save := ⟨by decide, ⟨by decide +kernel, by decide +kernel⟩, w_120, cw_L_save⟩
theorem cw_L_restore : codeW q_L_restore ∈ TBLg := w_1329
theorem cm_L_restore : calM q_L_restore := ⟨by decide, ⟨by decide +kernel, by decide +kernel⟩, w_120, cw_L_restore⟩
theorem sX0_0 : siOK RX0 (.invokespecial 3, 1000, 1, 0, 0) := Or.inl ⟨by decide, rfl, w_203, w_147, w_148⟩
theorem sX0_1 : siOK RX0 (.newarray .int, 20, 0, 0, 0) := ⟨w_176, by decide⟩
theorem sX0_2 : siOK RX0 (.putfield 9, 1, 0, 1, 0) := ⟨by decide, ⟨by decide, by decide, Or.inl w_220⟩, by decide +kernel, Or.inr ⟨by decide +kernel, rfl⟩⟩
theorem sX0_3 : siOK RX0 (.putfield 15, 1, 1, 1, 0) := ⟨by decide, ⟨by decide, by decide, Or.inl w_221⟩, by decide +kernel, Or.inr ⟨by decide +kernel, rfl⟩⟩
theorem sX0_4 : siOK RX0 (.putfield 18, 1, 2, 1, 0) := ⟨by decide, ⟨by decide, by decide, Or.inl w_222⟩, by decide +kernel, Or.inr ⟨by decide +kernel, rfl⟩⟩
theorem sX0_5 : siOK RX0 (.putfield 21, 1, 3, 1, 0) := ⟨by decide, ⟨by decide, by decide, Or.inl w_223⟩, by decide +kernel, Or.inr ⟨by decide +kernel, rfl⟩⟩
theorem sX0_6 : siOK RX0 (.putfield 24, 1, 4, 1, 0) := ⟨by decide, ⟨by decide, by decide, Or.inl w_224⟩, by decide +kernel, Or.inr ⟨by decide +kernel, rfl⟩⟩
theorem sX0_7 : siOK RX0 (.new 27, 2, 3, 0, 0) := Or.inr ⟨by decide, by decide, by decide, w_204, w_205, w_125⟩
theorem sX0_8 : siOK RX0 (.invokespecial 29, 40, 2, 0, 37) := siI (ci := 1) (congrArg Prod.fst g_X1_init) (congrArg (fun z => z.2.2.2.1) g_X1_init) (by decide) cm_X1_init (by decide +kernel) rfl rfl (by decide +kernel) (by decide) (by decide +kernel) (by decide) (Or.inl w_206) w_207
theorem sX0_9 : siOK RX0 (.putfield 32, 1, 5, 1, 0) := ⟨by decide, ⟨by decide, by decide, Or.inl w_225⟩, by decide +kernel, Or.inr ⟨by decide +kernel, rfl⟩⟩
theorem sX0_10 : siOK RX0 (.putfield 36, 1, 6, 1, 0) := ⟨by decide, ⟨by decide, by decide, Or.inl w_227⟩, by decide +kernel, Or.inr ⟨by decide +kernel, rfl⟩⟩
theorem sX0_11 : siOK RX0 (.putfield 39, 1, 7, 1, 0) := ⟨by decide, ⟨by decide, by decide, Or.inl w_229⟩, by decide +kernel, Or.inr ⟨by decide +kernel, rfl⟩⟩
theorem sX0_12 : siOK RX0 (.putfield 42, 1, 8, 1, 0) := ⟨by decide, ⟨by decide, by decide, Or.inl w_230⟩, by decide +kernel, Or.inr ⟨by decide +kernel, rfl⟩⟩
theorem sX0_13 : siOK RX0 (.putfield 45, 1, 13, 0, 0) := ⟨by decide, ⟨by decide, by decide, Or.inl w_239⟩, by decide +kernel, Or.inl (by decide +kernel)⟩
theorem sX0_14 : siOK RX0 (.putfield 49, 1, 14, 0, 0) := ⟨by decide, ⟨by decide, by decide, Or.inl w_241⟩, by decide +kernel, Or.inl (by decide +kernel)⟩
theorem sX0_15 : siOK RX0 (.getfield 9, 1, 0, 1, 0) := ⟨by decide, ⟨by decide, by decide, Or.inl w_220⟩, by decide +kernel⟩
theorem sX0_16 : siOK RX0 (.invokestatic 52, 2, 1, 0, 0) := siS (congrArg Prod.fst g_X0_fillWithZeros) (congrArg (fun z => z.2.2.2.1) g_X0_fillWithZeros) (by decide) cm_X0_fillWithZeros (by decide +kernel) (by decide) (by decide +kernel) w_493 w_494
theorem sX0_17 : siOK RX0 (.getfield 15, 1, 1, 1, 0) := ⟨by decide, ⟨by decide, by decide, Or.inl w_221⟩, by decide +kernel⟩
theorem sX0_18 : siOK RX0 (.getfield 18, 1, 2, 1, 0) := ⟨by decide, ⟨by decide, by decide, Or.inl w_222⟩, by decide +kernel⟩
theorem sX0_19 : siOK RX0 (.getfield 21, 1, 3, 1, 0) := ⟨by decide, ⟨by decide, by decide, Or.inl w_223⟩, by decide +kernel⟩
theorem sX0_20 : siOK RX0 (.getfield 24, 1, 4, 1, 0) := ⟨by decide, ⟨by decide, by decide, Or.inl w_224⟩, by decide +kernel⟩
theorem sX0_21 : siOK RX0 (.getfield 39, 1, 7, 1, 0) := ⟨by decide, ⟨by decide, by decide, Or.inl w_229⟩, by decide +kernel⟩
theorem sX0_22 : siOK RX0 (.getfield 32, 1, 5, 1, 0) := ⟨by decide, ⟨by decide, by decide, Or.inl w_225⟩, by decide +kernel⟩
theorem sX0_23 : siOK RX0 (.invokevirtual 56, 41, 1, 0, 32) := siV (ci := 1) (congrArg Prod.fst g_X1_empty) (congrArg (fun z => z.2.2.2.1) g_X1_empty) (by decide) cm_X1_empty (by decide +kernel) rfl (by decide) rfl (by decide) (by decide +kernel) (by decide) w_496 w_497 w_498
theorem sX0_24 : siOK RX0 (.getfield 36, 1, 6, 1, 0) := ⟨by decide, ⟨by decide, by decide, Or.inl w_227⟩, by decide +kernel⟩
theorem sX0_25 : siOK RX0 (.putfield 59, 1, 9, 0, 0) := ⟨by decide, ⟨by decide, by decide, Or.inl w_231⟩, by decide +kernel, Or.inl (by decide +kernel)⟩
theorem sX0_26 : siOK RX0 (.putfield 62, 1, 10, 0, 0) := ⟨by decide, ⟨by decide, by decide, Or.inl w_233⟩, by decide +kernel, Or.inl (by decide +kernel)⟩
theorem sX0_27 : siOK RX0 (.putfield 65, 1, 11, 0, 0) := ⟨by decide, ⟨by decide, by decide, Or.inl w_235⟩, by decide +kernel, Or.inl (by decide +kernel)⟩
theorem sX0_28 : siOK RX0 (.putfield 68, 1, 12, 0, 0) := ⟨by decide, ⟨by decide, by decide, Or.inl w_237⟩, by decide +kernel, Or.inl (by decide +kernel)⟩
theorem sX0_29 : siOK RX0 (.invokestatic 71, 4, 2, 0, 0) := siS (congrArg Prod.fst g_X0_copyRow) (congrArg (fun z => z.2.2.2.1) g_X0_copyRow) (by decide) cm_X0_copyRow (by decide +kernel) (by decide) (by decide +kernel) w_1033 w_1034
theorem sX0_30 : siOK RX0 (.getfield 42, 1, 8, 1, 0) := ⟨by decide, ⟨by decide, by decide, Or.inl w_230⟩, by decide +kernel⟩
theorem sX0_31 : siOK RX0 (.invokevirtual 75, 42, 2, 0, 32) := siV (ci := 1) (congrArg Prod.fst g_X1_copyFrom) (congrArg (fun z => z.2.2.2.1) g_X1_copyFrom) (by decide) cm_X1_copyFrom (by decide +kernel) rfl (by decide) rfl (by decide) (by decide +kernel) (by decide) w_1042 w_1043 w_1044
theorem sX0_32 : siOK RX0 (.getfield 59, 1, 9, 0, 0) := ⟨by decide, ⟨by decide, by decide, Or.inl w_231⟩, by decide +kernel⟩
theorem sX0_33 : siOK RX0 (.getfield 62, 1, 10, 0, 0) := ⟨by decide, ⟨by decide, by decide, Or.inl w_233⟩, by decide +kernel⟩
theorem sX0_34 : siOK RX0 (.getfield 65, 1, 11, 0, 0) := ⟨by decide, ⟨by decide, by decide, Or.inl w_235⟩, by decide +kernel⟩
theorem sX0_35 : siOK RX0 (.getfield 68, 1, 12, 0, 0) := ⟨by decide, ⟨by decide, by decide, Or.inl w_237⟩, by decide +kernel⟩
theorem sX0_36 : siOK RX0 (.invokestatic 79, 1001, 2, 1, 0) := Or.inl ⟨by decide, Or.inl ⟨rfl, w_138, w_1036, w_1037, w_1038⟩⟩
theorem sX0_37 : siOK RX0 (.invokestatic 85, 1003, 5, 0, 0) := Or.inl ⟨by decide, Or.inr (Or.inr ⟨rfl, w_1039, w_1041, w_1040, w_140⟩)⟩
theorem sX0_38 : siOK RX0 (.invokevirtual 91, 11, 2, 1, 16) := siV (ci := 0) (congrArg Prod.fst g_X0_maskOf) (congrArg (fun z => z.2.2.2.1) g_X0_maskOf) (by decide) cm_X0_maskOf (by decide +kernel) rfl (by decide) rfl (by decide) (by decide +kernel) (by decide) w_675 w_676 w_677
theorem sX0_39 : siOK RX0 (.invokevirtual 95, 17, 1, 1, 16) := siV (ci := 0) (congrArg Prod.fst g_X0_told) (congrArg (fun z => z.2.2.2.1) g_X0_told) (by decide) cm_X0_told (by decide +kernel) rfl (by decide) rfl (by decide) (by decide +kernel) (by decide) w_948 w_801 w_802
theorem sX0_40 : siOK RX0 (.invokevirtual 99, 18, 3, 1, 16) := siV (ci := 0) (congrArg Prod.fst g_X0_endPart) (congrArg (fun z => z.2.2.2.1) g_X0_endPart) (by decide) cm_X0_endPart (by decide +kernel) rfl (by decide) rfl (by decide) (by decide +kernel) (by decide) w_949 w_920 w_921
theorem sX0_41 : siOK RX0 (.invokevirtual 102, 43, 2, 1, 32) := siV (ci := 1) (congrArg Prod.fst g_X1_sizeOf) (congrArg (fun z => z.2.2.2.1) g_X1_sizeOf) (by decide) cm_X1_sizeOf (by decide +kernel) rfl (by decide) rfl (by decide) (by decide +kernel) (by decide) w_704 w_705 w_706
theorem sX0_42 : siOK RX0 (.invokevirtual 105, 45, 4, 1, 32) := siV (ci := 1) (congrArg Prod.fst g_X1_part) (congrArg (fun z => z.2.2.2.1) g_X1_part) (by decide) cm_X1_part (by decide +kernel) rfl (by decide) rfl (by decide) (by decide +kernel) (by decide) w_712 w_713 w_714
theorem sX0_43 : siOK RX0 (.invokevirtual 109, 10, 3, 1, 16) := siV (ci := 0) (congrArg Prod.fst g_X0_urgencyOf) (congrArg (fun z => z.2.2.2.1) g_X0_urgencyOf) (by decide) cm_X0_urgencyOf (by decide +kernel) rfl (by decide) rfl (by decide) (by decide +kernel) (by decide) w_716 w_717 w_718
theorem sX0_44 : siOK RX0 (.invokevirtual 112, 12, 3, 1, 16) := siV (ci := 0) (congrArg Prod.fst g_X0_isMasked) (congrArg (fun z => z.2.2.2.1) g_X0_isMasked) (by decide) cm_X0_isMasked (by decide +kernel) rfl (by decide) rfl (by decide) (by decide +kernel) (by decide) w_961 w_672 w_673
theorem sX0_45 : siOK RX0 (.invokevirtual 116, 24, 4, 1, 16) := siV (ci := 0) (congrArg Prod.fst g_X0_comesBefore) (congrArg (fun z => z.2.2.2.1) g_X0_comesBefore) (by decide) cm_X0_comesBefore (by decide +kernel) rfl (by decide) rfl (by decide) (by decide +kernel) (by decide) w_898 w_900 w_27
theorem sX0_46 : siOK RX0 (.invokevirtual 120, 47, 2, 1, 32) := siV (ci := 1) (congrArg Prod.fst g_X1_addRow) (congrArg (fun z => z.2.2.2.1) g_X1_addRow) (by decide) cm_X1_addRow (by decide +kernel) rfl (by decide) rfl (by decide) (by decide +kernel) (by decide) w_692 w_693 w_694
theorem sX0_47 : siOK RX0 (.invokevirtual 123, 46, 5, 0, 32) := siV (ci := 1) (congrArg Prod.fst g_X1_put) (congrArg (fun z => z.2.2.2.1) g_X1_put) (by decide) cm_X1_put (by decide +kernel) rfl (by decide) rfl (by decide) (by decide +kernel) (by decide) w_696 w_697 w_698
theorem sX0_48 : siOK RX0 (.invokevirtual 127, 15, 3, 0, 16) := siV (ci := 0) (congrArg Prod.fst g_X0_addToTally) (congrArg (fun z => z.2.2.2.1) g_X0_addToTally) (by decide) cm_X0_addToTally (by decide +kernel) rfl (by decide) rfl (by decide) (by decide +kernel) (by decide) w_700 w_702 w_21
theorem sX0_49 : siOK RX0 (.invokevirtual 131, 22, 2, 1, 16) := siV (ci := 0) (congrArg Prod.fst g_X0_lastInOrder) (congrArg (fun z => z.2.2.2.1) g_X0_lastInOrder) (by decide) cm_X0_lastInOrder (by decide +kernel) rfl (by decide) rfl (by decide) (by decide +kernel) (by decide) w_708 w_709 w_710
theorem sX0_50 : siOK RX0 (.invokevirtual 134, 26, 5, 0, 16) := siV (ci := 0) (congrArg Prod.fst g_X0_endSignal) (congrArg (fun z => z.2.2.2.1) g_X0_endSignal) (by decide) cm_X0_endSignal (by decide +kernel) rfl (by decide) rfl (by decide) (by decide +kernel) (by decide) w_720 w_722 w_22
theorem sX0_51 : siOK RX0 (.getfield 45, 1, 13, 0, 0) := ⟨by decide, ⟨by decide, by decide, Or.inl w_239⟩, by decide +kernel⟩
theorem sX0_52 : siOK RX0 (.invokevirtual 138, 48, 3, 0, 32) := siV (ci := 1) (congrArg Prod.fst g_X1_removeRow) (congrArg (fun z => z.2.2.2.1) g_X1_removeRow) (by decide) cm_X1_removeRow (by decide +kernel) rfl (by decide) rfl (by decide) (by decide +kernel) (by decide) w_724 w_725 w_726
theorem sX0_53 : siOK RX0 (.invokevirtual 141, 50, 2, 1, 32) := siV (ci := 1) (congrArg Prod.fst g_X1_programOf) (congrArg (fun z => z.2.2.2.1) g_X1_programOf) (by decide) cm_X1_programOf (by decide +kernel) rfl (by decide) rfl (by decide) (by decide +kernel) (by decide) w_1265 w_935 w_936
theorem sX0_54 : siOK RX0 (.invokevirtual 144, 49, 3, 1, 32) := siV (ci := 1) (congrArg Prod.fst g_X1_indexOf) (congrArg (fun z => z.2.2.2.1) g_X1_indexOf) (by decide) cm_X1_indexOf (by decide +kernel) rfl (by decide) rfl (by decide) (by decide +kernel) (by decide) w_1266 w_939 w_940
theorem sX0_55 : siOK RX0 (.invokevirtual 147, 32, 1, 0, 16) := siV (ci := 0) (congrArg Prod.fst g_X0_recover) (congrArg (fun z => z.2.2.2.1) g_X0_recover) (by decide) cm_X0_recover (by decide +kernel) rfl (by decide) rfl (by decide) (by decide +kernel) (by decide) w_1056 w_1058 w_30
theorem sX0_56 : siOK RX0 (.getfield 150, 6, 1, 1, 0) := ⟨by decide, ⟨by decide, by decide, Or.inr ⟨"FadingSignals", w_183⟩⟩, by decide +kernel⟩
theorem sX0_57 : siOK RX0 (.getfield 156, 3, 2, 0, 0) := ⟨by decide, ⟨by decide, by decide, Or.inr ⟨"FadingSignals", w_167⟩⟩, by decide +kernel⟩
theorem sX0_58 : siOK RX0 (.invokevirtual 161, 33, 2, 0, 16) := siV (ci := 0) (congrArg Prod.fst g_X0_loseAged) (congrArg (fun z => z.2.2.2.1) g_X0_loseAged) (by decide) cm_X0_loseAged (by decide +kernel) rfl (by decide) rfl (by decide) (by decide +kernel) (by decide) w_1060 w_1062 w_31
theorem sX0_59 : siOK RX0 (.invokevirtual 164, 34, 3, 0, 16) := siV (ci := 0) (congrArg Prod.fst g_X0_beginNext) (congrArg (fun z => z.2.2.2.1) g_X0_beginNext) (by decide) cm_X0_beginNext (by decide +kernel) rfl (by decide) rfl (by decide) (by decide +kernel) (by decide) w_1065 w_1067 w_32
theorem sX0_60 : siOK RX0 (.invokevirtual 168, 37, 3, 0, 16) := siV (ci := 0) (congrArg Prod.fst g_X0_workOnTop) (congrArg (fun z => z.2.2.2.1) g_X0_workOnTop) (by decide) cm_X0_workOnTop (by decide +kernel) rfl (by decide) rfl (by decide) (by decide +kernel) (by decide) w_1079 w_1081 w_35
theorem sX0_61 : siOK RX0 (.invokevirtual 171, 7, 3, 1, 16) := siV (ci := 0) (congrArg Prod.fst g_X0_kindNumber) (congrArg (fun z => z.2.2.2.1) g_X0_kindNumber) (by decide) cm_X0_kindNumber (by decide +kernel) rfl (by decide) rfl (by decide) (by decide +kernel) (by decide) w_1064 w_831 w_832
theorem sX0_62 : siOK RX0 (.invokevirtual 174, 21, 2, 1, 16) := siV (ci := 0) (congrArg Prod.fst g_X0_firstUnmasked) (congrArg (fun z => z.2.2.2.1) g_X0_firstUnmasked) (by decide) cm_X0_firstUnmasked (by decide +kernel) rfl (by decide) rfl (by decide) (by decide +kernel) (by decide) w_1069 w_958 w_959
theorem sX0_63 : siOK RX0 (.invokevirtual 177, 35, 3, 1, 16) := siV (ci := 0) (congrArg Prod.fst g_X0_mayBegin) (congrArg (fun z => z.2.2.2.1) g_X0_mayBegin) (by decide) cm_X0_mayBegin (by decide +kernel) rfl (by decide) rfl (by decide) (by decide +kernel) (by decide) w_1070 w_1072 w_33
theorem sX0_64 : siOK RX0 (.invokevirtual 180, 87, 3, 1, 96) := siV (ci := 5) (congrArg Prod.fst g_X5_ticksOf) (congrArg (fun z => z.2.2.2.1) g_X5_ticksOf) (by decide) cm_X5_ticksOf (by decide +kernel) rfl (by decide) rfl (by decide) (by decide +kernel) (by decide) w_1074 w_643 w_644
theorem sX0_65 : siOK RX0 (.invokevirtual 183, 36, 5, 0, 16) := siV (ci := 0) (congrArg Prod.fst g_X0_pushHandler) (congrArg (fun z => z.2.2.2.1) g_X0_pushHandler) (by decide) cm_X0_pushHandler (by decide +kernel) rfl (by decide) rfl (by decide) (by decide +kernel) (by decide) w_1075 w_1077 w_34
theorem sX0_66 : siOK RX0 (.invokevirtual 186, 38, 3, 0, 16) := siV (ci := 0) (congrArg Prod.fst g_X0_tire) (congrArg (fun z => z.2.2.2.1) g_X0_tire) (by decide) cm_X0_tire (by decide +kernel) rfl (by decide) rfl (by decide) (by decide +kernel) (by decide) w_1083 w_1085 w_36
theorem sX0_67 : siOK RX0 (.invokevirtual 189, 88, 3, 1, 96) := siV (ci := 5) (congrArg Prod.fst g_X5_actsOf) (congrArg (fun z => z.2.2.2.1) g_X5_actsOf) (by decide) cm_X5_actsOf (by decide +kernel) rfl (by decide) rfl (by decide) (by decide +kernel) (by decide) w_1087 w_861 w_862
theorem sX0_68 : siOK RX0 (.invokevirtual 192, 39, 6, 0, 16) := siV (ci := 0) (congrArg Prod.fst g_X0_doAct) (congrArg (fun z => z.2.2.2.1) g_X0_doAct) (by decide) cm_X0_doAct (by decide +kernel) rfl (by decide) rfl (by decide) (by decide +kernel) (by decide) w_1088 w_1090 w_37
theorem sX0_69 : siOK RX0 (.invokevirtual 196, 89, 5, 1, 96) := siV (ci := 5) (congrArg Prod.fst g_X5_actPart) (congrArg (fun z => z.2.2.2.1) g_X5_actPart) (by decide) cm_X5_actPart (by decide +kernel) rfl (by decide) rfl (by decide) (by decide +kernel) (by decide) w_1092 w_865 w_866
theorem sX0_70 : siOK RX0 (.invokevirtual 200, 25, 5, 1, 16) := siV (ci := 0) (congrArg Prod.fst g_X0_sendSignal) (congrArg (fun z => z.2.2.2.1) g_X0_sendSignal) (by decide) cm_X0_sendSignal (by decide +kernel) rfl (by decide) rfl (by decide) (by decide +kernel) (by decide) w_1093 w_689 w_690
theorem sX0_71 : siOK RX0 (.invokevirtual 203, 13, 4, 0, 16) := siV (ci := 0) (congrArg Prod.fst g_X0_putMask) (congrArg (fun z => z.2.2.2.1) g_X0_putMask) (by decide) cm_X0_putMask (by decide +kernel) rfl (by decide) rfl (by decide) (by decide +kernel) (by decide) w_1094 w_680 w_681
theorem sX0_72 : siOK RX0 (.invokevirtual 207, 29, 3, 0, 16) := siV (ci := 0) (congrArg Prod.fst g_X0_dropKind) (congrArg (fun z => z.2.2.2.1) g_X0_dropKind) (by decide) cm_X0_dropKind (by decide +kernel) rfl (by decide) rfl (by decide) (by decide +kernel) (by decide) w_1095 w_1097 w_38
def ST_X0 : List (Instr × Nat × Nat × Nat × Nat) := [(.invokespecial 3, 1000, 1, 0, 0), (.newarray .int, 20, 0, 0, 0), (.putfield 9, 1, 0, 1, 0), (.putfield 15, 1, 1, 1, 0), (.putfield 18, 1, 2, 1, 0), (.putfield 21, 1, 3, 1, 0), (.putfield 24, 1, 4, 1, 0), (.new 27, 2, 3, 0, 0), (.invokespecial 29, 40, 2, 0, 37), (.putfield 32, 1, 5, 1, 0), (.putfield 36, 1, 6, 1, 0), (.putfield 39, 1, 7, 1, 0), (.putfield 42, 1, 8, 1, 0), (.putfield 45, 1, 13, 0, 0), (.putfield 49, 1, 14, 0, 0), (.getfield 9, 1, 0, 1, 0), (.invokestatic 52, 2, 1, 0, 0), (.getfield 15, 1, 1, 1, 0), (.getfield 18, 1, 2, 1, 0), (.getfield 21, 1, 3, 1, 0), (.getfield 24, 1, 4, 1, 0), (.getfield 39, 1, 7, 1, 0), (.getfield 32, 1, 5, 1, 0), (.invokevirtual 56, 41, 1, 0, 32), (.getfield 36, 1, 6, 1, 0), (.putfield 59, 1, 9, 0, 0), (.putfield 62, 1, 10, 0, 0), (.putfield 65, 1, 11, 0, 0), (.putfield 68, 1, 12, 0, 0), (.invokestatic 71, 4, 2, 0, 0), (.getfield 42, 1, 8, 1, 0), (.invokevirtual 75, 42, 2, 0, 32), (.getfield 59, 1, 9, 0, 0), (.getfield 62, 1, 10, 0, 0), (.getfield 65, 1, 11, 0, 0), (.getfield 68, 1, 12, 0, 0), (.invokestatic 79, 1001, 2, 1, 0), (.invokestatic 85, 1003, 5, 0, 0), (.invokevirtual 91, 11, 2, 1, 16), (.invokevirtual 95, 17, 1, 1, 16), (.invokevirtual 99, 18, 3, 1, 16), (.invokevirtual 102, 43, 2, 1, 32), (.invokevirtual 105, 45, 4, 1, 32), (.invokevirtual 109, 10, 3, 1, 16), (.invokevirtual 112, 12, 3, 1, 16), (.invokevirtual 116, 24, 4, 1, 16), (.invokevirtual 120, 47, 2, 1, 32), (.invokevirtual 123, 46, 5, 0, 32), (.invokevirtual 127, 15, 3, 0, 16), (.invokevirtual 131, 22, 2, 1, 16), (.invokevirtual 134, 26, 5, 0, 16), (.getfield 45, 1, 13, 0, 0), (.invokevirtual 138, 48, 3, 0, 32), (.invokevirtual 141, 50, 2, 1, 32), (.invokevirtual 144, 49, 3, 1, 32), (.invokevirtual 147, 32, 1, 0, 16), (.getfield 150, 6, 1, 1, 0), (.getfield 156, 3, 2, 0, 0), (.invokevirtual 161, 33, 2, 0, 16), (.invokevirtual 164, 34, 3, 0, 16), (.invokevirtual 168, 37, 3, 0, 16), (.invokevirtual 171, 7, 3, 1, 16), (.invokevirtual 174, 21, 2, 1, 16), (.invokevirtual 177, 35, 3, 1, 16), (.invokevirtual 180, 87, 3, 1, 96), (.invokevirtual 183, 36, 5, 0, 16), (.invokevirtual 186, 38, 3, 0, 16), (.invokevirtual 189, 88, 3, 1, 96), (.invokevirtual 192, 39, 6, 0, 16), (.invokevirtual 196, 89, 5, 1, 96), (.invokevirtual 200, 25, 5, 1, 16), (.invokevirtual 203, 13, 4, 0, 16), (.invokevirtual 207, 29, 3, 0, 16)]
set_option maxRecDepth 100000 in
theorem SI_X0 : ∀ z ∈ ST_X0, siOK RX0 z := List.forall_mem_cons.mpr ⟨sX0_0, List.forall_mem_cons.mpr ⟨sX0_1, List.forall_mem_cons.mpr ⟨sX0_2, List.forall_mem_cons.mpr ⟨sX0_3, List.forall_mem_cons.mpr ⟨sX0_4, List.forall_mem_cons.mpr ⟨sX0_5, List.forall_mem_cons.mpr ⟨sX0_6, List.forall_mem_cons.mpr ⟨sX0_7, List.forall_mem_cons.mpr ⟨sX0_8, List.forall_mem_cons.mpr ⟨sX0_9, List.forall_mem_cons.mpr ⟨sX0_10, List.forall_mem_cons.mpr ⟨sX0_11, List.forall_mem_cons.mpr ⟨sX0_12, List.forall_mem_cons.mpr ⟨sX0_13, List.forall_mem_cons.mpr ⟨sX0_14, List.forall_mem_cons.mpr ⟨sX0_15, List.forall_mem_cons.mpr ⟨sX0_16, List.forall_mem_cons.mpr ⟨sX0_17, List.forall_mem_cons.mpr ⟨sX0_18, List.forall_mem_cons.mpr ⟨sX0_19, List.forall_mem_cons.mpr ⟨sX0_20, List.forall_mem_cons.mpr ⟨sX0_21, List.forall_mem_cons.mpr ⟨sX0_22, List.forall_mem_cons.mpr ⟨sX0_23, List.forall_mem_cons.mpr ⟨sX0_24, List.forall_mem_cons.mpr ⟨sX0_25, List.forall_mem_cons.mpr ⟨sX0_26, List.forall_mem_cons.mpr ⟨sX0_27, List.forall_mem_cons.mpr ⟨sX0_28, List.forall_mem_cons.mpr ⟨sX0_29, List.forall_mem_cons.mpr ⟨sX0_30, List.forall_mem_cons.mpr ⟨sX0_31, List.forall_mem_cons.mpr ⟨sX0_32, List.forall_mem_cons.mpr ⟨sX0_33, List.forall_mem_cons.mpr ⟨sX0_34, List.forall_mem_cons.mpr ⟨sX0_35, List.forall_mem_cons.mpr ⟨sX0_36, List.forall_mem_cons.mpr ⟨sX0_37, List.forall_mem_cons.mpr ⟨sX0_38, List.forall_mem_cons.mpr ⟨sX0_39, List.forall_mem_cons.mpr ⟨sX0_40, List.forall_mem_cons.mpr ⟨sX0_41, List.forall_mem_cons.mpr ⟨sX0_42, List.forall_mem_cons.mpr ⟨sX0_43, List.forall_mem_cons.mpr ⟨sX0_44, List.forall_mem_cons.mpr ⟨sX0_45, List.forall_mem_cons.mpr ⟨sX0_46, List.forall_mem_cons.mpr ⟨sX0_47, List.forall_mem_cons.mpr ⟨sX0_48, List.forall_mem_cons.mpr ⟨sX0_49, List.forall_mem_cons.mpr ⟨sX0_50, List.forall_mem_cons.mpr ⟨sX0_51, List.forall_mem_cons.mpr ⟨sX0_52, List.forall_mem_cons.mpr ⟨sX0_53, List.forall_mem_cons.mpr ⟨sX0_54, List.forall_mem_cons.mpr ⟨sX0_55, List.forall_mem_cons.mpr ⟨sX0_56, List.forall_mem_cons.mpr ⟨sX0_57, List.forall_mem_cons.mpr ⟨sX0_58, List.forall_mem_cons.mpr ⟨sX0_59, List.forall_mem_cons.mpr ⟨sX0_60, List.forall_mem_cons.mpr ⟨sX0_61, List.forall_mem_cons.mpr ⟨sX0_62, List.forall_mem_cons.mpr ⟨sX0_63, List.forall_mem_cons.mpr ⟨sX0_64, List.forall_mem_cons.mpr ⟨sX0_65, List.forall_mem_cons.mpr ⟨sX0_66, List.forall_mem_cons.mpr ⟨sX0_67, List.forall_mem_cons.mpr ⟨sX0_68, List.forall_mem_cons.mpr ⟨sX0_69, List.forall_mem_cons.mpr ⟨sX0_70, List.forall_mem_cons.mpr ⟨sX0_71, List.forall_mem_cons.mpr ⟨sX0_72, fun _ h => absurd h List.not_mem_nil⟩⟩⟩⟩⟩⟩⟩⟩⟩⟩⟩⟩⟩⟩⟩⟩⟩⟩⟩⟩⟩⟩⟩⟩⟩⟩⟩⟩⟩⟩⟩⟩⟩⟩⟩⟩⟩⟩⟩⟩⟩⟩⟩⟩⟩⟩⟩⟩⟩⟩⟩⟩⟩⟩⟩⟩⟩⟩⟩⟩⟩⟩⟩⟩⟩⟩⟩⟩⟩⟩⟩⟩⟩
theorem sX1_0 : siOK RX1 (.invokespecial 3, 1000, 1, 0, 0) := Or.inl ⟨by decide, rfl, w_209, w_147, w_148⟩
theorem sX1_1 : siOK RX1 (.newarray .int, 20, 0, 0, 0) := ⟨w_176, by decide⟩
theorem sX1_2 : siOK RX1 (.putfield 9, 2, 1, 1, 0) := ⟨by decide, ⟨by decide, by decide, Or.inl w_211⟩, by decide +kernel, Or.inr ⟨by decide +kernel, rfl⟩⟩
theorem sX1_3 : siOK RX1 (.putfield 15, 2, 0, 0, 0) := ⟨by decide, ⟨by decide, by decide, Or.inl w_210⟩, by decide +kernel, Or.inr ⟨by decide +kernel, rfl⟩⟩
theorem sX1_4 : siOK RX1 (.getfield 15, 2, 0, 0, 0) := ⟨by decide, ⟨by decide, by decide, Or.inl w_210⟩, by decide +kernel⟩
theorem sX1_5 : siOK RX1 (.putfield 19, 2, 2, 1, 0) := ⟨by decide, ⟨by decide, by decide, Or.inl w_212⟩, by decide +kernel, Or.inr ⟨by decide +kernel, rfl⟩⟩
theorem sX1_6 : siOK RX1 (.getfield 9, 2, 1, 1, 0) := ⟨by decide, ⟨by decide, by decide, Or.inl w_211⟩, by decide +kernel⟩
theorem sX1_7 : siOK RX1 (.invokestatic 22, 1001, 2, 1, 0) := Or.inl ⟨by decide, Or.inl ⟨rfl, w_138, w_1046, w_1037, w_1038⟩⟩
theorem sX1_8 : siOK RX1 (.invokestatic 28, 1003, 5, 0, 0) := Or.inl ⟨by decide, Or.inr (Or.inr ⟨rfl, w_1047, w_1041, w_1040, w_140⟩)⟩
theorem sX1_9 : siOK RX1 (.getfield 19, 2, 2, 1, 0) := ⟨by decide, ⟨by decide, by decide, Or.inl w_212⟩, by decide +kernel⟩
theorem sX1_10 : siOK RX1 (.invokevirtual 34, 43, 2, 1, 32) := siV (ci := 1) (congrArg Prod.fst g_X1_sizeOf) (congrArg (fun z => z.2.2.2.1) g_X1_sizeOf) (by decide) cm_X1_sizeOf (by decide +kernel) rfl (by decide) rfl (by decide) (by decide +kernel) (by decide) w_942 w_705 w_706
theorem sX1_11 : siOK RX1 (.invokevirtual 38, 45, 4, 1, 32) := siV (ci := 1) (congrArg Prod.fst g_X1_part) (congrArg (fun z => z.2.2.2.1) g_X1_part) (by decide) cm_X1_part (by decide +kernel) rfl (by decide) rfl (by decide) (by decide +kernel) (by decide) w_943 w_713 w_714
theorem sX1_12 : siOK RX1 (.invokevirtual 42, 49, 3, 1, 32) := siV (ci := 1) (congrArg Prod.fst g_X1_indexOf) (congrArg (fun z => z.2.2.2.1) g_X1_indexOf) (by decide) cm_X1_indexOf (by decide +kernel) rfl (by decide) rfl (by decide) (by decide +kernel) (by decide) w_938 w_939 w_940
def ST_X1 : List (Instr × Nat × Nat × Nat × Nat) := [(.invokespecial 3, 1000, 1, 0, 0), (.newarray .int, 20, 0, 0, 0), (.putfield 9, 2, 1, 1, 0), (.putfield 15, 2, 0, 0, 0), (.getfield 15, 2, 0, 0, 0), (.putfield 19, 2, 2, 1, 0), (.getfield 9, 2, 1, 1, 0), (.invokestatic 22, 1001, 2, 1, 0), (.invokestatic 28, 1003, 5, 0, 0), (.getfield 19, 2, 2, 1, 0), (.invokevirtual 34, 43, 2, 1, 32), (.invokevirtual 38, 45, 4, 1, 32), (.invokevirtual 42, 49, 3, 1, 32)]
set_option maxRecDepth 100000 in
theorem SI_X1 : ∀ z ∈ ST_X1, siOK RX1 z := List.forall_mem_cons.mpr ⟨sX1_0, List.forall_mem_cons.mpr ⟨sX1_1, List.forall_mem_cons.mpr ⟨sX1_2, List.forall_mem_cons.mpr ⟨sX1_3, List.forall_mem_cons.mpr ⟨sX1_4, List.forall_mem_cons.mpr ⟨sX1_5, List.forall_mem_cons.mpr ⟨sX1_6, List.forall_mem_cons.mpr ⟨sX1_7, List.forall_mem_cons.mpr ⟨sX1_8, List.forall_mem_cons.mpr ⟨sX1_9, List.forall_mem_cons.mpr ⟨sX1_10, List.forall_mem_cons.mpr ⟨sX1_11, List.forall_mem_cons.mpr ⟨sX1_12, fun _ h => absurd h List.not_mem_nil⟩⟩⟩⟩⟩⟩⟩⟩⟩⟩⟩⟩⟩
theorem sX2_0 : siOK RX2 (.invokespecial 3, 1000, 1, 0, 0) := Or.inl ⟨by decide, rfl, w_160, w_147, w_148⟩
theorem sX2_1 : siOK RX2 (.newarray .int, 20, 0, 0, 0) := ⟨w_176, by decide⟩
theorem sX2_2 : siOK RX2 (.putfield 9, 3, 0, 1, 0) := ⟨by decide, ⟨by decide, by decide, Or.inl w_161⟩, by decide +kernel, Or.inr ⟨by decide +kernel, rfl⟩⟩
theorem sX2_3 : siOK RX2 (.newarray .byte, 21, 0, 0, 0) := ⟨w_175, by decide⟩
theorem sX2_4 : siOK RX2 (.putfield 15, 3, 1, 1, 0) := ⟨by decide, ⟨by decide, by decide, Or.inl w_162⟩, by decide +kernel, Or.inr ⟨by decide +kernel, rfl⟩⟩
theorem sX2_5 : siOK RX2 (.getfield 19, 3, 2, 0, 0) := ⟨by decide, ⟨by decide, by decide, Or.inl w_164⟩, by decide +kernel⟩
theorem sX2_6 : siOK RX2 (.invokevirtual 23, 53, 5, 1, 48) := siV (ci := 2) (congrArg Prod.fst g_X2_isAt) (congrArg (fun z => z.2.2.2.1) g_X2_isAt) (by decide) cm_X2_isAt (by decide +kernel) rfl (by decide) rfl (by decide) (by decide +kernel) (by decide) w_608 w_610 w_12
theorem sX2_7 : siOK RX2 (.getfield 9, 3, 0, 1, 0) := ⟨by decide, ⟨by decide, by decide, Or.inl w_161⟩, by decide +kernel⟩
theorem sX2_8 : siOK RX2 (.getfield 15, 3, 1, 1, 0) := ⟨by decide, ⟨by decide, by decide, Or.inl w_162⟩, by decide +kernel⟩
theorem sX2_9 : siOK RX2 (.putfield 19, 3, 2, 0, 0) := ⟨by decide, ⟨by decide, by decide, Or.inl w_164⟩, by decide +kernel, Or.inl (by decide +kernel)⟩
def ST_X2 : List (Instr × Nat × Nat × Nat × Nat) := [(.invokespecial 3, 1000, 1, 0, 0), (.newarray .int, 20, 0, 0, 0), (.putfield 9, 3, 0, 1, 0), (.newarray .byte, 21, 0, 0, 0), (.putfield 15, 3, 1, 1, 0), (.getfield 19, 3, 2, 0, 0), (.invokevirtual 23, 53, 5, 1, 48), (.getfield 9, 3, 0, 1, 0), (.getfield 15, 3, 1, 1, 0), (.putfield 19, 3, 2, 0, 0)]
set_option maxRecDepth 100000 in
theorem SI_X2 : ∀ z ∈ ST_X2, siOK RX2 z := List.forall_mem_cons.mpr ⟨sX2_0, List.forall_mem_cons.mpr ⟨sX2_1, List.forall_mem_cons.mpr ⟨sX2_2, List.forall_mem_cons.mpr ⟨sX2_3, List.forall_mem_cons.mpr ⟨sX2_4, List.forall_mem_cons.mpr ⟨sX2_5, List.forall_mem_cons.mpr ⟨sX2_6, List.forall_mem_cons.mpr ⟨sX2_7, List.forall_mem_cons.mpr ⟨sX2_8, List.forall_mem_cons.mpr ⟨sX2_9, fun _ h => absurd h List.not_mem_nil⟩⟩⟩⟩⟩⟩⟩⟩⟩⟩
theorem sX3_0 : siOK RX3 (.invokespecial 3, 1000, 1, 0, 0) := Or.inl ⟨by decide, rfl, w_280, w_147, w_148⟩
theorem sX3_1 : siOK RX3 (.newarray .byte, 21, 0, 0, 0) := ⟨w_175, by decide⟩
theorem sX3_2 : siOK RX3 (.putfield 9, 4, 0, 1, 0) := ⟨by decide, ⟨by decide, by decide, Or.inl w_281⟩, by decide +kernel, Or.inr ⟨by decide +kernel, rfl⟩⟩
theorem sX3_3 : siOK RX3 (.putfield 15, 4, 1, 0, 0) := ⟨by decide, ⟨by decide, by decide, Or.inl w_282⟩, by decide +kernel, Or.inl (by decide +kernel)⟩
theorem sX3_4 : siOK RX3 (.getfield 9, 4, 0, 1, 0) := ⟨by decide, ⟨by decide, by decide, Or.inl w_281⟩, by decide +kernel⟩
theorem sX3_5 : siOK RX3 (.getfield 15, 4, 1, 0, 0) := ⟨by decide, ⟨by decide, by decide, Or.inl w_282⟩, by decide +kernel⟩
theorem sX3_6 : siOK RX3 (.invokevirtual 19, 54, 2, 1, 48) := siV (ci := 2) (congrArg Prod.fst g_X2_lengthOf) (congrArg (fun z => z.2.2.2.1) g_X2_lengthOf) (by decide) cm_X2_lengthOf (by decide +kernel) rfl (by decide) rfl (by decide) (by decide +kernel) (by decide) w_1185 w_1186 w_1187
theorem sX3_7 : siOK RX3 (.invokevirtual 25, 55, 3, 1, 48) := siV (ci := 2) (congrArg Prod.fst g_X2_letterOf) (congrArg (fun z => z.2.2.2.1) g_X2_letterOf) (by decide) cm_X2_letterOf (by decide +kernel) rfl (by decide) rfl (by decide) (by decide +kernel) (by decide) w_1189 w_1190 w_1191
theorem sX3_8 : siOK RX3 (.invokevirtual 29, 60, 2, 0, 64) := siV (ci := 3) (congrArg Prod.fst g_X3_putByte) (congrArg (fun z => z.2.2.2.1) g_X3_putByte) (by decide) cm_X3_putByte (by decide +kernel) rfl (by decide) rfl (by decide) (by decide +kernel) (by decide) w_1193 w_1174 w_1175
def ST_X3 : List (Instr × Nat × Nat × Nat × Nat) := [(.invokespecial 3, 1000, 1, 0, 0), (.newarray .byte, 21, 0, 0, 0), (.putfield 9, 4, 0, 1, 0), (.putfield 15, 4, 1, 0, 0), (.getfield 9, 4, 0, 1, 0), (.getfield 15, 4, 1, 0, 0), (.invokevirtual 19, 54, 2, 1, 48), (.invokevirtual 25, 55, 3, 1, 48), (.invokevirtual 29, 60, 2, 0, 64)]
set_option maxRecDepth 100000 in
theorem SI_X3 : ∀ z ∈ ST_X3, siOK RX3 z := List.forall_mem_cons.mpr ⟨sX3_0, List.forall_mem_cons.mpr ⟨sX3_1, List.forall_mem_cons.mpr ⟨sX3_2, List.forall_mem_cons.mpr ⟨sX3_3, List.forall_mem_cons.mpr ⟨sX3_4, List.forall_mem_cons.mpr ⟨sX3_5, List.forall_mem_cons.mpr ⟨sX3_6, List.forall_mem_cons.mpr ⟨sX3_7, List.forall_mem_cons.mpr ⟨sX3_8, fun _ h => absurd h List.not_mem_nil⟩⟩⟩⟩⟩⟩⟩⟩⟩
theorem sX4_0 : siOK RX4 (.invokespecial 3, 1000, 1, 0, 0) := Or.inl ⟨by decide, rfl, w_444, w_147, w_148⟩
theorem sX4_1 : siOK RX4 (.putfield 9, 5, 10, 0, 0) := ⟨by decide, ⟨by decide, by decide, Or.inl w_456⟩, by decide +kernel, Or.inl (by decide +kernel)⟩
theorem sX4_2 : siOK RX4 (.putfield 15, 5, 0, 1, 0) := ⟨by decide, ⟨by decide, by decide, Or.inl w_445⟩, by decide +kernel, Or.inr ⟨by decide +kernel, rfl⟩⟩
theorem sX4_3 : siOK RX4 (.putfield 19, 5, 1, 0, 0) := ⟨by decide, ⟨by decide, by decide, Or.inl w_446⟩, by decide +kernel, Or.inr ⟨by decide +kernel, rfl⟩⟩
theorem sX4_4 : siOK RX4 (.putfield 22, 5, 2, 1, 0) := ⟨by decide, ⟨by decide, by decide, Or.inl w_447⟩, by decide +kernel, Or.inr ⟨by decide +kernel, rfl⟩⟩
theorem sX4_5 : siOK RX4 (.putfield 26, 5, 3, 1, 0) := ⟨by decide, ⟨by decide, by decide, Or.inl w_448⟩, by decide +kernel, Or.inr ⟨by decide +kernel, rfl⟩⟩
theorem sX4_6 : siOK RX4 (.getfield 22, 5, 2, 1, 0) := ⟨by decide, ⟨by decide, by decide, Or.inl w_447⟩, by decide +kernel⟩
theorem sX4_7 : siOK RX4 (.invokevirtual 30, 86, 1, 0, 96) := siV (ci := 5) (congrArg Prod.fst g_X5_empty) (congrArg (fun z => z.2.2.2.1) g_X5_empty) (by decide) cm_X5_empty (by decide +kernel) rfl (by decide) rfl (by decide) (by decide +kernel) (by decide) w_485 w_486 w_487
theorem sX4_8 : siOK RX4 (.getfield 26, 5, 3, 1, 0) := ⟨by decide, ⟨by decide, by decide, Or.inl w_448⟩, by decide +kernel⟩
theorem sX4_9 : siOK RX4 (.invokevirtual 35, 1, 1, 0, 16) := siV (ci := 0) (congrArg Prod.fst g_X0_empty) (congrArg (fun z => z.2.2.2.1) g_X0_empty) (by decide) cm_X0_empty (by decide +kernel) rfl (by decide) rfl (by decide) (by decide +kernel) (by decide) w_489 w_490 w_491
theorem sX4_10 : siOK RX4 (.invokevirtual 38, 80, 1, 0, 80) := siV (ci := 4) (congrArg Prod.fst g_X4_advance) (congrArg (fun z => z.2.2.2.1) g_X4_advance) (by decide) cm_X4_advance (by decide +kernel) rfl (by decide) rfl (by decide) (by decide +kernel) (by decide) w_500 w_502 w_2
theorem sX4_11 : siOK RX4 (.ldc 41, 15, 0, 0, 0) := ⟨5, "hall", by decide +kernel, by decide, rfl⟩
theorem sX4_12 : siOK RX4 (.invokevirtual 42, 78, 2, 1, 80) := siV (ci := 4) (congrArg Prod.fst g_X4_wordIs) (congrArg (fun z => z.2.2.2.1) g_X4_wordIs) (by decide) cm_X4_wordIs (by decide +kernel) rfl (by decide) rfl (by decide) (by decide +kernel) (by decide) w_523 w_525 w_6
theorem sX4_13 : siOK RX4 (.invokevirtual 46, 77, 2, 0, 80) := siV (ci := 4) (congrArg Prod.fst g_X4_fail) (congrArg (fun z => z.2.2.2.1) g_X4_fail) (by decide) cm_X4_fail (by decide +kernel) rfl (by decide) rfl (by decide) (by decide +kernel) (by decide) w_575 w_577 w_7
theorem sX4_14 : siOK RX4 (.getstatic 50, 2, 0, 0, 0) := ⟨0, "SETTING_LOW", by decide +kernel, by decide, rfl, Or.inr ⟨"FadingSignals", w_579⟩⟩
theorem sX4_15 : siOK RX4 (.getstatic 54, 3, 0, 0, 0) := ⟨1, "SETTING_HIGH", by decide +kernel, by decide, rfl, Or.inr ⟨"FadingSignals", w_581⟩⟩
theorem sX4_16 : siOK RX4 (.invokevirtual 57, 76, 3, 1, 80) := siV (ci := 4) (congrArg Prod.fst g_X4_takeNumber) (congrArg (fun z => z.2.2.2.1) g_X4_takeNumber) (by decide) cm_X4_takeNumber (by decide +kernel) rfl (by decide) rfl (by decide) (by decide +kernel) (by decide) w_583 w_585 w_8
theorem sX4_17 : siOK RX4 (.invokevirtual 61, 6, 3, 0, 16) := siV (ci := 0) (congrArg Prod.fst g_X0_putSetting) (congrArg (fun z => z.2.2.2.1) g_X0_putSetting) (by decide) cm_X0_putSetting (by decide +kernel) rfl (by decide) rfl (by decide) (by decide +kernel) (by decide) w_587 w_588 w_589
theorem sX4_18 : siOK RX4 (.getfield 19, 5, 1, 0, 0) := ⟨by decide, ⟨by decide, by decide, Or.inl w_446⟩, by decide +kernel⟩
theorem sX4_19 : siOK RX4 (.getfield 65, 5, 9, 0, 0) := ⟨by decide, ⟨by decide, by decide, Or.inl w_454⟩, by decide +kernel⟩
theorem sX4_20 : siOK RX4 (.getfield 68, 5, 4, 0, 0) := ⟨by decide, ⟨by decide, by decide, Or.inl w_449⟩, by decide +kernel⟩
theorem sX4_21 : siOK RX4 (.ldc 71, 16, 0, 0, 0) := ⟨6, "kind", by decide +kernel, by decide, rfl⟩
theorem sX4_22 : siOK RX4 (.invokevirtual 73, 65, 1, 0, 80) := siV (ci := 4) (congrArg Prod.fst g_X4_readKindLine) (congrArg (fun z => z.2.2.2.1) g_X4_readKindLine) (by decide) cm_X4_readKindLine (by decide +kernel) rfl (by decide) rfl (by decide) (by decide +kernel) (by decide) w_592 w_594 w_9
theorem sX4_23 : siOK RX4 (.ldc 76, 17, 0, 0, 0) := ⟨7, "program", by decide +kernel, by decide, rfl⟩
theorem sX4_24 : siOK RX4 (.invokevirtual 78, 66, 1, 0, 80) := siV (ci := 4) (congrArg Prod.fst g_X4_readProgramLine) (congrArg (fun z => z.2.2.2.1) g_X4_readProgramLine) (by decide) cm_X4_readProgramLine (by decide +kernel) rfl (by decide) rfl (by decide) (by decide +kernel) (by decide) w_625 w_627 w_13
theorem sX4_25 : siOK RX4 (.ldc 81, 18, 0, 0, 0) := ⟨8, "handle", by decide +kernel, by decide, rfl⟩
theorem sX4_26 : siOK RX4 (.invokevirtual 83, 67, 1, 0, 80) := siV (ci := 4) (congrArg Prod.fst g_X4_readHandleLine) (congrArg (fun z => z.2.2.2.1) g_X4_readHandleLine) (by decide) cm_X4_readHandleLine (by decide +kernel) rfl (by decide) rfl (by decide) (by decide +kernel) (by decide) w_630 w_632 w_14
theorem sX4_27 : siOK RX4 (.ldc 86, 19, 0, 0, 0) := ⟨9, "hide", by decide +kernel, by decide, rfl⟩
theorem sX4_28 : siOK RX4 (.invokevirtual 88, 70, 1, 0, 80) := siV (ci := 4) (congrArg Prod.fst g_X4_readHideLine) (congrArg (fun z => z.2.2.2.1) g_X4_readHideLine) (by decide) cm_X4_readHideLine (by decide +kernel) rfl (by decide) rfl (by decide) (by decide +kernel) (by decide) w_667 w_669 w_19
theorem sX4_29 : siOK RX4 (.ldc 91, 20, 0, 0, 0) := ⟨10, "send", by decide +kernel, by decide, rfl⟩
theorem sX4_30 : siOK RX4 (.invokevirtual 93, 71, 1, 0, 80) := siV (ci := 4) (congrArg Prod.fst g_X4_readSendLine) (congrArg (fun z => z.2.2.2.1) g_X4_readSendLine) (by decide) cm_X4_readSendLine (by decide +kernel) rfl (by decide) rfl (by decide) (by decide +kernel) (by decide) w_684 w_686 w_20
theorem sX4_31 : siOK RX4 (.getfield 96, 6, 0, 1, 0) := ⟨by decide, ⟨by decide, by decide, Or.inr ⟨"FadingSignals", w_178⟩⟩, by decide +kernel⟩
theorem sX4_32 : siOK RX4 (.getfield 100, 3, 2, 0, 0) := ⟨by decide, ⟨by decide, by decide, Or.inr ⟨"FadingSignals", w_165⟩⟩, by decide +kernel⟩
theorem sX4_33 : siOK RX4 (.invokevirtual 105, 72, 2, 0, 80) := siV (ci := 4) (congrArg Prod.fst g_X4_takeFirstWord) (congrArg (fun z => z.2.2.2.1) g_X4_takeFirstWord) (by decide) cm_X4_takeFirstWord (by decide +kernel) rfl (by decide) rfl (by decide) (by decide +kernel) (by decide) w_596 w_598 w_10
theorem sX4_34 : siOK RX4 (.invokevirtual 109, 73, 2, 0, 80) := siV (ci := 4) (congrArg Prod.fst g_X4_takeNewName) (congrArg (fun z => z.2.2.2.1) g_X4_takeNewName) (by decide) cm_X4_takeNewName (by decide +kernel) rfl (by decide) rfl (by decide) (by decide +kernel) (by decide) w_600 w_602 w_11
theorem sX4_35 : siOK RX4 (.getstatic 113, 4, 0, 0, 0) := ⟨2, "KIND_LOW", by decide +kernel, by decide, rfl, Or.inr ⟨"FadingSignals", w_616⟩⟩
theorem sX4_36 : siOK RX4 (.getstatic 116, 5, 0, 0, 0) := ⟨3, "KIND_HIGH", by decide +kernel, by decide, rfl, Or.inr ⟨"FadingSignals", w_618⟩⟩
theorem sX4_37 : siOK RX4 (.invokevirtual 119, 8, 4, 0, 16) := siV (ci := 0) (congrArg Prod.fst g_X0_putKindNumber) (congrArg (fun z => z.2.2.2.1) g_X0_putKindNumber) (by decide) cm_X0_putKindNumber (by decide +kernel) rfl (by decide) rfl (by decide) (by decide +kernel) (by decide) w_620 w_621 w_622
theorem sX4_38 : siOK RX4 (.getfield 123, 6, 1, 1, 0) := ⟨by decide, ⟨by decide, by decide, Or.inr ⟨"FadingSignals", w_181⟩⟩, by decide +kernel⟩
theorem sX4_39 : siOK RX4 (.invokevirtual 126, 74, 2, 1, 80) := siV (ci := 4) (congrArg Prod.fst g_X4_takeName) (congrArg (fun z => z.2.2.2.1) g_X4_takeName) (by decide) cm_X4_takeName (by decide +kernel) rfl (by decide) rfl (by decide) (by decide +kernel) (by decide) w_634 w_636 w_15
theorem sX4_40 : siOK RX4 (.invokevirtual 130, 75, 2, 1, 80) := siV (ci := 4) (congrArg Prod.fst g_X4_knownName) (congrArg (fun z => z.2.2.2.1) g_X4_knownName) (by decide) cm_X4_knownName (by decide +kernel) rfl (by decide) rfl (by decide) (by decide +kernel) (by decide) w_638 w_640 w_16
theorem sX4_41 : siOK RX4 (.invokevirtual 133, 87, 3, 1, 96) := siV (ci := 5) (congrArg Prod.fst g_X5_ticksOf) (congrArg (fun z => z.2.2.2.1) g_X5_ticksOf) (by decide) cm_X5_ticksOf (by decide +kernel) rfl (by decide) rfl (by decide) (by decide +kernel) (by decide) w_642 w_643 w_644
theorem sX4_42 : siOK RX4 (.invokevirtual 136, 90, 4, 0, 96) := siV (ci := 5) (congrArg Prod.fst g_X5_addHandler) (congrArg (fun z => z.2.2.2.1) g_X5_addHandler) (by decide) cm_X5_addHandler (by decide +kernel) rfl (by decide) rfl (by decide) (by decide +kernel) (by decide) w_646 w_647 w_648
theorem sX4_43 : siOK RX4 (.invokevirtual 139, 68, 4, 0, 80) := siV (ci := 4) (congrArg Prod.fst g_X4_readAct) (congrArg (fun z => z.2.2.2.1) g_X4_readAct) (by decide) cm_X4_readAct (by decide +kernel) rfl (by decide) rfl (by decide) (by decide +kernel) (by decide) w_650 w_652 w_17
theorem sX4_44 : siOK RX4 (.invokevirtual 142, 69, 1, 1, 80) := siV (ci := 4) (congrArg Prod.fst g_X4_actType) (congrArg (fun z => z.2.2.2.1) g_X4_actType) (by decide) cm_X4_actType (by decide +kernel) rfl (by decide) rfl (by decide) (by decide +kernel) (by decide) w_654 w_656 w_18
theorem sX4_45 : siOK RX4 (.invokevirtual 146, 91, 7, 0, 96) := siV (ci := 5) (congrArg Prod.fst g_X5_addAct) (congrArg (fun z => z.2.2.2.1) g_X5_addAct) (by decide) cm_X5_addAct (by decide +kernel) rfl (by decide) rfl (by decide) (by decide +kernel) (by decide) w_662 w_663 w_664
theorem sX4_46 : siOK RX4 (.ldc 150, 21, 0, 0, 0) := ⟨11, "raise", by decide +kernel, by decide, rfl⟩
theorem sX4_47 : siOK RX4 (.ldc 152, 22, 0, 0, 0) := ⟨12, "mask", by decide +kernel, by decide, rfl⟩
theorem sX4_48 : siOK RX4 (.ldc 154, 23, 0, 0, 0) := ⟨13, "unmask", by decide +kernel, by decide, rfl⟩
theorem sX4_49 : siOK RX4 (.ldc 156, 24, 0, 0, 0) := ⟨14, "drop", by decide +kernel, by decide, rfl⟩
theorem sX4_50 : siOK RX4 (.invokevirtual 158, 12, 3, 1, 16) := siV (ci := 0) (congrArg Prod.fst g_X0_isMasked) (congrArg (fun z => z.2.2.2.1) g_X0_isMasked) (by decide) cm_X0_isMasked (by decide +kernel) rfl (by decide) rfl (by decide) (by decide +kernel) (by decide) w_671 w_672 w_673
theorem sX4_51 : siOK RX4 (.invokevirtual 162, 13, 4, 0, 16) := siV (ci := 0) (congrArg Prod.fst g_X0_putMask) (congrArg (fun z => z.2.2.2.1) g_X0_putMask) (by decide) cm_X0_putMask (by decide +kernel) rfl (by decide) rfl (by decide) (by decide +kernel) (by decide) w_679 w_680 w_681
theorem sX4_52 : siOK RX4 (.getfield 166, 5, 8, 0, 0) := ⟨by decide, ⟨by decide, by decide, Or.inl w_453⟩, by decide +kernel⟩
theorem sX4_53 : siOK RX4 (.putfield 166, 5, 8, 0, 0) := ⟨by decide, ⟨by decide, by decide, Or.inl w_453⟩, by decide +kernel, Or.inl (by decide +kernel)⟩
theorem sX4_54 : siOK RX4 (.invokevirtual 169, 25, 5, 1, 16) := siV (ci := 0) (congrArg Prod.fst g_X0_sendSignal) (congrArg (fun z => z.2.2.2.1) g_X0_sendSignal) (by decide) cm_X0_sendSignal (by decide +kernel) rfl (by decide) rfl (by decide) (by decide +kernel) (by decide) w_688 w_689 w_690
theorem sX4_55 : siOK RX4 (.getfield 15, 5, 0, 1, 0) := ⟨by decide, ⟨by decide, by decide, Or.inl w_445⟩, by decide +kernel⟩
theorem sX4_56 : siOK RX4 (.getfield 173, 5, 5, 0, 0) := ⟨by decide, ⟨by decide, by decide, Or.inl w_450⟩, by decide +kernel⟩
theorem sX4_57 : siOK RX4 (.getfield 176, 5, 6, 0, 0) := ⟨by decide, ⟨by decide, by decide, Or.inl w_451⟩, by decide +kernel⟩
theorem sX4_58 : siOK RX4 (.invokevirtual 179, 52, 4, 1, 48) := siV (ci := 2) (congrArg Prod.fst g_X2_placeOf) (congrArg (fun z => z.2.2.2.1) g_X2_placeOf) (by decide) cm_X2_placeOf (by decide +kernel) rfl (by decide) rfl (by decide) (by decide +kernel) (by decide) w_604 w_605 w_606
theorem sX4_59 : siOK RX4 (.invokevirtual 183, 56, 4, 0, 48) := siV (ci := 2) (congrArg Prod.fst g_X2_add) (congrArg (fun z => z.2.2.2.1) g_X2_add) (by decide) cm_X2_add (by decide +kernel) rfl (by decide) rfl (by decide) (by decide +kernel) (by decide) w_612 w_613 w_614
theorem sX4_60 : siOK RX4 (.getfield 187, 5, 7, 0, 0) := ⟨by decide, ⟨by decide, by decide, Or.inl w_452⟩, by decide +kernel⟩
theorem sX4_61 : siOK RX4 (.putfield 65, 5, 9, 0, 0) := ⟨by decide, ⟨by decide, by decide, Or.inl w_454⟩, by decide +kernel, Or.inl (by decide +kernel)⟩
theorem sX4_62 : siOK RX4 (.invokevirtual 190, 1004, 1, 1, 0) := Or.inl ⟨by decide, Or.inl ⟨rfl, w_527⟩⟩
theorem sX4_63 : siOK RX4 (.invokevirtual 194, 79, 2, 1, 80) := siV (ci := 4) (congrArg Prod.fst g_X4_byteAt) (congrArg (fun z => z.2.2.2.1) g_X4_byteAt) (by decide) cm_X4_byteAt (by decide +kernel) rfl (by decide) rfl (by decide) (by decide +kernel) (by decide) w_504 w_506 w_3
theorem sX4_64 : siOK RX4 (.invokevirtual 198, 1005, 2, 1, 0) := Or.inl ⟨by decide, Or.inr ⟨rfl, w_537⟩⟩
theorem sX4_65 : siOK RX4 (.putfield 173, 5, 5, 0, 0) := ⟨by decide, ⟨by decide, by decide, Or.inl w_450⟩, by decide +kernel, Or.inl (by decide +kernel)⟩
theorem sX4_66 : siOK RX4 (.putfield 176, 5, 6, 0, 0) := ⟨by decide, ⟨by decide, by decide, Or.inl w_451⟩, by decide +kernel, Or.inl (by decide +kernel)⟩
theorem sX4_67 : siOK RX4 (.putfield 68, 5, 4, 0, 0) := ⟨by decide, ⟨by decide, by decide, Or.inl w_449⟩, by decide +kernel, Or.inl (by decide +kernel)⟩
theorem sX4_68 : siOK RX4 (.invokestatic 202, 83, 1, 1, 0) := siS (congrArg Prod.fst g_X4_isLetter) (congrArg (fun z => z.2.2.2.1) g_X4_isLetter) (by decide) cm_X4_isLetter (by decide +kernel) (by decide) (by decide +kernel) w_508 w_509
theorem sX4_69 : siOK RX4 (.invokevirtual 206, 81, 1, 0, 80) := siV (ci := 4) (congrArg Prod.fst g_X4_scanWord) (congrArg (fun z => z.2.2.2.1) g_X4_scanWord) (by decide) cm_X4_scanWord (by decide +kernel) rfl (by decide) rfl (by decide) (by decide +kernel) (by decide) w_511 w_513 w_4
theorem sX4_70 : siOK RX4 (.invokestatic 209, 84, 1, 1, 0) := siS (congrArg Prod.fst g_X4_isDigit) (congrArg (fun z => z.2.2.2.1) g_X4_isDigit) (by decide) cm_X4_isDigit (by decide +kernel) (by decide) (by decide +kernel) w_515 w_516
theorem sX4_71 : siOK RX4 (.invokevirtual 212, 82, 1, 0, 80) := siV (ci := 4) (congrArg Prod.fst g_X4_scanNumber) (congrArg (fun z => z.2.2.2.1) g_X4_scanNumber) (by decide) cm_X4_scanNumber (by decide +kernel) rfl (by decide) rfl (by decide) (by decide +kernel) (by decide) w_518 w_520 w_5
theorem sX4_72 : siOK RX4 (.putfield 187, 5, 7, 0, 0) := ⟨by decide, ⟨by decide, by decide, Or.inl w_452⟩, by decide +kernel, Or.inl (by decide +kernel)⟩
def ST_X4 : List (Instr × Nat × Nat × Nat × Nat) := [(.invokespecial 3, 1000, 1, 0, 0), (.putfield 9, 5, 10, 0, 0), (.putfield 15, 5, 0, 1, 0), (.putfield 19, 5, 1, 0, 0), (.putfield 22, 5, 2, 1, 0), (.putfield 26, 5, 3, 1, 0), (.getfield 22, 5, 2, 1, 0), (.invokevirtual 30, 86, 1, 0, 96), (.getfield 26, 5, 3, 1, 0), (.invokevirtual 35, 1, 1, 0, 16), (.invokevirtual 38, 80, 1, 0, 80), (.ldc 41, 15, 0, 0, 0), (.invokevirtual 42, 78, 2, 1, 80), (.invokevirtual 46, 77, 2, 0, 80), (.getstatic 50, 2, 0, 0, 0), (.getstatic 54, 3, 0, 0, 0), (.invokevirtual 57, 76, 3, 1, 80), (.invokevirtual 61, 6, 3, 0, 16), (.getfield 19, 5, 1, 0, 0), (.getfield 65, 5, 9, 0, 0), (.getfield 68, 5, 4, 0, 0), (.ldc 71, 16, 0, 0, 0), (.invokevirtual 73, 65, 1, 0, 80), (.ldc 76, 17, 0, 0, 0), (.invokevirtual 78, 66, 1, 0, 80), (.ldc 81, 18, 0, 0, 0), (.invokevirtual 83, 67, 1, 0, 80), (.ldc 86, 19, 0, 0, 0), (.invokevirtual 88, 70, 1, 0, 80), (.ldc 91, 20, 0, 0, 0), (.invokevirtual 93, 71, 1, 0, 80), (.getfield 96, 6, 0, 1, 0), (.getfield 100, 3, 2, 0, 0), (.invokevirtual 105, 72, 2, 0, 80), (.invokevirtual 109, 73, 2, 0, 80), (.getstatic 113, 4, 0, 0, 0), (.getstatic 116, 5, 0, 0, 0), (.invokevirtual 119, 8, 4, 0, 16), (.getfield 123, 6, 1, 1, 0), (.invokevirtual 126, 74, 2, 1, 80), (.invokevirtual 130, 75, 2, 1, 80), (.invokevirtual 133, 87, 3, 1, 96), (.invokevirtual 136, 90, 4, 0, 96), (.invokevirtual 139, 68, 4, 0, 80), (.invokevirtual 142, 69, 1, 1, 80), (.invokevirtual 146, 91, 7, 0, 96), (.ldc 150, 21, 0, 0, 0), (.ldc 152, 22, 0, 0, 0), (.ldc 154, 23, 0, 0, 0), (.ldc 156, 24, 0, 0, 0), (.invokevirtual 158, 12, 3, 1, 16), (.invokevirtual 162, 13, 4, 0, 16), (.getfield 166, 5, 8, 0, 0), (.putfield 166, 5, 8, 0, 0), (.invokevirtual 169, 25, 5, 1, 16), (.getfield 15, 5, 0, 1, 0), (.getfield 173, 5, 5, 0, 0), (.getfield 176, 5, 6, 0, 0), (.invokevirtual 179, 52, 4, 1, 48), (.invokevirtual 183, 56, 4, 0, 48), (.getfield 187, 5, 7, 0, 0), (.putfield 65, 5, 9, 0, 0), (.invokevirtual 190, 1004, 1, 1, 0), (.invokevirtual 194, 79, 2, 1, 80), (.invokevirtual 198, 1005, 2, 1, 0), (.putfield 173, 5, 5, 0, 0), (.putfield 176, 5, 6, 0, 0), (.putfield 68, 5, 4, 0, 0), (.invokestatic 202, 83, 1, 1, 0), (.invokevirtual 206, 81, 1, 0, 80), (.invokestatic 209, 84, 1, 1, 0), (.invokevirtual 212, 82, 1, 0, 80), (.putfield 187, 5, 7, 0, 0)]
set_option maxRecDepth 100000 in
theorem SI_X4 : ∀ z ∈ ST_X4, siOK RX4 z := List.forall_mem_cons.mpr ⟨sX4_0, List.forall_mem_cons.mpr ⟨sX4_1, List.forall_mem_cons.mpr ⟨sX4_2, List.forall_mem_cons.mpr ⟨sX4_3, List.forall_mem_cons.mpr ⟨sX4_4, List.forall_mem_cons.mpr ⟨sX4_5, List.forall_mem_cons.mpr ⟨sX4_6, List.forall_mem_cons.mpr ⟨sX4_7, List.forall_mem_cons.mpr ⟨sX4_8, List.forall_mem_cons.mpr ⟨sX4_9, List.forall_mem_cons.mpr ⟨sX4_10, List.forall_mem_cons.mpr ⟨sX4_11, List.forall_mem_cons.mpr ⟨sX4_12, List.forall_mem_cons.mpr ⟨sX4_13, List.forall_mem_cons.mpr ⟨sX4_14, List.forall_mem_cons.mpr ⟨sX4_15, List.forall_mem_cons.mpr ⟨sX4_16, List.forall_mem_cons.mpr ⟨sX4_17, List.forall_mem_cons.mpr ⟨sX4_18, List.forall_mem_cons.mpr ⟨sX4_19, List.forall_mem_cons.mpr ⟨sX4_20, List.forall_mem_cons.mpr ⟨sX4_21, List.forall_mem_cons.mpr ⟨sX4_22, List.forall_mem_cons.mpr ⟨sX4_23, List.forall_mem_cons.mpr ⟨sX4_24, List.forall_mem_cons.mpr ⟨sX4_25, List.forall_mem_cons.mpr ⟨sX4_26, List.forall_mem_cons.mpr ⟨sX4_27, List.forall_mem_cons.mpr ⟨sX4_28, List.forall_mem_cons.mpr ⟨sX4_29, List.forall_mem_cons.mpr ⟨sX4_30, List.forall_mem_cons.mpr ⟨sX4_31, List.forall_mem_cons.mpr ⟨sX4_32, List.forall_mem_cons.mpr ⟨sX4_33, List.forall_mem_cons.mpr ⟨sX4_34, List.forall_mem_cons.mpr ⟨sX4_35, List.forall_mem_cons.mpr ⟨sX4_36, List.forall_mem_cons.mpr ⟨sX4_37, List.forall_mem_cons.mpr ⟨sX4_38, List.forall_mem_cons.mpr ⟨sX4_39, List.forall_mem_cons.mpr ⟨sX4_40, List.forall_mem_cons.mpr ⟨sX4_41, List.forall_mem_cons.mpr ⟨sX4_42, List.forall_mem_cons.mpr ⟨sX4_43, List.forall_mem_cons.mpr ⟨sX4_44, List.forall_mem_cons.mpr ⟨sX4_45, List.forall_mem_cons.mpr ⟨sX4_46, List.forall_mem_cons.mpr ⟨sX4_47, List.forall_mem_cons.mpr ⟨sX4_48, List.forall_mem_cons.mpr ⟨sX4_49, List.forall_mem_cons.mpr ⟨sX4_50, List.forall_mem_cons.mpr ⟨sX4_51, List.forall_mem_cons.mpr ⟨sX4_52, List.forall_mem_cons.mpr ⟨sX4_53, List.forall_mem_cons.mpr ⟨sX4_54, List.forall_mem_cons.mpr ⟨sX4_55, List.forall_mem_cons.mpr ⟨sX4_56, List.forall_mem_cons.mpr ⟨sX4_57, List.forall_mem_cons.mpr ⟨sX4_58, List.forall_mem_cons.mpr ⟨sX4_59, List.forall_mem_cons.mpr ⟨sX4_60, List.forall_mem_cons.mpr ⟨sX4_61, List.forall_mem_cons.mpr ⟨sX4_62, List.forall_mem_cons.mpr ⟨sX4_63, List.forall_mem_cons.mpr ⟨sX4_64, List.forall_mem_cons.mpr ⟨sX4_65, List.forall_mem_cons.mpr ⟨sX4_66, List.forall_mem_cons.mpr ⟨sX4_67, List.forall_mem_cons.mpr ⟨sX4_68, List.forall_mem_cons.mpr ⟨sX4_69, List.forall_mem_cons.mpr ⟨sX4_70, List.forall_mem_cons.mpr ⟨sX4_71, List.forall_mem_cons.mpr ⟨sX4_72, fun _ h => absurd h List.not_mem_nil⟩⟩⟩⟩⟩⟩⟩⟩⟩⟩⟩⟩⟩⟩⟩⟩⟩⟩⟩⟩⟩⟩⟩⟩⟩⟩⟩⟩⟩⟩⟩⟩⟩⟩⟩⟩⟩⟩⟩⟩⟩⟩⟩⟩⟩⟩⟩⟩⟩⟩⟩⟩⟩⟩⟩⟩⟩⟩⟩⟩⟩⟩⟩⟩⟩⟩⟩⟩⟩⟩⟩⟩⟩
theorem sX5_0 : siOK RX5 (.invokespecial 3, 1000, 1, 0, 0) := Or.inl ⟨by decide, rfl, w_154, w_147, w_148⟩
theorem sX5_1 : siOK RX5 (.new 9, 3, 3, 0, 0) := Or.inr ⟨by decide, by decide, by decide, w_155, w_156, w_123⟩
theorem sX5_2 : siOK RX5 (.invokespecial 11, 51, 1, 0, 54) := siI (ci := 2) (congrArg Prod.fst g_X2_init) (congrArg (fun z => z.2.2.2.1) g_X2_init) (by decide) cm_X2_init (by decide +kernel) rfl rfl (by decide +kernel) (by decide) (by decide +kernel) (by decide) (Or.inr ⟨"FadingSignals", w_157⟩) w_158
theorem sX5_3 : siOK RX5 (.putfield 12, 6, 0, 1, 0) := ⟨by decide, ⟨by decide, by decide, Or.inl w_177⟩, by decide +kernel, Or.inr ⟨by decide +kernel, rfl⟩⟩
theorem sX5_4 : siOK RX5 (.putfield 18, 6, 1, 1, 0) := ⟨by decide, ⟨by decide, by decide, Or.inl w_180⟩, by decide +kernel, Or.inr ⟨by decide +kernel, rfl⟩⟩
theorem sX5_5 : siOK RX5 (.newarray .int, 20, 0, 0, 0) := ⟨w_176, by decide⟩
theorem sX5_6 : siOK RX5 (.putfield 21, 6, 2, 1, 0) := ⟨by decide, ⟨by decide, by decide, Or.inl w_184⟩, by decide +kernel, Or.inr ⟨by decide +kernel, rfl⟩⟩
theorem sX5_7 : siOK RX5 (.putfield 25, 6, 3, 1, 0) := ⟨by decide, ⟨by decide, by decide, Or.inl w_185⟩, by decide +kernel, Or.inr ⟨by decide +kernel, rfl⟩⟩
theorem sX5_8 : siOK RX5 (.putfield 28, 6, 4, 1, 0) := ⟨by decide, ⟨by decide, by decide, Or.inl w_186⟩, by decide +kernel, Or.inr ⟨by decide +kernel, rfl⟩⟩
theorem sX5_9 : siOK RX5 (.getfield 12, 6, 0, 1, 0) := ⟨by decide, ⟨by decide, by decide, Or.inl w_177⟩, by decide +kernel⟩
theorem sX5_10 : siOK RX5 (.putfield 31, 3, 2, 0, 0) := ⟨by decide, ⟨by decide, by decide, Or.inr ⟨"FadingSignals", w_163⟩⟩, by decide +kernel, Or.inl (by decide +kernel)⟩
theorem sX5_11 : siOK RX5 (.getfield 18, 6, 1, 1, 0) := ⟨by decide, ⟨by decide, by decide, Or.inl w_180⟩, by decide +kernel⟩
theorem sX5_12 : siOK RX5 (.getfield 21, 6, 2, 1, 0) := ⟨by decide, ⟨by decide, by decide, Or.inl w_184⟩, by decide +kernel⟩
theorem sX5_13 : siOK RX5 (.getfield 25, 6, 3, 1, 0) := ⟨by decide, ⟨by decide, by decide, Or.inl w_185⟩, by decide +kernel⟩
theorem sX5_14 : siOK RX5 (.getfield 28, 6, 4, 1, 0) := ⟨by decide, ⟨by decide, by decide, Or.inl w_186⟩, by decide +kernel⟩
theorem sX5_15 : siOK RX5 (.getfield 31, 3, 2, 0, 0) := ⟨by decide, ⟨by decide, by decide, Or.inr ⟨"FadingSignals", w_163⟩⟩, by decide +kernel⟩
theorem sX5_16 : siOK RX5 (.invokevirtual 35, 87, 3, 1, 96) := siV (ci := 5) (congrArg Prod.fst g_X5_ticksOf) (congrArg (fun z => z.2.2.2.1) g_X5_ticksOf) (by decide) cm_X5_ticksOf (by decide +kernel) rfl (by decide) rfl (by decide) (by decide +kernel) (by decide) w_795 w_643 w_644
theorem sX5_17 : siOK RX5 (.invokevirtual 39, 92, 2, 1, 96) := siV (ci := 5) (congrArg Prod.fst g_X5_handlersOf) (congrArg (fun z => z.2.2.2.1) g_X5_handlersOf) (by decide) cm_X5_handlersOf (by decide +kernel) rfl (by decide) rfl (by decide) (by decide +kernel) (by decide) w_791 w_792 w_793
theorem sX5_18 : siOK RX5 (.invokevirtual 43, 88, 3, 1, 96) := siV (ci := 5) (congrArg Prod.fst g_X5_actsOf) (congrArg (fun z => z.2.2.2.1) g_X5_actsOf) (by decide) cm_X5_actsOf (by decide +kernel) rfl (by decide) rfl (by decide) (by decide +kernel) (by decide) w_1016 w_861 w_862
theorem sX5_19 : siOK RX5 (.invokevirtual 46, 89, 5, 1, 96) := siV (ci := 5) (congrArg Prod.fst g_X5_actPart) (congrArg (fun z => z.2.2.2.1) g_X5_actPart) (by decide) cm_X5_actPart (by decide +kernel) rfl (by decide) rfl (by decide) (by decide +kernel) (by decide) w_1017 w_865 w_866
def ST_X5 : List (Instr × Nat × Nat × Nat × Nat) := [(.invokespecial 3, 1000, 1, 0, 0), (.new 9, 3, 3, 0, 0), (.invokespecial 11, 51, 1, 0, 54), (.putfield 12, 6, 0, 1, 0), (.putfield 18, 6, 1, 1, 0), (.newarray .int, 20, 0, 0, 0), (.putfield 21, 6, 2, 1, 0), (.putfield 25, 6, 3, 1, 0), (.putfield 28, 6, 4, 1, 0), (.getfield 12, 6, 0, 1, 0), (.putfield 31, 3, 2, 0, 0), (.getfield 18, 6, 1, 1, 0), (.getfield 21, 6, 2, 1, 0), (.getfield 25, 6, 3, 1, 0), (.getfield 28, 6, 4, 1, 0), (.getfield 31, 3, 2, 0, 0), (.invokevirtual 35, 87, 3, 1, 96), (.invokevirtual 39, 92, 2, 1, 96), (.invokevirtual 43, 88, 3, 1, 96), (.invokevirtual 46, 89, 5, 1, 96)]
set_option maxRecDepth 100000 in
theorem SI_X5 : ∀ z ∈ ST_X5, siOK RX5 z := List.forall_mem_cons.mpr ⟨sX5_0, List.forall_mem_cons.mpr ⟨sX5_1, List.forall_mem_cons.mpr ⟨sX5_2, List.forall_mem_cons.mpr ⟨sX5_3, List.forall_mem_cons.mpr ⟨sX5_4, List.forall_mem_cons.mpr ⟨sX5_5, List.forall_mem_cons.mpr ⟨sX5_6, List.forall_mem_cons.mpr ⟨sX5_7, List.forall_mem_cons.mpr ⟨sX5_8, List.forall_mem_cons.mpr ⟨sX5_9, List.forall_mem_cons.mpr ⟨sX5_10, List.forall_mem_cons.mpr ⟨sX5_11, List.forall_mem_cons.mpr ⟨sX5_12, List.forall_mem_cons.mpr ⟨sX5_13, List.forall_mem_cons.mpr ⟨sX5_14, List.forall_mem_cons.mpr ⟨sX5_15, List.forall_mem_cons.mpr ⟨sX5_16, List.forall_mem_cons.mpr ⟨sX5_17, List.forall_mem_cons.mpr ⟨sX5_18, List.forall_mem_cons.mpr ⟨sX5_19, fun _ h => absurd h List.not_mem_nil⟩⟩⟩⟩⟩⟩⟩⟩⟩⟩⟩⟩⟩⟩⟩⟩⟩⟩⟩⟩
theorem sX6_0 : siOK RX6 (.invokespecial 1, 1000, 1, 0, 0) := Or.inl ⟨by decide, rfl, w_146, w_147, w_148⟩
theorem sX6_1 : siOK RX6 (.newarray .byte, 21, 0, 0, 0) := ⟨w_175, by decide⟩
theorem sX6_2 : siOK RX6 (.putfield 9, 7, 0, 1, 0) := ⟨by decide, ⟨by decide, by decide, Or.inl w_290⟩, by decide +kernel, Or.inr ⟨by decide +kernel, rfl⟩⟩
theorem sX6_3 : siOK RX6 (.putfield 13, 7, 3, 0, 0) := ⟨by decide, ⟨by decide, by decide, Or.inl w_293⟩, by decide +kernel, Or.inl (by decide +kernel)⟩
theorem sX6_4 : siOK RX6 (.new 17, 6, 5, 0, 0) := Or.inr ⟨by decide, by decide, by decide, w_149, w_150, w_122⟩
theorem sX6_5 : siOK RX6 (.invokespecial 19, 85, 1, 0, 104) := siI (ci := 5) (congrArg Prod.fst g_X5_init) (congrArg (fun z => z.2.2.2.1) g_X5_init) (by decide) cm_X5_init (by decide +kernel) rfl rfl (by decide +kernel) (by decide) (by decide +kernel) (by decide) (Or.inr ⟨"FadingSignals", w_151⟩) w_152
theorem sX6_6 : siOK RX6 (.putfield 20, 7, 5, 1, 0) := ⟨by decide, ⟨by decide, by decide, Or.inl w_295⟩, by decide +kernel, Or.inl (by decide +kernel)⟩
theorem sX6_7 : siOK RX6 (.new 24, 1, 15, 0, 0) := Or.inr ⟨by decide, by decide, by decide, w_198, w_199, w_124⟩
theorem sX6_8 : siOK RX6 (.invokespecial 26, 0, 1, 0, 20) := siI (ci := 0) (congrArg Prod.fst g_X0_init) (congrArg (fun z => z.2.2.2.1) g_X0_init) (by decide) cm_X0_init (by decide +kernel) rfl rfl (by decide +kernel) (by decide) (by decide +kernel) (by decide) (Or.inr ⟨"FadingSignals", w_200⟩) w_201
theorem sX6_9 : siOK RX6 (.putfield 27, 7, 6, 1, 0) := ⟨by decide, ⟨by decide, by decide, Or.inl w_296⟩, by decide +kernel, Or.inl (by decide +kernel)⟩
theorem sX6_10 : siOK RX6 (.putfield 31, 7, 7, 1, 0) := ⟨by decide, ⟨by decide, by decide, Or.inl w_297⟩, by decide +kernel, Or.inl (by decide +kernel)⟩
theorem sX6_11 : siOK RX6 (.putfield 34, 7, 8, 1, 0) := ⟨by decide, ⟨by decide, by decide, Or.inl w_298⟩, by decide +kernel, Or.inl (by decide +kernel)⟩
theorem sX6_12 : siOK RX6 (.anewarray 24, 0, 0, 0, 0) := w_198
theorem sX6_13 : siOK RX6 (.putfield 37, 7, 9, 1, 0) := ⟨by decide, ⟨by decide, by decide, Or.inl w_299⟩, by decide +kernel, Or.inr ⟨by decide +kernel, rfl⟩⟩
theorem sX6_14 : siOK RX6 (.putfield 41, 7, 12, 1, 0) := ⟨by decide, ⟨by decide, by decide, Or.inl w_302⟩, by decide +kernel, Or.inr ⟨by decide +kernel, rfl⟩⟩
theorem sX6_15 : siOK RX6 (.newarray .boolean, 22, 0, 0, 0) := ⟨w_289, by decide⟩
theorem sX6_16 : siOK RX6 (.putfield 44, 7, 13, 1, 0) := ⟨by decide, ⟨by decide, by decide, Or.inl w_303⟩, by decide +kernel, Or.inr ⟨by decide +kernel, rfl⟩⟩
theorem sX6_17 : siOK RX6 (.new 48, 4, 2, 0, 0) := Or.inr ⟨by decide, by decide, by decide, w_275, w_276, w_126⟩
theorem sX6_18 : siOK RX6 (.invokespecial 50, 57, 1, 0, 71) := siI (ci := 3) (congrArg Prod.fst g_X3_init) (congrArg (fun z => z.2.2.2.1) g_X3_init) (by decide) cm_X3_init (by decide +kernel) rfl rfl (by decide +kernel) (by decide) (by decide +kernel) (by decide) (Or.inr ⟨"FadingSignals", w_277⟩) w_278
theorem sX6_19 : siOK RX6 (.putfield 51, 7, 14, 1, 0) := ⟨by decide, ⟨by decide, by decide, Or.inl w_304⟩, by decide +kernel, Or.inr ⟨by decide +kernel, rfl⟩⟩
theorem sX6_20 : siOK RX6 (.getfield 55, 7, 1, 0, 0) := ⟨by decide, ⟨by decide, by decide, Or.inl w_291⟩, by decide +kernel⟩
theorem sX6_21 : siOK RX6 (.invokevirtual 58, 97, 2, 0, 112) := siV (ci := 6) (congrArg Prod.fst g_X6_appendWord) (congrArg (fun z => z.2.2.2.1) g_X6_appendWord) (by decide) cm_X6_appendWord (by decide +kernel) rfl (by decide) rfl (by decide) (by decide +kernel) (by decide) w_340 w_342 w_0
theorem sX6_22 : siOK RX6 (.getfield 9, 7, 0, 1, 0) := ⟨by decide, ⟨by decide, by decide, Or.inl w_290⟩, by decide +kernel⟩
theorem sX6_23 : siOK RX6 (.putfield 55, 7, 1, 0, 0) := ⟨by decide, ⟨by decide, by decide, Or.inl w_291⟩, by decide +kernel, Or.inl (by decide +kernel)⟩
theorem sX6_24 : siOK RX6 (.invokestatic 62, 159, 1, 0, 1) := siS (congrArg Prod.fst g_X6_needIndex) (congrArg (fun z => z.2.2.2.1) g_X6_needIndex) (by decide) cm_X6_needIndex (by decide +kernel) (by decide) (by decide +kernel) w_369 w_370
theorem sX6_25 : siOK RX6 (.new 66, 5, 11, 0, 0) := Or.inr ⟨by decide, by decide, by decide, w_439, w_440, w_132⟩
theorem sX6_26 : siOK RX6 (.getfield 31, 7, 7, 1, 0) := ⟨by decide, ⟨by decide, by decide, Or.inl w_297⟩, by decide +kernel⟩
theorem sX6_27 : siOK RX6 (.getfield 34, 7, 8, 1, 0) := ⟨by decide, ⟨by decide, by decide, Or.inl w_298⟩, by decide +kernel⟩
theorem sX6_28 : siOK RX6 (.invokespecial 68, 63, 5, 0, 80) := siI (ci := 4) (congrArg Prod.fst g_X4_init) (congrArg (fun z => z.2.2.2.1) g_X4_init) (by decide) cm_X4_init (by decide +kernel) rfl rfl (by decide +kernel) (by decide) (by decide +kernel) (by decide) (Or.inl w_441) w_442
theorem sX6_29 : siOK RX6 (.invokevirtual 71, 64, 1, 0, 80) := siV (ci := 4) (congrArg Prod.fst g_X4_readText) (congrArg (fun z => z.2.2.2.1) g_X4_readText) (by decide) cm_X4_readText (by decide +kernel) rfl (by decide) rfl (by decide) (by decide +kernel) (by decide) w_481 w_482 w_483
theorem sX6_30 : siOK RX6 (.getfield 74, 5, 9, 0, 0) := ⟨by decide, ⟨by decide, by decide, Or.inr ⟨"FadingSignals", w_455⟩⟩, by decide +kernel⟩
theorem sX6_31 : siOK RX6 (.putfield 77, 7, 2, 0, 0) := ⟨by decide, ⟨by decide, by decide, Or.inl w_292⟩, by decide +kernel, Or.inl (by decide +kernel)⟩
theorem sX6_32 : siOK RX6 (.getfield 80, 5, 10, 0, 0) := ⟨by decide, ⟨by decide, by decide, Or.inr ⟨"FadingSignals", w_457⟩⟩, by decide +kernel⟩
theorem sX6_33 : siOK RX6 (.getfield 77, 7, 2, 0, 0) := ⟨by decide, ⟨by decide, by decide, Or.inl w_292⟩, by decide +kernel⟩
theorem sX6_34 : siOK RX6 (.invokestatic 83, 160, 1, 0, 1) := siS (congrArg Prod.fst g_X6_needArgument) (congrArg (fun z => z.2.2.2.1) g_X6_needArgument) (by decide) cm_X6_needArgument (by decide +kernel) (by decide) (by decide +kernel) w_728 w_729
theorem sX6_35 : siOK RX6 (.invokevirtual 86, 99, 1, 0, 112) := siV (ci := 6) (congrArg Prod.fst g_X6_takeSpare) (congrArg (fun z => z.2.2.2.1) g_X6_takeSpare) (by decide) cm_X6_takeSpare (by decide +kernel) rfl (by decide) rfl (by decide) (by decide +kernel) (by decide) w_747 w_749 w_23
theorem sX6_36 : siOK RX6 (.getfield 20, 7, 5, 1, 0) := ⟨by decide, ⟨by decide, by decide, Or.inl w_295⟩, by decide +kernel⟩
theorem sX6_37 : siOK RX6 (.getfield 89, 6, 1, 1, 0) := ⟨by decide, ⟨by decide, by decide, Or.inr ⟨"FadingSignals", w_182⟩⟩, by decide +kernel⟩
theorem sX6_38 : siOK RX6 (.getfield 93, 3, 2, 0, 0) := ⟨by decide, ⟨by decide, by decide, Or.inr ⟨"FadingSignals", w_166⟩⟩, by decide +kernel⟩
theorem sX6_39 : siOK RX6 (.getfield 27, 7, 6, 1, 0) := ⟨by decide, ⟨by decide, by decide, Or.inl w_296⟩, by decide +kernel⟩
theorem sX6_40 : siOK RX6 (.putfield 98, 7, 4, 2, 0) := ⟨by decide, ⟨by decide, by decide, Or.inl w_294⟩, by decide +kernel, Or.inl (by decide +kernel)⟩
theorem sX6_41 : siOK RX6 (.putfield 102, 7, 11, 0, 0) := ⟨by decide, ⟨by decide, by decide, Or.inl w_301⟩, by decide +kernel, Or.inl (by decide +kernel)⟩
theorem sX6_42 : siOK RX6 (.getfield 44, 7, 13, 1, 0) := ⟨by decide, ⟨by decide, by decide, Or.inl w_303⟩, by decide +kernel⟩
theorem sX6_43 : siOK RX6 (.getfield 13, 7, 3, 0, 0) := ⟨by decide, ⟨by decide, by decide, Or.inl w_293⟩, by decide +kernel⟩
theorem sX6_44 : siOK RX6 (.invokevirtual 105, 154, 1, 0, 113) := siV (ci := 6) (congrArg Prod.fst g_X6_needHall) (congrArg (fun z => z.2.2.2.1) g_X6_needHall) (by decide) cm_X6_needHall (by decide +kernel) rfl (by decide) rfl (by decide) (by decide +kernel) (by decide) w_759 w_761 w_24
theorem sX6_45 : siOK RX6 (.getfield 108, 6, 0, 1, 0) := ⟨by decide, ⟨by decide, by decide, Or.inr ⟨"FadingSignals", w_179⟩⟩, by decide +kernel⟩
theorem sX6_46 : siOK RX6 (.invokevirtual 111, 52, 4, 1, 48) := siV (ci := 2) (congrArg Prod.fst g_X2_placeOf) (congrArg (fun z => z.2.2.2.1) g_X2_placeOf) (by decide) cm_X2_placeOf (by decide +kernel) rfl (by decide) rfl (by decide) (by decide +kernel) (by decide) w_779 w_605 w_606
theorem sX6_47 : siOK RX6 (.invokevirtual 115, 93, 1, 1, 96) := siV (ci := 5) (congrArg Prod.fst g_X5_handlersInAll) (congrArg (fun z => z.2.2.2.1) g_X5_handlersInAll) (by decide) cm_X5_handlersInAll (by decide +kernel) rfl (by decide) rfl (by decide) (by decide +kernel) (by decide) w_787 w_788 w_789
theorem sX6_48 : siOK RX6 (.getfield 119, 1, 10, 0, 0) := ⟨by decide, ⟨by decide, by decide, Or.inr ⟨"FadingSignals", w_234⟩⟩, by decide +kernel⟩
theorem sX6_49 : siOK RX6 (.getfield 122, 1, 11, 0, 0) := ⟨by decide, ⟨by decide, by decide, Or.inr ⟨"FadingSignals", w_236⟩⟩, by decide +kernel⟩
theorem sX6_50 : siOK RX6 (.getfield 125, 1, 5, 1, 0) := ⟨by decide, ⟨by decide, by decide, Or.inr ⟨"FadingSignals", w_226⟩⟩, by decide +kernel⟩
theorem sX6_51 : siOK RX6 (.invokevirtual 129, 44, 1, 1, 32) := siV (ci := 1) (congrArg Prod.fst g_X1_total) (congrArg (fun z => z.2.2.2.1) g_X1_total) (by decide) cm_X1_total (by decide +kernel) rfl (by decide) rfl (by decide) (by decide +kernel) (by decide) w_796 w_797 w_798
theorem sX6_52 : siOK RX6 (.getfield 134, 1, 6, 1, 0) := ⟨by decide, ⟨by decide, by decide, Or.inr ⟨"FadingSignals", w_228⟩⟩, by decide +kernel⟩
theorem sX6_53 : siOK RX6 (.invokevirtual 137, 17, 1, 1, 16) := siV (ci := 0) (congrArg Prod.fst g_X0_told) (congrArg (fun z => z.2.2.2.1) g_X0_told) (by decide) cm_X0_told (by decide +kernel) rfl (by decide) rfl (by decide) (by decide +kernel) (by decide) w_800 w_801 w_802
theorem sX6_54 : siOK RX6 (.invokevirtual 140, 16, 2, 1, 16) := siV (ci := 0) (congrArg Prod.fst g_X0_endedBy) (congrArg (fun z => z.2.2.2.1) g_X0_endedBy) (by decide) cm_X0_endedBy (by decide +kernel) rfl (by decide) rfl (by decide) (by decide +kernel) (by decide) w_804 w_805 w_806
theorem sX6_55 : siOK RX6 (.invokevirtual 144, 5, 2, 1, 16) := siV (ci := 0) (congrArg Prod.fst g_X0_settingOf) (congrArg (fun z => z.2.2.2.1) g_X0_settingOf) (by decide) cm_X0_settingOf (by decide +kernel) rfl (by decide) rfl (by decide) (by decide +kernel) (by decide) w_815 w_816 w_817
theorem sX6_56 : siOK RX6 (.invokevirtual 147, 155, 2, 0, 113) := siV (ci := 6) (congrArg Prod.fst g_X6_needKind) (congrArg (fun z => z.2.2.2.1) g_X6_needKind) (by decide) cm_X6_needKind (by decide +kernel) rfl (by decide) rfl (by decide) (by decide +kernel) (by decide) w_826 w_828 w_25
theorem sX6_57 : siOK RX6 (.invokevirtual 150, 7, 3, 1, 16) := siV (ci := 0) (congrArg Prod.fst g_X0_kindNumber) (congrArg (fun z => z.2.2.2.1) g_X0_kindNumber) (by decide) cm_X0_kindNumber (by decide +kernel) rfl (by decide) rfl (by decide) (by decide +kernel) (by decide) w_830 w_831 w_832
theorem sX6_58 : siOK RX6 (.invokevirtual 154, 156, 2, 0, 113) := siV (ci := 6) (congrArg Prod.fst g_X6_needProgram) (congrArg (fun z => z.2.2.2.1) g_X6_needProgram) (by decide) cm_X6_needProgram (by decide +kernel) rfl (by decide) rfl (by decide) (by decide +kernel) (by decide) w_841 w_843 w_26
theorem sX6_59 : siOK RX6 (.invokevirtual 157, 43, 2, 1, 32) := siV (ci := 1) (congrArg Prod.fst g_X1_sizeOf) (congrArg (fun z => z.2.2.2.1) g_X1_sizeOf) (by decide) cm_X1_sizeOf (by decide +kernel) rfl (by decide) rfl (by decide) (by decide +kernel) (by decide) w_845 w_705 w_706
theorem sX6_60 : siOK RX6 (.invokevirtual 160, 11, 2, 1, 16) := siV (ci := 0) (congrArg Prod.fst g_X0_maskOf) (congrArg (fun z => z.2.2.2.1) g_X0_maskOf) (by decide) cm_X0_maskOf (by decide +kernel) rfl (by decide) rfl (by decide) (by decide +kernel) (by decide) w_846 w_676 w_677
theorem sX6_61 : siOK RX6 (.invokevirtual 163, 92, 2, 1, 96) := siV (ci := 5) (congrArg Prod.fst g_X5_handlersOf) (congrArg (fun z => z.2.2.2.1) g_X5_handlersOf) (by decide) cm_X5_handlersOf (by decide +kernel) rfl (by decide) rfl (by decide) (by decide +kernel) (by decide) w_847 w_792 w_793
theorem sX6_62 : siOK RX6 (.invokevirtual 166, 14, 3, 1, 16) := siV (ci := 0) (congrArg Prod.fst g_X0_tally) (congrArg (fun z => z.2.2.2.1) g_X0_tally) (by decide) cm_X0_tally (by decide +kernel) rfl (by decide) rfl (by decide) (by decide +kernel) (by decide) w_848 w_849 w_850
theorem sX6_63 : siOK RX6 (.invokevirtual 169, 87, 3, 1, 96) := siV (ci := 5) (congrArg Prod.fst g_X5_ticksOf) (congrArg (fun z => z.2.2.2.1) g_X5_ticksOf) (by decide) cm_X5_ticksOf (by decide +kernel) rfl (by decide) rfl (by decide) (by decide +kernel) (by decide) w_859 w_643 w_644
theorem sX6_64 : siOK RX6 (.invokevirtual 172, 88, 3, 1, 96) := siV (ci := 5) (congrArg Prod.fst g_X5_actsOf) (congrArg (fun z => z.2.2.2.1) g_X5_actsOf) (by decide) cm_X5_actsOf (by decide +kernel) rfl (by decide) rfl (by decide) (by decide +kernel) (by decide) w_860 w_861 w_862
theorem sX6_65 : siOK RX6 (.invokevirtual 175, 89, 5, 1, 96) := siV (ci := 5) (congrArg Prod.fst g_X5_actPart) (congrArg (fun z => z.2.2.2.1) g_X5_actPart) (by decide) cm_X5_actPart (by decide +kernel) rfl (by decide) rfl (by decide) (by decide +kernel) (by decide) w_864 w_865 w_866
theorem sX6_66 : siOK RX6 (.invokevirtual 179, 10, 3, 1, 16) := siV (ci := 0) (congrArg Prod.fst g_X0_urgencyOf) (congrArg (fun z => z.2.2.2.1) g_X0_urgencyOf) (by decide) cm_X0_urgencyOf (by decide +kernel) rfl (by decide) rfl (by decide) (by decide +kernel) (by decide) w_875 w_717 w_718
theorem sX6_67 : siOK RX6 (.invokevirtual 182, 9, 3, 1, 16) := siV (ci := 0) (congrArg Prod.fst g_X0_tiredOf) (congrArg (fun z => z.2.2.2.1) g_X0_tiredOf) (by decide) cm_X0_tiredOf (by decide +kernel) rfl (by decide) rfl (by decide) (by decide +kernel) (by decide) w_883 w_884 w_885
theorem sX6_68 : siOK RX6 (.invokevirtual 185, 23, 3, 1, 16) := siV (ci := 0) (congrArg Prod.fst g_X0_placeInOrder) (congrArg (fun z => z.2.2.2.1) g_X0_placeInOrder) (by decide) cm_X0_placeInOrder (by decide +kernel) rfl (by decide) rfl (by decide) (by decide +kernel) (by decide) w_894 w_895 w_896
theorem sX6_69 : siOK RX6 (.invokevirtual 188, 45, 4, 1, 32) := siV (ci := 1) (congrArg Prod.fst g_X1_part) (congrArg (fun z => z.2.2.2.1) g_X1_part) (by decide) cm_X1_part (by decide +kernel) rfl (by decide) rfl (by decide) (by decide +kernel) (by decide) w_902 w_713 w_714
theorem sX6_70 : siOK RX6 (.getstatic 192, 6, 0, 0, 0) := ⟨4, "RUNNING_PARTS", by decide +kernel, by decide, rfl, Or.inl w_910⟩
theorem sX6_71 : siOK RX6 (.invokevirtual 196, 18, 3, 1, 16) := siV (ci := 0) (congrArg Prod.fst g_X0_endPart) (congrArg (fun z => z.2.2.2.1) g_X0_endPart) (by decide) cm_X0_endPart (by decide +kernel) rfl (by decide) rfl (by decide) (by decide +kernel) (by decide) w_919 w_920 w_921
theorem sX6_72 : siOK RX6 (.invokevirtual 199, 157, 2, 0, 113) := siV (ci := 6) (congrArg Prod.fst g_X6_needSignal) (congrArg (fun z => z.2.2.2.1) g_X6_needSignal) (by decide) cm_X6_needSignal (by decide +kernel) rfl (by decide) rfl (by decide) (by decide +kernel) (by decide) w_930 w_932 w_28
theorem sX6_73 : siOK RX6 (.invokevirtual 202, 50, 2, 1, 32) := siV (ci := 1) (congrArg Prod.fst g_X1_programOf) (congrArg (fun z => z.2.2.2.1) g_X1_programOf) (by decide) cm_X1_programOf (by decide +kernel) rfl (by decide) rfl (by decide) (by decide +kernel) (by decide) w_934 w_935 w_936
theorem sX6_74 : siOK RX6 (.invokevirtual 205, 19, 2, 1, 16) := siV (ci := 0) (congrArg Prod.fst g_X0_toldEndOf) (congrArg (fun z => z.2.2.2.1) g_X0_toldEndOf) (by decide) cm_X0_toldEndOf (by decide +kernel) rfl (by decide) rfl (by decide) (by decide +kernel) (by decide) w_944 w_945 w_946
theorem sX6_75 : siOK RX6 (.invokevirtual 208, 21, 2, 1, 16) := siV (ci := 0) (congrArg Prod.fst g_X0_firstUnmasked) (congrArg (fun z => z.2.2.2.1) g_X0_firstUnmasked) (by decide) cm_X0_firstUnmasked (by decide +kernel) rfl (by decide) rfl (by decide) (by decide +kernel) (by decide) w_957 w_958 w_959
theorem sX6_76 : siOK RX6 (.invokevirtual 211, 22, 2, 1, 16) := siV (ci := 0) (congrArg Prod.fst g_X0_lastInOrder) (congrArg (fun z => z.2.2.2.1) g_X0_lastInOrder) (by decide) cm_X0_lastInOrder (by decide +kernel) rfl (by decide) rfl (by decide) (by decide +kernel) (by decide) w_990 w_709 w_710
theorem sX6_77 : siOK RX6 (.getfield 214, 1, 12, 0, 0) := ⟨by decide, ⟨by decide, by decide, Or.inr ⟨"FadingSignals", w_238⟩⟩, by decide +kernel⟩
theorem sX6_78 : siOK RX6 (.getfield 217, 1, 9, 0, 0) := ⟨by decide, ⟨by decide, by decide, Or.inr ⟨"FadingSignals", w_232⟩⟩, by decide +kernel⟩
theorem sX6_79 : siOK RX6 (.invokevirtual 220, 94, 3, 1, 96) := siV (ci := 5) (congrArg Prod.fst g_X5_raises) (congrArg (fun z => z.2.2.2.1) g_X5_raises) (by decide) cm_X5_raises (by decide +kernel) rfl (by decide) rfl (by decide) (by decide +kernel) (by decide) w_1012 w_1013 w_1014
theorem sX6_80 : siOK RX6 (.invokevirtual 224, 125, 3, 1, 112) := siV (ci := 6) (congrArg Prod.fst g_X6_ticksUntilIdle) (congrArg (fun z => z.2.2.2.1) g_X6_ticksUntilIdle) (by decide) cm_X6_ticksUntilIdle (by decide +kernel) rfl (by decide) rfl (by decide) (by decide +kernel) (by decide) w_1025 w_1027 w_29
theorem sX6_81 : siOK RX6 (.invokevirtual 227, 3, 2, 0, 16) := siV (ci := 0) (congrArg Prod.fst g_X0_copyFrom) (congrArg (fun z => z.2.2.2.1) g_X0_copyFrom) (by decide) cm_X0_copyFrom (by decide +kernel) rfl (by decide) rfl (by decide) (by decide +kernel) (by decide) w_1029 w_1030 w_1031
theorem sX6_82 : siOK RX6 (.invokevirtual 231, 20, 3, 1, 16) := siV (ci := 0) (congrArg Prod.fst g_X0_areIdle) (congrArg (fun z => z.2.2.2.1) g_X0_areIdle) (by decide) cm_X0_areIdle (by decide +kernel) rfl (by decide) rfl (by decide) (by decide +kernel) (by decide) w_1048 w_1049 w_1050
theorem sX6_83 : siOK RX6 (.invokevirtual 234, 31, 2, 0, 16) := siV (ci := 0) (congrArg Prod.fst g_X0_passTick) (congrArg (fun z => z.2.2.2.1) g_X0_passTick) (by decide) cm_X0_passTick (by decide +kernel) rfl (by decide) rfl (by decide) (by decide +kernel) (by decide) w_1052 w_1053 w_1054
theorem sX6_84 : siOK RX6 (.invokevirtual 238, 128, 2, 1, 112) := siV (ci := 6) (congrArg Prod.fst g_X6_ticksUntilEnd) (congrArg (fun z => z.2.2.2.1) g_X6_ticksUntilEnd) (by decide) cm_X6_ticksUntilEnd (by decide +kernel) rfl (by decide) rfl (by decide) (by decide +kernel) (by decide) w_1113 w_1115 w_39
theorem sX6_85 : siOK RX6 (.getfield 241, 1, 14, 0, 0) := ⟨by decide, ⟨by decide, by decide, Or.inr ⟨"FadingSignals", w_242⟩⟩, by decide +kernel⟩
theorem sX6_86 : siOK RX6 (.putfield 244, 1, 13, 0, 0) := ⟨by decide, ⟨by decide, by decide, Or.inr ⟨"FadingSignals", w_240⟩⟩, by decide +kernel, Or.inl (by decide +kernel)⟩
theorem sX6_87 : siOK RX6 (.invokevirtual 247, 132, 2, 0, 112) := siV (ci := 6) (congrArg Prod.fst g_X6_passInSpare) (congrArg (fun z => z.2.2.2.1) g_X6_passInSpare) (by decide) cm_X6_passInSpare (by decide +kernel) rfl (by decide) rfl (by decide) (by decide +kernel) (by decide) w_1131 w_1133 w_40
theorem sX6_88 : siOK RX6 (.invokevirtual 250, 12, 3, 1, 16) := siV (ci := 0) (congrArg Prod.fst g_X0_isMasked) (congrArg (fun z => z.2.2.2.1) g_X0_isMasked) (by decide) cm_X0_isMasked (by decide +kernel) rfl (by decide) rfl (by decide) (by decide +kernel) (by decide) w_1156 w_672 w_673
theorem sX6_89 : siOK RX6 (.invokevirtual 253, 134, 3, 1, 112) := siV (ci := 6) (congrArg Prod.fst g_X6_othersIfMasked) (congrArg (fun z => z.2.2.2.1) g_X6_othersIfMasked) (by decide) cm_X6_othersIfMasked (by decide +kernel) rfl (by decide) rfl (by decide) (by decide +kernel) (by decide) w_1157 w_1159 w_41
theorem sX6_90 : siOK RX6 (.invokevirtual 256, 13, 4, 0, 16) := siV (ci := 0) (congrArg Prod.fst g_X0_putMask) (congrArg (fun z => z.2.2.2.1) g_X0_putMask) (by decide) cm_X0_putMask (by decide +kernel) rfl (by decide) rfl (by decide) (by decide +kernel) (by decide) w_1161 w_680 w_681
theorem sX6_91 : siOK RX6 (.getfield 51, 7, 14, 1, 0) := ⟨by decide, ⟨by decide, by decide, Or.inl w_304⟩, by decide +kernel⟩
theorem sX6_92 : siOK RX6 (.invokevirtual 260, 58, 1, 0, 64) := siV (ci := 3) (congrArg Prod.fst g_X3_restart) (congrArg (fun z => z.2.2.2.1) g_X3_restart) (by decide) cm_X3_restart (by decide +kernel) rfl (by decide) rfl (by decide) (by decide +kernel) (by decide) w_1169 w_1170 w_1171
theorem sX6_93 : siOK RX6 (.invokevirtual 263, 60, 2, 0, 64) := siV (ci := 3) (congrArg Prod.fst g_X3_putByte) (congrArg (fun z => z.2.2.2.1) g_X3_putByte) (by decide) cm_X3_putByte (by decide +kernel) rfl (by decide) rfl (by decide) (by decide +kernel) (by decide) w_1173 w_1174 w_1175
theorem sX6_94 : siOK RX6 (.invokevirtual 266, 61, 2, 0, 64) := siV (ci := 3) (congrArg Prod.fst g_X3_putNumber) (congrArg (fun z => z.2.2.2.1) g_X3_putNumber) (by decide) cm_X3_putNumber (by decide +kernel) rfl (by decide) rfl (by decide) (by decide +kernel) (by decide) w_1177 w_1178 w_1179
theorem sX6_95 : siOK RX6 (.invokevirtual 269, 62, 3, 0, 64) := siV (ci := 3) (congrArg Prod.fst g_X3_putName) (congrArg (fun z => z.2.2.2.1) g_X3_putName) (by decide) cm_X3_putName (by decide +kernel) rfl (by decide) rfl (by decide) (by decide +kernel) (by decide) w_1181 w_1182 w_1183
theorem sX6_96 : siOK RX6 (.getfield 273, 4, 1, 0, 0) := ⟨by decide, ⟨by decide, by decide, Or.inr ⟨"FadingSignals", w_283⟩⟩, by decide +kernel⟩
theorem sX6_97 : siOK RX6 (.invokestatic 276, 138, 1, 1, 0) := siS (congrArg Prod.fst g_X6_endLetter) (congrArg (fun z => z.2.2.2.1) g_X6_endLetter) (by decide) cm_X6_endLetter (by decide +kernel) (by decide) (by decide +kernel) w_1208 w_1209
theorem sX6_98 : siOK RX6 (.ldc_w 280, 10, 0, 0, 0) := ⟨0, "hfaqnd", by decide +kernel, by decide, rfl⟩
theorem sX6_99 : siOK RX6 (.invokevirtual 282, 1004, 1, 1, 0) := Or.inl ⟨by decide, Or.inl ⟨rfl, w_1212⟩⟩
theorem sX6_100 : siOK RX6 (.invokevirtual 286, 1005, 2, 1, 0) := Or.inl ⟨by decide, Or.inr ⟨rfl, w_1213⟩⟩
theorem sX6_101 : siOK RX6 (.invokevirtual 289, 59, 2, 1, 64) := siV (ci := 3) (congrArg Prod.fst g_X3_byteAt) (congrArg (fun z => z.2.2.2.1) g_X3_byteAt) (by decide) cm_X3_byteAt (by decide +kernel) rfl (by decide) rfl (by decide) (by decide +kernel) (by decide) w_1221 w_1222 w_1223
theorem sX6_102 : siOK RX6 (.invokevirtual 292, 152, 1, 0, 121) := siV (ci := 6) (congrArg Prod.fst g_X6_remember) (congrArg (fun z => z.2.2.2.1) g_X6_remember) (by decide) cm_X6_remember (by decide +kernel) rfl (by decide) rfl (by decide) (by decide +kernel) (by decide) w_1232 w_1234 w_42
theorem sX6_103 : siOK RX6 (.invokevirtual 295, 25, 5, 1, 16) := siV (ci := 0) (congrArg Prod.fst g_X0_sendSignal) (congrArg (fun z => z.2.2.2.1) g_X0_sendSignal) (by decide) cm_X0_sendSignal (by decide +kernel) rfl (by decide) rfl (by decide) (by decide +kernel) (by decide) w_1246 w_689 w_690
theorem sX6_104 : siOK RX6 (.invokevirtual 298, 27, 3, 1, 16) := siV (ci := 0) (congrArg Prod.fst g_X0_dropFrom) (congrArg (fun z => z.2.2.2.1) g_X0_dropFrom) (by decide) cm_X0_dropFrom (by decide +kernel) rfl (by decide) rfl (by decide) (by decide +kernel) (by decide) w_1261 w_1262 w_1263
theorem sX6_105 : siOK RX6 (.invokevirtual 302, 28, 2, 1, 16) := siV (ci := 0) (congrArg Prod.fst g_X0_dropAll) (congrArg (fun z => z.2.2.2.1) g_X0_dropAll) (by decide) cm_X0_dropAll (by decide +kernel) rfl (by decide) rfl (by decide) (by decide +kernel) (by decide) w_1274 w_1275 w_1276
theorem sX6_106 : siOK RX6 (.invokevirtual 305, 30, 2, 1, 16) := siV (ci := 0) (congrArg Prod.fst g_X0_takeTirednessAway) (congrArg (fun z => z.2.2.2.1) g_X0_takeTirednessAway) (by decide) cm_X0_takeTirednessAway (by decide +kernel) rfl (by decide) rfl (by decide) (by decide +kernel) (by decide) w_1285 w_1286 w_1287
theorem sX6_107 : siOK RX6 (.getstatic 308, 4, 0, 0, 0) := ⟨2, "KIND_LOW", by decide +kernel, by decide, rfl, Or.inl w_1296⟩
theorem sX6_108 : siOK RX6 (.getstatic 311, 5, 0, 0, 0) := ⟨3, "KIND_HIGH", by decide +kernel, by decide, rfl, Or.inl w_1297⟩
theorem sX6_109 : siOK RX6 (.invokevirtual 314, 8, 4, 0, 16) := siV (ci := 0) (congrArg Prod.fst g_X0_putKindNumber) (congrArg (fun z => z.2.2.2.1) g_X0_putKindNumber) (by decide) cm_X0_putKindNumber (by decide +kernel) rfl (by decide) rfl (by decide) (by decide +kernel) (by decide) w_1298 w_621 w_622
theorem sX6_110 : siOK RX6 (.getstatic 318, 2, 0, 0, 0) := ⟨0, "SETTING_LOW", by decide +kernel, by decide, rfl, Or.inl w_1306⟩
theorem sX6_111 : siOK RX6 (.getstatic 321, 3, 0, 0, 0) := ⟨1, "SETTING_HIGH", by decide +kernel, by decide, rfl, Or.inl w_1307⟩
theorem sX6_112 : siOK RX6 (.invokevirtual 324, 6, 3, 0, 16) := siV (ci := 0) (congrArg Prod.fst g_X0_putSetting) (congrArg (fun z => z.2.2.2.1) g_X0_putSetting) (by decide) cm_X0_putSetting (by decide +kernel) rfl (by decide) rfl (by decide) (by decide +kernel) (by decide) w_1308 w_588 w_589
theorem sX6_113 : siOK RX6 (.getfield 102, 7, 11, 0, 0) := ⟨by decide, ⟨by decide, by decide, Or.inl w_301⟩, by decide +kernel⟩
theorem sX6_114 : siOK RX6 (.invokestatic 328, 158, 1, 0, 1) := siS (congrArg Prod.fst g_X6_needState) (congrArg (fun z => z.2.2.2.1) g_X6_needState) (by decide) cm_X6_needState (by decide +kernel) (by decide) (by decide +kernel) w_1316 w_1317
theorem sX6_115 : siOK RX6 (.getfield 331, 7, 10, 0, 0) := ⟨by decide, ⟨by decide, by decide, Or.inl w_300⟩, by decide +kernel⟩
theorem sX6_116 : siOK RX6 (.putfield 331, 7, 10, 0, 0) := ⟨by decide, ⟨by decide, by decide, Or.inl w_300⟩, by decide +kernel, Or.inl (by decide +kernel)⟩
theorem sX6_117 : siOK RX6 (.getfield 37, 7, 9, 1, 0) := ⟨by decide, ⟨by decide, by decide, Or.inl w_299⟩, by decide +kernel⟩
theorem sX6_118 : siOK RX6 (.invokestatic 334, 153, 2, 2, 9) := siS (congrArg Prod.fst g_X6_roomAt) (congrArg (fun z => z.2.2.2.1) g_X6_roomAt) (by decide) cm_X6_roomAt (by decide +kernel) (by decide) (by decide +kernel) w_1236 w_1237
theorem sX6_119 : siOK RX6 (.getfield 41, 7, 12, 1, 0) := ⟨by decide, ⟨by decide, by decide, Or.inl w_302⟩, by decide +kernel⟩
theorem sX6_120 : siOK RX6 (.getfield 98, 7, 4, 2, 0) := ⟨by decide, ⟨by decide, by decide, Or.inl w_294⟩, by decide +kernel⟩
def ST_X6 : List (Instr × Nat × Nat × Nat × Nat) := [(.invokespecial 1, 1000, 1, 0, 0), (.newarray .byte, 21, 0, 0, 0), (.putfield 9, 7, 0, 1, 0), (.putfield 13, 7, 3, 0, 0), (.new 17, 6, 5, 0, 0), (.invokespecial 19, 85, 1, 0, 104), (.putfield 20, 7, 5, 1, 0), (.new 24, 1, 15, 0, 0), (.invokespecial 26, 0, 1, 0, 20), (.putfield 27, 7, 6, 1, 0), (.putfield 31, 7, 7, 1, 0), (.putfield 34, 7, 8, 1, 0), (.anewarray 24, 0, 0, 0, 0), (.putfield 37, 7, 9, 1, 0), (.putfield 41, 7, 12, 1, 0), (.newarray .boolean, 22, 0, 0, 0), (.putfield 44, 7, 13, 1, 0), (.new 48, 4, 2, 0, 0), (.invokespecial 50, 57, 1, 0, 71), (.putfield 51, 7, 14, 1, 0), (.getfield 55, 7, 1, 0, 0), (.invokevirtual 58, 97, 2, 0, 112), (.getfield 9, 7, 0, 1, 0), (.putfield 55, 7, 1, 0, 0), (.invokestatic 62, 159, 1, 0, 1), (.new 66, 5, 11, 0, 0), (.getfield 31, 7, 7, 1, 0), (.getfield 34, 7, 8, 1, 0), (.invokespecial 68, 63, 5, 0, 80), (.invokevirtual 71, 64, 1, 0, 80), (.getfield 74, 5, 9, 0, 0), (.putfield 77, 7, 2, 0, 0), (.getfield 80, 5, 10, 0, 0), (.getfield 77, 7, 2, 0, 0), (.invokestatic 83, 160, 1, 0, 1), (.invokevirtual 86, 99, 1, 0, 112), (.getfield 20, 7, 5, 1, 0), (.getfield 89, 6, 1, 1, 0), (.getfield 93, 3, 2, 0, 0), (.getfield 27, 7, 6, 1, 0), (.putfield 98, 7, 4, 2, 0), (.putfield 102, 7, 11, 0, 0), (.getfield 44, 7, 13, 1, 0), (.getfield 13, 7, 3, 0, 0), (.invokevirtual 105, 154, 1, 0, 113), (.getfield 108, 6, 0, 1, 0), (.invokevirtual 111, 52, 4, 1, 48), (.invokevirtual 115, 93, 1, 1, 96), (.getfield 119, 1, 10, 0, 0), (.getfield 122, 1, 11, 0, 0), (.getfield 125, 1, 5, 1, 0), (.invokevirtual 129, 44, 1, 1, 32), (.getfield 134, 1, 6, 1, 0), (.invokevirtual 137, 17, 1, 1, 16), (.invokevirtual 140, 16, 2, 1, 16), (.invokevirtual 144, 5, 2, 1, 16), (.invokevirtual 147, 155, 2, 0, 113), (.invokevirtual 150, 7, 3, 1, 16), (.invokevirtual 154, 156, 2, 0, 113), (.invokevirtual 157, 43, 2, 1, 32), (.invokevirtual 160, 11, 2, 1, 16), (.invokevirtual 163, 92, 2, 1, 96), (.invokevirtual 166, 14, 3, 1, 16), (.invokevirtual 169, 87, 3, 1, 96), (.invokevirtual 172, 88, 3, 1, 96), (.invokevirtual 175, 89, 5, 1, 96), (.invokevirtual 179, 10, 3, 1, 16), (.invokevirtual 182, 9, 3, 1, 16), (.invokevirtual 185, 23, 3, 1, 16), (.invokevirtual 188, 45, 4, 1, 32), (.getstatic 192, 6, 0, 0, 0), (.invokevirtual 196, 18, 3, 1, 16), (.invokevirtual 199, 157, 2, 0, 113), (.invokevirtual 202, 50, 2, 1, 32), (.invokevirtual 205, 19, 2, 1, 16), (.invokevirtual 208, 21, 2, 1, 16), (.invokevirtual 211, 22, 2, 1, 16), (.getfield 214, 1, 12, 0, 0), (.getfield 217, 1, 9, 0, 0), (.invokevirtual 220, 94, 3, 1, 96), (.invokevirtual 224, 125, 3, 1, 112), (.invokevirtual 227, 3, 2, 0, 16), (.invokevirtual 231, 20, 3, 1, 16), (.invokevirtual 234, 31, 2, 0, 16), (.invokevirtual 238, 128, 2, 1, 112), (.getfield 241, 1, 14, 0, 0), (.putfield 244, 1, 13, 0, 0), (.invokevirtual 247, 132, 2, 0, 112), (.invokevirtual 250, 12, 3, 1, 16), (.invokevirtual 253, 134, 3, 1, 112), (.invokevirtual 256, 13, 4, 0, 16), (.getfield 51, 7, 14, 1, 0), (.invokevirtual 260, 58, 1, 0, 64), (.invokevirtual 263, 60, 2, 0, 64), (.invokevirtual 266, 61, 2, 0, 64), (.invokevirtual 269, 62, 3, 0, 64), (.getfield 273, 4, 1, 0, 0), (.invokestatic 276, 138, 1, 1, 0), (.ldc_w 280, 10, 0, 0, 0), (.invokevirtual 282, 1004, 1, 1, 0), (.invokevirtual 286, 1005, 2, 1, 0), (.invokevirtual 289, 59, 2, 1, 64), (.invokevirtual 292, 152, 1, 0, 121), (.invokevirtual 295, 25, 5, 1, 16), (.invokevirtual 298, 27, 3, 1, 16), (.invokevirtual 302, 28, 2, 1, 16), (.invokevirtual 305, 30, 2, 1, 16), (.getstatic 308, 4, 0, 0, 0), (.getstatic 311, 5, 0, 0, 0), (.invokevirtual 314, 8, 4, 0, 16), (.getstatic 318, 2, 0, 0, 0), (.getstatic 321, 3, 0, 0, 0), (.invokevirtual 324, 6, 3, 0, 16), (.getfield 102, 7, 11, 0, 0), (.invokestatic 328, 158, 1, 0, 1), (.getfield 331, 7, 10, 0, 0), (.putfield 331, 7, 10, 0, 0), (.getfield 37, 7, 9, 1, 0), (.invokestatic 334, 153, 2, 2, 9), (.getfield 41, 7, 12, 1, 0), (.getfield 98, 7, 4, 2, 0)]
set_option maxRecDepth 100000 in
theorem SI_X6 : ∀ z ∈ ST_X6, siOK RX6 z := List.forall_mem_cons.mpr ⟨sX6_0, List.forall_mem_cons.mpr ⟨sX6_1, List.forall_mem_cons.mpr ⟨sX6_2, List.forall_mem_cons.mpr ⟨sX6_3, List.forall_mem_cons.mpr ⟨sX6_4, List.forall_mem_cons.mpr ⟨sX6_5, List.forall_mem_cons.mpr ⟨sX6_6, List.forall_mem_cons.mpr ⟨sX6_7, List.forall_mem_cons.mpr ⟨sX6_8, List.forall_mem_cons.mpr ⟨sX6_9, List.forall_mem_cons.mpr ⟨sX6_10, List.forall_mem_cons.mpr ⟨sX6_11, List.forall_mem_cons.mpr ⟨sX6_12, List.forall_mem_cons.mpr ⟨sX6_13, List.forall_mem_cons.mpr ⟨sX6_14, List.forall_mem_cons.mpr ⟨sX6_15, List.forall_mem_cons.mpr ⟨sX6_16, List.forall_mem_cons.mpr ⟨sX6_17, List.forall_mem_cons.mpr ⟨sX6_18, List.forall_mem_cons.mpr ⟨sX6_19, List.forall_mem_cons.mpr ⟨sX6_20, List.forall_mem_cons.mpr ⟨sX6_21, List.forall_mem_cons.mpr ⟨sX6_22, List.forall_mem_cons.mpr ⟨sX6_23, List.forall_mem_cons.mpr ⟨sX6_24, List.forall_mem_cons.mpr ⟨sX6_25, List.forall_mem_cons.mpr ⟨sX6_26, List.forall_mem_cons.mpr ⟨sX6_27, List.forall_mem_cons.mpr ⟨sX6_28, List.forall_mem_cons.mpr ⟨sX6_29, List.forall_mem_cons.mpr ⟨sX6_30, List.forall_mem_cons.mpr ⟨sX6_31, List.forall_mem_cons.mpr ⟨sX6_32, List.forall_mem_cons.mpr ⟨sX6_33, List.forall_mem_cons.mpr ⟨sX6_34, List.forall_mem_cons.mpr ⟨sX6_35, List.forall_mem_cons.mpr ⟨sX6_36, List.forall_mem_cons.mpr ⟨sX6_37, List.forall_mem_cons.mpr ⟨sX6_38, List.forall_mem_cons.mpr ⟨sX6_39, List.forall_mem_cons.mpr ⟨sX6_40, List.forall_mem_cons.mpr ⟨sX6_41, List.forall_mem_cons.mpr ⟨sX6_42, List.forall_mem_cons.mpr ⟨sX6_43, List.forall_mem_cons.mpr ⟨sX6_44, List.forall_mem_cons.mpr ⟨sX6_45, List.forall_mem_cons.mpr ⟨sX6_46, List.forall_mem_cons.mpr ⟨sX6_47, List.forall_mem_cons.mpr ⟨sX6_48, List.forall_mem_cons.mpr ⟨sX6_49, List.forall_mem_cons.mpr ⟨sX6_50, List.forall_mem_cons.mpr ⟨sX6_51, List.forall_mem_cons.mpr ⟨sX6_52, List.forall_mem_cons.mpr ⟨sX6_53, List.forall_mem_cons.mpr ⟨sX6_54, List.forall_mem_cons.mpr ⟨sX6_55, List.forall_mem_cons.mpr ⟨sX6_56, List.forall_mem_cons.mpr ⟨sX6_57, List.forall_mem_cons.mpr ⟨sX6_58, List.forall_mem_cons.mpr ⟨sX6_59, List.forall_mem_cons.mpr ⟨sX6_60, List.forall_mem_cons.mpr ⟨sX6_61, List.forall_mem_cons.mpr ⟨sX6_62, List.forall_mem_cons.mpr ⟨sX6_63, List.forall_mem_cons.mpr ⟨sX6_64, List.forall_mem_cons.mpr ⟨sX6_65, List.forall_mem_cons.mpr ⟨sX6_66, List.forall_mem_cons.mpr ⟨sX6_67, List.forall_mem_cons.mpr ⟨sX6_68, List.forall_mem_cons.mpr ⟨sX6_69, List.forall_mem_cons.mpr ⟨sX6_70, List.forall_mem_cons.mpr ⟨sX6_71, List.forall_mem_cons.mpr ⟨sX6_72, List.forall_mem_cons.mpr ⟨sX6_73, List.forall_mem_cons.mpr ⟨sX6_74, List.forall_mem_cons.mpr ⟨sX6_75, List.forall_mem_cons.mpr ⟨sX6_76, List.forall_mem_cons.mpr ⟨sX6_77, List.forall_mem_cons.mpr ⟨sX6_78, List.forall_mem_cons.mpr ⟨sX6_79, List.forall_mem_cons.mpr ⟨sX6_80, List.forall_mem_cons.mpr ⟨sX6_81, List.forall_mem_cons.mpr ⟨sX6_82, List.forall_mem_cons.mpr ⟨sX6_83, List.forall_mem_cons.mpr ⟨sX6_84, List.forall_mem_cons.mpr ⟨sX6_85, List.forall_mem_cons.mpr ⟨sX6_86, List.forall_mem_cons.mpr ⟨sX6_87, List.forall_mem_cons.mpr ⟨sX6_88, List.forall_mem_cons.mpr ⟨sX6_89, List.forall_mem_cons.mpr ⟨sX6_90, List.forall_mem_cons.mpr ⟨sX6_91, List.forall_mem_cons.mpr ⟨sX6_92, List.forall_mem_cons.mpr ⟨sX6_93, List.forall_mem_cons.mpr ⟨sX6_94, List.forall_mem_cons.mpr ⟨sX6_95, List.forall_mem_cons.mpr ⟨sX6_96, List.forall_mem_cons.mpr ⟨sX6_97, List.forall_mem_cons.mpr ⟨sX6_98, List.forall_mem_cons.mpr ⟨sX6_99, List.forall_mem_cons.mpr ⟨sX6_100, List.forall_mem_cons.mpr ⟨sX6_101, List.forall_mem_cons.mpr ⟨sX6_102, List.forall_mem_cons.mpr ⟨sX6_103, List.forall_mem_cons.mpr ⟨sX6_104, List.forall_mem_cons.mpr ⟨sX6_105, List.forall_mem_cons.mpr ⟨sX6_106, List.forall_mem_cons.mpr ⟨sX6_107, List.forall_mem_cons.mpr ⟨sX6_108, List.forall_mem_cons.mpr ⟨sX6_109, List.forall_mem_cons.mpr ⟨sX6_110, List.forall_mem_cons.mpr ⟨sX6_111, List.forall_mem_cons.mpr ⟨sX6_112, List.forall_mem_cons.mpr ⟨sX6_113, List.forall_mem_cons.mpr ⟨sX6_114, List.forall_mem_cons.mpr ⟨sX6_115, List.forall_mem_cons.mpr ⟨sX6_116, List.forall_mem_cons.mpr ⟨sX6_117, List.forall_mem_cons.mpr ⟨sX6_118, List.forall_mem_cons.mpr ⟨sX6_119, List.forall_mem_cons.mpr ⟨sX6_120, fun _ h => absurd h List.not_mem_nil⟩⟩⟩⟩⟩⟩⟩⟩⟩⟩⟩⟩⟩⟩⟩⟩⟩⟩⟩⟩⟩⟩⟩⟩⟩⟩⟩⟩⟩⟩⟩⟩⟩⟩⟩⟩⟩⟩⟩⟩⟩⟩⟩⟩⟩⟩⟩⟩⟩⟩⟩⟩⟩⟩⟩⟩⟩⟩⟩⟩⟩⟩⟩⟩⟩⟩⟩⟩⟩⟩⟩⟩⟩⟩⟩⟩⟩⟩⟩⟩⟩⟩⟩⟩⟩⟩⟩⟩⟩⟩⟩⟩⟩⟩⟩⟩⟩⟩⟩⟩⟩⟩⟩⟩⟩⟩⟩⟩⟩⟩⟩⟩⟩⟩⟩⟩⟩⟩⟩⟩⟩
theorem sX7_0 : siOK RX7 (.invokespecial 1, 1000, 1, 0, 0) := Or.inl ⟨by decide, rfl, w_1339, w_147, w_148⟩
theorem sX7_1 : siOK RX7 (.newarray .int, 20, 0, 0, 0) := ⟨w_176, by decide⟩
theorem sX7_2 : siOK RX7 (.putfield 7, 8, 6, 1, 0) := ⟨by decide, ⟨by decide, by decide, Or.inl w_1346⟩, by decide +kernel, Or.inr ⟨by decide +kernel, rfl⟩⟩
theorem sX7_3 : siOK RX7 (.putfield 13, 8, 7, 1, 0) := ⟨by decide, ⟨by decide, by decide, Or.inl w_1347⟩, by decide +kernel, Or.inr ⟨by decide +kernel, rfl⟩⟩
theorem sX7_4 : siOK RX7 (.putfield 16, 8, 8, 1, 0) := ⟨by decide, ⟨by decide, by decide, Or.inl w_1348⟩, by decide +kernel, Or.inr ⟨by decide +kernel, rfl⟩⟩
theorem sX7_5 : siOK RX7 (.putfield 19, 8, 9, 1, 0) := ⟨by decide, ⟨by decide, by decide, Or.inl w_1349⟩, by decide +kernel, Or.inr ⟨by decide +kernel, rfl⟩⟩
theorem sX7_6 : siOK RX7 (.putfield 22, 8, 10, 1, 0) := ⟨by decide, ⟨by decide, by decide, Or.inl w_1350⟩, by decide +kernel, Or.inr ⟨by decide +kernel, rfl⟩⟩
theorem sX7_7 : siOK RX7 (.putfield 25, 8, 11, 1, 0) := ⟨by decide, ⟨by decide, by decide, Or.inl w_1351⟩, by decide +kernel, Or.inr ⟨by decide +kernel, rfl⟩⟩
theorem sX7_8 : siOK RX7 (.putfield 28, 8, 12, 1, 0) := ⟨by decide, ⟨by decide, by decide, Or.inl w_1352⟩, by decide +kernel, Or.inr ⟨by decide +kernel, rfl⟩⟩
theorem sX7_9 : siOK RX7 (.putfield 31, 8, 13, 1, 0) := ⟨by decide, ⟨by decide, by decide, Or.inl w_1353⟩, by decide +kernel, Or.inr ⟨by decide +kernel, rfl⟩⟩
theorem sX7_10 : siOK RX7 (.newarray .boolean, 22, 0, 0, 0) := ⟨w_289, by decide⟩
theorem sX7_11 : siOK RX7 (.putfield 34, 8, 15, 1, 0) := ⟨by decide, ⟨by decide, by decide, Or.inl w_1355⟩, by decide +kernel, Or.inr ⟨by decide +kernel, rfl⟩⟩
theorem sX7_12 : siOK RX7 (.putfield 38, 8, 16, 1, 0) := ⟨by decide, ⟨by decide, by decide, Or.inl w_1356⟩, by decide +kernel, Or.inr ⟨by decide +kernel, rfl⟩⟩
theorem sX7_13 : siOK RX7 (.putfield 41, 8, 19, 0, 0) := ⟨by decide, ⟨by decide, by decide, Or.inl w_1359⟩, by decide +kernel, Or.inl (by decide +kernel)⟩
theorem sX7_14 : siOK RX7 (.putfield 45, 8, 35, 1, 0) := ⟨by decide, ⟨by decide, by decide, Or.inl w_1375⟩, by decide +kernel, Or.inr ⟨by decide +kernel, rfl⟩⟩
theorem sX7_15 : siOK RX7 (.putfield 48, 8, 36, 1, 0) := ⟨by decide, ⟨by decide, by decide, Or.inl w_1376⟩, by decide +kernel, Or.inr ⟨by decide +kernel, rfl⟩⟩
theorem sX7_16 : siOK RX7 (.putfield 51, 8, 37, 1, 0) := ⟨by decide, ⟨by decide, by decide, Or.inl w_1377⟩, by decide +kernel, Or.inr ⟨by decide +kernel, rfl⟩⟩
theorem sX7_17 : siOK RX7 (.putfield 54, 8, 38, 1, 0) := ⟨by decide, ⟨by decide, by decide, Or.inl w_1378⟩, by decide +kernel, Or.inr ⟨by decide +kernel, rfl⟩⟩
theorem sX7_18 : siOK RX7 (.putfield 57, 8, 39, 1, 0) := ⟨by decide, ⟨by decide, by decide, Or.inl w_1379⟩, by decide +kernel, Or.inr ⟨by decide +kernel, rfl⟩⟩
theorem sX7_19 : siOK RX7 (.putfield 60, 8, 40, 1, 0) := ⟨by decide, ⟨by decide, by decide, Or.inl w_1380⟩, by decide +kernel, Or.inr ⟨by decide +kernel, rfl⟩⟩
theorem sX7_20 : siOK RX7 (.putfield 63, 8, 41, 1, 0) := ⟨by decide, ⟨by decide, by decide, Or.inl w_1381⟩, by decide +kernel, Or.inr ⟨by decide +kernel, rfl⟩⟩
theorem sX7_21 : siOK RX7 (.putfield 66, 8, 42, 1, 0) := ⟨by decide, ⟨by decide, by decide, Or.inl w_1382⟩, by decide +kernel, Or.inr ⟨by decide +kernel, rfl⟩⟩
theorem sX7_22 : siOK RX7 (.putfield 69, 8, 43, 0, 0) := ⟨by decide, ⟨by decide, by decide, Or.inl w_1383⟩, by decide +kernel, Or.inl (by decide +kernel)⟩
theorem sX7_23 : siOK RX7 (.putfield 72, 8, 45, 1, 0) := ⟨by decide, ⟨by decide, by decide, Or.inl w_1385⟩, by decide +kernel, Or.inr ⟨by decide +kernel, rfl⟩⟩
theorem sX7_24 : siOK RX7 (.getfield 75, 8, 0, 0, 0) := ⟨by decide, ⟨by decide, by decide, Or.inl w_1340⟩, by decide +kernel⟩
theorem sX7_25 : siOK RX7 (.putfield 75, 8, 0, 0, 0) := ⟨by decide, ⟨by decide, by decide, Or.inl w_1340⟩, by decide +kernel, Or.inl (by decide +kernel)⟩
theorem sX7_26 : siOK RX7 (.getfield 78, 8, 1, 2, 0) := ⟨by decide, ⟨by decide, by decide, Or.inl w_1341⟩, by decide +kernel⟩
theorem sX7_27 : siOK RX7 (.invokevirtual 82, 165, 3, 1, 128) := siV (ci := 7) (congrArg Prod.fst g_X7_refuse) (congrArg (fun z => z.2.2.2.1) g_X7_refuse) (by decide) cm_X7_refuse (by decide +kernel) rfl (by decide) rfl (by decide) (by decide +kernel) (by decide) w_1509 w_1511 w_43
theorem sX7_28 : siOK RX7 (.getfield 86, 8, 17, 0, 0) := ⟨by decide, ⟨by decide, by decide, Or.inl w_1357⟩, by decide +kernel⟩
theorem sX7_29 : siOK RX7 (.getfield 38, 8, 16, 1, 0) := ⟨by decide, ⟨by decide, by decide, Or.inl w_1356⟩, by decide +kernel⟩
theorem sX7_30 : siOK RX7 (.putfield 86, 8, 17, 0, 0) := ⟨by decide, ⟨by decide, by decide, Or.inl w_1357⟩, by decide +kernel, Or.inl (by decide +kernel)⟩
theorem sX7_31 : siOK RX7 (.getfield 89, 8, 18, 0, 0) := ⟨by decide, ⟨by decide, by decide, Or.inl w_1358⟩, by decide +kernel⟩
theorem sX7_32 : siOK RX7 (.getfield 41, 8, 19, 0, 0) := ⟨by decide, ⟨by decide, by decide, Or.inl w_1359⟩, by decide +kernel⟩
theorem sX7_33 : siOK RX7 (.getfield 92, 8, 20, 0, 0) := ⟨by decide, ⟨by decide, by decide, Or.inl w_1360⟩, by decide +kernel⟩
theorem sX7_34 : siOK RX7 (.getfield 95, 8, 21, 0, 0) := ⟨by decide, ⟨by decide, by decide, Or.inl w_1361⟩, by decide +kernel⟩
theorem sX7_35 : siOK RX7 (.invokevirtual 98, 171, 2, 1, 128) := siV (ci := 7) (congrArg Prod.fst g_X7_seen) (congrArg (fun z => z.2.2.2.1) g_X7_seen) (by decide) cm_X7_seen (by decide +kernel) rfl (by decide) rfl (by decide) (by decide +kernel) (by decide) w_1521 w_1523 w_46
theorem sX7_36 : siOK RX7 (.putfield 95, 8, 21, 0, 0) := ⟨by decide, ⟨by decide, by decide, Or.inl w_1361⟩, by decide +kernel, Or.inl (by decide +kernel)⟩
theorem sX7_37 : siOK RX7 (.putfield 102, 8, 22, 0, 0) := ⟨by decide, ⟨by decide, by decide, Or.inl w_1362⟩, by decide +kernel, Or.inl (by decide +kernel)⟩
theorem sX7_38 : siOK RX7 (.putfield 105, 8, 23, 0, 0) := ⟨by decide, ⟨by decide, by decide, Or.inl w_1363⟩, by decide +kernel, Or.inl (by decide +kernel)⟩
theorem sX7_39 : siOK RX7 (.invokestatic 108, 172, 1, 1, 0) := siS (congrArg Prod.fst g_X7_isLetter) (congrArg (fun z => z.2.2.2.1) g_X7_isLetter) (by decide) cm_X7_isLetter (by decide +kernel) (by decide) (by decide +kernel) w_1525 w_1526
theorem sX7_40 : siOK RX7 (.getfield 102, 8, 22, 0, 0) := ⟨by decide, ⟨by decide, by decide, Or.inl w_1362⟩, by decide +kernel⟩
theorem sX7_41 : siOK RX7 (.invokestatic 112, 173, 1, 1, 0) := siS (congrArg Prod.fst g_X7_isDigit) (congrArg (fun z => z.2.2.2.1) g_X7_isDigit) (by decide) cm_X7_isDigit (by decide +kernel) (by decide) (by decide +kernel) w_1528 w_1529
theorem sX7_42 : siOK RX7 (.putfield 115, 8, 24, 0, 0) := ⟨by decide, ⟨by decide, by decide, Or.inl w_1364⟩, by decide +kernel, Or.inl (by decide +kernel)⟩
theorem sX7_43 : siOK RX7 (.getfield 115, 8, 24, 0, 0) := ⟨by decide, ⟨by decide, by decide, Or.inl w_1364⟩, by decide +kernel⟩
theorem sX7_44 : siOK RX7 (.getfield 118, 8, 25, 0, 0) := ⟨by decide, ⟨by decide, by decide, Or.inl w_1365⟩, by decide +kernel⟩
theorem sX7_45 : siOK RX7 (.putfield 118, 8, 25, 0, 0) := ⟨by decide, ⟨by decide, by decide, Or.inl w_1365⟩, by decide +kernel, Or.inl (by decide +kernel)⟩
theorem sX7_46 : siOK RX7 (.putfield 121, 8, 26, 0, 0) := ⟨by decide, ⟨by decide, by decide, Or.inl w_1366⟩, by decide +kernel, Or.inl (by decide +kernel)⟩
theorem sX7_47 : siOK RX7 (.invokevirtual 124, 175, 2, 0, 128) := siV (ci := 7) (congrArg Prod.fst g_X7_fails) (congrArg (fun z => z.2.2.2.1) g_X7_fails) (by decide) cm_X7_fails (by decide +kernel) rfl (by decide) rfl (by decide) (by decide +kernel) (by decide) w_1542 w_1544 w_49
theorem sX7_48 : siOK RX7 (.invokevirtual 128, 174, 1, 0, 128) := siV (ci := 7) (congrArg Prod.fst g_X7_token) (congrArg (fun z => z.2.2.2.1) g_X7_token) (by decide) cm_X7_token (by decide +kernel) rfl (by decide) rfl (by decide) (by decide +kernel) (by decide) w_1517 w_1519 w_45
theorem sX7_49 : siOK RX7 (.getfield 105, 8, 23, 0, 0) := ⟨by decide, ⟨by decide, by decide, Or.inl w_1363⟩, by decide +kernel⟩
theorem sX7_50 : siOK RX7 (.invokevirtual 131, 1004, 1, 1, 0) := Or.inl ⟨by decide, Or.inl ⟨rfl, w_1536⟩⟩
theorem sX7_51 : siOK RX7 (.invokevirtual 136, 1005, 2, 1, 0) := Or.inl ⟨by decide, Or.inr ⟨rfl, w_1537⟩⟩
theorem sX7_52 : siOK RX7 (.invokestatic 140, 163, 3, 1, 0) := siS (congrArg Prod.fst g_X7_in) (congrArg (fun z => z.2.2.2.1) g_X7_in) (by decide) cm_X7_in (by decide +kernel) (by decide) (by decide +kernel) w_1506 w_1507
theorem sX7_53 : siOK RX7 (.invokevirtual 144, 177, 1, 0, 128) := siV (ci := 7) (congrArg Prod.fst g_X7_goesOn) (congrArg (fun z => z.2.2.2.1) g_X7_goesOn) (by decide) cm_X7_goesOn (by decide +kernel) rfl (by decide) rfl (by decide) (by decide +kernel) (by decide) w_1546 w_1548 w_50
theorem sX7_54 : siOK RX7 (.invokevirtual 147, 176, 3, 0, 128) := siV (ci := 7) (congrArg Prod.fst g_X7_failsIf) (congrArg (fun z => z.2.2.2.1) g_X7_failsIf) (by decide) cm_X7_failsIf (by decide +kernel) rfl (by decide) rfl (by decide) (by decide +kernel) (by decide) w_1538 w_1540 w_48
theorem sX7_55 : siOK RX7 (.invokevirtual 151, 180, 5, 1, 128) := siV (ci := 7) (congrArg Prod.fst g_X7_named) (congrArg (fun z => z.2.2.2.1) g_X7_named) (by decide) cm_X7_named (by decide +kernel) rfl (by decide) rfl (by decide) (by decide +kernel) (by decide) w_1567 w_1569 w_55
theorem sX7_56 : siOK RX7 (.getfield 48, 8, 36, 1, 0) := ⟨by decide, ⟨by decide, by decide, Or.inl w_1376⟩, by decide +kernel⟩
theorem sX7_57 : siOK RX7 (.getfield 155, 8, 32, 0, 0) := ⟨by decide, ⟨by decide, by decide, Or.inl w_1372⟩, by decide +kernel⟩
theorem sX7_58 : siOK RX7 (.invokevirtual 158, 182, 3, 1, 128) := siV (ci := 7) (congrArg Prod.fst g_X7_namedHere) (congrArg (fun z => z.2.2.2.1) g_X7_namedHere) (by decide) cm_X7_namedHere (by decide +kernel) rfl (by decide) rfl (by decide) (by decide +kernel) (by decide) w_1588 w_1590 w_59
theorem sX7_59 : siOK RX7 (.getfield 45, 8, 35, 1, 0) := ⟨by decide, ⟨by decide, by decide, Or.inl w_1375⟩, by decide +kernel⟩
theorem sX7_60 : siOK RX7 (.getfield 162, 8, 31, 0, 0) := ⟨by decide, ⟨by decide, by decide, Or.inl w_1371⟩, by decide +kernel⟩
theorem sX7_61 : siOK RX7 (.invokevirtual 165, 181, 4, 0, 128) := siV (ci := 7) (congrArg Prod.fst g_X7_newName) (congrArg (fun z => z.2.2.2.1) g_X7_newName) (by decide) cm_X7_newName (by decide +kernel) rfl (by decide) rfl (by decide) (by decide +kernel) (by decide) w_1563 w_1565 w_54
theorem sX7_62 : siOK RX7 (.invokevirtual 169, 179, 3, 1, 128) := siV (ci := 7) (congrArg Prod.fst g_X7_takes) (congrArg (fun z => z.2.2.2.1) g_X7_takes) (by decide) cm_X7_takes (by decide +kernel) rfl (by decide) rfl (by decide) (by decide +kernel) (by decide) w_1550 w_1552 w_51
theorem sX7_63 : siOK RX7 (.getfield 51, 8, 37, 1, 0) := ⟨by decide, ⟨by decide, by decide, Or.inl w_1377⟩, by decide +kernel⟩
theorem sX7_64 : siOK RX7 (.putfield 162, 8, 31, 0, 0) := ⟨by decide, ⟨by decide, by decide, Or.inl w_1371⟩, by decide +kernel, Or.inl (by decide +kernel)⟩
theorem sX7_65 : siOK RX7 (.invokestatic 173, 164, 1, 1, 0) := siS (congrArg Prod.fst g_X7_flag) (congrArg (fun z => z.2.2.2.1) g_X7_flag) (by decide) cm_X7_flag (by decide +kernel) (by decide) (by decide +kernel) w_1576 w_1577
theorem sX7_66 : siOK RX7 (.putfield 155, 8, 32, 0, 0) := ⟨by decide, ⟨by decide, by decide, Or.inl w_1372⟩, by decide +kernel, Or.inl (by decide +kernel)⟩
theorem sX7_67 : siOK RX7 (.ldc 177, 25, 0, 0, 0) := ⟨15, "raise", by decide +kernel, by decide, rfl⟩
theorem sX7_68 : siOK RX7 (.invokevirtual 179, 178, 2, 1, 128) := siV (ci := 7) (congrArg Prod.fst g_X7_isWord) (congrArg (fun z => z.2.2.2.1) g_X7_isWord) (by decide) cm_X7_isWord (by decide +kernel) rfl (by decide) rfl (by decide) (by decide +kernel) (by decide) w_1532 w_1534 w_47
theorem sX7_69 : siOK RX7 (.ldc 183, 26, 0, 0, 0) := ⟨16, "mask", by decide +kernel, by decide, rfl⟩
theorem sX7_70 : siOK RX7 (.ldc 185, 27, 0, 0, 0) := ⟨17, "unmask", by decide +kernel, by decide, rfl⟩
theorem sX7_71 : siOK RX7 (.ldc 187, 28, 0, 0, 0) := ⟨18, "drop", by decide +kernel, by decide, rfl⟩
theorem sX7_72 : siOK RX7 (.invokevirtual 189, 187, 1, 1, 128) := siV (ci := 7) (congrArg Prod.fst g_X7_actHere) (congrArg (fun z => z.2.2.2.1) g_X7_actHere) (by decide) cm_X7_actHere (by decide +kernel) rfl (by decide) rfl (by decide) (by decide +kernel) (by decide) w_1596 w_1598 w_61
theorem sX7_73 : siOK RX7 (.getfield 60, 8, 40, 1, 0) := ⟨by decide, ⟨by decide, by decide, Or.inl w_1380⟩, by decide +kernel⟩
theorem sX7_74 : siOK RX7 (.invokevirtual 192, 184, 1, 1, 128) := siV (ci := 7) (congrArg Prod.fst g_X7_kindHere) (congrArg (fun z => z.2.2.2.1) g_X7_kindHere) (by decide) cm_X7_kindHere (by decide +kernel) rfl (by decide) rfl (by decide) (by decide +kernel) (by decide) w_1604 w_1606 w_62
theorem sX7_75 : siOK RX7 (.invokevirtual 195, 183, 1, 1, 128) := siV (ci := 7) (congrArg Prod.fst g_X7_programHere) (congrArg (fun z => z.2.2.2.1) g_X7_programHere) (by decide) cm_X7_programHere (by decide +kernel) rfl (by decide) rfl (by decide) (by decide +kernel) (by decide) w_1584 w_1586 w_58
theorem sX7_76 : siOK RX7 (.getfield 63, 8, 41, 1, 0) := ⟨by decide, ⟨by decide, by decide, Or.inl w_1381⟩, by decide +kernel⟩
theorem sX7_77 : siOK RX7 (.getfield 57, 8, 39, 1, 0) := ⟨by decide, ⟨by decide, by decide, Or.inl w_1379⟩, by decide +kernel⟩
theorem sX7_78 : siOK RX7 (.getfield 198, 8, 33, 0, 0) := ⟨by decide, ⟨by decide, by decide, Or.inl w_1373⟩, by decide +kernel⟩
theorem sX7_79 : siOK RX7 (.putfield 198, 8, 33, 0, 0) := ⟨by decide, ⟨by decide, by decide, Or.inl w_1373⟩, by decide +kernel, Or.inl (by decide +kernel)⟩
theorem sX7_80 : siOK RX7 (.invokevirtual 201, 188, 2, 0, 128) := siV (ci := 7) (congrArg Prod.fst g_X7_act) (congrArg (fun z => z.2.2.2.1) g_X7_act) (by decide) cm_X7_act (by decide +kernel) rfl (by decide) rfl (by decide) (by decide +kernel) (by decide) w_1592 w_1594 w_60
theorem sX7_81 : siOK RX7 (.getfield 54, 8, 38, 1, 0) := ⟨by decide, ⟨by decide, by decide, Or.inl w_1378⟩, by decide +kernel⟩
theorem sX7_82 : siOK RX7 (.getfield 204, 8, 34, 0, 0) := ⟨by decide, ⟨by decide, by decide, Or.inl w_1374⟩, by decide +kernel⟩
theorem sX7_83 : siOK RX7 (.getfield 66, 8, 42, 1, 0) := ⟨by decide, ⟨by decide, by decide, Or.inl w_1382⟩, by decide +kernel⟩
theorem sX7_84 : siOK RX7 (.putfield 204, 8, 34, 0, 0) := ⟨by decide, ⟨by decide, by decide, Or.inl w_1374⟩, by decide +kernel, Or.inl (by decide +kernel)⟩
theorem sX7_85 : siOK RX7 (.ldc 207, 29, 0, 0, 0) := ⟨19, "kind", by decide +kernel, by decide, rfl⟩
theorem sX7_86 : siOK RX7 (.invokevirtual 209, 185, 1, 0, 128) := siV (ci := 7) (congrArg Prod.fst g_X7_kindLine) (congrArg (fun z => z.2.2.2.1) g_X7_kindLine) (by decide) cm_X7_kindLine (by decide +kernel) rfl (by decide) rfl (by decide) (by decide +kernel) (by decide) w_1559 w_1561 w_53
theorem sX7_87 : siOK RX7 (.ldc 212, 30, 0, 0, 0) := ⟨20, "program", by decide +kernel, by decide, rfl⟩
theorem sX7_88 : siOK RX7 (.invokevirtual 214, 186, 1, 0, 128) := siV (ci := 7) (congrArg Prod.fst g_X7_programLine) (congrArg (fun z => z.2.2.2.1) g_X7_programLine) (by decide) cm_X7_programLine (by decide +kernel) rfl (by decide) rfl (by decide) (by decide +kernel) (by decide) w_1572 w_1574 w_56
theorem sX7_89 : siOK RX7 (.ldc 217, 31, 0, 0, 0) := ⟨21, "handle", by decide +kernel, by decide, rfl⟩
theorem sX7_90 : siOK RX7 (.invokevirtual 219, 189, 1, 0, 128) := siV (ci := 7) (congrArg Prod.fst g_X7_handleLine) (congrArg (fun z => z.2.2.2.1) g_X7_handleLine) (by decide) cm_X7_handleLine (by decide +kernel) rfl (by decide) rfl (by decide) (by decide +kernel) (by decide) w_1580 w_1582 w_57
theorem sX7_91 : siOK RX7 (.ldc 222, 32, 0, 0, 0) := ⟨22, "hide", by decide +kernel, by decide, rfl⟩
theorem sX7_92 : siOK RX7 (.invokevirtual 224, 190, 1, 0, 128) := siV (ci := 7) (congrArg Prod.fst g_X7_hideLine) (congrArg (fun z => z.2.2.2.1) g_X7_hideLine) (by decide) cm_X7_hideLine (by decide +kernel) rfl (by decide) rfl (by decide) (by decide +kernel) (by decide) w_1609 w_1611 w_63
theorem sX7_93 : siOK RX7 (.ldc 227, 33, 0, 0, 0) := ⟨23, "send", by decide +kernel, by decide, rfl⟩
theorem sX7_94 : siOK RX7 (.invokevirtual 229, 191, 1, 0, 128) := siV (ci := 7) (congrArg Prod.fst g_X7_sendLine) (congrArg (fun z => z.2.2.2.1) g_X7_sendLine) (by decide) cm_X7_sendLine (by decide +kernel) rfl (by decide) rfl (by decide) (by decide +kernel) (by decide) w_1614 w_1616 w_64
theorem sX7_95 : siOK RX7 (.putfield 92, 8, 20, 0, 0) := ⟨by decide, ⟨by decide, by decide, Or.inl w_1360⟩, by decide +kernel, Or.inl (by decide +kernel)⟩
theorem sX7_96 : siOK RX7 (.ldc 232, 34, 0, 0, 0) := ⟨24, "hall", by decide +kernel, by decide, rfl⟩
theorem sX7_97 : siOK RX7 (.putfield 234, 8, 27, 0, 0) := ⟨by decide, ⟨by decide, by decide, Or.inl w_1367⟩, by decide +kernel, Or.inl (by decide +kernel)⟩
theorem sX7_98 : siOK RX7 (.putfield 237, 8, 28, 0, 0) := ⟨by decide, ⟨by decide, by decide, Or.inl w_1368⟩, by decide +kernel, Or.inl (by decide +kernel)⟩
theorem sX7_99 : siOK RX7 (.putfield 240, 8, 29, 0, 0) := ⟨by decide, ⟨by decide, by decide, Or.inl w_1369⟩, by decide +kernel, Or.inl (by decide +kernel)⟩
theorem sX7_100 : siOK RX7 (.putfield 243, 8, 30, 0, 0) := ⟨by decide, ⟨by decide, by decide, Or.inl w_1370⟩, by decide +kernel, Or.inl (by decide +kernel)⟩
theorem sX7_101 : siOK RX7 (.invokevirtual 246, 192, 1, 0, 128) := siV (ci := 7) (congrArg Prod.fst g_X7_line) (congrArg (fun z => z.2.2.2.1) g_X7_line) (by decide) cm_X7_line (by decide +kernel) rfl (by decide) rfl (by decide) (by decide +kernel) (by decide) w_1554 w_1556 w_52
theorem sX7_102 : siOK RX7 (.getfield 243, 8, 30, 0, 0) := ⟨by decide, ⟨by decide, by decide, Or.inl w_1370⟩, by decide +kernel⟩
theorem sX7_103 : siOK RX7 (.putfield 249, 8, 2, 0, 0) := ⟨by decide, ⟨by decide, by decide, Or.inl w_1342⟩, by decide +kernel, Or.inl (by decide +kernel)⟩
theorem sX7_104 : siOK RX7 (.putfield 252, 8, 3, 0, 0) := ⟨by decide, ⟨by decide, by decide, Or.inl w_1343⟩, by decide +kernel, Or.inl (by decide +kernel)⟩
theorem sX7_105 : siOK RX7 (.putfield 255, 8, 4, 0, 0) := ⟨by decide, ⟨by decide, by decide, Or.inl w_1344⟩, by decide +kernel, Or.inl (by decide +kernel)⟩
theorem sX7_106 : siOK RX7 (.putfield 258, 8, 5, 0, 0) := ⟨by decide, ⟨by decide, by decide, Or.inl w_1345⟩, by decide +kernel, Or.inl (by decide +kernel)⟩
theorem sX7_107 : siOK RX7 (.getfield 7, 8, 6, 1, 0) := ⟨by decide, ⟨by decide, by decide, Or.inl w_1346⟩, by decide +kernel⟩
theorem sX7_108 : siOK RX7 (.getfield 13, 8, 7, 1, 0) := ⟨by decide, ⟨by decide, by decide, Or.inl w_1347⟩, by decide +kernel⟩
theorem sX7_109 : siOK RX7 (.getfield 16, 8, 8, 1, 0) := ⟨by decide, ⟨by decide, by decide, Or.inl w_1348⟩, by decide +kernel⟩
theorem sX7_110 : siOK RX7 (.getfield 19, 8, 9, 1, 0) := ⟨by decide, ⟨by decide, by decide, Or.inl w_1349⟩, by decide +kernel⟩
theorem sX7_111 : siOK RX7 (.getfield 22, 8, 10, 1, 0) := ⟨by decide, ⟨by decide, by decide, Or.inl w_1350⟩, by decide +kernel⟩
theorem sX7_112 : siOK RX7 (.getfield 25, 8, 11, 1, 0) := ⟨by decide, ⟨by decide, by decide, Or.inl w_1351⟩, by decide +kernel⟩
theorem sX7_113 : siOK RX7 (.getfield 234, 8, 27, 0, 0) := ⟨by decide, ⟨by decide, by decide, Or.inl w_1367⟩, by decide +kernel⟩
theorem sX7_114 : siOK RX7 (.getfield 237, 8, 28, 0, 0) := ⟨by decide, ⟨by decide, by decide, Or.inl w_1368⟩, by decide +kernel⟩
theorem sX7_115 : siOK RX7 (.getfield 240, 8, 29, 0, 0) := ⟨by decide, ⟨by decide, by decide, Or.inl w_1369⟩, by decide +kernel⟩
theorem sX7_116 : siOK RX7 (.invokevirtual 261, 209, 5, 0, 128) := siV (ci := 7) (congrArg Prod.fst g_X7_sends) (congrArg (fun z => z.2.2.2.1) g_X7_sends) (by decide) cm_X7_sends (by decide +kernel) rfl (by decide) rfl (by decide) (by decide +kernel) (by decide) w_1622 w_1624 w_66
theorem sX7_117 : siOK RX7 (.invokevirtual 265, 193, 2, 0, 128) := siV (ci := 7) (congrArg Prod.fst g_X7_reads) (congrArg (fun z => z.2.2.2.1) g_X7_reads) (by decide) cm_X7_reads (by decide +kernel) rfl (by decide) rfl (by decide) (by decide +kernel) (by decide) w_1513 w_1515 w_44
theorem sX7_118 : siOK RX7 (.putfield 89, 8, 18, 0, 0) := ⟨by decide, ⟨by decide, by decide, Or.inl w_1358⟩, by decide +kernel, Or.inl (by decide +kernel)⟩
theorem sX7_119 : siOK RX7 (.getfield 121, 8, 26, 0, 0) := ⟨by decide, ⟨by decide, by decide, Or.inl w_1366⟩, by decide +kernel⟩
theorem sX7_120 : siOK RX7 (.putfield 78, 8, 1, 2, 0) := ⟨by decide, ⟨by decide, by decide, Or.inl w_1341⟩, by decide +kernel, Or.inl (by decide +kernel)⟩
theorem sX7_121 : siOK RX7 (.invokevirtual 268, 194, 1, 0, 128) := siV (ci := 7) (congrArg Prod.fst g_X7_becomes) (congrArg (fun z => z.2.2.2.1) g_X7_becomes) (by decide) cm_X7_becomes (by decide +kernel) rfl (by decide) rfl (by decide) (by decide +kernel) (by decide) w_1618 w_1620 w_65
theorem sX7_122 : siOK RX7 (.putfield 271, 8, 14, 0, 0) := ⟨by decide, ⟨by decide, by decide, Or.inl w_1354⟩, by decide +kernel, Or.inl (by decide +kernel)⟩
theorem sX7_123 : siOK RX7 (.getfield 34, 8, 15, 1, 0) := ⟨by decide, ⟨by decide, by decide, Or.inl w_1355⟩, by decide +kernel⟩
theorem sX7_124 : siOK RX7 (.getfield 255, 8, 4, 0, 0) := ⟨by decide, ⟨by decide, by decide, Or.inl w_1344⟩, by decide +kernel⟩
theorem sX7_125 : siOK RX7 (.invokevirtual 274, 166, 1, 1, 128) := siV (ci := 7) (congrArg Prod.fst g_X7_notLoaded) (congrArg (fun z => z.2.2.2.1) g_X7_notLoaded) (by decide) cm_X7_notLoaded (by decide +kernel) rfl (by decide) rfl (by decide) (by decide +kernel) (by decide) w_1673 w_1675 w_77
theorem sX7_126 : siOK RX7 (.getfield 252, 8, 3, 0, 0) := ⟨by decide, ⟨by decide, by decide, Or.inl w_1343⟩, by decide +kernel⟩
theorem sX7_127 : siOK RX7 (.invokevirtual 278, 197, 3, 1, 128) := siV (ci := 7) (congrArg Prod.fst g_X7_ofKind) (congrArg (fun z => z.2.2.2.1) g_X7_ofKind) (by decide) cm_X7_ofKind (by decide +kernel) rfl (by decide) rfl (by decide) (by decide +kernel) (by decide) w_1646 w_1648 w_72
theorem sX7_128 : siOK RX7 (.invokevirtual 281, 198, 3, 1, 128) := siV (ci := 7) (congrArg Prod.fst g_X7_tiredOf) (congrArg (fun z => z.2.2.2.1) g_X7_tiredOf) (by decide) cm_X7_tiredOf (by decide +kernel) rfl (by decide) rfl (by decide) (by decide +kernel) (by decide) w_1650 w_1652 w_73
theorem sX7_129 : siOK RX7 (.invokestatic 284, 1002, 2, 1, 0) := Or.inl ⟨by decide, Or.inr (Or.inl ⟨rfl, w_138, w_1654, w_1655, w_1656⟩)⟩
theorem sX7_130 : siOK RX7 (.invokevirtual 289, 203, 3, 0, 128) := siV (ci := 7) (congrArg Prod.fst g_X7_counts) (congrArg (fun z => z.2.2.2.1) g_X7_counts) (by decide) cm_X7_counts (by decide +kernel) rfl (by decide) rfl (by decide) (by decide +kernel) (by decide) w_1626 w_1628 w_67
theorem sX7_131 : siOK RX7 (.getfield 69, 8, 43, 0, 0) := ⟨by decide, ⟨by decide, by decide, Or.inl w_1383⟩, by decide +kernel⟩
theorem sX7_132 : siOK RX7 (.getfield 293, 8, 44, 0, 0) := ⟨by decide, ⟨by decide, by decide, Or.inl w_1384⟩, by decide +kernel⟩
theorem sX7_133 : siOK RX7 (.putfield 293, 8, 44, 0, 0) := ⟨by decide, ⟨by decide, by decide, Or.inl w_1384⟩, by decide +kernel, Or.inl (by decide +kernel)⟩
theorem sX7_134 : siOK RX7 (.invokevirtual 296, 201, 4, 1, 128) := siV (ci := 7) (congrArg Prod.fst g_X7_inQueue) (congrArg (fun z => z.2.2.2.1) g_X7_inQueue) (by decide) cm_X7_inQueue (by decide +kernel) rfl (by decide) rfl (by decide) (by decide +kernel) (by decide) w_1638 w_1640 w_70
theorem sX7_135 : siOK RX7 (.invokevirtual 300, 205, 3, 0, 128) := siV (ci := 7) (congrArg Prod.fst g_X7_leaves) (congrArg (fun z => z.2.2.2.1) g_X7_leaves) (by decide) cm_X7_leaves (by decide +kernel) rfl (by decide) rfl (by decide) (by decide +kernel) (by decide) w_1661 w_1663 w_75
theorem sX7_136 : siOK RX7 (.invokevirtual 303, 204, 5, 0, 128) := siV (ci := 7) (congrArg Prod.fst g_X7_ends) (congrArg (fun z => z.2.2.2.1) g_X7_ends) (by decide) cm_X7_ends (by decide +kernel) rfl (by decide) rfl (by decide) (by decide +kernel) (by decide) w_1665 w_1667 w_76
theorem sX7_137 : siOK RX7 (.invokevirtual 306, 199, 3, 1, 128) := siV (ci := 7) (congrArg Prod.fst g_X7_urgencyOf) (congrArg (fun z => z.2.2.2.1) g_X7_urgencyOf) (by decide) cm_X7_urgencyOf (by decide +kernel) rfl (by decide) rfl (by decide) (by decide +kernel) (by decide) w_1642 w_1644 w_71
theorem sX7_138 : siOK RX7 (.invokevirtual 309, 207, 4, 1, 128) := siV (ci := 7) (congrArg Prod.fst g_X7_isAhead) (congrArg (fun z => z.2.2.2.1) g_X7_isAhead) (by decide) cm_X7_isAhead (by decide +kernel) rfl (by decide) rfl (by decide) (by decide +kernel) (by decide) w_1634 w_1636 w_69
theorem sX7_139 : siOK RX7 (.getfield 249, 8, 2, 0, 0) := ⟨by decide, ⟨by decide, by decide, Or.inl w_1342⟩, by decide +kernel⟩
theorem sX7_140 : siOK RX7 (.invokevirtual 312, 208, 3, 1, 128) := siV (ci := 7) (congrArg Prod.fst g_X7_placeOf) (congrArg (fun z => z.2.2.2.1) g_X7_placeOf) (by decide) cm_X7_placeOf (by decide +kernel) rfl (by decide) rfl (by decide) (by decide +kernel) (by decide) w_1630 w_1632 w_68
theorem sX7_141 : siOK RX7 (.invokevirtual 315, 206, 4, 0, 128) := siV (ci := 7) (congrArg Prod.fst g_X7_endsInQueue) (congrArg (fun z => z.2.2.2.1) g_X7_endsInQueue) (by decide) cm_X7_endsInQueue (by decide +kernel) rfl (by decide) rfl (by decide) (by decide +kernel) (by decide) w_1657 w_1659 w_74
theorem sX7_142 : siOK RX7 (.invokevirtual 319, 200, 3, 1, 128) := siV (ci := 7) (congrArg Prod.fst g_X7_isMasked) (congrArg (fun z => z.2.2.2.1) g_X7_isMasked) (by decide) cm_X7_isMasked (by decide +kernel) rfl (by decide) rfl (by decide) (by decide +kernel) (by decide) w_1786 w_1788 w_93
theorem sX7_143 : siOK RX7 (.invokevirtual 323, 202, 4, 1, 128) := siV (ci := 7) (congrArg Prod.fst g_X7_onStack) (congrArg (fun z => z.2.2.2.1) g_X7_onStack) (by decide) cm_X7_onStack (by decide +kernel) rfl (by decide) rfl (by decide) (by decide +kernel) (by decide) w_1746 w_1748 w_86
theorem sX7_144 : siOK RX7 (.invokevirtual 326, 212, 2, 1, 128) := siV (ci := 7) (congrArg Prod.fst g_X7_nextOf) (congrArg (fun z => z.2.2.2.1) g_X7_nextOf) (by decide) cm_X7_nextOf (by decide +kernel) rfl (by decide) rfl (by decide) (by decide +kernel) (by decide) w_1782 w_1784 w_92
theorem sX7_145 : siOK RX7 (.invokevirtual 329, 213, 3, 1, 128) := siV (ci := 7) (congrArg Prod.fst g_X7_mayBegin) (congrArg (fun z => z.2.2.2.1) g_X7_mayBegin) (by decide) cm_X7_mayBegin (by decide +kernel) rfl (by decide) rfl (by decide) (by decide +kernel) (by decide) w_1854 w_1856 w_102
theorem sX7_146 : siOK RX7 (.invokevirtual 332, 215, 5, 0, 128) := siV (ci := 7) (congrArg Prod.fst g_X7_stacks) (congrArg (fun z => z.2.2.2.1) g_X7_stacks) (by decide) cm_X7_stacks (by decide +kernel) rfl (by decide) rfl (by decide) (by decide +kernel) (by decide) w_1858 w_1860 w_103
theorem sX7_147 : siOK RX7 (.invokestatic 335, 1001, 2, 1, 0) := Or.inl ⟨by decide, Or.inl ⟨rfl, w_138, w_1689, w_1037, w_1038⟩⟩
theorem sX7_148 : siOK RX7 (.invokevirtual 338, 217, 4, 0, 128) := siV (ci := 7) (congrArg Prod.fst g_X7_does) (congrArg (fun z => z.2.2.2.1) g_X7_does) (by decide) cm_X7_does (by decide +kernel) rfl (by decide) rfl (by decide) (by decide +kernel) (by decide) w_1866 w_1868 w_105
theorem sX7_149 : siOK RX7 (.invokevirtual 341, 210, 3, 1, 128) := siV (ci := 7) (congrArg Prod.fst g_X7_drops) (congrArg (fun z => z.2.2.2.1) g_X7_drops) (by decide) cm_X7_drops (by decide +kernel) rfl (by decide) rfl (by decide) (by decide +kernel) (by decide) w_1870 w_1872 w_106
theorem sX7_150 : siOK RX7 (.invokevirtual 344, 211, 2, 0, 128) := siV (ci := 7) (congrArg Prod.fst g_X7_ages) (congrArg (fun z => z.2.2.2.1) g_X7_ages) (by decide) cm_X7_ages (by decide +kernel) rfl (by decide) rfl (by decide) (by decide +kernel) (by decide) w_1846 w_1848 w_100
theorem sX7_151 : siOK RX7 (.invokevirtual 347, 214, 2, 0, 128) := siV (ci := 7) (congrArg Prod.fst g_X7_begins) (congrArg (fun z => z.2.2.2.1) g_X7_begins) (by decide) cm_X7_begins (by decide +kernel) rfl (by decide) rfl (by decide) (by decide +kernel) (by decide) w_1850 w_1852 w_101
theorem sX7_152 : siOK RX7 (.invokevirtual 350, 216, 2, 0, 128) := siV (ci := 7) (congrArg Prod.fst g_X7_works) (congrArg (fun z => z.2.2.2.1) g_X7_works) (by decide) cm_X7_works (by decide +kernel) rfl (by decide) rfl (by decide) (by decide +kernel) (by decide) w_1862 w_1864 w_104
theorem sX7_153 : siOK RX7 (.invokevirtual 353, 218, 1, 0, 128) := siV (ci := 7) (congrArg Prod.fst g_X7_ticksOnce) (congrArg (fun z => z.2.2.2.1) g_X7_ticksOnce) (by decide) cm_X7_ticksOnce (by decide +kernel) rfl (by decide) rfl (by decide) (by decide +kernel) (by decide) w_1842 w_1844 w_99
theorem sX7_154 : siOK RX7 (.getfield 258, 8, 5, 0, 0) := ⟨by decide, ⟨by decide, by decide, Or.inl w_1345⟩, by decide +kernel⟩
theorem sX7_155 : siOK RX7 (.invokevirtual 356, 220, 2, 1, 128) := siV (ci := 7) (congrArg Prod.fst g_X7_sumOf) (congrArg (fun z => z.2.2.2.1) g_X7_sumOf) (by decide) cm_X7_sumOf (by decide +kernel) rfl (by decide) rfl (by decide) (by decide +kernel) (by decide) w_1681 w_1683 w_78
theorem sX7_156 : siOK RX7 (.invokevirtual 359, 221, 1, 1, 128) := siV (ci := 7) (congrArg Prod.fst g_X7_toldEnds) (congrArg (fun z => z.2.2.2.1) g_X7_toldEnds) (by decide) cm_X7_toldEnds (by decide +kernel) rfl (by decide) rfl (by decide) (by decide +kernel) (by decide) w_1685 w_1687 w_79
theorem sX7_157 : siOK RX7 (.invokevirtual 362, 224, 2, 1, 128) := siV (ci := 7) (congrArg Prod.fst g_X7_isKind) (congrArg (fun z => z.2.2.2.1) g_X7_isKind) (by decide) cm_X7_isKind (by decide +kernel) rfl (by decide) rfl (by decide) (by decide +kernel) (by decide) w_1702 w_1704 w_81
theorem sX7_158 : siOK RX7 (.invokevirtual 365, 225, 2, 1, 128) := siV (ci := 7) (congrArg Prod.fst g_X7_isProgram) (congrArg (fun z => z.2.2.2.1) g_X7_isProgram) (by decide) cm_X7_isProgram (by decide +kernel) rfl (by decide) rfl (by decide) (by decide +kernel) (by decide) w_1714 w_1716 w_83
theorem sX7_159 : siOK RX7 (.invokevirtual 368, 227, 2, 1, 128) := siV (ci := 7) (congrArg Prod.fst g_X7_noProgram) (congrArg (fun z => z.2.2.2.1) g_X7_noProgram) (by decide) cm_X7_noProgram (by decide +kernel) rfl (by decide) rfl (by decide) (by decide +kernel) (by decide) w_1710 w_1712 w_82
theorem sX7_160 : siOK RX7 (.invokevirtual 371, 226, 2, 1, 128) := siV (ci := 7) (congrArg Prod.fst g_X7_noKind) (congrArg (fun z => z.2.2.2.1) g_X7_noKind) (by decide) cm_X7_noKind (by decide +kernel) rfl (by decide) rfl (by decide) (by decide +kernel) (by decide) w_1698 w_1700 w_80
theorem sX7_161 : siOK RX7 (.invokevirtual 374, 231, 2, 1, 128) := siV (ci := 7) (congrArg Prod.fst g_X7_handlersOf) (congrArg (fun z => z.2.2.2.1) g_X7_handlersOf) (by decide) cm_X7_handlersOf (by decide +kernel) rfl (by decide) rfl (by decide) (by decide +kernel) (by decide) w_1718 w_1720 w_84
theorem sX7_162 : siOK RX7 (.invokevirtual 377, 228, 3, 1, 128) := siV (ci := 7) (congrArg Prod.fst g_X7_noPair) (congrArg (fun z => z.2.2.2.1) g_X7_noPair) (by decide) cm_X7_noPair (by decide +kernel) rfl (by decide) rfl (by decide) (by decide +kernel) (by decide) w_1726 w_1728 w_85
theorem sX7_163 : siOK RX7 (.invokevirtual 380, 238, 3, 1, 128) := siV (ci := 7) (congrArg Prod.fst g_X7_ofEnd) (congrArg (fun z => z.2.2.2.1) g_X7_ofEnd) (by decide) cm_X7_ofEnd (by decide +kernel) rfl (by decide) rfl (by decide) (by decide +kernel) (by decide) w_1754 w_1756 w_87
theorem sX7_164 : siOK RX7 (.invokevirtual 383, 240, 3, 1, 128) := siV (ci := 7) (congrArg Prod.fst g_X7_queuedAt) (congrArg (fun z => z.2.2.2.1) g_X7_queuedAt) (by decide) cm_X7_queuedAt (by decide +kernel) rfl (by decide) rfl (by decide) (by decide +kernel) (by decide) w_1770 w_1772 w_90
theorem sX7_165 : siOK RX7 (.invokevirtual 386, 241, 3, 1, 128) := siV (ci := 7) (congrArg Prod.fst g_X7_stackedAt) (congrArg (fun z => z.2.2.2.1) g_X7_stackedAt) (by decide) cm_X7_stackedAt (by decide +kernel) rfl (by decide) rfl (by decide) (by decide +kernel) (by decide) w_1774 w_1776 w_91
theorem sX7_166 : siOK RX7 (.invokevirtual 389, 229, 2, 1, 128) := siV (ci := 7) (congrArg Prod.fst g_X7_noSignal) (congrArg (fun z => z.2.2.2.1) g_X7_noSignal) (by decide) cm_X7_noSignal (by decide +kernel) rfl (by decide) rfl (by decide) (by decide +kernel) (by decide) w_1762 w_1764 w_88
theorem sX7_167 : siOK RX7 (.invokevirtual 392, 242, 2, 1, 128) := siV (ci := 7) (congrArg Prod.fst g_X7_placeNow) (congrArg (fun z => z.2.2.2.1) g_X7_placeNow) (by decide) cm_X7_placeNow (by decide +kernel) rfl (by decide) rfl (by decide) (by decide +kernel) (by decide) w_1766 w_1768 w_89
theorem sX7_168 : siOK RX7 (.invokevirtual 395, 251, 3, 1, 128) := siV (ci := 7) (congrArg Prod.fst g_X7_raises) (congrArg (fun z => z.2.2.2.1) g_X7_raises) (by decide) cm_X7_raises (by decide +kernel) rfl (by decide) rfl (by decide) (by decide +kernel) (by decide) w_1818 w_1820 w_94
theorem sX7_169 : siOK RX7 (.getfield 28, 8, 12, 1, 0) := ⟨by decide, ⟨by decide, by decide, Or.inl w_1352⟩, by decide +kernel⟩
theorem sX7_170 : siOK RX7 (.invokevirtual 398, 255, 2, 1, 128) := siV (ci := 7) (congrArg Prod.fst g_X7_isIdle) (congrArg (fun z => z.2.2.2.1) g_X7_isIdle) (by decide) cm_X7_isIdle (by decide +kernel) rfl (by decide) rfl (by decide) (by decide +kernel) (by decide) w_1838 w_1840 w_98
theorem sX7_171 : siOK RX7 (.invokevirtual 401, 253, 1, 0, 128) := siV (ci := 7) (congrArg Prod.fst g_X7_putsAside) (congrArg (fun z => z.2.2.2.1) g_X7_putsAside) (by decide) cm_X7_putsAside (by decide +kernel) rfl (by decide) rfl (by decide) (by decide +kernel) (by decide) w_1830 w_1832 w_96
theorem sX7_172 : siOK RX7 (.invokevirtual 404, 256, 2, 1, 128) := siV (ci := 7) (congrArg Prod.fst g_X7_areIdle) (congrArg (fun z => z.2.2.2.1) g_X7_areIdle) (by decide) cm_X7_areIdle (by decide +kernel) rfl (by decide) rfl (by decide) (by decide +kernel) (by decide) w_1834 w_1836 w_97
theorem sX7_173 : siOK RX7 (.invokevirtual 407, 254, 1, 0, 128) := siV (ci := 7) (congrArg Prod.fst g_X7_fetchesBack) (congrArg (fun z => z.2.2.2.1) g_X7_fetchesBack) (by decide) cm_X7_fetchesBack (by decide +kernel) rfl (by decide) rfl (by decide) (by decide +kernel) (by decide) w_1874 w_1876 w_107
theorem sX7_174 : siOK RX7 (.invokevirtual 410, 257, 2, 1, 128) := siV (ci := 7) (congrArg Prod.fst g_X7_ticksToIdle) (congrArg (fun z => z.2.2.2.1) g_X7_ticksToIdle) (by decide) cm_X7_ticksToIdle (by decide +kernel) rfl (by decide) rfl (by decide) (by decide +kernel) (by decide) w_1826 w_1828 w_95
theorem sX7_175 : siOK RX7 (.invokevirtual 413, 260, 2, 1, 128) := siV (ci := 7) (congrArg Prod.fst g_X7_ticksToEnd) (congrArg (fun z => z.2.2.2.1) g_X7_ticksToEnd) (by decide) cm_X7_ticksToEnd (by decide +kernel) rfl (by decide) rfl (by decide) (by decide +kernel) (by decide) w_1886 w_1888 w_108
theorem sX7_176 : siOK RX7 (.invokevirtual 416, 219, 2, 0, 128) := siV (ci := 7) (congrArg Prod.fst g_X7_goesTicks) (congrArg (fun z => z.2.2.2.1) g_X7_goesTicks) (by decide) cm_X7_goesTicks (by decide +kernel) rfl (by decide) rfl (by decide) (by decide +kernel) (by decide) w_1902 w_1904 w_110
theorem sX7_177 : siOK RX7 (.invokevirtual 419, 263, 3, 1, 128) := siV (ci := 7) (congrArg Prod.fst g_X7_moreOf) (congrArg (fun z => z.2.2.2.1) g_X7_moreOf) (by decide) cm_X7_moreOf (by decide +kernel) rfl (by decide) rfl (by decide) (by decide +kernel) (by decide) w_1898 w_1900 w_109
theorem sX7_178 : siOK RX7 (.getfield 72, 8, 45, 1, 0) := ⟨by decide, ⟨by decide, by decide, Or.inl w_1385⟩, by decide +kernel⟩
theorem sX7_179 : siOK RX7 (.getfield 422, 8, 46, 0, 0) := ⟨by decide, ⟨by decide, by decide, Or.inl w_1386⟩, by decide +kernel⟩
theorem sX7_180 : siOK RX7 (.putfield 422, 8, 46, 0, 0) := ⟨by decide, ⟨by decide, by decide, Or.inl w_1386⟩, by decide +kernel, Or.inl (by decide +kernel)⟩
theorem sX7_181 : siOK RX7 (.invokevirtual 425, 268, 2, 0, 128) := siV (ci := 7) (congrArg Prod.fst g_X7_says) (congrArg (fun z => z.2.2.2.1) g_X7_says) (by decide) cm_X7_says (by decide +kernel) rfl (by decide) rfl (by decide) (by decide +kernel) (by decide) w_1926 w_1928 w_112
theorem sX7_182 : siOK RX7 (.invokevirtual 428, 271, 2, 0, 128) := siV (ci := 7) (congrArg Prod.fst g_X7_parts) (congrArg (fun z => z.2.2.2.1) g_X7_parts) (by decide) cm_X7_parts (by decide +kernel) rfl (by decide) rfl (by decide) (by decide +kernel) (by decide) w_1922 w_1924 w_111
theorem sX7_183 : siOK RX7 (.invokevirtual 431, 269, 2, 0, 128) := siV (ci := 7) (congrArg Prod.fst g_X7_saysNumber) (congrArg (fun z => z.2.2.2.1) g_X7_saysNumber) (by decide) cm_X7_saysNumber (by decide +kernel) rfl (by decide) rfl (by decide) (by decide +kernel) (by decide) w_1930 w_1932 w_113
theorem sX7_184 : siOK RX7 (.invokevirtual 434, 270, 2, 0, 128) := siV (ci := 7) (congrArg Prod.fst g_X7_saysKind) (congrArg (fun z => z.2.2.2.1) g_X7_saysKind) (by decide) cm_X7_saysKind (by decide +kernel) rfl (by decide) rfl (by decide) (by decide +kernel) (by decide) w_1934 w_1936 w_114
theorem sX7_185 : siOK RX7 (.invokestatic 437, 274, 1, 1, 0) := siS (congrArg Prod.fst g_X7_letterOf) (congrArg (fun z => z.2.2.2.1) g_X7_letterOf) (by decide) cm_X7_letterOf (by decide +kernel) (by decide) (by decide +kernel) w_1946 w_1947
theorem sX7_186 : siOK RX7 (.getfield 31, 8, 13, 1, 0) := ⟨by decide, ⟨by decide, by decide, Or.inl w_1353⟩, by decide +kernel⟩
theorem sX7_187 : siOK RX7 (.getfield 271, 8, 14, 0, 0) := ⟨by decide, ⟨by decide, by decide, Or.inl w_1354⟩, by decide +kernel⟩
theorem sX7_188 : siOK RX7 (.invokevirtual 440, 277, 2, 0, 128) := siV (ci := 7) (congrArg Prod.fst g_X7_keeps) (congrArg (fun z => z.2.2.2.1) g_X7_keeps) (by decide) cm_X7_keeps (by decide +kernel) rfl (by decide) rfl (by decide) (by decide +kernel) (by decide) w_1961 w_1963 w_116
theorem sX7_189 : siOK RX7 (.invokevirtual 443, 279, 1, 0, 128) := siV (ci := 7) (congrArg Prod.fst g_X7_keepsAll) (congrArg (fun z => z.2.2.2.1) g_X7_keepsAll) (by decide) cm_X7_keepsAll (by decide +kernel) rfl (by decide) rfl (by decide) (by decide +kernel) (by decide) w_1957 w_1959 w_115
theorem sX7_190 : siOK RX7 (.invokevirtual 446, 283, 3, 0, 128) := siV (ci := 7) (congrArg Prod.fst g_X7_dropsRunning) (congrArg (fun z => z.2.2.2.1) g_X7_dropsRunning) (by decide) cm_X7_dropsRunning (by decide +kernel) rfl (by decide) rfl (by decide) (by decide +kernel) (by decide) w_1977 w_1979 w_117
theorem sX7_191 : siOK RX7 (.invokevirtual 449, 287, 3, 1, 128) := siV (ci := 7) (congrArg Prod.fst g_X7_sets) (congrArg (fun z => z.2.2.2.1) g_X7_sets) (by decide) cm_X7_sets (by decide +kernel) rfl (by decide) rfl (by decide) (by decide +kernel) (by decide) w_1993 w_1995 w_118
theorem sX7_192 : siOK RX7 (.invokevirtual 452, 278, 2, 0, 128) := siV (ci := 7) (congrArg Prod.fst g_X7_fetches) (congrArg (fun z => z.2.2.2.1) g_X7_fetches) (by decide) cm_X7_fetches (by decide +kernel) rfl (by decide) rfl (by decide) (by decide +kernel) (by decide) w_2005 w_2007 w_119
def ST_X7 : List (Instr × Nat × Nat × Nat × Nat) := [(.invokespecial 1, 1000, 1, 0, 0), (.newarray .int, 20, 0, 0, 0), (.putfield 7, 8, 6, 1, 0), (.putfield 13, 8, 7, 1, 0), (.putfield 16, 8, 8, 1, 0), (.putfield 19, 8, 9, 1, 0), (.putfield 22, 8, 10, 1, 0), (.putfield 25, 8, 11, 1, 0), (.putfield 28, 8, 12, 1, 0), (.putfield 31, 8, 13, 1, 0), (.newarray .boolean, 22, 0, 0, 0), (.putfield 34, 8, 15, 1, 0), (.putfield 38, 8, 16, 1, 0), (.putfield 41, 8, 19, 0, 0), (.putfield 45, 8, 35, 1, 0), (.putfield 48, 8, 36, 1, 0), (.putfield 51, 8, 37, 1, 0), (.putfield 54, 8, 38, 1, 0), (.putfield 57, 8, 39, 1, 0), (.putfield 60, 8, 40, 1, 0), (.putfield 63, 8, 41, 1, 0), (.putfield 66, 8, 42, 1, 0), (.putfield 69, 8, 43, 0, 0), (.putfield 72, 8, 45, 1, 0), (.getfield 75, 8, 0, 0, 0), (.putfield 75, 8, 0, 0, 0), (.getfield 78, 8, 1, 2, 0), (.invokevirtual 82, 165, 3, 1, 128), (.getfield 86, 8, 17, 0, 0), (.getfield 38, 8, 16, 1, 0), (.putfield 86, 8, 17, 0, 0), (.getfield 89, 8, 18, 0, 0), (.getfield 41, 8, 19, 0, 0), (.getfield 92, 8, 20, 0, 0), (.getfield 95, 8, 21, 0, 0), (.invokevirtual 98, 171, 2, 1, 128), (.putfield 95, 8, 21, 0, 0), (.putfield 102, 8, 22, 0, 0), (.putfield 105, 8, 23, 0, 0), (.invokestatic 108, 172, 1, 1, 0), (.getfield 102, 8, 22, 0, 0), (.invokestatic 112, 173, 1, 1, 0), (.putfield 115, 8, 24, 0, 0), (.getfield 115, 8, 24, 0, 0), (.getfield 118, 8, 25, 0, 0), (.putfield 118, 8, 25, 0, 0), (.putfield 121, 8, 26, 0, 0), (.invokevirtual 124, 175, 2, 0, 128), (.invokevirtual 128, 174, 1, 0, 128), (.getfield 105, 8, 23, 0, 0), (.invokevirtual 131, 1004, 1, 1, 0), (.invokevirtual 136, 1005, 2, 1, 0), (.invokestatic 140, 163, 3, 1, 0), (.invokevirtual 144, 177, 1, 0, 128), (.invokevirtual 147, 176, 3, 0, 128), (.invokevirtual 151, 180, 5, 1, 128), (.getfield 48, 8, 36, 1, 0), (.getfield 155, 8, 32, 0, 0), (.invokevirtual 158, 182, 3, 1, 128), (.getfield 45, 8, 35, 1, 0), (.getfield 162, 8, 31, 0, 0), (.invokevirtual 165, 181, 4, 0, 128), (.invokevirtual 169, 179, 3, 1, 128), (.getfield 51, 8, 37, 1, 0), (.putfield 162, 8, 31, 0, 0), (.invokestatic 173, 164, 1, 1, 0), (.putfield 155, 8, 32, 0, 0), (.ldc 177, 25, 0, 0, 0), (.invokevirtual 179, 178, 2, 1, 128), (.ldc 183, 26, 0, 0, 0), (.ldc 185, 27, 0, 0, 0), (.ldc 187, 28, 0, 0, 0), (.invokevirtual 189, 187, 1, 1, 128), (.getfield 60, 8, 40, 1, 0), (.invokevirtual 192, 184, 1, 1, 128), (.invokevirtual 195, 183, 1, 1, 128), (.getfield 63, 8, 41, 1, 0), (.getfield 57, 8, 39, 1, 0), (.getfield 198, 8, 33, 0, 0), (.putfield 198, 8, 33, 0, 0), (.invokevirtual 201, 188, 2, 0, 128), (.getfield 54, 8, 38, 1, 0), (.getfield 204, 8, 34, 0, 0), (.getfield 66, 8, 42, 1, 0), (.putfield 204, 8, 34, 0, 0), (.ldc 207, 29, 0, 0, 0), (.invokevirtual 209, 185, 1, 0, 128), (.ldc 212, 30, 0, 0, 0), (.invokevirtual 214, 186, 1, 0, 128), (.ldc 217, 31, 0, 0, 0), (.invokevirtual 219, 189, 1, 0, 128), (.ldc 222, 32, 0, 0, 0), (.invokevirtual 224, 190, 1, 0, 128), (.ldc 227, 33, 0, 0, 0), (.invokevirtual 229, 191, 1, 0, 128), (.putfield 92, 8, 20, 0, 0), (.ldc 232, 34, 0, 0, 0), (.putfield 234, 8, 27, 0, 0), (.putfield 237, 8, 28, 0, 0), (.putfield 240, 8, 29, 0, 0), (.putfield 243, 8, 30, 0, 0), (.invokevirtual 246, 192, 1, 0, 128), (.getfield 243, 8, 30, 0, 0), (.putfield 249, 8, 2, 0, 0), (.putfield 252, 8, 3, 0, 0), (.putfield 255, 8, 4, 0, 0), (.putfield 258, 8, 5, 0, 0), (.getfield 7, 8, 6, 1, 0), (.getfield 13, 8, 7, 1, 0), (.getfield 16, 8, 8, 1, 0), (.getfield 19, 8, 9, 1, 0), (.getfield 22, 8, 10, 1, 0), (.getfield 25, 8, 11, 1, 0), (.getfield 234, 8, 27, 0, 0), (.getfield 237, 8, 28, 0, 0), (.getfield 240, 8, 29, 0, 0), (.invokevirtual 261, 209, 5, 0, 128), (.invokevirtual 265, 193, 2, 0, 128), (.putfield 89, 8, 18, 0, 0), (.getfield 121, 8, 26, 0, 0), (.putfield 78, 8, 1, 2, 0), (.invokevirtual 268, 194, 1, 0, 128), (.putfield 271, 8, 14, 0, 0), (.getfield 34, 8, 15, 1, 0), (.getfield 255, 8, 4, 0, 0), (.invokevirtual 274, 166, 1, 1, 128), (.getfield 252, 8, 3, 0, 0), (.invokevirtual 278, 197, 3, 1, 128), (.invokevirtual 281, 198, 3, 1, 128), (.invokestatic 284, 1002, 2, 1, 0), (.invokevirtual 289, 203, 3, 0, 128), (.getfield 69, 8, 43, 0, 0), (.getfield 293, 8, 44, 0, 0), (.putfield 293, 8, 44, 0, 0), (.invokevirtual 296, 201, 4, 1, 128), (.invokevirtual 300, 205, 3, 0, 128), (.invokevirtual 303, 204, 5, 0, 128), (.invokevirtual 306, 199, 3, 1, 128), (.invokevirtual 309, 207, 4, 1, 128), (.getfield 249, 8, 2, 0, 0), (.invokevirtual 312, 208, 3, 1, 128), (.invokevirtual 315, 206, 4, 0, 128), (.invokevirtual 319, 200, 3, 1, 128), (.invokevirtual 323, 202, 4, 1, 128), (.invokevirtual 326, 212, 2, 1, 128), (.invokevirtual 329, 213, 3, 1, 128), (.invokevirtual 332, 215, 5, 0, 128), (.invokestatic 335, 1001, 2, 1, 0), (.invokevirtual 338, 217, 4, 0, 128), (.invokevirtual 341, 210, 3, 1, 128), (.invokevirtual 344, 211, 2, 0, 128), (.invokevirtual 347, 214, 2, 0, 128), (.invokevirtual 350, 216, 2, 0, 128), (.invokevirtual 353, 218, 1, 0, 128), (.getfield 258, 8, 5, 0, 0), (.invokevirtual 356, 220, 2, 1, 128), (.invokevirtual 359, 221, 1, 1, 128), (.invokevirtual 362, 224, 2, 1, 128), (.invokevirtual 365, 225, 2, 1, 128), (.invokevirtual 368, 227, 2, 1, 128), (.invokevirtual 371, 226, 2, 1, 128), (.invokevirtual 374, 231, 2, 1, 128), (.invokevirtual 377, 228, 3, 1, 128), (.invokevirtual 380, 238, 3, 1, 128), (.invokevirtual 383, 240, 3, 1, 128), (.invokevirtual 386, 241, 3, 1, 128), (.invokevirtual 389, 229, 2, 1, 128), (.invokevirtual 392, 242, 2, 1, 128), (.invokevirtual 395, 251, 3, 1, 128), (.getfield 28, 8, 12, 1, 0), (.invokevirtual 398, 255, 2, 1, 128), (.invokevirtual 401, 253, 1, 0, 128), (.invokevirtual 404, 256, 2, 1, 128), (.invokevirtual 407, 254, 1, 0, 128), (.invokevirtual 410, 257, 2, 1, 128), (.invokevirtual 413, 260, 2, 1, 128), (.invokevirtual 416, 219, 2, 0, 128), (.invokevirtual 419, 263, 3, 1, 128), (.getfield 72, 8, 45, 1, 0), (.getfield 422, 8, 46, 0, 0), (.putfield 422, 8, 46, 0, 0), (.invokevirtual 425, 268, 2, 0, 128), (.invokevirtual 428, 271, 2, 0, 128), (.invokevirtual 431, 269, 2, 0, 128), (.invokevirtual 434, 270, 2, 0, 128), (.invokestatic 437, 274, 1, 1, 0), (.getfield 31, 8, 13, 1, 0), (.getfield 271, 8, 14, 0, 0), (.invokevirtual 440, 277, 2, 0, 128), (.invokevirtual 443, 279, 1, 0, 128), (.invokevirtual 446, 283, 3, 0, 128), (.invokevirtual 449, 287, 3, 1, 128), (.invokevirtual 452, 278, 2, 0, 128)]
set_option maxRecDepth 100000 in
theorem SI_X7 : ∀ z ∈ ST_X7, siOK RX7 z := List.forall_mem_cons.mpr ⟨sX7_0, List.forall_mem_cons.mpr ⟨sX7_1, List.forall_mem_cons.mpr ⟨sX7_2, List.forall_mem_cons.mpr ⟨sX7_3, List.forall_mem_cons.mpr ⟨sX7_4, List.forall_mem_cons.mpr ⟨sX7_5, List.forall_mem_cons.mpr ⟨sX7_6, List.forall_mem_cons.mpr ⟨sX7_7, List.forall_mem_cons.mpr ⟨sX7_8, List.forall_mem_cons.mpr ⟨sX7_9, List.forall_mem_cons.mpr ⟨sX7_10, List.forall_mem_cons.mpr ⟨sX7_11, List.forall_mem_cons.mpr ⟨sX7_12, List.forall_mem_cons.mpr ⟨sX7_13, List.forall_mem_cons.mpr ⟨sX7_14, List.forall_mem_cons.mpr ⟨sX7_15, List.forall_mem_cons.mpr ⟨sX7_16, List.forall_mem_cons.mpr ⟨sX7_17, List.forall_mem_cons.mpr ⟨sX7_18, List.forall_mem_cons.mpr ⟨sX7_19, List.forall_mem_cons.mpr ⟨sX7_20, List.forall_mem_cons.mpr ⟨sX7_21, List.forall_mem_cons.mpr ⟨sX7_22, List.forall_mem_cons.mpr ⟨sX7_23, List.forall_mem_cons.mpr ⟨sX7_24, List.forall_mem_cons.mpr ⟨sX7_25, List.forall_mem_cons.mpr ⟨sX7_26, List.forall_mem_cons.mpr ⟨sX7_27, List.forall_mem_cons.mpr ⟨sX7_28, List.forall_mem_cons.mpr ⟨sX7_29, List.forall_mem_cons.mpr ⟨sX7_30, List.forall_mem_cons.mpr ⟨sX7_31, List.forall_mem_cons.mpr ⟨sX7_32, List.forall_mem_cons.mpr ⟨sX7_33, List.forall_mem_cons.mpr ⟨sX7_34, List.forall_mem_cons.mpr ⟨sX7_35, List.forall_mem_cons.mpr ⟨sX7_36, List.forall_mem_cons.mpr ⟨sX7_37, List.forall_mem_cons.mpr ⟨sX7_38, List.forall_mem_cons.mpr ⟨sX7_39, List.forall_mem_cons.mpr ⟨sX7_40, List.forall_mem_cons.mpr ⟨sX7_41, List.forall_mem_cons.mpr ⟨sX7_42, List.forall_mem_cons.mpr ⟨sX7_43, List.forall_mem_cons.mpr ⟨sX7_44, List.forall_mem_cons.mpr ⟨sX7_45, List.forall_mem_cons.mpr ⟨sX7_46, List.forall_mem_cons.mpr ⟨sX7_47, List.forall_mem_cons.mpr ⟨sX7_48, List.forall_mem_cons.mpr ⟨sX7_49, List.forall_mem_cons.mpr ⟨sX7_50, List.forall_mem_cons.mpr ⟨sX7_51, List.forall_mem_cons.mpr ⟨sX7_52, List.forall_mem_cons.mpr ⟨sX7_53, List.forall_mem_cons.mpr ⟨sX7_54, List.forall_mem_cons.mpr ⟨sX7_55, List.forall_mem_cons.mpr ⟨sX7_56, List.forall_mem_cons.mpr ⟨sX7_57, List.forall_mem_cons.mpr ⟨sX7_58, List.forall_mem_cons.mpr ⟨sX7_59, List.forall_mem_cons.mpr ⟨sX7_60, List.forall_mem_cons.mpr ⟨sX7_61, List.forall_mem_cons.mpr ⟨sX7_62, List.forall_mem_cons.mpr ⟨sX7_63, List.forall_mem_cons.mpr ⟨sX7_64, List.forall_mem_cons.mpr ⟨sX7_65, List.forall_mem_cons.mpr ⟨sX7_66, List.forall_mem_cons.mpr ⟨sX7_67, List.forall_mem_cons.mpr ⟨sX7_68, List.forall_mem_cons.mpr ⟨sX7_69, List.forall_mem_cons.mpr ⟨sX7_70, List.forall_mem_cons.mpr ⟨sX7_71, List.forall_mem_cons.mpr ⟨sX7_72, List.forall_mem_cons.mpr ⟨sX7_73, List.forall_mem_cons.mpr ⟨sX7_74, List.forall_mem_cons.mpr ⟨sX7_75, List.forall_mem_cons.mpr ⟨sX7_76, List.forall_mem_cons.mpr ⟨sX7_77, List.forall_mem_cons.mpr ⟨sX7_78, List.forall_mem_cons.mpr ⟨sX7_79, List.forall_mem_cons.mpr ⟨sX7_80, List.forall_mem_cons.mpr ⟨sX7_81, List.forall_mem_cons.mpr ⟨sX7_82, List.forall_mem_cons.mpr ⟨sX7_83, List.forall_mem_cons.mpr ⟨sX7_84, List.forall_mem_cons.mpr ⟨sX7_85, List.forall_mem_cons.mpr ⟨sX7_86, List.forall_mem_cons.mpr ⟨sX7_87, List.forall_mem_cons.mpr ⟨sX7_88, List.forall_mem_cons.mpr ⟨sX7_89, List.forall_mem_cons.mpr ⟨sX7_90, List.forall_mem_cons.mpr ⟨sX7_91, List.forall_mem_cons.mpr ⟨sX7_92, List.forall_mem_cons.mpr ⟨sX7_93, List.forall_mem_cons.mpr ⟨sX7_94, List.forall_mem_cons.mpr ⟨sX7_95, List.forall_mem_cons.mpr ⟨sX7_96, List.forall_mem_cons.mpr ⟨sX7_97, List.forall_mem_cons.mpr ⟨sX7_98, List.forall_mem_cons.mpr ⟨sX7_99, List.forall_mem_cons.mpr ⟨sX7_100, List.forall_mem_cons.mpr ⟨sX7_101, List.forall_mem_cons.mpr ⟨sX7_102, List.forall_mem_cons.mpr ⟨sX7_103, List.forall_mem_cons.mpr ⟨sX7_104, List.forall_mem_cons.mpr ⟨sX7_105, List.forall_mem_cons.mpr ⟨sX7_106, List.forall_mem_cons.mpr ⟨sX7_107, List.forall_mem_cons.mpr ⟨sX7_108, List.forall_mem_cons.mpr ⟨sX7_109, List.forall_mem_cons.mpr ⟨sX7_110, List.forall_mem_cons.mpr ⟨sX7_111, List.forall_mem_cons.mpr ⟨sX7_112, List.forall_mem_cons.mpr ⟨sX7_113, List.forall_mem_cons.mpr ⟨sX7_114, List.forall_mem_cons.mpr ⟨sX7_115, List.forall_mem_cons.mpr ⟨sX7_116, List.forall_mem_cons.mpr ⟨sX7_117, List.forall_mem_cons.mpr ⟨sX7_118, List.forall_mem_cons.mpr ⟨sX7_119, List.forall_mem_cons.mpr ⟨sX7_120, List.forall_mem_cons.mpr ⟨sX7_121, List.forall_mem_cons.mpr ⟨sX7_122, List.forall_mem_cons.mpr ⟨sX7_123, List.forall_mem_cons.mpr ⟨sX7_124, List.forall_mem_cons.mpr ⟨sX7_125, List.forall_mem_cons.mpr ⟨sX7_126, List.forall_mem_cons.mpr ⟨sX7_127, List.forall_mem_cons.mpr ⟨sX7_128, List.forall_mem_cons.mpr ⟨sX7_129, List.forall_mem_cons.mpr ⟨sX7_130, List.forall_mem_cons.mpr ⟨sX7_131, List.forall_mem_cons.mpr ⟨sX7_132, List.forall_mem_cons.mpr ⟨sX7_133, List.forall_mem_cons.mpr ⟨sX7_134, List.forall_mem_cons.mpr ⟨sX7_135, List.forall_mem_cons.mpr ⟨sX7_136, List.forall_mem_cons.mpr ⟨sX7_137, List.forall_mem_cons.mpr ⟨sX7_138, List.forall_mem_cons.mpr ⟨sX7_139, List.forall_mem_cons.mpr ⟨sX7_140, List.forall_mem_cons.mpr ⟨sX7_141, List.forall_mem_cons.mpr ⟨sX7_142, List.forall_mem_cons.mpr ⟨sX7_143, List.forall_mem_cons.mpr ⟨sX7_144, List.forall_mem_cons.mpr ⟨sX7_145, List.forall_mem_cons.mpr ⟨sX7_146, List.forall_mem_cons.mpr ⟨sX7_147, List.forall_mem_cons.mpr ⟨sX7_148, List.forall_mem_cons.mpr ⟨sX7_149, List.forall_mem_cons.mpr ⟨sX7_150, List.forall_mem_cons.mpr ⟨sX7_151, List.forall_mem_cons.mpr ⟨sX7_152, List.forall_mem_cons.mpr ⟨sX7_153, List.forall_mem_cons.mpr ⟨sX7_154, List.forall_mem_cons.mpr ⟨sX7_155, List.forall_mem_cons.mpr ⟨sX7_156, List.forall_mem_cons.mpr ⟨sX7_157, List.forall_mem_cons.mpr ⟨sX7_158, List.forall_mem_cons.mpr ⟨sX7_159, List.forall_mem_cons.mpr ⟨sX7_160, List.forall_mem_cons.mpr ⟨sX7_161, List.forall_mem_cons.mpr ⟨sX7_162, List.forall_mem_cons.mpr ⟨sX7_163, List.forall_mem_cons.mpr ⟨sX7_164, List.forall_mem_cons.mpr ⟨sX7_165, List.forall_mem_cons.mpr ⟨sX7_166, List.forall_mem_cons.mpr ⟨sX7_167, List.forall_mem_cons.mpr ⟨sX7_168, List.forall_mem_cons.mpr ⟨sX7_169, List.forall_mem_cons.mpr ⟨sX7_170, List.forall_mem_cons.mpr ⟨sX7_171, List.forall_mem_cons.mpr ⟨sX7_172, List.forall_mem_cons.mpr ⟨sX7_173, List.forall_mem_cons.mpr ⟨sX7_174, List.forall_mem_cons.mpr ⟨sX7_175, List.forall_mem_cons.mpr ⟨sX7_176, List.forall_mem_cons.mpr ⟨sX7_177, List.forall_mem_cons.mpr ⟨sX7_178, List.forall_mem_cons.mpr ⟨sX7_179, List.forall_mem_cons.mpr ⟨sX7_180, List.forall_mem_cons.mpr ⟨sX7_181, List.forall_mem_cons.mpr ⟨sX7_182, List.forall_mem_cons.mpr ⟨sX7_183, List.forall_mem_cons.mpr ⟨sX7_184, List.forall_mem_cons.mpr ⟨sX7_185, List.forall_mem_cons.mpr ⟨sX7_186, List.forall_mem_cons.mpr ⟨sX7_187, List.forall_mem_cons.mpr ⟨sX7_188, List.forall_mem_cons.mpr ⟨sX7_189, List.forall_mem_cons.mpr ⟨sX7_190, List.forall_mem_cons.mpr ⟨sX7_191, List.forall_mem_cons.mpr ⟨sX7_192, fun _ h => absurd h List.not_mem_nil⟩⟩⟩⟩⟩⟩⟩⟩⟩⟩⟩⟩⟩⟩⟩⟩⟩⟩⟩⟩⟩⟩⟩⟩⟩⟩⟩⟩⟩⟩⟩⟩⟩⟩⟩⟩⟩⟩⟩⟩⟩⟩⟩⟩⟩⟩⟩⟩⟩⟩⟩⟩⟩⟩⟩⟩⟩⟩⟩⟩⟩⟩⟩⟩⟩⟩⟩⟩⟩⟩⟩⟩⟩⟩⟩⟩⟩⟩⟩⟩⟩⟩⟩⟩⟩⟩⟩⟩⟩⟩⟩⟩⟩⟩⟩⟩⟩⟩⟩⟩⟩⟩⟩⟩⟩⟩⟩⟩⟩⟩⟩⟩⟩⟩⟩⟩⟩⟩⟩⟩⟩⟩⟩⟩⟩⟩⟩⟩⟩⟩⟩⟩⟩⟩⟩⟩⟩⟩⟩⟩⟩⟩⟩⟩⟩⟩⟩⟩⟩⟩⟩⟩⟩⟩⟩⟩⟩⟩⟩⟩⟩⟩⟩⟩⟩⟩⟩⟩⟩⟩⟩⟩⟩⟩⟩⟩⟩⟩⟩⟩⟩⟩⟩⟩⟩⟩⟩⟩⟩⟩⟩⟩⟩
theorem sL_0 : siOK RL (.invokevirtual 7, 98, 2, 1, 122) := siV (ci := 6) (congrArg Prod.fst g_X6_load) (congrArg (fun z => z.2.2.2.1) g_X6_load) (by decide) cm_X6_load (by decide +kernel) rfl (by decide) rfl (by decide) (by decide +kernel) (by decide) w_365 w_366 w_367
theorem sL_1 : siOK RL (.invokevirtual 17, 103, 3, 1, 122) := siV (ci := 6) (congrArg Prod.fst g_X6_find) (congrArg (fun z => z.2.2.2.1) g_X6_find) (by decide) cm_X6_find (by decide +kernel) rfl (by decide) rfl (by decide) (by decide +kernel) (by decide) w_755 w_756 w_757
theorem sL_2 : siOK RL (.invokevirtual 23, 104, 2, 1, 122) := siV (ci := 6) (congrArg Prod.fst g_X6_count) (congrArg (fun z => z.2.2.2.1) g_X6_count) (by decide) cm_X6_count (by decide +kernel) rfl (by decide) rfl (by decide) (by decide +kernel) (by decide) w_783 w_784 w_785
theorem sL_3 : siOK RL (.invokevirtual 26, 105, 2, 1, 122) := siV (ci := 6) (congrArg Prod.fst g_X6_setting) (congrArg (fun z => z.2.2.2.1) g_X6_setting) (by decide) cm_X6_setting (by decide +kernel) rfl (by decide) rfl (by decide) (by decide +kernel) (by decide) w_811 w_812 w_813
theorem sL_4 : siOK RL (.invokevirtual 29, 106, 3, 1, 122) := siV (ci := 6) (congrArg Prod.fst g_X6_kind) (congrArg (fun z => z.2.2.2.1) g_X6_kind) (by decide) cm_X6_kind (by decide +kernel) rfl (by decide) rfl (by decide) (by decide +kernel) (by decide) w_822 w_823 w_824
theorem sL_5 : siOK RL (.invokevirtual 33, 107, 3, 1, 122) := siV (ci := 6) (congrArg Prod.fst g_X6_program) (congrArg (fun z => z.2.2.2.1) g_X6_program) (by decide) cm_X6_program (by decide +kernel) rfl (by decide) rfl (by decide) (by decide +kernel) (by decide) w_837 w_838 w_839
theorem sL_6 : siOK RL (.invokevirtual 36, 108, 4, 1, 122) := siV (ci := 6) (congrArg Prod.fst g_X6_handler) (congrArg (fun z => z.2.2.2.1) g_X6_handler) (by decide) cm_X6_handler (by decide +kernel) rfl (by decide) rfl (by decide) (by decide +kernel) (by decide) w_855 w_856 w_857
theorem sL_7 : siOK RL (.invokevirtual 40, 109, 3, 1, 122) := siV (ci := 6) (congrArg Prod.fst g_X6_urgency) (congrArg (fun z => z.2.2.2.1) g_X6_urgency) (by decide) cm_X6_urgency (by decide +kernel) rfl (by decide) rfl (by decide) (by decide +kernel) (by decide) w_871 w_872 w_873
theorem sL_8 : siOK RL (.invokevirtual 43, 110, 3, 1, 122) := siV (ci := 6) (congrArg Prod.fst g_X6_tiredness) (congrArg (fun z => z.2.2.2.1) g_X6_tiredness) (by decide) cm_X6_tiredness (by decide +kernel) rfl (by decide) rfl (by decide) (by decide +kernel) (by decide) w_879 w_880 w_881
theorem sL_9 : siOK RL (.invokevirtual 46, 111, 4, 1, 122) := siV (ci := 6) (congrArg Prod.fst g_X6_queue) (congrArg (fun z => z.2.2.2.1) g_X6_queue) (by decide) cm_X6_queue (by decide +kernel) rfl (by decide) rfl (by decide) (by decide +kernel) (by decide) w_890 w_891 w_892
theorem sL_10 : siOK RL (.invokevirtual 49, 112, 4, 1, 122) := siV (ci := 6) (congrArg Prod.fst g_X6_running) (congrArg (fun z => z.2.2.2.1) g_X6_running) (by decide) cm_X6_running (by decide +kernel) rfl (by decide) rfl (by decide) (by decide +kernel) (by decide) w_906 w_907 w_908
theorem sL_11 : siOK RL (.invokevirtual 52, 113, 3, 1, 122) := siV (ci := 6) (congrArg Prod.fst g_X6_end) (congrArg (fun z => z.2.2.2.1) g_X6_end) (by decide) cm_X6_end (by decide +kernel) rfl (by decide) rfl (by decide) (by decide +kernel) (by decide) w_915 w_916 w_917
theorem sL_12 : siOK RL (.invokevirtual 55, 114, 2, 1, 122) := siV (ci := 6) (congrArg Prod.fst g_X6_whereIs) (congrArg (fun z => z.2.2.2.1) g_X6_whereIs) (by decide) cm_X6_whereIs (by decide +kernel) rfl (by decide) rfl (by decide) (by decide +kernel) (by decide) w_926 w_927 w_928
theorem sL_13 : siOK RL (.invokevirtual 58, 115, 2, 1, 122) := siV (ci := 6) (congrArg Prod.fst g_X6_next) (congrArg (fun z => z.2.2.2.1) g_X6_next) (by decide) cm_X6_next (by decide +kernel) rfl (by decide) rfl (by decide) (by decide +kernel) (by decide) w_953 w_954 w_955
theorem sL_14 : siOK RL (.invokevirtual 61, 116, 1, 1, 122) := siV (ci := 6) (congrArg Prod.fst g_X6_busiest) (congrArg (fun z => z.2.2.2.1) g_X6_busiest) (by decide) cm_X6_busiest (by decide +kernel) rfl (by decide) rfl (by decide) (by decide +kernel) (by decide) w_965 w_966 w_967
theorem sL_15 : siOK RL (.invokevirtual 65, 117, 2, 1, 122) := siV (ci := 6) (congrArg Prod.fst g_X6_tiredest) (congrArg (fun z => z.2.2.2.1) g_X6_tiredest) (by decide) cm_X6_tiredest (by decide +kernel) rfl (by decide) rfl (by decide) (by decide +kernel) (by decide) w_972 w_973 w_974
theorem sL_16 : siOK RL (.invokevirtual 68, 118, 1, 1, 122) := siV (ci := 6) (congrArg Prod.fst g_X6_oldest) (congrArg (fun z => z.2.2.2.1) g_X6_oldest) (by decide) cm_X6_oldest (by decide +kernel) rfl (by decide) rfl (by decide) (by decide +kernel) (by decide) w_979 w_980 w_981
theorem sL_17 : siOK RL (.invokevirtual 71, 119, 3, 1, 122) := siV (ci := 6) (congrArg Prod.fst g_X6_loser) (congrArg (fun z => z.2.2.2.1) g_X6_loser) (by decide) cm_X6_loser (by decide +kernel) rfl (by decide) rfl (by decide) (by decide +kernel) (by decide) w_986 w_987 w_988
theorem sL_18 : siOK RL (.invokevirtual 74, 120, 1, 4, 122) := siV (ci := 6) (congrArg Prod.fst g_X6_meanWait) (congrArg (fun z => z.2.2.2.1) g_X6_meanWait) (by decide) cm_X6_meanWait (by decide +kernel) rfl (by decide) rfl (by decide) (by decide +kernel) (by decide) w_994 w_995 w_996
theorem sL_19 : siOK RL (.invokevirtual 78, 121, 1, 3, 122) := siV (ci := 6) (congrArg Prod.fst g_X6_handledShare) (congrArg (fun z => z.2.2.2.1) g_X6_handledShare) (by decide) cm_X6_handledShare (by decide +kernel) rfl (by decide) rfl (by decide) (by decide +kernel) (by decide) w_1001 w_1002 w_1003
theorem sL_20 : siOK RL (.invokevirtual 82, 122, 2, 1, 122) := siV (ci := 6) (congrArg Prod.fst g_X6_raisers) (congrArg (fun z => z.2.2.2.1) g_X6_raisers) (by decide) cm_X6_raisers (by decide +kernel) rfl (by decide) rfl (by decide) (by decide +kernel) (by decide) w_1008 w_1009 w_1010
theorem sL_21 : siOK RL (.invokevirtual 85, 123, 2, 1, 122) := siV (ci := 6) (congrArg Prod.fst g_X6_idleIn) (congrArg (fun z => z.2.2.2.1) g_X6_idleIn) (by decide) cm_X6_idleIn (by decide +kernel) rfl (by decide) rfl (by decide) (by decide +kernel) (by decide) w_1021 w_1022 w_1023
theorem sL_22 : siOK RL (.invokevirtual 88, 124, 1, 1, 122) := siV (ci := 6) (congrArg Prod.fst g_X6_calmIn) (congrArg (fun z => z.2.2.2.1) g_X6_calmIn) (by decide) cm_X6_calmIn (by decide +kernel) rfl (by decide) rfl (by decide) (by decide +kernel) (by decide) w_1102 w_1103 w_1104
theorem sL_23 : siOK RL (.invokevirtual 91, 126, 2, 1, 122) := siV (ci := 6) (congrArg Prod.fst g_X6_endIn) (congrArg (fun z => z.2.2.2.1) g_X6_endIn) (by decide) cm_X6_endIn (by decide +kernel) rfl (by decide) rfl (by decide) (by decide +kernel) (by decide) w_1109 w_1110 w_1111
theorem sL_24 : siOK RL (.invokevirtual 94, 127, 2, 1, 122) := siV (ci := 6) (congrArg Prod.fst g_X6_endOf) (congrArg (fun z => z.2.2.2.1) g_X6_endOf) (by decide) cm_X6_endOf (by decide +kernel) rfl (by decide) rfl (by decide) (by decide +kernel) (by decide) w_1120 w_1121 w_1122
theorem sL_25 : siOK RL (.invokevirtual 97, 129, 3, 1, 122) := siV (ci := 6) (congrArg Prod.fst g_X6_endsIn) (congrArg (fun z => z.2.2.2.1) g_X6_endsIn) (by decide) cm_X6_endsIn (by decide +kernel) rfl (by decide) rfl (by decide) (by decide +kernel) (by decide) w_1127 w_1128 w_1129
theorem sL_26 : siOK RL (.invokevirtual 100, 130, 4, 1, 122) := siV (ci := 6) (congrArg Prod.fst g_X6_urgencyIn) (congrArg (fun z => z.2.2.2.1) g_X6_urgencyIn) (by decide) cm_X6_urgencyIn (by decide +kernel) rfl (by decide) rfl (by decide) (by decide +kernel) (by decide) w_1138 w_1139 w_1140
theorem sL_27 : siOK RL (.invokevirtual 103, 131, 2, 1, 122) := siV (ci := 6) (congrArg Prod.fst g_X6_sentIn) (congrArg (fun z => z.2.2.2.1) g_X6_sentIn) (by decide) cm_X6_sentIn (by decide +kernel) rfl (by decide) rfl (by decide) (by decide +kernel) (by decide) w_1145 w_1146 w_1147
theorem sL_28 : siOK RL (.invokevirtual 106, 133, 2, 1, 122) := siV (ci := 6) (congrArg Prod.fst g_X6_bestMask) (congrArg (fun z => z.2.2.2.1) g_X6_bestMask) (by decide) cm_X6_bestMask (by decide +kernel) rfl (by decide) rfl (by decide) (by decide +kernel) (by decide) w_1152 w_1153 w_1154
theorem sL_29 : siOK RL (.invokevirtual 109, 135, 2, 1, 122) := siV (ci := 6) (congrArg Prod.fst g_X6_writeQueue) (congrArg (fun z => z.2.2.2.1) g_X6_writeQueue) (by decide) cm_X6_writeQueue (by decide +kernel) rfl (by decide) rfl (by decide) (by decide +kernel) (by decide) w_1165 w_1166 w_1167
theorem sL_30 : siOK RL (.invokevirtual 112, 136, 2, 1, 122) := siV (ci := 6) (congrArg Prod.fst g_X6_writeStack) (congrArg (fun z => z.2.2.2.1) g_X6_writeStack) (by decide) cm_X6_writeStack (by decide +kernel) rfl (by decide) rfl (by decide) (by decide +kernel) (by decide) w_1197 w_1198 w_1199
theorem sL_31 : siOK RL (.invokevirtual 115, 137, 1, 1, 122) := siV (ci := 6) (congrArg Prod.fst g_X6_writeEnds) (congrArg (fun z => z.2.2.2.1) g_X6_writeEnds) (by decide) cm_X6_writeEnds (by decide +kernel) rfl (by decide) rfl (by decide) (by decide +kernel) (by decide) w_1204 w_1205 w_1206
theorem sL_32 : siOK RL (.invokevirtual 118, 139, 2, 1, 122) := siV (ci := 6) (congrArg Prod.fst g_X6_textByte) (congrArg (fun z => z.2.2.2.1) g_X6_textByte) (by decide) cm_X6_textByte (by decide +kernel) rfl (by decide) rfl (by decide) (by decide +kernel) (by decide) w_1217 w_1218 w_1219
theorem sL_33 : siOK RL (.invokevirtual 121, 140, 2, 1, 122) := siV (ci := 6) (congrArg Prod.fst g_X6_tick) (congrArg (fun z => z.2.2.2.1) g_X6_tick) (by decide) cm_X6_tick (by decide +kernel) rfl (by decide) rfl (by decide) (by decide +kernel) (by decide) w_1228 w_1229 w_1230
theorem sL_34 : siOK RL (.invokevirtual 124, 141, 4, 1, 122) := siV (ci := 6) (congrArg Prod.fst g_X6_send) (congrArg (fun z => z.2.2.2.1) g_X6_send) (by decide) cm_X6_send (by decide +kernel) rfl (by decide) rfl (by decide) (by decide +kernel) (by decide) w_1242 w_1243 w_1244
theorem sL_35 : siOK RL (.invokevirtual 127, 142, 4, 1, 122) := siV (ci := 6) (congrArg Prod.fst g_X6_mask) (congrArg (fun z => z.2.2.2.1) g_X6_mask) (by decide) cm_X6_mask (by decide +kernel) rfl (by decide) rfl (by decide) (by decide +kernel) (by decide) w_1250 w_1251 w_1252
theorem sL_36 : siOK RL (.invokevirtual 131, 143, 2, 1, 122) := siV (ci := 6) (congrArg Prod.fst g_X6_drop) (congrArg (fun z => z.2.2.2.1) g_X6_drop) (by decide) cm_X6_drop (by decide +kernel) rfl (by decide) rfl (by decide) (by decide +kernel) (by decide) w_1257 w_1258 w_1259
theorem sL_37 : siOK RL (.invokevirtual 134, 144, 2, 1, 122) := siV (ci := 6) (congrArg Prod.fst g_X6_clear) (congrArg (fun z => z.2.2.2.1) g_X6_clear) (by decide) cm_X6_clear (by decide +kernel) rfl (by decide) rfl (by decide) (by decide +kernel) (by decide) w_1270 w_1271 w_1272
theorem sL_38 : siOK RL (.invokevirtual 137, 145, 2, 1, 122) := siV (ci := 6) (congrArg Prod.fst g_X6_refresh) (congrArg (fun z => z.2.2.2.1) g_X6_refresh) (by decide) cm_X6_refresh (by decide +kernel) rfl (by decide) rfl (by decide) (by decide +kernel) (by decide) w_1281 w_1282 w_1283
theorem sL_39 : siOK RL (.invokevirtual 140, 146, 4, 1, 122) := siV (ci := 6) (congrArg Prod.fst g_X6_setKind) (congrArg (fun z => z.2.2.2.1) g_X6_setKind) (by decide) cm_X6_setKind (by decide +kernel) rfl (by decide) rfl (by decide) (by decide +kernel) (by decide) w_1292 w_1293 w_1294
theorem sL_40 : siOK RL (.invokevirtual 143, 147, 3, 1, 122) := siV (ci := 6) (congrArg Prod.fst g_X6_set) (congrArg (fun z => z.2.2.2.1) g_X6_set) (by decide) cm_X6_set (by decide +kernel) rfl (by decide) rfl (by decide) (by decide +kernel) (by decide) w_1302 w_1303 w_1304
theorem sL_41 : siOK RL (.invokevirtual 146, 148, 1, 1, 122) := siV (ci := 6) (congrArg Prod.fst g_X6_undo) (congrArg (fun z => z.2.2.2.1) g_X6_undo) (by decide) cm_X6_undo (by decide +kernel) rfl (by decide) rfl (by decide) (by decide +kernel) (by decide) w_1312 w_1313 w_1314
theorem sL_42 : siOK RL (.invokevirtual 149, 150, 2, 1, 122) := siV (ci := 6) (congrArg Prod.fst g_X6_save) (congrArg (fun z => z.2.2.2.1) g_X6_save) (by decide) cm_X6_save (by decide +kernel) rfl (by decide) rfl (by decide) (by decide +kernel) (by decide) w_1323 w_1324 w_1325
theorem sL_43 : siOK RL (.invokevirtual 152, 151, 2, 1, 122) := siV (ci := 6) (congrArg Prod.fst g_X6_restore) (congrArg (fun z => z.2.2.2.1) g_X6_restore) (by decide) cm_X6_restore (by decide +kernel) rfl (by decide) rfl (by decide) (by decide +kernel) (by decide) w_1330 w_1331 w_1332
theorem sL_44 : siOK RL (.new 8, 7, 15, 0, 0) := Or.inr ⟨by decide, by decide, by decide, w_141, w_142, w_121⟩
theorem sL_45 : siOK RL (.invokespecial 155, 95, 1, 0, 114) := siI (ci := 6) (congrArg Prod.fst g_X6_init) (congrArg (fun z => z.2.2.2.1) g_X6_init) (by decide) cm_X6_init (by decide +kernel) rfl rfl (by decide +kernel) (by decide) (by decide +kernel) (by decide) (Or.inl w_143) w_144
theorem sL_46 : siOK RL (.new 156, 8, 47, 0, 0) := Or.inr ⟨by decide, by decide, by decide, w_1334, w_1335, w_127⟩
theorem sL_47 : siOK RL (.invokespecial 158, 161, 1, 0, 131) := siI (ci := 7) (congrArg Prod.fst g_X7_init) (congrArg (fun z => z.2.2.2.1) g_X7_init) (by decide) cm_X7_init (by decide +kernel) rfl rfl (by decide +kernel) (by decide) (by decide +kernel) (by decide) (Or.inl w_1336) w_1337
theorem sL_48 : siOK RL (.newarray .long, 23, 0, 0, 0) := ⟨w_2021, by decide⟩
theorem sL_49 : siOK RL (.newarray .double, 24, 0, 0, 0) := ⟨w_2022, by decide⟩
theorem sL_50 : siOK RL (.invokevirtual 159, 96, 6, 1, 112) := siV (ci := 6) (congrArg Prod.fst g_X6_append) (congrArg (fun z => z.2.2.2.1) g_X6_append) (by decide) cm_X6_append (by decide +kernel) rfl (by decide) rfl (by decide) (by decide +kernel) (by decide) w_336 w_337 w_338
theorem sL_51 : siOK RL (.invokevirtual 163, 167, 6, 1, 128) := siV (ci := 7) (congrArg Prod.fst g_X7_append) (congrArg (fun z => z.2.2.2.1) g_X7_append) (by decide) cm_X7_append (by decide +kernel) rfl (by decide) rfl (by decide) (by decide +kernel) (by decide) w_1486 w_1487 w_1488
theorem sL_52 : siOK RL (.invokestatic 164, 294, 3, 1, 10) := siS (congrArg Prod.fst g_L_load) (congrArg (fun z => z.2.2.2.1) g_L_load) (by decide) cm_L_load (by decide +kernel) (by decide) (by decide +kernel) w_360 w_361
theorem sL_53 : siOK RL (.invokevirtual 169, 195, 2, 1, 128) := siV (ci := 7) (congrArg Prod.fst g_X7_load) (congrArg (fun z => z.2.2.2.1) g_X7_load) (by decide) cm_X7_load (by decide +kernel) rfl (by decide) rfl (by decide) (by decide +kernel) (by decide) w_1502 w_1503 w_1504
theorem sL_54 : siOK RL (.invokevirtual 170, 162, 1, 1, 128) := siV (ci := 7) (congrArg Prod.fst g_X7_thrown) (congrArg (fun z => z.2.2.2.1) g_X7_thrown) (by decide) cm_X7_thrown (by decide +kernel) rfl (by decide) rfl (by decide) (by decide +kernel) (by decide) w_1482 w_1483 w_1484
theorem sL_55 : siOK RL (.invokevirtual 173, 100, 1, 1, 112) := siV (ci := 6) (congrArg Prod.fst g_X6_parseError) (congrArg (fun z => z.2.2.2.1) g_X6_parseError) (by decide) cm_X6_parseError (by decide +kernel) rfl (by decide) rfl (by decide) (by decide +kernel) (by decide) w_344 w_345 w_346
theorem sL_56 : siOK RL (.invokevirtual 176, 169, 1, 1, 128) := siV (ci := 7) (congrArg Prod.fst g_X7_parseError) (congrArg (fun z => z.2.2.2.1) g_X7_parseError) (by decide) cm_X7_parseError (by decide +kernel) rfl (by decide) rfl (by decide) (by decide +kernel) (by decide) w_1494 w_1495 w_1496
theorem sL_57 : siOK RL (.invokevirtual 177, 101, 1, 1, 112) := siV (ci := 6) (congrArg Prod.fst g_X6_errorPosition) (congrArg (fun z => z.2.2.2.1) g_X6_errorPosition) (by decide) cm_X6_errorPosition (by decide +kernel) rfl (by decide) rfl (by decide) (by decide +kernel) (by decide) w_348 w_349 w_350
theorem sL_58 : siOK RL (.invokevirtual 180, 170, 1, 1, 128) := siV (ci := 7) (congrArg Prod.fst g_X7_errorPosition) (congrArg (fun z => z.2.2.2.1) g_X7_errorPosition) (by decide) cm_X7_errorPosition (by decide +kernel) rfl (by decide) rfl (by decide) (by decide +kernel) (by decide) w_1498 w_1499 w_1500
theorem sL_59 : siOK RL (.invokevirtual 181, 102, 1, 1, 112) := siV (ci := 6) (congrArg Prod.fst g_X6_buffered) (congrArg (fun z => z.2.2.2.1) g_X6_buffered) (by decide) cm_X6_buffered (by decide +kernel) rfl (by decide) rfl (by decide) (by decide +kernel) (by decide) w_352 w_353 w_354
theorem sL_60 : siOK RL (.invokevirtual 184, 168, 1, 1, 128) := siV (ci := 7) (congrArg Prod.fst g_X7_buffered) (congrArg (fun z => z.2.2.2.1) g_X7_buffered) (by decide) cm_X7_buffered (by decide +kernel) rfl (by decide) rfl (by decide) (by decide +kernel) (by decide) w_1490 w_1491 w_1492
theorem sL_61 : siOK RL (.invokestatic 185, 295, 4, 1, 10) := siS (congrArg Prod.fst g_L_find) (congrArg (fun z => z.2.2.2.1) g_L_find) (by decide) cm_L_find (by decide +kernel) (by decide) (by decide +kernel) w_751 w_752
theorem sL_62 : siOK RL (.invokevirtual 188, 196, 3, 1, 128) := siV (ci := 7) (congrArg Prod.fst g_X7_find) (congrArg (fun z => z.2.2.2.1) g_X7_find) (by decide) cm_X7_find (by decide +kernel) rfl (by decide) rfl (by decide) (by decide +kernel) (by decide) w_1669 w_1670 w_1671
theorem sL_63 : siOK RL (.invokestatic 189, 296, 3, 1, 10) := siS (congrArg Prod.fst g_L_count) (congrArg (fun z => z.2.2.2.1) g_L_count) (by decide) cm_L_count (by decide +kernel) (by decide) (by decide +kernel) w_780 w_781
theorem sL_64 : siOK RL (.invokevirtual 191, 222, 2, 1, 128) := siV (ci := 7) (congrArg Prod.fst g_X7_count) (congrArg (fun z => z.2.2.2.1) g_X7_count) (by decide) cm_X7_count (by decide +kernel) rfl (by decide) rfl (by decide) (by decide +kernel) (by decide) w_1677 w_1678 w_1679
theorem sL_65 : siOK RL (.invokestatic 192, 297, 3, 1, 10) := siS (congrArg Prod.fst g_L_setting) (congrArg (fun z => z.2.2.2.1) g_L_setting) (by decide) cm_L_setting (by decide +kernel) (by decide) (by decide +kernel) w_808 w_809
theorem sL_66 : siOK RL (.invokevirtual 194, 223, 2, 1, 128) := siV (ci := 7) (congrArg Prod.fst g_X7_setting) (congrArg (fun z => z.2.2.2.1) g_X7_setting) (by decide) cm_X7_setting (by decide +kernel) rfl (by decide) rfl (by decide) (by decide +kernel) (by decide) w_1690 w_1691 w_1692
theorem sL_67 : siOK RL (.invokestatic 195, 298, 4, 1, 10) := siS (congrArg Prod.fst g_L_kind) (congrArg (fun z => z.2.2.2.1) g_L_kind) (by decide) cm_L_kind (by decide +kernel) (by decide) (by decide +kernel) w_819 w_820
theorem sL_68 : siOK RL (.invokevirtual 198, 230, 3, 1, 128) := siV (ci := 7) (congrArg Prod.fst g_X7_kind) (congrArg (fun z => z.2.2.2.1) g_X7_kind) (by decide) cm_X7_kind (by decide +kernel) rfl (by decide) rfl (by decide) (by decide +kernel) (by decide) w_1694 w_1695 w_1696
theorem sL_69 : siOK RL (.invokestatic 199, 299, 4, 1, 10) := siS (congrArg Prod.fst g_L_program) (congrArg (fun z => z.2.2.2.1) g_L_program) (by decide) cm_L_program (by decide +kernel) (by decide) (by decide +kernel) w_834 w_835
theorem sL_70 : siOK RL (.invokevirtual 201, 232, 3, 1, 128) := siV (ci := 7) (congrArg Prod.fst g_X7_program) (congrArg (fun z => z.2.2.2.1) g_X7_program) (by decide) cm_X7_program (by decide +kernel) rfl (by decide) rfl (by decide) (by decide +kernel) (by decide) w_1706 w_1707 w_1708
theorem sL_71 : siOK RL (.invokestatic 202, 300, 5, 1, 10) := siS (congrArg Prod.fst g_L_handler) (congrArg (fun z => z.2.2.2.1) g_L_handler) (by decide) cm_L_handler (by decide +kernel) (by decide) (by decide +kernel) w_852 w_853
theorem sL_72 : siOK RL (.invokevirtual 205, 233, 4, 1, 128) := siV (ci := 7) (congrArg Prod.fst g_X7_handler) (congrArg (fun z => z.2.2.2.1) g_X7_handler) (by decide) cm_X7_handler (by decide +kernel) rfl (by decide) rfl (by decide) (by decide +kernel) (by decide) w_1722 w_1723 w_1724
theorem sL_73 : siOK RL (.invokestatic 206, 301, 4, 1, 10) := siS (congrArg Prod.fst g_L_urgency) (congrArg (fun z => z.2.2.2.1) g_L_urgency) (by decide) cm_L_urgency (by decide +kernel) (by decide) (by decide +kernel) w_868 w_869
theorem sL_74 : siOK RL (.invokevirtual 208, 234, 3, 1, 128) := siV (ci := 7) (congrArg Prod.fst g_X7_urgency) (congrArg (fun z => z.2.2.2.1) g_X7_urgency) (by decide) cm_X7_urgency (by decide +kernel) rfl (by decide) rfl (by decide) (by decide +kernel) (by decide) w_1730 w_1731 w_1732
theorem sL_75 : siOK RL (.invokestatic 209, 302, 4, 1, 10) := siS (congrArg Prod.fst g_L_tiredness) (congrArg (fun z => z.2.2.2.1) g_L_tiredness) (by decide) cm_L_tiredness (by decide +kernel) (by decide) (by decide +kernel) w_876 w_877
theorem sL_76 : siOK RL (.invokevirtual 211, 235, 3, 1, 128) := siV (ci := 7) (congrArg Prod.fst g_X7_tiredness) (congrArg (fun z => z.2.2.2.1) g_X7_tiredness) (by decide) cm_X7_tiredness (by decide +kernel) rfl (by decide) rfl (by decide) (by decide +kernel) (by decide) w_1734 w_1735 w_1736
theorem sL_77 : siOK RL (.invokestatic 212, 303, 5, 1, 10) := siS (congrArg Prod.fst g_L_queue) (congrArg (fun z => z.2.2.2.1) g_L_queue) (by decide) cm_L_queue (by decide +kernel) (by decide) (by decide +kernel) w_887 w_888
theorem sL_78 : siOK RL (.invokevirtual 214, 236, 4, 1, 128) := siV (ci := 7) (congrArg Prod.fst g_X7_queue) (congrArg (fun z => z.2.2.2.1) g_X7_queue) (by decide) cm_X7_queue (by decide +kernel) rfl (by decide) rfl (by decide) (by decide +kernel) (by decide) w_1738 w_1739 w_1740
theorem sL_79 : siOK RL (.invokestatic 215, 304, 5, 1, 10) := siS (congrArg Prod.fst g_L_running) (congrArg (fun z => z.2.2.2.1) g_L_running) (by decide) cm_L_running (by decide +kernel) (by decide) (by decide +kernel) w_903 w_904
theorem sL_80 : siOK RL (.invokevirtual 217, 237, 4, 1, 128) := siV (ci := 7) (congrArg Prod.fst g_X7_running) (congrArg (fun z => z.2.2.2.1) g_X7_running) (by decide) cm_X7_running (by decide +kernel) rfl (by decide) rfl (by decide) (by decide +kernel) (by decide) w_1742 w_1743 w_1744
theorem sL_81 : siOK RL (.invokestatic 218, 305, 4, 1, 10) := siS (congrArg Prod.fst g_L_end) (congrArg (fun z => z.2.2.2.1) g_L_end) (by decide) cm_L_end (by decide +kernel) (by decide) (by decide +kernel) w_912 w_913
theorem sL_82 : siOK RL (.invokevirtual 220, 239, 3, 1, 128) := siV (ci := 7) (congrArg Prod.fst g_X7_end) (congrArg (fun z => z.2.2.2.1) g_X7_end) (by decide) cm_X7_end (by decide +kernel) rfl (by decide) rfl (by decide) (by decide +kernel) (by decide) w_1750 w_1751 w_1752
theorem sL_83 : siOK RL (.invokestatic 221, 306, 3, 1, 10) := siS (congrArg Prod.fst g_L_whereIs) (congrArg (fun z => z.2.2.2.1) g_L_whereIs) (by decide) cm_L_whereIs (by decide +kernel) (by decide) (by decide +kernel) w_923 w_924
theorem sL_84 : siOK RL (.invokevirtual 223, 243, 2, 1, 128) := siV (ci := 7) (congrArg Prod.fst g_X7_whereIs) (congrArg (fun z => z.2.2.2.1) g_X7_whereIs) (by decide) cm_X7_whereIs (by decide +kernel) rfl (by decide) rfl (by decide) (by decide +kernel) (by decide) w_1758 w_1759 w_1760
theorem sL_85 : siOK RL (.invokestatic 224, 307, 3, 1, 10) := siS (congrArg Prod.fst g_L_next) (congrArg (fun z => z.2.2.2.1) g_L_next) (by decide) cm_L_next (by decide +kernel) (by decide) (by decide +kernel) w_950 w_951
theorem sL_86 : siOK RL (.invokevirtual 226, 244, 2, 1, 128) := siV (ci := 7) (congrArg Prod.fst g_X7_next) (congrArg (fun z => z.2.2.2.1) g_X7_next) (by decide) cm_X7_next (by decide +kernel) rfl (by decide) rfl (by decide) (by decide +kernel) (by decide) w_1778 w_1779 w_1780
theorem sL_87 : siOK RL (.invokestatic 227, 308, 2, 1, 10) := siS (congrArg Prod.fst g_L_busiest) (congrArg (fun z => z.2.2.2.1) g_L_busiest) (by decide) cm_L_busiest (by decide +kernel) (by decide) (by decide +kernel) w_962 w_963
theorem sL_88 : siOK RL (.invokevirtual 230, 245, 1, 1, 128) := siV (ci := 7) (congrArg Prod.fst g_X7_busiest) (congrArg (fun z => z.2.2.2.1) g_X7_busiest) (by decide) cm_X7_busiest (by decide +kernel) rfl (by decide) rfl (by decide) (by decide +kernel) (by decide) w_1790 w_1791 w_1792
theorem sL_89 : siOK RL (.invokestatic 231, 309, 3, 1, 10) := siS (congrArg Prod.fst g_L_tiredest) (congrArg (fun z => z.2.2.2.1) g_L_tiredest) (by decide) cm_L_tiredest (by decide +kernel) (by decide) (by decide +kernel) w_969 w_970
theorem sL_90 : siOK RL (.invokevirtual 233, 246, 2, 1, 128) := siV (ci := 7) (congrArg Prod.fst g_X7_tiredest) (congrArg (fun z => z.2.2.2.1) g_X7_tiredest) (by decide) cm_X7_tiredest (by decide +kernel) rfl (by decide) rfl (by decide) (by decide +kernel) (by decide) w_1794 w_1795 w_1796
theorem sL_91 : siOK RL (.invokestatic 234, 310, 2, 1, 10) := siS (congrArg Prod.fst g_L_oldest) (congrArg (fun z => z.2.2.2.1) g_L_oldest) (by decide) cm_L_oldest (by decide +kernel) (by decide) (by decide +kernel) w_976 w_977
theorem sL_92 : siOK RL (.invokevirtual 236, 247, 1, 1, 128) := siV (ci := 7) (congrArg Prod.fst g_X7_oldest) (congrArg (fun z => z.2.2.2.1) g_X7_oldest) (by decide) cm_X7_oldest (by decide +kernel) rfl (by decide) rfl (by decide) (by decide +kernel) (by decide) w_1798 w_1799 w_1800
theorem sL_93 : siOK RL (.invokestatic 237, 311, 4, 1, 10) := siS (congrArg Prod.fst g_L_loser) (congrArg (fun z => z.2.2.2.1) g_L_loser) (by decide) cm_L_loser (by decide +kernel) (by decide) (by decide +kernel) w_983 w_984
theorem sL_94 : siOK RL (.invokevirtual 239, 248, 3, 1, 128) := siV (ci := 7) (congrArg Prod.fst g_X7_loser) (congrArg (fun z => z.2.2.2.1) g_X7_loser) (by decide) cm_X7_loser (by decide +kernel) rfl (by decide) rfl (by decide) (by decide +kernel) (by decide) w_1802 w_1803 w_1804
theorem sL_95 : siOK RL (.invokestatic 240, 312, 2, 1, 10) := siS (congrArg Prod.fst g_L_meanWait) (congrArg (fun z => z.2.2.2.1) g_L_meanWait) (by decide) cm_L_meanWait (by decide +kernel) (by decide) (by decide +kernel) w_991 w_992
theorem sL_96 : siOK RL (.invokevirtual 243, 249, 1, 4, 128) := siV (ci := 7) (congrArg Prod.fst g_X7_meanWait) (congrArg (fun z => z.2.2.2.1) g_X7_meanWait) (by decide) cm_X7_meanWait (by decide +kernel) rfl (by decide) rfl (by decide) (by decide +kernel) (by decide) w_1806 w_1807 w_1808
theorem sL_97 : siOK RL (.invokestatic 244, 313, 2, 1, 10) := siS (congrArg Prod.fst g_L_handledShare) (congrArg (fun z => z.2.2.2.1) g_L_handledShare) (by decide) cm_L_handledShare (by decide +kernel) (by decide) (by decide +kernel) w_998 w_999
theorem sL_98 : siOK RL (.invokevirtual 246, 250, 1, 3, 128) := siV (ci := 7) (congrArg Prod.fst g_X7_handledShare) (congrArg (fun z => z.2.2.2.1) g_X7_handledShare) (by decide) cm_X7_handledShare (by decide +kernel) rfl (by decide) rfl (by decide) (by decide +kernel) (by decide) w_1810 w_1811 w_1812
theorem sL_99 : siOK RL (.invokestatic 247, 314, 3, 1, 10) := siS (congrArg Prod.fst g_L_raisers) (congrArg (fun z => z.2.2.2.1) g_L_raisers) (by decide) cm_L_raisers (by decide +kernel) (by decide) (by decide +kernel) w_1005 w_1006
theorem sL_100 : siOK RL (.invokevirtual 249, 252, 2, 1, 128) := siV (ci := 7) (congrArg Prod.fst g_X7_raisers) (congrArg (fun z => z.2.2.2.1) g_X7_raisers) (by decide) cm_X7_raisers (by decide +kernel) rfl (by decide) rfl (by decide) (by decide +kernel) (by decide) w_1814 w_1815 w_1816
theorem sL_101 : siOK RL (.invokestatic 250, 315, 3, 1, 10) := siS (congrArg Prod.fst g_L_idleIn) (congrArg (fun z => z.2.2.2.1) g_L_idleIn) (by decide) cm_L_idleIn (by decide +kernel) (by decide) (by decide +kernel) w_1018 w_1019
theorem sL_102 : siOK RL (.invokevirtual 252, 258, 2, 1, 128) := siV (ci := 7) (congrArg Prod.fst g_X7_idleIn) (congrArg (fun z => z.2.2.2.1) g_X7_idleIn) (by decide) cm_X7_idleIn (by decide +kernel) rfl (by decide) rfl (by decide) (by decide +kernel) (by decide) w_1822 w_1823 w_1824
theorem sL_103 : siOK RL (.invokestatic 253, 316, 2, 1, 10) := siS (congrArg Prod.fst g_L_calmIn) (congrArg (fun z => z.2.2.2.1) g_L_calmIn) (by decide) cm_L_calmIn (by decide +kernel) (by decide) (by decide +kernel) w_1099 w_1100
theorem sL_104 : siOK RL (.invokevirtual 255, 259, 1, 1, 128) := siV (ci := 7) (congrArg Prod.fst g_X7_calmIn) (congrArg (fun z => z.2.2.2.1) g_X7_calmIn) (by decide) cm_X7_calmIn (by decide +kernel) rfl (by decide) rfl (by decide) (by decide +kernel) (by decide) w_1878 w_1879 w_1880
theorem sL_105 : siOK RL (.invokestatic 256, 317, 3, 1, 10) := siS (congrArg Prod.fst g_L_endIn) (congrArg (fun z => z.2.2.2.1) g_L_endIn) (by decide) cm_L_endIn (by decide +kernel) (by decide) (by decide +kernel) w_1106 w_1107
theorem sL_106 : siOK RL (.invokevirtual 258, 261, 2, 1, 128) := siV (ci := 7) (congrArg Prod.fst g_X7_endIn) (congrArg (fun z => z.2.2.2.1) g_X7_endIn) (by decide) cm_X7_endIn (by decide +kernel) rfl (by decide) rfl (by decide) (by decide +kernel) (by decide) w_1882 w_1883 w_1884
theorem sL_107 : siOK RL (.invokestatic 259, 318, 3, 1, 10) := siS (congrArg Prod.fst g_L_endOf) (congrArg (fun z => z.2.2.2.1) g_L_endOf) (by decide) cm_L_endOf (by decide +kernel) (by decide) (by decide +kernel) w_1117 w_1118
theorem sL_108 : siOK RL (.invokevirtual 261, 262, 2, 1, 128) := siV (ci := 7) (congrArg Prod.fst g_X7_endOf) (congrArg (fun z => z.2.2.2.1) g_X7_endOf) (by decide) cm_X7_endOf (by decide +kernel) rfl (by decide) rfl (by decide) (by decide +kernel) (by decide) w_1890 w_1891 w_1892
theorem sL_109 : siOK RL (.invokestatic 262, 319, 4, 1, 10) := siS (congrArg Prod.fst g_L_endsIn) (congrArg (fun z => z.2.2.2.1) g_L_endsIn) (by decide) cm_L_endsIn (by decide +kernel) (by decide) (by decide +kernel) w_1124 w_1125
theorem sL_110 : siOK RL (.invokevirtual 264, 264, 3, 1, 128) := siV (ci := 7) (congrArg Prod.fst g_X7_endsIn) (congrArg (fun z => z.2.2.2.1) g_X7_endsIn) (by decide) cm_X7_endsIn (by decide +kernel) rfl (by decide) rfl (by decide) (by decide +kernel) (by decide) w_1894 w_1895 w_1896
theorem sL_111 : siOK RL (.invokestatic 265, 320, 5, 1, 10) := siS (congrArg Prod.fst g_L_urgencyIn) (congrArg (fun z => z.2.2.2.1) g_L_urgencyIn) (by decide) cm_L_urgencyIn (by decide +kernel) (by decide) (by decide +kernel) w_1135 w_1136
theorem sL_112 : siOK RL (.invokevirtual 267, 265, 4, 1, 128) := siV (ci := 7) (congrArg Prod.fst g_X7_urgencyIn) (congrArg (fun z => z.2.2.2.1) g_X7_urgencyIn) (by decide) cm_X7_urgencyIn (by decide +kernel) rfl (by decide) rfl (by decide) (by decide +kernel) (by decide) w_1906 w_1907 w_1908
theorem sL_113 : siOK RL (.invokestatic 268, 321, 3, 1, 10) := siS (congrArg Prod.fst g_L_sentIn) (congrArg (fun z => z.2.2.2.1) g_L_sentIn) (by decide) cm_L_sentIn (by decide +kernel) (by decide) (by decide +kernel) w_1142 w_1143
theorem sL_114 : siOK RL (.invokevirtual 270, 266, 2, 1, 128) := siV (ci := 7) (congrArg Prod.fst g_X7_sentIn) (congrArg (fun z => z.2.2.2.1) g_X7_sentIn) (by decide) cm_X7_sentIn (by decide +kernel) rfl (by decide) rfl (by decide) (by decide +kernel) (by decide) w_1910 w_1911 w_1912
theorem sL_115 : siOK RL (.invokestatic 271, 322, 3, 1, 10) := siS (congrArg Prod.fst g_L_bestMask) (congrArg (fun z => z.2.2.2.1) g_L_bestMask) (by decide) cm_L_bestMask (by decide +kernel) (by decide) (by decide +kernel) w_1149 w_1150
theorem sL_116 : siOK RL (.invokevirtual 273, 267, 2, 1, 128) := siV (ci := 7) (congrArg Prod.fst g_X7_bestMask) (congrArg (fun z => z.2.2.2.1) g_X7_bestMask) (by decide) cm_X7_bestMask (by decide +kernel) rfl (by decide) rfl (by decide) (by decide +kernel) (by decide) w_1914 w_1915 w_1916
theorem sL_117 : siOK RL (.invokestatic 274, 323, 3, 1, 10) := siS (congrArg Prod.fst g_L_writeQueue) (congrArg (fun z => z.2.2.2.1) g_L_writeQueue) (by decide) cm_L_writeQueue (by decide +kernel) (by decide) (by decide +kernel) w_1162 w_1163
theorem sL_118 : siOK RL (.invokevirtual 276, 272, 2, 1, 128) := siV (ci := 7) (congrArg Prod.fst g_X7_writeQueue) (congrArg (fun z => z.2.2.2.1) g_X7_writeQueue) (by decide) cm_X7_writeQueue (by decide +kernel) rfl (by decide) rfl (by decide) (by decide +kernel) (by decide) w_1918 w_1919 w_1920
theorem sL_119 : siOK RL (.invokestatic 277, 324, 3, 1, 10) := siS (congrArg Prod.fst g_L_writeStack) (congrArg (fun z => z.2.2.2.1) g_L_writeStack) (by decide) cm_L_writeStack (by decide +kernel) (by decide) (by decide +kernel) w_1194 w_1195
theorem sL_120 : siOK RL (.invokevirtual 279, 273, 2, 1, 128) := siV (ci := 7) (congrArg Prod.fst g_X7_writeStack) (congrArg (fun z => z.2.2.2.1) g_X7_writeStack) (by decide) cm_X7_writeStack (by decide +kernel) rfl (by decide) rfl (by decide) (by decide +kernel) (by decide) w_1938 w_1939 w_1940
theorem sL_121 : siOK RL (.invokestatic 280, 325, 2, 1, 10) := siS (congrArg Prod.fst g_L_writeEnds) (congrArg (fun z => z.2.2.2.1) g_L_writeEnds) (by decide) cm_L_writeEnds (by decide +kernel) (by decide) (by decide +kernel) w_1201 w_1202
theorem sL_122 : siOK RL (.invokevirtual 282, 275, 1, 1, 128) := siV (ci := 7) (congrArg Prod.fst g_X7_writeEnds) (congrArg (fun z => z.2.2.2.1) g_X7_writeEnds) (by decide) cm_X7_writeEnds (by decide +kernel) rfl (by decide) rfl (by decide) (by decide +kernel) (by decide) w_1942 w_1943 w_1944
theorem sL_123 : siOK RL (.invokestatic 283, 326, 3, 1, 10) := siS (congrArg Prod.fst g_L_textByte) (congrArg (fun z => z.2.2.2.1) g_L_textByte) (by decide) cm_L_textByte (by decide +kernel) (by decide) (by decide +kernel) w_1214 w_1215
theorem sL_124 : siOK RL (.invokevirtual 285, 276, 2, 1, 128) := siV (ci := 7) (congrArg Prod.fst g_X7_textByte) (congrArg (fun z => z.2.2.2.1) g_X7_textByte) (by decide) cm_X7_textByte (by decide +kernel) rfl (by decide) rfl (by decide) (by decide +kernel) (by decide) w_1949 w_1950 w_1951
theorem sL_125 : siOK RL (.invokestatic 286, 327, 3, 1, 10) := siS (congrArg Prod.fst g_L_tick) (congrArg (fun z => z.2.2.2.1) g_L_tick) (by decide) cm_L_tick (by decide +kernel) (by decide) (by decide +kernel) w_1225 w_1226
theorem sL_126 : siOK RL (.invokevirtual 288, 280, 2, 1, 128) := siV (ci := 7) (congrArg Prod.fst g_X7_tick) (congrArg (fun z => z.2.2.2.1) g_X7_tick) (by decide) cm_X7_tick (by decide +kernel) rfl (by decide) rfl (by decide) (by decide +kernel) (by decide) w_1953 w_1954 w_1955
theorem sL_127 : siOK RL (.invokestatic 289, 328, 5, 1, 10) := siS (congrArg Prod.fst g_L_send) (congrArg (fun z => z.2.2.2.1) g_L_send) (by decide) cm_L_send (by decide +kernel) (by decide) (by decide +kernel) w_1239 w_1240
theorem sL_128 : siOK RL (.invokevirtual 291, 281, 4, 1, 128) := siV (ci := 7) (congrArg Prod.fst g_X7_send) (congrArg (fun z => z.2.2.2.1) g_X7_send) (by decide) cm_X7_send (by decide +kernel) rfl (by decide) rfl (by decide) (by decide +kernel) (by decide) w_1965 w_1966 w_1967
theorem sL_129 : siOK RL (.invokestatic 292, 329, 5, 1, 10) := siS (congrArg Prod.fst g_L_mask) (congrArg (fun z => z.2.2.2.1) g_L_mask) (by decide) cm_L_mask (by decide +kernel) (by decide) (by decide +kernel) w_1247 w_1248
theorem sL_130 : siOK RL (.invokevirtual 295, 282, 4, 1, 128) := siV (ci := 7) (congrArg Prod.fst g_X7_mask) (congrArg (fun z => z.2.2.2.1) g_X7_mask) (by decide) cm_X7_mask (by decide +kernel) rfl (by decide) rfl (by decide) (by decide +kernel) (by decide) w_1969 w_1970 w_1971
theorem sL_131 : siOK RL (.invokestatic 296, 330, 3, 1, 10) := siS (congrArg Prod.fst g_L_drop) (congrArg (fun z => z.2.2.2.1) g_L_drop) (by decide) cm_L_drop (by decide +kernel) (by decide) (by decide +kernel) w_1254 w_1255
theorem sL_132 : siOK RL (.invokevirtual 298, 284, 2, 1, 128) := siV (ci := 7) (congrArg Prod.fst g_X7_drop) (congrArg (fun z => z.2.2.2.1) g_X7_drop) (by decide) cm_X7_drop (by decide +kernel) rfl (by decide) rfl (by decide) (by decide +kernel) (by decide) w_1973 w_1974 w_1975
theorem sL_133 : siOK RL (.invokestatic 299, 331, 3, 1, 10) := siS (congrArg Prod.fst g_L_clear) (congrArg (fun z => z.2.2.2.1) g_L_clear) (by decide) cm_L_clear (by decide +kernel) (by decide) (by decide +kernel) w_1267 w_1268
theorem sL_134 : siOK RL (.invokevirtual 301, 285, 2, 1, 128) := siV (ci := 7) (congrArg Prod.fst g_X7_clear) (congrArg (fun z => z.2.2.2.1) g_X7_clear) (by decide) cm_X7_clear (by decide +kernel) rfl (by decide) rfl (by decide) (by decide +kernel) (by decide) w_1981 w_1982 w_1983
theorem sL_135 : siOK RL (.invokestatic 302, 332, 3, 1, 10) := siS (congrArg Prod.fst g_L_refresh) (congrArg (fun z => z.2.2.2.1) g_L_refresh) (by decide) cm_L_refresh (by decide +kernel) (by decide) (by decide +kernel) w_1278 w_1279
theorem sL_136 : siOK RL (.invokevirtual 304, 286, 2, 1, 128) := siV (ci := 7) (congrArg Prod.fst g_X7_refresh) (congrArg (fun z => z.2.2.2.1) g_X7_refresh) (by decide) cm_X7_refresh (by decide +kernel) rfl (by decide) rfl (by decide) (by decide +kernel) (by decide) w_1985 w_1986 w_1987
theorem sL_137 : siOK RL (.invokestatic 305, 333, 5, 1, 10) := siS (congrArg Prod.fst g_L_setKind) (congrArg (fun z => z.2.2.2.1) g_L_setKind) (by decide) cm_L_setKind (by decide +kernel) (by decide) (by decide +kernel) w_1289 w_1290
theorem sL_138 : siOK RL (.invokevirtual 307, 288, 4, 1, 128) := siV (ci := 7) (congrArg Prod.fst g_X7_setKind) (congrArg (fun z => z.2.2.2.1) g_X7_setKind) (by decide) cm_X7_setKind (by decide +kernel) rfl (by decide) rfl (by decide) (by decide +kernel) (by decide) w_1989 w_1990 w_1991
theorem sL_139 : siOK RL (.invokestatic 308, 334, 4, 1, 10) := siS (congrArg Prod.fst g_L_set) (congrArg (fun z => z.2.2.2.1) g_L_set) (by decide) cm_L_set (by decide +kernel) (by decide) (by decide +kernel) w_1299 w_1300
theorem sL_140 : siOK RL (.invokevirtual 310, 289, 3, 1, 128) := siV (ci := 7) (congrArg Prod.fst g_X7_set) (congrArg (fun z => z.2.2.2.1) g_X7_set) (by decide) cm_X7_set (by decide +kernel) rfl (by decide) rfl (by decide) (by decide +kernel) (by decide) w_1997 w_1998 w_1999
theorem sL_141 : siOK RL (.invokestatic 311, 335, 2, 1, 10) := siS (congrArg Prod.fst g_L_undo) (congrArg (fun z => z.2.2.2.1) g_L_undo) (by decide) cm_L_undo (by decide +kernel) (by decide) (by decide +kernel) w_1309 w_1310
theorem sL_142 : siOK RL (.invokevirtual 313, 290, 1, 1, 128) := siV (ci := 7) (congrArg Prod.fst g_X7_undo) (congrArg (fun z => z.2.2.2.1) g_X7_undo) (by decide) cm_X7_undo (by decide +kernel) rfl (by decide) rfl (by decide) (by decide +kernel) (by decide) w_2001 w_2002 w_2003
theorem sL_143 : siOK RL (.invokevirtual 314, 149, 1, 1, 112) := siV (ci := 6) (congrArg Prod.fst g_X6_undoable) (congrArg (fun z => z.2.2.2.1) g_X6_undoable) (by decide) cm_X6_undoable (by decide +kernel) rfl (by decide) rfl (by decide) (by decide +kernel) (by decide) w_356 w_357 w_358
theorem sL_144 : siOK RL (.invokevirtual 317, 291, 1, 1, 128) := siV (ci := 7) (congrArg Prod.fst g_X7_undoable) (congrArg (fun z => z.2.2.2.1) g_X7_undoable) (by decide) cm_X7_undoable (by decide +kernel) rfl (by decide) rfl (by decide) (by decide +kernel) (by decide) w_2009 w_2010 w_2011
theorem sL_145 : siOK RL (.invokestatic 318, 336, 3, 1, 10) := siS (congrArg Prod.fst g_L_save) (congrArg (fun z => z.2.2.2.1) g_L_save) (by decide) cm_L_save (by decide +kernel) (by decide) (by decide +kernel) w_1320 w_1321
theorem sL_146 : siOK RL (.invokevirtual 320, 292, 2, 1, 128) := siV (ci := 7) (congrArg Prod.fst g_X7_save) (congrArg (fun z => z.2.2.2.1) g_X7_save) (by decide) cm_X7_save (by decide +kernel) rfl (by decide) rfl (by decide) (by decide +kernel) (by decide) w_2013 w_2014 w_2015
theorem sL_147 : siOK RL (.invokestatic 321, 337, 3, 1, 10) := siS (congrArg Prod.fst g_L_restore) (congrArg (fun z => z.2.2.2.1) g_L_restore) (by decide) cm_L_restore (by decide +kernel) (by decide) (by decide +kernel) w_1327 w_1328
theorem sL_148 : siOK RL (.invokevirtual 323, 293, 2, 1, 128) := siV (ci := 7) (congrArg Prod.fst g_X7_restore) (congrArg (fun z => z.2.2.2.1) g_X7_restore) (by decide) cm_X7_restore (by decide +kernel) rfl (by decide) rfl (by decide) (by decide +kernel) (by decide) w_2017 w_2018 w_2019
def ST_L : List (Instr × Nat × Nat × Nat × Nat) := [(.invokevirtual 7, 98, 2, 1, 122), (.invokevirtual 17, 103, 3, 1, 122), (.invokevirtual 23, 104, 2, 1, 122), (.invokevirtual 26, 105, 2, 1, 122), (.invokevirtual 29, 106, 3, 1, 122), (.invokevirtual 33, 107, 3, 1, 122), (.invokevirtual 36, 108, 4, 1, 122), (.invokevirtual 40, 109, 3, 1, 122), (.invokevirtual 43, 110, 3, 1, 122), (.invokevirtual 46, 111, 4, 1, 122), (.invokevirtual 49, 112, 4, 1, 122), (.invokevirtual 52, 113, 3, 1, 122), (.invokevirtual 55, 114, 2, 1, 122), (.invokevirtual 58, 115, 2, 1, 122), (.invokevirtual 61, 116, 1, 1, 122), (.invokevirtual 65, 117, 2, 1, 122), (.invokevirtual 68, 118, 1, 1, 122), (.invokevirtual 71, 119, 3, 1, 122), (.invokevirtual 74, 120, 1, 4, 122), (.invokevirtual 78, 121, 1, 3, 122), (.invokevirtual 82, 122, 2, 1, 122), (.invokevirtual 85, 123, 2, 1, 122), (.invokevirtual 88, 124, 1, 1, 122), (.invokevirtual 91, 126, 2, 1, 122), (.invokevirtual 94, 127, 2, 1, 122), (.invokevirtual 97, 129, 3, 1, 122), (.invokevirtual 100, 130, 4, 1, 122), (.invokevirtual 103, 131, 2, 1, 122), (.invokevirtual 106, 133, 2, 1, 122), (.invokevirtual 109, 135, 2, 1, 122), (.invokevirtual 112, 136, 2, 1, 122), (.invokevirtual 115, 137, 1, 1, 122), (.invokevirtual 118, 139, 2, 1, 122), (.invokevirtual 121, 140, 2, 1, 122), (.invokevirtual 124, 141, 4, 1, 122), (.invokevirtual 127, 142, 4, 1, 122), (.invokevirtual 131, 143, 2, 1, 122), (.invokevirtual 134, 144, 2, 1, 122), (.invokevirtual 137, 145, 2, 1, 122), (.invokevirtual 140, 146, 4, 1, 122), (.invokevirtual 143, 147, 3, 1, 122), (.invokevirtual 146, 148, 1, 1, 122), (.invokevirtual 149, 150, 2, 1, 122), (.invokevirtual 152, 151, 2, 1, 122), (.new 8, 7, 15, 0, 0), (.invokespecial 155, 95, 1, 0, 114), (.new 156, 8, 47, 0, 0), (.invokespecial 158, 161, 1, 0, 131), (.newarray .long, 23, 0, 0, 0), (.newarray .double, 24, 0, 0, 0), (.invokevirtual 159, 96, 6, 1, 112), (.invokevirtual 163, 167, 6, 1, 128), (.invokestatic 164, 294, 3, 1, 10), (.invokevirtual 169, 195, 2, 1, 128), (.invokevirtual 170, 162, 1, 1, 128), (.invokevirtual 173, 100, 1, 1, 112), (.invokevirtual 176, 169, 1, 1, 128), (.invokevirtual 177, 101, 1, 1, 112), (.invokevirtual 180, 170, 1, 1, 128), (.invokevirtual 181, 102, 1, 1, 112), (.invokevirtual 184, 168, 1, 1, 128), (.invokestatic 185, 295, 4, 1, 10), (.invokevirtual 188, 196, 3, 1, 128), (.invokestatic 189, 296, 3, 1, 10), (.invokevirtual 191, 222, 2, 1, 128), (.invokestatic 192, 297, 3, 1, 10), (.invokevirtual 194, 223, 2, 1, 128), (.invokestatic 195, 298, 4, 1, 10), (.invokevirtual 198, 230, 3, 1, 128), (.invokestatic 199, 299, 4, 1, 10), (.invokevirtual 201, 232, 3, 1, 128), (.invokestatic 202, 300, 5, 1, 10), (.invokevirtual 205, 233, 4, 1, 128), (.invokestatic 206, 301, 4, 1, 10), (.invokevirtual 208, 234, 3, 1, 128), (.invokestatic 209, 302, 4, 1, 10), (.invokevirtual 211, 235, 3, 1, 128), (.invokestatic 212, 303, 5, 1, 10), (.invokevirtual 214, 236, 4, 1, 128), (.invokestatic 215, 304, 5, 1, 10), (.invokevirtual 217, 237, 4, 1, 128), (.invokestatic 218, 305, 4, 1, 10), (.invokevirtual 220, 239, 3, 1, 128), (.invokestatic 221, 306, 3, 1, 10), (.invokevirtual 223, 243, 2, 1, 128), (.invokestatic 224, 307, 3, 1, 10), (.invokevirtual 226, 244, 2, 1, 128), (.invokestatic 227, 308, 2, 1, 10), (.invokevirtual 230, 245, 1, 1, 128), (.invokestatic 231, 309, 3, 1, 10), (.invokevirtual 233, 246, 2, 1, 128), (.invokestatic 234, 310, 2, 1, 10), (.invokevirtual 236, 247, 1, 1, 128), (.invokestatic 237, 311, 4, 1, 10), (.invokevirtual 239, 248, 3, 1, 128), (.invokestatic 240, 312, 2, 1, 10), (.invokevirtual 243, 249, 1, 4, 128), (.invokestatic 244, 313, 2, 1, 10), (.invokevirtual 246, 250, 1, 3, 128), (.invokestatic 247, 314, 3, 1, 10), (.invokevirtual 249, 252, 2, 1, 128), (.invokestatic 250, 315, 3, 1, 10), (.invokevirtual 252, 258, 2, 1, 128), (.invokestatic 253, 316, 2, 1, 10), (.invokevirtual 255, 259, 1, 1, 128), (.invokestatic 256, 317, 3, 1, 10), (.invokevirtual 258, 261, 2, 1, 128), (.invokestatic 259, 318, 3, 1, 10), (.invokevirtual 261, 262, 2, 1, 128), (.invokestatic 262, 319, 4, 1, 10), (.invokevirtual 264, 264, 3, 1, 128), (.invokestatic 265, 320, 5, 1, 10), (.invokevirtual 267, 265, 4, 1, 128), (.invokestatic 268, 321, 3, 1, 10), (.invokevirtual 270, 266, 2, 1, 128), (.invokestatic 271, 322, 3, 1, 10), (.invokevirtual 273, 267, 2, 1, 128), (.invokestatic 274, 323, 3, 1, 10), (.invokevirtual 276, 272, 2, 1, 128), (.invokestatic 277, 324, 3, 1, 10), (.invokevirtual 279, 273, 2, 1, 128), (.invokestatic 280, 325, 2, 1, 10), (.invokevirtual 282, 275, 1, 1, 128), (.invokestatic 283, 326, 3, 1, 10), (.invokevirtual 285, 276, 2, 1, 128), (.invokestatic 286, 327, 3, 1, 10), (.invokevirtual 288, 280, 2, 1, 128), (.invokestatic 289, 328, 5, 1, 10), (.invokevirtual 291, 281, 4, 1, 128), (.invokestatic 292, 329, 5, 1, 10), (.invokevirtual 295, 282, 4, 1, 128), (.invokestatic 296, 330, 3, 1, 10), (.invokevirtual 298, 284, 2, 1, 128), (.invokestatic 299, 331, 3, 1, 10), (.invokevirtual 301, 285, 2, 1, 128), (.invokestatic 302, 332, 3, 1, 10), (.invokevirtual 304, 286, 2, 1, 128), (.invokestatic 305, 333, 5, 1, 10), (.invokevirtual 307, 288, 4, 1, 128), (.invokestatic 308, 334, 4, 1, 10), (.invokevirtual 310, 289, 3, 1, 128), (.invokestatic 311, 335, 2, 1, 10), (.invokevirtual 313, 290, 1, 1, 128), (.invokevirtual 314, 149, 1, 1, 112), (.invokevirtual 317, 291, 1, 1, 128), (.invokestatic 318, 336, 3, 1, 10), (.invokevirtual 320, 292, 2, 1, 128), (.invokestatic 321, 337, 3, 1, 10), (.invokevirtual 323, 293, 2, 1, 128)]
set_option maxRecDepth 100000 in
theorem SI_L : ∀ z ∈ ST_L, siOK RL z := List.forall_mem_cons.mpr ⟨sL_0, List.forall_mem_cons.mpr ⟨sL_1, List.forall_mem_cons.mpr ⟨sL_2, List.forall_mem_cons.mpr ⟨sL_3, List.forall_mem_cons.mpr ⟨sL_4, List.forall_mem_cons.mpr ⟨sL_5, List.forall_mem_cons.mpr ⟨sL_6, List.forall_mem_cons.mpr ⟨sL_7, List.forall_mem_cons.mpr ⟨sL_8, List.forall_mem_cons.mpr ⟨sL_9, List.forall_mem_cons.mpr ⟨sL_10, List.forall_mem_cons.mpr ⟨sL_11, List.forall_mem_cons.mpr ⟨sL_12, List.forall_mem_cons.mpr ⟨sL_13, List.forall_mem_cons.mpr ⟨sL_14, List.forall_mem_cons.mpr ⟨sL_15, List.forall_mem_cons.mpr ⟨sL_16, List.forall_mem_cons.mpr ⟨sL_17, List.forall_mem_cons.mpr ⟨sL_18, List.forall_mem_cons.mpr ⟨sL_19, List.forall_mem_cons.mpr ⟨sL_20, List.forall_mem_cons.mpr ⟨sL_21, List.forall_mem_cons.mpr ⟨sL_22, List.forall_mem_cons.mpr ⟨sL_23, List.forall_mem_cons.mpr ⟨sL_24, List.forall_mem_cons.mpr ⟨sL_25, List.forall_mem_cons.mpr ⟨sL_26, List.forall_mem_cons.mpr ⟨sL_27, List.forall_mem_cons.mpr ⟨sL_28, List.forall_mem_cons.mpr ⟨sL_29, List.forall_mem_cons.mpr ⟨sL_30, List.forall_mem_cons.mpr ⟨sL_31, List.forall_mem_cons.mpr ⟨sL_32, List.forall_mem_cons.mpr ⟨sL_33, List.forall_mem_cons.mpr ⟨sL_34, List.forall_mem_cons.mpr ⟨sL_35, List.forall_mem_cons.mpr ⟨sL_36, List.forall_mem_cons.mpr ⟨sL_37, List.forall_mem_cons.mpr ⟨sL_38, List.forall_mem_cons.mpr ⟨sL_39, List.forall_mem_cons.mpr ⟨sL_40, List.forall_mem_cons.mpr ⟨sL_41, List.forall_mem_cons.mpr ⟨sL_42, List.forall_mem_cons.mpr ⟨sL_43, List.forall_mem_cons.mpr ⟨sL_44, List.forall_mem_cons.mpr ⟨sL_45, List.forall_mem_cons.mpr ⟨sL_46, List.forall_mem_cons.mpr ⟨sL_47, List.forall_mem_cons.mpr ⟨sL_48, List.forall_mem_cons.mpr ⟨sL_49, List.forall_mem_cons.mpr ⟨sL_50, List.forall_mem_cons.mpr ⟨sL_51, List.forall_mem_cons.mpr ⟨sL_52, List.forall_mem_cons.mpr ⟨sL_53, List.forall_mem_cons.mpr ⟨sL_54, List.forall_mem_cons.mpr ⟨sL_55, List.forall_mem_cons.mpr ⟨sL_56, List.forall_mem_cons.mpr ⟨sL_57, List.forall_mem_cons.mpr ⟨sL_58, List.forall_mem_cons.mpr ⟨sL_59, List.forall_mem_cons.mpr ⟨sL_60, List.forall_mem_cons.mpr ⟨sL_61, List.forall_mem_cons.mpr ⟨sL_62, List.forall_mem_cons.mpr ⟨sL_63, List.forall_mem_cons.mpr ⟨sL_64, List.forall_mem_cons.mpr ⟨sL_65, List.forall_mem_cons.mpr ⟨sL_66, List.forall_mem_cons.mpr ⟨sL_67, List.forall_mem_cons.mpr ⟨sL_68, List.forall_mem_cons.mpr ⟨sL_69, List.forall_mem_cons.mpr ⟨sL_70, List.forall_mem_cons.mpr ⟨sL_71, List.forall_mem_cons.mpr ⟨sL_72, List.forall_mem_cons.mpr ⟨sL_73, List.forall_mem_cons.mpr ⟨sL_74, List.forall_mem_cons.mpr ⟨sL_75, List.forall_mem_cons.mpr ⟨sL_76, List.forall_mem_cons.mpr ⟨sL_77, List.forall_mem_cons.mpr ⟨sL_78, List.forall_mem_cons.mpr ⟨sL_79, List.forall_mem_cons.mpr ⟨sL_80, List.forall_mem_cons.mpr ⟨sL_81, List.forall_mem_cons.mpr ⟨sL_82, List.forall_mem_cons.mpr ⟨sL_83, List.forall_mem_cons.mpr ⟨sL_84, List.forall_mem_cons.mpr ⟨sL_85, List.forall_mem_cons.mpr ⟨sL_86, List.forall_mem_cons.mpr ⟨sL_87, List.forall_mem_cons.mpr ⟨sL_88, List.forall_mem_cons.mpr ⟨sL_89, List.forall_mem_cons.mpr ⟨sL_90, List.forall_mem_cons.mpr ⟨sL_91, List.forall_mem_cons.mpr ⟨sL_92, List.forall_mem_cons.mpr ⟨sL_93, List.forall_mem_cons.mpr ⟨sL_94, List.forall_mem_cons.mpr ⟨sL_95, List.forall_mem_cons.mpr ⟨sL_96, List.forall_mem_cons.mpr ⟨sL_97, List.forall_mem_cons.mpr ⟨sL_98, List.forall_mem_cons.mpr ⟨sL_99, List.forall_mem_cons.mpr ⟨sL_100, List.forall_mem_cons.mpr ⟨sL_101, List.forall_mem_cons.mpr ⟨sL_102, List.forall_mem_cons.mpr ⟨sL_103, List.forall_mem_cons.mpr ⟨sL_104, List.forall_mem_cons.mpr ⟨sL_105, List.forall_mem_cons.mpr ⟨sL_106, List.forall_mem_cons.mpr ⟨sL_107, List.forall_mem_cons.mpr ⟨sL_108, List.forall_mem_cons.mpr ⟨sL_109, List.forall_mem_cons.mpr ⟨sL_110, List.forall_mem_cons.mpr ⟨sL_111, List.forall_mem_cons.mpr ⟨sL_112, List.forall_mem_cons.mpr ⟨sL_113, List.forall_mem_cons.mpr ⟨sL_114, List.forall_mem_cons.mpr ⟨sL_115, List.forall_mem_cons.mpr ⟨sL_116, List.forall_mem_cons.mpr ⟨sL_117, List.forall_mem_cons.mpr ⟨sL_118, List.forall_mem_cons.mpr ⟨sL_119, List.forall_mem_cons.mpr ⟨sL_120, List.forall_mem_cons.mpr ⟨sL_121, List.forall_mem_cons.mpr ⟨sL_122, List.forall_mem_cons.mpr ⟨sL_123, List.forall_mem_cons.mpr ⟨sL_124, List.forall_mem_cons.mpr ⟨sL_125, List.forall_mem_cons.mpr ⟨sL_126, List.forall_mem_cons.mpr ⟨sL_127, List.forall_mem_cons.mpr ⟨sL_128, List.forall_mem_cons.mpr ⟨sL_129, List.forall_mem_cons.mpr ⟨sL_130, List.forall_mem_cons.mpr ⟨sL_131, List.forall_mem_cons.mpr ⟨sL_132, List.forall_mem_cons.mpr ⟨sL_133, List.forall_mem_cons.mpr ⟨sL_134, List.forall_mem_cons.mpr ⟨sL_135, List.forall_mem_cons.mpr ⟨sL_136, List.forall_mem_cons.mpr ⟨sL_137, List.forall_mem_cons.mpr ⟨sL_138, List.forall_mem_cons.mpr ⟨sL_139, List.forall_mem_cons.mpr ⟨sL_140, List.forall_mem_cons.mpr ⟨sL_141, List.forall_mem_cons.mpr ⟨sL_142, List.forall_mem_cons.mpr ⟨sL_143, List.forall_mem_cons.mpr ⟨sL_144, List.forall_mem_cons.mpr ⟨sL_145, List.forall_mem_cons.mpr ⟨sL_146, List.forall_mem_cons.mpr ⟨sL_147, List.forall_mem_cons.mpr ⟨sL_148, fun _ h => absurd h List.not_mem_nil⟩⟩⟩⟩⟩⟩⟩⟩⟩⟩⟩⟩⟩⟩⟩⟩⟩⟩⟩⟩⟩⟩⟩⟩⟩⟩⟩⟩⟩⟩⟩⟩⟩⟩⟩⟩⟩⟩⟩⟩⟩⟩⟩⟩⟩⟩⟩⟩⟩⟩⟩⟩⟩⟩⟩⟩⟩⟩⟩⟩⟩⟩⟩⟩⟩⟩⟩⟩⟩⟩⟩⟩⟩⟩⟩⟩⟩⟩⟩⟩⟩⟩⟩⟩⟩⟩⟩⟩⟩⟩⟩⟩⟩⟩⟩⟩⟩⟩⟩⟩⟩⟩⟩⟩⟩⟩⟩⟩⟩⟩⟩⟩⟩⟩⟩⟩⟩⟩⟩⟩⟩⟩⟩⟩⟩⟩⟩⟩⟩⟩⟩⟩⟩⟩⟩⟩⟩⟩⟩⟩⟩⟩⟩⟩⟩⟩⟩⟩⟩
theorem okI_all {y : MethodName} {cc : ByteArray} {ret : Option FieldType} {full : List PI} {ST : List (Instr × Nat × Nat × Nat × Nat)} (hS : ∀ z ∈ ST, siOK y.cls z) (hb : full.all (okB y cc ret) = true) (ps : List Nat) (h : full.filterMap siteOf = ps.filterMap (fun i => ST[i]?)) (ht : ∀ q ∈ full, ∀ idx, q.2.1 = .new idx → 90 ≤ q.2.2.2.1 → thrOK y.cls cc q.1 idx (q.2.2.2.1 - 90)) : ∀ q ∈ full, okI MTq BQ 338 y cc ret q := fun q hq =>
  okI_of (List.all_eq_true.mp hb q hq) (sites_ok hS ps h q hq) (ht q hq)
/-- a method that doesn't throw itself -/
theorem tabOK_of {q : MI} {full : List PI} {hd : PX} {ST : List (Instr × Nat × Nat × Nat × Nat)} (hS : ∀ z ∈ ST, siOK q.1.cls z) (hb : full.all (okB q.1 q.2.1 q.2.2.2.1) = true) (ps : List Nat) (h : full.filterMap siteOf = ps.filterMap (fun i => ST[i]?)) (hn : noThr full = true) (hs : seqB full = true) (hp : plainName q.1.cls = true) (hh : hAll q.1.cls q.2.1 q.2.2.1 q.2.2.2.2 hd) : tabOK MTq BQ 338 q full hd :=
  ⟨okI_all hS hb ps h (fun x hx idx e h9 => absurd h9 (Nat.not_le.mpr (noThr_spec hn x hx idx e))), hs, hh, hp, fun _ => noThr_spec hn⟩
theorem t_X0_init : tabOK MTq BQ 338 q_X0_init k_X0_init [] := tabOK_of SI_X0 (by decide +kernel) [0, 1, 2, 1, 3, 1, 4, 1, 5, 1, 6, 7, 8, 9, 7, 8, 10, 1, 11, 1, 12, 13, 14] (by decide +kernel) (by decide +kernel) (by decide +kernel) (by decide +kernel) trivial
theorem t_X0_empty : tabOK MTq BQ 338 q_X0_empty k_X0_empty [] := tabOK_of SI_X0 (by decide +kernel) [15, 16, 17, 16, 18, 16, 19, 16, 20, 16, 21, 16, 22, 23, 24, 23, 25, 26, 27, 28, 13, 14] (by decide +kernel) (by decide +kernel) (by decide +kernel) (by decide +kernel) trivial
theorem t_X0_fillWithZeros : tabOK MTq BQ 338 q_X0_fillWithZeros k_X0_fillWithZeros [] := tabOK_of SI_X0 (by decide +kernel) [] (by decide +kernel) (by decide +kernel) (by decide +kernel) (by decide +kernel) trivial
theorem t_X0_copyFrom : tabOK MTq BQ 338 q_X0_copyFrom k_X0_copyFrom [] := tabOK_of SI_X0 (by decide +kernel) [15, 15, 29, 17, 17, 29, 18, 18, 29, 19, 19, 29, 20, 20, 29, 21, 21, 29, 30, 30, 29, 22, 22, 31, 24, 24, 31, 32, 25, 33, 26, 34, 27, 35, 28, 13, 14] (by decide +kernel) (by decide +kernel) (by decide +kernel) (by decide +kernel) trivial
theorem t_X0_copyRow : tabOK MTq BQ 338 q_X0_copyRow k_X0_copyRow [] := tabOK_of SI_X0 (by decide +kernel) [36, 37] (by decide +kernel) (by decide +kernel) (by decide +kernel) (by decide +kernel) trivial
theorem t_X0_settingOf : tabOK MTq BQ 338 q_X0_settingOf k_X0_settingOf [] := tabOK_of SI_X0 (by decide +kernel) [15, 15] (by decide +kernel) (by decide +kernel) (by decide +kernel) (by decide +kernel) trivial
theorem t_X0_putSetting : tabOK MTq BQ 338 q_X0_putSetting k_X0_putSetting [] := tabOK_of SI_X0 (by decide +kernel) [15, 15] (by decide +kernel) (by decide +kernel) (by decide +kernel) (by decide +kernel) trivial
theorem t_X0_kindNumber : tabOK MTq BQ 338 q_X0_kindNumber k_X0_kindNumber [] := tabOK_of SI_X0 (by decide +kernel) [17, 17] (by decide +kernel) (by decide +kernel) (by decide +kernel) (by decide +kernel) trivial
theorem t_X0_putKindNumber : tabOK MTq BQ 338 q_X0_putKindNumber k_X0_putKindNumber [] := tabOK_of SI_X0 (by decide +kernel) [17, 17] (by decide +kernel) (by decide +kernel) (by decide +kernel) (by decide +kernel) trivial
theorem t_X0_tiredOf : tabOK MTq BQ 338 q_X0_tiredOf k_X0_tiredOf [] := tabOK_of SI_X0 (by decide +kernel) [18, 18] (by decide +kernel) (by decide +kernel) (by decide +kernel) (by decide +kernel) trivial
theorem t_X0_urgencyOf : tabOK MTq BQ 338 q_X0_urgencyOf k_X0_urgencyOf [] := tabOK_of SI_X0 (by decide +kernel) [17, 18] (by decide +kernel) (by decide +kernel) (by decide +kernel) (by decide +kernel) trivial
theorem t_X0_maskOf : tabOK MTq BQ 338 q_X0_maskOf k_X0_maskOf [] := tabOK_of SI_X0 (by decide +kernel) [19, 19] (by decide +kernel) (by decide +kernel) (by decide +kernel) (by decide +kernel) trivial
theorem t_X0_isMasked : tabOK MTq BQ 338 q_X0_isMasked k_X0_isMasked [] := tabOK_of SI_X0 (by decide +kernel) [38] (by decide +kernel) (by decide +kernel) (by decide +kernel) (by decide +kernel) trivial
theorem t_X0_putMask : tabOK MTq BQ 338 q_X0_putMask k_X0_putMask [] := tabOK_of SI_X0 (by decide +kernel) [19, 19, 19, 19] (by decide +kernel) (by decide +kernel) (by decide +kernel) (by decide +kernel) trivial
theorem t_X0_tally : tabOK MTq BQ 338 q_X0_tally k_X0_tally [] := tabOK_of SI_X0 (by decide +kernel) [20, 20] (by decide +kernel) (by decide +kernel) (by decide +kernel) (by decide +kernel) trivial
theorem t_X0_addToTally : tabOK MTq BQ 338 q_X0_addToTally k_X0_addToTally [] := tabOK_of SI_X0 (by decide +kernel) [20, 20] (by decide +kernel) (by decide +kernel) (by decide +kernel) (by decide +kernel) trivial
theorem t_X0_endedBy : tabOK MTq BQ 338 q_X0_endedBy k_X0_endedBy [] := tabOK_of SI_X0 (by decide +kernel) [21, 21] (by decide +kernel) (by decide +kernel) (by decide +kernel) (by decide +kernel) trivial
theorem t_X0_told : tabOK MTq BQ 338 q_X0_told k_X0_told [] := tabOK_of SI_X0 (by decide +kernel) [32, 32] (by decide +kernel) (by decide +kernel) (by decide +kernel) (by decide +kernel) trivial
theorem t_X0_endPart : tabOK MTq BQ 338 q_X0_endPart k_X0_endPart [] := tabOK_of SI_X0 (by decide +kernel) [32, 30, 30] (by decide +kernel) (by decide +kernel) (by decide +kernel) (by decide +kernel) trivial
theorem t_X0_toldEndOf : tabOK MTq BQ 338 q_X0_toldEndOf k_X0_toldEndOf [] := tabOK_of SI_X0 (by decide +kernel) [39, 40, 40] (by decide +kernel) (by decide +kernel) (by decide +kernel) (by decide +kernel) trivial
theorem t_X0_areIdle : tabOK MTq BQ 338 q_X0_areIdle k_X0_areIdle [] := tabOK_of SI_X0 (by decide +kernel) [22, 41, 24, 41] (by decide +kernel) (by decide +kernel) (by decide +kernel) (by decide +kernel) trivial
theorem t_X0_firstUnmasked : tabOK MTq BQ 338 q_X0_firstUnmasked k_X0_firstUnmasked [] := tabOK_of SI_X0 (by decide +kernel) [22, 41, 22, 42, 43, 44] (by decide +kernel) (by decide +kernel) (by decide +kernel) (by decide +kernel) trivial
theorem t_X0_lastInOrder : tabOK MTq BQ 338 q_X0_lastInOrder k_X0_lastInOrder [] := tabOK_of SI_X0 (by decide +kernel) [22, 41, 22, 42, 43] (by decide +kernel) (by decide +kernel) (by decide +kernel) (by decide +kernel) trivial
theorem t_X0_placeInOrder : tabOK MTq BQ 338 q_X0_placeInOrder k_X0_placeInOrder [] := tabOK_of SI_X0 (by decide +kernel) [22, 41, 45] (by decide +kernel) (by decide +kernel) (by decide +kernel) (by decide +kernel) trivial
theorem t_X0_comesBefore : tabOK MTq BQ 338 q_X0_comesBefore k_X0_comesBefore [] := tabOK_of SI_X0 (by decide +kernel) [22, 42, 43, 22, 42, 43] (by decide +kernel) (by decide +kernel) (by decide +kernel) (by decide +kernel) trivial
theorem t_X0_sendSignal : tabOK MTq BQ 338 q_X0_sendSignal k_X0_sendSignal [] := tabOK_of SI_X0 (by decide +kernel) [22, 46, 34, 34, 27, 22, 47, 22, 47, 22, 47, 22, 47, 22, 33, 47, 48, 48, 22, 41, 15, 22, 49, 50] (by decide +kernel) (by decide +kernel) (by decide +kernel) (by decide +kernel) trivial
theorem t_X0_endSignal : tabOK MTq BQ 338 q_X0_endSignal k_X0_endSignal [] := tabOK_of SI_X0 (by decide +kernel) [42, 32, 30, 21, 30, 30, 30, 33, 30, 30, 42, 32, 25, 21, 48, 35, 33, 42, 28, 51, 14, 52] (by decide +kernel) (by decide +kernel) (by decide +kernel) (by decide +kernel) trivial
theorem t_X0_dropFrom : tabOK MTq BQ 338 q_X0_dropFrom k_X0_dropFrom [] := tabOK_of SI_X0 (by decide +kernel) [53, 54, 50] (by decide +kernel) (by decide +kernel) (by decide +kernel) (by decide +kernel) trivial
theorem t_X0_dropAll : tabOK MTq BQ 338 q_X0_dropAll k_X0_dropAll [] := tabOK_of SI_X0 (by decide +kernel) [22, 41, 22, 50] (by decide +kernel) (by decide +kernel) (by decide +kernel) (by decide +kernel) trivial
theorem t_X0_dropKind : tabOK MTq BQ 338 q_X0_dropKind k_X0_dropKind [] := tabOK_of SI_X0 (by decide +kernel) [22, 41, 22, 42, 22, 50] (by decide +kernel) (by decide +kernel) (by decide +kernel) (by decide +kernel) trivial
theorem t_X0_takeTirednessAway : tabOK MTq BQ 338 q_X0_takeTirednessAway k_X0_takeTirednessAway [] := tabOK_of SI_X0 (by decide +kernel) [18, 18, 18] (by decide +kernel) (by decide +kernel) (by decide +kernel) (by decide +kernel) trivial
theorem t_X0_passTick : tabOK MTq BQ 338 q_X0_passTick k_X0_passTick [] := tabOK_of SI_X0 (by decide +kernel) [33, 26, 15, 33, 55, 56, 57, 58, 59, 60] (by decide +kernel) (by decide +kernel) (by decide +kernel) (by decide +kernel) trivial
theorem t_X0_recover : tabOK MTq BQ 338 q_X0_recover k_X0_recover [] := tabOK_of SI_X0 (by decide +kernel) [18, 18, 18] (by decide +kernel) (by decide +kernel) (by decide +kernel) (by decide +kernel) trivial
theorem t_X0_loseAged : tabOK MTq BQ 338 q_X0_loseAged k_X0_loseAged [] := tabOK_of SI_X0 (by decide +kernel) [22, 41, 33, 22, 42, 22, 42, 61, 22, 50] (by decide +kernel) (by decide +kernel) (by decide +kernel) (by decide +kernel) trivial
theorem t_X0_beginNext : tabOK MTq BQ 338 q_X0_beginNext k_X0_beginNext [] := tabOK_of SI_X0 (by decide +kernel) [62, 22, 42, 43, 63, 64, 65, 22, 50] (by decide +kernel) (by decide +kernel) (by decide +kernel) (by decide +kernel) trivial
theorem t_X0_mayBegin : tabOK MTq BQ 338 q_X0_mayBegin k_X0_mayBegin [] := tabOK_of SI_X0 (by decide +kernel) [24, 41, 15, 24, 42, 15] (by decide +kernel) (by decide +kernel) (by decide +kernel) (by decide +kernel) trivial
theorem t_X0_pushHandler : tabOK MTq BQ 338 q_X0_pushHandler k_X0_pushHandler [] := tabOK_of SI_X0 (by decide +kernel) [24, 46, 24, 22, 42, 47, 24, 47, 24, 47, 22, 52] (by decide +kernel) (by decide +kernel) (by decide +kernel) (by decide +kernel) trivial
theorem t_X0_workOnTop : tabOK MTq BQ 338 q_X0_workOnTop k_X0_workOnTop [] := tabOK_of SI_X0 (by decide +kernel) [24, 41, 24, 42, 24, 47, 24, 42, 24, 42, 66, 24, 50, 67, 68] (by decide +kernel) (by decide +kernel) (by decide +kernel) (by decide +kernel) trivial
theorem t_X0_tire : tabOK MTq BQ 338 q_X0_tire k_X0_tire [] := tabOK_of SI_X0 (by decide +kernel) [18, 18, 61, 18] (by decide +kernel) (by decide +kernel) (by decide +kernel) (by decide +kernel) trivial
theorem t_X0_doAct : tabOK MTq BQ 338 q_X0_doAct k_X0_doAct [] := tabOK_of SI_X0 (by decide +kernel) [69, 69, 69, 69, 70, 71, 71, 72] (by decide +kernel) (by decide +kernel) (by decide +kernel) (by decide +kernel) trivial
theorem t_X1_init : tabOK MTq BQ 338 q_X1_init k_X1_init [] := tabOK_of SI_X1 (by decide +kernel) [0, 1, 2, 3, 4, 1, 5] (by decide +kernel) (by decide +kernel) (by decide +kernel) (by decide +kernel) trivial
theorem t_X1_empty : tabOK MTq BQ 338 q_X1_empty k_X1_empty [] := tabOK_of SI_X1 (by decide +kernel) [6, 6] (by decide +kernel) (by decide +kernel) (by decide +kernel) (by decide +kernel) trivial
theorem t_X1_copyFrom : tabOK MTq BQ 338 q_X1_copyFrom k_X1_copyFrom [] := tabOK_of SI_X1 (by decide +kernel) [6, 6, 6, 6, 7, 8, 9, 9, 9, 9, 7, 8] (by decide +kernel) (by decide +kernel) (by decide +kernel) (by decide +kernel) trivial
theorem t_X1_sizeOf : tabOK MTq BQ 338 q_X1_sizeOf k_X1_sizeOf [] := tabOK_of SI_X1 (by decide +kernel) [6, 6] (by decide +kernel) (by decide +kernel) (by decide +kernel) (by decide +kernel) trivial
theorem t_X1_total : tabOK MTq BQ 338 q_X1_total k_X1_total [] := tabOK_of SI_X1 (by decide +kernel) [6, 6] (by decide +kernel) (by decide +kernel) (by decide +kernel) (by decide +kernel) trivial
theorem t_X1_part : tabOK MTq BQ 338 q_X1_part k_X1_part [] := tabOK_of SI_X1 (by decide +kernel) [4, 9, 9] (by decide +kernel) (by decide +kernel) (by decide +kernel) (by decide +kernel) trivial
theorem t_X1_put : tabOK MTq BQ 338 q_X1_put k_X1_put [] := tabOK_of SI_X1 (by decide +kernel) [4, 9, 9] (by decide +kernel) (by decide +kernel) (by decide +kernel) (by decide +kernel) trivial
theorem t_X1_addRow : tabOK MTq BQ 338 q_X1_addRow k_X1_addRow [] := tabOK_of SI_X1 (by decide +kernel) [6, 6, 4, 6, 6] (by decide +kernel) (by decide +kernel) (by decide +kernel) (by decide +kernel) trivial
theorem t_X1_removeRow : tabOK MTq BQ 338 q_X1_removeRow k_X1_removeRow [] := tabOK_of SI_X1 (by decide +kernel) [6, 6, 4, 4, 6, 9, 9, 9, 6] (by decide +kernel) (by decide +kernel) (by decide +kernel) (by decide +kernel) trivial
theorem t_X1_indexOf : tabOK MTq BQ 338 q_X1_indexOf k_X1_indexOf [] := tabOK_of SI_X1 (by decide +kernel) [10, 11] (by decide +kernel) (by decide +kernel) (by decide +kernel) (by decide +kernel) trivial
theorem t_X1_programOf : tabOK MTq BQ 338 q_X1_programOf k_X1_programOf [] := tabOK_of SI_X1 (by decide +kernel) [6, 12] (by decide +kernel) (by decide +kernel) (by decide +kernel) (by decide +kernel) trivial
theorem t_X2_init : tabOK MTq BQ 338 q_X2_init k_X2_init [] := tabOK_of SI_X2 (by decide +kernel) [0, 1, 2, 3, 4] (by decide +kernel) (by decide +kernel) (by decide +kernel) (by decide +kernel) trivial
theorem t_X2_placeOf : tabOK MTq BQ 338 q_X2_placeOf k_X2_placeOf [] := tabOK_of SI_X2 (by decide +kernel) [5, 6] (by decide +kernel) (by decide +kernel) (by decide +kernel) (by decide +kernel) trivial
theorem t_X2_isAt : tabOK MTq BQ 338 q_X2_isAt k_X2_isAt [] := tabOK_of SI_X2 (by decide +kernel) [7, 7, 8, 8] (by decide +kernel) (by decide +kernel) (by decide +kernel) (by decide +kernel) trivial
theorem t_X2_lengthOf : tabOK MTq BQ 338 q_X2_lengthOf k_X2_lengthOf [] := tabOK_of SI_X2 (by decide +kernel) [5, 7, 7] (by decide +kernel) (by decide +kernel) (by decide +kernel) (by decide +kernel) trivial
theorem t_X2_letterOf : tabOK MTq BQ 338 q_X2_letterOf k_X2_letterOf [] := tabOK_of SI_X2 (by decide +kernel) [8, 8] (by decide +kernel) (by decide +kernel) (by decide +kernel) (by decide +kernel) trivial
theorem t_X2_add : tabOK MTq BQ 338 q_X2_add k_X2_add [] := tabOK_of SI_X2 (by decide +kernel) [5, 7, 7, 5, 8, 5, 5, 9] (by decide +kernel) (by decide +kernel) (by decide +kernel) (by decide +kernel) trivial
theorem t_X3_init : tabOK MTq BQ 338 q_X3_init k_X3_init [] := tabOK_of SI_X3 (by decide +kernel) [0, 1, 2] (by decide +kernel) (by decide +kernel) (by decide +kernel) (by decide +kernel) trivial
theorem t_X3_restart : tabOK MTq BQ 338 q_X3_restart k_X3_restart [] := tabOK_of SI_X3 (by decide +kernel) [3] (by decide +kernel) (by decide +kernel) (by decide +kernel) (by decide +kernel) trivial
theorem t_X3_byteAt : tabOK MTq BQ 338 q_X3_byteAt k_X3_byteAt [] := tabOK_of SI_X3 (by decide +kernel) [4, 4] (by decide +kernel) (by decide +kernel) (by decide +kernel) (by decide +kernel) trivial
theorem t_X3_putByte : tabOK MTq BQ 338 q_X3_putByte k_X3_putByte [] := tabOK_of SI_X3 (by decide +kernel) [5, 4, 4, 5, 5, 3] (by decide +kernel) (by decide +kernel) (by decide +kernel) (by decide +kernel) trivial
theorem t_X3_putNumber : tabOK MTq BQ 338 q_X3_putNumber k_X3_putNumber [] := tabOK_of SI_X3 (by decide +kernel) [5, 4, 5, 4, 3] (by decide +kernel) (by decide +kernel) (by decide +kernel) (by decide +kernel) trivial
theorem t_X3_putName : tabOK MTq BQ 338 q_X3_putName k_X3_putName [] := tabOK_of SI_X3 (by decide +kernel) [6, 7, 8] (by decide +kernel) (by decide +kernel) (by decide +kernel) (by decide +kernel) trivial
theorem t_X4_init : tabOK MTq BQ 338 q_X4_init k_X4_init [] := tabOK_of SI_X4 (by decide +kernel) [0, 1, 2, 3, 4, 5] (by decide +kernel) (by decide +kernel) (by decide +kernel) (by decide +kernel) trivial
theorem t_X4_readText : tabOK MTq BQ 338 q_X4_readText k_X4_readText [] := tabOK_of SI_X4 (by decide +kernel) [6, 7, 8, 9, 10, 11, 12, 13, 10, 8, 14, 15, 16, 17, 18, 19, 20, 10, 21, 12, 22, 23, 12, 24, 25, 12, 26, 27, 12, 28, 29, 12, 30, 13, 20, 13] (by decide +kernel) (by decide +kernel) (by decide +kernel) (by decide +kernel) trivial
theorem t_X4_readKindLine : tabOK MTq BQ 338 q_X4_readKindLine k_X4_readKindLine [] := tabOK_of SI_X4 (by decide +kernel) [6, 31, 32, 33, 6, 31, 34, 8, 35, 36, 16, 37] (by decide +kernel) (by decide +kernel) (by decide +kernel) (by decide +kernel) trivial
theorem t_X4_readProgramLine : tabOK MTq BQ 338 q_X4_readProgramLine k_X4_readProgramLine [] := tabOK_of SI_X4 (by decide +kernel) [6, 38, 32, 33, 6, 38, 34] (by decide +kernel) (by decide +kernel) (by decide +kernel) (by decide +kernel) trivial
theorem t_X4_readHandleLine : tabOK MTq BQ 338 q_X4_readHandleLine k_X4_readHandleLine [] := tabOK_of SI_X4 (by decide +kernel) [10, 6, 38, 39, 6, 31, 40, 19, 6, 41, 13, 10, 16, 19, 6, 42, 19, 20, 43] (by decide +kernel) (by decide +kernel) (by decide +kernel) (by decide +kernel) trivial
theorem t_X4_readAct : tabOK MTq BQ 338 q_X4_readAct k_X4_readAct [] := tabOK_of SI_X4 (by decide +kernel) [44, 13, 33, 6, 31, 39, 6, 38, 39, 16, 19, 6, 45] (by decide +kernel) (by decide +kernel) (by decide +kernel) (by decide +kernel) trivial
theorem t_X4_actType : tabOK MTq BQ 338 q_X4_actType k_X4_actType [] := tabOK_of SI_X4 (by decide +kernel) [46, 12, 47, 12, 48, 12, 49, 12] (by decide +kernel) (by decide +kernel) (by decide +kernel) (by decide +kernel) trivial
theorem t_X4_readHideLine : tabOK MTq BQ 338 q_X4_readHideLine k_X4_readHideLine [] := tabOK_of SI_X4 (by decide +kernel) [10, 6, 38, 39, 6, 31, 40, 19, 8, 50, 13, 10, 19, 8, 51] (by decide +kernel) (by decide +kernel) (by decide +kernel) (by decide +kernel) trivial
theorem t_X4_readSendLine : tabOK MTq BQ 338 q_X4_readSendLine k_X4_readSendLine [] := tabOK_of SI_X4 (by decide +kernel) [52, 33, 52, 53, 6, 38, 39, 6, 31, 39, 16, 19, 8, 54] (by decide +kernel) (by decide +kernel) (by decide +kernel) (by decide +kernel) trivial
theorem t_X4_takeFirstWord : tabOK MTq BQ 338 q_X4_takeFirstWord k_X4_takeFirstWord [] := tabOK_of SI_X4 (by decide +kernel) [13, 10] (by decide +kernel) (by decide +kernel) (by decide +kernel) (by decide +kernel) trivial
theorem t_X4_takeNewName : tabOK MTq BQ 338 q_X4_takeNewName k_X4_takeNewName [] := tabOK_of SI_X4 (by decide +kernel) [20, 13, 55, 56, 57, 56, 58, 13, 19, 55, 56, 57, 56, 59, 10] (by decide +kernel) (by decide +kernel) (by decide +kernel) (by decide +kernel) trivial
theorem t_X4_takeName : tabOK MTq BQ 338 q_X4_takeName k_X4_takeName [] := tabOK_of SI_X4 (by decide +kernel) [40, 10] (by decide +kernel) (by decide +kernel) (by decide +kernel) (by decide +kernel) trivial
theorem t_X4_knownName : tabOK MTq BQ 338 q_X4_knownName k_X4_knownName [] := tabOK_of SI_X4 (by decide +kernel) [20, 13, 55, 56, 57, 56, 58, 13] (by decide +kernel) (by decide +kernel) (by decide +kernel) (by decide +kernel) trivial
theorem t_X4_takeNumber : tabOK MTq BQ 338 q_X4_takeNumber k_X4_takeNumber [] := tabOK_of SI_X4 (by decide +kernel) [20, 13, 60, 60, 13, 60, 10] (by decide +kernel) (by decide +kernel) (by decide +kernel) (by decide +kernel) trivial
theorem t_X4_fail : tabOK MTq BQ 338 q_X4_fail k_X4_fail [] := tabOK_of SI_X4 (by decide +kernel) [19, 61, 56, 1] (by decide +kernel) (by decide +kernel) (by decide +kernel) (by decide +kernel) trivial
theorem t_X4_wordIs : tabOK MTq BQ 338 q_X4_wordIs k_X4_wordIs [] := tabOK_of SI_X4 (by decide +kernel) [20, 57, 56, 62, 62, 56, 63, 64] (by decide +kernel) (by decide +kernel) (by decide +kernel) (by decide +kernel) trivial
theorem t_X4_byteAt : tabOK MTq BQ 338 q_X4_byteAt k_X4_byteAt [] := tabOK_of SI_X4 (by decide +kernel) [18, 55] (by decide +kernel) (by decide +kernel) (by decide +kernel) (by decide +kernel) trivial
theorem t_X4_advance : tabOK MTq BQ 338 q_X4_advance k_X4_advance [] := tabOK_of SI_X4 (by decide +kernel) [19, 57, 65, 56, 18, 56, 63, 56, 65, 56, 66, 56, 18, 67, 56, 63, 68, 69, 56, 63, 70, 71, 56, 63, 67, 56, 66] (by decide +kernel) (by decide +kernel) (by decide +kernel) (by decide +kernel) trivial
theorem t_X4_scanWord : tabOK MTq BQ 338 q_X4_scanWord k_X4_scanWord [] := tabOK_of SI_X4 (by decide +kernel) [57, 18, 57, 63, 68, 57, 66, 57, 56, 67] (by decide +kernel) (by decide +kernel) (by decide +kernel) (by decide +kernel) trivial
theorem t_X4_scanNumber : tabOK MTq BQ 338 q_X4_scanNumber k_X4_scanNumber [] := tabOK_of SI_X4 (by decide +kernel) [72, 57, 18, 57, 63, 70, 60, 57, 63, 72, 57, 66, 57, 56, 67] (by decide +kernel) (by decide +kernel) (by decide +kernel) (by decide +kernel) trivial
theorem t_X4_isLetter : tabOK MTq BQ 338 q_X4_isLetter k_X4_isLetter [] := tabOK_of SI_X4 (by decide +kernel) [] (by decide +kernel) (by decide +kernel) (by decide +kernel) (by decide +kernel) trivial
theorem t_X4_isDigit : tabOK MTq BQ 338 q_X4_isDigit k_X4_isDigit [] := tabOK_of SI_X4 (by decide +kernel) [] (by decide +kernel) (by decide +kernel) (by decide +kernel) (by decide +kernel) trivial
theorem t_X5_init : tabOK MTq BQ 338 q_X5_init k_X5_init [] := tabOK_of SI_X5 (by decide +kernel) [0, 1, 2, 3, 1, 2, 4, 5, 6, 5, 7, 5, 8] (by decide +kernel) (by decide +kernel) (by decide +kernel) (by decide +kernel) trivial
theorem t_X5_empty : tabOK MTq BQ 338 q_X5_empty k_X5_empty [] := tabOK_of SI_X5 (by decide +kernel) [9, 10, 11, 10, 12, 12, 13, 13] (by decide +kernel) (by decide +kernel) (by decide +kernel) (by decide +kernel) trivial
theorem t_X5_ticksOf : tabOK MTq BQ 338 q_X5_ticksOf k_X5_ticksOf [] := tabOK_of SI_X5 (by decide +kernel) [12, 12] (by decide +kernel) (by decide +kernel) (by decide +kernel) (by decide +kernel) trivial
theorem t_X5_actsOf : tabOK MTq BQ 338 q_X5_actsOf k_X5_actsOf [] := tabOK_of SI_X5 (by decide +kernel) [13, 13] (by decide +kernel) (by decide +kernel) (by decide +kernel) (by decide +kernel) trivial
theorem t_X5_actPart : tabOK MTq BQ 338 q_X5_actPart k_X5_actPart [] := tabOK_of SI_X5 (by decide +kernel) [14, 14] (by decide +kernel) (by decide +kernel) (by decide +kernel) (by decide +kernel) trivial
theorem t_X5_addHandler : tabOK MTq BQ 338 q_X5_addHandler k_X5_addHandler [] := tabOK_of SI_X5 (by decide +kernel) [12, 12] (by decide +kernel) (by decide +kernel) (by decide +kernel) (by decide +kernel) trivial
theorem t_X5_addAct : tabOK MTq BQ 338 q_X5_addAct k_X5_addAct [] := tabOK_of SI_X5 (by decide +kernel) [13, 13, 14, 14, 14, 14, 14, 13] (by decide +kernel) (by decide +kernel) (by decide +kernel) (by decide +kernel) trivial
theorem t_X5_handlersOf : tabOK MTq BQ 338 q_X5_handlersOf k_X5_handlersOf [] := tabOK_of SI_X5 (by decide +kernel) [9, 15, 16] (by decide +kernel) (by decide +kernel) (by decide +kernel) (by decide +kernel) trivial
theorem t_X5_handlersInAll : tabOK MTq BQ 338 q_X5_handlersInAll k_X5_handlersInAll [] := tabOK_of SI_X5 (by decide +kernel) [11, 15, 17] (by decide +kernel) (by decide +kernel) (by decide +kernel) (by decide +kernel) trivial
theorem t_X5_raises : tabOK MTq BQ 338 q_X5_raises k_X5_raises [] := tabOK_of SI_X5 (by decide +kernel) [9, 15, 18, 19, 19] (by decide +kernel) (by decide +kernel) (by decide +kernel) (by decide +kernel) trivial
theorem t_X6_init : tabOK MTq BQ 338 q_X6_init k_X6_init [] := tabOK_of SI_X6 (by decide +kernel) [0, 1, 2, 3, 4, 5, 6, 7, 8, 9, 4, 5, 10, 7, 8, 11, 12, 13, 12, 14, 15, 16, 17, 18, 19] (by decide +kernel) (by decide +kernel) (by decide +kernel) (by decide +kernel) trivial
theorem t_X6_append : tabOK MTq BQ 338 q_X6_append k_X6_append [] := tabOK_of SI_X6 (by decide +kernel) [20, 21, 21, 21, 21, 21, 20] (by decide +kernel) (by decide +kernel) (by decide +kernel) (by decide +kernel) trivial
theorem t_X6_appendWord : tabOK MTq BQ 338 q_X6_appendWord k_X6_appendWord [] := tabOK_of SI_X6 (by decide +kernel) [20, 22, 20, 20, 23] (by decide +kernel) (by decide +kernel) (by decide +kernel) (by decide +kernel) trivial
theorem t_X6_load : tabOK MTq BQ 338 q_X6_load k_X6_load [] := tabOK_of SI_X6 (by decide +kernel) [20, 24, 25, 22, 26, 27, 28, 29, 23, 30, 31, 32, 3, 33, 34, 35, 36, 37, 38] (by decide +kernel) (by decide +kernel) (by decide +kernel) (by decide +kernel) trivial
theorem t_X6_takeSpare : tabOK MTq BQ 338 q_X6_takeSpare k_X6_takeSpare [] := tabOK_of SI_X6 (by decide +kernel) [36, 26, 6, 10, 39, 27, 9, 11, 40, 41, 42] (by decide +kernel) (by decide +kernel) (by decide +kernel) (by decide +kernel) trivial
theorem t_X6_parseError : tabOK MTq BQ 338 q_X6_parseError k_X6_parseError [] := tabOK_of SI_X6 (by decide +kernel) [33] (by decide +kernel) (by decide +kernel) (by decide +kernel) (by decide +kernel) trivial
theorem t_X6_errorPosition : tabOK MTq BQ 338 q_X6_errorPosition k_X6_errorPosition [] := tabOK_of SI_X6 (by decide +kernel) [43] (by decide +kernel) (by decide +kernel) (by decide +kernel) (by decide +kernel) trivial
theorem t_X6_buffered : tabOK MTq BQ 338 q_X6_buffered k_X6_buffered [] := tabOK_of SI_X6 (by decide +kernel) [20] (by decide +kernel) (by decide +kernel) (by decide +kernel) (by decide +kernel) trivial
theorem t_X6_find : tabOK MTq BQ 338 q_X6_find k_X6_find [] := tabOK_of SI_X6 (by decide +kernel) [44, 20, 24, 23, 36, 45, 36, 37, 22, 46] (by decide +kernel) (by decide +kernel) (by decide +kernel) (by decide +kernel) trivial
theorem t_X6_count : tabOK MTq BQ 338 q_X6_count k_X6_count [] := tabOK_of SI_X6 (by decide +kernel) [44, 34, 36, 45, 38, 36, 37, 38, 36, 47, 39, 48, 39, 49, 39, 50, 51, 39, 52, 51, 39, 53, 39, 54] (by decide +kernel) (by decide +kernel) (by decide +kernel) (by decide +kernel) trivial
theorem t_X6_setting : tabOK MTq BQ 338 q_X6_setting k_X6_setting [] := tabOK_of SI_X6 (by decide +kernel) [44, 34, 39, 55] (by decide +kernel) (by decide +kernel) (by decide +kernel) (by decide +kernel) trivial
theorem t_X6_kind : tabOK MTq BQ 338 q_X6_kind k_X6_kind [] := tabOK_of SI_X6 (by decide +kernel) [44, 56, 34, 39, 57] (by decide +kernel) (by decide +kernel) (by decide +kernel) (by decide +kernel) trivial
theorem t_X6_program : tabOK MTq BQ 338 q_X6_program k_X6_program [] := tabOK_of SI_X6 (by decide +kernel) [44, 58, 34, 39, 50, 59, 39, 52, 59, 39, 60, 36, 61, 39, 62] (by decide +kernel) (by decide +kernel) (by decide +kernel) (by decide +kernel) trivial
theorem t_X6_handler : tabOK MTq BQ 338 q_X6_handler k_X6_handler [] := tabOK_of SI_X6 (by decide +kernel) [44, 58, 56, 34, 36, 63, 36, 63, 36, 64, 36, 64, 36, 65] (by decide +kernel) (by decide +kernel) (by decide +kernel) (by decide +kernel) trivial
theorem t_X6_urgency : tabOK MTq BQ 338 q_X6_urgency k_X6_urgency [] := tabOK_of SI_X6 (by decide +kernel) [44, 58, 56, 39, 66] (by decide +kernel) (by decide +kernel) (by decide +kernel) (by decide +kernel) trivial
theorem t_X6_tiredness : tabOK MTq BQ 338 q_X6_tiredness k_X6_tiredness [] := tabOK_of SI_X6 (by decide +kernel) [44, 58, 56, 39, 67] (by decide +kernel) (by decide +kernel) (by decide +kernel) (by decide +kernel) trivial
theorem t_X6_queue : tabOK MTq BQ 338 q_X6_queue k_X6_queue [] := tabOK_of SI_X6 (by decide +kernel) [44, 58, 39, 50, 59, 24, 34, 39, 50, 39, 68, 69] (by decide +kernel) (by decide +kernel) (by decide +kernel) (by decide +kernel) trivial
theorem t_X6_running : tabOK MTq BQ 338 q_X6_running k_X6_running [] := tabOK_of SI_X6 (by decide +kernel) [44, 58, 39, 52, 59, 24, 70, 34, 39, 52, 70, 69] (by decide +kernel) (by decide +kernel) (by decide +kernel) (by decide +kernel) trivial
theorem t_X6_end : tabOK MTq BQ 338 q_X6_end k_X6_end [] := tabOK_of SI_X6 (by decide +kernel) [44, 39, 53, 24, 34, 39, 71] (by decide +kernel) (by decide +kernel) (by decide +kernel) (by decide +kernel) trivial
theorem t_X6_whereIs : tabOK MTq BQ 338 q_X6_whereIs k_X6_whereIs [] := tabOK_of SI_X6 (by decide +kernel) [44, 72, 39, 50, 73, 39, 52, 73, 39, 74] (by decide +kernel) (by decide +kernel) (by decide +kernel) (by decide +kernel) trivial
theorem t_X6_next : tabOK MTq BQ 338 q_X6_next k_X6_next [] := tabOK_of SI_X6 (by decide +kernel) [44, 58, 39, 75, 39, 50, 69] (by decide +kernel) (by decide +kernel) (by decide +kernel) (by decide +kernel) trivial
theorem t_X6_busiest : tabOK MTq BQ 338 q_X6_busiest k_X6_busiest [] := tabOK_of SI_X6 (by decide +kernel) [44, 36, 37, 38, 39, 50, 59] (by decide +kernel) (by decide +kernel) (by decide +kernel) (by decide +kernel) trivial
theorem t_X6_tiredest : tabOK MTq BQ 338 q_X6_tiredest k_X6_tiredest [] := tabOK_of SI_X6 (by decide +kernel) [44, 58, 36, 45, 38, 39, 67] (by decide +kernel) (by decide +kernel) (by decide +kernel) (by decide +kernel) trivial
theorem t_X6_oldest : tabOK MTq BQ 338 q_X6_oldest k_X6_oldest [] := tabOK_of SI_X6 (by decide +kernel) [44, 36, 37, 38, 39, 50, 59, 39, 50, 69] (by decide +kernel) (by decide +kernel) (by decide +kernel) (by decide +kernel) trivial
theorem t_X6_loser : tabOK MTq BQ 338 q_X6_loser k_X6_loser [] := tabOK_of SI_X6 (by decide +kernel) [44, 58, 56, 39, 50, 59, 39, 55, 39, 76, 39, 50, 69, 39, 66, 39, 66, 39, 49, 39, 50, 69] (by decide +kernel) (by decide +kernel) (by decide +kernel) (by decide +kernel) trivial
theorem t_X6_meanWait : tabOK MTq BQ 338 q_X6_meanWait k_X6_meanWait [] := tabOK_of SI_X6 (by decide +kernel) [44, 39, 54, 39, 77] (by decide +kernel) (by decide +kernel) (by decide +kernel) (by decide +kernel) trivial
theorem t_X6_handledShare : tabOK MTq BQ 338 q_X6_handledShare k_X6_handledShare [] := tabOK_of SI_X6 (by decide +kernel) [44, 39, 78, 39, 54] (by decide +kernel) (by decide +kernel) (by decide +kernel) (by decide +kernel) trivial
theorem t_X6_raisers : tabOK MTq BQ 338 q_X6_raisers k_X6_raisers [] := tabOK_of SI_X6 (by decide +kernel) [44, 56, 36, 37, 38, 36, 79] (by decide +kernel) (by decide +kernel) (by decide +kernel) (by decide +kernel) trivial
theorem t_X6_idleIn : tabOK MTq BQ 338 q_X6_idleIn k_X6_idleIn [] := tabOK_of SI_X6 (by decide +kernel) [44, 58, 80] (by decide +kernel) (by decide +kernel) (by decide +kernel) (by decide +kernel) trivial
theorem t_X6_calmIn : tabOK MTq BQ 338 q_X6_calmIn k_X6_calmIn [] := tabOK_of SI_X6 (by decide +kernel) [44, 36, 37, 38, 80] (by decide +kernel) (by decide +kernel) (by decide +kernel) (by decide +kernel) trivial
theorem t_X6_ticksUntilIdle : tabOK MTq BQ 338 q_X6_ticksUntilIdle k_X6_ticksUntilIdle [] := tabOK_of SI_X6 (by decide +kernel) [27, 39, 81, 27, 82, 27, 36, 83, 27, 82] (by decide +kernel) (by decide +kernel) (by decide +kernel) (by decide +kernel) trivial
theorem t_X6_endIn : tabOK MTq BQ 338 q_X6_endIn k_X6_endIn [] := tabOK_of SI_X6 (by decide +kernel) [44, 72, 84] (by decide +kernel) (by decide +kernel) (by decide +kernel) (by decide +kernel) trivial
theorem t_X6_endOf : tabOK MTq BQ 338 q_X6_endOf k_X6_endOf [] := tabOK_of SI_X6 (by decide +kernel) [44, 72, 84, 27, 85] (by decide +kernel) (by decide +kernel) (by decide +kernel) (by decide +kernel) trivial
theorem t_X6_ticksUntilEnd : tabOK MTq BQ 338 q_X6_ticksUntilEnd k_X6_ticksUntilEnd [] := tabOK_of SI_X6 (by decide +kernel) [39, 50, 73, 39, 52, 73, 27, 39, 81, 27, 86, 27, 36, 83, 27, 85] (by decide +kernel) (by decide +kernel) (by decide +kernel) (by decide +kernel) trivial
theorem t_X6_endsIn : tabOK MTq BQ 338 q_X6_endsIn k_X6_endsIn [] := tabOK_of SI_X6 (by decide +kernel) [44, 34, 34, 87, 27, 54, 39, 54] (by decide +kernel) (by decide +kernel) (by decide +kernel) (by decide +kernel) trivial
theorem t_X6_urgencyIn : tabOK MTq BQ 338 q_X6_urgencyIn k_X6_urgencyIn [] := tabOK_of SI_X6 (by decide +kernel) [44, 58, 56, 34, 87, 27, 66] (by decide +kernel) (by decide +kernel) (by decide +kernel) (by decide +kernel) trivial
theorem t_X6_sentIn : tabOK MTq BQ 338 q_X6_sentIn k_X6_sentIn [] := tabOK_of SI_X6 (by decide +kernel) [44, 34, 87, 27, 49, 39, 49] (by decide +kernel) (by decide +kernel) (by decide +kernel) (by decide +kernel) trivial
theorem t_X6_passInSpare : tabOK MTq BQ 338 q_X6_passInSpare k_X6_passInSpare [] := tabOK_of SI_X6 (by decide +kernel) [27, 39, 81, 27, 36, 83] (by decide +kernel) (by decide +kernel) (by decide +kernel) (by decide +kernel) trivial
theorem t_X6_bestMask : tabOK MTq BQ 338 q_X6_bestMask k_X6_bestMask [] := tabOK_of SI_X6 (by decide +kernel) [44, 58, 36, 45, 38, 39, 88, 89] (by decide +kernel) (by decide +kernel) (by decide +kernel) (by decide +kernel) trivial
theorem t_X6_othersIfMasked : tabOK MTq BQ 338 q_X6_othersIfMasked k_X6_othersIfMasked [] := tabOK_of SI_X6 (by decide +kernel) [27, 39, 81, 27, 90, 27, 36, 83, 27, 62] (by decide +kernel) (by decide +kernel) (by decide +kernel) (by decide +kernel) trivial
theorem t_X6_writeQueue : tabOK MTq BQ 338 q_X6_writeQueue k_X6_writeQueue [] := tabOK_of SI_X6 (by decide +kernel) [44, 58, 91, 92, 39, 50, 59, 39, 68, 91, 93, 91, 39, 50, 69, 94, 91, 93, 91, 36, 45, 39, 50, 69, 95, 91, 93, 91, 39, 50, 69, 94, 91, 96] (by decide +kernel) (by decide +kernel) (by decide +kernel) (by decide +kernel) trivial
theorem t_X6_writeStack : tabOK MTq BQ 338 q_X6_writeStack k_X6_writeStack [] := tabOK_of SI_X6 (by decide +kernel) [44, 58, 91, 92, 39, 52, 59, 91, 93, 91, 36, 45, 39, 52, 69, 95, 91, 93, 91, 39, 52, 69, 94, 91, 96] (by decide +kernel) (by decide +kernel) (by decide +kernel) (by decide +kernel) trivial
theorem t_X6_writeEnds : tabOK MTq BQ 338 q_X6_writeEnds k_X6_writeEnds [] := tabOK_of SI_X6 (by decide +kernel) [44, 91, 92, 39, 53, 91, 93, 91, 39, 71, 94, 91, 39, 71, 97, 93, 91, 96] (by decide +kernel) (by decide +kernel) (by decide +kernel) (by decide +kernel) trivial
theorem t_X6_endLetter : tabOK MTq BQ 338 q_X6_endLetter k_X6_endLetter [] := tabOK_of SI_X6 (by decide +kernel) [98, 99, 98, 100] (by decide +kernel) (by decide +kernel) (by decide +kernel) (by decide +kernel) trivial
theorem t_X6_textByte : tabOK MTq BQ 338 q_X6_textByte k_X6_textByte [] := tabOK_of SI_X6 (by decide +kernel) [91, 96, 24, 91, 101] (by decide +kernel) (by decide +kernel) (by decide +kernel) (by decide +kernel) trivial
theorem t_X6_tick : tabOK MTq BQ 338 q_X6_tick k_X6_tick [] := tabOK_of SI_X6 (by decide +kernel) [44, 34, 39, 48, 34, 102, 39, 78, 39, 36, 83, 39, 78] (by decide +kernel) (by decide +kernel) (by decide +kernel) (by decide +kernel) trivial
theorem t_X6_send : tabOK MTq BQ 338 q_X6_send k_X6_send [] := tabOK_of SI_X6 (by decide +kernel) [44, 58, 56, 34, 102, 39, 103] (by decide +kernel) (by decide +kernel) (by decide +kernel) (by decide +kernel) trivial
theorem t_X6_mask : tabOK MTq BQ 338 q_X6_mask k_X6_mask [] := tabOK_of SI_X6 (by decide +kernel) [44, 58, 56, 102, 39, 88, 39, 90] (by decide +kernel) (by decide +kernel) (by decide +kernel) (by decide +kernel) trivial
theorem t_X6_drop : tabOK MTq BQ 338 q_X6_drop k_X6_drop [] := tabOK_of SI_X6 (by decide +kernel) [44, 72, 102, 39, 39, 50, 104, 39, 39, 52, 104] (by decide +kernel) (by decide +kernel) (by decide +kernel) (by decide +kernel) trivial
theorem t_X6_clear : tabOK MTq BQ 338 q_X6_clear k_X6_clear [] := tabOK_of SI_X6 (by decide +kernel) [44, 58, 102, 39, 105] (by decide +kernel) (by decide +kernel) (by decide +kernel) (by decide +kernel) trivial
theorem t_X6_refresh : tabOK MTq BQ 338 q_X6_refresh k_X6_refresh [] := tabOK_of SI_X6 (by decide +kernel) [44, 58, 102, 39, 106] (by decide +kernel) (by decide +kernel) (by decide +kernel) (by decide +kernel) trivial
theorem t_X6_setKind : tabOK MTq BQ 338 q_X6_setKind k_X6_setKind [] := tabOK_of SI_X6 (by decide +kernel) [44, 56, 34, 107, 108, 34, 102, 39, 57, 39, 109] (by decide +kernel) (by decide +kernel) (by decide +kernel) (by decide +kernel) trivial
theorem t_X6_set : tabOK MTq BQ 338 q_X6_set k_X6_set [] := tabOK_of SI_X6 (by decide +kernel) [44, 34, 110, 111, 34, 102, 39, 55, 39, 112] (by decide +kernel) (by decide +kernel) (by decide +kernel) (by decide +kernel) trivial
theorem t_X6_undo : tabOK MTq BQ 338 q_X6_undo k_X6_undo [] := tabOK_of SI_X6 (by decide +kernel) [113, 114, 113, 41, 115, 115, 116, 39, 117, 115, 118, 81, 113] (by decide +kernel) (by decide +kernel) (by decide +kernel) (by decide +kernel) trivial
theorem t_X6_undoable : tabOK MTq BQ 338 q_X6_undoable k_X6_undoable [] := tabOK_of SI_X6 (by decide +kernel) [113] (by decide +kernel) (by decide +kernel) (by decide +kernel) (by decide +kernel) trivial
theorem t_X6_save : tabOK MTq BQ 338 q_X6_save k_X6_save [] := tabOK_of SI_X6 (by decide +kernel) [44, 24, 119, 118, 39, 81, 42, 39, 48] (by decide +kernel) (by decide +kernel) (by decide +kernel) (by decide +kernel) trivial
theorem t_X6_restore : tabOK MTq BQ 338 q_X6_restore k_X6_restore [] := tabOK_of SI_X6 (by decide +kernel) [24, 42, 114, 39, 119, 118, 81, 41, 39, 48] (by decide +kernel) (by decide +kernel) (by decide +kernel) (by decide +kernel) trivial
theorem t_X6_remember : tabOK MTq BQ 338 q_X6_remember k_X6_remember [] := tabOK_of SI_X6 (by decide +kernel) [117, 115, 118, 39, 81, 115, 115, 116, 113, 113, 41] (by decide +kernel) (by decide +kernel) (by decide +kernel) (by decide +kernel) trivial
theorem t_X6_roomAt : tabOK MTq BQ 338 q_X6_roomAt k_X6_roomAt [] := tabOK_of SI_X6 (by decide +kernel) [7, 8, 7, 8] (by decide +kernel) (by decide +kernel) (by decide +kernel) (by decide +kernel) trivial
theorem th_X6_needHall : thrOK RX6 cX6_needHall 7 338 0 := ⟨by decide, w_763, w_139, by decide +kernel, 340, 342, 1, "no text was loaded", by decide +kernel, by decide, tbga (by decide +kernel), by decide +kernel, by decide +kernel, by decide +kernel, by decide +kernel, by decide +kernel, by decide +kernel⟩
theorem t_X6_needHall : tabOK MTq BQ 338 q_X6_needHall k_X6_needHall [] := ⟨okI_all SI_X6 (by decide +kernel) [120] (by decide +kernel) (by
  intro q hq idx e h9
  have : q ∈ k_X6_needHall.filter (fun q => nofall q) := List.mem_filter.mpr ⟨hq, by unfold nofall; rw [e]; exact Nat.ble_eq.mpr h9⟩
  rw [show k_X6_needHall.filter (fun q => nofall q) = [(7, .new 338, 3, (90, 0, 0, 0))] from rfl] at this
  obtain rfl := List.mem_singleton.mp this
  cases e
  exact th_X6_needHall), by decide +kernel, trivial, by decide +kernel, fun h => absurd rfl h⟩
theorem t_X6_needKind : tabOK MTq BQ 338 q_X6_needKind k_X6_needKind [] := tabOK_of SI_X6 (by decide +kernel) [36, 45, 38, 24] (by decide +kernel) (by decide +kernel) (by decide +kernel) (by decide +kernel) trivial
theorem t_X6_needProgram : tabOK MTq BQ 338 q_X6_needProgram k_X6_needProgram [] := tabOK_of SI_X6 (by decide +kernel) [36, 37, 38, 24] (by decide +kernel) (by decide +kernel) (by decide +kernel) (by decide +kernel) trivial
theorem t_X6_needSignal : tabOK MTq BQ 338 q_X6_needSignal k_X6_needSignal [] := tabOK_of SI_X6 (by decide +kernel) [39, 49, 24] (by decide +kernel) (by decide +kernel) (by decide +kernel) (by decide +kernel) trivial
theorem th_X6_needState : thrOK RX6 cX6_needState 4 338 0 := ⟨by decide, w_763, w_139, by decide +kernel, 345, 342, 2, "there is nothing to go back to", by decide +kernel, by decide, tbga (by decide +kernel), by decide +kernel, by decide +kernel, by decide +kernel, by decide +kernel, by decide +kernel, by decide +kernel⟩
theorem t_X6_needState : tabOK MTq BQ 338 q_X6_needState k_X6_needState [] := ⟨okI_all SI_X6 (by decide +kernel) [] (by decide +kernel) (by
  intro q hq idx e h9
  have : q ∈ k_X6_needState.filter (fun q => nofall q) := List.mem_filter.mpr ⟨hq, by unfold nofall; rw [e]; exact Nat.ble_eq.mpr h9⟩
  rw [show k_X6_needState.filter (fun q => nofall q) = [(4, .new 338, 3, (90, 0, 0, 0))] from rfl] at this
  obtain rfl := List.mem_singleton.mp this
  cases e
  exact th_X6_needState), by decide +kernel, trivial, by decide +kernel, fun h => absurd rfl h⟩
theorem th_X6_needIndex : thrOK RX6 cX6_needIndex 4 347 2 := ⟨by decide, w_372, w_131, by decide +kernel, 349, 351, 3, "there is no such kind, program, signal, slot or index", by decide +kernel, by decide, tbga (by decide +kernel), by decide +kernel, by decide +kernel, by decide +kernel, by decide +kernel, by decide +kernel, by decide +kernel⟩
theorem t_X6_needIndex : tabOK MTq BQ 338 q_X6_needIndex k_X6_needIndex [] := ⟨okI_all SI_X6 (by decide +kernel) [] (by decide +kernel) (by
  intro q hq idx e h9
  have : q ∈ k_X6_needIndex.filter (fun q => nofall q) := List.mem_filter.mpr ⟨hq, by unfold nofall; rw [e]; exact Nat.ble_eq.mpr h9⟩
  rw [show k_X6_needIndex.filter (fun q => nofall q) = [(4, .new 347, 3, (92, 0, 0, 0))] from rfl] at this
  obtain rfl := List.mem_singleton.mp this
  cases e
  exact th_X6_needIndex), by decide +kernel, trivial, by decide +kernel, fun h => absurd rfl h⟩
theorem th_X6_needArgument : thrOK RX6 cX6_needArgument 4 352 1 := ⟨by decide, w_731, w_137, by decide +kernel, 354, 356, 4, "an argument is out of its range, or the text has an error", by decide +kernel, by decide, tbga (by decide +kernel), by decide +kernel, by decide +kernel, by decide +kernel, by decide +kernel, by decide +kernel, by decide +kernel⟩
theorem t_X6_needArgument : tabOK MTq BQ 338 q_X6_needArgument k_X6_needArgument [] := ⟨okI_all SI_X6 (by decide +kernel) [] (by decide +kernel) (by
  intro q hq idx e h9
  have : q ∈ k_X6_needArgument.filter (fun q => nofall q) := List.mem_filter.mpr ⟨hq, by unfold nofall; rw [e]; exact Nat.ble_eq.mpr h9⟩
  rw [show k_X6_needArgument.filter (fun q => nofall q) = [(4, .new 352, 3, (91, 0, 0, 0))] from rfl] at this
  obtain rfl := List.mem_singleton.mp this
  cases e
  exact th_X6_needArgument), by decide +kernel, trivial, by decide +kernel, fun h => absurd rfl h⟩
theorem t_X7_init : tabOK MTq BQ 338 q_X7_init k_X7_init [] := tabOK_of SI_X7 (by decide +kernel) [0, 1, 2, 1, 3, 1, 4, 1, 5, 1, 6, 1, 7, 1, 8, 1, 9, 10, 11, 1, 12, 13, 1, 14, 1, 15, 1, 16, 1, 17, 1, 18, 1, 19, 1, 20, 1, 21, 22, 1, 23] (by decide +kernel) (by decide +kernel) (by decide +kernel) (by decide +kernel) trivial
theorem t_X7_thrown : tabOK MTq BQ 338 q_X7_thrown k_X7_thrown [] := tabOK_of SI_X7 (by decide +kernel) [24] (by decide +kernel) (by decide +kernel) (by decide +kernel) (by decide +kernel) trivial
theorem t_X7_in : tabOK MTq BQ 338 q_X7_in k_X7_in [] := tabOK_of SI_X7 (by decide +kernel) [] (by decide +kernel) (by decide +kernel) (by decide +kernel) (by decide +kernel) trivial
theorem t_X7_flag : tabOK MTq BQ 338 q_X7_flag k_X7_flag [] := tabOK_of SI_X7 (by decide +kernel) [] (by decide +kernel) (by decide +kernel) (by decide +kernel) (by decide +kernel) trivial
theorem t_X7_refuse : tabOK MTq BQ 338 q_X7_refuse k_X7_refuse [] := tabOK_of SI_X7 (by decide +kernel) [24, 25, 24] (by decide +kernel) (by decide +kernel) (by decide +kernel) (by decide +kernel) trivial
theorem t_X7_notLoaded : tabOK MTq BQ 338 q_X7_notLoaded k_X7_notLoaded [] := tabOK_of SI_X7 (by decide +kernel) [25, 26, 27] (by decide +kernel) (by decide +kernel) (by decide +kernel) (by decide +kernel) trivial
theorem t_X7_append : tabOK MTq BQ 338 q_X7_append k_X7_append [] := tabOK_of SI_X7 (by decide +kernel) [25, 28, 29, 28, 28, 30, 28] (by decide +kernel) (by decide +kernel) (by decide +kernel) (by decide +kernel) trivial
theorem t_X7_buffered : tabOK MTq BQ 338 q_X7_buffered k_X7_buffered [] := tabOK_of SI_X7 (by decide +kernel) [25, 28] (by decide +kernel) (by decide +kernel) (by decide +kernel) (by decide +kernel) trivial
theorem t_X7_parseError : tabOK MTq BQ 338 q_X7_parseError k_X7_parseError [] := tabOK_of SI_X7 (by decide +kernel) [25, 31] (by decide +kernel) (by decide +kernel) (by decide +kernel) (by decide +kernel) trivial
theorem t_X7_errorPosition : tabOK MTq BQ 338 q_X7_errorPosition k_X7_errorPosition [] := tabOK_of SI_X7 (by decide +kernel) [25, 32] (by decide +kernel) (by decide +kernel) (by decide +kernel) (by decide +kernel) trivial
theorem t_X7_seen : tabOK MTq BQ 338 q_X7_seen k_X7_seen [] := tabOK_of SI_X7 (by decide +kernel) [33, 29] (by decide +kernel) (by decide +kernel) (by decide +kernel) (by decide +kernel) trivial
theorem t_X7_isLetter : tabOK MTq BQ 338 q_X7_isLetter k_X7_isLetter [] := tabOK_of SI_X7 (by decide +kernel) [] (by decide +kernel) (by decide +kernel) (by decide +kernel) (by decide +kernel) trivial
theorem t_X7_isDigit : tabOK MTq BQ 338 q_X7_isDigit k_X7_isDigit [] := tabOK_of SI_X7 (by decide +kernel) [] (by decide +kernel) (by decide +kernel) (by decide +kernel) (by decide +kernel) trivial
theorem t_X7_token : tabOK MTq BQ 338 q_X7_token k_X7_token [] := tabOK_of SI_X7 (by decide +kernel) [34, 35, 34, 36, 34, 37, 34, 35, 38, 39, 34, 35, 39, 34, 36, 34, 40, 38, 41, 42, 34, 35, 41, 34, 40, 43, 34, 35, 42, 34, 36, 34, 40, 38, 38, 34, 36] (by decide +kernel) (by decide +kernel) (by decide +kernel) (by decide +kernel) trivial
theorem t_X7_fails : tabOK MTq BQ 338 q_X7_fails k_X7_fails [] := tabOK_of SI_X7 (by decide +kernel) [44, 45, 40, 46] (by decide +kernel) (by decide +kernel) (by decide +kernel) (by decide +kernel) trivial
theorem t_X7_failsIf : tabOK MTq BQ 338 q_X7_failsIf k_X7_failsIf [] := tabOK_of SI_X7 (by decide +kernel) [47] (by decide +kernel) (by decide +kernel) (by decide +kernel) (by decide +kernel) trivial
theorem t_X7_goesOn : tabOK MTq BQ 338 q_X7_goesOn k_X7_goesOn [] := tabOK_of SI_X7 (by decide +kernel) [44, 48] (by decide +kernel) (by decide +kernel) (by decide +kernel) (by decide +kernel) trivial
theorem t_X7_isWord : tabOK MTq BQ 338 q_X7_isWord k_X7_isWord [] := tabOK_of SI_X7 (by decide +kernel) [44, 49, 34, 40, 50, 50, 40, 35, 51] (by decide +kernel) (by decide +kernel) (by decide +kernel) (by decide +kernel) trivial
theorem t_X7_takes : tabOK MTq BQ 338 q_X7_takes k_X7_takes [] := tabOK_of SI_X7 (by decide +kernel) [49, 47, 43, 52, 47, 44, 43, 53] (by decide +kernel) (by decide +kernel) (by decide +kernel) (by decide +kernel) trivial
theorem t_X7_named : tabOK MTq BQ 338 q_X7_named k_X7_named [] := tabOK_of SI_X7 (by decide +kernel) [52, 29] (by decide +kernel) (by decide +kernel) (by decide +kernel) (by decide +kernel) trivial
theorem t_X7_newName : tabOK MTq BQ 338 q_X7_newName k_X7_newName [] := tabOK_of SI_X7 (by decide +kernel) [49, 54, 44, 40, 34, 55, 54, 44, 40, 34, 40, 35, 53] (by decide +kernel) (by decide +kernel) (by decide +kernel) (by decide +kernel) trivial
theorem t_X7_namedHere : tabOK MTq BQ 338 q_X7_namedHere k_X7_namedHere [] := tabOK_of SI_X7 (by decide +kernel) [49, 54, 44, 40, 34, 55, 54, 44] (by decide +kernel) (by decide +kernel) (by decide +kernel) (by decide +kernel) trivial
theorem t_X7_programHere : tabOK MTq BQ 338 q_X7_programHere k_X7_programHere [] := tabOK_of SI_X7 (by decide +kernel) [56, 57, 58, 53] (by decide +kernel) (by decide +kernel) (by decide +kernel) (by decide +kernel) trivial
theorem t_X7_kindHere : tabOK MTq BQ 338 q_X7_kindHere k_X7_kindHere [] := tabOK_of SI_X7 (by decide +kernel) [59, 60, 58, 53] (by decide +kernel) (by decide +kernel) (by decide +kernel) (by decide +kernel) trivial
theorem t_X7_kindLine : tabOK MTq BQ 338 q_X7_kindLine k_X7_kindLine [] := tabOK_of SI_X7 (by decide +kernel) [60, 54, 53, 60, 60, 59, 60, 61, 62, 62, 62, 44, 63, 63, 63, 60, 64] (by decide +kernel) (by decide +kernel) (by decide +kernel) (by decide +kernel) trivial
theorem t_X7_programLine : tabOK MTq BQ 338 q_X7_programLine k_X7_programLine [] := tabOK_of SI_X7 (by decide +kernel) [57, 54, 53, 57, 57, 56, 57, 61, 57, 44, 65, 66] (by decide +kernel) (by decide +kernel) (by decide +kernel) (by decide +kernel) trivial
theorem t_X7_actHere : tabOK MTq BQ 338 q_X7_actHere k_X7_actHere [] := tabOK_of SI_X7 (by decide +kernel) [67, 68, 69, 68, 70, 68, 71, 68] (by decide +kernel) (by decide +kernel) (by decide +kernel) (by decide +kernel) trivial
theorem t_X7_act : tabOK MTq BQ 338 q_X7_act k_X7_act [] := tabOK_of SI_X7 (by decide +kernel) [72, 54, 44, 73, 54, 53, 74, 75, 62, 44, 73, 76, 76, 76, 76, 73] (by decide +kernel) (by decide +kernel) (by decide +kernel) (by decide +kernel) trivial
theorem t_X7_handleLine : tabOK MTq BQ 338 q_X7_handleLine k_X7_handleLine [] := tabOK_of SI_X7 (by decide +kernel) [53, 75, 59, 60, 58, 44, 77, 54, 53, 62, 44, 77, 78, 79, 44, 49, 80] (by decide +kernel) (by decide +kernel) (by decide +kernel) (by decide +kernel) trivial
theorem t_X7_hideLine : tabOK MTq BQ 338 q_X7_hideLine k_X7_hideLine [] := tabOK_of SI_X7 (by decide +kernel) [53, 75, 59, 60, 58, 44, 81, 54, 44, 81, 53] (by decide +kernel) (by decide +kernel) (by decide +kernel) (by decide +kernel) trivial
theorem t_X7_sendLine : tabOK MTq BQ 338 q_X7_sendLine k_X7_sendLine [] := tabOK_of SI_X7 (by decide +kernel) [82, 54, 53, 75, 74, 62, 44, 83, 82, 83, 82, 83, 82, 82, 84] (by decide +kernel) (by decide +kernel) (by decide +kernel) (by decide +kernel) trivial
theorem t_X7_line : tabOK MTq BQ 338 q_X7_line k_X7_line [] := tabOK_of SI_X7 (by decide +kernel) [85, 68, 86, 87, 68, 88, 89, 68, 90, 91, 68, 92, 93, 68, 94, 47] (by decide +kernel) (by decide +kernel) (by decide +kernel) (by decide +kernel) trivial
theorem t_X7_reads : tabOK MTq BQ 338 q_X7_reads k_X7_reads [] := tabOK_of SI_X7 (by decide +kernel) [95, 36, 45, 46, 64, 66, 79, 84, 77, 73, 81, 48, 96, 68, 54, 53, 62, 97, 62, 98, 62, 99, 62, 100, 44, 49, 48, 101, 49, 54] (by decide +kernel) (by decide +kernel) (by decide +kernel) (by decide +kernel) trivial
theorem t_X7_becomes : tabOK MTq BQ 338 q_X7_becomes k_X7_becomes [] := tabOK_of SI_X7 (by decide +kernel) [102, 103, 60, 104, 57, 105, 78, 106, 107, 59, 108, 56, 109, 77, 110, 73, 111, 76, 112, 112, 113, 112, 114, 112, 115, 112, 63, 112, 81, 82, 83, 83, 83, 116] (by decide +kernel) (by decide +kernel) (by decide +kernel) (by decide +kernel) trivial
theorem t_X7_load : tabOK MTq BQ 338 q_X7_load k_X7_load [] := tabOK_of SI_X7 (by decide +kernel) [25, 28, 52, 27, 30, 117, 44, 118, 44, 119, 13, 44, 27, 120, 121, 122, 123, 123, 124] (by decide +kernel) (by decide +kernel) (by decide +kernel) (by decide +kernel) trivial
theorem t_X7_find : tabOK MTq BQ 338 q_X7_find k_X7_find [] := tabOK_of SI_X7 (by decide +kernel) [125, 28, 52, 27, 30, 107, 126, 55, 108, 124, 55] (by decide +kernel) (by decide +kernel) (by decide +kernel) (by decide +kernel) trivial
theorem t_X7_ofKind : tabOK MTq BQ 338 q_X7_ofKind k_X7_ofKind [] := tabOK_of SI_X7 (by decide +kernel) [112] (by decide +kernel) (by decide +kernel) (by decide +kernel) (by decide +kernel) trivial
theorem t_X7_tiredOf : tabOK MTq BQ 338 q_X7_tiredOf k_X7_tiredOf [] := tabOK_of SI_X7 (by decide +kernel) [112] (by decide +kernel) (by decide +kernel) (by decide +kernel) (by decide +kernel) trivial
theorem t_X7_urgencyOf : tabOK MTq BQ 338 q_X7_urgencyOf k_X7_urgencyOf [] := tabOK_of SI_X7 (by decide +kernel) [127, 128, 129] (by decide +kernel) (by decide +kernel) (by decide +kernel) (by decide +kernel) trivial
theorem t_X7_isMasked : tabOK MTq BQ 338 q_X7_isMasked k_X7_isMasked [] := tabOK_of SI_X7 (by decide +kernel) [112] (by decide +kernel) (by decide +kernel) (by decide +kernel) (by decide +kernel) trivial
theorem t_X7_inQueue : tabOK MTq BQ 338 q_X7_inQueue k_X7_inQueue [] := tabOK_of SI_X7 (by decide +kernel) [112] (by decide +kernel) (by decide +kernel) (by decide +kernel) (by decide +kernel) trivial
theorem t_X7_onStack : tabOK MTq BQ 338 q_X7_onStack k_X7_onStack [] := tabOK_of SI_X7 (by decide +kernel) [112] (by decide +kernel) (by decide +kernel) (by decide +kernel) (by decide +kernel) trivial
theorem t_X7_counts : tabOK MTq BQ 338 q_X7_counts k_X7_counts [] := tabOK_of SI_X7 (by decide +kernel) [112] (by decide +kernel) (by decide +kernel) (by decide +kernel) (by decide +kernel) trivial
theorem t_X7_ends : tabOK MTq BQ 338 q_X7_ends k_X7_ends [] := tabOK_of SI_X7 (by decide +kernel) [112, 112, 112, 112, 112, 112, 112, 112, 112, 130, 131, 132, 133] (by decide +kernel) (by decide +kernel) (by decide +kernel) (by decide +kernel) trivial
theorem t_X7_leaves : tabOK MTq BQ 338 q_X7_leaves k_X7_leaves [] := tabOK_of SI_X7 (by decide +kernel) [112, 112, 112, 112] (by decide +kernel) (by decide +kernel) (by decide +kernel) (by decide +kernel) trivial
theorem t_X7_endsInQueue : tabOK MTq BQ 338 q_X7_endsInQueue k_X7_endsInQueue [] := tabOK_of SI_X7 (by decide +kernel) [134, 134, 135, 136] (by decide +kernel) (by decide +kernel) (by decide +kernel) (by decide +kernel) trivial
theorem t_X7_isAhead : tabOK MTq BQ 338 q_X7_isAhead k_X7_isAhead [] := tabOK_of SI_X7 (by decide +kernel) [134, 137, 134, 137] (by decide +kernel) (by decide +kernel) (by decide +kernel) (by decide +kernel) trivial
theorem t_X7_placeOf : tabOK MTq BQ 338 q_X7_placeOf k_X7_placeOf [] := tabOK_of SI_X7 (by decide +kernel) [112, 112, 138, 65] (by decide +kernel) (by decide +kernel) (by decide +kernel) (by decide +kernel) trivial
theorem t_X7_sends : tabOK MTq BQ 338 q_X7_sends k_X7_sends [] := tabOK_of SI_X7 (by decide +kernel) [112, 112, 112, 112, 112, 112, 112, 112, 112, 112, 130, 130, 112, 139, 112, 140, 141] (by decide +kernel) (by decide +kernel) (by decide +kernel) (by decide +kernel) trivial
theorem t_X7_drops : tabOK MTq BQ 338 q_X7_drops k_X7_drops [] := tabOK_of SI_X7 (by decide +kernel) [112, 134, 141] (by decide +kernel) (by decide +kernel) (by decide +kernel) (by decide +kernel) trivial
theorem t_X7_ages : tabOK MTq BQ 338 q_X7_ages k_X7_ages [] := tabOK_of SI_X7 (by decide +kernel) [112, 112, 134, 134, 127, 141] (by decide +kernel) (by decide +kernel) (by decide +kernel) (by decide +kernel) trivial
theorem t_X7_nextOf : tabOK MTq BQ 338 q_X7_nextOf k_X7_nextOf [] := tabOK_of SI_X7 (by decide +kernel) [112, 134, 142, 138] (by decide +kernel) (by decide +kernel) (by decide +kernel) (by decide +kernel) trivial
theorem t_X7_mayBegin : tabOK MTq BQ 338 q_X7_mayBegin k_X7_mayBegin [] := tabOK_of SI_X7 (by decide +kernel) [112, 143, 112, 112] (by decide +kernel) (by decide +kernel) (by decide +kernel) (by decide +kernel) trivial
theorem t_X7_begins : tabOK MTq BQ 338 q_X7_begins k_X7_begins [] := tabOK_of SI_X7 (by decide +kernel) [144, 134, 137, 145, 109, 134, 141, 146] (by decide +kernel) (by decide +kernel) (by decide +kernel) (by decide +kernel) trivial
theorem t_X7_stacks : tabOK MTq BQ 338 q_X7_stacks k_X7_stacks [] := tabOK_of SI_X7 (by decide +kernel) [112, 112, 134, 112, 134, 112, 112, 112, 134, 112, 134, 112, 135] (by decide +kernel) (by decide +kernel) (by decide +kernel) (by decide +kernel) trivial
theorem t_X7_works : tabOK MTq BQ 338 q_X7_works k_X7_works [] := tabOK_of SI_X7 (by decide +kernel) [112, 112, 112, 112, 112, 112, 112, 112, 112, 112, 112, 112, 128, 127, 147, 136, 110, 148] (by decide +kernel) (by decide +kernel) (by decide +kernel) (by decide +kernel) trivial
theorem t_X7_does : tabOK MTq BQ 338 q_X7_does k_X7_does [] := tabOK_of SI_X7 (by decide +kernel) [111, 111, 111, 111, 116, 112, 112, 149] (by decide +kernel) (by decide +kernel) (by decide +kernel) (by decide +kernel) trivial
theorem t_X7_ticksOnce : tabOK MTq BQ 338 q_X7_ticksOnce k_X7_ticksOnce [] := tabOK_of SI_X7 (by decide +kernel) [112, 112, 112, 112, 112, 129, 124, 150, 151, 152] (by decide +kernel) (by decide +kernel) (by decide +kernel) (by decide +kernel) trivial
theorem t_X7_goesTicks : tabOK MTq BQ 338 q_X7_goesTicks k_X7_goesTicks [] := tabOK_of SI_X7 (by decide +kernel) [153] (by decide +kernel) (by decide +kernel) (by decide +kernel) (by decide +kernel) trivial
theorem t_X7_sumOf : tabOK MTq BQ 338 q_X7_sumOf k_X7_sumOf [] := tabOK_of SI_X7 (by decide +kernel) [124, 112] (by decide +kernel) (by decide +kernel) (by decide +kernel) (by decide +kernel) trivial
theorem t_X7_toldEnds : tabOK MTq BQ 338 q_X7_toldEnds k_X7_toldEnds [] := tabOK_of SI_X7 (by decide +kernel) [112, 147] (by decide +kernel) (by decide +kernel) (by decide +kernel) (by decide +kernel) trivial
theorem t_X7_count : tabOK MTq BQ 338 q_X7_count k_X7_count [] := tabOK_of SI_X7 (by decide +kernel) [125, 52, 27, 126, 124, 154, 112, 112, 155, 155, 156, 112] (by decide +kernel) (by decide +kernel) (by decide +kernel) (by decide +kernel) trivial
theorem t_X7_setting : tabOK MTq BQ 338 q_X7_setting k_X7_setting [] := tabOK_of SI_X7 (by decide +kernel) [125, 52, 27, 139, 112] (by decide +kernel) (by decide +kernel) (by decide +kernel) (by decide +kernel) trivial
theorem t_X7_isKind : tabOK MTq BQ 338 q_X7_isKind k_X7_isKind [] := tabOK_of SI_X7 (by decide +kernel) [126, 52] (by decide +kernel) (by decide +kernel) (by decide +kernel) (by decide +kernel) trivial
theorem t_X7_isProgram : tabOK MTq BQ 338 q_X7_isProgram k_X7_isProgram [] := tabOK_of SI_X7 (by decide +kernel) [124, 52] (by decide +kernel) (by decide +kernel) (by decide +kernel) (by decide +kernel) trivial
theorem t_X7_noKind : tabOK MTq BQ 338 q_X7_noKind k_X7_noKind [] := tabOK_of SI_X7 (by decide +kernel) [125, 157, 27] (by decide +kernel) (by decide +kernel) (by decide +kernel) (by decide +kernel) trivial
theorem t_X7_noProgram : tabOK MTq BQ 338 q_X7_noProgram k_X7_noProgram [] := tabOK_of SI_X7 (by decide +kernel) [125, 158, 27] (by decide +kernel) (by decide +kernel) (by decide +kernel) (by decide +kernel) trivial
theorem t_X7_noPair : tabOK MTq BQ 338 q_X7_noPair k_X7_noPair [] := tabOK_of SI_X7 (by decide +kernel) [159, 157, 27] (by decide +kernel) (by decide +kernel) (by decide +kernel) (by decide +kernel) trivial
theorem t_X7_noSignal : tabOK MTq BQ 338 q_X7_noSignal k_X7_noSignal [] := tabOK_of SI_X7 (by decide +kernel) [125, 112, 52, 27] (by decide +kernel) (by decide +kernel) (by decide +kernel) (by decide +kernel) trivial
theorem t_X7_kind : tabOK MTq BQ 338 q_X7_kind k_X7_kind [] := tabOK_of SI_X7 (by decide +kernel) [160, 52, 27, 127] (by decide +kernel) (by decide +kernel) (by decide +kernel) (by decide +kernel) trivial
theorem t_X7_handlersOf : tabOK MTq BQ 338 q_X7_handlersOf k_X7_handlersOf [] := tabOK_of SI_X7 (by decide +kernel) [126, 109, 65] (by decide +kernel) (by decide +kernel) (by decide +kernel) (by decide +kernel) trivial
theorem t_X7_program : tabOK MTq BQ 338 q_X7_program k_X7_program [] := tabOK_of SI_X7 (by decide +kernel) [159, 52, 27, 112, 112, 112, 161, 112] (by decide +kernel) (by decide +kernel) (by decide +kernel) (by decide +kernel) trivial
theorem t_X7_handler : tabOK MTq BQ 338 q_X7_handler k_X7_handler [] := tabOK_of SI_X7 (by decide +kernel) [162, 52, 27, 109, 109, 110, 110, 111] (by decide +kernel) (by decide +kernel) (by decide +kernel) (by decide +kernel) trivial
theorem t_X7_urgency : tabOK MTq BQ 338 q_X7_urgency k_X7_urgency [] := tabOK_of SI_X7 (by decide +kernel) [162, 137] (by decide +kernel) (by decide +kernel) (by decide +kernel) (by decide +kernel) trivial
theorem t_X7_tiredness : tabOK MTq BQ 338 q_X7_tiredness k_X7_tiredness [] := tabOK_of SI_X7 (by decide +kernel) [162, 128] (by decide +kernel) (by decide +kernel) (by decide +kernel) (by decide +kernel) trivial
theorem t_X7_queue : tabOK MTq BQ 338 q_X7_queue k_X7_queue [] := tabOK_of SI_X7 (by decide +kernel) [159, 112, 52, 27, 52, 27, 140, 134] (by decide +kernel) (by decide +kernel) (by decide +kernel) (by decide +kernel) trivial
theorem t_X7_running : tabOK MTq BQ 338 q_X7_running k_X7_running [] := tabOK_of SI_X7 (by decide +kernel) [159, 112, 52, 27, 52, 27, 112, 143] (by decide +kernel) (by decide +kernel) (by decide +kernel) (by decide +kernel) trivial
theorem t_X7_ofEnd : tabOK MTq BQ 338 q_X7_ofEnd k_X7_ofEnd [] := tabOK_of SI_X7 (by decide +kernel) [112, 112] (by decide +kernel) (by decide +kernel) (by decide +kernel) (by decide +kernel) trivial
theorem t_X7_end : tabOK MTq BQ 338 q_X7_end k_X7_end [] := tabOK_of SI_X7 (by decide +kernel) [125, 156, 52, 27, 52, 27, 163] (by decide +kernel) (by decide +kernel) (by decide +kernel) (by decide +kernel) trivial
theorem t_X7_queuedAt : tabOK MTq BQ 338 q_X7_queuedAt k_X7_queuedAt [] := tabOK_of SI_X7 (by decide +kernel) [112, 134] (by decide +kernel) (by decide +kernel) (by decide +kernel) (by decide +kernel) trivial
theorem t_X7_stackedAt : tabOK MTq BQ 338 q_X7_stackedAt k_X7_stackedAt [] := tabOK_of SI_X7 (by decide +kernel) [112, 143] (by decide +kernel) (by decide +kernel) (by decide +kernel) (by decide +kernel) trivial
theorem t_X7_placeNow : tabOK MTq BQ 338 q_X7_placeNow k_X7_placeNow [] := tabOK_of SI_X7 (by decide +kernel) [124, 164, 165] (by decide +kernel) (by decide +kernel) (by decide +kernel) (by decide +kernel) trivial
theorem t_X7_whereIs : tabOK MTq BQ 338 q_X7_whereIs k_X7_whereIs [] := tabOK_of SI_X7 (by decide +kernel) [166, 167, 156, 163, 163] (by decide +kernel) (by decide +kernel) (by decide +kernel) (by decide +kernel) trivial
theorem t_X7_next : tabOK MTq BQ 338 q_X7_next k_X7_next [] := tabOK_of SI_X7 (by decide +kernel) [159, 144, 134] (by decide +kernel) (by decide +kernel) (by decide +kernel) (by decide +kernel) trivial
theorem t_X7_busiest : tabOK MTq BQ 338 q_X7_busiest k_X7_busiest [] := tabOK_of SI_X7 (by decide +kernel) [125, 124, 112, 112] (by decide +kernel) (by decide +kernel) (by decide +kernel) (by decide +kernel) trivial
theorem t_X7_tiredest : tabOK MTq BQ 338 q_X7_tiredest k_X7_tiredest [] := tabOK_of SI_X7 (by decide +kernel) [159, 126, 128, 128] (by decide +kernel) (by decide +kernel) (by decide +kernel) (by decide +kernel) trivial
theorem t_X7_oldest : tabOK MTq BQ 338 q_X7_oldest k_X7_oldest [] := tabOK_of SI_X7 (by decide +kernel) [125, 124, 112, 134, 134] (by decide +kernel) (by decide +kernel) (by decide +kernel) (by decide +kernel) trivial
theorem t_X7_loser : tabOK MTq BQ 338 q_X7_loser k_X7_loser [] := tabOK_of SI_X7 (by decide +kernel) [162, 112, 139, 112, 140, 137, 134, 137, 112, 134] (by decide +kernel) (by decide +kernel) (by decide +kernel) (by decide +kernel) trivial
theorem t_X7_meanWait : tabOK MTq BQ 338 q_X7_meanWait k_X7_meanWait [] := tabOK_of SI_X7 (by decide +kernel) [125, 112, 112, 112] (by decide +kernel) (by decide +kernel) (by decide +kernel) (by decide +kernel) trivial
theorem t_X7_handledShare : tabOK MTq BQ 338 q_X7_handledShare k_X7_handledShare [] := tabOK_of SI_X7 (by decide +kernel) [125, 112, 112, 112] (by decide +kernel) (by decide +kernel) (by decide +kernel) (by decide +kernel) trivial
theorem t_X7_raises : tabOK MTq BQ 338 q_X7_raises k_X7_raises [] := tabOK_of SI_X7 (by decide +kernel) [126, 110, 111, 111] (by decide +kernel) (by decide +kernel) (by decide +kernel) (by decide +kernel) trivial
theorem t_X7_raisers : tabOK MTq BQ 338 q_X7_raisers k_X7_raisers [] := tabOK_of SI_X7 (by decide +kernel) [160, 124, 168, 65] (by decide +kernel) (by decide +kernel) (by decide +kernel) (by decide +kernel) trivial
theorem t_X7_putsAside : tabOK MTq BQ 338 q_X7_putsAside k_X7_putsAside [] := tabOK_of SI_X7 (by decide +kernel) [169, 112] (by decide +kernel) (by decide +kernel) (by decide +kernel) (by decide +kernel) trivial
theorem t_X7_fetchesBack : tabOK MTq BQ 338 q_X7_fetchesBack k_X7_fetchesBack [] := tabOK_of SI_X7 (by decide +kernel) [112, 169] (by decide +kernel) (by decide +kernel) (by decide +kernel) (by decide +kernel) trivial
theorem t_X7_isIdle : tabOK MTq BQ 338 q_X7_isIdle k_X7_isIdle [] := tabOK_of SI_X7 (by decide +kernel) [112, 112] (by decide +kernel) (by decide +kernel) (by decide +kernel) (by decide +kernel) trivial
theorem t_X7_areIdle : tabOK MTq BQ 338 q_X7_areIdle k_X7_areIdle [] := tabOK_of SI_X7 (by decide +kernel) [170, 155, 155] (by decide +kernel) (by decide +kernel) (by decide +kernel) (by decide +kernel) trivial
theorem t_X7_ticksToIdle : tabOK MTq BQ 338 q_X7_ticksToIdle k_X7_ticksToIdle [] := tabOK_of SI_X7 (by decide +kernel) [171, 172, 153, 172, 173] (by decide +kernel) (by decide +kernel) (by decide +kernel) (by decide +kernel) trivial
theorem t_X7_idleIn : tabOK MTq BQ 338 q_X7_idleIn k_X7_idleIn [] := tabOK_of SI_X7 (by decide +kernel) [159, 174] (by decide +kernel) (by decide +kernel) (by decide +kernel) (by decide +kernel) trivial
theorem t_X7_calmIn : tabOK MTq BQ 338 q_X7_calmIn k_X7_calmIn [] := tabOK_of SI_X7 (by decide +kernel) [125, 174] (by decide +kernel) (by decide +kernel) (by decide +kernel) (by decide +kernel) trivial
theorem t_X7_ticksToEnd : tabOK MTq BQ 338 q_X7_ticksToEnd k_X7_ticksToEnd [] := tabOK_of SI_X7 (by decide +kernel) [167, 133, 171, 22, 133, 132, 153, 22, 173, 132] (by decide +kernel) (by decide +kernel) (by decide +kernel) (by decide +kernel) trivial
theorem t_X7_endIn : tabOK MTq BQ 338 q_X7_endIn k_X7_endIn [] := tabOK_of SI_X7 (by decide +kernel) [166, 175] (by decide +kernel) (by decide +kernel) (by decide +kernel) (by decide +kernel) trivial
theorem t_X7_endOf : tabOK MTq BQ 338 q_X7_endOf k_X7_endOf [] := tabOK_of SI_X7 (by decide +kernel) [166, 175, 132] (by decide +kernel) (by decide +kernel) (by decide +kernel) (by decide +kernel) trivial
theorem t_X7_moreOf : tabOK MTq BQ 338 q_X7_moreOf k_X7_moreOf [] := tabOK_of SI_X7 (by decide +kernel) [171, 176, 112, 169, 173] (by decide +kernel) (by decide +kernel) (by decide +kernel) (by decide +kernel) trivial
theorem t_X7_endsIn : tabOK MTq BQ 338 q_X7_endsIn k_X7_endsIn [] := tabOK_of SI_X7 (by decide +kernel) [125, 52, 52, 27, 177] (by decide +kernel) (by decide +kernel) (by decide +kernel) (by decide +kernel) trivial
theorem t_X7_urgencyIn : tabOK MTq BQ 338 q_X7_urgencyIn k_X7_urgencyIn [] := tabOK_of SI_X7 (by decide +kernel) [162, 52, 27, 171, 176, 137, 173] (by decide +kernel) (by decide +kernel) (by decide +kernel) (by decide +kernel) trivial
theorem t_X7_sentIn : tabOK MTq BQ 338 q_X7_sentIn k_X7_sentIn [] := tabOK_of SI_X7 (by decide +kernel) [125, 52, 27, 177] (by decide +kernel) (by decide +kernel) (by decide +kernel) (by decide +kernel) trivial
theorem t_X7_bestMask : tabOK MTq BQ 338 q_X7_bestMask k_X7_bestMask [] := tabOK_of SI_X7 (by decide +kernel) [159, 112, 126, 142, 112, 177, 112] (by decide +kernel) (by decide +kernel) (by decide +kernel) (by decide +kernel) trivial
theorem t_X7_says : tabOK MTq BQ 338 q_X7_says k_X7_says [] := tabOK_of SI_X7 (by decide +kernel) [178, 179, 179, 180] (by decide +kernel) (by decide +kernel) (by decide +kernel) (by decide +kernel) trivial
theorem t_X7_saysNumber : tabOK MTq BQ 338 q_X7_saysNumber k_X7_saysNumber [] := tabOK_of SI_X7 (by decide +kernel) [181] (by decide +kernel) (by decide +kernel) (by decide +kernel) (by decide +kernel) trivial
theorem t_X7_saysKind : tabOK MTq BQ 338 q_X7_saysKind k_X7_saysKind [] := tabOK_of SI_X7 (by decide +kernel) [107, 107, 181] (by decide +kernel) (by decide +kernel) (by decide +kernel) (by decide +kernel) trivial
theorem t_X7_parts : tabOK MTq BQ 338 q_X7_parts k_X7_parts [] := tabOK_of SI_X7 (by decide +kernel) [179, 181] (by decide +kernel) (by decide +kernel) (by decide +kernel) (by decide +kernel) trivial
theorem t_X7_writeQueue : tabOK MTq BQ 338 q_X7_writeQueue k_X7_writeQueue [] := tabOK_of SI_X7 (by decide +kernel) [159, 180, 112, 140, 182, 134, 183, 181, 134, 184, 181, 134, 183, 179] (by decide +kernel) (by decide +kernel) (by decide +kernel) (by decide +kernel) trivial
theorem t_X7_writeStack : tabOK MTq BQ 338 q_X7_writeStack k_X7_writeStack [] := tabOK_of SI_X7 (by decide +kernel) [159, 180, 112, 182, 143, 184, 181, 143, 183, 179] (by decide +kernel) (by decide +kernel) (by decide +kernel) (by decide +kernel) trivial
theorem t_X7_letterOf : tabOK MTq BQ 338 q_X7_letterOf k_X7_letterOf [] := tabOK_of SI_X7 (by decide +kernel) [] (by decide +kernel) (by decide +kernel) (by decide +kernel) (by decide +kernel) trivial
theorem t_X7_writeEnds : tabOK MTq BQ 338 q_X7_writeEnds k_X7_writeEnds [] := tabOK_of SI_X7 (by decide +kernel) [125, 180, 156, 182, 163, 183, 163, 185, 181, 179] (by decide +kernel) (by decide +kernel) (by decide +kernel) (by decide +kernel) trivial
theorem t_X7_textByte : tabOK MTq BQ 338 q_X7_textByte k_X7_textByte [] := tabOK_of SI_X7 (by decide +kernel) [25, 179, 52, 27, 178] (by decide +kernel) (by decide +kernel) (by decide +kernel) (by decide +kernel) trivial
theorem t_X7_keeps : tabOK MTq BQ 338 q_X7_keeps k_X7_keeps [] := tabOK_of SI_X7 (by decide +kernel) [186, 112] (by decide +kernel) (by decide +kernel) (by decide +kernel) (by decide +kernel) trivial
theorem t_X7_fetches : tabOK MTq BQ 338 q_X7_fetches k_X7_fetches [] := tabOK_of SI_X7 (by decide +kernel) [112, 186] (by decide +kernel) (by decide +kernel) (by decide +kernel) (by decide +kernel) trivial
theorem t_X7_keepsAll : tabOK MTq BQ 338 q_X7_keepsAll k_X7_keepsAll [] := tabOK_of SI_X7 (by decide +kernel) [187, 186, 186, 187, 122, 187, 188, 187, 122] (by decide +kernel) (by decide +kernel) (by decide +kernel) (by decide +kernel) trivial
theorem t_X7_tick : tabOK MTq BQ 338 q_X7_tick k_X7_tick [] := tabOK_of SI_X7 (by decide +kernel) [125, 52, 112, 27, 189, 112, 176, 112] (by decide +kernel) (by decide +kernel) (by decide +kernel) (by decide +kernel) trivial
theorem t_X7_send : tabOK MTq BQ 338 q_X7_send k_X7_send [] := tabOK_of SI_X7 (by decide +kernel) [162, 52, 27, 189, 116, 112] (by decide +kernel) (by decide +kernel) (by decide +kernel) (by decide +kernel) trivial
theorem t_X7_mask : tabOK MTq BQ 338 q_X7_mask k_X7_mask [] := tabOK_of SI_X7 (by decide +kernel) [162, 189, 142, 112, 112, 65] (by decide +kernel) (by decide +kernel) (by decide +kernel) (by decide +kernel) trivial
theorem t_X7_dropsRunning : tabOK MTq BQ 338 q_X7_dropsRunning k_X7_dropsRunning [] := tabOK_of SI_X7 (by decide +kernel) [143, 143, 112, 112, 112, 112, 136] (by decide +kernel) (by decide +kernel) (by decide +kernel) (by decide +kernel) trivial
theorem t_X7_drop : tabOK MTq BQ 338 q_X7_drop k_X7_drop [] := tabOK_of SI_X7 (by decide +kernel) [166, 189, 167, 164, 141, 165, 190] (by decide +kernel) (by decide +kernel) (by decide +kernel) (by decide +kernel) trivial
theorem t_X7_clear : tabOK MTq BQ 338 q_X7_clear k_X7_clear [] := tabOK_of SI_X7 (by decide +kernel) [159, 189, 149] (by decide +kernel) (by decide +kernel) (by decide +kernel) (by decide +kernel) trivial
theorem t_X7_refresh : tabOK MTq BQ 338 q_X7_refresh k_X7_refresh [] := tabOK_of SI_X7 (by decide +kernel) [159, 189, 126, 128, 112] (by decide +kernel) (by decide +kernel) (by decide +kernel) (by decide +kernel) trivial
theorem t_X7_sets : tabOK MTq BQ 338 q_X7_sets k_X7_sets [] := tabOK_of SI_X7 (by decide +kernel) [189, 112, 112] (by decide +kernel) (by decide +kernel) (by decide +kernel) (by decide +kernel) trivial
theorem t_X7_setKind : tabOK MTq BQ 338 q_X7_setKind k_X7_setKind [] := tabOK_of SI_X7 (by decide +kernel) [160, 52, 27, 52, 52, 52, 27, 191] (by decide +kernel) (by decide +kernel) (by decide +kernel) (by decide +kernel) trivial
theorem t_X7_set : tabOK MTq BQ 338 q_X7_set k_X7_set [] := tabOK_of SI_X7 (by decide +kernel) [125, 52, 27, 52, 52, 52, 27, 191] (by decide +kernel) (by decide +kernel) (by decide +kernel) (by decide +kernel) trivial
theorem t_X7_undo : tabOK MTq BQ 338 q_X7_undo k_X7_undo [] := tabOK_of SI_X7 (by decide +kernel) [25, 187, 27, 187, 122, 187, 192, 187] (by decide +kernel) (by decide +kernel) (by decide +kernel) (by decide +kernel) trivial
theorem t_X7_undoable : tabOK MTq BQ 338 q_X7_undoable k_X7_undoable [] := tabOK_of SI_X7 (by decide +kernel) [25, 187] (by decide +kernel) (by decide +kernel) (by decide +kernel) (by decide +kernel) trivial
theorem t_X7_save : tabOK MTq BQ 338 q_X7_save k_X7_save [] := tabOK_of SI_X7 (by decide +kernel) [125, 52, 27, 188, 123, 112] (by decide +kernel) (by decide +kernel) (by decide +kernel) (by decide +kernel) trivial
theorem t_X7_restore : tabOK MTq BQ 338 q_X7_restore k_X7_restore [] := tabOK_of SI_X7 (by decide +kernel) [25, 52, 27, 123, 27, 192, 122, 112] (by decide +kernel) (by decide +kernel) (by decide +kernel) (by decide +kernel) trivial
theorem t_L_load : tabOK MTq BQ 338 q_L_load k_L_load [(0, 9, 2, 13, 3), (0, 9, 1, 16, 3)] := tabOK_of SI_L (by decide +kernel) [0] (by decide +kernel) (by decide +kernel) (by decide +kernel) (by decide +kernel) ⟨⟨rfl, rfl, by decide, by decide, w_363, by decide, Or.inl ⟨3, by decide +kernel, rfl, rfl⟩⟩, ⟨⟨rfl, rfl, by decide, by decide, w_364, by decide, Or.inl ⟨3, by decide +kernel, rfl, rfl⟩⟩, trivial⟩⟩
theorem t_L_find : tabOK MTq BQ 338 q_L_find k_L_find [(0, 10, 0, 15, 4), (0, 10, 2, 19, 4)] := tabOK_of SI_L (by decide +kernel) [1] (by decide +kernel) (by decide +kernel) (by decide +kernel) (by decide +kernel) ⟨⟨rfl, rfl, by decide, by decide, w_754, by decide, Or.inr ⟨by decide +kernel, rfl⟩⟩, ⟨⟨rfl, rfl, by decide, by decide, w_363, by decide, Or.inr ⟨by decide +kernel, rfl⟩⟩, trivial⟩⟩
theorem t_L_count : tabOK MTq BQ 338 q_L_count k_L_count [(0, 9, 0, 13, 3), (0, 9, 1, 16, 3)] := tabOK_of SI_L (by decide +kernel) [2] (by decide +kernel) (by decide +kernel) (by decide +kernel) (by decide +kernel) ⟨⟨rfl, rfl, by decide, by decide, w_754, by decide, Or.inl ⟨3, by decide +kernel, rfl, rfl⟩⟩, ⟨⟨rfl, rfl, by decide, by decide, w_364, by decide, Or.inl ⟨3, by decide +kernel, rfl, rfl⟩⟩, trivial⟩⟩
theorem t_L_setting : tabOK MTq BQ 338 q_L_setting k_L_setting [(0, 9, 0, 13, 3), (0, 9, 1, 16, 3)] := tabOK_of SI_L (by decide +kernel) [3] (by decide +kernel) (by decide +kernel) (by decide +kernel) (by decide +kernel) ⟨⟨rfl, rfl, by decide, by decide, w_754, by decide, Or.inl ⟨3, by decide +kernel, rfl, rfl⟩⟩, ⟨⟨rfl, rfl, by decide, by decide, w_364, by decide, Or.inl ⟨3, by decide +kernel, rfl, rfl⟩⟩, trivial⟩⟩
theorem t_L_kind : tabOK MTq BQ 338 q_L_kind k_L_kind [(0, 10, 0, 15, 4), (0, 10, 2, 19, 4), (0, 10, 1, 23, 4)] := tabOK_of SI_L (by decide +kernel) [4] (by decide +kernel) (by decide +kernel) (by decide +kernel) (by decide +kernel) ⟨⟨rfl, rfl, by decide, by decide, w_754, by decide, Or.inr ⟨by decide +kernel, rfl⟩⟩, ⟨⟨rfl, rfl, by decide, by decide, w_363, by decide, Or.inr ⟨by decide +kernel, rfl⟩⟩, ⟨⟨rfl, rfl, by decide, by decide, w_364, by decide, Or.inr ⟨by decide +kernel, rfl⟩⟩, trivial⟩⟩⟩
theorem t_L_program : tabOK MTq BQ 338 q_L_program k_L_program [(0, 10, 0, 15, 4), (0, 10, 2, 19, 4), (0, 10, 1, 23, 4)] := tabOK_of SI_L (by decide +kernel) [5] (by decide +kernel) (by decide +kernel) (by decide +kernel) (by decide +kernel) ⟨⟨rfl, rfl, by decide, by decide, w_754, by decide, Or.inr ⟨by decide +kernel, rfl⟩⟩, ⟨⟨rfl, rfl, by decide, by decide, w_363, by decide, Or.inr ⟨by decide +kernel, rfl⟩⟩, ⟨⟨rfl, rfl, by decide, by decide, w_364, by decide, Or.inr ⟨by decide +kernel, rfl⟩⟩, trivial⟩⟩⟩
theorem t_L_handler : tabOK MTq BQ 338 q_L_handler k_L_handler [(0, 12, 0, 17, 5), (0, 12, 2, 21, 5), (0, 12, 1, 25, 5)] := tabOK_of SI_L (by decide +kernel) [6] (by decide +kernel) (by decide +kernel) (by decide +kernel) (by decide +kernel) ⟨⟨rfl, rfl, by decide, by decide, w_754, by decide, Or.inr ⟨by decide +kernel, rfl⟩⟩, ⟨⟨rfl, rfl, by decide, by decide, w_363, by decide, Or.inr ⟨by decide +kernel, rfl⟩⟩, ⟨⟨rfl, rfl, by decide, by decide, w_364, by decide, Or.inr ⟨by decide +kernel, rfl⟩⟩, trivial⟩⟩⟩
theorem t_L_urgency : tabOK MTq BQ 338 q_L_urgency k_L_urgency [(0, 10, 0, 15, 4), (0, 10, 2, 19, 4)] := tabOK_of SI_L (by decide +kernel) [7] (by decide +kernel) (by decide +kernel) (by decide +kernel) (by decide +kernel) ⟨⟨rfl, rfl, by decide, by decide, w_754, by decide, Or.inr ⟨by decide +kernel, rfl⟩⟩, ⟨⟨rfl, rfl, by decide, by decide, w_363, by decide, Or.inr ⟨by decide +kernel, rfl⟩⟩, trivial⟩⟩
theorem t_L_tiredness : tabOK MTq BQ 338 q_L_tiredness k_L_tiredness [(0, 10, 0, 15, 4), (0, 10, 2, 19, 4)] := tabOK_of SI_L (by decide +kernel) [8] (by decide +kernel) (by decide +kernel) (by decide +kernel) (by decide +kernel) ⟨⟨rfl, rfl, by decide, by decide, w_754, by decide, Or.inr ⟨by decide +kernel, rfl⟩⟩, ⟨⟨rfl, rfl, by decide, by decide, w_363, by decide, Or.inr ⟨by decide +kernel, rfl⟩⟩, trivial⟩⟩
theorem t_L_queue : tabOK MTq BQ 338 q_L_queue k_L_queue [(0, 12, 0, 17, 5), (0, 12, 2, 21, 5), (0, 12, 1, 25, 5)] := tabOK_of SI_L (by decide +kernel) [9] (by decide +kernel) (by decide +kernel) (by decide +kernel) (by decide +kernel) ⟨⟨rfl, rfl, by decide, by decide, w_754, by decide, Or.inr ⟨by decide +kernel, rfl⟩⟩, ⟨⟨rfl, rfl, by decide, by decide, w_363, by decide, Or.inr ⟨by decide +kernel, rfl⟩⟩, ⟨⟨rfl, rfl, by decide, by decide, w_364, by decide, Or.inr ⟨by decide +kernel, rfl⟩⟩, trivial⟩⟩⟩
theorem t_L_running : tabOK MTq BQ 338 q_L_running k_L_running [(0, 12, 0, 17, 5), (0, 12, 2, 21, 5), (0, 12, 1, 25, 5)] := tabOK_of SI_L (by decide +kernel) [10] (by decide +kernel) (by decide +kernel) (by decide +kernel) (by decide +kernel) ⟨⟨rfl, rfl, by decide, by decide, w_754, by decide, Or.inr ⟨by decide +kernel, rfl⟩⟩, ⟨⟨rfl, rfl, by decide, by decide, w_363, by decide, Or.inr ⟨by decide +kernel, rfl⟩⟩, ⟨⟨rfl, rfl, by decide, by decide, w_364, by decide, Or.inr ⟨by decide +kernel, rfl⟩⟩, trivial⟩⟩⟩
theorem t_L_end : tabOK MTq BQ 338 q_L_end k_L_end [(0, 10, 0, 15, 4), (0, 10, 2, 19, 4), (0, 10, 1, 23, 4)] := tabOK_of SI_L (by decide +kernel) [11] (by decide +kernel) (by decide +kernel) (by decide +kernel) (by decide +kernel) ⟨⟨rfl, rfl, by decide, by decide, w_754, by decide, Or.inr ⟨by decide +kernel, rfl⟩⟩, ⟨⟨rfl, rfl, by decide, by decide, w_363, by decide, Or.inr ⟨by decide +kernel, rfl⟩⟩, ⟨⟨rfl, rfl, by decide, by decide, w_364, by decide, Or.inr ⟨by decide +kernel, rfl⟩⟩, trivial⟩⟩⟩
theorem t_L_whereIs : tabOK MTq BQ 338 q_L_whereIs k_L_whereIs [(0, 9, 0, 13, 3), (0, 9, 2, 16, 3)] := tabOK_of SI_L (by decide +kernel) [12] (by decide +kernel) (by decide +kernel) (by decide +kernel) (by decide +kernel) ⟨⟨rfl, rfl, by decide, by decide, w_754, by decide, Or.inl ⟨3, by decide +kernel, rfl, rfl⟩⟩, ⟨⟨rfl, rfl, by decide, by decide, w_363, by decide, Or.inl ⟨3, by decide +kernel, rfl, rfl⟩⟩, trivial⟩⟩
theorem t_L_next : tabOK MTq BQ 338 q_L_next k_L_next [(0, 9, 0, 13, 3), (0, 9, 2, 16, 3)] := tabOK_of SI_L (by decide +kernel) [13] (by decide +kernel) (by decide +kernel) (by decide +kernel) (by decide +kernel) ⟨⟨rfl, rfl, by decide, by decide, w_754, by decide, Or.inl ⟨3, by decide +kernel, rfl, rfl⟩⟩, ⟨⟨rfl, rfl, by decide, by decide, w_363, by decide, Or.inl ⟨3, by decide +kernel, rfl, rfl⟩⟩, trivial⟩⟩
theorem t_L_busiest : tabOK MTq BQ 338 q_L_busiest k_L_busiest [(0, 8, 0, 12, 2)] := tabOK_of SI_L (by decide +kernel) [14] (by decide +kernel) (by decide +kernel) (by decide +kernel) (by decide +kernel) ⟨⟨rfl, rfl, by decide, by decide, w_754, by decide, Or.inl ⟨2, by decide +kernel, rfl, rfl⟩⟩, trivial⟩
theorem t_L_tiredest : tabOK MTq BQ 338 q_L_tiredest k_L_tiredest [(0, 9, 0, 13, 3), (0, 9, 2, 16, 3)] := tabOK_of SI_L (by decide +kernel) [15] (by decide +kernel) (by decide +kernel) (by decide +kernel) (by decide +kernel) ⟨⟨rfl, rfl, by decide, by decide, w_754, by decide, Or.inl ⟨3, by decide +kernel, rfl, rfl⟩⟩, ⟨⟨rfl, rfl, by decide, by decide, w_363, by decide, Or.inl ⟨3, by decide +kernel, rfl, rfl⟩⟩, trivial⟩⟩
theorem t_L_oldest : tabOK MTq BQ 338 q_L_oldest k_L_oldest [(0, 8, 0, 12, 2)] := tabOK_of SI_L (by decide +kernel) [16] (by decide +kernel) (by decide +kernel) (by decide +kernel) (by decide +kernel) ⟨⟨rfl, rfl, by decide, by decide, w_754, by decide, Or.inl ⟨2, by decide +kernel, rfl, rfl⟩⟩, trivial⟩
theorem t_L_loser : tabOK MTq BQ 338 q_L_loser k_L_loser [(0, 10, 0, 15, 4), (0, 10, 2, 19, 4)] := tabOK_of SI_L (by decide +kernel) [17] (by decide +kernel) (by decide +kernel) (by decide +kernel) (by decide +kernel) ⟨⟨rfl, rfl, by decide, by decide, w_754, by decide, Or.inr ⟨by decide +kernel, rfl⟩⟩, ⟨⟨rfl, rfl, by decide, by decide, w_363, by decide, Or.inr ⟨by decide +kernel, rfl⟩⟩, trivial⟩⟩
theorem t_L_meanWait : tabOK MTq BQ 338 q_L_meanWait k_L_meanWait [(0, 7, 0, 11, 2)] := tabOK_of SI_L (by decide +kernel) [18] (by decide +kernel) (by decide +kernel) (by decide +kernel) (by decide +kernel) ⟨⟨rfl, rfl, by decide, by decide, w_754, by decide, Or.inl ⟨2, by decide +kernel, rfl, rfl⟩⟩, trivial⟩
theorem t_L_handledShare : tabOK MTq BQ 338 q_L_handledShare k_L_handledShare [(0, 8, 0, 12, 2)] := tabOK_of SI_L (by decide +kernel) [19] (by decide +kernel) (by decide +kernel) (by decide +kernel) (by decide +kernel) ⟨⟨rfl, rfl, by decide, by decide, w_754, by decide, Or.inl ⟨2, by decide +kernel, rfl, rfl⟩⟩, trivial⟩
theorem t_L_raisers : tabOK MTq BQ 338 q_L_raisers k_L_raisers [(0, 9, 0, 13, 3), (0, 9, 2, 16, 3)] := tabOK_of SI_L (by decide +kernel) [20] (by decide +kernel) (by decide +kernel) (by decide +kernel) (by decide +kernel) ⟨⟨rfl, rfl, by decide, by decide, w_754, by decide, Or.inl ⟨3, by decide +kernel, rfl, rfl⟩⟩, ⟨⟨rfl, rfl, by decide, by decide, w_363, by decide, Or.inl ⟨3, by decide +kernel, rfl, rfl⟩⟩, trivial⟩⟩
theorem t_L_idleIn : tabOK MTq BQ 338 q_L_idleIn k_L_idleIn [(0, 9, 0, 13, 3), (0, 9, 2, 16, 3)] := tabOK_of SI_L (by decide +kernel) [21] (by decide +kernel) (by decide +kernel) (by decide +kernel) (by decide +kernel) ⟨⟨rfl, rfl, by decide, by decide, w_754, by decide, Or.inl ⟨3, by decide +kernel, rfl, rfl⟩⟩, ⟨⟨rfl, rfl, by decide, by decide, w_363, by decide, Or.inl ⟨3, by decide +kernel, rfl, rfl⟩⟩, trivial⟩⟩
theorem t_L_calmIn : tabOK MTq BQ 338 q_L_calmIn k_L_calmIn [(0, 8, 0, 12, 2)] := tabOK_of SI_L (by decide +kernel) [22] (by decide +kernel) (by decide +kernel) (by decide +kernel) (by decide +kernel) ⟨⟨rfl, rfl, by decide, by decide, w_754, by decide, Or.inl ⟨2, by decide +kernel, rfl, rfl⟩⟩, trivial⟩
theorem t_L_endIn : tabOK MTq BQ 338 q_L_endIn k_L_endIn [(0, 9, 0, 13, 3), (0, 9, 2, 16, 3)] := tabOK_of SI_L (by decide +kernel) [23] (by decide +kernel) (by decide +kernel) (by decide +kernel) (by decide +kernel) ⟨⟨rfl, rfl, by decide, by decide, w_754, by decide, Or.inl ⟨3, by decide +kernel, rfl, rfl⟩⟩, ⟨⟨rfl, rfl, by decide, by decide, w_363, by decide, Or.inl ⟨3, by decide +kernel, rfl, rfl⟩⟩, trivial⟩⟩
theorem t_L_endOf : tabOK MTq BQ 338 q_L_endOf k_L_endOf [(0, 9, 0, 13, 3), (0, 9, 2, 16, 3)] := tabOK_of SI_L (by decide +kernel) [24] (by decide +kernel) (by decide +kernel) (by decide +kernel) (by decide +kernel) ⟨⟨rfl, rfl, by decide, by decide, w_754, by decide, Or.inl ⟨3, by decide +kernel, rfl, rfl⟩⟩, ⟨⟨rfl, rfl, by decide, by decide, w_363, by decide, Or.inl ⟨3, by decide +kernel, rfl, rfl⟩⟩, trivial⟩⟩
theorem t_L_endsIn : tabOK MTq BQ 338 q_L_endsIn k_L_endsIn [(0, 10, 0, 15, 4), (0, 10, 1, 19, 4)] := tabOK_of SI_L (by decide +kernel) [25] (by decide +kernel) (by decide +kernel) (by decide +kernel) (by decide +kernel) ⟨⟨rfl, rfl, by decide, by decide, w_754, by decide, Or.inr ⟨by decide +kernel, rfl⟩⟩, ⟨⟨rfl, rfl, by decide, by decide, w_364, by decide, Or.inr ⟨by decide +kernel, rfl⟩⟩, trivial⟩⟩
theorem t_L_urgencyIn : tabOK MTq BQ 338 q_L_urgencyIn k_L_urgencyIn [(0, 12, 0, 17, 5), (0, 12, 2, 21, 5), (0, 12, 1, 25, 5)] := tabOK_of SI_L (by decide +kernel) [26] (by decide +kernel) (by decide +kernel) (by decide +kernel) (by decide +kernel) ⟨⟨rfl, rfl, by decide, by decide, w_754, by decide, Or.inr ⟨by decide +kernel, rfl⟩⟩, ⟨⟨rfl, rfl, by decide, by decide, w_363, by decide, Or.inr ⟨by decide +kernel, rfl⟩⟩, ⟨⟨rfl, rfl, by decide, by decide, w_364, by decide, Or.inr ⟨by decide +kernel, rfl⟩⟩, trivial⟩⟩⟩
theorem t_L_sentIn : tabOK MTq BQ 338 q_L_sentIn k_L_sentIn [(0, 9, 0, 13, 3), (0, 9, 1, 16, 3)] := tabOK_of SI_L (by decide +kernel) [27] (by decide +kernel) (by decide +kernel) (by decide +kernel) (by decide +kernel) ⟨⟨rfl, rfl, by decide, by decide, w_754, by decide, Or.inl ⟨3, by decide +kernel, rfl, rfl⟩⟩, ⟨⟨rfl, rfl, by decide, by decide, w_364, by decide, Or.inl ⟨3, by decide +kernel, rfl, rfl⟩⟩, trivial⟩⟩
theorem t_L_bestMask : tabOK MTq BQ 338 q_L_bestMask k_L_bestMask [(0, 9, 0, 13, 3), (0, 9, 2, 16, 3)] := tabOK_of SI_L (by decide +kernel) [28] (by decide +kernel) (by decide +kernel) (by decide +kernel) (by decide +kernel) ⟨⟨rfl, rfl, by decide, by decide, w_754, by decide, Or.inl ⟨3, by decide +kernel, rfl, rfl⟩⟩, ⟨⟨rfl, rfl, by decide, by decide, w_363, by decide, Or.inl ⟨3, by decide +kernel, rfl, rfl⟩⟩, trivial⟩⟩
theorem t_L_writeQueue : tabOK MTq BQ 338 q_L_writeQueue k_L_writeQueue [(0, 9, 0, 13, 3), (0, 9, 2, 16, 3)] := tabOK_of SI_L (by decide +kernel) [29] (by decide +kernel) (by decide +kernel) (by decide +kernel) (by decide +kernel) ⟨⟨rfl, rfl, by decide, by decide, w_754, by decide, Or.inl ⟨3, by decide +kernel, rfl, rfl⟩⟩, ⟨⟨rfl, rfl, by decide, by decide, w_363, by decide, Or.inl ⟨3, by decide +kernel, rfl, rfl⟩⟩, trivial⟩⟩
theorem t_L_writeStack : tabOK MTq BQ 338 q_L_writeStack k_L_writeStack [(0, 9, 0, 13, 3), (0, 9, 2, 16, 3)] := tabOK_of SI_L (by decide +kernel) [30] (by decide +kernel) (by decide +kernel) (by decide +kernel) (by decide +kernel) ⟨⟨rfl, rfl, by decide, by decide, w_754, by decide, Or.inl ⟨3, by decide +kernel, rfl, rfl⟩⟩, ⟨⟨rfl, rfl, by decide, by decide, w_363, by decide, Or.inl ⟨3, by decide +kernel, rfl, rfl⟩⟩, trivial⟩⟩
theorem t_L_writeEnds : tabOK MTq BQ 338 q_L_writeEnds k_L_writeEnds [(0, 8, 0, 12, 2)] := tabOK_of SI_L (by decide +kernel) [31] (by decide +kernel) (by decide +kernel) (by decide +kernel) (by decide +kernel) ⟨⟨rfl, rfl, by decide, by decide, w_754, by decide, Or.inl ⟨2, by decide +kernel, rfl, rfl⟩⟩, trivial⟩
theorem t_L_textByte : tabOK MTq BQ 338 q_L_textByte k_L_textByte [(0, 9, 2, 13, 3)] := tabOK_of SI_L (by decide +kernel) [32] (by decide +kernel) (by decide +kernel) (by decide +kernel) (by decide +kernel) ⟨⟨rfl, rfl, by decide, by decide, w_363, by decide, Or.inl ⟨3, by decide +kernel, rfl, rfl⟩⟩, trivial⟩
theorem t_L_tick : tabOK MTq BQ 338 q_L_tick k_L_tick [(0, 9, 0, 13, 3), (0, 9, 1, 16, 3)] := tabOK_of SI_L (by decide +kernel) [33] (by decide +kernel) (by decide +kernel) (by decide +kernel) (by decide +kernel) ⟨⟨rfl, rfl, by decide, by decide, w_754, by decide, Or.inl ⟨3, by decide +kernel, rfl, rfl⟩⟩, ⟨⟨rfl, rfl, by decide, by decide, w_364, by decide, Or.inl ⟨3, by decide +kernel, rfl, rfl⟩⟩, trivial⟩⟩
theorem t_L_send : tabOK MTq BQ 338 q_L_send k_L_send [(0, 12, 0, 17, 5), (0, 12, 2, 21, 5), (0, 12, 1, 25, 5)] := tabOK_of SI_L (by decide +kernel) [34] (by decide +kernel) (by decide +kernel) (by decide +kernel) (by decide +kernel) ⟨⟨rfl, rfl, by decide, by decide, w_754, by decide, Or.inr ⟨by decide +kernel, rfl⟩⟩, ⟨⟨rfl, rfl, by decide, by decide, w_363, by decide, Or.inr ⟨by decide +kernel, rfl⟩⟩, ⟨⟨rfl, rfl, by decide, by decide, w_364, by decide, Or.inr ⟨by decide +kernel, rfl⟩⟩, trivial⟩⟩⟩
theorem t_L_mask : tabOK MTq BQ 338 q_L_mask k_L_mask [(0, 19, 0, 24, 5), (0, 19, 2, 28, 5)] := tabOK_of SI_L (by decide +kernel) [35] (by decide +kernel) (by decide +kernel) (by decide +kernel) (by decide +kernel) ⟨⟨rfl, rfl, by decide, by decide, w_754, by decide, Or.inr ⟨by decide +kernel, rfl⟩⟩, ⟨⟨rfl, rfl, by decide, by decide, w_363, by decide, Or.inr ⟨by decide +kernel, rfl⟩⟩, trivial⟩⟩
theorem t_L_drop : tabOK MTq BQ 338 q_L_drop k_L_drop [(0, 9, 0, 13, 3), (0, 9, 2, 16, 3)] := tabOK_of SI_L (by decide +kernel) [36] (by decide +kernel) (by decide +kernel) (by decide +kernel) (by decide +kernel) ⟨⟨rfl, rfl, by decide, by decide, w_754, by decide, Or.inl ⟨3, by decide +kernel, rfl, rfl⟩⟩, ⟨⟨rfl, rfl, by decide, by decide, w_363, by decide, Or.inl ⟨3, by decide +kernel, rfl, rfl⟩⟩, trivial⟩⟩
theorem t_L_clear : tabOK MTq BQ 338 q_L_clear k_L_clear [(0, 9, 0, 13, 3), (0, 9, 2, 16, 3)] := tabOK_of SI_L (by decide +kernel) [37] (by decide +kernel) (by decide +kernel) (by decide +kernel) (by decide +kernel) ⟨⟨rfl, rfl, by decide, by decide, w_754, by decide, Or.inl ⟨3, by decide +kernel, rfl, rfl⟩⟩, ⟨⟨rfl, rfl, by decide, by decide, w_363, by decide, Or.inl ⟨3, by decide +kernel, rfl, rfl⟩⟩, trivial⟩⟩
theorem t_L_refresh : tabOK MTq BQ 338 q_L_refresh k_L_refresh [(0, 9, 0, 13, 3), (0, 9, 2, 16, 3)] := tabOK_of SI_L (by decide +kernel) [38] (by decide +kernel) (by decide +kernel) (by decide +kernel) (by decide +kernel) ⟨⟨rfl, rfl, by decide, by decide, w_754, by decide, Or.inl ⟨3, by decide +kernel, rfl, rfl⟩⟩, ⟨⟨rfl, rfl, by decide, by decide, w_363, by decide, Or.inl ⟨3, by decide +kernel, rfl, rfl⟩⟩, trivial⟩⟩
theorem t_L_setKind : tabOK MTq BQ 338 q_L_setKind k_L_setKind [(0, 12, 0, 17, 5), (0, 12, 2, 21, 5), (0, 12, 1, 25, 5)] := tabOK_of SI_L (by decide +kernel) [39] (by decide +kernel) (by decide +kernel) (by decide +kernel) (by decide +kernel) ⟨⟨rfl, rfl, by decide, by decide, w_754, by decide, Or.inr ⟨by decide +kernel, rfl⟩⟩, ⟨⟨rfl, rfl, by decide, by decide, w_363, by decide, Or.inr ⟨by decide +kernel, rfl⟩⟩, ⟨⟨rfl, rfl, by decide, by decide, w_364, by decide, Or.inr ⟨by decide +kernel, rfl⟩⟩, trivial⟩⟩⟩
theorem t_L_set : tabOK MTq BQ 338 q_L_set k_L_set [(0, 10, 0, 15, 4), (0, 10, 1, 19, 4)] := tabOK_of SI_L (by decide +kernel) [40] (by decide +kernel) (by decide +kernel) (by decide +kernel) (by decide +kernel) ⟨⟨rfl, rfl, by decide, by decide, w_754, by decide, Or.inr ⟨by decide +kernel, rfl⟩⟩, ⟨⟨rfl, rfl, by decide, by decide, w_364, by decide, Or.inr ⟨by decide +kernel, rfl⟩⟩, trivial⟩⟩
theorem t_L_undo : tabOK MTq BQ 338 q_L_undo k_L_undo [(0, 8, 0, 12, 2)] := tabOK_of SI_L (by decide +kernel) [41] (by decide +kernel) (by decide +kernel) (by decide +kernel) (by decide +kernel) ⟨⟨rfl, rfl, by decide, by decide, w_754, by decide, Or.inl ⟨2, by decide +kernel, rfl, rfl⟩⟩, trivial⟩
theorem t_L_save : tabOK MTq BQ 338 q_L_save k_L_save [(0, 9, 0, 13, 3), (0, 9, 2, 16, 3)] := tabOK_of SI_L (by decide +kernel) [42] (by decide +kernel) (by decide +kernel) (by decide +kernel) (by decide +kernel) ⟨⟨rfl, rfl, by decide, by decide, w_754, by decide, Or.inl ⟨3, by decide +kernel, rfl, rfl⟩⟩, ⟨⟨rfl, rfl, by decide, by decide, w_363, by decide, Or.inl ⟨3, by decide +kernel, rfl, rfl⟩⟩, trivial⟩⟩
theorem t_L_restore : tabOK MTq BQ 338 q_L_restore k_L_restore [(0, 9, 2, 13, 3), (0, 9, 0, 16, 3)] := tabOK_of SI_L (by decide +kernel) [43] (by decide +kernel) (by decide +kernel) (by decide +kernel) (by decide +kernel) ⟨⟨rfl, rfl, by decide, by decide, w_363, by decide, Or.inl ⟨3, by decide +kernel, rfl, rfl⟩⟩, ⟨⟨rfl, rfl, by decide, by decide, w_754, by decide, Or.inl ⟨3, by decide +kernel, rfl, rfl⟩⟩, trivial⟩⟩
