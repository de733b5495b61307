/-! a call of the system's own methods -/
def retc : Option FieldType → Nat
  | none => 0
  | some .int | some .boolean | some .byte | some .char => 1
  | some .float => 3
  | some .double => 4
  | some _ => 2
def nparm (y : MethodName) : Option Nat := (parseMethodDescriptor y.desc).map (fun d => d.parameters.length)
theorem wsM_eq (q : MI) : wsM q = codeW q :: TBLg := rfl
/-- what a call site asks of the tables -/
def calOK (q : MI) (b : Nat) (own : String) (i : Instr) (r : Nat × Nat × Nat × Nat) : Prop :=
  retc q.2.2.2.1 = r.2.2.1 ∧ r.2.2.2 % 16 = b ∧ q.2.2.1 ≤ 19 ∧ (q.1.cls ≠ "java/lang/invoke/MethodHandle" ∧ q.1.cls ≠ "java/lang/invoke/VarHandle") ∧ Cond.initialized q.1.cls ∈ TBLg ∧ codeW q ∈ TBLg ∧
  (match i with
  | .invokevirtual idx => q.2.2.2.2 = [] ∧ (∃ ci, ci < 8 ∧ clR ci = q.1.cls ∧ r.2.2.2 / 16 = ci + 1) ∧ nparm q.1 = some (r.2.1 - 1) ∧ 1 ≤ r.2.1 ∧ Cond.methodLink own idx q.1 ∈ TBLg ∧ Cond.instanceMethod q.1 ∈ TBLg ∧ Cond.selects q.1.cls q.1 q.1 ∈ TBLg
  | .invokestatic idx => r.2.2.2 / 16 = 0 ∧ nparm q.1 = some r.2.1 ∧ Cond.methodLink own idx q.1 ∈ TBLg ∧ Cond.static q.1 ∈ TBLg
  | .invokespecial idx => q.2.2.2.2 = [] ∧ q.2.2.2.1 = none ∧ q.1.name = "<init>" ∧ (∃ ci, r.2.2.2 / 16 = ci + 1) ∧ nparm q.1 = some (r.2.1 - 1) ∧ 1 ≤ r.2.1 ∧ (Cond.methodLink own idx q.1 ∈ TBLg ∨ ∃ host, Cond.methodLinkNest own idx q.1 host ∈ TBLn) ∧ Cond.instanceMethod q.1 ∈ TBLg
  | _ => False)
theorem good_word {w : Cond} (h : w ∈ TBLg) : (w.onTables && w.keeps) = true ∨ ∃ ty, w = .arrayClass ty := good_of_word (List.mem_filter.mp h).2
section SND5
variable {p : Program} {l : Launch} {e : Env} {R : Room} {s : State} {m : MethodId} {args : Array Value} {below : List Frame} {meth : Method} {c : Code} {Z : State → Prop} {θ : TH} {cc : ByteArray} {nL : Nat}
theorem ws_warm {q : MI} (hts : ∀ w ∈ TBLg, w.before args s = true) (hc : codeW q ∈ TBLg) : ∀ w ∈ wsM q, ∀ (a' : Array Value) (U : State), s.WarmedH U.vm → w.before a' U = true := by
  rw [wsM_eq]
  intro w hw a' U hW
  have hw : w ∈ TBLg := by
    rcases List.mem_cons.mp hw with rfl | h
    · exact hc
    · exact h
  exact word_at hW (good_word hw) (hts w hw)
/-- what comes back is what the plain machine says -/
theorem ret_val {ret : Option FieldType} {t : Nat} (h : retc ret = t) {nxt : PL → List PV → PH → Nat → Nat → Prop} {L : PL} {st : List PV} {c0 s0 : Nat} {x : Int} {h' : PH} (H : stpR nxt t L st c0 s0 x h') : ∃ st', nxt L st' h' c0 s0 ∧ st'.map (eV θ) = (eRet θ ret x).toList ++ st.map (eV θ) := by
  subst h
  cases ret with
  | none => exact ⟨st, H, rfl⟩
  | some ty =>
    cases ty <;> first
      | exact ⟨pI x :: st, H, rfl⟩
      | exact ⟨pW 3 x :: st, H, rfl⟩
      | exact ⟨pW 4 x :: st, H, rfl⟩
      | exact ⟨pA x.toNat :: st, H, rfl⟩
theorem m_call (hx : p.tables.exec = Jvm.exec) (hb : c.code = cc) (hml : c.maxLocals = nL) {own : String} (hown : s.vm.findClass own = some m.cls) (hts : ∀ w ∈ TBLg, w.before args s = true) (hT : TW θ) (hE : EN θ s) (hnc : ∀ i j, i < 3 → j < 3 → i ≠ j → va_Nc (exN i) (exN j) s) (hca : ∀ i, i < 3 → (Cond.castable (exN i) (exN i)).before args s = true)
    {pc : Nat} {i : Instr} {r : Nat × Nat × Nat × Nat} (hd' : decode cc pc = .ok (i, 3)) {q : MI} {b d : Nat} (hok : calOK q b own i r) {call : PC} (hC : ∀ a h Q X, call r.1 a h Q X → CT θ l d b q a h Q X) (hRf : d + 1 ≤ R.frames) (hRl : 38 * (d + 1) ≤ R.locals)
    {hd : PX} {hh : List (Nat × Nat × Nat × Nat)} {X : Nat → PH → Prop} (hht : c.exceptionTable.toList = tableOf hh ∨ (hd = [] ∧ ∀ k h, ¬ X k h)) (hhd : hAll own cc nL hh hd) {jmp : PK} {nxt : PL → List PV → PH → Nat → Nat → Prop}
    (hj : ∀ t L st h c0 s0, jmp t L st h c0 s0 → MW θ nL p l e R s m args below meth c Z t L st h c0 s0)
    (hn : ∀ L st h c0 s0, nxt L st h c0 s0 → MW θ nL p l e R s m args below meth c Z (pc + 3) L st h c0 s0)
    (hX : ∀ k h H locs c0 s0 ls rest q ce, k < 3 → X k h → RepS θ h H locs → c0 ≤ R.cells → s0 ≤ R.slots → H[q]? = some ce → ce.vm = .none → s.vm.findClass (exN k) = some ce.cls → (∀ z ∈ c.exceptionTable.toList, covers z pc = false ∨ (z.catchType ≠ 0 ∧ ∃ nm : String, (Cond.classLink own z.catchType nm).before args s = true ∧ va_Nc (exN k) nm s)) → vx_W p l e R s m args below meth c H locs c0 s0 Z (F0 m pc ls rest) q)
    {L : PL} {st : List PV} {h : PH} {c0 s0 : Nat} (H : stpC hd call R.cells R.slots X jmp nxt pc r L st h c0 s0) : MW θ nL p l e R s m args below meth c Z pc L st h c0 s0 := by
  obtain ⟨o1, o2, o3, o4, o5, o6, o7⟩ := hok
  obtain ⟨hle, H⟩ := cond_t H
  rw [Bool.and_eq_true] at hle
  obtain ⟨hle, hlen0⟩ := hle
  have hlen0 := Nat.eq_of_beq_eq_true hlen0
  intro Hh locs ls hR hL hc0 hs0
  have hW : ((pdrop r.2.1 st).map (eV θ) |>.map fun v => v.category).sum ≤ 8 := catsum_le _ hle
  have hst : st.map (eV θ) = ((prev (ptake r.2.1 st) []).map (eV θ)).reverse ++ (pdrop r.2.1 st).map (eV θ) := by
    rw [prev_eq, List.append_nil, ← List.map_reverse, List.reverse_reverse, ← List.map_append, ptake_drop]
  -- behind the call
  have KN : ∀ (P : Int → PH → Prop) (Y : Nat → PH → Prop) (a' b' : Nat), (P = stpR nxt r.2.2.1 L (pdrop r.2.1 st) (c0 + a') (s0 + b')) → (Y = stpX hd X jmp pc L (c0 + a') (s0 + b')) → c0 + a' ≤ R.cells → s0 + b' ≤ R.slots → a' = (bdc b).1 → b' = (bdc b).2 →
      (vx_Run p l e R s m args below meth c Hh locs c0 s0 (bdc b).1 (bdc b).2 (F0 m pc ls (st.map (eV θ))) ((pdrop r.2.1 st).map (eV θ)) (QcM θ q.2.2.2.1 P ((prev (ptake r.2.1 st) []).map (eV θ)).toArray) (XcM θ Y) (frM θ)) → W p l e R s m args below meth c Hh locs c0 s0 Z (F0 m pc ls (st.map (eV θ))) := by
    intro P Y a' b' hP hY g1 g2 ea eb hrun
    refine w_run hrun hR.2 ?_ ?_
    · rintro v st0 t locs' ⟨x, h', hp, ho, hrep⟩ hl'
      have hv : v = eRet θ q.2.2.2.1 x := by cases ho; rfl
      subst hv
      rw [hP] at hp
      obtain ⟨st', hnx, hmap⟩ := ret_val (θ := θ) o1 hp
      have := hn _ _ _ _ _ hnx t.heap locs' ls ⟨hrep, hl'⟩ hL g1 g2
      rw [hmap] at this
      rw [ea, eb] at this
      exact this
    · rintro q' E ce st0 t locs' ⟨k, h', hk3, rfl, hy, hrep⟩ hce hv hcl hl'
      rw [hY] at hy
      rw [ea] at hy g1
      rw [eb] at hy g2
      rcases hht with hht | ⟨rfl, hno⟩
      · exact w_throw hx hb hown hts hnc hca hj hk3 ⟨hrep, hl'⟩ hL g1 g2 hce hv hcl (fun hXk hp => hX k h' t.heap locs' _ _ ls _ q' ce hk3 hXk ⟨hrep, hl'⟩ g1 g2 hce hv hcl hp) hd hh [] hht hhd (fun z hz => nomatch hz) hy
      · exact absurd hy (hno _ _)
  -- the contract at hand
  have KC : stpK hd call R.cells R.slots X jmp nxt pc r L st h c0 s0 → ∃ (P : Int → PH → Prop) (Y : Nat → PH → Prop) (a' b' : Nat), (P = stpR nxt r.2.2.1 L (pdrop r.2.1 st) (c0 + a') (s0 + b')) ∧ (Y = stpX hd X jmp pc L (c0 + a') (s0 + b')) ∧ c0 + a' ≤ R.cells ∧ s0 + b' ≤ R.slots ∧ a' = (bdc b).1 ∧ b' = (bdc b).2 ∧ CT θ l d b q (prev (ptake r.2.1 st) []) h P Y := by
    intro HK
    unfold stpK at HK
    rw [o2] at HK
    split at HK
    · rename_i hb0
      exact ⟨_, _, 0, 0, rfl, rfl, hc0, hs0, by rw [hb0], by rw [hb0], hC _ _ _ _ HK⟩
    · rename_i a' b' hb0 hb1
      exact ⟨_, _, a', b', rfl, rfl, HK.1.1, HK.1.2, by rw [hb1], by rw [hb1], hC _ _ _ _ HK.2⟩
  have hfix : CallFix p m c cc nL s args TBLg own := ⟨hx, hb, hml, hown, hts⟩
  have hpay := ws_warm (q := q) hts o6
  have hroom : (rmM d b).frames + 1 ≤ R.frames ∧ 8 + (q.2.2.1 + 11) + (rmM d b).locals ≤ R.locals := ⟨hRf, by show 8 + (q.2.2.1 + 11) + 38 * d ≤ R.locals; omega⟩
  cases i with
  | invokestatic idx =>
    obtain ⟨k1, k2, k3, k4⟩ := o7
    rw [k1] at H
    obtain ⟨P, Y, a', b', e1, e2, e3, e4, e5, e6, hct⟩ := KC H
    refine KN P Y a' b' e1 e2 e3 e4 e5 e6 ?_
    have hlen : ((prev (ptake r.2.1 st) []).map (eV θ)).length = r.2.1 := by rw [List.length_map, prev_eq, List.append_nil, List.length_reverse, hlen0]
    have hcall : PreS s Hh (PcM θ h (prev (ptake r.2.1 st) [])) ((prev (ptake r.2.1 st) []).map (eV θ)) := ⟨PcM.blind _ _ _, fun U hU hWU => ⟨rfl, by rw [hU]; exact hR.1, EN.warm hWU hE⟩⟩
    have hfit : c0 + (bdc b).1 ≤ R.cells ∧ s0 + (bdc b).2 ≤ R.slots := ⟨by rw [← e5]; exact e3, by rw [← e6]; exact e4⟩
    cases hq : q.2.2.2.2 with
    | nil =>
      have hcw : codeW q = .code q.1 q.2.1 q.2.2.1 q.2.2.2.1 := by unfold codeW; rw [hq]
      exact vx_runS (n := r.2.1) (bytes := q.2.1) (maxL := q.2.2.1) (ret := q.2.2.2.1) hfix hct ⟨⟨rfl, rfl, hroom.1, hroom.2, hpay, by rw [wsM_eq, hcw]; exact List.mem_cons_self, by rw [← hcw]; exact hts _ o6, hts _ o5, o4, fun sig hs => by unfold nparm at k2; rw [hs] at k2; exact (Option.some.inj k2).symm, hts _ k3⟩, hts _ k4⟩ hcall rfl hlen hL.1 hst (by rw [f0run rfl]; omega) hd' hfit
    | cons z zs =>
      have hcw : codeW q = .codeWith q.1 q.2.1 q.2.2.1 q.2.2.2.1 q.2.2.2.2 := by unfold codeW; rw [hq]
      exact vx_runSX (n := r.2.1) (bytes := q.2.1) (maxL := q.2.2.1) (ret := q.2.2.2.1) (hh := q.2.2.2.2) hfix hct ⟨⟨rfl, rfl, hroom.1, hroom.2, hpay, by rw [wsM_eq, hcw]; exact List.mem_cons_self⟩, by rw [← hcw]; exact hts _ o6, hts _ o5, o4, fun sig hs => by unfold nparm at k2; rw [hs] at k2; exact (Option.some.inj k2).symm, hts _ k3, hts _ k4⟩ hcall rfl hlen hL.1 hst (by rw [f0run rfl]; omega) hd' hfit
  | invokevirtual idx =>
    obtain ⟨k0, ⟨ci, c1, c2, c3⟩, k2, k1, k3, k4, k5⟩ := o7
    rw [c3] at H
    simp only at H
    have hlen : (prev (ptake r.2.1 st) []).length = r.2.1 := by rw [prev_eq, List.append_nil, List.length_reverse, hlen0]
    cases hA : prev (ptake r.2.1 st) [] with
    | nil => rw [hA] at H; exact H.elim
    | cons v As =>
      rw [hA] at H hlen
      rcases v with x | a | w
      · exact H.elim
      · obtain ⟨hka, H⟩ := H
        obtain ⟨P, Y, a', b', e1, e2, e3, e4, e5, e6, hct⟩ := KC H
        refine KN P Y a' b' e1 e2 e3 e4 e5 e6 ?_
        rw [hA] at hct hst ⊢
        obtain ⟨cell, hc, hcok, ha⟩ := hR.1.at (r := a) (by omega) (by omega)
        have hob := cOK_obj c1 hka hcok
        have hcw : codeW q = .code q.1 q.2.1 q.2.2.1 q.2.2.2.1 := by unfold codeW; rw [k0]
        have hvr : eV θ (.inr (.inl a)) = .ref (tad θ a) := eV_ref ha
        simp only [List.map_cons, hvr, List.reverse_cons, List.append_assoc, List.singleton_append] at hst ⊢
        have hp : PreV s Hh q.1.cls (tad θ a) (PcM θ h (.inr (.inl a) :: As)) (As.map (eV θ)) := by
          refine ⟨PcM.blind _ _ _, ⟨cell, hc, by rw [hob.2.1]; rfl, ?_⟩, fun U hU hWU => ⟨by rw [List.map_cons, hvr], by rw [hU]; exact hR.1, EN.warm hWU hE⟩⟩
          rw [← c2, hob.1]
          exact (clK hT hE c1).2.1
        exact vx_runV (n := r.2.1 - 1) (C := q.1.cls) (bytes := q.2.1) (maxL := q.2.2.1) (ret := q.2.2.2.1) hfix hct ⟨⟨rfl, rfl, hroom.1, hroom.2, hpay, by rw [wsM_eq, hcw]; exact List.mem_cons_self, by rw [← hcw]; exact hts _ o6, hts _ o5, o4, fun sig hs => by unfold nparm at k2; rw [hs] at k2; exact (Option.some.inj k2).symm, hts _ k3⟩, hts _ k4, hts _ k5⟩ hp rfl (by rw [List.length_map]; simp only [List.length_cons] at hlen; omega) hL.1 hst (by rw [f0run rfl]; omega) hd' ⟨by rw [← e5]; exact e3, by rw [← e6]; exact e4⟩
      · exact H.elim
  | invokespecial idx =>
    obtain ⟨k0, kr, ky, ⟨ci, c3⟩, k2, k1, k3, k4⟩ := o7
    rw [c3] at H
    simp only at H
    have hlen : (prev (ptake r.2.1 st) []).length = r.2.1 := by rw [prev_eq, List.append_nil, List.length_reverse, hlen0]
    cases hA : prev (ptake r.2.1 st) [] with
    | nil => rw [hA] at H; exact H.elim
    | cons v As =>
      rw [hA] at H hlen
      rcases v with x | a | w
      · exact H.elim
      · obtain ⟨hka, H⟩ := H
        obtain ⟨P, Y, a', b', e1, e2, e3, e4, e5, e6, hct⟩ := KC H
        refine KN P Y a' b' e1 e2 e3 e4 e5 e6 ?_
        rw [hA] at hct hst ⊢
        have ha : a ≠ 0 := (hR.1.2.2.2 a (by omega)).1
        have hcw : codeW q = .code q.1 q.2.1 q.2.2.1 none := by unfold codeW; rw [k0, kr]
        have hvr : eV θ (.inr (.inl a)) = .ref (tad θ a) := eV_ref ha
        simp only [List.map_cons, hvr, List.reverse_cons, List.append_assoc, List.singleton_append] at hst ⊢
        have hp : PreS s Hh (PcM θ h (.inr (.inl a) :: As)) (.ref (tad θ a) :: As.map (eV θ)) :=
          ⟨PcM.blind _ _ _, fun U hU hWU => ⟨by rw [List.map_cons, hvr], by rw [hU]; exact hR.1, EN.warm hWU hE⟩⟩
        rcases k3 with k3 | ⟨host, k3⟩
        · exact vx_runI (n := r.2.1 - 1) (bytes := q.2.1) (maxL := q.2.2.1) hfix hct ⟨⟨rfl, rfl, hroom.1, hroom.2, hpay, by rw [wsM_eq, hcw]; exact List.mem_cons_self, by rw [← hcw]; exact hts _ o6, hts _ o5, o4, fun sig hs => by unfold nparm at k2; rw [hs] at k2; exact (Option.some.inj k2).symm, hts _ k3⟩, ky, hts _ k4⟩ hp rfl (by rw [List.length_map]; simp only [List.length_cons] at hlen; omega) hL.1 hst (by rw [f0run rfl]; omega) hd' ⟨by rw [← e5]; exact e3, by rw [← e6]; exact e4⟩
        · exact vx_runIN (n := r.2.1 - 1) (host := host) (bytes := q.2.1) (maxL := q.2.2.1) hfix hct ⟨⟨⟨rfl, rfl, hroom.1, hroom.2, hpay, by rw [wsM_eq, hcw]; exact List.mem_cons_self⟩, by rw [← hcw]; exact hts _ o6, hts _ o5, o4, fun sig hs => by unfold nparm at k2; rw [hs] at k2; exact (Option.some.inj k2).symm, va_Nw.use rfl (hE.2.1 _ k3)⟩, ky, hts _ k4⟩ hp rfl (by rw [List.length_map]; simp only [List.length_cons] at hlen; omega) hL.1 hst (by rw [f0run rfl]; omega) hd' ⟨by rw [← e5]; exact e3, by rw [← e6]; exact e4⟩
      · exact H.elim
  | _ => exact o7.elim
end SND5
