/-! a stretch of code, a method, all methods: sound -/
/-- a throw: nothing stands behind it -/
def nofall (q : PI) : Bool := match q.2.1 with
  | .new _ => Nat.ble 90 q.2.2.2.1
  | _ => false
def seqB : List PI → Bool
  | [] => true
  | [_] => true
  | q :: q' :: l => (nofall q || Nat.beq q'.1 (q.1 + q.2.2.1)) && seqB (q' :: l)
theorem seqB_suf : ∀ (pre : List PI) {q q' : PI} {l : List PI}, seqB (pre ++ q :: q' :: l) = true → nofall q = false → q'.1 = q.1 + q.2.2.1
  | [], q, q', l, h, hf => by
    simp only [List.nil_append, seqB, Bool.and_eq_true, hf, Bool.false_or] at h
    exact Nat.eq_of_beq_eq_true h.1
  | [a], q, q', l, h, hf => by
    simp only [List.cons_append, List.nil_append, seqB, Bool.and_eq_true, hf, Bool.false_or] at h
    exact Nat.eq_of_beq_eq_true h.2.1
  | a :: b :: pre, q, q', l, h, hf => by
    simp only [List.cons_append, seqB, Bool.and_eq_true] at h
    exact seqB_suf (b :: pre) h.2 hf
theorem pto_spec (t : Nat) : ∀ full : List PI, pto t full = [] ∨ ∃ pre q rest, full = pre ++ q :: rest ∧ pto t full = q :: rest ∧ q.1 = t
  | [] => Or.inl rfl
  | q :: l => by
    unfold pto
    cases hb : Nat.beq q.1 t with
    | true => exact Or.inr ⟨[], q, l, rfl, rfl, Nat.eq_of_beq_eq_true hb⟩
    | false =>
      rcases pto_spec t l with h | ⟨pre, q', rest, h1, h2, h3⟩
      · exact Or.inl h
      · exact Or.inr ⟨q :: pre, q', rest, by rw [h1]; rfl, h2, h3⟩
/-- a method's table is good -/
def tabOK (M : Nat → MI) (B : Nat → Nat) (N : Nat) (q : MI) (full : List PI) (hd : PX) : Prop :=
  (∀ x ∈ full, okI M B N q.1 q.2.1 q.2.2.2.1 x) ∧ seqB full = true ∧ hAll q.1.cls q.2.1 q.2.2.1 q.2.2.2.2 hd ∧ plainName q.1.cls = true ∧ (q.2.2.2.2 ≠ [] → ∀ x ∈ full, ∀ idx, x.2.1 = .new idx → x.2.2.2.1 < 90)
section METH
variable {p : Program} {l : Launch} {e : Env} {R : Room} {s : State} {m : MethodId} {args : Array Value} {below : List Frame} {meth : Method} {c : Code} {Z : State → Prop} {θ : TH}
theorem wpc_sound {M : Nat → MI} {B : Nat → Nat} {N : Nat} {q0 : MI} {full : List PI} {hd : PX} {d : Nat} (hW : WF θ) (hF : FR θ p l R s m args meth c q0.1 q0.2.1 q0.2.2.1 q0.2.2.2.1 (d + 1)) (hTab : tabOK M B N q0 full hd) {call : PC} (hC : ∀ mi a h Q X, mi < N → call mi a h Q X → CT θ l d (B mi) (M mi) a h Q X)
    {Q : Int → PH → Prop} {X : Nat → PH → Prop} (htab : c.exceptionTable.toList = tableOf q0.2.2.2.2 ∨ (hd = [] ∧ ∀ k h, ¬ X k h)) {cuts : List Nat} {K : PK}
    (hK : ∀ t L st h c0 s0, K t L st h c0 s0 → MW θ q0.2.2.1 p l e R s m args below meth c Z t L st h c0 s0)
    (hX : ∀ pc k h H locs c0 s0 ls rest q ce, k < 3 → X k h → RepS θ h H locs → c0 ≤ R.cells → s0 ≤ R.slots → H[q]? = some ce → ce.vm = .none → s.vm.findClass (exN k) = some ce.cls → (∀ z ∈ c.exceptionTable.toList, covers z pc = false ∨ (z.catchType ≠ 0 ∧ ∃ nm : String, (Cond.classLink q0.1.cls z.catchType nm).before args s = true ∧ va_Nc (exN k) nm s)) → vx_W p l e R s m args below meth c H locs c0 s0 Z (F0 m pc ls rest) q)
    (hT : ∀ pc ik k (L : PL) (st : List PV) (h : PH) c0 s0, q0.2.2.2.2 = [] → thrOK q0.1.cls q0.2.1 pc ik k → 6 ≤ d + 1 → Nat.ble (2 * st.length) 8 = true → c0 + 1 ≤ R.cells → s0 + 6 ≤ R.slots → (∀ n', hn h ≤ n' → X k (hup h n')) → MW θ q0.2.2.1 p l e R s m args below meth c Z pc L st h c0 s0)
    (hI : ∀ pc rc (x : Int) (h : PH) (L : PL) c0 s0, decode q0.2.1 pc = .ok (.ireturn, 1) → retI q0.2.2.2.1 rc → retQ rc Q x h → MW θ q0.2.2.1 p l e R s m args below meth c Z pc L [pI x] h c0 s0)
    (hV : ∀ pc i (h : PH) (L : PL) (st : List PV) c0 s0, decode q0.2.1 pc = .ok (i, 1) → (i = .areturn ∧ (∃ C, q0.2.2.2.1 = some (.object C)) ∧ (∃ r : Nat, st = [pA r] ∧ Q r h) ∨ i = .freturn ∧ q0.2.2.2.1 = some .float ∧ (∃ x, st = [pW 3 x] ∧ Q x h) ∨ i = .dreturn ∧ q0.2.2.2.1 = some .double ∧ (∃ x, st = [pW 4 x] ∧ Q x h) ∨ i = .return_ ∧ q0.2.2.2.1 = none ∧ st = [] ∧ Q 0 h) → MW θ q0.2.2.1 p l e R s m args below meth c Z pc L st h c0 s0) :
    ∀ (n : Nat) (pre : List PI) (q : PI) (rest : List PI) (L : PL) (st : List PV) (h : PH) (c0 s0 : Nat), full = pre ++ q :: rest → wpc full hd call R.cells R.slots (d + 1) Q X cuts K n (q :: rest) L st h c0 s0 → MW θ q0.2.2.1 p l e R s m args below meth c Z q.1 L st h c0 s0
  | 0, _, _, _, _, _, _, _, _, _, H => H.elim
  | n + 1, pre, q, rest, L, st, h, c0, s0, hf, H => by
    have IH := wpc_sound (cuts := cuts) hW hF hTab hC htab hK hX hT hI hV n
    obtain ⟨pc, i, len, r⟩ := q
    have hok := hTab.1 (pc, i, len, r) (by rw [hf]; simp)
    have hj : ∀ t L st h c0 s0, (cond (pin t cuts) (K t L st h c0 s0) (wpc full hd call R.cells R.slots (d + 1) Q X cuts K n (pto t full) L st h c0 s0)) → MW θ q0.2.2.1 p l e R s m args below meth c Z t L st h c0 s0 := by
      intro t L st h c0 s0 HJ
      cases hp : pin t cuts with
      | true => rw [hp] at HJ; exact hK _ _ _ _ _ _ HJ
      | false =>
        rw [hp] at HJ
        have HJ : wpc full hd call R.cells R.slots (d + 1) Q X cuts K n (pto t full) L st h c0 s0 := HJ
        rcases pto_spec t full with h0 | ⟨pre', q', rest', h1, h2, h3⟩
        · rw [h0] at HJ
          cases n <;> exact HJ.elim
        · rw [h2] at HJ
          rw [← h3]
          exact IH pre' q' rest' _ _ _ _ _ h1 HJ
    have hnx : nofall (pc, i, len, r) = false → ∀ L st h c0 s0, (match rest with | [] => False | q' :: rest' => cond (pin q'.1 cuts) (K q'.1 L st h c0 s0) (wpc full hd call R.cells R.slots (d + 1) Q X cuts K n (q' :: rest') L st h c0 s0)) → MW θ q0.2.2.1 p l e R s m args below meth c Z (pc + len) L st h c0 s0 := by
      intro hnf L st h c0 s0 HN
      cases rest with
      | nil => exact HN.elim
      | cons q' rest' =>
        have hpc : q'.1 = pc + len := seqB_suf pre (q := (pc, i, len, r)) (by rw [← hf]; exact hTab.2.1) hnf
        rw [← hpc]
        have HN : cond (pin q'.1 cuts) (K q'.1 L st h c0 s0) (wpc full hd call R.cells R.slots (d + 1) Q X cuts K n (q' :: rest') L st h c0 s0) := HN
        cases hp : pin q'.1 cuts with
        | true => rw [hp] at HN; exact hK _ _ _ _ _ _ HN
        | false => rw [hp] at HN; exact IH (pre ++ [(pc, i, len, r)]) q' rest' _ _ _ _ _ (by rw [hf]; simp) HN
    obtain ⟨o1, o2, o3, o4, o5, o6⟩ := id hok
    obtain ⟨nx', hnx, H⟩ : ∃ nx' : PL → List PV → PH → Nat → Nat → Prop, (∀ L st h c0 s0, nx' L st h c0 s0 → MW θ q0.2.2.1 p l e R s m args below meth c Z (pc + len) L st h c0 s0) ∧ stp hd call R.cells R.slots (d + 1) Q X (fun t L st h c0 s0 => cond (pin t cuts) (K t L st h c0 s0) (wpc full hd call R.cells R.slots (d + 1) Q X cuts K n (pto t full) L st h c0 s0)) nx' (pc, i, len, r) L st h c0 s0 := by
      cases hnf : nofall (pc, i, len, r) with
      | false => exact ⟨_, hnx hnf, H⟩
      | true =>
        refine ⟨fun _ _ _ _ _ => False, fun _ _ _ _ _ q => q.elim, ?_⟩
        cases i
        all_goals try (simp [nofall] at hnf; done)
        have hnf : Nat.ble 90 r.1 = true := hnf
        simp only [wpc, stp, hnf] at H ⊢
        exact H
    cases hs : ispec i with
    | false => exact stp_simple hF.1 hF.2.1 hF.2.2.2.2.2.1.1 o1 o2 o3 o4 o5 hs hj hnx H
    | true =>
      refine stp_spec (M := M) (B := B) (N := N) hW hF hTab.2.2.1 hC htab hok hs hj hnx (fun k h H locs c0 s0 ls rest q ce => hX pc k h H locs c0 s0 ls rest q ce) ?_ ?_ ?_ H
      · intro k L st h c0 s0 hnew h90 hth h6 hst r1 r2 hx
        obtain ⟨idx, rfl⟩ := hnew
        refine hT pc idx k L st h c0 s0 ?_ hth h6 hst r1 r2 hx
        cases hh0 : q0.2.2.2.2 with
        | nil => rfl
        | cons z zs =>
          have := hTab.2.2.2.2 (by rw [hh0]; exact List.cons_ne_nil _ _) (pc, .new idx, len, r) (by rw [hf]; simp) idx rfl
          dsimp only at this
          omega
      · intro hi x h L c0 s0 hq
        subst hi
        have hl : len = 1 := o2.elim id (fun ⟨_, _, _, _, q⟩ => nomatch q)
        dsimp only at o1
        rw [hl] at o1
        exact hI pc r.1 x h L c0 s0 o1 o6 hq
      · intro h L st c0 s0 hq
        have hl : len = 1 := by
          rcases hq with ⟨rfl, -⟩ | ⟨rfl, -⟩ | ⟨rfl, -⟩ | ⟨rfl, -⟩ <;> exact o2.elim id (fun ⟨_, _, _, _, q⟩ => nomatch q)
        dsimp only at o1
        rw [hl] at o1
        refine hV pc i h L st c0 s0 o1 ?_
        rcases hq with ⟨rfl, hq⟩ | ⟨rfl, hq⟩ | ⟨rfl, hq⟩ | ⟨rfl, hq⟩
        · exact Or.inl ⟨rfl, o6, hq⟩
        · exact Or.inr (Or.inl ⟨rfl, o6, hq⟩)
        · exact Or.inr (Or.inr (Or.inl ⟨rfl, o6, hq⟩))
        · exact Or.inr (Or.inr (Or.inr ⟨rfl, o6, hq⟩))
theorem mem_args : ∀ (n i : Nat) (a : List PV), argT a = true → ∀ (j : Nat) (v : PV), lget (ent n a) j = some v → (i + j, eV θ v) ∈ lv_args i (a.map (eV θ))
  | 0, _, _, _, _, _, h => nomatch h
  | n + 1, i, [], _, j, v, h => by
    exfalso
    clear i
    induction n generalizing j with
    | zero => cases j with
      | zero => exact nomatch h
      | succ j => exact nomatch h
    | succ n ih => cases j with
      | zero => exact nomatch h
      | succ j => exact ih j h
  | n + 1, i, w :: a, ha, j, v, h => by
    simp only [argT, Bool.and_eq_true] at ha
    have hcat : (eV θ w).category = 1 := by
      refine eV_cat1 ?_
      have := Nat.le_of_ble_eq_true ha.1
      rcases w with x | r | ⟨t, x⟩
      · trivial
      · trivial
      · exfalso
        have : t + 2 + 1 ≤ 2 := this
        omega
    simp only [List.map_cons, lv_args, hcat]
    cases j with
    | zero => cases h; exact List.mem_cons_self
    | succ j =>
      refine List.mem_cons_of_mem _ ?_
      have := mem_args n (i + 1) a ha.2 j v h
      rw [show i + (j + 1) = i + 1 + j by omega]
      exact this
theorem ent_len : ∀ (n : Nat) (a : List PV), (ent n a).length = n
  | 0, _ => rfl
  | n + 1, [] => by simp [ent, ent_len n]
  | n + 1, _ :: a => by simp [ent, ent_len n]
theorem lgsl_len : ∀ (a : List PV), argT a = true → (lg_sl (a.map (eV θ))).length = a.length
  | [], _ => rfl
  | w :: a, ha => by
    simp only [argT, Bool.and_eq_true] at ha
    have hcat : (eV θ w).category = 1 := by
      refine eV_cat1 ?_
      have := Nat.le_of_ble_eq_true ha.1
      rcases w with x | r | ⟨t, x⟩
      · trivial
      · trivial
      · exfalso
        have : t + 2 + 1 ≤ 2 := this
        omega
    have := lgsl_len a ha.2
    simp only [lg_sl, List.map_cons, List.flatMap_cons, hcat] at this ⊢
    simp [this]
theorem LR.entry {n : Nat} {a : List PV} (h : argB n a = true) : ∃ ls, entryFrame m (a.map (eV θ)).toArray n = F0 m 0 ls [] ∧ LR θ ls n (ent n a) := by
  simp only [argB, Bool.and_eq_true] at h
  have hl := Nat.le_of_ble_eq_true h.1
  refine ⟨_, lg_entry_eq m _ n, LR.ofLv (lv_entry (a.map (eV θ)) (n := n) (by rw [lgsl_len a h.2]; exact hl)) (ent_len n a) (fun i v hv => ?_)⟩
  have := mem_args (θ := θ) n 0 a h.2 i v hv
  rwa [Nat.zero_add] at this
end METH
/-- every method's table is good -/
def PGOK (G : PG) (M : Nat → MI) (N : Nat) : Prop := ∀ mi, mi < N → tabOK M (fun k => (G k).2.2.1) N (M mi) (G mi).1 (G mi).2.1 ∧ (G mi).2.2.2 = (M mi).2.2.1 ∧ codeW (M mi) ∈ TBLg
/-- what the words of the start say of the three exceptions -/
def EXC (θ : TH) : Prop := (∀ i j, i < 3 → j < 3 → i ≠ j → va_Nc (exN i) (exN j) θ.1) ∧ (∀ i, i < 3 → Cond.castable (exN i) (exN i) ∈ TBLn)
theorem sound {G : PG} {M : Nat → MI} {N : Nat} {θ : TH} {l : Launch} (hl : l.stackTraces = false) (hW : WF θ) (hX : EXC θ) (hP : PGOK G M N) : ∀ (d mi : Nat) (a : List PV) (h : PH) (Q : Int → PH → Prop) (X : Nat → PH → Prop), mi < N → RUN G d mi a h Q X → CT θ l d (G mi).2.2.1 (M mi) a h Q X
  | 0, _, _, _, _, _, _, H => H.elim
  | d + 1, mi, a, h, Q, X, hmi, H => by
    have IH := sound hl hW hX hP d
    obtain ⟨hTab, hnL, hcw⟩ := hP mi hmi
    obtain ⟨harg, H⟩ := cond_t H
    rw [hnL] at harg H
    have body : ∀ (p : Program) (e : Env) (s : State) (m : MethodId) (args : Array Value) (below : List Frame) (meth : Method) (c : Code) (s₁ : State), BodyLoose p l (M mi).1 (headSpec (wsM (M mi)) (rmM (d + 1) (G mi).2.2.1)) (M mi).2.1 (M mi).2.2.1 (M mi).2.2.2.1 e s m args below meth c s₁ → c.maxLocals = (M mi).2.2.1 → c.exceptionTable.toList = tableOf (M mi).2.2.2.2 → PcM θ h a args s →
        W p l e (headSpec (wsM (M mi)) (rmM (d + 1) (G mi).2.2.1)).room s m args below meth c s.heap [] 0 0 (vx_MQ below (QcM θ (M mi).2.2.2.1 Q) (XcM θ X) args s (bdc (G mi).2.2.1).1 (bdc (G mi).2.2.1).2 (frM θ)) (entryFrame m args (M mi).2.2.1) := by
      intro p e s m args below meth c s₁ Bd hml htab hpc
      obtain ⟨rfl, hrep, hen⟩ := hpc
      have hts0 := atoms_spec (ws := wsM (M mi)) Bd.pre
      have hts : ∀ w ∈ TBLg, w.before (a.map (eV θ)).toArray s = true := fun w hw => hts0 w (List.mem_cons_of_mem _ hw)
      have hown : s.vm.findClass (M mi).1.cls = some m.cls := findClass_of_methodNamed Bd.named
      have hlk : meth.locks = false := Bd.notSynchronized
      have hname := name_of_methodNamed Bd.named Bd.method
      have hF : FR θ p l (rmM (d + 1) (G mi).2.2.1) s m (a.map (eV θ)).toArray meth c (M mi).1 (M mi).2.1 (M mi).2.2.1 (M mi).2.2.2.1 (d + 1) :=
        ⟨Bd.exec, Bd.bytes, hml, hown, hts, hen, hrep.2.2.1, fun i j hi hj hne => va_Nc.moved hen.1 (hX.1 i j hi hj hne), fun i hi => va_Nw.use rfl (hen.2.1 _ (hX.2 i hi)), Bd.returns, hlk, fun hq => hname.1.trans hq, hl, Nat.le_refl _, Nat.le_refl _, by omega⟩
      obtain ⟨ls, hls, hL⟩ := LR.entry (θ := θ) (m := m) harg
      rw [hls]
      have key := H (MW θ (M mi).2.2.1 p l e (rmM (d + 1) (G mi).2.2.1) s m (a.map (eV θ)).toArray below meth c (vx_MQ below (QcM θ (M mi).2.2.2.1 Q) (XcM θ X) (a.map (eV θ)).toArray s (bdc (G mi).2.2.1).1 (bdc (G mi).2.2.1).2 (frM θ))) ?_
      · exact key s.heap [] ls ⟨hrep, fun l hl => nomatch hl⟩ hL (Nat.zero_le _) (Nat.zero_le _)
      · rintro pc L st h' c0 s0 ⟨cuts, n, HW⟩
        rcases pto_spec pc (G mi).1 with h0 | ⟨pre, q, rest, h1, h2, h3⟩
        · rw [h0] at HW
          cases n <;> exact HW.elim
        · rw [h2] at HW
          rw [← h3]
          refine wpc_sound (R := rmM (d + 1) (G mi).2.2.1) (d := d) hW hF hTab (call := RUN G d) (fun mi a h Q X hmi hr => IH mi a h Q X hmi hr) (Or.inl htab) (fun _ _ _ _ _ _ q => q) ?_ ?_ ?_ ?_ n pre q rest L st h' c0 s0 h1 HW
          · intro pc k hh H locs c0 s0 ls rest q ce hk3 hx hR g1 g2 hce hv hcl hp
            exact vx_outP hown hlk hp hce hv hcl (fun t ht _ => ⟨k, hh, hk3, rfl, hx, by rw [ht]; exact hR.1⟩) hR.2 g1 g2
          · intro pc ik k L st hh c0 s0 hnh hth h6 hst r1 r2 hx Hh locs ls hR hL g1 g2
            exact m_thr (R := rmM (d + 1) (G mi).2.2.1) Bd.exec Bd.bytes hml hl hown hts hen hW.2.2.1 hrep.2.2.1 (fun x hx => by rw [htab, hnh] at hx; exact nomatch hx) hlk hth h6 (by show 228 ≤ 38 * (d + 1); omega) hR hL hst r1 r2 hx
          · intro pc rc x hh L c0 s0 hd' hrc hq Hh locs ls hR hL g1 g2
            refine W.widen g1 g2 ?_
            exact m_ireturn Bd.exec Bd.bytes hd' Bd.returns hlk hrc hR hq
          · intro pc i hh L st c0 s0 hd' hq Hh locs ls hR hL g1 g2
            refine W.widen g1 g2 ?_
            exact m_return Bd.exec Bd.bytes hd' Bd.returns hlk hR hq
    cases hh0 : (M mi).2.2.2.2 with
    | nil =>
      refine vx_ofW (ws' := TBLg) (cc := (M mi).2.1) (maxL := (M mi).2.2.1) (ret := (M mi).2.2.2.1) hTab.2.2.2.1 (by rw [wsM_eq]; unfold codeW; rw [hh0]) ?_
      intro p e s m args below meth c s₁ Bd hml hempty hpc
      refine body p e s m args below meth c s₁ Bd hml ?_ hpc
      rw [hh0]
      cases hc : c.exceptionTable.toList with
      | nil => rfl
      | cons x xs => exact (hempty x (by rw [hc]; exact List.mem_cons_self)).elim
    | cons z zs =>
      have hcw' : codeW (M mi) = Cond.codeWith (M mi).1 (M mi).2.1 (M mi).2.2.1 (M mi).2.2.2.1 (M mi).2.2.2.2 := by unfold codeW; rw [hh0]
      refine vx_ofWH (ws' := TBLg) (cc := (M mi).2.1) (maxL := (M mi).2.2.1) (ret := (M mi).2.2.2.1) (hh := (M mi).2.2.2.2) hTab.2.2.2.1 (by rw [wsM_eq, hcw']) ?_
      intro p e s m args below meth c s₁ Bd hml hpc
      refine body p e s m args below meth c s₁ Bd hml ?_ hpc
      exact vx_table (x := (M mi).1) Bd (atoms_spec (ws := wsM (M mi)) Bd.pre _ (by rw [wsM_eq, hcw']; exact List.mem_cons_self))
