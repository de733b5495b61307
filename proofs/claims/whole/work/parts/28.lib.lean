/-! the library's methods, throws, returns -/
theorem Rep.rdonly {θ : TH} {h : PH} {H : Heap} (hR : Rep θ h H) {r : Nat} (h27 : hk h r = 27) : sOK h r := (hR.2.2.2 r (by omega)).2.2.2.2.1 h27
section SND6
variable {p : Program} {l : Launch} {e : Env} {R : Room} {s : State} {m : MethodId} {args : Array Value} {below : List Frame} {meth : Method} {c : Code} {Z : State → Prop} {θ : TH} {cc : ByteArray} {nL : Nat}
theorem hcp_other {h : PH} {a i b j n : Nat} {r : Nat} (e : r ≠ b) : hi (hcp h a i b j n) r = hi h r := by
  funext k
  show (if r = b ∧ j ≤ k ∧ k < j + n then _ else hi h r k) = _
  rw [if_neg (fun q => e q.1)]
theorem hcp_at {h : PH} {a i b j n k : Nat} : hi (hcp h a i b j n) b k = if j ≤ k ∧ k < j + n then hi h a (i + (k - j)) else hi h b k := by
  show (if b = b ∧ j ≤ k ∧ k < j + n then hi h a (i + (k - j)) else hi h b k) = _
  simp
theorem m_copy (hx : p.tables.exec = Jvm.exec) (hb : c.code = cc) (hml : c.maxLocals = nL) {own : String} (hown : s.vm.findClass own = some m.cls) (hts : ∀ w ∈ TBLg, w.before args s = true) (hal : θ.1.vm.Alike s.vm) {pc idx : Nat} (hd' : decode cc pc = .ok (.invokestatic idx, 3))
    (w1 : Cond.methodLink own idx arraycopyName ∈ TBLg) (w2 : Cond.native arraycopyName ∈ TBLg) (w3 : Cond.static arraycopyName ∈ TBLg) (w4 : Cond.initialized "java/lang/System" ∈ TBLg) (hRf : 1 ≤ R.frames) (hRl : 38 ≤ R.locals)
    {h : PH} {H : Heap} {locs : List Loc} {c0 s0 : Nat} {ls : Array Slot} {L : PL} {a b : Nat} {i j n : Int} (hR : RepS θ h H locs) (hL : LR θ ls nL L) (k1 : hk h a = 20) (k2 : hk h b = 20) (hb1 : 0 ≤ i ∧ 0 ≤ j ∧ 0 ≤ n ∧ i + n ≤ hl h a ∧ j + n ≤ hl h b)
    (kk : ∀ (H' : Heap) (locs' : List Loc), RepS θ (hcp h a i.toNat b j.toNat n.toNat) H' locs' → W p l e R s m args below meth c H' locs' c0 s0 Z (F0 m (pc + 3) ls [])) : W p l e R s m args below meth c H locs c0 s0 Z (F0 m pc ls [.int (oI n), .int (oI j), eV θ (pA b), .int (oI i), eV θ (pA a)]) := by
  obtain ⟨ca, hca, oka, ha⟩ := hR.1.at (r := a) (by omega) (by omega)
  obtain ⟨cb, hcb, okb, hb0⟩ := hR.1.at (r := b) (by omega) (by omega)
  have h64 := hR.1.big (r := b) (by omega) (by omega) (by omega)
  unfold cOK at oka okb
  rw [k1] at oka
  rw [k2] at okb
  obtain ⟨b1, b2, b3, b4, b5⟩ := hb1
  have la := oka.2.2.2.1
  have lb := okb.2.2.2.1
  have ri : InR i := ⟨by omega, by omega⟩
  have rj : InR j := ⟨by omega, by omega⟩
  have rn : InR n := ⟨by omega, by omega⟩
  have ei : (oI i).toNatClampNeg = i.toNat := oI_clamp b1 (by omega)
  have ej : (oI j).toNatClampNeg = j.toNat := oI_clamp b2 (by omega)
  have en : (oI n).toNatClampNeg = n.toNat := oI_clamp b3 (by omega)
  obtain ⟨-, ka, hka, coa, hkka⟩ := oka.moved hal
  obtain ⟨-, kb, hkb, cob, hkkb⟩ := okb.moved hal
  rw [eV_ref ha, eV_ref hb0]
  intro T hT X
  obtain ⟨vm', X', step⟩ := X.arraycopy hx hown (hts _ w1) (hts _ w2) (hts _ w3) (hts _ w4) (src := tad θ a) (dst := tad θ b) (cs := ca) (cd := cb) (srcPos := oI i) (destPos := oI j) (n := oI n) (by rw [hT]; exact hca) (by rw [hT]; exact hcb)
    (oka.moved hal).1 (okb.moved hal).1 oka.2.1 okb.2.1 hka hkb hkka hkkb (by decide) (by rw [oI_lt0 ri]; omega) (by rw [oI_lt0 rj]; omega) (by rw [oI_lt0 rn]; omega)
    (by rw [oI_toInt ri, oI_toInt rn]; have := oka.2.2.1.1; omega) (by rw [oI_toInt rj, oI_toInt rn]; have := okb.2.2.1.1; omega)
    (fun vm₁ _ k hk' => by
      rw [ei]
      rw [en] at hk'
      have ee : ca.slots.getD (i.toNat + k) .null = .int (oI (hi h a (i.toNat + k))) := by
        rw [Array.getD_eq_getD_getElem?, oka.2.2.2.2 _ (by omega)]
        rfl
      rw [ee]
      exact ⟨rfl, trivial⟩)
    (g := F0 m pc ls [.int (oI n), .int (oI j), .ref (tad θ b), .int (oI i), .ref (tad θ a)]) rfl (by rw [hml]; exact hL.1) (rest := []) rfl (by rw [hb]; exact hd') hRf (by rw [f0run rfl]; exact Nat.le_trans (by decide) hRl)
  rw [ei, en] at X'
  have hst : ca.stretch i.toNat n.toNat = (List.range n.toNat).map (fun k => Value.int (oI (hi h a (i.toNat + k)))) := by
    unfold Cell.stretch
    apply List.map_congr_left
    intro k hk'
    have hk' := List.mem_range.mp hk'
    rw [Array.getD_eq_getD_getElem?, oka.2.2.2.2 _ (by omega)]
    rfl
  obtain ⟨f1, f2, f3, -, -⟩ := cb.storeRun_facts j.toNat (ca.stretch i.toNat n.toNat)
  have hcop : copied ca cb (oI i) (oI j) (oI n) = cb.storeRun j.toNat (ca.stretch i.toNat n.toNat) := by
    show cb.storeRun (oI j).toNatClampNeg (ca.stretch (oI i).toNatClampNeg (oI n).toNatClampNeg) = _
    rw [ei, ej, en]
  have hlt := (Array.getElem?_eq_some_iff.mp hcb).1
  have K := kk (H.setIfInBounds (tad θ b) (copied ca cb (oI i) (oI j) (oI n))) _ ⟨hR.1.put (cell' := copied ca cb (oI i) (oI j) (oI n)) h64 (by omega) rfl (fun _ => rfl) (fun _ => rfl) (fun q hq => ⟨hcp_other hq, rfl⟩) (by simp [hlt]) ?_ (by simp) (fun q hq => by simp [Array.getElem?_setIfInBounds, Ne.symm hq]), ?_⟩ ((T.setVm vm').setCell (tad θ b) (copied ca cb (oI i) (oI j) (oI n))) (by rw [← hT]; rfl) X'
  · obtain ⟨t, a1, c1⟩ := K
    exact ⟨t, step t a1, c1⟩
  · unfold cOK
    rw [show hk (hcp h a i.toNat b j.toNat n.toNat) b = 20 from k2, hcop]
    refine ⟨⟨by rw [f2]; exact okb.1.1, by rw [f1]; exact okb.1.2⟩, by rw [f2]; exact okb.2.1, by rw [f3]; exact okb.2.2.1, lb, fun k hk' => ?_⟩
    have hk' : k < hl h b := hk'
    rw [Cell.storeRun_get _ _ _ _ (by rw [Cell.stretch_length]; have := okb.2.2.1.1; omega), Cell.stretch_length]
    simp only [hcp_at]
    by_cases q : j.toNat ≤ k ∧ k < j.toNat + n.toNat
    · rw [if_pos q, if_pos q, hst, List.getElem?_map, List.getElem?_range (by omega)]
      rfl
    · rw [if_neg q, if_neg q]
      exact okb.2.2.2.2 k hk'
  · intro l' hl'
    rcases List.mem_append.mp hl' with q | q
    · exact hR.2 l' q
    · obtain ⟨z, -, hz⟩ := List.mem_map.mp q
      rw [← hz]
      show _ ≤ tad θ b
      rw [tad_hi h64]
      omega
theorem m_minmax (hx : p.tables.exec = Jvm.exec) (hb : c.code = cc) (hml : c.maxLocals = nL) {own : String} (hown : s.vm.findClass own = some m.cls) (hts : ∀ w ∈ TBLg, w.before args s = true) {pc idx : Nat} (hd' : decode cc pc = .ok (.invokestatic idx, 3)) (w4 : Cond.initialized "java/lang/Math" ∈ TBLg) (hRf : 1 ≤ R.frames) (hRl : 38 ≤ R.locals) {f : Nat}
    (hf : f = 1 ∧ Cond.methodLink own idx Lib.Math.min.name ∈ TBLg ∧ Cond.static Lib.Math.min.name ∈ TBLg ∧ Cond.code Lib.Math.min.name Lib.Math.min.code 2 (some .int) ∈ TBLg ∨ f = 2 ∧ Cond.methodLink own idx Lib.Math.max.name ∈ TBLg ∧ Cond.static Lib.Math.max.name ∈ TBLg ∧ Cond.code Lib.Math.max.name Lib.Math.max.code 2 (some .int) ∈ TBLg)
    {h : PH} {H : Heap} {locs : List Loc} {c0 s0 : Nat} {ls : Array Slot} {L : PL} {st : List PV} {x y : Int} (hL : LR θ ls nL L) (hst : Nat.ble (2 * st.length) 8 = true) (hc0 : c0 ≤ R.cells) (hs0 : s0 ≤ R.slots) (ix : InR x) (iy : InR y)
    (kk : W p l e R s m args below meth c H locs c0 s0 Z (F0 m (pc + 3) ls ((pI (if f = 1 then (if x ≤ y then x else y) else (if x ≤ y then y else x)) :: st).map (eV θ)))) : W p l e R s m args below meth c H locs c0 s0 Z (F0 m pc ls ((pI y :: pI x :: st).map (eV θ))) := by
  have hsum := catsum_le (θ := θ) st hst
  rcases hf with ⟨rfl, w1, w2, w3⟩ | ⟨rfl, w1, w2, w3⟩
  · refine va_mmin hx hb (by rw [hml]; exact hL.1.symm) hown (hts _ w1) (hts _ w2) (hts _ w4) (hts _ w3) hRf (by omega) hc0 hs0 hd' ?_
    have : (if oI y < oI x then oI y else oI x) = oI (if x ≤ y then x else y) := by
      by_cases q : x ≤ y
      · rw [if_pos q, if_neg (by rw [oI_lt iy ix]; omega)]
      · rw [if_neg q, if_pos (by rw [oI_lt iy ix]; omega)]
    show W p l e R s m args below meth c H locs c0 s0 Z (F0 m (pc + 3) ls (.int (if oI y < oI x then oI y else oI x) :: _))
    rw [this]
    exact kk
  · refine va_mmax hx hb (by rw [hml]; exact hL.1.symm) hown (hts _ w1) (hts _ w2) (hts _ w4) (hts _ w3) hRf (by omega) hc0 hs0 hd' ?_
    have : (if oI x < oI y then oI y else oI x) = oI (if x ≤ y then y else x) := by
      by_cases q : x < y
      · rw [if_pos ((oI_lt ix iy).mpr q), if_pos (by omega)]
      · rw [if_neg (fun z => q ((oI_lt ix iy).mp z))]
        by_cases q2 : x ≤ y
        · rw [if_pos q2, show x = y by omega]
        · rw [if_neg q2]
    show W p l e R s m args below meth c H locs c0 s0 Z (F0 m (pc + 3) ls (.int (if oI x < oI y then oI y else oI x) :: _))
    rw [this]
    exact kk
theorem m_objInit (hx : p.tables.exec = Jvm.exec) (hb : c.code = cc) (hml : c.maxLocals = nL) {own : String} (hown : s.vm.findClass own = some m.cls) (hts : ∀ w ∈ TBLg, w.before args s = true) {pc idx : Nat} (hd' : decode cc pc = .ok (.invokespecial idx, 3)) (w1 : Cond.methodLink own idx Lib.objectInit ∈ TBLg) (w2 : Cond.instanceMethod Lib.objectInit ∈ TBLg) (w3 : Cond.code Lib.objectInit ⟨#[0xb1]⟩ 1 none ∈ TBLg) (hRf : 1 ≤ R.frames) (hRl : 38 ≤ R.locals)
    {H : Heap} {locs : List Loc} {c0 s0 : Nat} {ls : Array Slot} {L : PL} {st : List PV} {r : Nat} (hL : LR θ ls nL L) (hst : Nat.ble (2 * st.length) 8 = true) (hr0 : r ≠ 0)
    (kk : W p l e R s m args below meth c H locs c0 s0 Z (F0 m (pc + 3) ls (st.map (eV θ)))) : W p l e R s m args below meth c H locs c0 s0 Z (F0 m pc ls ((pA r :: st).map (eV θ))) := by
  have hsum := catsum_le (θ := θ) st hst
  simp only [List.map_cons, eV_ref hr0]
  exact W.objInit hx hb hown (hts _ w1) (hts _ w2) (hts _ w3) rfl (by rw [hml]; exact hL.1) rfl hd' hRf (by rw [f0run rfl]; omega) kk
/-- what a throw asks of the tables: its class, its text -/
def thrOK (own : String) (cc : ByteArray) (pc ik k : Nat) : Prop := k < 3 ∧ Cond.classLink own ik (exN k) ∈ TBLg ∧ Cond.initialized (exN k) ∈ TBLg ∧ Bundle.fit (exN k) = true ∧ ∃ (is ic j : Nat) (text : String), stT[j]? = some (own, is, text) ∧ j < 54 ∧
  (∀ w ∈ (vx_atS own ic (exN k) ["java/lang/RuntimeException", "java/lang/Exception"]).filter vx_no, w ∈ TBLg ∨ w ∈ TBLn) ∧ (∀ w ∈ Cond.classLink own ik (exN k) :: Cond.initialized (exN k) :: vx_atS own ic (exN k) ["java/lang/RuntimeException", "java/lang/Exception"], vx_ot w = true) ∧
  decode cc pc = .ok (.new ik, 3) ∧ decode cc (pc + 3) = .ok (.dup, 1) ∧ decode cc (pc + 4) = .ok (.ldc_w is, 3) ∧ decode cc (pc + 7) = .ok (.invokespecial ic, 3) ∧ decode cc (pc + 10) = .ok (.athrow, 1)
/-- the two static fields that a Throwable's constructor reads -/
def THR (θ : TH) : Prop := vx_Zq Bundle.tN "UNASSIGNED_STACK" Bundle.steD (fun q => θ.1.heap.size ≤ q) θ.1 θ.1.heap ∧ vx_Zq Bundle.tN "SUPPRESSED_SENTINEL" Bundle.listD (fun q => θ.1.heap.size ≤ q) θ.1 θ.1.heap
theorem m_thr (hx : p.tables.exec = Jvm.exec) (hb : c.code = cc) (hml : c.maxLocals = nL) (hl : l.stackTraces = false) {own : String} (hown : s.vm.findClass own = some m.cls) (hts : ∀ w ∈ TBLg, w.before args s = true) (hE : EN θ s) (hTh : THR θ) (hs0 : ∀ q, q < θ.1.heap.size → s.heap[q]? = θ.1.heap[q]?) (hout : ∀ x ∈ c.exceptionTable.toList, False) (hlocks : meth.locks = false)
    {pc ik k : Nat} (hok : thrOK own cc pc ik k) (hRf : 6 ≤ R.frames) (hRl : 228 ≤ R.locals) {h : PH} {H : Heap} {locs : List Loc} {c0 t0 : Nat} {ls : Array Slot} {L : PL} {st : List PV} (hR : RepS θ h H locs) (hL : LR θ ls nL L) (hst : Nat.ble (2 * st.length) 8 = true) (r1 : c0 + 1 ≤ R.cells) (r2 : t0 + 6 ≤ R.slots)
    {Qc : Array Value → State → Outcome → State → Prop} {X : Nat → PH → Prop} (hX : ∀ n', hn h ≤ n' → X k (hup h n')) :
    W p l e R s m args below meth c H locs c0 t0 (vx_MQ below Qc (XcM θ X) args s R.cells R.slots (frM θ)) (F0 m pc ls (st.map (eV θ))) := by
  obtain ⟨o1, o2, o3, o4, is, ic, j, text, o5, o6, o7, o8, d0, d3, d4, d7, d10⟩ := hok
  have hsum := catsum_le (θ := θ) st hst
  intro T hT XX
  have hgrow : s.heap.size ≤ H.size := by
    have := (vx_frame XX.same).1
    rw [← hT]
    exact this
  have hkeep : ∀ a : Nat, a < θ.1.heap.size → ¬ θ.1.heap.size ≤ a → s.heap[a]? = θ.1.heap[a]? := fun a ha _ => hs0 a ha
  have hS : va_S (fun q => θ.1.heap.size ≤ q) s.heap H locs := ⟨hgrow, fun q h1 h2 => by rw [hR.1.2.2.1 q (Nat.not_le.mp h2), hs0 q (Nat.not_le.mp h2)], hR.2⟩
  have zU := (hTh.1.moved hE.1).kept hkeep
  have zN := (hTh.2.moved hE.1).kept hkeep
  have hat := vx_own (args := args) (s := s) (L := vx_atS own ic (exN k) ["java/lang/RuntimeException", "java/lang/Exception"]) (fun w hw => (o7 w hw).elim (hts w) (fun hn => va_Nw.use (tbn_tab hn) (hE.2.1 w hn))) (vx_isRefq zU.1) (vx_isRefq zN.1) (vx_L.word zU.2) (vx_L.word zN.2)
  refine vx_throwSW (names := ["java/lang/RuntimeException", "java/lang/Exception"]) hx hb hl hown o4 (by decide +kernel) (hts _ o2) (hts _ o3) (hE.2.2.1 j _ o5) hat o8 zU zN hS (by rw [hml]; exact hL.1) d0 d3 d4 d7 d10 (fun x hx' => (hout x hx').elim) (by show 2 + 3 < R.frames; omega) (by show _ + (13 * (2 + 1) + 43) ≤ R.locals; omega) r1 r2 hlocks ?_ hR.2 r1 r2 T hT XX
  intro t ht hsz hq
  exact ⟨k, _, o1, rfl, hX _ (Nat.le_add_right _ _), hR.1.up hsz hq⟩
def retI (ret : Option FieldType) (r : Nat) : Prop := r = 1 ∧ ret = some .int ∨ r = 5 ∧ ret = some .boolean ∨ r = 6 ∧ ret = some .byte ∨ r = 7 ∧ ret = some .char
theorem zn_byte {x : Int} (h : -128 ≤ x ∧ x ≤ 127) : narrow .byte (.int (oI x)) = .int (oI x) := by
  show Value.int ((oI x).toInt8.toInt32) = _
  congr 1
  apply Int32.toInt_inj.mp
  rw [Int8.toInt_toInt32, Int32.toInt_toInt8, oI_toInt ⟨by omega, by omega⟩]
  exact Int.bmod_eq_of_le (by omega) (by omega)
theorem zn_char0 : ∀ n : Nat, n < 128 → narrow .char (.int (oI (n : Int))) = .int (oI (n : Int)) := by decide +kernel
theorem zn_char {x : Int} (h : 0 ≤ x ∧ x ≤ 127) : narrow .char (.int (oI x)) = .int (oI x) := by
  obtain ⟨n, rfl⟩ : ∃ n : Nat, x = n := ⟨x.toNat, by omega⟩
  exact zn_char0 n (by omega)
def retQ (r : Nat) (Q : Int → PH → Prop) (x : Int) (h : PH) : Prop := match r with
  | 1 => Q x h
  | 5 => (x = 0 ∨ x = 1) ∧ Q x h
  | 6 => (-128 ≤ x ∧ x ≤ 127) ∧ Q x h
  | _ => (0 ≤ x ∧ x ≤ 127) ∧ Q x h
theorem m_ireturn (hx : p.tables.exec = Jvm.exec) (hb : c.code = cc) {pc : Nat} (hd' : decode cc pc = .ok (.ireturn, 1)) {ret : Option FieldType} (hret : meth.sig.returnType = ret) (hlocks : meth.locks = false) {r : Nat} (hr : retI ret r) {Q : Int → PH → Prop} {XC : String → State → State → Prop} {h : PH} {H : Heap} {locs : List Loc} {c0 s0 : Nat} {ls : Array Slot} {x : Int} (hR : RepS θ h H locs)
    (hQ : retQ r Q x h) :
    W p l e R s m args below meth c H locs c0 s0 (vx_MQ below (QcM θ ret Q) XC args s c0 s0 (frM θ)) (F0 m pc ls [.int (oI x)]) := by
  subst hret
  rcases hr with ⟨rfl, e⟩ | ⟨rfl, e⟩ | ⟨rfl, e⟩ | ⟨rfl, e⟩ <;> refine vx_ret ?_
  · exact W.iret hx hb e (fun t ht _ => ⟨x, h, hQ, by rw [e]; rfl, by rw [ht]; exact hR.1⟩) hR.2 hd'
  · exact W.zret hx hb e (by rcases hQ.1 with rfl | rfl <;> rfl) (fun t ht _ => ⟨x, h, hQ.2, by rw [e]; rfl, by rw [ht]; exact hR.1⟩) hR.2 hd'
  · exact W.zret hx hb e (zn_byte hQ.1) (fun t ht _ => ⟨x, h, hQ.2, by rw [e]; rfl, by rw [ht]; exact hR.1⟩) hR.2 hd'
  · exact W.zret hx hb e (zn_char hQ.1) (fun t ht _ => ⟨x, h, hQ.2, by rw [e]; rfl, by rw [ht]; exact hR.1⟩) hR.2 hd'
theorem m_return (hx : p.tables.exec = Jvm.exec) (hb : c.code = cc) {pc : Nat} {i : Instr} (hd' : decode cc pc = .ok (i, 1)) {ret : Option FieldType} (hret : meth.sig.returnType = ret) (hlocks : meth.locks = false) {Q : Int → PH → Prop} {XC : String → State → State → Prop} {h : PH} {H : Heap} {locs : List Loc} {c0 s0 : Nat} {ls : Array Slot} {st : List PV} (hR : RepS θ h H locs)
    (hc : i = .areturn ∧ (∃ C, ret = some (.object C)) ∧ (∃ r : Nat, st = [pA r] ∧ Q r h) ∨ i = .freturn ∧ ret = some .float ∧ (∃ x, st = [pW 3 x] ∧ Q x h) ∨ i = .dreturn ∧ ret = some .double ∧ (∃ x, st = [pW 4 x] ∧ Q x h) ∨ i = .return_ ∧ ret = none ∧ st = [] ∧ Q 0 h) :
    W p l e R s m args below meth c H locs c0 s0 (vx_MQ below (QcM θ ret Q) XC args s c0 s0 (frM θ)) (F0 m pc ls (st.map (eV θ))) := by
  subst hret
  rcases hc with ⟨rfl, ⟨C, e⟩, r, rfl, hQ⟩ | ⟨rfl, e, x, rfl, hQ⟩ | ⟨rfl, e, x, rfl, hQ⟩ | ⟨rfl, e, rfl, hQ⟩ <;> refine vx_ret ?_
  · have hv : eV θ (pA r) = .null ∨ ∃ a, eV θ (pA r) = .ref a := by
      by_cases q : r = 0
      · exact Or.inl (if_pos q)
      · exact Or.inr ⟨_, if_neg q⟩
    exact W.aret hx hb e (Or.inl ⟨C, rfl⟩) hv (fun t ht _ => ⟨r, h, hQ, by rw [e]; rfl, by rw [ht]; exact hR.1⟩) hR.2 hd'
  · exact W.fret hx hb e (fun t ht _ => ⟨x, h, hQ, by rw [e]; rfl, by rw [ht]; exact hR.1⟩) hR.2 hd'
  · exact W.dret hx hb e (fun t ht _ => ⟨x, h, hQ, by rw [e]; rfl, by rw [ht]; exact hR.1⟩) hR.2 hd'
  · exact W.vret hx hb e (fun t ht _ => ⟨0, h, hQ, by rw [e]; rfl, by rw [ht]; exact hR.1⟩) hR.2 hd'
/-- the static arrays -/
theorem m_gets (hx : p.tables.exec = Jvm.exec) (hb : c.code = cc) {own n : String} (hown : s.vm.findClass own = some m.cls) (hts : ∀ w ∈ TBLg, w.before args s = true) (hT : TW θ) (hE : EN θ s) {pc idx j : Nat} (hd' : decode cc pc = .ok (.getstatic idx, 3)) (hj : saT[j]? = some n) (hj5 : j < 50)
    (hw : Cond.fieldLink own idx "FadingSignals" n "[I" ∈ TBLg ∨ ∃ host, Cond.fieldLinkNest own idx "FadingSignals" n "[I" host ∈ TBLn) {h : PH} {H : Heap} {locs : List Loc} {c0 s0 : Nat} {ls : Array Slot} {rest : List Value} (hR : RepS θ h H locs)
    (kk : W p l e R s m args below meth c H locs c0 s0 Z (F0 m (pc + 3) ls (eV θ (pA (2 + j)) :: rest))) : W p l e R s m args below meth c H locs c0 s0 Z (F0 m pc ls rest) := by
  rw [eV_ref (by omega), tad_lo (by omega)] at kk
  obtain ⟨cf, kf, fi, f, a, cell, h1, h2, h3, h4, h5, h6, h7, h8⟩ := va_Z.moved hE.1 (hT.2 j n hj)
  have hc : H[a]? = some cell := by rw [hR.1.2.2.1 a (Nat.not_le.mp h8)]; exact h5
  have hu : cell.vm ≠ .unknown := fun z => by rw [z] at h6; cases h6
  rcases hw with hw | ⟨host, hw⟩
  · exact W.gets hx hb hown (hts _ hw) h1 h2 h3 h4 hc hu h7 rfl hd' kk
  · exact va_WgetsN hx hb hown (va_Nw.use rfl (hE.2.1 _ hw)) h1 h2 h3 h4 hc hu h7 rfl hd' kk
end SND6
