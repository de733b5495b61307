/-! instructions that ask the tables: fields, constants, new cells -/
def fldW (own : String) (idx ci k : Nat) : Prop := ci < 8 ∧ k < clN ci ∧ (Cond.fieldLink own idx (clT ci k).1 (clT ci k).2.1 (clT ci k).2.2.1 ∈ TBLg ∨ ∃ host, Cond.fieldLinkNest own idx (clT ci k).1 (clT ci k).2.1 (clT ci k).2.2.1 host ∈ TBLn)
def tyc : FieldType → Nat
  | .int => 0
  | .boolean => 2
  | _ => 1
theorem cl_dft : ∀ ci, ci < 8 → ∀ k, k < clN ci → defaultValue (cly ci k) = if tyc (cly ci k) = 1 then .null else .int 0 := by decide +kernel
theorem cl_tyc : ∀ ci, ci < 8 → ∀ k, k < clN ci → tyc (cly ci k) = 0 ∨ tyc (cly ci k) = 1 ∨ tyc (cly ci k) = 2 := by decide +kernel
/-- the static arrays: numbers 2 .. -/
def saT : List String := ["SETTING_LOW", "SETTING_HIGH", "KIND_LOW", "KIND_HIGH", "RUNNING_PARTS"]
/-- what is said of the start once for all -/
def TW (θ : TH) : Prop := (∀ ci, ci < 8 → u_Kn θ.1 (clR ci) (clT ci) (clN ci) (θ.2.2.1 ci) (θ.2.2.2 ci)) ∧
  (∀ j n, saT[j]? = some n → va_Z "FadingSignals" n "[I" (.ref (θ.2.1 (2 + j))) (fun q => θ.1.heap.size ≤ q) θ.1 θ.1.heap)
/-- what is said of a method's start -/
def EN (θ : TH) (s : State) : Prop := θ.1.vm.Alike s.vm ∧ (∀ w ∈ TBLn, va_Nw w s) ∧ (∀ j q, stT[j]? = some q → vk_R q.1 q.2.1 q.2.2 (θ.2.1 (10 + j)) s) ∧ va_AO RX0 s
def LAYS : Prop := ∀ ci, ci < 8 → ∀ w ∈ u_ws (clR ci) (clT ci) (clN ci), w ∈ TBLg
section SND3
variable {p : Program} {l : Launch} {e : Env} {R : Room} {s : State} {m : MethodId} {args : Array Value} {below : List Frame} {meth : Method} {c : Code} {Z : State → Prop} {θ : TH} {cc : ByteArray} {nL : Nat}
theorem clK (hT : TW θ) (hE : EN θ s) {ci : Nat} (hci : ci < 8) : u_Kn s (clR ci) (clT ci) (clN ci) (θ.2.2.1 ci) (θ.2.2.2 ci) := u_Kn_moved hE.1 (hT.1 ci hci)
theorem clApart (hT : TW θ) (hE : EN θ s) (hY : LAYS) (hts : ∀ w ∈ TBLg, w.before args s = true) {ci : Nat} (hci : ci < 8) : ∀ x y, x < clN ci → y < clN ci → x ≠ y → θ.2.2.2 ci x ≠ θ.2.2.2 ci y := by
  intro x y hx hy hne
  obtain ⟨hS, -⟩ := clK hT hE hci
  obtain ⟨_, _, _, fa, hia, ea⟩ := hS x hx
  obtain ⟨_, _, _, fb, hib, eb⟩ := hS y hy
  rw [← ea, ← eb]
  refine u_apart (u_lays hts (hY ci hci) hx) (u_lays hts (hY ci hci) hy) hia hib ?_
  rw [(State.fieldFound?_type hia (cl_ty ci hci x hx)).1, (State.fieldFound?_type hib (cl_ty ci hci y hy)).1]
  exact cl_nm ci hci x hx y hy hne
theorem cOK_obj {h : PH} {r : Nat} {cell : Cell} {ci : Nat} (hci : ci < 8) (hk' : hk h r = ci + 1) (hc : cOK θ h r cell) : oOK θ h r cell ci := by
  unfold cOK at hc
  rw [hk'] at hc
  match ci, hci, hc with
  | 0, _, hc => exact hc
  | 1, _, hc => exact hc
  | 2, _, hc => exact hc
  | 3, _, hc => exact hc
  | 4, _, hc => exact hc
  | 5, _, hc => exact hc
  | 6, _, hc => exact hc
  | 7, _, hc => exact hc
theorem cOK_of_obj {h : PH} {r : Nat} {cell : Cell} {ci : Nat} (hci : ci < 8) (hk' : hk h r = ci + 1) (hc : oOK θ h r cell ci) : cOK θ h r cell := by
  unfold cOK
  rw [hk']
  match ci, hci, hc with
  | 0, _, hc => exact hc
  | 1, _, hc => exact hc
  | 2, _, hc => exact hc
  | 3, _, hc => exact hc
  | 4, _, hc => exact hc
  | 5, _, hc => exact hc
  | 6, _, hc => exact hc
  | 7, _, hc => exact hc
theorem eF_0 {ci k : Nat} {x : Int} {r : Nat} (h : tyc (cly ci k) = 0) : eF θ ci k x r = .int (oI x) := by
  unfold eF
  generalize cly ci k = t at h ⊢
  cases t <;> first | rfl | cases h
theorem eF_2 {ci k : Nat} {x : Int} {r : Nat} (h : tyc (cly ci k) = 2) : eF θ ci k x r = .int (oI x) := by
  unfold eF
  generalize cly ci k = t at h ⊢
  cases t <;> first | rfl | cases h
theorem eF_1 {ci k : Nat} {x : Int} {r : Nat} (h : tyc (cly ci k) = 1) : eF θ ci k x r = eR θ r := by
  unfold eF
  generalize cly ci k = t at h ⊢
  cases t <;> first | rfl | cases h
theorem m_getf (hx : p.tables.exec = Jvm.exec) (hb : c.code = cc) {own : String} (hown : s.vm.findClass own = some m.cls) (hts : ∀ w ∈ TBLg, w.before args s = true) (hT : TW θ) (hE : EN θ s) (hY : LAYS)
    {pc idx ci k : Nat} (hd' : decode cc pc = .ok (.getfield idx, 3)) (hF : fldW own idx ci k) {h : PH} {a : Nat} (hka : hk h a = ci + 1) {H : Heap} {locs : List Loc} {c0 s0 : Nat} {ls : Array Slot} {rest : List Value} (hR : RepS θ h H locs)
    (kk : W p l e R s m args below meth c H locs c0 s0 Z (F0 m (pc + 3) ls (eF θ ci k (hi h a k) (hr h a k) :: rest))) : W p l e R s m args below meth c H locs c0 s0 Z (F0 m pc ls (eV θ (pA a) :: rest)) := by
  obtain ⟨hci, hk', hF⟩ := hF
  obtain ⟨cell, hc, hcok, ha⟩ := hR.1.at (r := a) (by omega) (by omega)
  obtain ⟨o1, o2, o3⟩ := cOK_obj hci hka hcok
  rw [eV_ref ha]
  obtain ⟨hS, hfc, kC, hkC, hkind⟩ := clK hT hE hci
  obtain ⟨cf, kf, fi, f, hi', hsl⟩ := hS k hk'
  have hst := (u_facts hfc hkC (u_lays hts (hY ci hci) hk') hi').1
  rcases hF with hw | ⟨host, hw⟩
  · exact W.getf hx hb hown (hts _ hw) hi' hst hc (by rw [o2]; exact fun h => by cases h) (v := eF θ ci k (hi h a k) (hr h a k)) (by rw [hsl]; exact o3 k hk') rfl rfl hd' kk
  · exact va_Wgetf hx hb hown (va_Nw.use rfl (hE.2.1 _ hw)) hi' hst hc (by rw [o2]; exact fun h => by cases h) (v := eF θ ci k (hi h a k) (hr h a k)) (by rw [hsl]; exact o3 k hk') rfl rfl hd' kk
/-- a store into a field: h' has it -/
theorem m_putf (hx : p.tables.exec = Jvm.exec) (hb : c.code = cc) {own : String} (hown : s.vm.findClass own = some m.cls) (hts : ∀ w ∈ TBLg, w.before args s = true) (hT : TW θ) (hE : EN θ s) (hY : LAYS)
    {pc idx ci k : Nat} (hd' : decode cc pc = .ok (.putfield idx, 3)) (hF : fldW own idx ci k) (hfin : (clT ci k).2.2.2 = false ∨ (own = (clT ci k).1 ∧ meth.name = "<init>")) {h h' : PH} {a : Nat} (hka : hk h a = ci + 1) {v : Value}
    (hv : narrow (cly ci k) v = v ∧ fits (cly ci k) v = true) (e0 : hn h' = hn h) (ek : ∀ q, hk h' q = hk h q) (el : ∀ q, hl h' q = hl h q) (ei : ∀ q, q ≠ a → hi h' q = hi h q ∧ hr h' q = hr h q)
    (e1 : eF θ ci k (hi h' a k) (hr h' a k) = v) (e2 : ∀ j, j ≠ k → hi h' a j = hi h a j ∧ hr h' a j = hr h a j) {H : Heap} {locs : List Loc} {c0 s0 : Nat} {ls : Array Slot} {rest : List Value} (hR : RepS θ h H locs)
    (kk : ∀ (H' : Heap) (locs' : List Loc), RepS θ h' H' locs' → W p l e R s m args below meth c H' locs' c0 s0 Z (F0 m (pc + 3) ls rest)) : W p l e R s m args below meth c H locs c0 s0 Z (F0 m pc ls (v :: eV θ (pA a) :: rest)) := by
  obtain ⟨hci, hk', hF⟩ := hF
  obtain ⟨cell, hc, hcok, ha⟩ := hR.1.at (r := a) (by omega) (by omega)
  have h64 := hR.1.big (r := a) (by omega) (by omega) (by omega)
  have hoo := cOK_obj hci hka hcok
  obtain ⟨o1, o2, o3⟩ := id hoo
  rw [eV_ref ha]
  have hap := clApart hT hE hY hts hci
  obtain ⟨hS, hfc, kC, hkC, hkind⟩ := clK hT hE hci
  obtain ⟨cf, kf, fi, f, hi', hsl⟩ := hS k hk'
  have hly := u_lays hts (hY ci hci) hk'
  have hst := (u_facts hfc hkC hly hi').1
  have hft := u_fits hfc hkC hkind hly hi' (cl_ty ci hci k hk') hv.1 hv.2
  have hlt : f.slot < cell.slots.size := by
    rw [hsl]
    exact (Array.getElem?_eq_some_iff.mp (o3 k hk')).1
  have hff : hasFlag f.accessFlags Acc.final = false ∨ (m.cls = cf ∧ meth.name = "<init>") := by
    have hw := hts _ (hY ci hci _ (u_in_lay hk'))
    unfold u_lay at hw
    cases hfl : (clT ci k).2.2.2 with
    | false =>
      rw [hfl, if_neg (by decide)] at hw
      exact Or.inl (u_store hfc hkC hkind hw hi' (cl_ty ci hci k hk') hv.1 hv.2).1
    | true =>
      rcases hfin with q | ⟨q1, q2⟩
      · rw [hfl] at q
        cases q
      · refine Or.inr ⟨?_, q2⟩
        rw [hfl, if_pos rfl] at hw
        obtain ⟨_, _, c', _, _, _, -, -, hf', -, -, -, hown2, -⟩ := Cond.laysFinal_spec hw
        have e1 : c' = cf := by have := hi'.symm.trans hf'; simp at this; exact this.1.symm
        rw [← q1] at hown2
        rw [← e1]
        exact Option.some.inj (hown.symm.trans hown2)
  have KK := kk (H.setIfInBounds (tad θ a) (cell.setSlot f.slot v)) (locs ++ [⟨tad θ a, f.slot⟩]) ⟨hR.1.put (cell' := cell.setSlot f.slot v) h64 (by omega) e0 ek el ei ?_ ?_ ?_ ?_, locs_put hR.2 (by rw [tad_hi h64]; omega)⟩
  · rcases hF with hw | ⟨host, hw⟩
    · exact W.putf hx hb hown (hts _ hw) hi' hst hff hc (by rw [o2]; exact fun h => by cases h) hlt hft.1 (by rw [o1, o2]; exact hft.2) rfl rfl hd' KK
    · exact va_Wputf hx hb hown (va_Nw.use rfl (hE.2.1 _ hw)) hi' hst hff hc (by rw [o2]; exact fun h => by cases h) hlt hft.1 (by rw [o1, o2]; exact hft.2) rfl rfl hd' KK
  · have := (Array.getElem?_eq_some_iff.mp hc).1
    simp [this]
  · rw [hsl]
    exact cOK_of_obj hci (by rw [ek]; exact hka) (hoo.set hk' hap e1 e2)
  · simp
  · intro q hq
    simp [Array.getElem?_setIfInBounds, Ne.symm hq]
theorem m_new (hx : p.tables.exec = Jvm.exec) (hb : c.code = cc) {own : String} (hown : s.vm.findClass own = some m.cls) (hts : ∀ w ∈ TBLg, w.before args s = true) (hT : TW θ) (hE : EN θ s) (hY : LAYS)
    {pc idx ci : Nat} (hd' : decode cc pc = .ok (.new idx, 3)) (hci : ci < 8) (w1 : Cond.classLink own idx (clR ci) ∈ TBLg) (w2 : Cond.instantiable (clR ci) (clN ci) ∈ TBLg) (w3 : Cond.initialized (clR ci) ∈ TBLg) {h : PH} {H : Heap} {locs : List Loc} {c0 s0 : Nat} {ls : Array Slot} {rest : List Value} (hR : RepS θ h H locs) (r1 : c0 + 1 ≤ R.cells) (r2 : s0 + clN ci ≤ R.slots)
    (kk : ∀ (H' : Heap), RepS θ (hnew h (ci + 1) (clN ci)) H' locs → W p l e R s m args below meth c H' locs (c0 + 1) (s0 + clN ci) Z (F0 m (pc + 3) ls (eV θ (pA (hn h)) :: rest))) : W p l e R s m args below meth c H locs c0 s0 Z (F0 m pc ls rest) := by
  refine W.newc hx hb hown (hts _ w1) (hts _ w2) (hts _ w3) rfl hd' r1 r2 (fun cC kC f1 f2 f3 f4 => ?_)
  have hKn := clK hT hE hci
  have hcls : cC = θ.2.2.1 ci := Option.some.inj (f1.symm.trans hKn.2.1)
  subst hcls
  generalize hH1 : H.push ({ cls := θ.2.2.1 ci, slots := kC.instanceTypes.map defaultValue, vm := .none } : Cell) = H1
  have z1 : H1.size = H.size + 1 := by rw [← hH1, Array.size_push]
  have e1 : H1[H.size]? = some (blank (θ.2.2.1 ci) kC) := by rw [← hH1, Array.getElem?_push_size]; rfl
  have o1 : ∀ q : Nat, q < H.size → H1[q]? = H[q]? := fun q hq => by rw [← hH1, Array.getElem?_push, if_neg (Nat.ne_of_lt hq)]
  have hn64 : 64 ≤ hn h := hR.1.1
  have hadr : eV θ (pA (hn h)) = .ref H.size := by
    rw [eV_ref (by omega), tad_hi hn64, hR.1.2.1]
  obtain ⟨cell, q1, q2, q3, q4⟩ := u_born (cly ci) hts (hY ci hci) hKn f2 e1 (cl_ty ci hci)
  have K := kk H1 ⟨hR.1.push (cell := cell) (Or.inl ⟨by omega, by omega⟩) q1 (cOK_of_obj hci (by simp [hk, hnew, hn]) ⟨q2, q3, fun k hk' => ?_⟩) z1 o1, hR.2⟩
  · rw [hadr] at K
    exact K
  · rw [q4 k hk']
    have z1 : hi (hnew h (ci + 1) (clN ci)) (hn h) k = 0 := by simp [hi, hnew, hn]
    have z2 : hr (hnew h (ci + 1) (clN ci)) (hn h) k = 0 := by simp [hr, hnew, hn]
    rw [z1, z2]
    show some (defaultValue (cly ci k)) = _
    rw [cl_dft ci hci k hk']
    rcases cl_tyc ci hci k hk' with e | e | e
    · rw [eF_0 e, e]; rfl
    · rw [eF_1 e, e]; rfl
    · rw [eF_2 e, e]; rfl
theorem m_newa (hx : p.tables.exec = Jvm.exec) (hb : c.code = cc) (hts : ∀ w ∈ TBLg, w.before args s = true) (hal : θ.1.vm.Alike s.vm) {pc : Nat} {at' : ArrayType} (hd' : decode cc pc = .ok (.newarray at', 2)) (w1 : Cond.arrayClass (newarray.typeOf at') ∈ TBLg)
    {kd : Nat} (hkd : kd = 20 ∧ at' = .int ∨ kd = 21 ∧ at' = .byte ∨ kd = 22 ∧ at' = .boolean ∨ kd = 23 ∧ at' = .long ∨ kd = 24 ∧ at' = .double) {h : PH} {H : Heap} {locs : List Loc} {c0 s0 : Nat} {ls : Array Slot} {rest : List Value} {x : Int} (hR : RepS θ h H locs) (hx1 : 0 ≤ x ∧ x ≤ 100000) (r1 : c0 + 1 ≤ R.cells) (r2 : s0 + x.toNat ≤ R.slots)
    (kk : ∀ (H' : Heap), RepS θ (hnew h kd x.toNat) H' locs → W p l e R s m args below meth c H' locs (c0 + 1) (s0 + x.toNat) Z (F0 m (pc + 2) ls (eV θ (pA (hn h)) :: rest))) : W p l e R s m args below meth c H locs c0 s0 Z (F0 m pc ls (.int (oI x) :: rest)) := by
  refine va_newaK hx hb (hts _ w1) rfl hd' rfl (by rw [oI_lt0 ⟨by omega, by omega⟩]; omega) (oI_clamp hx1.1 (by omega)) ?_ r1 r2 rfl (fun H' cA e1 e2 e3 hA _ => ?_)
  · have : x.toNat ≤ 100000 := by omega
    have hcb : componentBytes (newarray.typeOf at') ≤ 8 := by cases at' <;> decide
    exact Nat.le_trans (Nat.mul_le_mul this hcb) (by decide)
  · have hn64 : 64 ≤ hn h := hR.1.1
    have hadr : eV θ (pA (hn h)) = .ref H.size := by
      rw [eV_ref (by omega), tad_hi hn64, hR.1.2.1]
    have K := kk H' ⟨hR.1.push (cell := arrV cA x.toNat (fun _ => defaultValue (newarray.typeOf at'))) (by omega) e1 ?_ e2 e3, hR.2⟩
    · rw [hadr] at K
      exact K
    · have ek : hk (hnew h kd x.toNat) (hn h) = kd := by simp [hk, hnew, hn]
      have el : hl (hnew h kd x.toNat) (hn h) = x.toNat := by simp [hl, hnew, hn]
      have ei : ∀ j, hi (hnew h kd x.toNat) (hn h) j = 0 := fun j => by simp [hi, hnew, hn]
      have hA0 : ∀ z, θ.1.isArrayOf (arrV cA x.toNat z) (newarray.typeOf at') := fun z => State.isArrayOf_alike hal.symm (hA _ _)
      unfold cOK
      rw [ek]
      rcases hkd with ⟨rfl, rfl⟩ | ⟨rfl, rfl⟩ | ⟨rfl, rfl⟩ | ⟨rfl, rfl⟩ | ⟨rfl, rfl⟩ <;>
        exact ⟨hA0 _, (fun q => by cases q), by rw [arrV_size, el]; exact ⟨Nat.le_refl _, sz32 _⟩, by rw [el]; omega, fun j hj => by rw [el] at hj; rw [arrV_read _ _ hj]; simp only [ei]; rfl⟩
theorem m_anew (hx : p.tables.exec = Jvm.exec) (hb : c.code = cc) {own : String} (hown : s.vm.findClass own = some m.cls) (hts : ∀ w ∈ TBLg, w.before args s = true) (hE : EN θ s) {pc idx : Nat} (hd' : decode cc pc = .ok (.anewarray idx, 3)) (w1 : Cond.classLink own idx RX0 ∈ TBLg)
    {h : PH} {H : Heap} {locs : List Loc} {c0 s0 : Nat} {ls : Array Slot} {rest : List Value} {x : Int} (hR : RepS θ h H locs) (hx1 : 0 ≤ x ∧ x ≤ 100000) (r1 : c0 + 1 ≤ R.cells) (r2 : s0 + x.toNat ≤ R.slots)
    (kk : ∀ (H' : Heap), RepS θ (hnew h 25 x.toNat) H' locs → W p l e R s m args below meth c H' locs (c0 + 1) (s0 + x.toNat) Z (F0 m (pc + 3) ls (eV θ (pA (hn h)) :: rest))) : W p l e R s m args below meth c H locs c0 s0 Z (F0 m pc ls (.int (oI x) :: rest)) := by
  have hcl : (oI x).toNatClampNeg = x.toNat := oI_clamp hx1.1 (by omega)
  refine W.anew hx hb hown (hts _ w1) (va_AO.use hE.2.2.2) rfl hd' rfl (by rw [oI_lt0 ⟨by omega, by omega⟩]; omega) (by rw [hcl]; omega) r1 (by rw [hcl]; exact r2) fun cA kA comp f1 f2 f3 f4 => ?_
  rw [hcl]
  generalize hH1 : H.push ({ cls := cA, slots := Array.replicate x.toNat .null, vm := .none } : Cell) = H1
  have z1 : H1.size = H.size + 1 := by rw [← hH1, Array.size_push]
  have e1 : H1[H.size]? = some (arrV cA x.toNat (fun _ => .null)) := by rw [← hH1, Array.getElem?_push_size, ← arrV_new]
  have o1 : ∀ q : Nat, q < H.size → H1[q]? = H[q]? := fun q hq => by rw [← hH1, Array.getElem?_push, if_neg (Nat.ne_of_lt hq)]
  have hn64 : 64 ≤ hn h := hR.1.1
  have hadr : eV θ (pA (hn h)) = .ref H.size := by
    rw [eV_ref (by omega), tad_hi hn64, hR.1.2.1]
  have K := kk H1 ⟨hR.1.push (cell := arrV cA x.toNat (fun _ => .null)) (by omega) e1 ?_ z1 o1, hR.2⟩
  · rw [hadr] at K
    exact K
  · have ek : hk (hnew h 25 x.toNat) (hn h) = 25 := by simp [hk, hnew, hn]
    have el : hl (hnew h 25 x.toNat) (hn h) = x.toNat := by simp [hl, hnew, hn]
    have er : ∀ j, hr (hnew h 25 x.toNat) (hn h) j = 0 := fun j => by simp [hr, hnew, hn]
    unfold cOK
    rw [ek]
    refine ⟨⟨State.isArrayOf_alike hE.1.symm ⟨(fun k h => by cases h), kA, f2, comp, f3⟩, (fun q => by cases q), by rw [arrV_size, el]; exact ⟨Nat.le_refl _, sz32 _⟩, by rw [el]; omega, fun j hj => by rw [el] at hj; rw [arrV_read _ _ hj]; simp only [er]; rfl⟩, ?_⟩
    exact va_RA.moved hE.1.symm (u := s) (ty := .object RX0) ⟨kA, comp, f2, f3, f4, f1⟩
theorem m_aast (hx : p.tables.exec = Jvm.exec) (hb : c.code = cc) (hT : TW θ) (hE : EN θ s) {pc : Nat} (hd' : decode cc pc = .ok (.aastore, 1))
    {h : PH} {H : Heap} {locs : List Loc} {c0 s0 : Nat} {ls : Array Slot} {rest : List Value} {a v : Nat} {i : Int} (hR : RepS θ h H locs) (hka : hk h a = 25) (hi1 : 0 ≤ i ∧ i < hl h a) (hkv : hk h v = 1)
    (kk : ∀ (H' : Heap) (locs' : List Loc), RepS θ (hsr h a i.toNat v) H' locs' → W p l e R s m args below meth c H' locs' c0 s0 Z (F0 m (pc + 1) ls rest)) : W p l e R s m args below meth c H locs c0 s0 Z (F0 m pc ls (eV θ (pA v) :: .int (oI i) :: eV θ (pA a) :: rest)) := by
  obtain ⟨cell, hc, hcok, ha⟩ := hR.1.at (r := a) (by omega) (by omega)
  obtain ⟨cv, hv, hvok, hv0⟩ := hR.1.at (r := v) (by omega) (by omega)
  have h64 := hR.1.big (r := a) (by omega) (by omega) (by omega)
  have hvo := cOK_obj (ci := 0) (by omega) hkv hvok
  unfold cOK at hcok
  rw [hka] at hcok
  obtain ⟨hA, hRA⟩ := hcok
  obtain ⟨b1, b2, b3⟩ := lv_bounds hA hi1
  obtain ⟨kA, comp, k1, k2, k3, -⟩ := va_RA.moved hE.1 hRA
  have hcls := (clK hT hE (ci := 0) (by omega)).2
  have hcomp : comp = θ.2.2.1 0 := Option.some.inj (k3.symm.trans hcls.1)
  subst hcomp
  obtain ⟨kC, hkC, -⟩ := hcls.2
  rw [eV_ref ha, eV_ref hv0]
  refine W.aast hx hb hc (hA.moved hE.1).1 hA.2.1 k1 k2 rfl hkC ⟨fun z => b1 (Or.inl z), Nat.not_le.mp (fun z => b1 (Or.inr z))⟩ hv (fun q z => by rw [hvo.2.1] at z; cases z) (by rw [hvo.1]; exact hkC) (by rw [hvo.1]; exact va_assign hcls) rfl rfl hd' fun H' e1 e2 e3 => ?_
  rw [b2, ← eV_ref (θ := θ) hv0] at e1
  refine kk H' _ ⟨hR.1.put h64 (by omega) rfl (fun _ => rfl) (fun _ => rfl) (fun q hq => ⟨rfl, hr_hsr_ne hq⟩) e1 ?_ e2 e3, locs_put hR.2 (by rw [tad_hi h64]; omega)⟩
  unfold cOK
  rw [show hk (hsr h a i.toNat v) a = 25 from hka]
  exact ⟨aOK.set hA b3 rfl (by rw [hr_hsr_eq, if_pos rfl]; rfl) (fun q hq => by rw [hr_hsr_eq, if_neg hq]), hRA⟩
theorem m_ldc (hx : p.tables.exec = Jvm.exec) (hb : c.code = cc) {own tx : String} (hown : s.vm.findClass own = some m.cls) (hE : EN θ s) {pc idx j len : Nat} {i : Instr} (hd' : decode cc pc = .ok (i, len)) (hi' : i = .ldc idx ∧ len = 2 ∨ i = .ldc_w idx ∧ len = 3) (hj : stT[j]? = some (own, idx, tx)) (hj54 : j < 54)
    {H : Heap} {locs : List Loc} {c0 s0 : Nat} {ls : Array Slot} {rest : List Value} (kk : W p l e R s m args below meth c H locs c0 s0 Z (F0 m (pc + len) ls (eV θ (pA (10 + j)) :: rest))) : W p l e R s m args below meth c H locs c0 s0 Z (F0 m pc ls rest) := by
  have hZ := hE.2.2.1 j _ hj
  rw [eV_ref (by omega), tad_lo (by omega)] at kk
  rcases hi' with ⟨rfl, rfl⟩ | ⟨rfl, rfl⟩
  · exact va_ldcS hx hb hown hZ hd' kk
  · intro T hT X
    obtain ⟨t, a1, b1⟩ := kk T hT X
    exact ⟨t, X.ldcStringW hx hown (text := tx) (a := θ.2.1 (10 + j)) hZ.1 hZ.2 (g := F0 m pc ls rest) rfl (by rw [hb]; exact hd') t a1, b1⟩
end SND3
