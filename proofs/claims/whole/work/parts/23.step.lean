/-! one instruction: from the plain machine to the machine (those that ask nothing of the tables) -/
section SND
variable {p : Program} {l : Launch} {e : Env} {R : Room} {s : State} {m : MethodId} {args : Array Value} {below : List Frame} {meth : Method} {c : Code} {Z : State → Prop} {θ : TH} {cc : ByteArray} {nL : Nat}
def MW (θ : TH) (nL : Nat) (p : Program) (l : Launch) (e : Env) (R : Room) (s : State) (m : MethodId) (args : Array Value) (below : List Frame) (meth : Method) (c : Code) (Z : State → Prop) : PK := fun pc L st h cs ss =>
  ∀ (H : Heap) (locs : List Loc) (ls : Array Slot), RepS θ h H locs → LR θ ls nL L → cs ≤ R.cells → ss ≤ R.slots → W p l e R s m args below meth c H locs cs ss Z (F0 m pc ls (st.map (eV θ)))
def ilen : Instr → Nat
  | .iload _ | .aload _ | .fload _ | .dload _ | .istore _ | .astore _ | .fstore _ | .dstore _ | .bipush _ | .ldc _ | .newarray _ => 2
  | .sipush _ | .iinc _ _ | .goto _ | .if_icmp _ _ | .ifCond _ _ | .ifnonnull _ | .getfield _ | .putfield _ | .getstatic _ | .new _ | .anewarray _ | .invokevirtual _ | .invokestatic _ | .invokespecial _ | .ldc_w _ => 3
  | _ => 1
/-- those that ask the tables, or end the method -/
def ispec : Instr → Bool
  | .ldc _ | .ldc_w _ | .getfield _ | .putfield _ | .getstatic _ | .new _ | .newarray _ | .anewarray _ | .invokevirtual _ | .invokestatic _ | .invokespecial _ | .ireturn | .areturn | .freturn | .dreturn | .return_ | .aastore | .fconst _ | .dconst _ => true
  | _ => false
def iimm : Instr → Bool
  | .bipush n => decide (-128 ≤ n ∧ n ≤ 127)
  | .sipush n => decide (-32768 ≤ n ∧ n ≤ 32767)
  | _ => true
variable {hd : PX} {call : PC} {mc ms fr : Nat} {Q : Int → PH → Prop} {X : Nat → PH → Prop} {jmp : PK} {nxt : PL → List PV → PH → Nat → Nat → Prop}
theorem eV_ref {r : Nat} (h : r ≠ 0) : eV θ (pA r) = .ref (tad θ r) := if_neg h
theorem jtgt {pc : Nat} {o : Int} {t : Nat} (h : (pc : Int) + o = (t : Int)) : ((pc : Int) + o).toNat = t := by rw [h]; rfl
theorem jtgt' {pc : Nat} {o : Int} (h : 0 ≤ (pc : Int) + o) : (pc : Int) + o = ((((pc : Int) + o).toNat : Nat) : Int) := (Int.toNat_of_nonneg h).symm
theorem cond_t {b : Bool} {P : Prop} (h : cond b P False) : b = true ∧ P := by
  cases b
  · exact h.elim
  · exact ⟨rfl, h⟩
theorem lv_bounds {θ : TH} {h : PH} {r : Nat} {cell : Cell} {ty : FieldType} {f : Nat → Value} (a : aOK θ h r cell ty f) {i : Int} (hi : 0 ≤ i ∧ i < hl h r) : ¬ (oI i < 0 ∨ cell.slots.size ≤ (oI i).toNatClampNeg) ∧ (oI i).toNatClampNeg = i.toNat ∧ i.toNat < hl h r := by
  obtain ⟨a1, a2, a3, a4, a5⟩ := a
  refine ⟨fun q => oI_in hi a4 (q.imp id (Nat.le_trans a3.1)), oI_clamp hi.1 (by omega), by omega⟩
theorem m_load (hx : p.tables.exec = Jvm.exec) (hb : c.code = cc) {pc k : Nat} {t : Nat} {i : Instr} {len : Nat} (hd' : decode cc pc = .ok (i, len))
    (hi : (t = 0 ∧ (i = .iload k ∧ len = 2 ∨ ∃ k' : Fin 4, k'.val = k ∧ i = .iload_n k' ∧ len = 1)) ∨ (t = 1 ∧ (i = .aload k ∧ len = 2 ∨ ∃ k' : Fin 4, k'.val = k ∧ i = .aload_n k' ∧ len = 1)) ∨ (t = 5 ∧ (i = .fload k ∧ len = 2 ∨ ∃ k' : Fin 4, k'.val = k ∧ i = .fload_n k' ∧ len = 1)) ∨ (t = 6 ∧ (i = .dload k ∧ len = 2 ∨ ∃ k' : Fin 4, k'.val = k ∧ i = .dload_n k' ∧ len = 1)))
    (hn : ∀ L st h c0 s0, nxt L st h c0 s0 → MW θ nL p l e R s m args below meth c Z (pc + len) L st h c0 s0) {L : PL} {st : List PV} {h : PH} {c0 s0 : Nat} (H : stpLd nxt t k L st h c0 s0) : MW θ nL p l e R s m args below meth c Z pc L st h c0 s0 := by
  unfold stpLd at H
  intro Hh locs ls hR hL g1 g2
  split at H
  · rename_i v hv
    obtain ⟨ht, H⟩ := cond_t H
    have ht := Nat.eq_of_beq_eq_true ht
    have hg := hn _ _ _ _ _ H Hh locs ls hR hL g1 g2
    have hs := hL.at hv
    rcases hi with ⟨rfl, hi⟩ | ⟨rfl, hi⟩ | ⟨rfl, hi⟩ | ⟨rfl, hi⟩
    · obtain ⟨x, rfl⟩ : ∃ x, v = pI x := by
        rcases v with x | r | ⟨t, x⟩
        · exact ⟨x, rfl⟩
        · cases ht
        · have ht : t + 2 = 0 := ht
          omega
      rcases hi with ⟨rfl, rfl⟩ | ⟨k', hk, rfl, rfl⟩
      · exact lv_iload hx hb hd' hs hg
      · exact lv_iload_n hx hb hd' hk hs hg
    · obtain ⟨x, rfl⟩ : ∃ x, v = pA x := by
        rcases v with x | r | ⟨t, x⟩
        · cases ht
        · exact ⟨r, rfl⟩
        · have ht : t + 2 = 1 := ht
          omega
      by_cases hx0 : x = 0
      · subst hx0
        rcases hi with ⟨rfl, rfl⟩ | ⟨k', hk, rfl, rfl⟩
        · exact lv_aloadN hx hb hd' hs hg
        · exact lv_aload_nN hx hb hd' hk hs hg
      · rw [eV_ref hx0] at hs
        simp only [List.map_cons, eV_ref hx0] at hg
        rcases hi with ⟨rfl, rfl⟩ | ⟨k', hk, rfl, rfl⟩
        · exact lv_aload hx hb hd' hs hg
        · exact lv_aload_n hx hb hd' hk hs hg
    · obtain ⟨x, rfl⟩ : ∃ x, v = pW 3 x := by
        rcases v with x | r | ⟨t, x⟩
        · cases ht
        · cases ht
        · have ht : t + 2 = 5 := ht
          obtain rfl : t = 3 := by omega
          exact ⟨x, rfl⟩
      rcases hi with ⟨rfl, rfl⟩ | ⟨k', hk, rfl, rfl⟩
      · exact lv_fload hx hb hd' hs hg
      · exact lv_fload_n hx hb hd' hk hs hg
    · obtain ⟨x, rfl⟩ : ∃ x, v = pW 4 x := by
        rcases v with x | r | ⟨t, x⟩
        · cases ht
        · cases ht
        · have ht : t + 2 = 6 := ht
          obtain rfl : t = 4 := by omega
          exact ⟨x, rfl⟩
      rcases hi with ⟨rfl, rfl⟩ | ⟨k', hk, rfl, rfl⟩
      · exact lv_dload hx hb hd' hs hg
      · exact lv_dload_n hx hb hd' hk hs hg
  · exact H.elim
theorem m_store (hx : p.tables.exec = Jvm.exec) (hb : c.code = cc) {pc k : Nat} {t : Nat} {i : Instr} {len : Nat} (hd' : decode cc pc = .ok (i, len))
    (hi : (t = 0 ∧ (i = .istore k ∧ len = 2 ∨ ∃ k' : Fin 4, k'.val = k ∧ i = .istore_n k' ∧ len = 1)) ∨ (t = 1 ∧ (i = .astore k ∧ len = 2 ∨ ∃ k' : Fin 4, k'.val = k ∧ i = .astore_n k' ∧ len = 1)) ∨ (t = 5 ∧ (i = .fstore k ∧ len = 2 ∨ ∃ k' : Fin 4, k'.val = k ∧ i = .fstore_n k' ∧ len = 1)))
    (hn : ∀ L st h c0 s0, nxt L st h c0 s0 → MW θ nL p l e R s m args below meth c Z (pc + len) L st h c0 s0) {L : PL} {st : List PV} {h : PH} {c0 s0 : Nat} (H : stpSt nxt t k L st h c0 s0) : MW θ nL p l e R s m args below meth c Z pc L st h c0 s0 := by
  unfold stpSt at H
  intro Hh locs ls hR hL g1 g2
  split at H
  · rename_i v st'
    obtain ⟨ht, H⟩ := cond_t H
    simp only [Bool.and_eq_true] at ht
    obtain ⟨ht, hk, hl⟩ := ht
    have ht := Nat.eq_of_beq_eq_true ht
    have hk : k < nL := by rw [← hL.2.2.1]; exact Nat.le_of_ble_eq_true hk
    have hg := fun ls' h' => hn _ _ _ _ _ H Hh locs ls' hR (hL.store (v := v) hl h') g1 g2
    rcases hi with ⟨rfl, hi⟩ | ⟨rfl, hi⟩ | ⟨rfl, hi⟩
    · obtain ⟨x, rfl⟩ : ∃ x, v = pI x := by
        rcases v with x | r | ⟨t, x⟩
        · exact ⟨x, rfl⟩
        · cases ht
        · have ht : t + 2 = 0 := ht
          omega
      rcases hi with ⟨rfl, rfl⟩ | ⟨k', hk', rfl, rfl⟩
      · exact lv_istore hx hb hd' hL.has hk rfl hg
      · exact lv_istore_n hx hb hd' hk' hL.has hk rfl hg
    · obtain ⟨x, rfl⟩ : ∃ x, v = pA x := by
        rcases v with x | r | ⟨t, x⟩
        · cases ht
        · exact ⟨r, rfl⟩
        · have ht : t + 2 = 1 := ht
          omega
      by_cases hx0 : x = 0
      · subst hx0
        rcases hi with ⟨rfl, rfl⟩ | ⟨k', hk', rfl, rfl⟩
        · exact lv_astoreN hx hb hd' hL.has hk rfl hg
        · exact lv_astore_nN hx hb hd' hk' hL.has hk rfl hg
      · rw [eV_ref hx0] at hg
        simp only [List.map_cons, eV_ref hx0]
        rcases hi with ⟨rfl, rfl⟩ | ⟨k', hk', rfl, rfl⟩
        · exact lv_astore hx hb hd' hL.has hk rfl hg
        · exact lv_astore_n hx hb hd' hk' hL.has hk rfl hg
    · obtain ⟨x, rfl⟩ : ∃ x, v = pW 3 x := by
        rcases v with x | r | ⟨t, x⟩
        · cases ht
        · cases ht
        · have ht : t + 2 = 5 := ht
          obtain rfl : t = 3 := by omega
          exact ⟨x, rfl⟩
      rcases hi with ⟨rfl, rfl⟩ | ⟨k', hk', rfl, rfl⟩
      · exact lv_fstore hx hb hd' hL.has hk rfl hg
      · exact lv_fstore_n hx hb hd' hk' hL.has hk rfl hg
  · exact H.elim
theorem m_stored (hx : p.tables.exec = Jvm.exec) (hb : c.code = cc) {pc k : Nat} {i : Instr} {len : Nat} (hd' : decode cc pc = .ok (i, len))
    (hi : i = .dstore k ∧ len = 2 ∨ ∃ k' : Fin 4, k'.val = k ∧ i = .dstore_n k' ∧ len = 1)
    (hn : ∀ L st h c0 s0, nxt L st h c0 s0 → MW θ nL p l e R s m args below meth c Z (pc + len) L st h c0 s0) {L : PL} {st : List PV} {h : PH} {c0 s0 : Nat} (H : stpSd nxt k L st h c0 s0) : MW θ nL p l e R s m args below meth c Z pc L st h c0 s0 := by
  unfold stpSd at H
  intro Hh locs ls hR hL g1 g2
  split at H
  · rename_i v st'
    obtain ⟨ht, H⟩ := cond_t H
    simp only [Bool.and_eq_true] at ht
    obtain ⟨ht, hk, hl⟩ := ht
    have ht := Nat.eq_of_beq_eq_true ht
    have hk : k + 1 < nL := by rw [← hL.2.2.1]; exact Nat.le_of_ble_eq_true hk
    have hg := fun ls' h' => hn _ _ _ _ _ H Hh locs ls' hR (hL.store2 (v := v) hl h') g1 g2
    obtain ⟨x, rfl⟩ : ∃ x, v = pW 4 x := by
      rcases v with x | r | ⟨t, x⟩
      · cases ht
      · cases ht
      · have ht : t + 2 = 6 := ht
        obtain rfl : t = 4 := by omega
        exact ⟨x, rfl⟩
    rcases hi with ⟨rfl, rfl⟩ | ⟨k', hk', rfl, rfl⟩
    · exact lv_dstore hx hb hd' hL.has hk rfl hg
    · exact lv_dstore_n hx hb hd' hk' hL.has hk rfl hg
  · exact H.elim
theorem dup_cat {v : PV} (h : (match v with | .inr (.inr _) => False | _ => True)) : (eV θ v).category = 1 := by
  rcases v with x | r | q
  · rfl
  · show (eR θ r).category = 1
    unfold eR
    split <;> rfl
  · exact h.elim
theorem m_tsw {pc : Nat} {x : Int} {P : Nat → Prop} : ∀ (os : List Int) (lo : Int), tsw x pc P lo os → ∀ o, os[(x - lo).toNat]? = some o → lo ≤ x → P ((pc : Int) + o).toNat
  | [], _, _, o, ho, _ => by simp at ho
  | q :: os, lo, H, o, ho, hlo => by
    by_cases e : x = lo
    · have : (x - lo).toNat = 0 := by omega
      rw [this] at ho
      cases ho
      exact H.1 e
    · have : (x - lo).toNat = (x - (lo + 1)).toNat + 1 := by omega
      rw [this] at ho
      exact m_tsw os (lo + 1) H.2 o ho (by omega)
theorem aOK.moved {h : PH} {r : Nat} {cell : Cell} {ty : FieldType} {f : Nat → Value} (hal : θ.1.vm.Alike s.vm) (a : aOK θ h r cell ty f) : s.isArrayOf cell ty := State.isArrayOf_alike hal a.1
theorem locs_put {locs : List Loc} {b k : Nat} {z : Nat} (h : ∀ l ∈ locs, b ≤ l.base) (hz : b ≤ z) : ∀ l ∈ locs ++ [⟨z, k⟩], b ≤ l.base := by
  intro l hl
  rcases List.mem_append.mp hl with q | q
  · exact h l q
  · rw [List.mem_singleton.mp q]
    exact hz
end SND
