/-! WQ: from this point of a method the run comes to an end of the method at which Q holds of what it answers, or throws, and of the heap. -/
abbrev MI : Type := MethodName × ByteArray × Nat × Option FieldType × List (Nat × Nat × Nat × Nat)
abbrev mN (y : MI) : MethodName := y.1
abbrev mC (y : MI) : ByteArray := y.2.1
abbrev mL (y : MI) : Nat := y.2.2.1
abbrev mR (y : MI) : Option FieldType := y.2.2.2.1
abbrev mH (y : MI) : List (Nat × Nat × Nat × Nat) := y.2.2.2.2
abbrev Out : Type := Option AV ⊕ String
abbrev oRet (v : AV) : Out := .inl (some v)
abbrev oVoid : Out := .inl none
abbrev oThr (E : String) : Out := .inr E
abbrev Pst : Type := Out → Hp → Prop
def lw_good : List Cond := lw_tbl.filter goodWord
def Ctx (G : GG) (p : Program) (l : Launch) (R : Room) (s : State) (m : MethodId) (args : Array Value) (meth : Method) (c : Code) (y : MI) (d : Nat) : Prop :=
  p.tables.exec = Jvm.exec ∧ c.code = mC y ∧ c.maxLocals = mL y ∧ meth.sig.returnType = mR y ∧ meth.locks = false ∧ meth.name = (mN y).name ∧ s.vm.findClass (mN y).cls = some m.cls ∧ (∀ w ∈ lw_good, w.before args s = true) ∧ Sx G s ∧ (d ≤ R.frames ∧ 64 * d ≤ R.locals) ∧ c.exceptionTable.toList = tableOf (mH y) ∧ l.stackTraces = false
def QcO (G : GG) (Q : Pst) : Array Value → State → Outcome → State → Prop := fun _ st o t => ∃ (v : Option AV) (h : Hp), o = .returned (v.map toV) ∧ Q (.inl v) h ∧ Rep G h t.heap ∧ va_F (gA G) st t
def XcO (G : GG) (Q : Pst) : String → State → State → Prop := fun E st t => ∃ h : Hp, Q (.inr E) h ∧ Rep G h t.heap ∧ va_F (gA G) st t
def WQ (G : GG) (y : MI) (d pc : Nat) (lv : LV) (st : List AV) (h : Hp) (bc bs : Nat) (Q : Pst) : Prop :=
  ∀ (p : Program) (l : Launch) (e : Env) (R : Room) (s : State) (m : MethodId) (args : Array Value) (below : List Frame) (meth : Method) (c : Code), Ctx G p l R s m args meth c y d →
    ∀ (H : Heap) (locs : List Loc) (cells slots : Nat) (ls : Array Slot), Rep G h H → va_S (gA G) s.heap H locs → lv_has ls (mL y) (lmap lv) → cells + bc ≤ R.cells → slots + bs ≤ R.slots →
      W p l e R s m args below meth c H locs cells slots (vx_MQ below (QcO G Q) (XcO G Q) args s R.cells R.slots (gA G)) (F0 m pc ls (st.map toV))
theorem wq_sub {G : GG} {y : MI} {d pc : Nat} {lv : LV} {st : List AV} {h : Hp} {bc bs : Nat} {Q : Pst} (lv' : LV) (hs : ∀ q ∈ lv', q ∈ lv) (K : WQ G y d pc lv' st h bc bs Q) : WQ G y d pc lv st h bc bs Q :=
  fun p l e R s m args below meth c C H locs cells slots ls hr hS hl hc hs' => K p l e R s m args below meth c C H locs cells slots ls hr hS (lk_sub hl hs) hc hs'
theorem wq_pay {G : GG} {y : MI} {d pc : Nat} {lv : LV} {st : List AV} {h : Hp} {bc bs bc' bs' : Nat} {Q : Pst} (h1 : bc' ≤ bc) (h2 : bs' ≤ bs) (K : WQ G y d pc lv st h bc' bs' Q) : WQ G y d pc lv st h bc bs Q :=
  fun p l e R s m args below meth c C H locs cells slots ls hr hS hl hc hs' => K p l e R s m args below meth c C H locs cells slots ls hr hS hl (by omega) (by omega)
theorem wq_deep {G : GG} {y : MI} {d d' pc : Nat} {lv : LV} {st : List AV} {h : Hp} {bc bs : Nat} {Q : Pst} (h1 : d' ≤ d) (K : WQ G y d' pc lv st h bc bs Q) : WQ G y d pc lv st h bc bs Q := by
  intro p l e R s m args below meth c C H locs cells slots ls hr hS hl hc hs'
  obtain ⟨c1, c2, c3, c4, c5, c6, c7, c8, c9, ⟨c10, c11⟩, c12⟩ := C
  exact K p l e R s m args below meth c ⟨c1, c2, c3, c4, c5, c6, c7, c8, c9, ⟨by omega, by omega⟩, c12⟩ H locs cells slots ls hr hS hl hc hs'
theorem wq_post {G : GG} {y : MI} {d pc : Nat} {lv : LV} {st : List AV} {h : Hp} {bc bs : Nat} {Q Q' : Pst} (hQ : ∀ o h', Q' o h' → Q o h') (K : WQ G y d pc lv st h bc bs Q') : WQ G y d pc lv st h bc bs Q := by
  intro p l e R s m args below meth c C H locs cells slots ls hr hS hl hc hs' T hT X
  obtain ⟨t, a1, o, b1, b2, b3⟩ := K p l e R s m args below meth c C H locs cells slots ls hr hS hl hc hs' T hT X
  refine ⟨t, a1, o, b1, b2, ?_⟩
  rcases b3 with ⟨⟨v, h', e1, e2, e3⟩, b4⟩ | ⟨q, e1, E, ce, L, ⟨h', e2, e3⟩, b4⟩
  · exact Or.inl ⟨⟨v, h', e1, hQ _ _ e2, e3⟩, b4⟩
  · exact Or.inr ⟨q, e1, E, ce, L, ⟨h', hQ _ _ e2, e3⟩, b4⟩
def lset2 (lv : LV) (i : Nat) (v : AV) : LV := (i, v) :: lv.filter (fun q => !(q.1 == i) && (!(q.1 == i + 1) && !(q.1 + 1 == i && av2 q.2)))
theorem lset2_map (lv : LV) (i : Nat) (v : AV) : (i, toV v) :: (lmap lv).filter (fun q => !(q.1 == i) && (!(q.1 == i + 1) && !(q.1 + 1 == i && q.2.category == 2))) = lmap (lset2 lv i v) := by
  simp only [lset2, lmap, List.map_cons, List.filter_map]
  congr 2
  apply List.filter_congr
  intro q _
  simp only [Function.comp_apply, toV_cat2]
section RW
variable {G : GG} {y : MI} {d pc : Nat} {lv lv' : LV} {st : List AV} {h : Hp} {bc bs : Nat} {Q : Pst}
theorem wq_iconst {n : Int} (v : Int32) (hd : decode (mC y) pc = .ok (.iconst n, 1)) (hv : Int32.ofInt n = v) (K : WQ G y d (pc + 1) lv (vi v :: st) h bc bs Q) : WQ G y d pc lv (st) h bc bs Q := by
  intro p l e R s m args below meth c C H locs cells slots ls hr hS hl hc hs
  exact lv_iconst C.1 C.2.1 hd hv (K p l e R s m args below meth c C H locs cells slots ls hr hS hl hc hs)
theorem wq_bipush {n : Int} (v : Int32) (hd : decode (mC y) pc = .ok (.bipush n, 2)) (hv : (Int8.ofInt n).toInt32 = v) (K : WQ G y d (pc + 2) lv (vi v :: st) h bc bs Q) : WQ G y d pc lv (st) h bc bs Q := by
  intro p l e R s m args below meth c C H locs cells slots ls hr hS hl hc hs
  exact lv_bipush C.1 C.2.1 hd hv (K p l e R s m args below meth c C H locs cells slots ls hr hS hl hc hs)
theorem wq_sipush {n : Int} (v : Int32) (hd : decode (mC y) pc = .ok (.sipush n, 3)) (hv : (Int16.ofInt n).toInt32 = v) (K : WQ G y d (pc + 3) lv (vi v :: st) h bc bs Q) : WQ G y d pc lv (st) h bc bs Q := by
  intro p l e R s m args below meth c C H locs cells slots ls hr hS hl hc hs
  exact lv_sipush C.1 C.2.1 hd hv (K p l e R s m args below meth c C H locs cells slots ls hr hS hl hc hs)
theorem wq_lconst {n : Fin 2} (v : Int64) (hd : decode (mC y) pc = .ok (.lconst n, 1)) (hv : Int64.ofNat (n : Nat) = v) (K : WQ G y d (pc + 1) lv (vl v :: st) h bc bs Q) : WQ G y d pc lv (st) h bc bs Q := by
  intro p l e R s m args below meth c C H locs cells slots ls hr hS hl hc hs
  exact lv_lconst C.1 C.2.1 hd hv (K p l e R s m args below meth c C H locs cells slots ls hr hS hl hc hs)
theorem wq_null  (hd : decode (mC y) pc = .ok (.aconst_null, 1)) (K : WQ G y d (pc + 1) lv (vr none :: st) h bc bs Q) : WQ G y d pc lv (st) h bc bs Q := by
  intro p l e R s m args below meth c C H locs cells slots ls hr hS hl hc hs
  exact lv_null C.1 C.2.1 hd (K p l e R s m args below meth c C H locs cells slots ls hr hS hl hc hs)
theorem wq_fconst0  (hd : decode (mC y) pc = .ok (.fconst 0, 1)) (K : WQ G y d (pc + 1) lv (vf FP.fconst0 :: st) h bc bs Q) : WQ G y d pc lv (st) h bc bs Q := by
  intro p l e R s m args below meth c C H locs cells slots ls hr hS hl hc hs
  exact lv_fconst0 C.1 C.2.1 hd (K p l e R s m args below meth c C H locs cells slots ls hr hS hl hc hs)
theorem wq_ldc {index : Nat} {v : Int32} (hd : decode (mC y) pc = .ok (.ldc index, 2)) (hw : Cond.constant (mN y).cls index v ∈ lw_good) (K : WQ G y d (pc + 2) lv (vi v :: st) h bc bs Q) : WQ G y d pc lv (st) h bc bs Q := by
  intro p l e R s m args below meth c C H locs cells slots ls hr hS hl hc hs
  exact lv_ldc C.1 C.2.1 C.2.2.2.2.2.2.1 (C.2.2.2.2.2.2.2.1 _ hw) hd (K p l e R s m args below meth c C H locs cells slots ls hr hS hl hc hs)
theorem wq_ldc_w {index : Nat} {v : Int32} (hd : decode (mC y) pc = .ok (.ldc_w index, 3)) (hw : Cond.constant (mN y).cls index v ∈ lw_good) (K : WQ G y d (pc + 3) lv (vi v :: st) h bc bs Q) : WQ G y d pc lv (st) h bc bs Q := by
  intro p l e R s m args below meth c C H locs cells slots ls hr hS hl hc hs
  exact lv_ldcw C.1 C.2.1 C.2.2.2.2.2.2.1 (C.2.2.2.2.2.2.2.1 _ hw) hd (K p l e R s m args below meth c C H locs cells slots ls hr hS hl hc hs)
theorem wq_iload_n {k : Fin 4} {i : Nat} {x : Int32} (hd : decode (mC y) pc = .ok (.iload_n k, 1)) (hi : (k : Nat) = i) (hv : lk lv i = some (vi x)) (K : WQ G y d (pc + 1) lv (vi x :: st) h bc bs Q) : WQ G y d pc lv (st) h bc bs Q := by
  intro p l e R s m args below meth c C H locs cells slots ls hr hS hl hc hs
  exact lv_iload_n C.1 C.2.1 hd hi (lk_get hl hv) (K p l e R s m args below meth c C H locs cells slots ls hr hS hl hc hs)
theorem wq_iload {i : Nat} {x : Int32} (hd : decode (mC y) pc = .ok (.iload i, 2)) (hv : lk lv i = some (vi x)) (K : WQ G y d (pc + 2) lv (vi x :: st) h bc bs Q) : WQ G y d pc lv (st) h bc bs Q := by
  intro p l e R s m args below meth c C H locs cells slots ls hr hS hl hc hs
  exact lv_iload C.1 C.2.1 hd (lk_get hl hv) (K p l e R s m args below meth c C H locs cells slots ls hr hS hl hc hs)
theorem wq_lload_n {k : Fin 4} {i : Nat} {x : Int64} (hd : decode (mC y) pc = .ok (.lload_n k, 1)) (hi : (k : Nat) = i) (hv : lk lv i = some (vl x)) (K : WQ G y d (pc + 1) lv (vl x :: st) h bc bs Q) : WQ G y d pc lv (st) h bc bs Q := by
  intro p l e R s m args below meth c C H locs cells slots ls hr hS hl hc hs
  exact lv_lload_n C.1 C.2.1 hd hi (lk_get hl hv) (K p l e R s m args below meth c C H locs cells slots ls hr hS hl hc hs)
theorem wq_lload {i : Nat} {x : Int64} (hd : decode (mC y) pc = .ok (.lload i, 2)) (hv : lk lv i = some (vl x)) (K : WQ G y d (pc + 2) lv (vl x :: st) h bc bs Q) : WQ G y d pc lv (st) h bc bs Q := by
  intro p l e R s m args below meth c C H locs cells slots ls hr hS hl hc hs
  exact lv_lload C.1 C.2.1 hd (lk_get hl hv) (K p l e R s m args below meth c C H locs cells slots ls hr hS hl hc hs)
theorem wq_fload_n {k : Fin 4} {i : Nat} {x : UInt32} (hd : decode (mC y) pc = .ok (.fload_n k, 1)) (hi : (k : Nat) = i) (hv : lk lv i = some (vf x)) (K : WQ G y d (pc + 1) lv (vf x :: st) h bc bs Q) : WQ G y d pc lv (st) h bc bs Q := by
  intro p l e R s m args below meth c C H locs cells slots ls hr hS hl hc hs
  exact lv_fload_n C.1 C.2.1 hd hi (lk_get hl hv) (K p l e R s m args below meth c C H locs cells slots ls hr hS hl hc hs)
theorem wq_fload {i : Nat} {x : UInt32} (hd : decode (mC y) pc = .ok (.fload i, 2)) (hv : lk lv i = some (vf x)) (K : WQ G y d (pc + 2) lv (vf x :: st) h bc bs Q) : WQ G y d pc lv (st) h bc bs Q := by
  intro p l e R s m args below meth c C H locs cells slots ls hr hS hl hc hs
  exact lv_fload C.1 C.2.1 hd (lk_get hl hv) (K p l e R s m args below meth c C H locs cells slots ls hr hS hl hc hs)
theorem wq_aload_n {k : Fin 4} {i : Nat} {r : Option Nat} (hd : decode (mC y) pc = .ok (.aload_n k, 1)) (hi : (k : Nat) = i) (hv : lk lv i = some (vr r)) (K : WQ G y d (pc + 1) lv (vr r :: st) h bc bs Q) : WQ G y d pc lv (st) h bc bs Q := by
  intro p l e R s m args below meth c C H locs cells slots ls hr hS hl hc hs
  cases r with
  | none => exact lv_aload_nN C.1 C.2.1 hd hi (lk_get hl hv) (K p l e R s m args below meth c C H locs cells slots ls hr hS hl hc hs)
  | some a => exact lv_aload_n C.1 C.2.1 hd hi (lk_get hl hv) (K p l e R s m args below meth c C H locs cells slots ls hr hS hl hc hs)
theorem wq_aload {i : Nat} {r : Option Nat} (hd : decode (mC y) pc = .ok (.aload i, 2)) (hv : lk lv i = some (vr r)) (K : WQ G y d (pc + 2) lv (vr r :: st) h bc bs Q) : WQ G y d pc lv (st) h bc bs Q := by
  intro p l e R s m args below meth c C H locs cells slots ls hr hS hl hc hs
  cases r with
  | none => exact lv_aloadN C.1 C.2.1 hd (lk_get hl hv) (K p l e R s m args below meth c C H locs cells slots ls hr hS hl hc hs)
  | some a => exact lv_aload C.1 C.2.1 hd (lk_get hl hv) (K p l e R s m args below meth c C H locs cells slots ls hr hS hl hc hs)
theorem wq_istore_n {k : Fin 4} {i : Nat} {x : Int32} (hd : decode (mC y) pc = .ok (.istore_n k, 1)) (hi : (k : Nat) = i) (hb : i < mL y) (hv : lset lv i (vi x) = lv') (K : WQ G y d (pc + 1) lv' st h bc bs Q) : WQ G y d pc lv (vi x :: st) h bc bs Q := by
  intro p l e R s m args below meth c C H locs cells slots ls hr hS hl hc hs
  subst hv
  exact lv_istore_n C.1 C.2.1 hd hi hl hb (lset_map lv i (vi x)) (fun ls hl => (K p l e R s m args below meth c C H locs cells slots ls hr hS hl hc hs))
theorem wq_istore {i : Nat} {x : Int32} (hd : decode (mC y) pc = .ok (.istore i, 2)) (hb : i < mL y) (hv : lset lv i (vi x) = lv') (K : WQ G y d (pc + 2) lv' st h bc bs Q) : WQ G y d pc lv (vi x :: st) h bc bs Q := by
  intro p l e R s m args below meth c C H locs cells slots ls hr hS hl hc hs
  subst hv
  exact lv_istore C.1 C.2.1 hd hl hb (lset_map lv i (vi x)) (fun ls hl => (K p l e R s m args below meth c C H locs cells slots ls hr hS hl hc hs))
theorem wq_lstore_n {k : Fin 4} {i : Nat} {x : Int64} (hd : decode (mC y) pc = .ok (.lstore_n k, 1)) (hi : (k : Nat) = i) (hb : i + 1 < mL y) (hv : lset2 lv i (vl x) = lv') (K : WQ G y d (pc + 1) lv' st h bc bs Q) : WQ G y d pc lv (vl x :: st) h bc bs Q := by
  intro p l e R s m args below meth c C H locs cells slots ls hr hS hl hc hs
  subst hv
  exact lv_lstore_n C.1 C.2.1 hd hi hl hb (lset2_map lv i (vl x)) (fun ls hl => (K p l e R s m args below meth c C H locs cells slots ls hr hS hl hc hs))
theorem wq_lstore {i : Nat} {x : Int64} (hd : decode (mC y) pc = .ok (.lstore i, 2)) (hb : i + 1 < mL y) (hv : lset2 lv i (vl x) = lv') (K : WQ G y d (pc + 2) lv' st h bc bs Q) : WQ G y d pc lv (vl x :: st) h bc bs Q := by
  intro p l e R s m args below meth c C H locs cells slots ls hr hS hl hc hs
  subst hv
  exact lv_lstore C.1 C.2.1 hd hl hb (lset2_map lv i (vl x)) (fun ls hl => (K p l e R s m args below meth c C H locs cells slots ls hr hS hl hc hs))
theorem wq_fstore_n {k : Fin 4} {i : Nat} {x : UInt32} (hd : decode (mC y) pc = .ok (.fstore_n k, 1)) (hi : (k : Nat) = i) (hb : i < mL y) (hv : lset lv i (vf x) = lv') (K : WQ G y d (pc + 1) lv' st h bc bs Q) : WQ G y d pc lv (vf x :: st) h bc bs Q := by
  intro p l e R s m args below meth c C H locs cells slots ls hr hS hl hc hs
  subst hv
  exact lv_fstore_n C.1 C.2.1 hd hi hl hb (lset_map lv i (vf x)) (fun ls hl => (K p l e R s m args below meth c C H locs cells slots ls hr hS hl hc hs))
theorem wq_fstore {i : Nat} {x : UInt32} (hd : decode (mC y) pc = .ok (.fstore i, 2)) (hb : i < mL y) (hv : lset lv i (vf x) = lv') (K : WQ G y d (pc + 2) lv' st h bc bs Q) : WQ G y d pc lv (vf x :: st) h bc bs Q := by
  intro p l e R s m args below meth c C H locs cells slots ls hr hS hl hc hs
  subst hv
  exact lv_fstore C.1 C.2.1 hd hl hb (lset_map lv i (vf x)) (fun ls hl => (K p l e R s m args below meth c C H locs cells slots ls hr hS hl hc hs))
theorem wq_astore_n {k : Fin 4} {i : Nat} {r : Option Nat} (hd : decode (mC y) pc = .ok (.astore_n k, 1)) (hi : (k : Nat) = i) (hb : i < mL y) (hv : lset lv i (vr r) = lv') (K : WQ G y d (pc + 1) lv' st h bc bs Q) : WQ G y d pc lv (vr r :: st) h bc bs Q := by
  intro p l e R s m args below meth c C H locs cells slots ls hr hS hl hc hs
  subst hv
  cases r with
  | none => exact lv_astore_nN C.1 C.2.1 hd hi hl hb (lset_map lv i (vr none)) (fun ls hl => (K p l e R s m args below meth c C H locs cells slots ls hr hS hl hc hs))
  | some a => exact lv_astore_n C.1 C.2.1 hd hi hl hb (lset_map lv i (vr (some a))) (fun ls hl => (K p l e R s m args below meth c C H locs cells slots ls hr hS hl hc hs))
theorem wq_astore {i : Nat} {r : Option Nat} (hd : decode (mC y) pc = .ok (.astore i, 2)) (hb : i < mL y) (hv : lset lv i (vr r) = lv') (K : WQ G y d (pc + 2) lv' st h bc bs Q) : WQ G y d pc lv (vr r :: st) h bc bs Q := by
  intro p l e R s m args below meth c C H locs cells slots ls hr hS hl hc hs
  subst hv
  cases r with
  | none => exact lv_astoreN C.1 C.2.1 hd hl hb (lset_map lv i (vr none)) (fun ls hl => (K p l e R s m args below meth c C H locs cells slots ls hr hS hl hc hs))
  | some a => exact lv_astore C.1 C.2.1 hd hl hb (lset_map lv i (vr (some a))) (fun ls hl => (K p l e R s m args below meth c C H locs cells slots ls hr hS hl hc hs))
theorem lk_idx {lv : LV} {i : Nat} {v : AV} (hv : lk lv i = some v) : ∃ k : Nat, (lmap lv)[k]? = some (i, toV v) := List.getElem?_of_mem (List.mem_map.mpr ⟨(i, v), lk_mem hv, rfl⟩)
theorem wq_iinc {i : Nat} {n : Int} {x : Int32} (v : Int32) (hd : decode (mC y) pc = .ok (.iinc i n, 3)) (hx : lk lv i = some (vi x)) (hv : x + Int32.ofInt n = v) (hb : i < mL y) (hw : lset lv i (vi v) = lv') (K : WQ G y d (pc + 3) lv' st h bc bs Q) : WQ G y d pc lv st h bc bs Q := by
  intro p l e R s m args below meth c C H locs cells slots ls hr hS hl hc hs
  subst hw
  obtain ⟨k, hk1⟩ := lk_idx hx
  exact lv_iinc C.1 C.2.1 hd hl hk1 hv hb (lset_map lv i (vi v)) (fun ls hl => (K p l e R s m args below meth c C H locs cells slots ls hr hS hl hc hs))
theorem wq_iadd {x z : Int32} (hd : decode (mC y) pc = .ok (.iadd, 1)) (K : WQ G y d (pc + 1) lv (vi (x + z) :: st) h bc bs Q) : WQ G y d pc lv (vi z :: vi x :: st) h bc bs Q := by
  intro p l e R s m args below meth c C H locs cells slots ls hr hS hl hc hs
  exact lv_iadd C.1 C.2.1 hd (K p l e R s m args below meth c C H locs cells slots ls hr hS hl hc hs)
theorem wq_isub {x z : Int32} (hd : decode (mC y) pc = .ok (.isub, 1)) (K : WQ G y d (pc + 1) lv (vi (x - z) :: st) h bc bs Q) : WQ G y d pc lv (vi z :: vi x :: st) h bc bs Q := by
  intro p l e R s m args below meth c C H locs cells slots ls hr hS hl hc hs
  exact lv_isub C.1 C.2.1 hd (K p l e R s m args below meth c C H locs cells slots ls hr hS hl hc hs)
theorem wq_imul {x z : Int32} (hd : decode (mC y) pc = .ok (.imul, 1)) (K : WQ G y d (pc + 1) lv (vi (x * z) :: st) h bc bs Q) : WQ G y d pc lv (vi z :: vi x :: st) h bc bs Q := by
  intro p l e R s m args below meth c C H locs cells slots ls hr hS hl hc hs
  exact lv_imul C.1 C.2.1 hd (K p l e R s m args below meth c C H locs cells slots ls hr hS hl hc hs)
theorem wq_iand {x z : Int32} (hd : decode (mC y) pc = .ok (.iand, 1)) (K : WQ G y d (pc + 1) lv (vi (x &&& z) :: st) h bc bs Q) : WQ G y d pc lv (vi z :: vi x :: st) h bc bs Q := by
  intro p l e R s m args below meth c C H locs cells slots ls hr hS hl hc hs
  exact lv_iand C.1 C.2.1 hd (K p l e R s m args below meth c C H locs cells slots ls hr hS hl hc hs)
theorem wq_ior {x z : Int32} (hd : decode (mC y) pc = .ok (.ior, 1)) (K : WQ G y d (pc + 1) lv (vi (x ||| z) :: st) h bc bs Q) : WQ G y d pc lv (vi z :: vi x :: st) h bc bs Q := by
  intro p l e R s m args below meth c C H locs cells slots ls hr hS hl hc hs
  exact lv_ior C.1 C.2.1 hd (K p l e R s m args below meth c C H locs cells slots ls hr hS hl hc hs)
theorem wq_ixor {x z : Int32} (hd : decode (mC y) pc = .ok (.ixor, 1)) (K : WQ G y d (pc + 1) lv (vi (x ^^^ z) :: st) h bc bs Q) : WQ G y d pc lv (vi z :: vi x :: st) h bc bs Q := by
  intro p l e R s m args below meth c C H locs cells slots ls hr hS hl hc hs
  exact lv_ixor C.1 C.2.1 hd (K p l e R s m args below meth c C H locs cells slots ls hr hS hl hc hs)
theorem wq_ishl {x z : Int32} (hd : decode (mC y) pc = .ok (.ishl, 1)) (K : WQ G y d (pc + 1) lv (vi (x <<< (z &&& 31)) :: st) h bc bs Q) : WQ G y d pc lv (vi z :: vi x :: st) h bc bs Q := by
  intro p l e R s m args below meth c C H locs cells slots ls hr hS hl hc hs
  exact lv_ishl C.1 C.2.1 hd (K p l e R s m args below meth c C H locs cells slots ls hr hS hl hc hs)
theorem wq_ishr {x z : Int32} (hd : decode (mC y) pc = .ok (.ishr, 1)) (K : WQ G y d (pc + 1) lv (vi (x >>> (z &&& 31)) :: st) h bc bs Q) : WQ G y d pc lv (vi z :: vi x :: st) h bc bs Q := by
  intro p l e R s m args below meth c C H locs cells slots ls hr hS hl hc hs
  exact lv_ishr C.1 C.2.1 hd (K p l e R s m args below meth c C H locs cells slots ls hr hS hl hc hs)
theorem wq_idiv {x z : Int32} (hd : decode (mC y) pc = .ok (.idiv, 1)) (hne : ¬ z = 0) (K : WQ G y d (pc + 1) lv (vi (x / z) :: st) h bc bs Q) : WQ G y d pc lv (vi z :: vi x :: st) h bc bs Q := by
  intro p l e R s m args below meth c C H locs cells slots ls hr hS hl hc hs
  exact lv_idiv C.1 C.2.1 hd hne (K p l e R s m args below meth c C H locs cells slots ls hr hS hl hc hs)
theorem wq_irem {x z : Int32} (hd : decode (mC y) pc = .ok (.irem, 1)) (hne : ¬ z = 0) (K : WQ G y d (pc + 1) lv (vi (x - x / z * z) :: st) h bc bs Q) : WQ G y d pc lv (vi z :: vi x :: st) h bc bs Q := by
  intro p l e R s m args below meth c C H locs cells slots ls hr hS hl hc hs
  exact lv_irem C.1 C.2.1 hd hne (K p l e R s m args below meth c C H locs cells slots ls hr hS hl hc hs)
theorem wq_ineg {x : Int32} (hd : decode (mC y) pc = .ok (.ineg, 1)) (K : WQ G y d (pc + 1) lv (vi (-x) :: st) h bc bs Q) : WQ G y d pc lv (vi x :: st) h bc bs Q := by
  intro p l e R s m args below meth c C H locs cells slots ls hr hS hl hc hs
  exact lv_ineg C.1 C.2.1 hd (K p l e R s m args below meth c C H locs cells slots ls hr hS hl hc hs)
theorem wq_ladd {x z : Int64} (hd : decode (mC y) pc = .ok (.ladd, 1)) (K : WQ G y d (pc + 1) lv (vl (x + z) :: st) h bc bs Q) : WQ G y d pc lv (vl z :: vl x :: st) h bc bs Q := by
  intro p l e R s m args below meth c C H locs cells slots ls hr hS hl hc hs
  exact lv_ladd C.1 C.2.1 hd (K p l e R s m args below meth c C H locs cells slots ls hr hS hl hc hs)
theorem wq_lsub {x z : Int64} (hd : decode (mC y) pc = .ok (.lsub, 1)) (K : WQ G y d (pc + 1) lv (vl (x - z) :: st) h bc bs Q) : WQ G y d pc lv (vl z :: vl x :: st) h bc bs Q := by
  intro p l e R s m args below meth c C H locs cells slots ls hr hS hl hc hs
  exact lv_lsub C.1 C.2.1 hd (K p l e R s m args below meth c C H locs cells slots ls hr hS hl hc hs)
theorem wq_i2l {x : Int32} (hd : decode (mC y) pc = .ok (.i2l, 1)) (K : WQ G y d (pc + 1) lv (vl x.toInt64 :: st) h bc bs Q) : WQ G y d pc lv (vi x :: st) h bc bs Q := by
  intro p l e R s m args below meth c C H locs cells slots ls hr hS hl hc hs
  exact lv_i2l C.1 C.2.1 hd rfl (K p l e R s m args below meth c C H locs cells slots ls hr hS hl hc hs)
theorem wq_l2i {x : Int64} (hd : decode (mC y) pc = .ok (.l2i, 1)) (K : WQ G y d (pc + 1) lv (vi x.toInt32 :: st) h bc bs Q) : WQ G y d pc lv (vl x :: st) h bc bs Q := by
  intro p l e R s m args below meth c C H locs cells slots ls hr hS hl hc hs
  exact lv_l2i C.1 C.2.1 hd rfl (K p l e R s m args below meth c C H locs cells slots ls hr hS hl hc hs)
theorem wq_i2c {x : Int32} (hd : decode (mC y) pc = .ok (.i2c, 1)) (K : WQ G y d (pc + 1) lv (vi (x.toUInt32 % 65536).toInt32 :: st) h bc bs Q) : WQ G y d pc lv (vi x :: st) h bc bs Q := by
  intro p l e R s m args below meth c C H locs cells slots ls hr hS hl hc hs
  exact lv_i2c C.1 C.2.1 hd rfl (K p l e R s m args below meth c C H locs cells slots ls hr hS hl hc hs)
theorem wq_i2f {x : Int32} (hd : decode (mC y) pc = .ok (.i2f, 1)) (K : WQ G y d (pc + 1) lv (vf (FP.i2f x) :: st) h bc bs Q) : WQ G y d pc lv (vi x :: st) h bc bs Q := by
  intro p l e R s m args below meth c C H locs cells slots ls hr hS hl hc hs
  exact lv_i2f C.1 C.2.1 hd (K p l e R s m args below meth c C H locs cells slots ls hr hS hl hc hs)
theorem wq_f2d {x : UInt32} (hd : decode (mC y) pc = .ok (.f2d, 1)) (hne : vf_n64 (FP.f2d x)) (K : WQ G y d (pc + 1) lv (vd (FP.f2d x) :: st) h bc bs Q) : WQ G y d pc lv (vf x :: st) h bc bs Q := by
  intro p l e R s m args below meth c C H locs cells slots ls hr hS hl hc hs
  exact lv_f2d C.1 C.2.1 hd hne (K p l e R s m args below meth c C H locs cells slots ls hr hS hl hc hs)
theorem wq_fdiv {x z : UInt32} (hd : decode (mC y) pc = .ok (.fdiv, 1)) (hne : vf_n32 (FP.fdiv x z)) (K : WQ G y d (pc + 1) lv (vf (FP.fdiv x z) :: st) h bc bs Q) : WQ G y d pc lv (vf z :: vf x :: st) h bc bs Q := by
  intro p l e R s m args below meth c C H locs cells slots ls hr hS hl hc hs
  exact lv_fdiv C.1 C.2.1 hd hne (K p l e R s m args below meth c C H locs cells slots ls hr hS hl hc hs)
theorem wq_fcmp {x z : UInt32} {op : CmpOp} (hd : decode (mC y) pc = .ok (.fcmp op, 1)) (K : WQ G y d (pc + 1) lv (vi (Op.cmpValue (FP.fcmp x z) op) :: st) h bc bs Q) : WQ G y d pc lv (vf z :: vf x :: st) h bc bs Q := by
  intro p l e R s m args below meth c C H locs cells slots ls hr hS hl hc hs
  exact lv_fcmp C.1 C.2.1 hd (K p l e R s m args below meth c C H locs cells slots ls hr hS hl hc hs)
theorem wq_dcmp {x z : UInt64} {op : CmpOp} (hd : decode (mC y) pc = .ok (.dcmp op, 1)) (K : WQ G y d (pc + 1) lv (vi (Op.cmpValue (FP.dcmp x z) op) :: st) h bc bs Q) : WQ G y d pc lv (vd z :: vd x :: st) h bc bs Q := by
  intro p l e R s m args below meth c C H locs cells slots ls hr hS hl hc hs
  exact lv_dcmp C.1 C.2.1 hd (K p l e R s m args below meth c C H locs cells slots ls hr hS hl hc hs)
theorem wq_lcmp {x z : Int64} (hd : decode (mC y) pc = .ok (.lcmp, 1)) (K : WQ G y d (pc + 1) lv (vi (lg_cmp x z) :: st) h bc bs Q) : WQ G y d pc lv (vl z :: vl x :: st) h bc bs Q := by
  intro p l e R s m args below meth c C H locs cells slots ls hr hS hl hc hs
  exact W.lcmp C.1 C.2.1 hd (K p l e R s m args below meth c C H locs cells slots ls hr hS hl hc hs)
theorem wq_dup {a : Int32 ⊕ Option Nat ⊕ UInt32} (hd : decode (mC y) pc = .ok (.dup, 1)) (K : WQ G y d (pc + 1) lv (.inl a :: .inl a :: st) h bc bs Q) : WQ G y d pc lv (.inl a :: st) h bc bs Q := by
  intro p l e R s m args below meth c C H locs cells slots ls hr hS hl hc hs
  exact lv_dup C.1 C.2.1 hd (toV_cat (.inl a)) (K p l e R s m args below meth c C H locs cells slots ls hr hS hl hc hs)
theorem wq_dup_x1 {a b : Int32 ⊕ Option Nat ⊕ UInt32} (hd : decode (mC y) pc = .ok (.dup_x1, 1)) (K : WQ G y d (pc + 1) lv (.inl a :: .inl b :: .inl a :: st) h bc bs Q) : WQ G y d pc lv (.inl a :: .inl b :: st) h bc bs Q := by
  intro p l e R s m args below meth c C H locs cells slots ls hr hS hl hc hs
  exact lv_dup_x1 C.1 C.2.1 hd (toV_cat (.inl a)) (toV_cat (.inl b)) (K p l e R s m args below meth c C H locs cells slots ls hr hS hl hc hs)
theorem wq_dup2 {a b : Int32 ⊕ Option Nat ⊕ UInt32} (hd : decode (mC y) pc = .ok (.dup2, 1)) (K : WQ G y d (pc + 1) lv (.inl a :: .inl b :: .inl a :: .inl b :: st) h bc bs Q) : WQ G y d pc lv (.inl a :: .inl b :: st) h bc bs Q := by
  intro p l e R s m args below meth c C H locs cells slots ls hr hS hl hc hs
  exact lv_dup2_11 C.1 C.2.1 hd (toV_cat (.inl a)) (toV_cat (.inl b)) (K p l e R s m args below meth c C H locs cells slots ls hr hS hl hc hs)
theorem wq_pop {a : Int32 ⊕ Option Nat ⊕ UInt32} (hd : decode (mC y) pc = .ok (.pop, 1)) (K : WQ G y d (pc + 1) lv (st) h bc bs Q) : WQ G y d pc lv (.inl a :: st) h bc bs Q := by
  intro p l e R s m args below meth c C H locs cells slots ls hr hS hl hc hs
  exact lv_pop C.1 C.2.1 hd (toV_cat (.inl a)) (K p l e R s m args below meth c C H locs cells slots ls hr hS hl hc hs)
theorem wq_if_eq {x : Int32} {off : Int} (tgt : Nat) (hd : decode (mC y) pc = .ok (.ifCond .eq off, 3)) (ht : (pc : Int) + off = (tgt : Int)) (kt : x = 0 → WQ G y d tgt lv st h bc bs Q) (kf : ¬ x = 0 → WQ G y d (pc + 3) lv st h bc bs Q) : WQ G y d pc lv (vi x :: st) h bc bs Q := by
  intro p l e R s m args below meth c C H locs cells slots ls hr hS hl hc hs
  exact lv_if_eq C.1 C.2.1 hd ht (fun z => kt z p l e R s m args below meth c C H locs cells slots ls hr hS hl hc hs) (fun z => kf z p l e R s m args below meth c C H locs cells slots ls hr hS hl hc hs)
theorem wq_if_ne {x : Int32} {off : Int} (tgt : Nat) (hd : decode (mC y) pc = .ok (.ifCond .ne off, 3)) (ht : (pc : Int) + off = (tgt : Int)) (kt : ¬ x = 0 → WQ G y d tgt lv st h bc bs Q) (kf : x = 0 → WQ G y d (pc + 3) lv st h bc bs Q) : WQ G y d pc lv (vi x :: st) h bc bs Q := by
  intro p l e R s m args below meth c C H locs cells slots ls hr hS hl hc hs
  exact lv_if_ne C.1 C.2.1 hd ht (fun z => kt z p l e R s m args below meth c C H locs cells slots ls hr hS hl hc hs) (fun z => kf z p l e R s m args below meth c C H locs cells slots ls hr hS hl hc hs)
theorem wq_if_lt {x : Int32} {off : Int} (tgt : Nat) (hd : decode (mC y) pc = .ok (.ifCond .lt off, 3)) (ht : (pc : Int) + off = (tgt : Int)) (kt : x < 0 → WQ G y d tgt lv st h bc bs Q) (kf : ¬ x < 0 → WQ G y d (pc + 3) lv st h bc bs Q) : WQ G y d pc lv (vi x :: st) h bc bs Q := by
  intro p l e R s m args below meth c C H locs cells slots ls hr hS hl hc hs
  exact lv_if_lt C.1 C.2.1 hd ht (fun z => kt z p l e R s m args below meth c C H locs cells slots ls hr hS hl hc hs) (fun z => kf z p l e R s m args below meth c C H locs cells slots ls hr hS hl hc hs)
theorem wq_if_ge {x : Int32} {off : Int} (tgt : Nat) (hd : decode (mC y) pc = .ok (.ifCond .ge off, 3)) (ht : (pc : Int) + off = (tgt : Int)) (kt : 0 ≤ x → WQ G y d tgt lv st h bc bs Q) (kf : ¬ 0 ≤ x → WQ G y d (pc + 3) lv st h bc bs Q) : WQ G y d pc lv (vi x :: st) h bc bs Q := by
  intro p l e R s m args below meth c C H locs cells slots ls hr hS hl hc hs
  exact lv_if_ge C.1 C.2.1 hd ht (fun z => kt z p l e R s m args below meth c C H locs cells slots ls hr hS hl hc hs) (fun z => kf z p l e R s m args below meth c C H locs cells slots ls hr hS hl hc hs)
theorem wq_if_gt {x : Int32} {off : Int} (tgt : Nat) (hd : decode (mC y) pc = .ok (.ifCond .gt off, 3)) (ht : (pc : Int) + off = (tgt : Int)) (kt : 0 < x → WQ G y d tgt lv st h bc bs Q) (kf : ¬ 0 < x → WQ G y d (pc + 3) lv st h bc bs Q) : WQ G y d pc lv (vi x :: st) h bc bs Q := by
  intro p l e R s m args below meth c C H locs cells slots ls hr hS hl hc hs
  exact lv_if_gt C.1 C.2.1 hd ht (fun z => kt z p l e R s m args below meth c C H locs cells slots ls hr hS hl hc hs) (fun z => kf z p l e R s m args below meth c C H locs cells slots ls hr hS hl hc hs)
theorem wq_if_le {x : Int32} {off : Int} (tgt : Nat) (hd : decode (mC y) pc = .ok (.ifCond .le off, 3)) (ht : (pc : Int) + off = (tgt : Int)) (kt : x ≤ 0 → WQ G y d tgt lv st h bc bs Q) (kf : ¬ x ≤ 0 → WQ G y d (pc + 3) lv st h bc bs Q) : WQ G y d pc lv (vi x :: st) h bc bs Q := by
  intro p l e R s m args below meth c C H locs cells slots ls hr hS hl hc hs
  exact lv_if_le C.1 C.2.1 hd ht (fun z => kt z p l e R s m args below meth c C H locs cells slots ls hr hS hl hc hs) (fun z => kf z p l e R s m args below meth c C H locs cells slots ls hr hS hl hc hs)
theorem wq_icmp_eq {x z : Int32} {off : Int} (tgt : Nat) (hd : decode (mC y) pc = .ok (.if_icmp .eq off, 3)) (ht : (pc : Int) + off = (tgt : Int)) (kt : x = z → WQ G y d tgt lv st h bc bs Q) (kf : ¬ x = z → WQ G y d (pc + 3) lv st h bc bs Q) : WQ G y d pc lv (vi z :: vi x :: st) h bc bs Q := by
  intro p l e R s m args below meth c C H locs cells slots ls hr hS hl hc hs
  exact lv_icmp_eq C.1 C.2.1 hd ht (fun z => kt z p l e R s m args below meth c C H locs cells slots ls hr hS hl hc hs) (fun z => kf z p l e R s m args below meth c C H locs cells slots ls hr hS hl hc hs)
theorem wq_icmp_ne {x z : Int32} {off : Int} (tgt : Nat) (hd : decode (mC y) pc = .ok (.if_icmp .ne off, 3)) (ht : (pc : Int) + off = (tgt : Int)) (kt : ¬ x = z → WQ G y d tgt lv st h bc bs Q) (kf : x = z → WQ G y d (pc + 3) lv st h bc bs Q) : WQ G y d pc lv (vi z :: vi x :: st) h bc bs Q := by
  intro p l e R s m args below meth c C H locs cells slots ls hr hS hl hc hs
  exact lv_icmp_ne C.1 C.2.1 hd ht (fun z => kt z p l e R s m args below meth c C H locs cells slots ls hr hS hl hc hs) (fun z => kf z p l e R s m args below meth c C H locs cells slots ls hr hS hl hc hs)
theorem wq_icmp_lt {x z : Int32} {off : Int} (tgt : Nat) (hd : decode (mC y) pc = .ok (.if_icmp .lt off, 3)) (ht : (pc : Int) + off = (tgt : Int)) (kt : x < z → WQ G y d tgt lv st h bc bs Q) (kf : ¬ x < z → WQ G y d (pc + 3) lv st h bc bs Q) : WQ G y d pc lv (vi z :: vi x :: st) h bc bs Q := by
  intro p l e R s m args below meth c C H locs cells slots ls hr hS hl hc hs
  exact lv_icmp_lt C.1 C.2.1 hd ht (fun z => kt z p l e R s m args below meth c C H locs cells slots ls hr hS hl hc hs) (fun z => kf z p l e R s m args below meth c C H locs cells slots ls hr hS hl hc hs)
theorem wq_icmp_ge {x z : Int32} {off : Int} (tgt : Nat) (hd : decode (mC y) pc = .ok (.if_icmp .ge off, 3)) (ht : (pc : Int) + off = (tgt : Int)) (kt : z ≤ x → WQ G y d tgt lv st h bc bs Q) (kf : ¬ z ≤ x → WQ G y d (pc + 3) lv st h bc bs Q) : WQ G y d pc lv (vi z :: vi x :: st) h bc bs Q := by
  intro p l e R s m args below meth c C H locs cells slots ls hr hS hl hc hs
  exact lv_icmp_ge C.1 C.2.1 hd ht (fun z => kt z p l e R s m args below meth c C H locs cells slots ls hr hS hl hc hs) (fun z => kf z p l e R s m args below meth c C H locs cells slots ls hr hS hl hc hs)
theorem wq_icmp_gt {x z : Int32} {off : Int} (tgt : Nat) (hd : decode (mC y) pc = .ok (.if_icmp .gt off, 3)) (ht : (pc : Int) + off = (tgt : Int)) (kt : z < x → WQ G y d tgt lv st h bc bs Q) (kf : ¬ z < x → WQ G y d (pc + 3) lv st h bc bs Q) : WQ G y d pc lv (vi z :: vi x :: st) h bc bs Q := by
  intro p l e R s m args below meth c C H locs cells slots ls hr hS hl hc hs
  exact lv_icmp_gt C.1 C.2.1 hd ht (fun z => kt z p l e R s m args below meth c C H locs cells slots ls hr hS hl hc hs) (fun z => kf z p l e R s m args below meth c C H locs cells slots ls hr hS hl hc hs)
theorem wq_icmp_le {x z : Int32} {off : Int} (tgt : Nat) (hd : decode (mC y) pc = .ok (.if_icmp .le off, 3)) (ht : (pc : Int) + off = (tgt : Int)) (kt : x ≤ z → WQ G y d tgt lv st h bc bs Q) (kf : ¬ x ≤ z → WQ G y d (pc + 3) lv st h bc bs Q) : WQ G y d pc lv (vi z :: vi x :: st) h bc bs Q := by
  intro p l e R s m args below meth c C H locs cells slots ls hr hS hl hc hs
  exact lv_icmp_le C.1 C.2.1 hd ht (fun z => kt z p l e R s m args below meth c C H locs cells slots ls hr hS hl hc hs) (fun z => kf z p l e R s m args below meth c C H locs cells slots ls hr hS hl hc hs)
theorem wq_acmp_eq {r q : Option Nat} {off : Int} (tgt : Nat) (hd : decode (mC y) pc = .ok (.if_acmp .eq off, 3)) (ht : (pc : Int) + off = (tgt : Int)) (kt : r = q → WQ G y d tgt lv st h bc bs Q) (kf : ¬ r = q → WQ G y d (pc + 3) lv st h bc bs Q) : WQ G y d pc lv (vr q :: vr r :: st) h bc bs Q := by
  intro p l e R s m args below meth c C H locs cells slots ls hr hS hl hc hs
  exact lv_acmp_eq C.1 C.2.1 hd ht (fun z => kt z p l e R s m args below meth c C H locs cells slots ls hr hS hl hc hs) (fun z => kf z p l e R s m args below meth c C H locs cells slots ls hr hS hl hc hs)
theorem wq_acmp_ne {r q : Option Nat} {off : Int} (tgt : Nat) (hd : decode (mC y) pc = .ok (.if_acmp .ne off, 3)) (ht : (pc : Int) + off = (tgt : Int)) (kt : ¬ r = q → WQ G y d tgt lv st h bc bs Q) (kf : r = q → WQ G y d (pc + 3) lv st h bc bs Q) : WQ G y d pc lv (vr q :: vr r :: st) h bc bs Q := by
  intro p l e R s m args below meth c C H locs cells slots ls hr hS hl hc hs
  exact lv_acmp_ne C.1 C.2.1 hd ht (fun z => kt z p l e R s m args below meth c C H locs cells slots ls hr hS hl hc hs) (fun z => kf z p l e R s m args below meth c C H locs cells slots ls hr hS hl hc hs)
theorem wq_ifnull {r : Option Nat} {off : Int} (tgt : Nat) (hd : decode (mC y) pc = .ok (.ifnull off, 3)) (ht : (pc : Int) + off = (tgt : Int)) (kt : r = none → WQ G y d tgt lv st h bc bs Q) (kf : ∀ a, r = some a → WQ G y d (pc + 3) lv st h bc bs Q) : WQ G y d pc lv (vr r :: st) h bc bs Q := by
  intro p l e R s m args below meth c C H locs cells slots ls hr hS hl hc hs
  cases r with
  | none => exact lv_ifnullN C.1 C.2.1 hd ht (kt rfl p l e R s m args below meth c C H locs cells slots ls hr hS hl hc hs)
  | some a => exact lv_ifnull C.1 C.2.1 hd (kf a rfl p l e R s m args below meth c C H locs cells slots ls hr hS hl hc hs)
theorem wq_ifnonnull {r : Option Nat} {off : Int} (tgt : Nat) (hd : decode (mC y) pc = .ok (.ifnonnull off, 3)) (ht : (pc : Int) + off = (tgt : Int)) (kt : ∀ a, r = some a → WQ G y d tgt lv st h bc bs Q) (kf : r = none → WQ G y d (pc + 3) lv st h bc bs Q) : WQ G y d pc lv (vr r :: st) h bc bs Q := by
  intro p l e R s m args below meth c C H locs cells slots ls hr hS hl hc hs
  cases r with
  | none => exact lv_ifnonnullN C.1 C.2.1 hd (kf rfl p l e R s m args below meth c C H locs cells slots ls hr hS hl hc hs)
  | some a => exact lv_ifnonnull C.1 C.2.1 hd ht (kt a rfl p l e R s m args below meth c C H locs cells slots ls hr hS hl hc hs)
theorem wq_goto {off : Int} (tgt : Nat) (hd : decode (mC y) pc = .ok (.goto off, 3)) (ht : (pc : Int) + off = (tgt : Int)) (K : WQ G y d tgt lv st h bc bs Q) : WQ G y d pc lv st h bc bs Q := by
  intro p l e R s m args below meth c C H locs cells slots ls hr hS hl hc hs
  exact lv_goto C.1 C.2.1 hd ht (K p l e R s m args below meth c C H locs cells slots ls hr hS hl hc hs)
theorem wq_tableOut {dflt lo hi : Int} {offs : Array Int} {len : Nat} {x : Int32} (tgt : Nat) (hd : decode (mC y) pc = .ok (.tableswitch dflt lo hi offs, len)) (hx : x.toInt < lo ∨ hi < x.toInt) (ht : (pc : Int) + dflt = (tgt : Int)) (K : WQ G y d tgt lv st h bc bs Q) : WQ G y d pc lv (vi x :: st) h bc bs Q := by
  intro p l e R s m args below meth c C H locs cells slots ls hr hS hl hc hs
  exact lv_tableOut C.1 C.2.1 hd hx ht (K p l e R s m args below meth c C H locs cells slots ls hr hS hl hc hs)
theorem wq_tableIn {dflt lo hi off : Int} {offs : Array Int} {len : Nat} {x : Int32} (tgt : Nat) (hd : decode (mC y) pc = .ok (.tableswitch dflt lo hi offs, len)) (h1 : ¬ x.toInt < lo) (h2 : ¬ hi < x.toInt) (ho : offs[(x.toInt - lo).toNat]? = some off) (ht : (pc : Int) + off = (tgt : Int)) (K : WQ G y d tgt lv st h bc bs Q) : WQ G y d pc lv (vi x :: st) h bc bs Q := by
  intro p l e R s m args below meth c C H locs cells slots ls hr hS hl hc hs
  exact lv_tableIn C.1 C.2.1 hd h1 h2 ho ht (K p l e R s m args below meth c C H locs cells slots ls hr hS hl hc hs)
theorem wq_ireturn {x : Int32} (hd : decode (mC y) pc = .ok (.ireturn, 1)) (ht : mR y = some .int) (hq : Q (oRet (vi x)) h) : WQ G y d pc lv [vi x] h bc bs Q := by
  intro p l e R s m args below meth c C H locs cells slots ls hr hS hl hc hs
  have hlk := C.2.2.2.2.1
  refine W.widen (k := R.cells) (n := R.slots) (by omega) (by omega) (vx_ret ?_)
  exact W.iret C.1 C.2.1 (C.2.2.2.1.trans ht) (fun t e1 _ => ⟨some (vi x), h, rfl, hq, by rw [e1]; exact hr, hS.F e1⟩) hS.2.2 hd
theorem wq_zreturn {x : Int32} {ty : FieldType} (hd : decode (mC y) pc = .ok (.ireturn, 1)) (ht : mR y = some ty) (hn : narrow ty (.int x) = .int x) (hq : Q (oRet (vi x)) h) : WQ G y d pc lv [vi x] h bc bs Q := by
  intro p l e R s m args below meth c C H locs cells slots ls hr hS hl hc hs
  have hlk := C.2.2.2.2.1
  refine W.widen (k := R.cells) (n := R.slots) (by omega) (by omega) (vx_ret ?_)
  exact W.zret C.1 C.2.1 (C.2.2.2.1.trans ht) hn (fun t e1 _ => ⟨some (vi x), h, rfl, hq, by rw [e1]; exact hr, hS.F e1⟩) hS.2.2 hd
theorem wq_lreturn {x : Int64} (hd : decode (mC y) pc = .ok (.lreturn, 1)) (ht : mR y = some .long) (hq : Q (oRet (vl x)) h) : WQ G y d pc lv [vl x] h bc bs Q := by
  intro p l e R s m args below meth c C H locs cells slots ls hr hS hl hc hs
  have hlk := C.2.2.2.2.1
  refine W.widen (k := R.cells) (n := R.slots) (by omega) (by omega) (vx_ret ?_)
  exact W.lret C.1 C.2.1 (C.2.2.2.1.trans ht) (fun t e1 _ => ⟨some (vl x), h, rfl, hq, by rw [e1]; exact hr, hS.F e1⟩) hS.2.2 hd
theorem wq_freturn {x : UInt32} (hd : decode (mC y) pc = .ok (.freturn, 1)) (ht : mR y = some .float) (hq : Q (oRet (vf x)) h) : WQ G y d pc lv [vf x] h bc bs Q := by
  intro p l e R s m args below meth c C H locs cells slots ls hr hS hl hc hs
  have hlk := C.2.2.2.2.1
  refine W.widen (k := R.cells) (n := R.slots) (by omega) (by omega) (vx_ret ?_)
  exact W.fret C.1 C.2.1 (C.2.2.2.1.trans ht) (fun t e1 _ => ⟨some (vf x), h, rfl, hq, by rw [e1]; exact hr, hS.F e1⟩) hS.2.2 hd
theorem wq_return (hd : decode (mC y) pc = .ok (.return_, 1)) (ht : mR y = none) (hq : Q oVoid h) : WQ G y d pc lv [] h bc bs Q := by
  intro p l e R s m args below meth c C H locs cells slots ls hr hS hl hc hs
  have hlk := C.2.2.2.2.1
  refine W.widen (k := R.cells) (n := R.slots) (by omega) (by omega) (vx_ret ?_)
  exact W.vret C.1 C.2.1 (C.2.2.2.1.trans ht) (fun t e1 _ => ⟨none, h, rfl, hq, by rw [e1]; exact hr, hS.F e1⟩) hS.2.2 hd
theorem wq_areturn {r : Option Nat} {rt : FieldType} (hd : decode (mC y) pc = .ok (.areturn, 1)) (ht : mR y = some rt) (hrt : (∃ n, rt = .object n) ∨ ∃ t, rt = .array t) (hq : Q (oRet (vr r)) h) : WQ G y d pc lv [vr r] h bc bs Q := by
  intro p l e R s m args below meth c C H locs cells slots ls hr hS hl hc hs
  have hlk := C.2.2.2.2.1
  refine W.widen (k := R.cells) (n := R.slots) (by omega) (by omega) (vx_ret ?_)
  exact W.aret C.1 C.2.1 (C.2.2.2.1.trans ht) hrt (by cases r with
    | none => exact Or.inl rfl
    | some a => exact Or.inr ⟨a, rfl⟩) (fun t e1 _ => ⟨some (vr r), h, rfl, hq, by rw [e1]; exact hr, hS.F e1⟩) hS.2.2 hd
end RW
