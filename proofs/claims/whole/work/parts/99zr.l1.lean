/-! The law's own method: its local 0 is the script, which has no name. -/
def WL (G : GG) (w : Nat) (y : MI) (d pc : Nat) (lv : LV) (st : List AV) (h : Hp) (bc bs : Nat) (Q : Pst) : Prop :=
  ∀ (α : Nat → Nat) (h' : Hp), NP G α h h' → LI h lv → SI h st → ∀ Q' : Pst, Up G α h Q Q' → WQ G y d pc ((0, vr (some w)) :: lm α lv) (sm α st) h' bc bs Q'
theorem WL.of {G : GG} {w : Nat} {y : MI} {d pc : Nat} {lv : LV} {st : List AV} {α : Nat → Nat} {T h : Hp} {bc bs : Nat} {Q Q' : Pst} (K : WL G w y d pc lv st T bc bs Q) (hN : NP G α T h) (hl : LI T lv) (hs : SI T st) (hU : Up G α T Q Q') {lv' : LV} {st' : List AV} (e1 : (0, vr (some w)) :: lm α lv = lv') (e2 : sm α st = st') : WQ G y d pc lv' st' h bc bs Q' := by
  subst e1; subst e2; exact K α h hN hl hs Q' hU
theorem lk0 {r v : AV} {l : LV} {i : Nat} (h0 : i ≠ 0) (h : lk l i = some v) : lk ((0, r) :: l) i = some v := by
  show (if 0 = i then some r else lk l i) = _
  rw [if_neg (fun e => h0 e.symm)]
  exact h
theorem st0 {α : Nat → Nat} {lv lv' : LV} {i w : Nat} {v : AV} (h0 : i ≠ 0) (hv : lset lv i v = lv') : ∀ q ∈ (0, vr (some w)) :: lm α lv', q ∈ lset ((0, vr (some w)) :: lm α lv) i (am α v) := by
  subst hv
  intro q hq
  rcases List.mem_cons.mp hq with e | e
  · subst e
    refine List.mem_cons_of_mem _ (List.mem_filter.mpr ⟨List.mem_cons_self, ?_⟩)
    show (!((0 : Nat) == i) && !((0 + 1 : Nat) == i && av2 (vr (some w)))) = true
    rw [show av2 (vr (some w)) = false from rfl, Bool.and_false, Bool.not_false, Bool.and_true, Bool.not_eq_true', beq_eq_false_iff_ne]
    exact fun z => h0 z.symm
  · rw [← lset_lm] at e
    rcases List.mem_cons.mp e with e | e
    · subst e; exact List.mem_cons_self
    · obtain ⟨a, b⟩ := List.mem_filter.mp e
      exact List.mem_cons_of_mem _ (List.mem_filter.mpr ⟨List.mem_cons_of_mem _ a, b⟩)
section LR
variable {G : GG} {w : Nat} {y : MI} {d pc : Nat} {lv lv' : LV} {st : List AV} {h : Hp} {bc bs : Nat} {Q : Pst}
theorem wl_sub (lv' : LV) (hs : ∀ q ∈ lv', q ∈ lv) (K : WL G w y d pc lv' st h bc bs Q) : WL G w y d pc lv st h bc bs Q := fun α h0 hN hl hs0 Q0 hU =>
  wq_sub ((0, vr (some w)) :: lm α lv') (fun q hq => by
    rcases List.mem_cons.mp hq with e | e
    · rw [e]; exact List.mem_cons_self
    · obtain ⟨z, hz, e⟩ := List.mem_map.mp e
      exact List.mem_cons_of_mem _ (List.mem_map.mpr ⟨z, hs z hz, e⟩)) (K.of hN (fun q hq => hl q (hs q hq)) hs0 hU rfl rfl)
theorem wl_pay {bc' bs' : Nat} (h1 : bc' ≤ bc) (h2 : bs' ≤ bs) (K : WL G w y d pc lv st h bc' bs' Q) : WL G w y d pc lv st h bc bs Q := fun α h0 hN hl hs0 Q0 hU => wq_pay h1 h2 (K.of hN hl hs0 hU rfl rfl)
theorem wl_consts (K : JC h → WL G w y d pc lv st h bc bs Q) : WL G w y d pc lv st h bc bs Q := fun α hp oN ol os Q0 oU => by
  refine (K ⟨oN.2.2.2.2.1, oN.2.2.2.2.2.1, fun i hi => ⟨(oN.2.2.2.2.2.2 i hi).2.1, (oN.2.2.2.2.2.2 i hi).2.2⟩⟩).of oN ol os oU rfl rfl
theorem wl_iconst {n : Int} (v : Int32) (hd : decode (mC y) pc = .ok (.iconst n, 1)) (hv : Int32.ofInt n = v) (K : WL G w y d (pc + 1) lv (vi v :: st) h bc bs Q) : WL G w y d pc lv (st) h bc bs Q := by
  intro α hp oN ol os Q0 oU
  show WQ G y d pc ((0, vr (some w)) :: lm α lv) (sm α st) hp bc bs Q0
  exact wq_iconst v hd hv (K.of oN ol ((os).cons (trivial)) oU rfl rfl)
theorem wl_bipush {n : Int} (v : Int32) (hd : decode (mC y) pc = .ok (.bipush n, 2)) (hv : (Int8.ofInt n).toInt32 = v) (K : WL G w y d (pc + 2) lv (vi v :: st) h bc bs Q) : WL G w y d pc lv (st) h bc bs Q := by
  intro α hp oN ol os Q0 oU
  show WQ G y d pc ((0, vr (some w)) :: lm α lv) (sm α st) hp bc bs Q0
  exact wq_bipush v hd hv (K.of oN ol ((os).cons (trivial)) oU rfl rfl)
theorem wl_lconst {n : Fin 2} (v : Int64) (hd : decode (mC y) pc = .ok (.lconst n, 1)) (hv : Int64.ofNat (n : Nat) = v) (K : WL G w y d (pc + 1) lv (vl v :: st) h bc bs Q) : WL G w y d pc lv (st) h bc bs Q := by
  intro α hp oN ol os Q0 oU
  show WQ G y d pc ((0, vr (some w)) :: lm α lv) (sm α st) hp bc bs Q0
  exact wq_lconst v hd hv (K.of oN ol ((os).cons (trivial)) oU rfl rfl)
theorem wl_iand {x z : Int32} (hd : decode (mC y) pc = .ok (.iand, 1)) (K : WL G w y d (pc + 1) lv (vi (x &&& z) :: st) h bc bs Q) : WL G w y d pc lv (vi z :: vi x :: st) h bc bs Q := by
  intro α hp oN ol os Q0 oU
  show WQ G y d pc ((0, vr (some w)) :: lm α lv) (vi z :: vi x :: sm α st) hp bc bs Q0
  exact wq_iand hd (K.of oN ol ((os.tl.tl).cons (trivial)) oU rfl rfl)
theorem wl_fcmp {x z : UInt32} {op : CmpOp} (hd : decode (mC y) pc = .ok (.fcmp op, 1)) (K : WL G w y d (pc + 1) lv (vi (Op.cmpValue (FP.fcmp x z) op) :: st) h bc bs Q) : WL G w y d pc lv (vf z :: vf x :: st) h bc bs Q := by
  intro α hp oN ol os Q0 oU
  show WQ G y d pc ((0, vr (some w)) :: lm α lv) (vf z :: vf x :: sm α st) hp bc bs Q0
  exact wq_fcmp hd (K.of oN ol ((os.tl.tl).cons (trivial)) oU rfl rfl)
theorem wl_dcmp {x z : UInt64} {op : CmpOp} (hd : decode (mC y) pc = .ok (.dcmp op, 1)) (K : WL G w y d (pc + 1) lv (vi (Op.cmpValue (FP.dcmp x z) op) :: st) h bc bs Q) : WL G w y d pc lv (vd z :: vd x :: st) h bc bs Q := by
  intro α hp oN ol os Q0 oU
  show WQ G y d pc ((0, vr (some w)) :: lm α lv) (vd z :: vd x :: sm α st) hp bc bs Q0
  exact wq_dcmp hd (K.of oN ol ((os.tl.tl).cons (trivial)) oU rfl rfl)
theorem wl_lcmp {x z : Int64} (hd : decode (mC y) pc = .ok (.lcmp, 1)) (K : WL G w y d (pc + 1) lv (vi (lg_cmp x z) :: st) h bc bs Q) : WL G w y d pc lv (vl z :: vl x :: st) h bc bs Q := by
  intro α hp oN ol os Q0 oU
  show WQ G y d pc ((0, vr (some w)) :: lm α lv) (vl z :: vl x :: sm α st) hp bc bs Q0
  exact wq_lcmp hd (K.of oN ol ((os.tl.tl).cons (trivial)) oU rfl rfl)
theorem wl_i2l {x : Int32} (hd : decode (mC y) pc = .ok (.i2l, 1)) (K : WL G w y d (pc + 1) lv (vl x.toInt64 :: st) h bc bs Q) : WL G w y d pc lv (vi x :: st) h bc bs Q := by
  intro α hp oN ol os Q0 oU
  show WQ G y d pc ((0, vr (some w)) :: lm α lv) (vi x :: sm α st) hp bc bs Q0
  exact wq_i2l hd (K.of oN ol ((os.tl).cons (trivial)) oU rfl rfl)
theorem wl_i2c {x : Int32} (hd : decode (mC y) pc = .ok (.i2c, 1)) (K : WL G w y d (pc + 1) lv (vi (x.toUInt32 % 65536).toInt32 :: st) h bc bs Q) : WL G w y d pc lv (vi x :: st) h bc bs Q := by
  intro α hp oN ol os Q0 oU
  show WQ G y d pc ((0, vr (some w)) :: lm α lv) (vi x :: sm α st) hp bc bs Q0
  exact wq_i2c hd (K.of oN ol ((os.tl).cons (trivial)) oU rfl rfl)
theorem wl_f2d {x : UInt32} (hd : decode (mC y) pc = .ok (.f2d, 1)) (hne : vf_n64 (FP.f2d x)) (K : WL G w y d (pc + 1) lv (vd (FP.f2d x) :: st) h bc bs Q) : WL G w y d pc lv (vf x :: st) h bc bs Q := by
  intro α hp oN ol os Q0 oU
  show WQ G y d pc ((0, vr (some w)) :: lm α lv) (vf x :: sm α st) hp bc bs Q0
  exact wq_f2d hd hne (K.of oN ol ((os.tl).cons (trivial)) oU rfl rfl)
theorem wl_icmp_eq {x z : Int32} {off : Int} (tgt : Nat) (hd : decode (mC y) pc = .ok (.if_icmp .eq off, 3)) (ht : (pc : Int) + off = (tgt : Int)) (kt : x = z → WL G w y d tgt lv st h bc bs Q) (kf : ¬ x = z → WL G w y d (pc + 3) lv st h bc bs Q) : WL G w y d pc lv (vi z :: vi x :: st) h bc bs Q := by
  intro α hp oN ol os Q0 oU
  show WQ G y d pc ((0, vr (some w)) :: lm α lv) (vi z :: vi x :: sm α st) hp bc bs Q0
  exact wq_icmp_eq tgt hd ht (fun c => (kt c).of oN ol (os.tl.tl) oU rfl rfl) (fun c => (kf c).of oN ol (os.tl.tl) oU rfl rfl)
theorem wl_if_eq {x : Int32} {off : Int} (tgt : Nat) (hd : decode (mC y) pc = .ok (.ifCond .eq off, 3)) (ht : (pc : Int) + off = (tgt : Int)) (kt : x = 0 → WL G w y d tgt lv st h bc bs Q) (kf : ¬ x = 0 → WL G w y d (pc + 3) lv st h bc bs Q) : WL G w y d pc lv (vi x :: st) h bc bs Q := by
  intro α hp oN ol os Q0 oU
  show WQ G y d pc ((0, vr (some w)) :: lm α lv) (vi x :: sm α st) hp bc bs Q0
  exact wq_if_eq tgt hd ht (fun c => (kt c).of oN ol (os.tl) oU rfl rfl) (fun c => (kf c).of oN ol (os.tl) oU rfl rfl)
theorem wl_if_ne {x : Int32} {off : Int} (tgt : Nat) (hd : decode (mC y) pc = .ok (.ifCond .ne off, 3)) (ht : (pc : Int) + off = (tgt : Int)) (kt : ¬ x = 0 → WL G w y d tgt lv st h bc bs Q) (kf : x = 0 → WL G w y d (pc + 3) lv st h bc bs Q) : WL G w y d pc lv (vi x :: st) h bc bs Q := by
  intro α hp oN ol os Q0 oU
  show WQ G y d pc ((0, vr (some w)) :: lm α lv) (vi x :: sm α st) hp bc bs Q0
  exact wq_if_ne tgt hd ht (fun c => (kt c).of oN ol (os.tl) oU rfl rfl) (fun c => (kf c).of oN ol (os.tl) oU rfl rfl)
theorem wl_goto {off : Int} (tgt : Nat) (hd : decode (mC y) pc = .ok (.goto off, 3)) (ht : (pc : Int) + off = (tgt : Int)) (K : WL G w y d tgt lv st h bc bs Q) : WL G w y d pc lv st h bc bs Q := by
  intro α hp oN ol os Q0 oU
  exact wq_goto tgt hd ht (K.of oN ol (os) oU rfl rfl)
theorem wl_tableOut {dflt lo hi : Int} {offs : Array Int} {len : Nat} {x : Int32} (tgt : Nat) (hd : decode (mC y) pc = .ok (.tableswitch dflt lo hi offs, len)) (hx : x.toInt < lo ∨ hi < x.toInt) (ht : (pc : Int) + dflt = (tgt : Int)) (K : WL G w y d tgt lv st h bc bs Q) : WL G w y d pc lv (vi x :: st) h bc bs Q := by
  intro α hp oN ol os Q0 oU
  show WQ G y d pc ((0, vr (some w)) :: lm α lv) (vi x :: sm α st) hp bc bs Q0
  exact wq_tableOut tgt hd hx ht (K.of oN ol (os.tl) oU rfl rfl)
theorem wl_tableIn {dflt lo hi off : Int} {offs : Array Int} {len : Nat} {x : Int32} (tgt : Nat) (hd : decode (mC y) pc = .ok (.tableswitch dflt lo hi offs, len)) (h1 : ¬ x.toInt < lo) (h2 : ¬ hi < x.toInt) (ho : offs[(x.toInt - lo).toNat]? = some off) (ht : (pc : Int) + off = (tgt : Int)) (K : WL G w y d tgt lv st h bc bs Q) : WL G w y d pc lv (vi x :: st) h bc bs Q := by
  intro α hp oN ol os Q0 oU
  show WQ G y d pc ((0, vr (some w)) :: lm α lv) (vi x :: sm α st) hp bc bs Q0
  exact wq_tableIn tgt hd h1 h2 ho ht (K.of oN ol (os.tl) oU rfl rfl)
theorem wl_zreturn {x : Int32} {ty : FieldType} (hd : decode (mC y) pc = .ok (.ireturn, 1)) (ht : mR y = some ty) (hn : narrow ty (.int x) = .int x) (hq : Q (oRet (vi x)) h) : WL G w y d pc lv [vi x] h bc bs Q := by
  intro α hp oN ol os Q0 oU
  show WQ G y d pc ((0, vr (some w)) :: lm α lv) [vi x] hp bc bs Q0
  exact wq_zreturn hd ht hn (oU α h hp (oRet (vi x)) oN (ext.rf rfl) trivial hq)
theorem wl_laload {a : Nat} {i : Int32} (hd : decode (mC y) pc = .ok (.laload, 1)) (ho : h_k h a = 104) (hin : vp_in i (h_n h a)) (K : WL G w y d (pc + 1) lv (vl (h_L h a i.toNatClampNeg) :: st) h bc bs Q) : WL G w y d pc lv (vi i :: vr (some a) :: st) h bc bs Q := by
  intro α hp oN ol os Q0 oU
  show WQ G y d pc ((0, vr (some w)) :: lm α lv) (vi i :: vr (some (α a)) :: sm α st) hp bc bs Q0
  have ha : h_k h a ≠ 0 := by rw [ho]; decide
  obtain ⟨e1, e2, e3, e4, e5, e6⟩ := oN.1 a ha
  exact wq_laload hd (e1.trans ho) (by rw [e2]; exact hin) (K.of oN ol (os.tl.tl.cons trivial) oU rfl (by rw [e5]; rfl))
theorem wl_daload {a : Nat} {i : Int32} (hd : decode (mC y) pc = .ok (.daload, 1)) (ho : h_k h a = 105) (hin : vp_in i (h_n h a)) (K : WL G w y d (pc + 1) lv (vd (h_F h a i.toNatClampNeg) :: st) h bc bs Q) : WL G w y d pc lv (vi i :: vr (some a) :: st) h bc bs Q := by
  intro α hp oN ol os Q0 oU
  show WQ G y d pc ((0, vr (some w)) :: lm α lv) (vi i :: vr (some (α a)) :: sm α st) hp bc bs Q0
  have ha : h_k h a ≠ 0 := by rw [ho]; decide
  obtain ⟨e1, e2, e3, e4, e5, e6⟩ := oN.1 a ha
  exact wq_daload hd (e1.trans ho) (by rw [e2]; exact hin) (K.of oN ol (os.tl.tl.cons trivial) oU rfl (by rw [e6]; rfl))
theorem wl_dup {a : Int32 ⊕ Option Nat ⊕ UInt32} (hd : decode (mC y) pc = .ok (.dup, 1)) (K : WL G w y d (pc + 1) lv (.inl a :: .inl a :: st) h bc bs Q) : WL G w y d pc lv (.inl a :: st) h bc bs Q := by
  intro α hp oN ol os Q0 oU
  show WQ G y d pc ((0, vr (some w)) :: lm α lv) (.inl (am1 α a) :: sm α st) hp bc bs Q0
  exact wq_dup hd (K.of oN ol (os.cons os.hd) oU rfl rfl)
theorem wl_iload {i : Nat} {x : Int32} (hd : decode (mC y) pc = .ok (.iload i, 2)) (h0 : i ≠ 0) (hv : lk lv i = some (vi x)) (K : WL G w y d (pc + 2) lv (vi x :: st) h bc bs Q) : WL G w y d pc lv (st) h bc bs Q := by
  intro α hp oN ol os Q0 oU
  show WQ G y d pc ((0, vr (some w)) :: lm α lv) (sm α st) hp bc bs Q0
  exact wq_iload hd (lk0 h0 (lk_lm hv)) (K.of oN ol ((os).cons (trivial)) oU rfl rfl)
theorem wl_fload {i : Nat} {x : UInt32} (hd : decode (mC y) pc = .ok (.fload i, 2)) (h0 : i ≠ 0) (hv : lk lv i = some (vf x)) (K : WL G w y d (pc + 2) lv (vf x :: st) h bc bs Q) : WL G w y d pc lv (st) h bc bs Q := by
  intro α hp oN ol os Q0 oU
  show WQ G y d pc ((0, vr (some w)) :: lm α lv) (sm α st) hp bc bs Q0
  exact wq_fload hd (lk0 h0 (lk_lm hv)) (K.of oN ol ((os).cons (trivial)) oU rfl rfl)
theorem wl_aload_n {k : Fin 4} {i : Nat} {r : Option Nat} (hd : decode (mC y) pc = .ok (.aload_n k, 1)) (hi : (k : Nat) = i) (h0 : i ≠ 0) (hv : lk lv i = some (vr r)) (K : WL G w y d (pc + 1) lv (vr r :: st) h bc bs Q) : WL G w y d pc lv (st) h bc bs Q := by
  intro α hp oN ol os Q0 oU
  show WQ G y d pc ((0, vr (some w)) :: lm α lv) (sm α st) hp bc bs Q0
  exact wq_aload_n hd hi (lk0 h0 (lk_lm hv)) (K.of oN ol ((os).cons (ol.get hv)) oU rfl rfl)
theorem wl_aload {i : Nat} {r : Option Nat} (hd : decode (mC y) pc = .ok (.aload i, 2)) (h0 : i ≠ 0) (hv : lk lv i = some (vr r)) (K : WL G w y d (pc + 2) lv (vr r :: st) h bc bs Q) : WL G w y d pc lv (st) h bc bs Q := by
  intro α hp oN ol os Q0 oU
  show WQ G y d pc ((0, vr (some w)) :: lm α lv) (sm α st) hp bc bs Q0
  exact wq_aload hd (lk0 h0 (lk_lm hv)) (K.of oN ol ((os).cons (ol.get hv)) oU rfl rfl)
theorem wl_istore {i : Nat} {x : Int32} (hd : decode (mC y) pc = .ok (.istore i, 2)) (hb : i < mL y) (h0 : i ≠ 0) (hv : lset lv i (vi x) = lv') (K : WL G w y d (pc + 2) lv' st h bc bs Q) : WL G w y d pc lv (vi x :: st) h bc bs Q := by
  intro α hp oN ol os Q0 oU
  show WQ G y d pc ((0, vr (some w)) :: lm α lv) (vi x :: sm α st) hp bc bs Q0
  exact wq_istore hd hb rfl (wq_sub ((0, vr (some w)) :: lm α lv') (st0 (v := vi x) h0 hv) (K.of oN (hv ▸ ol.set (os.hd)) os.tl oU rfl rfl))
theorem wl_fstore {i : Nat} {x : UInt32} (hd : decode (mC y) pc = .ok (.fstore i, 2)) (hb : i < mL y) (h0 : i ≠ 0) (hv : lset lv i (vf x) = lv') (K : WL G w y d (pc + 2) lv' st h bc bs Q) : WL G w y d pc lv (vf x :: st) h bc bs Q := by
  intro α hp oN ol os Q0 oU
  show WQ G y d pc ((0, vr (some w)) :: lm α lv) (vf x :: sm α st) hp bc bs Q0
  exact wq_fstore hd hb rfl (wq_sub ((0, vr (some w)) :: lm α lv') (st0 (v := vf x) h0 hv) (K.of oN (hv ▸ ol.set (os.hd)) os.tl oU rfl rfl))
theorem wl_astore_n {k : Fin 4} {i : Nat} {r : Option Nat} (hd : decode (mC y) pc = .ok (.astore_n k, 1)) (hi : (k : Nat) = i) (hb : i < mL y) (h0 : i ≠ 0) (hv : lset lv i (vr r) = lv') (K : WL G w y d (pc + 1) lv' st h bc bs Q) : WL G w y d pc lv (vr r :: st) h bc bs Q := by
  intro α hp oN ol os Q0 oU
  show WQ G y d pc ((0, vr (some w)) :: lm α lv) (vr (r.map α) :: sm α st) hp bc bs Q0
  exact wq_astore_n hd hi hb rfl (wq_sub ((0, vr (some w)) :: lm α lv') (st0 (v := vr r) h0 hv) (K.of oN (hv ▸ ol.set (os.hd)) os.tl oU rfl rfl))
theorem wl_astore {i : Nat} {r : Option Nat} (hd : decode (mC y) pc = .ok (.astore i, 2)) (hb : i < mL y) (h0 : i ≠ 0) (hv : lset lv i (vr r) = lv') (K : WL G w y d (pc + 2) lv' st h bc bs Q) : WL G w y d pc lv (vr r :: st) h bc bs Q := by
  intro α hp oN ol os Q0 oU
  show WQ G y d pc ((0, vr (some w)) :: lm α lv) (vr (r.map α) :: sm α st) hp bc bs Q0
  exact wq_astore hd hb rfl (wq_sub ((0, vr (some w)) :: lm α lv') (st0 (v := vr r) h0 hv) (K.of oN (hv ▸ ol.set (os.hd)) os.tl oU rfl rfl))
theorem wl_iinc {i : Nat} {n : Int} {x : Int32} (v : Int32) (hd : decode (mC y) pc = .ok (.iinc i n, 3)) (h0 : i ≠ 0) (hx : lk lv i = some (vi x)) (hv : x + Int32.ofInt n = v) (hb : i < mL y) (hw : lset lv i (vi v) = lv') (K : WL G w y d (pc + 3) lv' st h bc bs Q) : WL G w y d pc lv st h bc bs Q := by
  intro α h0' hN hl hs Q0 hU
  exact wq_iinc v hd (lk0 h0 (lk_lm hx)) hv hb rfl (wq_sub ((0, vr (some w)) :: lm α lv') (st0 (v := vi v) h0 hw) (K.of hN (hw ▸ hl.set (v := vi v) trivial) hs hU rfl rfl))
/-- the length of the script -/
theorem wq_slen (hd : decode (mC y) pc = .ok (.arraylength, 1)) (K : WQ G y d (pc + 1) lv (vi (nI G.2.2.2.2.2.1) :: st) h bc bs Q) : WQ G y d pc lv (vr (some G.2.2.2.2.1) :: st) h bc bs Q := by
  intro p l e R s m args below meth c C H locs cells slots ls hr hS hl hc hs
  have hX := C.2.2.2.2.2.2.2.2.1
  obtain ⟨x1, x2, x3, x4, x5, x6, x7, x8, x9, x10, x11, x12, x13, x14, x15⟩ := hX.2.2
  exact va_slen C.1 C.2.1 x14 (Nat.lt_of_lt_of_le x15 hX.2.1) (Nat.not_le.mpr x15) hS hd (K p l e R s m args below meth c C H locs cells slots ls hr hS hl hc hs)
/-- a cell of the script -/
theorem wq_scell {i : Int32} (hd : decode (mC y) pc = .ok (.iaload, 1)) (hin : vp_in i G.2.2.2.2.2.1) (K : WQ G y d (pc + 1) lv (vi (G.2.2.2.2.2.2 i.toNatClampNeg) :: st) h bc bs Q) : WQ G y d pc lv (vi i :: vr (some G.2.2.2.2.1) :: st) h bc bs Q := by
  intro p l e R s m args below meth c C H locs cells slots ls hr hS hl hc hs
  have hX := C.2.2.2.2.2.2.2.2.1
  obtain ⟨x1, x2, x3, x4, x5, x6, x7, x8, x9, x10, x11, x12, x13, x14, x15⟩ := hX.2.2
  exact va_sld C.1 C.2.1 x14 (Nat.lt_of_lt_of_le x15 hX.2.1) (Nat.not_le.mpr x15) hS hin hd (K p l e R s m args below meth c C H locs cells slots ls hr hS hl hc hs)
theorem lk_0 {r : AV} {l : LV} : lk ((0, r) :: l) 0 = some r := if_pos rfl
/-- script[i + k] -/
theorem wl_cell {i k : Nat} {n : Int} (hw : w = G.2.2.2.2.1) (h0 : decode (mC y) pc = .ok (.aload_n 0, 1)) (h1 : decode (mC y) (pc + 1) = .ok (.iload 5, 2)) (h3 : decode (mC y) (pc + 3) = .ok (.iconst n, 1)) (h4 : decode (mC y) (pc + 4) = .ok (.iadd, 1)) (h5 : decode (mC y) (pc + 5) = .ok (.iaload, 1))
    (hv : lk lv 5 = some (vi (nI i))) (hn : Int32.ofInt n = nI k) (hk : i + k < G.2.2.2.2.2.1) (hL : G.2.2.2.2.2.1 < 2 ^ 31) (K : WL G w y d (pc + 6) lv (vi (G.2.2.2.2.2.2 (i + k)) :: st) h bc bs Q) : WL G w y d pc lv st h bc bs Q := by
  intro α hp oN ol os Q0 oU
  subst hw
  refine wq_aload_n h0 rfl lk_0 (wq_iload h1 (lk0 (by decide) (lk_lm hv)) (wq_iconst (nI k) h3 hn (wq_iadd h4 (wq_scell h5 ?_ ?_))))
  · rw [nI_add]; exact vp_in_nI hk hL
  · rw [nI_add, nI_clamp (by omega)]
    exact K.of oN ol (os.cons trivial) oU rfl rfl
/-- script[i] -/
theorem wl_cell0 {i : Nat} (hw : w = G.2.2.2.2.1) (h0 : decode (mC y) pc = .ok (.aload_n 0, 1)) (h1 : decode (mC y) (pc + 1) = .ok (.iload 5, 2)) (h3 : decode (mC y) (pc + 3) = .ok (.iaload, 1))
    (hv : lk lv 5 = some (vi (nI i))) (hk : i < G.2.2.2.2.2.1) (hL : G.2.2.2.2.2.1 < 2 ^ 31) (K : WL G w y d (pc + 4) lv (vi (G.2.2.2.2.2.2 i) :: st) h bc bs Q) : WL G w y d pc lv st h bc bs Q := by
  intro α hp oN ol os Q0 oU
  subst hw
  refine wq_aload_n h0 rfl lk_0 (wq_iload h1 (lk0 (by decide) (lk_lm hv)) (wq_scell h3 ?_ ?_))
  · exact vp_in_nI hk hL
  · rw [nI_clamp (by omega)]
    exact K.of oN ol (os.cons trivial) oU rfl rfl
end LR
section LC
variable {G : GG} {w : Nat} {y y' : MI} {d d' pc idx n : Nat} {lv : LV} {st rest : List AV} {h : Hp} {bc bs mc ms : Nat} {Q : Pst}
/-- what comes behind a call that doesn't throw -/
def contL (G : GG) (w : Nat) (y : MI) (d pc : Nat) (lv : LV) (rest : List AV) (bc bs : Nat) (Q : Pst) : Pst := fun o h' => match o with
  | .inl v => WL G w y d pc lv (v.toList ++ rest) h' bc bs Q
  | .inr _ => False
theorem contL_ret {v : AV} {h' : Hp} (K : WL G w y d pc lv (v :: rest) h' bc bs Q) : contL G w y d pc lv rest bc bs Q (oRet v) h' := K
theorem contL_void {h' : Hp} (K : WL G w y d pc lv rest h' bc bs Q) : contL G w y d pc lv rest bc bs Q oVoid h' := K
theorem contL_up {α : Nat → Nat} {pcx : Nat} {Q0 : Pst} (hl : LI h lv) (hr : SI h rest) (hU : Up G α h Q Q0) : Up G α h (contL G w y d pc lv rest bc bs Q) (contq G y d pc ((0, vr (some w)) :: lm α lv) (sm α rest) bc bs Q0 pcx) := by
  intro α' T' h' o n1 n2 i1 hc
  cases o with
  | inl v =>
    have hc : WL G w y d pc lv (v.toList ++ rest) T' bc bs Q := hc
    show WQ G y d pc ((0, vr (some w)) :: lm α lv) ((v.map (am α')).toList ++ sm α rest) h' bc bs Q0
    refine hc.of n1 (hl.ext n2) ?_ (hU.st n2) (by rw [lm_ext hl n2]) ?_
    · cases v with
      | none => exact hr.ext n2
      | some x => exact (hr.ext n2).cons i1
    · cases v with
      | none => exact sm_ext hr n2
      | some x =>
        show am α' x :: sm α' rest = am α' x :: sm α rest
        rw [sm_ext hr n2]
  | inr E => exact False.elim hc
theorem wl_cV {b : Nat} (ci : Nat) (as : List AV) (rest : List AV) (mc ms : Nat) (hd : decode (mC y) pc = .ok (.invokevirtual idx, 3)) (hl : Cond.methodLink (mN y).cls idx (mN y') ∈ lw_good) (hin : Cond.instanceMethod (mN y') ∈ lw_good) (hsel : Cond.selects (clR ci) (mN y') (mN y') ∈ lw_good) (hci : ci < 18) (hb : h_k h b = ci + 1) (hy : MOk y' n) (hn : as.length = n) (hw : awords (vr (some b) :: as) ≤ mL y') (e : st = as.reverse ++ vr (some b) :: rest) (hcat : awords rest ≤ 8) (hd1 : d' < d) (h1 : mc ≤ bc) (h2 : ms ≤ bs)
    (K' : WP G y' d' 0 (aargs 0 (vr (some b) :: as)) [] h mc ms (contL G w y d (pc + 3) lv rest (bc - mc) (bs - ms) Q)) : WL G w y d pc lv st h bc bs Q := by
  intro α hp oN ol os Q0 oU
  subst e
  have ha := SI.app os
  have ee : sm α (as.reverse ++ vr (some b) :: rest) = (as.map (am α)).reverse ++ vr (some (α b)) :: sm α rest := by
    rw [sm, List.map_append, List.map_reverse]; rfl
  exact wq_cV ci (as.map (am α)) (sm α rest) mc ms hd hl hin hsel hci ((oN.1 b (by rw [hb]; exact Nat.succ_ne_zero _)).1.trans hb) hy (by rw [List.length_map]; exact hn) (by rw [show awords (vr (some (α b)) :: as.map (am α)) = awords (vr (some b) :: as) from awords_am (vr (some b) :: as)]; exact hw) ee (by rw [awords_am]; exact hcat) hd1 h1 h2 (K'.callee oN (ha.1.rev.cons ha.2.hd) (contL_up ol ha.2.tl oU))
theorem wl_cSH (as : List AV) (rest : List AV) (mc ms : Nat) (hd : decode (mC y) pc = .ok (.invokestatic idx, 3)) (hl : Cond.methodLink (mN y).cls idx (mN y') ∈ lw_good) (hst : Cond.static (mN y') ∈ lw_good) (hy : MOkH y' n) (hn : as.length = n) (hw : awords as ≤ mL y') (e : st = as.reverse ++ rest) (hcat : awords rest ≤ 8) (hd1 : d' < d) (h1 : mc ≤ bc) (h2 : ms ≤ bs)
    (K' : WP G y' d' 0 (aargs 0 as) [] h mc ms (contL G w y d (pc + 3) lv rest (bc - mc) (bs - ms) Q)) : WL G w y d pc lv st h bc bs Q := by
  intro α hp oN ol os Q0 oU
  subst e
  have ha := SI.app os
  have ee : sm α (as.reverse ++ rest) = (as.map (am α)).reverse ++ sm α rest := by
    rw [sm, List.map_append, List.map_reverse]
  exact wq_cSH (as.map (am α)) (sm α rest) mc ms hd hl hst hy (by rw [List.length_map]; exact hn) (by rw [show awords (as.map (am α)) = awords (as) from awords_am (as)]; exact hw) ee (by rw [awords_am]; exact hcat) hd1 h1 h2 (K'.callee oN ha.1.rev (contL_up ol ha.2 oU))
end LC
