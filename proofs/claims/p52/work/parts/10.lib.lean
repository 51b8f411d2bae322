/-! Copies, casts, constants of the JDK, Math. -/
theorem arrName {G : GG} {s : State} (hX : Sx G s) {ty : FieldType} (h : ty ∈ arTys) {nm : String} (e : "[" ++ ty.toString = nm) : s.vm.findClass nm = some (gC G ty) := by
  obtain ⟨t0, ht0⟩ := ty_at (G := G) h
  have h2 := (hX.1.2 t0 _ ht0).2
  subst e
  cases ty with
  | object C => exact va_nmO h2 rfl
  | _ => exact h2
theorem cat_sum {st : List AV} : ((st.map toV).map fun v => v.category).sum = (st.map fun v => if av2 v = true then 2 else 1).sum := by
  rw [List.map_map]
  congr 2
  exact funext toV_cat
theorem cp_other {G : GG} {h : Hp} {a : Nat} {f : Nat → Int32} : ∀ b, b ≠ a → encE G (cpI h a f) b = encE G h b := fun b hb => by
  unfold encE encO encA encF
  simp only [h_k, h_n, h_I, h_R, h_L, h_F, cpI, va_up_ne _ _ hb]
theorem cpR_other {G : GG} {h : Hp} {a : Nat} {f : Nat → Option Nat} : ∀ b, b ≠ a → encE G (cpR h a f) b = encE G h b := fun b hb => by
  unfold encE encO encA encF
  simp only [h_k, h_n, h_I, h_R, h_L, h_F, cpR, va_up_ne _ _ hb]
theorem Rep.pbase {G : GG} {h : Hp} {H : Heap} (hr : Rep G h H) {a : Nat} {ty : FieldType} (ha : arTy (h_k h a) = some ty) (hne : h_k h a ≠ 118 ∨ h_n h a ≠ 0) : gB G ≤ a := by
  rcases Nat.lt_or_ge a (gB G) with hb | hb
  · rcases hr.2 a hb (arTy0 ha) with ⟨-, e | ⟨e, e2⟩⟩ | ⟨e, -⟩
    · rw [e] at ha; cases ha
    · rcases hne with g | g
      · exact absurd e g
      · exact absurd e2 g
    · rw [e] at ha; cases ha
  · exact hb
theorem vp_arr {cA : ClassId} {h : Hp} {a : Nat} {ty : FieldType} : ∃ z : Nat → Value, vp_cell cA (encA h a ty) = arrV cA (h_n h a) z := by
  cases ty <;> first | exact ⟨fun j => .int (h_I h a j), rfl⟩ | exact ⟨fun j => .long (h_L h a j), rfl⟩ | exact ⟨fun j => .double (h_F h a j), rfl⟩ | exact ⟨fun j => va_rf (h_R h a j), rfl⟩
/-- whatever stands in the heap is an Object -/
theorem any_obj {G : GG} {h : Hp} {H : Heap} {s : State} {locs : List Loc} (hr : Rep G h H) (hX : Sx G s) (hS : va_S (gA G) s.heap H locs) {a : Nat} (ha : h_k h a ≠ 0) (h200 : h_k h a ≠ 200) : va_Any "java/lang/Object" s H a := by
  have hasg : ∀ {C : String}, Cond.castable C "java/lang/Object" ∈ dwX → ∀ comp c0 : ClassId, s.vm.findClass "java/lang/Object" = some comp → s.vm.findClass C = some c0 → s.vm.assignable c0 comp = true := by
    intro C hC comp c0 f1 f2
    obtain ⟨c, t, g1, g2, g3⟩ := Cond.castable_spec ((hX.2.2.1 _ hC))
    cases g1.symm.trans f2
    cases g2.symm.trans f1
    exact g3
  cases hty : arTy (h_k h a) with
  | some ty =>
    have hm := arTy_in hty
    obtain ⟨t0, ht0⟩ := ty_at (G := G) hm
    obtain ⟨-, k, hk1, comp, hkind⟩ := (hX.1.2 t0 _ ht0).1 (h_n h a) (fun _ => .null)
    obtain ⟨cell, q1, q2, q3, -⟩ := hr.wkA hty
    exact ⟨cell, q1, q2, ⟨k, by rw [q3]; exact hk1⟩, fun comp' f1 => by rw [q3]; exact hasg (caX_ok _ (List.mem_append_right _ (List.mem_map.mpr ⟨ty, hm, rfl⟩))) comp' _ f1 (arrName hX hm rfl)⟩
  | none =>
    by_cases h2 : h_k h a = 200
    · exact absurd h2 h200
    have hci := hr.cid ha hty h2
    exact hr.anyO (ci := h_k h a - 1) (by omega) hci hX.1 (fun comp c0 f1 f2 => hasg (caX_ok _ (List.mem_append_left _ (List.mem_map.mpr ⟨_, List.mem_range.mpr hci, rfl⟩))) comp c0 f1 f2)
section RL0
variable {G : GG} {y : MI} {d pc : Nat} {lv : LV} {st : List AV} {h : Hp} {bc bs : Nat} {Q : Pst}
/-- checkcast, to the class itself, or null -/
theorem wq_castC {idx : Nat} {r : Option Nat} (ci : Nat) (hd : decode (mC y) pc = .ok (.checkcast idx, 3)) (hci : ci < 18) (hlink : Cond.classLink (mN y).cls idx (clR ci) ∈ lw_good) (hk1 : ∀ a, r = some a → h_k h a = ci + 1) (K : WQ G y d (pc + 3) lv (vr r :: st) h bc bs Q) : WQ G y d pc lv (vr r :: st) h bc bs Q := by
  intro p l e R s m args below meth c C H locs cells slots ls hr hS hl hc hs
  have hts := C.2.2.2.2.2.2.2.1
  have hX := C.2.2.2.2.2.2.2.2.1
  cases r with
  | none => exact lv_castN C.1 C.2.1 hd (K p l e R s m args below meth c C H locs cells slots ls hr hS hl hc hs)
  | some a => exact va_castS C.1 C.2.1 C.2.2.2.2.2.2.1 (hts _ hlink) (hX.1.1 ci _ (cl_ok hci)).2 (hr.recv (hk1 a rfl) hci hX.1) hd (K p l e R s m args below meth c C H locs cells slots ls hr hS hl hc hs)
/-- checkcast of a row to its own class, or null -/
theorem wq_castA {idx : Nat} {r : Option Nat} (ty : FieldType) {nm : String} (hd : decode (mC y) pc = .ok (.checkcast idx, 3)) (hnm : "[" ++ ty.toString = nm) (hlink : Cond.classLink (mN y).cls idx nm ∈ lw_good) (hk1 : ∀ a, r = some a → arTy (h_k h a) = some ty) (K : WQ G y d (pc + 3) lv (vr r :: st) h bc bs Q) : WQ G y d pc lv (vr r :: st) h bc bs Q := by
  intro p l e R s m args below meth c C H locs cells slots ls hr hS hl hc hs
  have hts := C.2.2.2.2.2.2.2.1
  have hX := C.2.2.2.2.2.2.2.2.1
  cases r with
  | none => exact lv_castN C.1 C.2.1 hd (K p l e R s m args below meth c C H locs cells slots ls hr hS hl hc hs)
  | some a =>
    obtain ⟨cell, q1, q2, q3, -⟩ := hr.wkA (hk1 a rfl)
    intro T hT X
    obtain ⟨vm', X', sp⟩ := X.checkcastYes C.1 C.2.2.2.2.2.2.1 (hts _ hlink) (by rw [hT]; exact q1) q2 (arrName hX (arTy_in (hk1 a rfl)) hnm) (by rw [q3]; exact va_asg _ _) (g := F0 m pc ls (.ref a :: st.map toV)) rfl rfl (by rw [C.2.1]; exact hd)
    obtain ⟨t, a1, b1⟩ := K p l e R s m args below meth c C H locs cells slots ls hr hS hl hc hs (T.setVm vm') hT X'
    exact ⟨t, sp t a1, b1⟩
theorem wq_max {idx : Nat} {x z : Int32} (hd : decode (mC y) pc = .ok (.invokestatic idx, 3)) (hlink : Cond.methodLink (mN y).cls idx Lib.Math.max.name ∈ lw_good) (hst : Cond.static Lib.Math.max.name ∈ lw_good) (hini : Cond.initialized "java/lang/Math" ∈ lw_good) (hcode : Cond.code Lib.Math.max.name Lib.Math.max.code 2 (some .int) ∈ lw_good) (hd1 : 1 ≤ d) (hcat : (st.map fun v => if av2 v = true then 2 else 1).sum ≤ 8) (K : WQ G y d (pc + 3) lv (vi (if x < z then z else x) :: st) h bc bs Q) : WQ G y d pc lv (vi z :: vi x :: st) h bc bs Q := by
  intro p l e R s m args below meth c C H locs cells slots ls hr hS hl hc hs
  have hts := C.2.2.2.2.2.2.2.1
  have h10 := C.2.2.2.2.2.2.2.2.2.1
  exact va_mmax C.1 C.2.1 (C.2.2.1.trans hl.1.symm) C.2.2.2.2.2.2.1 (hts _ hlink) (hts _ hst) (hts _ hini) (hts _ hcode) (by omega) (by rw [cat_sum]; omega) (by omega) (by omega) hd (K p l e R s m args below meth c C H locs cells slots ls hr hS hl hc hs)
theorem wq_min {idx : Nat} {x z : Int32} (hd : decode (mC y) pc = .ok (.invokestatic idx, 3)) (hlink : Cond.methodLink (mN y).cls idx Lib.Math.min.name ∈ lw_good) (hst : Cond.static Lib.Math.min.name ∈ lw_good) (hini : Cond.initialized "java/lang/Math" ∈ lw_good) (hcode : Cond.code Lib.Math.min.name Lib.Math.min.code 2 (some .int) ∈ lw_good) (hd1 : 1 ≤ d) (hcat : (st.map fun v => if av2 v = true then 2 else 1).sum ≤ 8) (K : WQ G y d (pc + 3) lv (vi (if z < x then z else x) :: st) h bc bs Q) : WQ G y d pc lv (vi z :: vi x :: st) h bc bs Q := by
  intro p l e R s m args below meth c C H locs cells slots ls hr hS hl hc hs
  have hts := C.2.2.2.2.2.2.2.1
  have h10 := C.2.2.2.2.2.2.2.2.2.1
  exact va_mmin C.1 C.2.1 (C.2.2.1.trans hl.1.symm) C.2.2.2.2.2.2.1 (hts _ hlink) (hts _ hst) (hts _ hini) (hts _ hcode) (by omega) (by rw [cat_sum]; omega) (by omega) (by omega) hd (K p l e R s m args below meth c C H locs cells slots ls hr hS hl hc hs)
/-- System.arraycopy, of rows of ints -/
theorem wq_copyI {idx a a0 : Nat} {sp dp n : Int32} (hd : decode (mC y) pc = .ok (.invokestatic idx, 3)) (hlink : Cond.methodLink (mN y).cls idx arraycopyName ∈ lw_good) (hnat : Cond.native arraycopyName ∈ lw_good) (hst : Cond.static arraycopyName ∈ lw_good) (hini : Cond.initialized "java/lang/System" ∈ lw_good) (hd1 : 1 ≤ d) (hcat : (st.map fun v => if av2 v = true then 2 else 1).sum ≤ 8)
    (ho0 : h_k h a0 = 101) (ho : h_k h a = 101) (h1 : ¬ sp < 0) (h2 : ¬ dp < 0) (h3 : ¬ n < 0) (h4 : sp.toNatClampNeg + n.toNatClampNeg ≤ h_n h a0) (h5 : dp.toNatClampNeg + n.toNatClampNeg ≤ h_n h a)
    (K : WQ G y d (pc + 3) lv st (cpI h a (va_cpy (h_I h a0) (h_I h a) sp.toNatClampNeg dp.toNatClampNeg n.toNatClampNeg)) bc bs Q) : WQ G y d pc lv (vi n :: vi dp :: vr (some a) :: vi sp :: vr (some a0) :: st) h bc bs Q := by
  intro p l e R s m args below meth c C H locs cells slots ls hr hS hl hc hs
  have hts := C.2.2.2.2.2.2.2.1
  have hX := C.2.2.2.2.2.2.2.2.1
  have h10 := C.2.2.2.2.2.2.2.2.2.1
  have ha0 : arTy (h_k h a0) = some .int := by rw [ho0]; rfl
  have ha : arTy (h_k h a) = some .int := by rw [ho]; rfl
  obtain ⟨L, q, g1, hP, hD, g4, g5⟩ := hr.pick (a := a) (arTy0 ha) (hr.pbase ha (Or.inl (by omega)))
  obtain ⟨q0, hq0⟩ := List.getElem?_of_mem (show (a0, encE G h a0) ∈ va_pl L (encE G h) from List.mem_map.mpr ⟨a0, (g1 a0).mpr ⟨hr.pbase ha0 (Or.inl (by omega)), arTy0 ha0⟩, rfl⟩)
  have g5' := g5
  rw [encE_arr ha] at g5'
  rw [encE_arr ha0] at hq0
  refine va_copyi C.1 C.2.1 (C.2.2.1.trans hl.1.symm) C.2.2.2.2.2.2.1 (hts _ hlink) (hts _ hnat) (hts _ hst) (hts _ hini) hX.1 hP hD hS q0 q 0 0 hq0 g5' rfl rfl rfl h1 h2 h3 h4 h5 (fun i _ => rfl) (by omega) ?_ hd (fun H1 locs1 hP1 hD1 hS1 => K p l e R s m args below meth c C H1 locs1 cells slots ls (hr.put g1 hP hD g4 g5 rfl rfl ?_ cp_other hP1 hD1 (below_keep hX.2.1 hS hS1)) hS1 hl hc hs)
  · rw [cat_sum]
    have : nativeFrameWords "java/lang/System" "arraycopy" 5 ≤ 40 := by decide
    omega
  · refine (encE_arr (h := cpI h a _) (ty := .int) ha).trans ?_
    unfold encA
    simp only [h_n, h_I, cpI, va_up_self]
/-- System.arraycopy, of rows of Objects -/
theorem wq_copyR {idx a a0 : Nat} {sp dp n : Int32} (hd : decode (mC y) pc = .ok (.invokestatic idx, 3)) (hlink : Cond.methodLink (mN y).cls idx arraycopyName ∈ lw_good) (hnat : Cond.native arraycopyName ∈ lw_good) (hst : Cond.static arraycopyName ∈ lw_good) (hini : Cond.initialized "java/lang/System" ∈ lw_good) (hd1 : 1 ≤ d) (hcat : (st.map fun v => if av2 v = true then 2 else 1).sum ≤ 8)
    (ho0 : h_k h a0 = 118) (ho : h_k h a = 118) (hn0 : h_n h a0 ≠ 0) (hn1 : h_n h a ≠ 0) (h1 : ¬ sp < 0) (h2 : ¬ dp < 0) (h3 : ¬ n < 0) (h4 : sp.toNatClampNeg + n.toNatClampNeg ≤ h_n h a0) (h5 : dp.toNatClampNeg + n.toNatClampNeg ≤ h_n h a) (hel : ∀ i v, i < h_n h a0 → h_R h a0 i = some v → h_k h v ≠ 0 ∧ h_k h v ≠ 200)
    (K : WQ G y d (pc + 3) lv st (cpR h a (va_cpy (h_R h a0) (h_R h a) sp.toNatClampNeg dp.toNatClampNeg n.toNatClampNeg)) bc bs Q) : WQ G y d pc lv (vi n :: vi dp :: vr (some a) :: vi sp :: vr (some a0) :: st) h bc bs Q := by
  intro p l e R s m args below meth c C H locs cells slots ls hr hS hl hc hs
  have hts := C.2.2.2.2.2.2.2.1
  have hX := C.2.2.2.2.2.2.2.2.1
  have h10 := C.2.2.2.2.2.2.2.2.2.1
  have ha0 : arTy (h_k h a0) = some (.object "java/lang/Object") := by rw [ho0]; rfl
  have ha : arTy (h_k h a) = some (.object "java/lang/Object") := by rw [ho]; rfl
  obtain ⟨L, q, g1, hP, hD, g4, g5⟩ := hr.pick (a := a) (arTy0 ha) (hr.pbase ha (Or.inr hn1))
  obtain ⟨q0, hq0⟩ := List.getElem?_of_mem (show (a0, encE G h a0) ∈ va_pl L (encE G h) from List.mem_map.mpr ⟨a0, (g1 a0).mpr ⟨hr.pbase ha0 (Or.inr hn0), arTy0 ha0⟩, rfl⟩)
  have g5' := g5
  rw [encE_arr ha] at g5'
  rw [encE_arr ha0] at hq0
  refine va_copyM C.1 C.2.1 (C.2.2.1.trans hl.1.symm) C.2.2.2.2.2.2.1 (hts _ hlink) (hts _ hnat) (hts _ hst) (hts _ hini) hX.1 hP hD hS q0 q 13 13 hq0 g5' rfl rfl h1 h2 h3 h4 h5 (fun i hi v hv => any_obj hr hX hS (hel _ v (by omega) hv).1 (hel _ v (by omega) hv).2) (by omega) ?_ hd (fun H1 locs1 hP1 hD1 hS1 => K p l e R s m args below meth c C H1 locs1 cells slots ls (hr.put g1 hP hD g4 g5 rfl rfl ?_ cpR_other hP1 hD1 (below_keep hX.2.1 hS hS1)) hS1 hl hc hs)
  · rw [cat_sum]
    have : nativeFrameWords "java/lang/System" "arraycopy" 5 ≤ 40 := by decide
    omega
  · refine (encE_arr (h := cpR h a _) (ty := .object "java/lang/Object") ha).trans ?_
    unfold encA
    simp only [h_n, h_R, cpR, va_up_self]
/-- what is put into a row of Objects may be anything -/
theorem wq_aastoreO {a : Nat} {i : Int32} {r : Option Nat} (hd : decode (mC y) pc = .ok (.aastore, 1)) (ho : h_k h a = 118) (hin : vp_in i (h_n h a)) (hrk : ∀ v, r = some v → h_k h v ≠ 0 ∧ h_k h v ≠ 200) (K : WQ G y d (pc + 1) lv st (wR h a i.toNatClampNeg r) bc bs Q) : WQ G y d pc lv (vr r :: vi i :: vr (some a) :: st) h bc bs Q := by
  intro p l e R s m args below meth c C H locs cells slots ls hr hS hl hc hs
  have ha : arTy (h_k h a) = some (.object "java/lang/Object") := by rw [ho]; rfl
  have hX := C.2.2.2.2.2.2.2.2.1
  obtain ⟨L, q, h1, hP, hD, h4, h5⟩ := hr.pick (a := a) (arTy0 ha) (hr.abase ha hin)
  have h5' := h5
  rw [encE_arr ha] at h5'
  obtain ⟨e1, e2⟩ := encA_R (G := G) (k := i.toNatClampNeg) (x := r) ha
  cases r with
  | none => exact va_astqN C.1 C.2.1 hX.1 hP hD hS q 13 h5' rfl hin hd (fun H1 locs1 hP1 hD1 hS1 => K p l e R s m args below meth c C H1 locs1 cells slots ls (hr.put h1 hP hD h4 h5 rfl rfl e1 e2 hP1 hD1 (below_keep hX.2.1 hS hS1)) hS1 hl hc hs)
  | some v => exact va_astqM C.1 C.2.1 hX.1 hP hD hS q 13 h5' rfl (any_obj hr hX hS (hrk v rfl).1 (hrk v rfl).2) hin hd (fun H1 locs1 hP1 hD1 hS1 => K p l e R s m args below meth c C H1 locs1 cells slots ls (hr.put h1 hP hD h4 h5 rfl rfl e1 e2 hP1 hD1 (below_keep hX.2.1 hS hS1)) hS1 hl hc hs)
/-- int[].clone() -/
theorem wq_clone {idx a : Nat} (hd : decode (mC y) pc = .ok (.invokevirtual idx, 3)) (hlink : Cond.methodLink (mN y).cls idx ⟨"[I", "clone", "()Ljava/lang/Object;"⟩ ∈ lw_good) (hsame : Cond.sameMethod "[I" "java/lang/Object" "clone" "()Ljava/lang/Object;" ∈ lw_good) (hnat : Cond.native ⟨"java/lang/Object", "clone", "()Ljava/lang/Object;"⟩ ∈ lw_good) (hinst : Cond.instanceMethod ⟨"java/lang/Object", "clone", "()Ljava/lang/Object;"⟩ ∈ lw_good) (hsel : Cond.selects "[I" ⟨"[I", "clone", "()Ljava/lang/Object;"⟩ ⟨"java/lang/Object", "clone", "()Ljava/lang/Object;"⟩ ∈ lw_good) (hcl : Cond.castable "[I" "java/lang/Cloneable" ∈ dwX)
    (hd1 : 1 ≤ d) (hcat : (st.map fun v => if av2 v = true then 2 else 1).sum ≤ 8) (ho : h_k h a = 101) (hbc : 1 ≤ bc) (hbs : h_n h a ≤ bs)
    (K : ∀ q, h_k h q = 0 → gB G ≤ q → WQ G y d (pc + 3) lv (vr (some q) :: st) (cpI (mk h q 101 (h_n h a)) q (h_I h a)) (bc - 1) (bs - h_n h a) Q) : WQ G y d pc lv (vr (some a) :: st) h bc bs Q := by
  intro p l e R s m args below meth c C H locs cells slots ls hr hS hl hc hs
  have hts := C.2.2.2.2.2.2.2.1
  have hX := C.2.2.2.2.2.2.2.2.1
  have h10 := C.2.2.2.2.2.2.2.2.2.1
  have ha : arTy (h_k h a) = some .int := by rw [ho]; rfl
  obtain ⟨L, q0, g1, hP, hD, g4, g5⟩ := hr.pick (a := a) (arTy0 ha) (hr.pbase ha (Or.inl (by omega)))
  have g5' := g5
  rw [encE_arr ha] at g5'
  refine va_clone C.1 C.2.1 (C.2.2.1.trans hl.1.symm) C.2.2.2.2.2.2.1 (hts _ hlink) (hts _ hsame) (hts _ hnat) (hts _ hinst) (hts _ hsel) (hX.2.2.1 _ hcl) hX.1 hP hD hS (fun q hq => Nat.le_trans hX.2.1 hq) q0 0 g5' rfl (arrName hX (by decide) (by decide)) ?_ (by omega) (by rw [cat_sum]; omega) (by omega) (by show _ + h_n h a ≤ _; omega) hd (fun q H1 hK1 hP1 hD1 hS1 => ?_)
  · intro i v hv
    have e : vp_cell (gC G .int) (encA h a .int) = arrV (gC G .int) (h_n h a) (fun j => .int (h_I h a j)) := rfl
    rw [e] at hv
    obtain ⟨j, hj⟩ : ∃ x : Int32, v = .int x := by
      simp only [arrV, Array.getElem?_ofFn] at hv
      split at hv
      · exact ⟨_, (Option.some.inj hv).symm⟩
      · cases hv
    subst hj
    rfl
  · have he : encE G (cpI (mk h q 101 (h_n h a)) q (h_I h a)) q = .inl (gC G .int, encA h a .int) := by
      rw [encE_arr (ty := .int) (by simp only [h_k, cpI, mk, va_up_self]; rfl)]
      unfold encA
      simp only [h_n, h_I, cpI, mk, va_up_self]
    obtain ⟨k1, k2, k3⟩ := hr.newP (h' := cpI (mk h q 101 (h_n h a)) q (h_I h a)) g1 hP1 hD1 (by decide) rfl (fun b hb => by simp only [h_n, cpI, mk, va_up_ne _ _ hb]) he (fun b hb => (cp_other b hb).trans (mk_other b hb)) (below_keep hX.2.1 hS hS1)
    exact K q k1 k2 p l e R s m args below meth c C H1 locs (cells + 1) (slots + h_n h a) ls k3 hS1 hl (by omega) (by omega)
theorem wq_getsE {idx : Nat} (hd : decode (mC y) pc = .ok (.getstatic idx, 3)) (hlink : Cond.fieldLink (mN y).cls idx "java/util/ArrayList" "DEFAULTCAPACITY_EMPTY_ELEMENTDATA" "[Ljava/lang/Object;" ∈ lw_good) (K : WQ G y d (pc + 3) lv (vr (some (gE G)) :: st) h bc bs Q) : WQ G y d pc lv st h bc bs Q := by
  intro p l e R s m args below meth c C H locs cells slots ls hr hS hl hc hs
  exact va_gets C.1 C.2.1 C.2.2.2.2.2.2.2.2.1.2.2.2.2.2.2.1 hS C.2.2.2.2.2.2.1 (C.2.2.2.2.2.2.2.1 _ hlink) (fun _ hx => hx) hd (K p l e R s m args below meth c C H locs cells slots ls hr hS hl hc hs)
theorem wq_ldcM {idx : Nat} (hd : decode (mC y) pc = .ok (.ldc idx, 2)) (hlink : Cond.classLink (mN y).cls idx "[Ljava/lang/Object;" ∈ lw_good) (K : WQ G y d (pc + 2) lv (vr (some (gM G)) :: st) h bc bs Q) : WQ G y d pc lv st h bc bs Q := by
  intro p l e R s m args below meth c C H locs cells slots ls hr hS hl hc hs
  exact va_ldcM C.1 C.2.1 C.2.2.2.2.2.2.1 (C.2.2.2.2.2.2.2.1 _ hlink) C.2.2.2.2.2.2.2.2.1.2.2.2.2.2.2.2.1 hd (K p l e R s m args below meth c C H locs cells slots ls hr hS hl hc hs)
theorem wq_getC {idx a : Nat} (hd : decode (mC y) pc = .ok (.invokevirtual idx, 3)) (hlink : Cond.methodLink (mN y).cls idx ⟨"java/lang/Object", "getClass", "()Ljava/lang/Class;"⟩ ∈ lw_good) (hdecl : Cond.declares ⟨"java/lang/Object", "getClass", "()Ljava/lang/Class;"⟩ ∈ dwX) (hsel : Cond.selects "[Ljava/lang/Object;" ⟨"java/lang/Object", "getClass", "()Ljava/lang/Class;"⟩ ⟨"java/lang/Object", "getClass", "()Ljava/lang/Class;"⟩ ∈ lw_good) (hinst : Cond.instanceMethod ⟨"java/lang/Object", "getClass", "()Ljava/lang/Class;"⟩ ∈ lw_good) (hnat : Cond.native ⟨"java/lang/Object", "getClass", "()Ljava/lang/Class;"⟩ ∈ lw_good)
    (hd1 : 1 ≤ d) (hcat : (st.map fun v => if av2 v = true then 2 else 1).sum ≤ 8) (ho : h_k h a = 118) (K : WQ G y d (pc + 3) lv (vr (some (gM G)) :: st) h bc bs Q) : WQ G y d pc lv (vr (some a) :: st) h bc bs Q := by
  intro p l e R s m args below meth c C H locs cells slots ls hr hS hl hc hs
  have hts := C.2.2.2.2.2.2.2.1
  have hX := C.2.2.2.2.2.2.2.2.1
  have h10 := C.2.2.2.2.2.2.2.2.2.1
  have ha : arTy (h_k h a) = some (.object "java/lang/Object") := by rw [ho]; rfl
  obtain ⟨cell, q1, q2, q3, -⟩ := hr.wkA ha
  exact va_getC C.1 C.2.1 (C.2.2.1.trans hl.1.symm) C.2.2.2.2.2.2.1 (hts _ hlink) ((hX.2.2.1 _ hdecl).use rfl) (hts _ hsel) (hts _ hinst) (hts _ hnat) hX.2.2.2.2.2.2.2.1 ⟨cell, q1, q2, (arrName hX (arTy_in ha) (by decide)).trans (congrArg some q3.symm)⟩ (by omega) (by rw [cat_sum]; omega) hd (K p l e R s m args below meth c C H locs cells slots ls hr hS hl hc hs)
end RL0
