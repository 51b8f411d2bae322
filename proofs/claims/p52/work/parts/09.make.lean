/-! The rows that make objects and rows of numbers, copy, cast, and read constants. -/
theorem Rep.newP {G : GG} {h h' : Hp} {H H1 : Heap} {L : List Nat} {q kd : Nat} {e : va_E} (hr : Rep G h H) (hL : ∀ a, a ∈ L ↔ (gB G ≤ a ∧ h_k h a ≠ 0)) (hP1 : va_P (gD G) vwCl (va_pl L (encE G h) ++ [(q, e)]) H1) (hD1 : va_D (gA G) (va_pl L (encE G h) ++ [(q, e)])) (hkd : kd ≠ 0) (hkk : h_k h' = va_up (h_k h) q kd) (hnn : ∀ b, b ≠ q → h_n h' b = h_n h b) (he : encE G h' q = e) (ho : ∀ b, b ≠ q → encE G h' b = encE G h b) (hH : ∀ q : Nat, q < gB G → H1[q]? = H[q]?) : h_k h q = 0 ∧ gB G ≤ q ∧ Rep G h' H1 := by
  have hqL : q ∉ L := va_pl_fresh2 (X := []) (f := encE G h) (L := L) hD1
  have hb : gB G ≤ q := hD1.2 (va_pl L (encE G h)).length (q, e) (by simp)
  have hq0 : h_k h q = 0 := by
    rcases Nat.eq_zero_or_pos (h_k h q) with e | e
    · exact e
    · exact absurd ((hL q).mpr ⟨hb, by omega⟩) hqL
  have e1 : va_pl (L ++ [q]) (encE G h') = va_pl L (encE G h) ++ [(q, e)] := by
    simp only [va_pl, List.map_append, List.map_cons, List.map_nil, he]
    congr 1
    exact List.map_congr_left fun b hb' => by rw [ho b (fun e => hqL (e ▸ hb'))]
  refine ⟨hq0, hb, ⟨L ++ [q], fun a => ?_, by rw [e1]; exact hP1, by rw [e1]; exact hD1⟩, fun a ha ha0 => ?_⟩
  · rw [List.mem_append, List.mem_singleton, hkk]
    by_cases e : a = q
    · subst e
      simp only [va_up_self, or_true, true_iff]
      exact ⟨hb, hkd⟩
    · simp only [e, or_false, va_up_ne _ _ e]
      exact hL a
  · have e : a ≠ q := by omega
    rw [hkk, va_up_ne _ _ e] at ha0 ⊢
    rw [ho a e, hnn a e]
    exact (hr.2 a ha ha0).imp (fun g => ⟨g.1.kept (hH a ha), g.2⟩) id
theorem mk_other {G : GG} {h : Hp} {q kd n : Nat} : ∀ a, a ≠ q → encE G (mk h q kd n) a = encE G h a := fun a ha => by
  unfold encE encO encA encF
  simp only [h_k, h_n, h_I, h_R, h_L, h_F, mk, va_up_ne _ _ ha]
theorem mk_field {h : Hp} {q kd n k : Nat} {ty : FieldType} : encF (mk h q kd n) q ty k = defaultValue ty := by
  unfold encF
  simp only [h_I, h_R, h_L, h_F, mk, va_up_self]
  cases ty <;> rfl
theorem encO_mk {h : Hp} {q kd n ci j : Nat} (hj : j < clN ci) : defaultValue (clTy ci j) = vp_V (encO (mk h q kd n) q ci) j := by
  unfold vp_V
  rw [List.getD_eq_getElem?_getD, encO_get hj, mk_field]
  rfl
section RK
variable {G : GG} {y : MI} {d pc : Nat} {lv : LV} {st : List AV} {h : Hp} {bc bs : Nat} {Q : Pst}
theorem wq_new {idx : Nat} (ci : Nat) (hd : decode (mC y) pc = .ok (.new idx, 3)) (hci : ci < 18) (hlink : Cond.classLink (mN y).cls idx (clR ci) ∈ lw_good) (hins : Cond.instantiable (clR ci) (clN ci) ∈ lw_good) (hini : Cond.initialized (clR ci) ∈ lw_good) (hbc : 1 ≤ bc) (hbs : clN ci ≤ bs)
    (K : ∀ q, h_k h q = 0 → gB G ≤ q → WQ G y d (pc + 3) lv (vr (some q) :: st) (mk h q (ci + 1) 0) (bc - 1) (bs - clN ci) Q) : WQ G y d pc lv st h bc bs Q := by
  intro p l e R s m args below meth c C H locs cells slots ls hr hS hl hc hs
  have hts := C.2.2.2.2.2.2.2.1
  have hX := C.2.2.2.2.2.2.2.2.1
  obtain ⟨L, hL, hP, hD⟩ := hr.1
  refine va_new (Ts := lw_good) (fs := encO (mk h 0 (ci + 1) 0) 0 ci) C.1 C.2.1 hts (cl_in hci) (clTy ci) (cl_ty hci) C.2.2.2.2.2.2.1 (hts _ hlink) (hts _ hins) (hts _ hini) hX.1 hP hD hS (fun q hq => Nat.le_trans hX.2.1 hq) (cl_ok hci) (fun j hj => encO_mk hj) (by omega) (by omega) hd (fun q H1 hP1 hD1 hS1 => ?_)
  have hx : encE G (mk h q (ci + 1) 0) q = .inr (ci, encO (mk h 0 (ci + 1) 0) 0 ci) := by
    rw [encE_obj (ci := ci) (by simp only [h_k, mk, va_up_self]) hci]
    congr 2
    unfold encO
    exact List.map_congr_left fun k _ => by rw [mk_field, mk_field]
  obtain ⟨g1, g2, g3⟩ := hr.newP (h' := mk h q (ci + 1) 0) hL hP1 hD1 (Nat.succ_ne_zero ci) rfl (fun b hb => by simp only [h_n, mk, va_up_ne _ _ hb]) hx mk_other (below_keep hX.2.1 hS hS1)
  exact K q g1 g2 p l e R s m args below meth c C H1 locs (cells + 1) (slots + clN ci) ls g3 hS1 hl (by omega) (by omega)
theorem va_RA_eq {s : State} {c1 c2 : ClassId} {ty : FieldType} (h1 : va_RA s c1 ty) (h2 : va_RA s c2 ty) : c1 = c2 := by
  cases ty with
  | object C =>
    obtain ⟨-, -, -, -, -, e1⟩ := h1
    obtain ⟨-, -, -, -, -, e2⟩ := h2
    exact Option.some.inj (e1.symm.trans e2)
  | _ => exact Option.some.inj (Eq.symm h1 |>.trans h2)
theorem last_ty {s : State} {D : va_G} {tys : List (ClassId × FieldType)} {cA : ClassId} {ty : FieldType} (h : va_K D vwCl (tys ++ [(cA, ty)]) s) : va_RA s cA ty := (h.2 tys.length (cA, ty) (by simp)).2
theorem wq_newarray {atype : ArrayType} {n : Int32} (kd N : Nat) (ty : FieldType) (hd : decode (mC y) pc = .ok (.newarray atype, 2)) (hty : newarray.typeOf atype = ty) (hkd : arTy kd = some ty) (hw : Cond.arrayClass ty ∈ lw_good) (hn : ¬ n < 0) (hN : n.toNatClampNeg = N) (hb : N ≤ 60000) (hcb : componentBytes ty ≤ 8) (hpl : ∀ (h' : Hp) (q : Nat), (∀ j, h_I h' q j = 0 ∧ h_L h' q j = 0 ∧ h_F h' q j = 0) → ∀ cA : ClassId, vp_cell cA (encA h' q ty) = arrV cA (h_n h' q) (fun _ => defaultValue ty)) (hbc : 1 ≤ bc) (hbs : N ≤ bs)
    (K : ∀ q, h_k h q = 0 → gB G ≤ q → WQ G y d (pc + 2) lv (vr (some q) :: st) (mk h q kd N) (bc - 1) (bs - N) Q) : WQ G y d pc lv (vi n :: st) h bc bs Q := by
  intro p l e R s m args below meth c C H locs cells slots ls hr hS hl hc hs
  have hts := C.2.2.2.2.2.2.2.1
  have hX := C.2.2.2.2.2.2.2.2.1
  obtain ⟨L, hL, hP, hD⟩ := hr.1
  have hz : ∀ (q j : Nat), h_I (mk h q kd N) q j = 0 ∧ h_L (mk h q kd N) q j = 0 ∧ h_F (mk h q kd N) q j = 0 := fun q j => by simp only [h_I, h_L, h_F, mk, va_up_self, and_self]
  have hx : ∀ q, encA (mk h q kd N) q ty = encA (mk h 0 kd N) 0 ty := fun q => by
    unfold encA
    simp only [h_n, h_I, h_R, h_L, h_F, mk, va_up_self]
  refine va_newa (atype := atype) (a0 := encA (mk h 0 kd N) 0 ty) C.1 C.2.1 (by rw [hty]; exact hts _ hw) hty hX.1 hP hD hS (fun q hq => Nat.le_trans hX.2.1 hq) (fun cA => (hpl (mk h 0 kd N) 0 (hz 0) cA).trans (by simp only [h_n, mk, va_up_self])) hn hN (Nat.le_trans (Nat.mul_le_mul hb hcb) (by decide)) (by omega) (by omega) hd (fun q cA H1 hK1 hP1 hD1 hS1 => ?_)
  obtain ⟨t0, ht0⟩ := ty_at (G := G) (arTy_in hkd)
  have hcA : cA = gC G ty := va_RA_eq (last_ty hK1) (hX.1.2 t0 _ ht0).2
  subst hcA
  have he : encE G (mk h q kd N) q = .inl (gC G ty, encA (mk h 0 kd N) 0 ty) := by
    rw [encE_arr (ty := ty) (by simp only [h_k, mk, va_up_self]; exact hkd), hx]
  obtain ⟨g1, g2, g3⟩ := hr.newP (h' := mk h q kd N) hL hP1 hD1 (arTy0 hkd) rfl (fun b hb => by simp only [h_n, mk, va_up_ne _ _ hb]) he mk_other (below_keep hX.2.1 hS hS1)
  exact K q g1 g2 p l e R s m args below meth c C H1 locs (cells + 1) (slots + N) ls g3 hS1 hl (by omega) (by omega)
theorem pl_int (h' : Hp) (q : Nat) (hz : ∀ j, h_I h' q j = 0 ∧ h_L h' q j = 0 ∧ h_F h' q j = 0) (cA : ClassId) : vp_cell cA (encA h' q .int) = arrV cA (h_n h' q) (fun _ => defaultValue .int) := by
  show arrV cA _ (fun j => Value.int (h_I h' q j)) = _
  simp only [hz]; rfl
theorem pl_boolean (h' : Hp) (q : Nat) (hz : ∀ j, h_I h' q j = 0 ∧ h_L h' q j = 0 ∧ h_F h' q j = 0) (cA : ClassId) : vp_cell cA (encA h' q .boolean) = arrV cA (h_n h' q) (fun _ => defaultValue .boolean) := by
  show arrV cA _ (fun j => Value.int (h_I h' q j)) = _
  simp only [hz]; rfl
theorem pl_char (h' : Hp) (q : Nat) (hz : ∀ j, h_I h' q j = 0 ∧ h_L h' q j = 0 ∧ h_F h' q j = 0) (cA : ClassId) : vp_cell cA (encA h' q .char) = arrV cA (h_n h' q) (fun _ => defaultValue .char) := by
  show arrV cA _ (fun j => Value.int (h_I h' q j)) = _
  simp only [hz]; rfl
theorem pl_long (h' : Hp) (q : Nat) (hz : ∀ j, h_I h' q j = 0 ∧ h_L h' q j = 0 ∧ h_F h' q j = 0) (cA : ClassId) : vp_cell cA (encA h' q .long) = arrV cA (h_n h' q) (fun _ => defaultValue .long) := by
  show arrV cA _ (fun j => Value.long (h_L h' q j)) = _
  simp only [hz]; rfl
theorem pl_double (h' : Hp) (q : Nat) (hz : ∀ j, h_I h' q j = 0 ∧ h_L h' q j = 0 ∧ h_F h' q j = 0) (cA : ClassId) : vp_cell cA (encA h' q .double) = arrV cA (h_n h' q) (fun _ => defaultValue .double) := by
  show arrV cA _ (fun j => Value.double (h_F h' q j)) = _
  simp only [hz]; rfl
theorem wq_anewarray {idx : Nat} {n : Int32} {E : String} (kd N : Nat) (hd : decode (mC y) pc = .ok (.anewarray idx, 3)) (hkd : arTy kd = some (.object E)) (hE : E ∈ aoX) (hlink : Cond.classLink (mN y).cls idx E ∈ lw_good) (hn : ¬ n < 0) (hN : n.toNatClampNeg = N) (hb : N ≤ 60000) (hbc : 1 ≤ bc) (hbs : N ≤ bs)
    (K : ∀ q, h_k h q = 0 → gB G ≤ q → WQ G y d (pc + 3) lv (vr (some q) :: st) (mk h q kd N) (bc - 1) (bs - N) Q) : WQ G y d pc lv (vi n :: st) h bc bs Q := by
  intro p l e R s m args below meth c C H locs cells slots ls hr hS hl hc hs
  have hts := C.2.2.2.2.2.2.2.1
  have hX := C.2.2.2.2.2.2.2.2.1
  obtain ⟨L, hL, hP, hD⟩ := hr.1
  refine va_newq C.1 C.2.1 C.2.2.2.2.2.2.1 (hts _ hlink) (hX.2.2.2.1 E hE) hX.1 hP hD hS (fun q hq => Nat.le_trans hX.2.1 hq) hn hN (Nat.le_trans (Nat.mul_le_mul_right 4 hb) (by decide)) (by omega) (by omega) hd (fun q cA H1 hK1 hP1 hD1 hS1 => ?_)
  obtain ⟨t0, ht0⟩ := ty_at (G := G) (arTy_in hkd)
  have hcA : cA = gC G (.object E) := va_RA_eq (last_ty hK1) (hX.1.2 t0 _ ht0).2
  subst hcA
  have he : encE G (mk h q kd N) q = .inl (gC G (.object E), N, .inr (.inr (.inr (.inr (fun _ => none))))) := by
    rw [encE_arr (ty := .object E) (by simp only [h_k, mk, va_up_self]; exact hkd)]
    unfold encA
    simp only [h_n, h_R, mk, va_up_self]
  obtain ⟨g1, g2, g3⟩ := hr.newP (h' := mk h q kd N) hL hP1 hD1 (arTy0 hkd) rfl (fun b hb => by simp only [h_n, mk, va_up_ne _ _ hb]) he mk_other (below_keep hX.2.1 hS hS1)
  exact K q g1 g2 p l e R s m args below meth c C H1 locs (cells + 1) (slots + N) ls g3 hS1 hl (by omega) (by omega)
/-- Object.<init> -/
theorem wq_objInit {a idx : Nat} (hd : decode (mC y) pc = .ok (.invokespecial idx, 3)) (hlink : Cond.methodLink (mN y).cls idx objectInit ∈ lw_good) (hin : Cond.instanceMethod objectInit ∈ lw_good) (hcode : Cond.code objectInit ⟨#[0xb1]⟩ 1 none ∈ lw_good) (hd1 : 1 ≤ d) (hcat : (st.map fun v => if av2 v = true then 2 else 1).sum ≤ 8) (K : WQ G y d (pc + 3) lv st h bc bs Q) : WQ G y d pc lv (vr (some a) :: st) h bc bs Q := by
  intro p l e R s m args below meth c C H locs cells slots ls hr hS hl hc hs
  have hts := C.2.2.2.2.2.2.2.1
  have hX := C.2.2.2.2.2.2.2.2.1
  have h10 := C.2.2.2.2.2.2.2.2.2.1
  have hcs : ((st.map toV).map fun v => v.category).sum ≤ 8 := by
    rw [List.map_map]
    have e : ((fun v : Value => v.category) ∘ toV) = fun v => if av2 v = true then 2 else 1 := funext toV_cat
    rw [e]
    exact hcat
  refine W.objInit C.1 C.2.1 C.2.2.2.2.2.2.1 (hts _ hlink) (hts _ hin) (hts _ hcode) rfl (by rw [C.2.2.1]; exact hl.1) rfl hd (by omega) ?_ ?_
  · first | (have := h10.2; simp only [F0, JFrame.monitorRoom]; omega) | (have := h10.2; omega)
  · exact W.eq rfl (K p l e R s m args below meth c C H locs cells slots ls hr hS hl hc hs)
end RK
