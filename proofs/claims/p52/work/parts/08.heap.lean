/-! The rows that read and write the heap. -/
theorem lw_mem (i : Nat) {w : Cond} (h : lw_tbl[i]? = some w) (hg : goodWord w = true) : w ∈ lw_good := List.mem_filter.mpr ⟨List.mem_of_getElem? h, hg⟩
theorem Rep.pick {G : GG} {h : Hp} {H : Heap} (hr : Rep G h H) {a : Nat} (ha : h_k h a ≠ 0) (hb : gB G ≤ a) : ∃ (L : List Nat) (k : Nat), (∀ a, a ∈ L ↔ (gB G ≤ a ∧ h_k h a ≠ 0)) ∧ va_P (gD G) vwCl (va_pl L (encE G h)) H ∧ va_D (gA G) (va_pl L (encE G h)) ∧ a ∈ L ∧ (va_pl L (encE G h))[k]? = some (a, encE G h a) := by
  obtain ⟨L, hL, hP, hD⟩ := hr.1
  have hm : a ∈ L := (hL a).mpr ⟨hb, ha⟩
  obtain ⟨k, hk1⟩ := List.getElem?_of_mem (show (a, encE G h a) ∈ va_pl L (encE G h) from List.mem_map.mpr ⟨a, hm, rfl⟩)
  exact ⟨L, k, hL, hP, hD, hm, hk1⟩
theorem Rep.obase {G : GG} {h : Hp} {H : Heap} (hr : Rep G h H) {a ci : Nat} (ha : h_k h a = ci + 1) (hci : ci < 18) (h0 : ci ≠ 0) : gB G ≤ a := by
  rcases Nat.lt_or_ge a (gB G) with hb | hb
  · rcases hr.2 a hb (by omega) with ⟨-, e | ⟨e, -⟩⟩ | ⟨e, -⟩ <;> omega
  · exact hb
theorem Rep.abase {G : GG} {h : Hp} {H : Heap} (hr : Rep G h H) {a : Nat} {ty : FieldType} {i : Int32} (ha : arTy (h_k h a) = some ty) (hi : vp_in i (h_n h a)) : gB G ≤ a := by
  rcases Nat.lt_or_ge a (gB G) with hb | hb
  · rcases hr.2 a hb (arTy0 ha) with ⟨-, e | ⟨-, e⟩⟩ | ⟨e, -⟩
    · rw [e] at ha; cases ha
    · exact absurd (Or.inr (by rw [e]; exact Nat.zero_le _)) hi
    · rw [e] at ha; cases ha
  · exact hb
theorem below_keep {G : GG} {s : State} {H H1 : Heap} {locs locs1 : List Loc} (hB : gB G ≤ s.heap.size) (hS : va_S (gA G) s.heap H locs) (hS1 : va_S (gA G) s.heap H1 locs1) : ∀ q : Nat, q < gB G → H1[q]? = H[q]? := fun q hq => by
  rw [hS1.2.1 q (by omega) (Nat.not_le.mpr hq), hS.2.1 q (by omega) (Nat.not_le.mpr hq)]
theorem ty_at {G : GG} {ty : FieldType} (h : ty ∈ arTys) : ∃ t0 : Nat, (gT G)[t0]? = some (gC G ty, ty) := List.getElem?_of_mem (List.mem_map.mpr ⟨ty, h, rfl⟩)
theorem Rep.arr {G : GG} {h : Hp} {H : Heap} (hr : Rep G h H) {a : Nat} {ty : FieldType} (ha : arTy (h_k h a) = some ty) (hb : gB G ≤ a) : va_P (gD G) vwCl [(a, .inl (gC G ty, encA h a ty))] H := by
  have := hr.one (arTy0 ha) hb
  rwa [encE_arr ha] at this
theorem cell_facts (cA : ClassId) (x : vp_A) : (vp_cell cA x).vm = .none ∧ (vp_cell cA x).cls = cA ∧ (vp_cell cA x).slots.size = x.1 := by
  obtain ⟨n, f | f | f | f | f⟩ := x
  · exact ⟨rfl, rfl, by rw [vp_cell_i, arrV_size]⟩
  · exact ⟨rfl, rfl, by rw [vp_cell_l, arrV_size]⟩
  · exact ⟨rfl, rfl, by rw [vp_cell_f, arrV_size]⟩
  · exact ⟨rfl, rfl, by rw [vp_cell_d, arrV_size]⟩
  · exact ⟨rfl, rfl, by rw [vp_cell_q, arrV_size]⟩
theorem Rep.cid {G : GG} {h : Hp} {H : Heap} (hr : Rep G h H) {a : Nat} (ha : h_k h a ≠ 0) (hty : arTy (h_k h a) = none) (h2 : h_k h a ≠ 200) : h_k h a - 1 < 18 := by
  rcases Nat.lt_or_ge a (gB G) with hb | hb
  · rcases hr.2 a hb ha with ⟨-, e | ⟨e, -⟩⟩ | ⟨e, -⟩
    · omega
    · rw [e] at hty
      cases hty
    · exact absurd e h2
  · have h0 := hr.at ha hb
    unfold encE at h0
    rw [hty] at h0
    obtain ⟨r, hc, -⟩ := id h0
    exact (List.getElem?_eq_some_iff.mp hc).1
theorem Rep.wk {G : GG} {h : Hp} {H : Heap} (hr : Rep G h H) {a : Nat} (ha : h_k h a ≠ 0) (h2 : h_k h a ≠ 200) : WkC G (a, encE G h a) H := by
  rcases Nat.lt_or_ge a (gB G) with hb | hb
  · rcases hr.2 a hb ha with e | ⟨e, -⟩
    · exact e.1
    · exact absurd e h2
  · have h0 := hr.at ha hb
    cases hty : arTy (h_k h a) with
    | some ty =>
      have e : encE G h a = .inl (gC G ty, encA h a ty) := encE_arr hty
      rw [e] at h0 ⊢
      obtain ⟨e1, e2, e3⟩ := cell_facts (gC G ty) (encA h a ty)
      exact ⟨_, h0, by rw [e1]; rfl, by rw [e1]; exact fun q => (by cases q), e2, congrArg Nat.toInt32 e3⟩
    | none =>
      have hci := hr.cid ha hty h2
      have e : encE G h a = .inr (h_k h a - 1, encO h a (h_k h a - 1)) := by
        unfold encE
        rw [hty]
      rw [e] at h0 ⊢
      obtain ⟨r, hc, cell, q1, q2, q3, q4⟩ := id h0
      have hr' : r = _ := Option.some.inj (hc.symm.trans (cl_ok hci))
      subst hr'
      refine ⟨cell, q1, by rw [q3]; rfl, by rw [q3]; exact fun q => (by cases q), q2, fun k v hv => ?_⟩
      have hk2 : k < clN (h_k h a - 1) := by
        have := (List.getElem?_eq_some_iff.mp hv).1
        rwa [encO_len] at this
      rw [q4 k hk2]
      exact congrArg some (by
        unfold vp_V
        rw [List.getD_eq_getElem?_getD, hv]
        rfl)
theorem Rep.wkO {G : GG} {h : Hp} {H : Heap} (hr : Rep G h H) {a ci : Nat} (ha : h_k h a = ci + 1) (hci : ci < 18) : WkC G (a, .inr (ci, encO h a ci)) H := by
  have := hr.wk (a := a) (by omega) (by omega)
  rwa [encE_obj ha hci] at this
theorem Rep.wkA {G : GG} {h : Hp} {H : Heap} (hr : Rep G h H) {a : Nat} {ty : FieldType} (ha : arTy (h_k h a) = some ty) : ∃ cell : Cell, H[a]? = some cell ∧ cell.vm.isStatics = false ∧ cell.cls = gC G ty ∧ cell.slots.size.toInt32 = nI (h_n h a) := by
  have h0 := hr.wk (arTy0 ha) (fun z => by rw [z] at ha; cases ha)
  rw [encE_arr ha] at h0
  obtain ⟨cell, q1, q2, -, q3, q4⟩ := h0
  exact ⟨cell, q1, q2, q3, q4⟩
theorem Rep.recv {G : GG} {h : Hp} {H : Heap} {s : State} (hr : Rep G h H) {a ci : Nat} (ha : h_k h a = ci + 1) (hci : ci < 18) (hK : va_K (gD G) vwCl (gT G) s) : ∃ cell : Cell, H[a]? = some cell ∧ cell.vm.isStatics = false ∧ s.vm.findClass (clR ci) = some cell.cls := by
  obtain ⟨cell, q1, q2, -, q4, -⟩ := hr.wkO ha hci
  exact ⟨cell, q1, q2, by rw [q4]; exact (hK.1 ci _ (cl_ok hci)).2.1⟩
theorem Rep.anyO {G : GG} {h : Hp} {H : Heap} {s : State} {E : String} (hr : Rep G h H) {a ci : Nat} (ha : h_k h a = ci + 1) (hci : ci < 18) (hK : va_K (gD G) vwCl (gT G) s) (hasg : ∀ comp c0 : ClassId, s.vm.findClass E = some comp → s.vm.findClass (clR ci) = some c0 → s.vm.assignable c0 comp = true) : va_Any E s H a := by
  obtain ⟨cell, h1, h2, h3⟩ := hr.recv ha hci hK
  obtain ⟨kC, hkC, -⟩ := Vm.findClass_spec h3
  exact ⟨cell, h1, h2, ⟨kC, hkC⟩, fun comp g => hasg comp _ g h3⟩
theorem arr_wk {s : State} {cA : ClassId} {ty : FieldType} {cell : Cell} (hA : ArrOfT s cA ty) (hs : cell.vm.isStatics = false) (hc : cell.cls = cA) : s.isArrayOf cell ty := by
  obtain ⟨-, k, hk1, comp, hkind⟩ := hA 0 (fun _ => .null)
  exact ⟨fun k2 q => (by rw [q] at hs; cases hs), k, by rw [hc]; exact hk1, comp, hkind⟩
theorem Rep.fld {G : GG} {h : Hp} {H : Heap} {s : State} {args : Array Value} (hr : Rep G h H) {a ci k : Nat} {x : AV} (ha : h_k h a = ci + 1) (hci : ci < 18) (hk1 : k < clN ci) (hK : va_K (gD G) vwCl (gT G) s) (hts : ∀ w ∈ lw_good, w.before args s = true) (hv : encF h a (clTy ci k) k = toV x) : ∃ (cell : Cell) (cf : ClassId) (kl : Class) (i : Nat) (f : Field), H[a]? = some cell ∧ cell.vm ≠ .unknown ∧ s.fieldFound? (clT ci k).1 (clT ci k).2.1 (clT ci k).2.2.1 = some (cf, kl, i, f) ∧ f.isStatic = false ∧ cell.slots[f.slot]? = some (toV x) := by
  obtain ⟨cell, q1, q2, q3, q4, q5⟩ := hr.wkO ha hci
  obtain ⟨hS, hfc, kC, hkC, hkind⟩ := hK.1 ci _ (cl_ok hci)
  obtain ⟨cf, kf, fi, f, hi, hsl⟩ := hS k hk1
  exact ⟨cell, cf, kf, fi, f, q1, q3, hi, (u_facts hfc hkC (u_lays hts (cl_in hci) hk1) hi).1, by rw [hsl]; exact q5 k _ (by rw [encO_get hk1, hv])⟩
section RH
variable {G : GG} {y : MI} {d pc : Nat} {lv : LV} {st : List AV} {h : Hp} {bc bs : Nat} {Q : Pst}
theorem wq_get {a idx : Nat} (ci k : Nat) (v : AV) (hd : decode (mC y) pc = .ok (.getfield idx, 3)) (ho : h_k h a = ci + 1) (hci : ci < 18) (hk1 : k < clN ci) (hlink : Cond.fieldLink (mN y).cls idx (clT ci k).1 (clT ci k).2.1 (clT ci k).2.2.1 ∈ lw_good) (hv : encF h a (clTy ci k) k = toV v) (K : WQ G y d (pc + 3) lv (v :: st) h bc bs Q) : WQ G y d pc lv (vr (some a) :: st) h bc bs Q := by
  intro p l e R s m args below meth c C H locs cells slots ls hr hS hl hc hs
  have hts := C.2.2.2.2.2.2.2.1
  have hX := C.2.2.2.2.2.2.2.2.1
  obtain ⟨cell, cf, kl, i, f, q1, q2, q3, q4, q5⟩ := hr.fld ho hci hk1 hX.1 hts hv
  exact W.getf C.1 C.2.1 C.2.2.2.2.2.2.1 (hts _ hlink) q3 q4 q1 q2 q5 rfl rfl hd (K p l e R s m args below meth c C H locs cells slots ls hr hS hl hc hs)
theorem wq_getN {a idx : Nat} (ci k : Nat) {host : String} (v : AV) (hd : decode (mC y) pc = .ok (.getfield idx, 3)) (ho : h_k h a = ci + 1) (hci : ci < 18) (hk1 : k < clN ci) (hlink : Cond.fieldLinkNest (mN y).cls idx (clT ci k).1 (clT ci k).2.1 (clT ci k).2.2.1 host ∈ dwX) (hv : encF h a (clTy ci k) k = toV v) (K : WQ G y d (pc + 3) lv (v :: st) h bc bs Q) : WQ G y d pc lv (vr (some a) :: st) h bc bs Q := by
  intro p l e R s m args below meth c C H locs cells slots ls hr hS hl hc hs
  have hts := C.2.2.2.2.2.2.2.1
  have hX := C.2.2.2.2.2.2.2.2.1
  obtain ⟨cell, cf, kl, i, f, q1, q2, q3, q4, q5⟩ := hr.fld ho hci hk1 hX.1 hts hv
  exact va_Wgetf C.1 C.2.1 C.2.2.2.2.2.2.1 ((hX.2.2.1 _ hlink).use rfl) q3 q4 q1 q2 q5 rfl rfl hd (K p l e R s m args below meth c C H locs cells slots ls hr hS hl hc hs)
theorem wq_getS {a idx : Nat} (ci k : Nat) {ref : String} (v : AV) (hd : decode (mC y) pc = .ok (.getfield idx, 3)) (ho : h_k h a = ci + 1) (hci : ci < 18) (hk1 : k < clN ci) (hlink : Cond.fieldLink (mN y).cls idx ref (clT ci k).2.1 (clT ci k).2.2.1 ∈ lw_good) (hsm : Cond.sameField ref (clT ci k).1 (clT ci k).2.1 (clT ci k).2.2.1 ∈ lw_good) (hv : encF h a (clTy ci k) k = toV v) (K : WQ G y d (pc + 3) lv (v :: st) h bc bs Q) : WQ G y d pc lv (vr (some a) :: st) h bc bs Q := by
  intro p l e R s m args below meth c C H locs cells slots ls hr hS hl hc hs
  have hts := C.2.2.2.2.2.2.2.1
  have hX := C.2.2.2.2.2.2.2.2.1
  obtain ⟨cell, cf, kl, i, f, q1, q2, q3, q4, q5⟩ := hr.fld ho hci hk1 hX.1 hts hv
  exact W.getf C.1 C.2.1 C.2.2.2.2.2.2.1 (hts _ hlink) (u_same (hts _ hsm) _ q3) q4 q1 q2 q5 rfl rfl hd (K p l e R s m args below meth c C H locs cells slots ls hr hS hl hc hs)
theorem encO_I {G : GG} {h : Hp} {a ci k : Nat} {x : Int32} (ho : h_k h a = ci + 1) (hci : ci < 18) (hk1 : k < clN ci) (hI : ∀ h' : Hp, encF h' a (clTy ci k) k = .int (h_I h' a k)) : encE G (wI h a k x) a = .inr (ci, (encO h a ci).set k (.int x)) ∧ ∀ b, b ≠ a → encE G (wI h a k x) b = encE G h b := by
  refine ⟨?_, fun b hb => ?_⟩
  · rw [encE_obj (h := wI h a k x) ho hci]
    congr 2
    apply List.ext_getElem?
    intro j
    by_cases hj : j = k
    · subst hj
      rw [encO_get hk1, List.getElem?_set_self (by rw [encO_len]; exact hk1), hI]
      show some (.int (up2 (h_I h) a j x a j) : Value) = some (.int x)
      simp only [up2, va_up_self]
    · rw [List.getElem?_set_ne (Ne.symm hj)]
      by_cases hjn : j < clN ci
      · rw [encO_get hjn, encO_get hjn]
        unfold encF
        simp [h_I, h_R, h_L, h_F, wI, up2, va_up, hj]
      · rw [List.getElem?_eq_none (by rw [encO_len]; omega), List.getElem?_eq_none (by rw [encO_len]; omega)]
  · unfold encE encO encA encF
    simp only [h_k, h_n, h_I, h_R, h_L, h_F, wI, up2, va_up_ne _ _ hb]
theorem wq_putI {a idx : Nat} {x : Int32} (ci k : Nat) (hd : decode (mC y) pc = .ok (.putfield idx, 3)) (ho : h_k h a = ci + 1) (hci : ci < 18) (h0 : ci ≠ 0) (hk1 : k < clN ci) (hlink : Cond.fieldLink (mN y).cls idx (clT ci k).1 (clT ci k).2.1 (clT ci k).2.2.1 ∈ lw_good) (hfin : (clT ci k).2.2.2 = false) (hI : ∀ h' : Hp, encF h' a (clTy ci k) k = .int (h_I h' a k)) (hnr : narrow (clTy ci k) (toV (vi x)) = toV (vi x)) (hft : fits (clTy ci k) (toV (vi x)) = true) (K : WQ G y d (pc + 3) lv st (wI h a k x) bc bs Q) : WQ G y d pc lv (vi x :: vr (some a) :: st) h bc bs Q := by
  intro p l e R s m args below meth c C H locs cells slots ls hr hS hl hc hs
  have hts := C.2.2.2.2.2.2.2.1
  have hX := C.2.2.2.2.2.2.2.2.1
  obtain ⟨L, q, h1, hP, hD, h4, h5⟩ := hr.pick (a := a) (by omega) (hr.obase ho hci h0)
  have h5' := h5
  rw [encE_obj ho hci] at h5'
  obtain ⟨e1, e2⟩ := encO_I (G := G) (x := x) ho hci hk1 hI
  exact va_put (Ts := lw_good) (v := .int x) (ty := clTy ci k) C.1 C.2.1 hts (cl_in hci) (clTy ci) (cl_ty hci) (cl_nm hci) C.2.2.2.2.2.2.1 hX.1 hP hD hS q h5' (cl_ok hci) k hk1 (hts _ hlink) (fun _ hx => hx) hfin (cl_ty hci k hk1) hnr hft (by rw [encO_len]; exact hk1) hd (fun H1 locs1 hP1 hD1 hS1 => K p l e R s m args below meth c C H1 locs1 cells slots ls (hr.put h1 hP hD h4 h5 rfl rfl e1 e2 hP1 hD1 (below_keep hX.2.1 hS hS1)) hS1 hl hc hs)
theorem wq_putIF {a idx : Nat} {x : Int32} (ci k : Nat) (hd : decode (mC y) pc = .ok (.putfield idx, 3)) (ho : h_k h a = ci + 1) (hci : ci < 18) (h0 : ci ≠ 0) (hk1 : k < clN ci) (hlink : Cond.fieldLink (mN y).cls idx (clT ci k).1 (clT ci k).2.1 (clT ci k).2.2.1 ∈ lw_good) (hfin : (clT ci k).2.2.2 = true) (hin : (mN y).name = "<init>") (hdecl : (clT ci k).1 = (mN y).cls) (hI : ∀ h' : Hp, encF h' a (clTy ci k) k = .int (h_I h' a k)) (hnr : narrow (clTy ci k) (toV (vi x)) = toV (vi x)) (hft : fits (clTy ci k) (toV (vi x)) = true) (K : WQ G y d (pc + 3) lv st (wI h a k x) bc bs Q) : WQ G y d pc lv (vi x :: vr (some a) :: st) h bc bs Q := by
  intro p l e R s m args below meth c C H locs cells slots ls hr hS hl hc hs
  have hts := C.2.2.2.2.2.2.2.1
  have hX := C.2.2.2.2.2.2.2.2.1
  obtain ⟨L, q, h1, hP, hD, h4, h5⟩ := hr.pick (a := a) (by omega) (hr.obase ho hci h0)
  have h5' := h5
  rw [encE_obj ho hci] at h5'
  obtain ⟨e1, e2⟩ := encO_I (G := G) (x := x) ho hci hk1 hI
  exact va_putF (Ts := lw_good) (v := .int x) (ty := clTy ci k) C.1 C.2.1 hts (cl_in hci) (clTy ci) (cl_ty hci) (cl_nm hci) C.2.2.2.2.2.2.1 hX.1 hP hD hS q h5' (cl_ok hci) k hk1 (hts _ hlink) (fun _ hx => hx) hfin (C.2.2.2.2.2.1.trans hin) hdecl (cl_ty hci k hk1) hnr hft (by rw [encO_len]; exact hk1) hd (fun H1 locs1 hP1 hD1 hS1 => K p l e R s m args below meth c C H1 locs1 cells slots ls (hr.put h1 hP hD h4 h5 rfl rfl e1 e2 hP1 hD1 (below_keep hX.2.1 hS hS1)) hS1 hl hc hs)
theorem encO_R {G : GG} {h : Hp} {a ci k : Nat} {x : Option Nat} (ho : h_k h a = ci + 1) (hci : ci < 18) (hk1 : k < clN ci) (hI : ∀ h' : Hp, encF h' a (clTy ci k) k = va_rf (h_R h' a k)) : encE G (wR h a k x) a = .inr (ci, (encO h a ci).set k (va_rf x)) ∧ ∀ b, b ≠ a → encE G (wR h a k x) b = encE G h b := by
  refine ⟨?_, fun b hb => ?_⟩
  · rw [encE_obj (h := wR h a k x) ho hci]
    congr 2
    apply List.ext_getElem?
    intro j
    by_cases hj : j = k
    · subst hj
      rw [encO_get hk1, List.getElem?_set_self (by rw [encO_len]; exact hk1), hI]
      show some (va_rf (up2 (h_R h) a j x a j) : Value) = some (va_rf x)
      simp only [up2, va_up_self]
    · rw [List.getElem?_set_ne (Ne.symm hj)]
      by_cases hjn : j < clN ci
      · rw [encO_get hjn, encO_get hjn]
        unfold encF
        simp [h_I, h_R, h_L, h_F, wR, up2, va_up, hj]
      · rw [List.getElem?_eq_none (by rw [encO_len]; omega), List.getElem?_eq_none (by rw [encO_len]; omega)]
  · unfold encE encO encA encF
    simp only [h_k, h_n, h_I, h_R, h_L, h_F, wR, up2, va_up_ne _ _ hb]
theorem wq_putR {a idx : Nat} {x : Option Nat} (ci k : Nat) (hd : decode (mC y) pc = .ok (.putfield idx, 3)) (ho : h_k h a = ci + 1) (hci : ci < 18) (h0 : ci ≠ 0) (hk1 : k < clN ci) (hlink : Cond.fieldLink (mN y).cls idx (clT ci k).1 (clT ci k).2.1 (clT ci k).2.2.1 ∈ lw_good) (hfin : (clT ci k).2.2.2 = false) (hI : ∀ h' : Hp, encF h' a (clTy ci k) k = va_rf (h_R h' a k)) (hnr : narrow (clTy ci k) (toV (vr x)) = toV (vr x)) (hft : fits (clTy ci k) (toV (vr x)) = true) (K : WQ G y d (pc + 3) lv st (wR h a k x) bc bs Q) : WQ G y d pc lv (vr x :: vr (some a) :: st) h bc bs Q := by
  intro p l e R s m args below meth c C H locs cells slots ls hr hS hl hc hs
  have hts := C.2.2.2.2.2.2.2.1
  have hX := C.2.2.2.2.2.2.2.2.1
  obtain ⟨L, q, h1, hP, hD, h4, h5⟩ := hr.pick (a := a) (by omega) (hr.obase ho hci h0)
  have h5' := h5
  rw [encE_obj ho hci] at h5'
  obtain ⟨e1, e2⟩ := encO_R (G := G) (x := x) ho hci hk1 hI
  exact va_put (Ts := lw_good) (v := va_rf x) (ty := clTy ci k) C.1 C.2.1 hts (cl_in hci) (clTy ci) (cl_ty hci) (cl_nm hci) C.2.2.2.2.2.2.1 hX.1 hP hD hS q h5' (cl_ok hci) k hk1 (hts _ hlink) (fun _ hx => hx) hfin (cl_ty hci k hk1) hnr hft (by rw [encO_len]; exact hk1) hd (fun H1 locs1 hP1 hD1 hS1 => K p l e R s m args below meth c C H1 locs1 cells slots ls (hr.put h1 hP hD h4 h5 rfl rfl e1 e2 hP1 hD1 (below_keep hX.2.1 hS hS1)) hS1 hl hc hs)
theorem wq_putRF {a idx : Nat} {x : Option Nat} (ci k : Nat) (hd : decode (mC y) pc = .ok (.putfield idx, 3)) (ho : h_k h a = ci + 1) (hci : ci < 18) (h0 : ci ≠ 0) (hk1 : k < clN ci) (hlink : Cond.fieldLink (mN y).cls idx (clT ci k).1 (clT ci k).2.1 (clT ci k).2.2.1 ∈ lw_good) (hfin : (clT ci k).2.2.2 = true) (hin : (mN y).name = "<init>") (hdecl : (clT ci k).1 = (mN y).cls) (hI : ∀ h' : Hp, encF h' a (clTy ci k) k = va_rf (h_R h' a k)) (hnr : narrow (clTy ci k) (toV (vr x)) = toV (vr x)) (hft : fits (clTy ci k) (toV (vr x)) = true) (K : WQ G y d (pc + 3) lv st (wR h a k x) bc bs Q) : WQ G y d pc lv (vr x :: vr (some a) :: st) h bc bs Q := by
  intro p l e R s m args below meth c C H locs cells slots ls hr hS hl hc hs
  have hts := C.2.2.2.2.2.2.2.1
  have hX := C.2.2.2.2.2.2.2.2.1
  obtain ⟨L, q, h1, hP, hD, h4, h5⟩ := hr.pick (a := a) (by omega) (hr.obase ho hci h0)
  have h5' := h5
  rw [encE_obj ho hci] at h5'
  obtain ⟨e1, e2⟩ := encO_R (G := G) (x := x) ho hci hk1 hI
  exact va_putF (Ts := lw_good) (v := va_rf x) (ty := clTy ci k) C.1 C.2.1 hts (cl_in hci) (clTy ci) (cl_ty hci) (cl_nm hci) C.2.2.2.2.2.2.1 hX.1 hP hD hS q h5' (cl_ok hci) k hk1 (hts _ hlink) (fun _ hx => hx) hfin (C.2.2.2.2.2.1.trans hin) hdecl (cl_ty hci k hk1) hnr hft (by rw [encO_len]; exact hk1) hd (fun H1 locs1 hP1 hD1 hS1 => K p l e R s m args below meth c C H1 locs1 cells slots ls (hr.put h1 hP hD h4 h5 rfl rfl e1 e2 hP1 hD1 (below_keep hX.2.1 hS hS1)) hS1 hl hc hs)
theorem encO_L {G : GG} {h : Hp} {a ci k : Nat} {x : Int64} (ho : h_k h a = ci + 1) (hci : ci < 18) (hk1 : k < clN ci) (hI : ∀ h' : Hp, encF h' a (clTy ci k) k = .long (h_L h' a k)) : encE G (wL h a k x) a = .inr (ci, (encO h a ci).set k (.long x)) ∧ ∀ b, b ≠ a → encE G (wL h a k x) b = encE G h b := by
  refine ⟨?_, fun b hb => ?_⟩
  · rw [encE_obj (h := wL h a k x) ho hci]
    congr 2
    apply List.ext_getElem?
    intro j
    by_cases hj : j = k
    · subst hj
      rw [encO_get hk1, List.getElem?_set_self (by rw [encO_len]; exact hk1), hI]
      show some (.long (up2 (h_L h) a j x a j) : Value) = some (.long x)
      simp only [up2, va_up_self]
    · rw [List.getElem?_set_ne (Ne.symm hj)]
      by_cases hjn : j < clN ci
      · rw [encO_get hjn, encO_get hjn]
        unfold encF
        simp [h_I, h_R, h_L, h_F, wL, up2, va_up, hj]
      · rw [List.getElem?_eq_none (by rw [encO_len]; omega), List.getElem?_eq_none (by rw [encO_len]; omega)]
  · unfold encE encO encA encF
    simp only [h_k, h_n, h_I, h_R, h_L, h_F, wL, up2, va_up_ne _ _ hb]
theorem wq_putL {a idx : Nat} {x : Int64} (ci k : Nat) (hd : decode (mC y) pc = .ok (.putfield idx, 3)) (ho : h_k h a = ci + 1) (hci : ci < 18) (h0 : ci ≠ 0) (hk1 : k < clN ci) (hlink : Cond.fieldLink (mN y).cls idx (clT ci k).1 (clT ci k).2.1 (clT ci k).2.2.1 ∈ lw_good) (hfin : (clT ci k).2.2.2 = false) (hI : ∀ h' : Hp, encF h' a (clTy ci k) k = .long (h_L h' a k)) (hnr : narrow (clTy ci k) (toV (vl x)) = toV (vl x)) (hft : fits (clTy ci k) (toV (vl x)) = true) (K : WQ G y d (pc + 3) lv st (wL h a k x) bc bs Q) : WQ G y d pc lv (vl x :: vr (some a) :: st) h bc bs Q := by
  intro p l e R s m args below meth c C H locs cells slots ls hr hS hl hc hs
  have hts := C.2.2.2.2.2.2.2.1
  have hX := C.2.2.2.2.2.2.2.2.1
  obtain ⟨L, q, h1, hP, hD, h4, h5⟩ := hr.pick (a := a) (by omega) (hr.obase ho hci h0)
  have h5' := h5
  rw [encE_obj ho hci] at h5'
  obtain ⟨e1, e2⟩ := encO_L (G := G) (x := x) ho hci hk1 hI
  exact va_put (Ts := lw_good) (v := .long x) (ty := clTy ci k) C.1 C.2.1 hts (cl_in hci) (clTy ci) (cl_ty hci) (cl_nm hci) C.2.2.2.2.2.2.1 hX.1 hP hD hS q h5' (cl_ok hci) k hk1 (hts _ hlink) (fun _ hx => hx) hfin (cl_ty hci k hk1) hnr hft (by rw [encO_len]; exact hk1) hd (fun H1 locs1 hP1 hD1 hS1 => K p l e R s m args below meth c C H1 locs1 cells slots ls (hr.put h1 hP hD h4 h5 rfl rfl e1 e2 hP1 hD1 (below_keep hX.2.1 hS hS1)) hS1 hl hc hs)
theorem wq_putLF {a idx : Nat} {x : Int64} (ci k : Nat) (hd : decode (mC y) pc = .ok (.putfield idx, 3)) (ho : h_k h a = ci + 1) (hci : ci < 18) (h0 : ci ≠ 0) (hk1 : k < clN ci) (hlink : Cond.fieldLink (mN y).cls idx (clT ci k).1 (clT ci k).2.1 (clT ci k).2.2.1 ∈ lw_good) (hfin : (clT ci k).2.2.2 = true) (hin : (mN y).name = "<init>") (hdecl : (clT ci k).1 = (mN y).cls) (hI : ∀ h' : Hp, encF h' a (clTy ci k) k = .long (h_L h' a k)) (hnr : narrow (clTy ci k) (toV (vl x)) = toV (vl x)) (hft : fits (clTy ci k) (toV (vl x)) = true) (K : WQ G y d (pc + 3) lv st (wL h a k x) bc bs Q) : WQ G y d pc lv (vl x :: vr (some a) :: st) h bc bs Q := by
  intro p l e R s m args below meth c C H locs cells slots ls hr hS hl hc hs
  have hts := C.2.2.2.2.2.2.2.1
  have hX := C.2.2.2.2.2.2.2.2.1
  obtain ⟨L, q, h1, hP, hD, h4, h5⟩ := hr.pick (a := a) (by omega) (hr.obase ho hci h0)
  have h5' := h5
  rw [encE_obj ho hci] at h5'
  obtain ⟨e1, e2⟩ := encO_L (G := G) (x := x) ho hci hk1 hI
  exact va_putF (Ts := lw_good) (v := .long x) (ty := clTy ci k) C.1 C.2.1 hts (cl_in hci) (clTy ci) (cl_ty hci) (cl_nm hci) C.2.2.2.2.2.2.1 hX.1 hP hD hS q h5' (cl_ok hci) k hk1 (hts _ hlink) (fun _ hx => hx) hfin (C.2.2.2.2.2.1.trans hin) hdecl (cl_ty hci k hk1) hnr hft (by rw [encO_len]; exact hk1) hd (fun H1 locs1 hP1 hD1 hS1 => K p l e R s m args below meth c C H1 locs1 cells slots ls (hr.put h1 hP hD h4 h5 rfl rfl e1 e2 hP1 hD1 (below_keep hX.2.1 hS hS1)) hS1 hl hc hs)
theorem wq_putIS {a idx : Nat} {x : Int32} (ci k : Nat) {ref : String} (hd : decode (mC y) pc = .ok (.putfield idx, 3)) (ho : h_k h a = ci + 1) (hci : ci < 18) (h0 : ci ≠ 0) (hk1 : k < clN ci) (hlink : Cond.fieldLink (mN y).cls idx ref (clT ci k).2.1 (clT ci k).2.2.1 ∈ lw_good) (hsm : Cond.sameField ref (clT ci k).1 (clT ci k).2.1 (clT ci k).2.2.1 ∈ lw_good) (hfin : (clT ci k).2.2.2 = false) (hI : ∀ h' : Hp, encF h' a (clTy ci k) k = .int (h_I h' a k)) (hnr : narrow (clTy ci k) (.int x) = .int x) (hft : fits (clTy ci k) (.int x) = true) (K : WQ G y d (pc + 3) lv st (wI h a k x) bc bs Q) : WQ G y d pc lv (vi x :: vr (some a) :: st) h bc bs Q := by
  intro p l e R s m args below meth c C H locs cells slots ls hr hS hl hc hs
  have hts := C.2.2.2.2.2.2.2.1
  have hX := C.2.2.2.2.2.2.2.2.1
  obtain ⟨L, q, h1, hP, hD, h4, h5⟩ := hr.pick (a := a) (by omega) (hr.obase ho hci h0)
  have h5' := h5
  rw [encE_obj ho hci] at h5'
  obtain ⟨e1, e2⟩ := encO_I (G := G) (x := x) ho hci hk1 hI
  exact va_put (Ts := lw_good) (v := .int x) (ty := clTy ci k) C.1 C.2.1 hts (cl_in hci) (clTy ci) (cl_ty hci) (cl_nm hci) C.2.2.2.2.2.2.1 hX.1 hP hD hS q h5' (cl_ok hci) k hk1 (hts _ hlink) (u_same (hts _ hsm)) hfin (cl_ty hci k hk1) hnr hft (by rw [encO_len]; exact hk1) hd (fun H1 locs1 hP1 hD1 hS1 => K p l e R s m args below meth c C H1 locs1 cells slots ls (hr.put h1 hP hD h4 h5 rfl rfl e1 e2 hP1 hD1 (below_keep hX.2.1 hS hS1)) hS1 hl hc hs)
theorem wq_iaload {a : Nat} {i : Int32} (hd : decode (mC y) pc = .ok (.iaload, 1)) (ho : h_k h a = 101) (hin : vp_in i (h_n h a)) (K : WQ G y d (pc + 1) lv (vi (h_I h a i.toNatClampNeg) :: st) h bc bs Q) : WQ G y d pc lv (vi i :: vr (some a) :: st) h bc bs Q := by
  intro p l e R s m args below meth c C H locs cells slots ls hr hS hl hc hs
  have ha : arTy (h_k h a) = some .int := by rw [ho]; rfl
  exact va_iald C.1 C.2.1 C.2.2.2.2.2.2.2.2.1.1 (hr.arr ha (hr.abase ha hin)) 0 0 rfl rfl hin hd (K p l e R s m args below meth c C H locs cells slots ls hr hS hl hc hs)
theorem wq_zaload {a : Nat} {i : Int32} (hd : decode (mC y) pc = .ok (.baload, 1)) (ho : h_k h a = 102) (hin : vp_in i (h_n h a)) (K : WQ G y d (pc + 1) lv (vi (h_I h a i.toNatClampNeg) :: st) h bc bs Q) : WQ G y d pc lv (vi i :: vr (some a) :: st) h bc bs Q := by
  intro p l e R s m args below meth c C H locs cells slots ls hr hS hl hc hs
  have ha : arTy (h_k h a) = some .boolean := by rw [ho]; rfl
  exact va_zald C.1 C.2.1 C.2.2.2.2.2.2.2.2.1.1 (hr.arr ha (hr.abase ha hin)) 0 1 rfl rfl hin hd (K p l e R s m args below meth c C H locs cells slots ls hr hS hl hc hs)
theorem wq_aaload {a : Nat} {i : Int32} {E : String} (hd : decode (mC y) pc = .ok (.aaload, 1)) (ho : arTy (h_k h a) = some (.object E)) (hin : vp_in i (h_n h a)) (K : WQ G y d (pc + 1) lv (vr (h_R h a i.toNatClampNeg) :: st) h bc bs Q) : WQ G y d pc lv (vi i :: vr (some a) :: st) h bc bs Q := by
  intro p l e R s m args below meth c C H locs cells slots ls hr hS hl hc hs
  obtain ⟨t0, ht0⟩ := ty_at (G := G) (arTy_in ho)
  exact va_aldq C.1 C.2.1 C.2.2.2.2.2.2.2.2.1.1 (hr.arr ho (hr.abase ho hin)) 0 t0 rfl ht0 hin hd (K p l e R s m args below meth c C H locs cells slots ls hr hS hl hc hs)
theorem wq_alen {a : Nat} {ty : FieldType} (hd : decode (mC y) pc = .ok (.arraylength, 1)) (ho : arTy (h_k h a) = some ty) (K : WQ G y d (pc + 1) lv (vi (nI (h_n h a)) :: st) h bc bs Q) : WQ G y d pc lv (vr (some a) :: st) h bc bs Q := by
  intro p l e R s m args below meth c C H locs cells slots ls hr hS hl hc hs
  obtain ⟨t0, ht0⟩ := ty_at (G := G) (arTy_in ho)
  obtain ⟨cell, q1, q2, q3, q4⟩ := hr.wkA ho
  exact W.alen (n := nI (h_n h a)) C.1 C.2.1 q1 (arr_wk (C.2.2.2.2.2.2.2.2.1.1.2 t0 _ ht0).1 q2 q3) q4 rfl rfl hd (K p l e R s m args below meth c C H locs cells slots ls hr hS hl hc hs)
theorem encA_I {G : GG} {h : Hp} {a k : Nat} {x : Int32} {ty : FieldType} (ho : arTy (h_k h a) = some ty) (hI : ∀ h' : Hp, encA h' a ty = (h_n h' a, .inl (h_I h' a))) : encE G (wI h a k x) a = .inl (gC G ty, h_n h a, .inl (upd (h_I h a) k x)) ∧ ∀ b, b ≠ a → encE G (wI h a k x) b = encE G h b := by
  refine ⟨?_, fun b hb => ?_⟩
  · rw [encE_arr (h := wI h a k x) ho, hI]
    congr 4
    simp only [wI, h_I, up2, va_up_self]
    funext j
    simp only [va_up, upd]
  · unfold encE encO encA encF
    simp only [h_k, h_n, h_I, h_R, h_L, h_F, wI, up2, va_up_ne _ _ hb]
theorem encA_R {G : GG} {h : Hp} {a k : Nat} {x : Option Nat} {E : String} (ho : arTy (h_k h a) = some (.object E)) : encE G (wR h a k x) a = .inl (gC G (.object E), h_n h a, .inr (.inr (.inr (.inr (va_up (h_R h a) k x))))) ∧ ∀ b, b ≠ a → encE G (wR h a k x) b = encE G h b := by
  refine ⟨?_, fun b hb => ?_⟩
  · rw [encE_arr (h := wR h a k x) ho]
    unfold encA
    simp only [wR, h_R, up2, va_up_self, h_n]
  · unfold encE encO encA encF
    simp only [h_k, h_n, h_I, h_R, h_L, h_F, wR, up2, va_up_ne _ _ hb]
theorem wq_iastore {a : Nat} {i x : Int32} (hd : decode (mC y) pc = .ok (.iastore, 1)) (ho : h_k h a = 101) (hin : vp_in i (h_n h a)) (K : WQ G y d (pc + 1) lv st (wI h a i.toNatClampNeg x) bc bs Q) : WQ G y d pc lv (vi x :: vi i :: vr (some a) :: st) h bc bs Q := by
  intro p l e R s m args below meth c C H locs cells slots ls hr hS hl hc hs
  have ha : arTy (h_k h a) = some .int := by rw [ho]; rfl
  have hX := C.2.2.2.2.2.2.2.2.1
  obtain ⟨L, q, h1, hP, hD, h4, h5⟩ := hr.pick (a := a) (arTy0 ha) (hr.abase ha hin)
  have h5' := h5
  rw [encE_arr ha] at h5'
  obtain ⟨e1, e2⟩ := encA_I (G := G) (k := i.toNatClampNeg) (x := x) ha (fun _ => rfl)
  exact va_iast C.1 C.2.1 hX.1 hP hD hS q 0 h5' rfl hin hd (fun H1 locs1 hP1 hD1 hS1 => K p l e R s m args below meth c C H1 locs1 cells slots ls (hr.put h1 hP hD h4 h5 rfl rfl e1 e2 hP1 hD1 (below_keep hX.2.1 hS hS1)) hS1 hl hc hs)
theorem wq_zastore {a : Nat} {i x : Int32} (hd : decode (mC y) pc = .ok (.bastore, 1)) (ho : h_k h a = 102) (hin : vp_in i (h_n h a)) (hx : vp_nar .boolean x = x) (K : WQ G y d (pc + 1) lv st (wI h a i.toNatClampNeg x) bc bs Q) : WQ G y d pc lv (vi x :: vi i :: vr (some a) :: st) h bc bs Q := by
  intro p l e R s m args below meth c C H locs cells slots ls hr hS hl hc hs
  have ha : arTy (h_k h a) = some .boolean := by rw [ho]; rfl
  have hX := C.2.2.2.2.2.2.2.2.1
  obtain ⟨L, q, h1, hP, hD, h4, h5⟩ := hr.pick (a := a) (arTy0 ha) (hr.abase ha hin)
  have h5' := h5
  rw [encE_arr ha] at h5'
  obtain ⟨e1, e2⟩ := encA_I (G := G) (k := i.toNatClampNeg) (x := x) ha (fun _ => rfl)
  exact va_zast C.1 C.2.1 hX.1 hP hD hS q 1 h5' rfl hin hd (fun H1 locs1 hP1 hD1 hS1 => by
    rw [hx] at hP1 hD1
    exact K p l e R s m args below meth c C H1 locs1 cells slots ls (hr.put h1 hP hD h4 h5 rfl rfl e1 e2 hP1 hD1 (below_keep hX.2.1 hS hS1)) hS1 hl hc hs)
theorem wq_aastore {a : Nat} {i : Int32} {r : Option Nat} (ci : Nat) (hd : decode (mC y) pc = .ok (.aastore, 1)) (ha : arTy (h_k h a) = some (.object (clR ci))) (hci : ci < 18) (hin : vp_in i (h_n h a)) (hrk : ∀ v, r = some v → h_k h v = ci + 1) (K : WQ G y d (pc + 1) lv st (wR h a i.toNatClampNeg r) bc bs Q) : WQ G y d pc lv (vr r :: vi i :: vr (some a) :: st) h bc bs Q := by
  intro p l e R s m args below meth c C H locs cells slots ls hr hS hl hc hs
  have hX := C.2.2.2.2.2.2.2.2.1
  obtain ⟨L, q, h1, hP, hD, h4, h5⟩ := hr.pick (a := a) (arTy0 ha) (hr.abase ha hin)
  have h5' := h5
  rw [encE_arr ha] at h5'
  obtain ⟨t0, ht0⟩ := ty_at (G := G) (arTy_in ha)
  obtain ⟨e1, e2⟩ := encA_R (G := G) (k := i.toNatClampNeg) (x := r) ha
  cases r with
  | none => exact va_astqN C.1 C.2.1 hX.1 hP hD hS q t0 h5' ht0 hin hd (fun H1 locs1 hP1 hD1 hS1 => K p l e R s m args below meth c C H1 locs1 cells slots ls (hr.put h1 hP hD h4 h5 rfl rfl e1 e2 hP1 hD1 (below_keep hX.2.1 hS hS1)) hS1 hl hc hs)
  | some v =>
    have hv := hrk v rfl
    obtain ⟨kC, hkC, -⟩ := (hX.1.1 ci _ (cl_ok hci)).2.2
    have hav : va_Any (clR ci) s H v := hr.anyO hv hci hX.1 (fun comp c0 f1 f2 => by cases f1.symm.trans f2; exact va_asg _ _)
    exact va_astqM C.1 C.2.1 hX.1 hP hD hS q t0 h5' ht0 hav hin hd (fun H1 locs1 hP1 hD1 hS1 => K p l e R s m args below meth c C H1 locs1 cells slots ls (hr.put h1 hP hD h4 h5 rfl rfl e1 e2 hP1 hD1 (below_keep hX.2.1 hS hS1)) hS1 hl hc hs)
end RH
