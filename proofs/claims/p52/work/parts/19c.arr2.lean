/-! Rows of rows of numbers (kind 119); the unsigned shift; the script; the text. -/
theorem aoA {G : GG} {s : State} (hX : Sx G s) : (Cond.arrayOver (.array .int)).before #[] s = true := hX.2.2.2.2.2.2.2.2.2.2.2.2.1.2.2
section R2
variable {G : GG} {y : MI} {d pc : Nat} {lv : LV} {st : List AV} {h : Hp} {bc bs : Nat} {Q : Pst}
theorem wq_iushr {x z : Int32} (hd : decode (mC y) pc = .ok (.iushr, 1)) (K : WQ G y d (pc + 1) lv (vi (x.toUInt32 >>> (z.toUInt32 &&& Int32.toUInt32 31)).toInt32 :: st) h bc bs Q) : WQ G y d pc lv (vi z :: vi x :: st) h bc bs Q := by
  intro p l e R s m args below meth c C H locs cells slots ls hr hS hl hc hs
  exact lv_iushr C.1 C.2.1 hd rfl (K p l e R s m args below meth c C H locs cells slots ls hr hS hl hc hs)
theorem wp_iushr {x z : Int32} (hd : decode (mC y) pc = .ok (.iushr, 1)) (K : WP G y d (pc + 1) lv (vi (x.toUInt32 >>> (z.toUInt32 &&& Int32.toUInt32 31)).toInt32 :: st) h bc bs Q) : WP G y d pc lv (vi z :: vi x :: st) h bc bs Q := by
  intro α hp oN ol os Q0 oU
  show WQ G y d pc (lm α lv) (vi z :: vi x :: sm α st) hp bc bs Q0
  exact wq_iushr hd (K.of oN ol ((os.tl.tl).cons (trivial)) oU rfl rfl)
theorem wq_aaloadA {a : Nat} {i : Int32} (hd : decode (mC y) pc = .ok (.aaload, 1)) (ho : h_k h a = 119) (hin : vp_in i (h_n h a)) (K : WQ G y d (pc + 1) lv (vr (h_R h a i.toNatClampNeg) :: st) h bc bs Q) : WQ G y d pc lv (vi i :: vr (some a) :: st) h bc bs Q := by
  intro p l e R s m args below meth c C H locs cells slots ls hr hS hl hc hs
  have ha : arTy (h_k h a) = some (.array .int) := by rw [ho]; rfl
  have hX := C.2.2.2.2.2.2.2.2.1
  obtain ⟨t0, ht0⟩ := ty_at (G := G) (arTy_in ha)
  have hlt : i.toNatClampNeg < h_n h a := Nat.not_le.mp fun q => hin (Or.inr q)
  have hcell : H[a]? = some (vp_cell (gC G (.array .int)) (h_n h a, .inr (.inr (.inr (.inr (h_R h a)))))) := hr.arr ha (hr.abase ha hin) 0 _ rfl
  exact W.aald (v := va_rf (h_R h a i.toNatClampNeg)) (ty := .array .int) C.1 C.2.1 hcell ((hX.1.2 t0 _ ht0).1 (h_n h a) (fun j => va_rf (h_R h a j))) rfl (fun q => by cases q) (by show ¬ (i < 0 ∨ (arrV _ _ _).slots.size ≤ _); rw [arrV_size]; exact hin) (by show (arrV _ _ _).slots[_]? = _; rw [arrV_read _ _ hlt]) rfl rfl hd (K p l e R s m args below meth c C H locs cells slots ls hr hS hl hc hs)
theorem wp_aaloadA {a : Nat} {i : Int32} (hd : decode (mC y) pc = .ok (.aaload, 1)) (ho : h_k h a = 119) (hin : vp_in i (h_n h a)) (K : WP G y d (pc + 1) lv (vr (h_R h a i.toNatClampNeg) :: st) h bc bs Q) : WP G y d pc lv (vi i :: vr (some a) :: st) h bc bs Q := by
  intro α hp oN ol os Q0 oU
  have ha := os.tl.hd a rfl
  obtain ⟨e1, e2, e3, e4, e5, e6⟩ := oN.1 a ha
  show WQ G y d pc (lm α lv) (vi i :: vr (some (α a)) :: sm α st) hp bc bs Q0
  refine wq_aaloadA hd (e1.trans ho) (by rw [e2]; exact hin) ?_
  rw [e4]
  exact K.of oN ol (os.tl.tl.cons (fun x hx => oN.2.2.1 a _ x ha hx)) oU rfl rfl
theorem encA_A {G : GG} {h : Hp} {a k : Nat} {x : Option Nat} (ho : arTy (h_k h a) = some (.array .int)) : encE G (wR h a k x) a = .inl (gC G (.array .int), h_n h a, .inr (.inr (.inr (.inr (va_up (h_R h a) k x))))) ∧ ∀ b, b ≠ a → encE G (wR h a k x) b = encE G h b := by
  refine ⟨?_, fun b hb => ?_⟩
  · rw [encE_arr (h := wR h a k x) (ty := .array .int) ho]
    unfold encA
    simp only [h_n, h_R, wR, up2, va_up_self]
  · unfold encE encO encA encF
    simp only [h_k, h_n, h_I, h_R, h_L, h_F, wR, up2, va_up_ne _ _ hb]
theorem wq_aastoreA {a v : Nat} {i : Int32} (hd : decode (mC y) pc = .ok (.aastore, 1)) (ho : h_k h a = 119) (hv : h_k h v = 101) (hin : vp_in i (h_n h a)) (K : WQ G y d (pc + 1) lv st (wR h a i.toNatClampNeg (some v)) bc bs Q) : WQ G y d pc lv (vr (some v) :: vi i :: vr (some a) :: st) h bc bs Q := by
  intro p l e R s m args below meth c C H locs cells slots ls hr hS hl hc hs
  have ha : arTy (h_k h a) = some (.array .int) := by rw [ho]; rfl
  have hX := C.2.2.2.2.2.2.2.2.1
  obtain ⟨L, q, h1, hP, hD, h4, h5⟩ := hr.pick (a := a) (arTy0 ha) (hr.abase ha hin)
  have h5' := h5
  rw [encE_arr ha] at h5'
  obtain ⟨e1, e2⟩ := encA_A (G := G) (k := i.toNatClampNeg) (x := some v) ha
  obtain ⟨t0, ht0⟩ := ty_at (G := G) (arTy_in ha)
  have hlt : i.toNatClampNeg < h_n h a := Nat.not_le.mp fun q => hin (Or.inr q)
  have h0 : ¬ i < 0 := fun q => hin (Or.inl q)
  obtain ⟨comp, cA, kA, k3, -, k1, k2, k4⟩ := arrayOverA_spec (aoA hX)
  have hcA : cA = gC G (.array .int) := Option.some.inj (k4.symm.trans (hX.1.2 t0 _ ht0).2)
  subst hcA
  obtain ⟨kE, hkE, -⟩ := Vm.findClass_spec k3
  have hvt : arTy (h_k h v) = some .int := by rw [hv]; rfl
  obtain ⟨cellV, g1, g3, g4, -⟩ := hr.wkA hvt
  obtain ⟨t1, ht1⟩ := ty_at (G := G) (arTy_in hvt)
  obtain ⟨-, kC, hkC, compC, hkindC⟩ := (hX.1.2 t1 _ ht1).1 (h_n h v) (fun _ => .null)
  have hcomp : comp = gC G .int := Option.some.inj (k3.symm.trans (hX.1.2 t1 _ ht1).2)
  have hasg : s.vm.assignable cellV.cls comp = true := by rw [g4, hcomp]; exact va_asg _ _
  have hcell0 : H[a]? = some (vp_cell (gC G (.array .int)) (h_n h a, .inr (.inr (.inr (.inr (h_R h a)))))) := hP q _ h5'
  refine W.aast C.1 C.2.1 hcell0 (fun q h => by cases h) (fun h => by cases h) k1 k2 rfl hkE ⟨h0, by show _ < (arrV _ _ _).slots.size; rw [arrV_size]; exact hlt⟩ g1 (fun q h => by rw [h] at g3; cases g3) (by rw [g4]; exact hkC) hasg rfl rfl hd fun H1 e9 z oq => ?_
  have hcell : H1[a]? = some (vp_cell (gC G (.array .int)) (h_n h a, .inr (.inr (.inr (.inr (va_up (h_R h a) i.toNatClampNeg (some v))))))) := by
    rw [e9]
    show _ = some (vp_cell _ _)
    rw [vp_cell_q, vp_cell_q, arrV_store]
    congr 2
    funext q
    by_cases hq : q = i.toNatClampNeg
    · subst hq
      simp [updV, va_up, va_rf]
    · simp [updV, va_up, hq]
  have hP1 := hP.set hD h5' (e := .inl (gC G (.array .int), h_n h a, .inr (.inr (.inr (.inr (va_up (h_R h a) i.toNatClampNeg (some v))))))) hcell oq
  have hS1 := hS.put (k := i.toNatClampNeg) z oq (hD.2 q _ h5')
  exact K p l e R s m args below meth c C H1 _ cells slots ls (hr.put h1 hP hD h4 h5 rfl rfl e1 e2 hP1 (hD.set h5') (below_keep hX.2.1 hS hS1)) hS1 hl hc hs
theorem wp_aastoreA {a v : Nat} {i : Int32} (hd : decode (mC y) pc = .ok (.aastore, 1)) (ho : h_k h a = 119) (hv : h_k h v = 101) (hin : vp_in i (h_n h a)) (K : WP G y d (pc + 1) lv st (wR h a i.toNatClampNeg (some v)) bc bs Q) : WP G y d pc lv (vr (some v) :: vi i :: vr (some a) :: st) h bc bs Q := by
  intro α hp oN ol os Q0 oU
  have ha : h_k h a ≠ 0 := by rw [ho]; decide
  have hv0 : h_k h v ≠ 0 := by rw [hv]; decide
  obtain ⟨e1, e2, -⟩ := oN.1 a ha
  obtain ⟨f1, -⟩ := oN.1 v hv0
  show WQ G y d pc (lm α lv) (vr (some (α v)) :: vi i :: vr (some (α a)) :: sm α st) hp bc bs Q0
  exact wq_aastoreA hd (e1.trans ho) (f1.trans hv) (by rw [e2]; exact hin) (K.of (oN.wR ha os.hd (fun z => absurd (ho.symm.trans z) (by decide))) ol os.tl.tl.tl (oU.st (ext.rf rfl)) rfl rfl)
theorem wp_aaloadAN {a k : Nat} (N : Nat) (v : Option Nat) (hd : decode (mC y) pc = .ok (.aaload, 1)) (ho : h_k h a = 119) (hN : h_n h a = N) (hk : k < N) (hb : N < 2 ^ 31) (hv : h_R h a k = v) (K : WP G y d (pc + 1) lv (vr v :: st) h bc bs Q) : WP G y d pc lv (vi (nI k) :: vr (some a) :: st) h bc bs Q := by
  refine wp_aaloadA hd ho (by rw [hN]; exact vp_in_nI hk hb) ?_
  rw [nI_cl hk hb, hv]
  exact K
theorem wp_aastoreAN {a v k : Nat} (N : Nat) (hd : decode (mC y) pc = .ok (.aastore, 1)) (ho : h_k h a = 119) (hN : h_n h a = N) (hk : k < N) (hb : N < 2 ^ 31) (hv : h_k h v = 101) (K : WP G y d (pc + 1) lv st (wR h a k (some v)) bc bs Q) : WP G y d pc lv (vr (some v) :: vi (nI k) :: vr (some a) :: st) h bc bs Q := by
  refine wp_aastoreA hd ho hv (by rw [hN]; exact vp_in_nI hk hb) ?_
  rw [nI_cl hk hb]
  exact K
theorem wq_anewarrayA {idx : Nat} {n : Int32} (N : Nat) (hd : decode (mC y) pc = .ok (.anewarray idx, 3)) (hlink : Cond.classLink (mN y).cls idx "[I" ∈ lw_good) (hn : ¬ n < 0) (hN : n.toNatClampNeg = N) (hb : N ≤ 60000) (hbc : 1 ≤ bc) (hbs : N ≤ bs)
    (K : ∀ q, h_k h q = 0 → gB G ≤ q → WQ G y d (pc + 3) lv (vr (some q) :: st) (mk h q 119 N) (bc - 1) (bs - N) Q) : WQ G y d pc lv (vi n :: st) h bc bs Q := by
  intro p l e R s m args below meth c C H locs cells slots ls hr hS hl hc hs
  have hts := C.2.2.2.2.2.2.2.1
  have hX := C.2.2.2.2.2.2.2.2.1
  have hkd : arTy 119 = some (.array .int) := rfl
  obtain ⟨L, hL, hP, hD⟩ := hr.1
  obtain ⟨t0, ht0⟩ := ty_at (G := G) (arTy_in hkd)
  subst hN
  refine W.anewA (t := .int) C.1 C.2.1 C.2.2.2.2.2.2.1 (hts _ hlink) (aoA hX) rfl hd rfl hn (Nat.le_trans (Nat.mul_le_mul_right 4 hb) (by decide)) (by omega) (by omega) fun cA kA comp f1 f2 f3 f4 => ?_
  have hcA : cA = gC G (.array .int) := Option.some.inj (f1.symm.trans (hX.1.2 t0 _ ht0).2)
  subst hcA
  generalize hH1 : H.push ({ cls := gC G (.array .int), slots := Array.replicate n.toNatClampNeg .null, vm := .none } : Cell) = H1
  have c1 : H1[H.size]? = some (arrV (gC G (.array .int)) n.toNatClampNeg (fun _ => .null)) := by rw [← hH1, Array.getElem?_push_size, ← arrV_new]
  have o1 : ∀ q : Nat, q < H.size → H1[q]? = H[q]? := fun q hq => by rw [← hH1, Array.getElem?_push, if_neg (Nat.ne_of_lt hq)]
  have z1 : H1.size = H.size + 1 := by rw [← hH1, Array.size_push]
  have hP1 : va_P (gD G) vwCl (va_pl L (encE G h) ++ [(H.size, .inl (gC G (.array .int), n.toNatClampNeg, .inr (.inr (.inr (.inr (fun _ => none))))))]) H1 := (hP.kept (fun k x hx => o1 x.1 ((hP k x hx).lt))).app (fun k x hx => by
    have hz : k < 1 := (List.getElem?_eq_some_iff.mp hx).1
    rw [show k = 0 by omega] at hx
    cases hx
    show H1[H.size]? = some (vp_cell _ _)
    rw [vp_cell_q]
    exact c1)
  have hD1 := hD.push (e := .inl (gC G (.array .int), n.toNatClampNeg, .inr (.inr (.inr (.inr (fun _ => none)))))) hP rfl (show gA G H.size from Nat.le_trans hX.2.1 hS.1)
  have hS1 : va_S (gA G) s.heap H1 locs := ⟨Nat.le_trans hS.1 (by omega), fun x h1 h2 => (o1 x (Nat.lt_of_lt_of_le h1 hS.1)).trans (hS.2.1 x h1 h2), hS.2.2⟩
  have he : encE G (mk h H.size 119 n.toNatClampNeg) H.size = .inl (gC G (.array .int), n.toNatClampNeg, .inr (.inr (.inr (.inr (fun _ => none))))) := by
    rw [encE_arr (ty := .array .int) (by simp only [h_k, mk, va_up_self]; rfl)]
    unfold encA
    simp only [h_n, h_R, mk, va_up_self]
  obtain ⟨g1, g2, g3⟩ := hr.newP (h' := mk h H.size 119 n.toNatClampNeg) hL hP1 hD1 (by decide) rfl (fun b hb => by simp only [h_n, mk, va_up_ne _ _ hb]) he mk_other (below_keep hX.2.1 hS hS1)
  exact K H.size g1 g2 p l e R s m args below meth c C H1 locs (cells + 1) (slots + n.toNatClampNeg) ls g3 hS1 hl (by omega) (by omega)
theorem wp_anewarrayA {idx : Nat} {n : Int32} (N : Nat) (hd : decode (mC y) pc = .ok (.anewarray idx, 3)) (hlink : Cond.classLink (mN y).cls idx "[I" ∈ lw_good) (hn : ¬ n < 0) (hN : n.toNatClampNeg = N) (hb : N ≤ 60000) (hbc : 1 ≤ bc) (hbs : N ≤ bs)
    (q : Nat) (hq : h_k h q = 0) (K : WP G y d (pc + 3) lv (vr (some q) :: st) (mk h q 119 N) (bc - 1) (bs - N) Q) : WP G y d pc lv (vi n :: st) h bc bs Q := by
  intro α hp oN ol os Q0 oU
  show WQ G y d pc (lm α lv) (vi n :: sm α st) hp bc bs Q0
  refine wq_anewarrayA N hd hlink hn hN hb hbc hbs (fun q0 g1 g2 => ?_)
  obtain ⟨n1, n2⟩ := oN.make (n := N) (kd := 119) hq g1 (by decide)
  exact K.of n1 (ol.ext n2) ((SI.ext os.tl n2).cons (mk_at (by decide))) (oU.st n2) (lm_ext ol n2) (sm_new os.tl n2)
/-- the script -/
abbrev slen (G : GG) : Nat := G.2.2.2.2.2.1
abbrev sxs (G : GG) : Nat → Int32 := G.2.2.2.2.2.2
theorem sx_X {s : State} (hX : Sx G s) : va_X (gI G 0) (slen G) (sxs G) s s.heap := by
  rw [hX.2.2.2.2.2.2.2.2.2.2.2.2.1.2.1]
  exact hX.2.2.2.2.2.2.2.2.2.2.2.2.2.2.2.1
theorem sx_lt {s : State} (hX : Sx G s) : gI G 0 < gB G := (hX.2.2.2.2.2.2.2.2.2.2.2.2.1.1 0 (by decide)).2
theorem wq_sld {i : Int32} (hd : decode (mC y) pc = .ok (.iaload, 1)) (hin : vp_in i (slen G)) (K : WQ G y d (pc + 1) lv (vi (sxs G i.toNatClampNeg) :: st) h bc bs Q) : WQ G y d pc lv (vi i :: vr (some (gI G 0)) :: st) h bc bs Q := by
  intro p l e R s m args below meth c C H locs cells slots ls hr hS hl hc hs
  have hX := C.2.2.2.2.2.2.2.2.1
  have hlt := sx_lt hX
  exact va_sld C.1 C.2.1 (sx_X hX) (Nat.lt_of_lt_of_le hlt hX.2.1) (Nat.not_le.mpr hlt) hS hin hd (K p l e R s m args below meth c C H locs cells slots ls hr hS hl hc hs)
theorem wq_slen (hd : decode (mC y) pc = .ok (.arraylength, 1)) (K : WQ G y d (pc + 1) lv (vi (nI (slen G)) :: st) h bc bs Q) : WQ G y d pc lv (vr (some (gI G 0)) :: st) h bc bs Q := by
  intro p l e R s m args below meth c C H locs cells slots ls hr hS hl hc hs
  have hX := C.2.2.2.2.2.2.2.2.1
  have hlt := sx_lt hX
  exact va_slen C.1 C.2.1 (sx_X hX) (Nat.lt_of_lt_of_le hlt hX.2.1) (Nat.not_le.mpr hlt) hS hd (K p l e R s m args below meth c C H locs cells slots ls hr hS hl hc hs)
/-- the script's name, the text's name -/
abbrev nS : Nat := nm 0 1
abbrev nA : Nat := nm 0 2
theorem wp_sld {i : Int32} (hd : decode (mC y) pc = .ok (.iaload, 1)) (hin : vp_in i (slen G)) (K : WP G y d (pc + 1) lv (vi (sxs G i.toNatClampNeg) :: st) h bc bs Q) : WP G y d pc lv (vi i :: vr (some nS) :: st) h bc bs Q := by
  intro α hp oN ol os Q0 oU
  show WQ G y d pc (lm α lv) (vi i :: vr (some (α nS)) :: sm α st) hp bc bs Q0
  rw [(oN.2.2.2.2.2.2 0 (by decide)).1]
  exact wq_sld hd hin (K.of oN ol ((os.tl.tl).cons trivial) oU rfl rfl)
theorem wp_slen (hd : decode (mC y) pc = .ok (.arraylength, 1)) (K : WP G y d (pc + 1) lv (vi (nI (slen G)) :: st) h bc bs Q) : WP G y d pc lv (vr (some nS) :: st) h bc bs Q := by
  intro α hp oN ol os Q0 oU
  show WQ G y d pc (lm α lv) (vr (some (α nS)) :: sm α st) hp bc bs Q0
  rw [(oN.2.2.2.2.2.2 0 (by decide)).1]
  exact wq_slen hd (K.of oN ol ((os.tl).cons trivial) oU rfl rfl)
theorem wp_ldcA (hd : decode (mC y) pc = .ok (.ldc 207, 2)) (hy : (mN y).cls = "PersistentParlourLaw") (K : WP G y d (pc + 2) lv (vr (some nA) :: st) h bc bs Q) : WP G y d pc lv st h bc bs Q := by
  intro α hp oN ol os Q0 oU
  have e := oN.2.2.2.2.2.2 1 (by decide)
  have hk : inD h (vr (some nA)) := fun a ha => by
    cases ha
    rw [e.2.1]
    decide
  exact wq_ldcA hd hy (K.of oN ol (os.cons hk) oU rfl (by show vr (some (α nA)) :: sm α st = _; rw [e.1]))
end R2
theorem c_charAt {G : GG} {y : MI} {d pc idx : Nat} {lv : LV} {rest : List AV} {h : Hp} {bc bs k : Nat} {Q : Pst} (hk : k < 4) (hd : decode (mC y) pc = .ok (.invokevirtual idx, 3)) (hl : Cond.methodLink (mN y).cls idx yJ0_charAt_5068e ∈ lw_good) (hcat : awords rest ≤ 8) (hd4 : 4 ≤ d) (K : WP G y d (pc + 3) lv (vi (chA k) :: rest) h bc bs Q) : WP G y d pc lv (vi (nI k) :: vr (some nA) :: rest) h bc bs Q := by
  intro α hp oN ol os Q0 oU
  show WQ G y d pc (lm α lv) (vi (nI k) :: vr (some (α nA)) :: sm α rest) hp bc bs Q0
  rw [(oN.2.2.2.2.2.2 1 (by decide)).1]
  have e : (awords (sm α rest) : Nat) = awords rest := awords_am rest
  refine wq_callL (y' := m_J0_charAt_5068e) (rest := sm α rest) (mc := 0) (ms := 0) [vi (nI k)] hd hl im_J0_charAt_5068e se_J0_charAt_5068e ok_J0_charAt_5068e rfl (Nat.le_of_ble_eq_true rfl) rfl (by rw [e]; exact hcat) (d' := d - 1) (by omega) (Nat.zero_le _) (Nat.zero_le _) (q_charAt hk (by omega) (contq_ret ?_))
  exact K.of oN ol (os.tl.tl.cons trivial) oU rfl rfl
