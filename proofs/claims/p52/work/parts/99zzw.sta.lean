/-! The law: what its start knows. -/
theorem ins_all {ci : Nat} (hci : ci < 18) : Cond.instantiable (clR ci) (clN ci) ∈ lw_good := by
  match ci, hci with
  | 0, _ => exact ins_Jx4a65c
  | 1, _ => exact ins_Jx4a65c
  | 2, _ => exact ins_Jx4a65c
  | 3, _ => exact ins_X0
  | 4, _ => exact ins_X1
  | 5, _ => exact ins_X3
  | 6, _ => exact ins_X4
  | 7, _ => exact ins_X5
  | 8, _ => exact ins_X6
  | 9, _ => exact ins_X7
  | 10, _ => exact ins_X8
  | 11, _ => exact ins_X10
  | 12, _ => exact ins_X11
  | 13, _ => exact ins_X0
  | 14, _ => exact ins_X0
  | 15, _ => exact ins_X0
  | 16, _ => exact ins_X0
  | 17, _ => exact ins_X0
  | n + 18, h => omega
theorem kn_all {s : State} {args : Array Value} (hts : ∀ w ∈ lw_good, w.before args s = true) : ∃ D : va_G, ∀ (c : Nat) (q : vw_C), vwCl[c]? = some q → u_Kn s q.1 q.2.1 q.2.2 (D.1 c) (D.2 c) := by
  have h0 : ∀ c : Nat, ∃ z : ClassId × (Nat → Nat), ∀ q : vw_C, vwCl[c]? = some q → u_Kn s q.1 q.2.1 q.2.2 z.1 z.2 := by
    intro c
    by_cases hc : c < 18
    · obtain ⟨cC, iS, hk1⟩ := u_known hts (cl_in hc) (hts _ (ins_all hc))
      refine ⟨(cC, iS), fun q hq => ?_⟩
      rw [cl_ok hc] at hq
      cases hq
      exact hk1
    · exact ⟨(0, fun _ => 0), fun q hq => absurd (List.getElem?_eq_some_iff.mp hq).1 hc⟩
  obtain ⟨f, hf⟩ := Classical.axiomOfChoice h0
  exact ⟨(fun c => (f c).1, fun c => (f c).2), fun c q hq => hf c q hq⟩
theorem ar_prim {s : State} {args : Array Value} {ty : FieldType} (hp : ∀ c : ClassId, s.vm.findClass ("[" ++ ty.toString) = some c → va_RA s c ty) (h : (Cond.arrayClass ty).before args s = true) : ∃ c : ClassId, ArrOfT s c ty ∧ va_RA s c ty := by
  obtain ⟨c, k, comp, h1, h2, h3⟩ := Cond.arrayClass_spec h
  exact ⟨c, fun n z => ⟨fun k h => (by cases h), k, h2, comp, h3⟩, hp c h1⟩
theorem ar_obj {s : State} {args : Array Value} {C : String} (h : (Cond.arrayOver (.object C)).before args s = true) : ∃ c : ClassId, ArrOfT s c (.object C) ∧ va_RA s c (.object C) := by
  obtain ⟨comp, c, k, h1, -, h3, h4, h5⟩ := Cond.arrayOver_spec h
  exact ⟨c, fun n z => ⟨fun k h => (by cases h), k, h3, comp, h4⟩, k, comp, h3, h4, h1, h5⟩
theorem ar_arr {s : State} {args : Array Value} (h : (Cond.arrayOver (.array .int)).before args s = true) : ∃ c : ClassId, ArrOfT s c (.array .int) ∧ va_RA s c (.array .int) := by
  obtain ⟨comp, c, k, h1, h3, h4, h5⟩ := Cond.arrayOver_specA h
  exact ⟨c, fun n z => ⟨fun k h => (by cases h), k, h3, comp, h4⟩, h5⟩
theorem ar_all {s : State} {args : Array Value} (hts : ∀ w ∈ lw_tbl, w.before args s = true) : ∃ f : FieldType → ClassId, ∀ ty ∈ arTys, ArrOfT s (f ty) ty ∧ va_RA s (f ty) ty := by
  have key : ∀ ty ∈ arTys, ∃ c : ClassId, ArrOfT s c ty ∧ va_RA s c ty := by
    unfold arTys
    exact List.forall_mem_cons.mpr ⟨ar_prim (fun _ z => z) (hts _ (List.mem_filter.mp aw_int).1), List.forall_mem_cons.mpr ⟨ar_prim (fun _ z => z) (hts _ (List.mem_filter.mp aw_boolean).1), List.forall_mem_cons.mpr ⟨ar_prim (fun _ z => z) (hts _ (List.mem_filter.mp aw_int).1), List.forall_mem_cons.mpr ⟨ar_prim (fun _ z => z) (hts _ (List.mem_filter.mp aw_int).1), List.forall_mem_cons.mpr ⟨ar_prim (fun _ z => z) (hts _ (List.mem_filter.mp aw_int).1), List.forall_mem_cons.mpr ⟨ar_obj (hts _ (lw_it1 42 (by decide +kernel))), List.forall_mem_cons.mpr ⟨ar_obj (hts _ (lw_it1 55 (by decide +kernel))), List.forall_mem_cons.mpr ⟨ar_obj (hts _ (lw_it1 57 (by decide +kernel))), List.forall_mem_cons.mpr ⟨ar_obj (hts _ (lw_it1 59 (by decide +kernel))), List.forall_mem_cons.mpr ⟨ar_obj (hts _ (lw_it1 87 (by decide +kernel))), List.forall_mem_cons.mpr ⟨ar_obj (hts _ (lw_it1 94 (by decide +kernel))), List.forall_mem_cons.mpr ⟨ar_obj (hts _ (lw_it3 209 (by decide +kernel))), List.forall_mem_cons.mpr ⟨ar_obj (hts _ (lw_it1 42 (by decide +kernel))), List.forall_mem_cons.mpr ⟨ar_obj (hts _ (lw_it5 205 (by decide +kernel))), List.forall_mem_cons.mpr ⟨ar_arr (hts _ (lw_it6 118 (by decide +kernel))), (fun _ z => nomatch z)⟩⟩⟩⟩⟩⟩⟩⟩⟩⟩⟩⟩⟩⟩⟩
  have h0 : ∀ ty : FieldType, ∃ c : ClassId, ty ∈ arTys → ArrOfT s c ty ∧ va_RA s c ty := by
    intro ty
    by_cases h : ty ∈ arTys
    · obtain ⟨c, hc⟩ := key ty h
      exact ⟨c, fun _ => hc⟩
    · exact ⟨0, fun z => absurd z h⟩
  obtain ⟨f, hf⟩ := Classical.axiomOfChoice h0
  exact ⟨f, hf⟩
abbrev tmE : Term := .static "java/util/ArrayList" "DEFAULTCAPACITY_EMPTY_ELEMENTDATA" "[Ljava/lang/Object;"
theorem go_E {s : State} {args : Array Value} (hgv : (Jvm.Cond.and given_1 narrow_1).before args s = true) : ∃ (E : Nat) (cell : Cell), tmE.eval args s none [] s = some (.ref E) ∧ s.heap[E]? = some cell ∧ cell.vm.isStatics = false ∧ cell.vm ≠ .unknown ∧ s.vm.findClass "[Ljava/lang/Object;" = some cell.cls ∧ cell.slots.size.toInt32 = nI 0 := by
  have hs := flat_of_before _ hgv
  have h1 : (Cond.exactly tmE "[Ljava/lang/Object;").before args s = true := hs _ (by decide +kernel)
  have h2 : (Cond.eq (.length tmE) (.int 0)).before args s = true := hs _ (by decide +kernel)
  obtain ⟨a, c, cell, k, q1, q2, q3, q4, q5, q6, -⟩ := Cond.exactly_spec (args := args) (first := s) (o := none) (s := s) (idx := []) h1
  obtain ⟨t, cell2, ht, hat, hv⟩ := Term.length_spec (va_eqt h2)
  obtain ⟨hc2, hkn, -, -⟩ := State.arrayAt?_spec hat
  cases q1.symm.trans ht
  cases q3.symm.trans hc2
  exact ⟨a, cell, q1, q3, q5, hkn, by rw [q6]; exact q2, (Value.int.inj hv).symm⟩
theorem go_T {s : State} {args : Array Value} (hgv : (Jvm.Cond.and given_1 narrow_1).before args s = true) : ∃ ad adV : Nat, (Term.string "PersistentParlourLaw" 207).eval args s none [] s = some (.ref ad) ∧ vk_S 1 [4] [[97, 100, 107, 116]] (fun _ => ad) (fun _ => adV) (fun q => s.heap.size ≤ q) s s.heap := by
  have hs := flat_of_before _ hgv
  have key : ∀ j : Nat, j < 4 → (Cond.eq (.elem (.field (Term.string "PersistentParlourLaw" 207) "java/lang/String" "value" "[B") (.int (Int32.ofNat j))) (.int (([97, 100, 107, 116] : List Int32).getD j 0))).before args s = true := fun j hj => by
    rcases (show j = 0 ∨ j = 1 ∨ j = 2 ∨ j = 3 by omega) with e | e | e | e <;> subst e <;> exact hs _ (by decide +kernel)
  obtain ⟨adK, adV, h1, h2⟩ := vk_Sof (args := args) (s := s) (N := 1) (tm := fun _ => Term.string "PersistentParlourLaw" 207) (len := [4]) (byt := [[97, 100, 107, 116]]) (A := fun q => s.heap.size ≤ q) (fun i hi => by rw [show i = 0 by omega]; decide) (fun i _ => hs _ (by decide +kernel)) (fun i _ => hs _ (by decide +kernel)) (fun i _ => hs _ (by decide +kernel)) (fun i hi => by rw [show i = 0 by omega]; exact hs _ (by decide +kernel)) (fun i hi j hj => by rw [show i = 0 by omega] at hj ⊢; exact key j hj) (fun i j hi hj hne => absurd (show i = j by omega) hne) (fun a h => Nat.not_le.mpr h)
  exact ⟨adK 0, adV 0, h2 0 (by decide), fun i hi => by rw [show i = 0 by omega]; exact h1.1 0 (by decide), fun i j hi hj _ => by omega⟩
theorem cl_fl : ∀ q ∈ clX, Cond.not (.castable q.1 q.2) ∈ flatC (Jvm.Cond.and given_1 narrow_1) := by decide +kernel
theorem go_sr {s : State} {args : Array Value} (hts : ∀ w ∈ lw_tbl, w.before args s = true) : ∀ q ∈ srX, ∃ a, vk_R q.1 q.2.1 q.2.2 a s := by
  intro q hq
  obtain ⟨w, hw, e⟩ := List.mem_filterMap.mp hq
  cases w with
  | stringRef a b c =>
    cases e
    have h := hts _ hw
    cases hc : s.vm.findClass a with
    | none => simp [Cond.before, Cond.holds, Cond.value, hc] at h
    | some cur =>
      obtain ⟨k, cf, i, ad, -, -, -, -, -, he⟩ := Cond.stringRef_spec hc h
      exact ⟨ad, vk_R.of (A := args) h he⟩
  | _ => cases e
theorem go_Sy {s : State} {args : Array Value} {D : va_G} {f : FieldType → ClassId} {E M N b L : Nat} {ad : Nat → Nat} {xs : Nat → Int32} (hts : ∀ w ∈ lw_tbl, w.before args s = true) (hgv : (Jvm.Cond.and given_1 narrow_1).before args s = true) (hE : tmE.eval args s none [] s = some (.ref E)) (hM : va_Mi "[Ljava/lang/Object;" M s) (hT : (Term.string "PersistentParlourLaw" 207).eval args s none [] s = some (.ref (ad 1))) (hS : vk_S 1 [4] [[97, 100, 107, 116]] (fun _ => ad 1) (fun _ => N) (fun q => s.heap.size ≤ q) s s.heap) (h0 : ad 0 = b) (h1 : ad 1 < s.heap.size) (hX : va_X b L xs s s.heap) (hb : b < s.heap.size) : Sy (D, f, s.heap.size, (E, M, N, ad), (b, L, xs)) s := by
  have hs := flat_of_before _ hgv
  have hA : ∀ a : Nat, a < s.heap.size → ¬ s.heap.size ≤ a := fun a h => Nat.not_le.mpr h
  have hg : ∀ w ∈ lw_good, w.before args s = true := fun w hw => hts w (List.mem_filter.mp hw).1
  refine ⟨fun w hw => va_Nw.of (dw_tab hw) (hts w (List.mem_filter.mp hw).1), ?_, fun q hq => va_Nc.of (args := args) (hs _ (cl_fl q hq)), go_sr hts, ?_, hM, ?_, ?_, hS, ?_, ⟨fun i hi => ⟨trivial, ?_⟩, h0, ?_⟩, vk_R.of (A := args) (hts _ (lw_it6 64 (by decide +kernel))) hT, ?_, hX, hb⟩
  · unfold aoX
    exact List.forall_mem_cons.mpr ⟨va_AO.of (hts _ (lw_it1 42 (by decide +kernel))), List.forall_mem_cons.mpr ⟨va_AO.of (hts _ (lw_it1 55 (by decide +kernel))), List.forall_mem_cons.mpr ⟨va_AO.of (hts _ (lw_it1 57 (by decide +kernel))), List.forall_mem_cons.mpr ⟨va_AO.of (hts _ (lw_it1 59 (by decide +kernel))), List.forall_mem_cons.mpr ⟨va_AO.of (hts _ (lw_it1 87 (by decide +kernel))), List.forall_mem_cons.mpr ⟨va_AO.of (hts _ (lw_it1 94 (by decide +kernel))), List.forall_mem_cons.mpr ⟨va_AO.of (hts _ (lw_it3 209 (by decide +kernel))), List.forall_mem_cons.mpr ⟨va_AO.of (hts _ (lw_it1 42 (by decide +kernel))), List.forall_mem_cons.mpr ⟨va_AO.of (hts _ (lw_it5 205 (by decide +kernel))), (fun _ z => nomatch z)⟩⟩⟩⟩⟩⟩⟩⟩⟩
  · exact va_Zref (hts _ (lw_it1 73 (by decide +kernel))) (hg _ ini_Jx4a65c) hE hA
  · exact vx_Zqof (hts _ (lw_it1 230 (by decide +kernel))) (hg _ ini_java_lang_Throwable) (hs (Cond.isRef (.static "java/lang/Throwable" "UNASSIGNED_STACK" "[Ljava/lang/StackTraceElement;")) (by decide +kernel)) hA
  · exact vx_Zqof (hts _ (lw_it1 232 (by decide +kernel))) (hg _ ini_java_lang_Throwable) (hs (Cond.isRef (.static "java/lang/Throwable" "SUPPRESSED_SENTINEL" "Ljava/util/List;")) (by decide +kernel)) hA
  · exact va_Zof (hts _ (lw_it6 74 (by decide +kernel))) (hg _ ini_J0) (va_eqi (hs (Cond.eq (.static "java/lang/String" "COMPACT_STRINGS" "Z") (.int 1)) (by decide +kernel))) hA
  · show ad i < s.heap.size
    rcases (show i = 0 ∨ i = 1 by omega) with e | e <;> subst e
    · rw [h0]; exact hb
    · exact h1
  · have h9 : (Cond.arrayOver (.array .int)).before args s = true := hts _ (lw_it6 118 (by decide +kernel))
    exact h9
  · exact vx_Zqof (hts _ (lw_it6 82 (by decide +kernel))) (hg _ ini_J3) (hs (Cond.isRef (.static "jdk/internal/util/Preconditions" "SIOOBE_FORMATTER" "Ljava/util/function/BiFunction;")) (by decide +kernel)) hA
/-- the heap at the start, as far as the run will see it: by addresses, and by names -/
def hp0 (E : Nat) (ad : Nat → Nat) : Hp := (fun a => if a = E then 118 else if a = ad 0 ∨ a = ad 1 then 200 else 0, fun _ => 0, fun _ _ => 0, fun _ _ => none, fun _ _ => 0, fun _ _ => 0)
def hn0 : Hp := (fun n => if n = 0 then 118 else if n = nm 0 1 ∨ n = nm 0 2 then 200 else 0, fun _ => 0, fun _ _ => 0, fun _ _ => none, fun _ _ => 0, fun _ _ => 0)
def al0 (E : Nat) (ad : Nat → Nat) (n : Nat) : Nat := if n = 0 then E else if n = nm 0 1 then ad 0 else ad 1
theorem hn0_k {n : Nat} (h : h_k hn0 n ≠ 0) : n = 0 ∨ n = nm 0 1 ∨ n = nm 0 2 := by
  have h : (if n = 0 then 118 else if n = nm 0 1 ∨ n = nm 0 2 then 200 else 0) ≠ 0 := h
  by_cases h0 : n = 0
  · exact Or.inl h0
  · rw [if_neg h0] at h
    by_cases z : n = nm 0 1 ∨ n = nm 0 2
    · exact Or.inr z
    · rw [if_neg z] at h
      exact absurd rfl h
theorem nm01 : nm 0 1 ≠ 0 ∧ nm 0 2 ≠ 0 ∧ nm 0 2 ≠ nm 0 1 := by unfold nm; omega
theorem al0_1 {E : Nat} {ad : Nat → Nat} : al0 E ad (nm 0 1) = ad 0 ∧ al0 E ad (nm 0 2) = ad 1 ∧ al0 E ad 0 = E := by
  unfold al0
  rw [if_neg nm01.1, if_pos rfl, if_neg nm01.2.1, if_neg nm01.2.2, if_pos rfl]
  exact ⟨rfl, rfl, rfl⟩
theorem hn0_1 : h_k hn0 (nm 0 1) = 200 ∧ h_k hn0 (nm 0 2) = 200 ∧ h_k hn0 0 = 118 := by
  refine ⟨?_, ?_, rfl⟩
  · show (if nm 0 1 = 0 then 118 else if nm 0 1 = nm 0 1 ∨ nm 0 1 = nm 0 2 then 200 else 0) = 200
    rw [if_neg nm01.1, if_pos (Or.inl rfl)]
  · show (if nm 0 2 = 0 then 118 else if nm 0 2 = nm 0 1 ∨ nm 0 2 = nm 0 2 then 200 else 0) = 200
    rw [if_neg nm01.2.1, if_pos (Or.inr rfl)]
theorem np0 {G : GG} (h0 : gI G 0 ≠ gE G) (h1 : gI G 1 ≠ gE G) (h2 : gI G 0 ≠ gI G 1) : NP G (al0 (gE G) (gI G)) hn0 (hp0 (gE G) (gI G)) := by
  obtain ⟨a1, a2, a3⟩ := al0_1 (E := gE G) (ad := gI G)
  obtain ⟨b1, b2, b3⟩ := hn0_1
  have k0 : h_k (hp0 (gE G) (gI G)) (gI G 0) = 200 := by
    show (if gI G 0 = gE G then 118 else if gI G 0 = gI G 0 ∨ gI G 0 = gI G 1 then 200 else 0) = 200
    rw [if_neg h0, if_pos (Or.inl rfl)]
  have k1 : h_k (hp0 (gE G) (gI G)) (gI G 1) = 200 := by
    show (if gI G 1 = gE G then 118 else if gI G 1 = gI G 0 ∨ gI G 1 = gI G 1 then 200 else 0) = 200
    rw [if_neg h1, if_pos (Or.inr rfl)]
  have kE : h_k (hp0 (gE G) (gI G)) (gE G) = 118 := by
    show (if gE G = gE G then 118 else _) = 118
    rw [if_pos rfl]
  refine ⟨fun n hn => ?_, fun n n' hn hn' e => ?_, fun n j z _ e => (by cases e), rfl, rfl, rfl, fun i hi => ?_⟩
  · refine ⟨?_, rfl, rfl, rfl, rfl, rfl⟩
    rcases hn0_k hn with q | q | q <;> subst q
    · rw [a3, kE, b3]
    · rw [a1, k0, b1]
    · rw [a2, k1, b2]
  · rcases hn0_k hn with q | q | q <;> rcases hn0_k hn' with r | r | r <;> subst q <;> subst r <;> first
      | rfl
      | (rw [a3, a1] at e; exact absurd e.symm h0)
      | (rw [a3, a2] at e; exact absurd e.symm h1)
      | (rw [a1, a3] at e; exact absurd e h0)
      | (rw [a1, a2] at e; exact absurd e h2)
      | (rw [a2, a3] at e; exact absurd e h1)
      | (rw [a2, a1] at e; exact absurd e.symm h2)
  · rcases (show i = 0 ∨ i = 1 by omega) with q | q <;> subst q
    · exact ⟨a1, b1, fun n j x _ e => by cases e⟩
    · exact ⟨a2, b2, fun n j x _ e => by cases e⟩
theorem sift0 {s s' : State} {L : List Loc} {k n : Nat} (h : s.sameButNew s' L k n) (hL : ∀ x ∈ L, s.heap.size ≤ x.base) : s.sameButNew s' [] k n := by
  obtain ⟨h1, h2, h3, h4, h5, h6⟩ := h
  refine ⟨h1, h2, h3, h4, h5, fun a c hc => ?_⟩
  obtain ⟨c', g1, g2, g3, g4⟩ := h6 a c hc
  refine ⟨c', g1, g2, g3, fun i _ => g4 i (fun hm => ?_)⟩
  have h7 := hL _ hm
  have h8 := (Array.getElem?_eq_some_iff.mp hc).1
  exact absurd h8 (Nat.not_lt.mpr h7)
set_option maxRecDepth 100000 in
set_option maxHeartbeats 4000000 in
theorem rep0 {G : GG} {s : State} {cell : Cell} (hX : Sx G s) (hB : gB G = s.heap.size) (hc : s.heap[gE G]? = some cell) (hs1 : cell.vm.isStatics = false) (hs2 : cell.vm ≠ .unknown) (hcl : s.vm.findClass "[Ljava/lang/Object;" = some cell.cls) (hsz : cell.slots.size.toInt32 = nI 0) : (gI G 0 ≠ gE G ∧ gI G 1 ≠ gE G ∧ gI G 0 ≠ gI G 1) ∧ Rep G (hp0 (gE G) (gI G)) s.heap := by
  have hobj : FieldType.object "java/lang/Object" ∈ arTys := by decide
  have e1 : cell.cls = gC G (.object "java/lang/Object") := Option.some.inj (hcl.symm.trans (arrName hX hobj (by decide)))
  obtain ⟨t0, ht0⟩ := ty_at (G := G) hobj
  obtain ⟨-, k, hk1, comp, hk2⟩ := (hX.1.2 t0 _ ht0).1 0 (fun _ => .null)
  have hk1 : s.vm.classes[gC G (.object "java/lang/Object")]? = some k := hk1
  obtain ⟨scr, x1, ⟨-, k3, x3, comp3, x4⟩, -, x6, x7⟩ := sx_X hX
  obtain ⟨⟨tc, y1, y2, y3, y4⟩, -, ⟨cf, kl, fi, f, tc2, z1, z2, z3, z4, z5, z6⟩, -⟩ := (sx_S hX).1 0 (by decide)
  have n0 : gI G 0 ≠ gE G := fun e => by
    rw [e] at x1
    cases hc.symm.trans x1
    rw [e1, hk1] at x3
    cases x3
    rw [hk2] at x4
    cases x4
  have n1 : gI G 1 ≠ gE G := fun e => by
    have y1 : s.heap[gI G 1]? = some tc := y1
    rw [e] at y1
    cases hc.symm.trans y1
    obtain ⟨q1, w1, w2⟩ := Vm.findClass_spec hcl
    obtain ⟨q2, u1, u2⟩ := Vm.findClass_spec y3
    cases w1.symm.trans u1
    exact absurd (w2.symm.trans u2) (by decide)
  have n2 : gI G 0 ≠ gI G 1 := fun e => by
    have z3 : s.heap[gI G 1]? = some tc2 := z3
    rw [← e] at z3
    cases x1.symm.trans z3
    have hlt := (Array.getElem?_eq_some_iff.mp z5).1
    have := x7 _ (by rw [← x6]; exact hlt)
    cases z5.symm.trans this
  have kE : h_k (hp0 (gE G) (gI G)) (gE G) = 118 := by
    show (if gE G = gE G then 118 else _) = 118
    rw [if_pos rfl]
  have hlt : ∀ a, h_k (hp0 (gE G) (gI G)) a ≠ 0 → a = gE G ∨ (h_k (hp0 (gE G) (gI G)) a = 200 ∧ ∃ i, i < 2 ∧ a = gI G i) := fun a h => by
    have h : (if a = gE G then 118 else if a = gI G 0 ∨ a = gI G 1 then 200 else 0) ≠ 0 := h
    by_cases z : a = gE G
    · exact Or.inl z
    · rw [if_neg z] at h
      by_cases z2 : a = gI G 0 ∨ a = gI G 1
      · refine Or.inr ⟨?_, z2.elim (fun q => ⟨0, by decide, q⟩) (fun q => ⟨1, by decide, q⟩)⟩
        show (if a = gE G then 118 else if a = gI G 0 ∨ a = gI G 1 then 200 else 0) = 200
        rw [if_neg z, if_pos z2]
      · rw [if_neg z2] at h
        exact absurd rfl h
  have hbl : ∀ i, i < 2 → gI G i < gB G := fun i hi => (hX.2.2.2.2.2.2.2.2.2.2.2.2.1.1 i hi).2
  refine ⟨⟨n0, n1, n2⟩, ⟨[], fun a => ⟨(fun z => nomatch z), fun z => ?_⟩, fun k q hq => ?_, fun i j p q hp => ?_, fun k q hq => ?_⟩, fun a ha hk9 => ?_⟩
  · exfalso
    obtain ⟨z1, z2⟩ := z
    rcases hlt a z2 with e | ⟨-, i, h2, h3⟩
    · have := (Array.getElem?_eq_some_iff.mp hc).1
      rw [hB, e] at z1
      omega
    · have := hbl i h2
      omega
  · have hq : ([] : va_W)[k]? = some q := hq
    rw [List.getElem?_nil] at hq
    cases hq
  · have hp : ([] : va_W)[i]? = some p := hp
    rw [List.getElem?_nil] at hp
    cases hp
  · have hq : ([] : va_W)[k]? = some q := hq
    rw [List.getElem?_nil] at hq
    cases hq
  · rcases hlt a hk9 with e | e
    · subst e
      refine Or.inl ⟨?_, Or.inr ⟨kE, rfl⟩⟩
      rw [encE_arr (ty := .object "java/lang/Object") (by rw [kE]; rfl)]
      exact ⟨cell, hc, hs1, hs2, e1, hsz⟩
    · exact Or.inr e
