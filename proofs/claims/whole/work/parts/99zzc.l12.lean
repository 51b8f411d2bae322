/-! The law: what its start knows, and its end. -/
theorem ins_all {ci : Nat} (hci : ci < 18) : Cond.instantiable (clR ci) (clN ci) ∈ lw_good := by
  match ci, hci with
  | 0, _ => exact ins_J6
  | 1, _ => exact ins_Jx35411
  | 2, _ => exact ins_Jx4a65c
  | 3, _ => exact ins_X0
  | 4, _ => exact ins_X1
  | 5, _ => exact ins_X3
  | 6, _ => exact ins_X4
  | 7, _ => exact ins_X5
  | 8, _ => exact ins_X6
  | 9, _ => exact ins_X7
  | 10, _ => exact ins_X8
  | 11, _ => exact ins_X10
  | 12, _ => exact ins_X11
  | 13, _ => exact ins_X12
  | 14, _ => exact ins_X13
  | 15, _ => exact ins_X14
  | 16, _ => exact ins_X15
  | 17, _ => exact ins_X16
  | n + 18, h => omega
theorem kn_all {s : State} {args : Array Value} (hts : ∀ w ∈ lw_good, w.before args s = true) : ∃ D : va_G, ∀ (c : Nat) (q : vw_C), vwCl[c]? = some q → u_Kn s q.1 q.2.1 q.2.2 (D.1 c) (D.2 c) := by
  have h0 : ∀ c : Nat, ∃ z : ClassId × (Nat → Nat), ∀ q : vw_C, vwCl[c]? = some q → u_Kn s q.1 q.2.1 q.2.2 z.1 z.2 := by
    intro c
    by_cases hc : c < 18
    · obtain ⟨cC, iS, hk1⟩ := u_known hts (cl_in hc) (hts _ (ins_all hc))
      refine ⟨(cC, iS), fun q hq => ?_⟩
      rw [cl_ok hc] at hq
      cases hq
      exact hk1
    · exact ⟨(0, fun _ => 0), fun q hq => absurd (List.getElem?_eq_some_iff.mp hq).1 hc⟩
  obtain ⟨f, hf⟩ := Classical.axiomOfChoice h0
  exact ⟨(fun c => (f c).1, fun c => (f c).2), fun c q hq => hf c q hq⟩
theorem ar_prim {s : State} {args : Array Value} {ty : FieldType} (hp : ∀ c : ClassId, s.vm.findClass ("[" ++ ty.toString) = some c → va_RA s c ty) (h : (Cond.arrayClass ty).before args s = true) : ∃ c : ClassId, ArrOfT s c ty ∧ va_RA s c ty := by
  obtain ⟨c, k, comp, h1, h2, h3⟩ := Cond.arrayClass_spec h
  exact ⟨c, fun n z => ⟨fun k h => (by cases h), k, h2, comp, h3⟩, hp c h1⟩
theorem ar_obj {s : State} {args : Array Value} {C : String} (h : (Cond.arrayOver (.object C)).before args s = true) : ∃ c : ClassId, ArrOfT s c (.object C) ∧ va_RA s c (.object C) := by
  obtain ⟨comp, c, k, h1, -, h3, h4, h5⟩ := Cond.arrayOver_spec h
  exact ⟨c, fun n z => ⟨fun k h => (by cases h), k, h3, comp, h4⟩, k, comp, h3, h4, h1, h5⟩
theorem ar_all {s : State} {args : Array Value} (hts : ∀ w ∈ lw_tbl, w.before args s = true) : ∃ f : FieldType → ClassId, ∀ ty ∈ arTys, ArrOfT s (f ty) ty ∧ va_RA s (f ty) ty := by
  have key : ∀ ty ∈ arTys, ∃ c : ClassId, ArrOfT s c ty ∧ va_RA s c ty := by
    unfold arTys
    exact List.forall_mem_cons.mpr ⟨ar_prim (fun _ z => z) (hts _ (List.mem_filter.mp aw_int).1), List.forall_mem_cons.mpr ⟨ar_prim (fun _ z => z) (hts _ (List.mem_filter.mp aw_boolean).1), List.forall_mem_cons.mpr ⟨ar_prim (fun _ z => z) (hts _ (List.mem_filter.mp aw_char).1), List.forall_mem_cons.mpr ⟨ar_prim (fun _ z => z) (hts _ (List.mem_filter.mp aw_long).1), List.forall_mem_cons.mpr ⟨ar_prim (fun _ z => z) (hts _ (List.mem_filter.mp aw_double).1), List.forall_mem_cons.mpr ⟨ar_obj (hts _ (lw_it1 48 (by decide +kernel))), List.forall_mem_cons.mpr ⟨ar_obj (hts _ (lw_it1 61 (by decide +kernel))), List.forall_mem_cons.mpr ⟨ar_obj (hts _ (lw_it1 63 (by decide +kernel))), List.forall_mem_cons.mpr ⟨ar_obj (hts _ (lw_it1 65 (by decide +kernel))), List.forall_mem_cons.mpr ⟨ar_obj (hts _ (lw_it1 96 (by decide +kernel))), List.forall_mem_cons.mpr ⟨ar_obj (hts _ (lw_it1 103 (by decide +kernel))), List.forall_mem_cons.mpr ⟨ar_obj (hts _ (lw_it3 0 (by decide +kernel))), List.forall_mem_cons.mpr ⟨ar_obj (hts _ (lw_it6 200 (by decide +kernel))), List.forall_mem_cons.mpr ⟨ar_obj (hts _ (lw_it6 16 (by decide +kernel))), (fun _ z => nomatch z)⟩⟩⟩⟩⟩⟩⟩⟩⟩⟩⟩⟩⟩⟩
  have h0 : ∀ ty : FieldType, ∃ c : ClassId, ty ∈ arTys → ArrOfT s c ty ∧ va_RA s c ty := by
    intro ty
    by_cases h : ty ∈ arTys
    · obtain ⟨c, hc⟩ := key ty h
      exact ⟨c, fun _ => hc⟩
    · exact ⟨0, fun z => absurd z h⟩
  obtain ⟨f, hf⟩ := Classical.axiomOfChoice h0
  exact ⟨f, hf⟩
abbrev tmE : Term := .static "java/util/ArrayList" "DEFAULTCAPACITY_EMPTY_ELEMENTDATA" "[Ljava/lang/Object;"
abbrev tmI : Term := .static "java/lang/Integer$IntegerCache" "cache" "[Ljava/lang/Integer;"
theorem go_E {s : State} {args : Array Value} (hgv : (Jvm.Cond.and given_1 narrow_1).before args s = true) : ∃ (E : Nat) (cell : Cell), tmE.eval args s none [] s = some (.ref E) ∧ s.heap[E]? = some cell ∧ cell.vm.isStatics = false ∧ cell.vm ≠ .unknown ∧ s.vm.findClass "[Ljava/lang/Object;" = some cell.cls ∧ cell.slots.size.toInt32 = nI 0 := by
  have hs := flat_of_before _ hgv
  have h1 : (Cond.exactly tmE "[Ljava/lang/Object;").before args s = true := hs _ (by decide +kernel)
  have h2 : (Cond.eq (.length tmE) (.int 0)).before args s = true := hs _ (by decide +kernel)
  obtain ⟨a, c, cell, k, q1, q2, q3, q4, q5, q6, -⟩ := Cond.exactly_spec (args := args) (first := s) (o := none) (s := s) (idx := []) h1
  obtain ⟨t, cell2, ht, hat, hv⟩ := Term.length_spec (va_eqt h2)
  obtain ⟨hc2, hkn, -, -⟩ := State.arrayAt?_spec hat
  cases q1.symm.trans ht
  cases q3.symm.trans hc2
  exact ⟨a, cell, q1, q3, q5, hkn, by rw [q6]; exact q2, (Value.int.inj hv).symm⟩
theorem go_I {s : State} {args : Array Value} (hgv : (Jvm.Cond.and given_1 narrow_1).before args s = true) : ∃ (N : Nat) (ad : Nat → Nat), tmI.eval args s none [] s = some (.ref N) ∧ va_T (.object "java/lang/Integer") N 256 (fun i => .ref (ad i)) (fun q => s.heap.size ≤ q) s s.heap ∧ vb_C ad (fun q => s.heap.size ≤ q) s s.heap := by
  have hs := flat_of_before _ hgv
  have hA : ∀ a : Nat, a < s.heap.size → ¬ s.heap.size ≤ a := fun a h => Nat.not_le.mpr h
  have h1 : (Cond.eq (.length tmI) (.int 256)).before args s = true := hs _ (by decide +kernel)
  have h2 : (Cond.arrayOf tmI (.object "java/lang/Integer")).before args s = true := hs _ (by decide +kernel)
  have h3 : (Cond.all tmI (.and (.exactly (.elem tmI (.index 0)) "java/lang/Integer") (.eq (.field (.elem tmI (.index 0)) "java/lang/Integer" "value" "I") (.sub (.index 0) (.int 128))))).before args s = true := hs _ (by decide +kernel)
  have hlen : (Term.length tmI).eval args s none [] s = some (.int (Int32.ofNat 256)) := va_eqt h1
  obtain ⟨ad, hC, hel⟩ := vb_Cof (A := fun q => s.heap.size ≤ q) (st := tmI) rfl hlen h3 hA
  obtain ⟨N, hN, hT⟩ := va_Tof (A := fun q => s.heap.size ≤ q) (N := 256) (f := fun i => .ref (ad i)) (by decide) h2 hlen hel hA
  exact ⟨N, ad, hN, hT, hC⟩
theorem cl_fl : ∀ q ∈ clX, Cond.not (.castable q.1 q.2) ∈ flatC (Jvm.Cond.and given_1 narrow_1) := by decide +kernel
theorem go_sr {s : State} {args : Array Value} (hts : ∀ w ∈ lw_tbl, w.before args s = true) : ∀ q ∈ srX, ∃ a, vk_R q.1 q.2.1 q.2.2 a s := by
  intro q hq
  obtain ⟨w, hw, e⟩ := List.mem_filterMap.mp hq
  cases w with
  | stringRef a b c =>
    cases e
    have h := hts _ hw
    cases hc : s.vm.findClass a with
    | none => simp [Cond.before, Cond.holds, Cond.value, hc] at h
    | some cur =>
      obtain ⟨k, cf, i, ad, -, -, -, -, -, he⟩ := Cond.stringRef_spec hc h
      exact ⟨ad, vk_R.of (A := args) h he⟩
  | _ => cases e
theorem go_Sy {s : State} {args : Array Value} {D : va_G} {f : FieldType → ClassId} {E M N b L : Nat} {ad : Nat → Nat} {xs : Nat → Int32} (hts : ∀ w ∈ lw_tbl, w.before args s = true) (hgv : (Jvm.Cond.and given_1 narrow_1).before args s = true) (hE : tmE.eval args s none [] s = some (.ref E)) (hM : va_Mi "[Ljava/lang/Object;" M s) (hN : tmI.eval args s none [] s = some (.ref N)) (hT : va_T (.object "java/lang/Integer") N 256 (fun i => .ref (ad i)) (fun q => s.heap.size ≤ q) s s.heap) (hX : va_X b L xs s s.heap) (hb : b < s.heap.size) : Sy (D, f, s.heap.size, (E, M, N, ad), (b, L, xs)) s := by
  have hs := flat_of_before _ hgv
  have hA : ∀ a : Nat, a < s.heap.size → ¬ s.heap.size ≤ a := fun a h => Nat.not_le.mpr h
  have hg : ∀ w ∈ lw_good, w.before args s = true := fun w hw => hts w (List.mem_filter.mp hw).1
  refine ⟨fun w hw => va_Nw.of (dw_tab hw) (hts w (List.mem_filter.mp hw).1), ?_, fun q hq => va_Nc.of (args := args) (hs _ (cl_fl q hq)), go_sr hts, ?_, hM, ?_, ?_, ?_, ?_, ?_, ?_, hT, hX, hb⟩
  · unfold aoX
    exact List.forall_mem_cons.mpr ⟨va_AO.of (hts _ (lw_it1 48 (by decide +kernel))), List.forall_mem_cons.mpr ⟨va_AO.of (hts _ (lw_it1 61 (by decide +kernel))), List.forall_mem_cons.mpr ⟨va_AO.of (hts _ (lw_it1 63 (by decide +kernel))), List.forall_mem_cons.mpr ⟨va_AO.of (hts _ (lw_it1 65 (by decide +kernel))), List.forall_mem_cons.mpr ⟨va_AO.of (hts _ (lw_it1 96 (by decide +kernel))), List.forall_mem_cons.mpr ⟨va_AO.of (hts _ (lw_it1 103 (by decide +kernel))), List.forall_mem_cons.mpr ⟨va_AO.of (hts _ (lw_it3 0 (by decide +kernel))), List.forall_mem_cons.mpr ⟨va_AO.of (hts _ (lw_it6 200 (by decide +kernel))), List.forall_mem_cons.mpr ⟨va_AO.of (hts _ (lw_it6 16 (by decide +kernel))), (fun _ z => nomatch z)⟩⟩⟩⟩⟩⟩⟩⟩⟩
  · exact va_Zref (hts _ (lw_it1 79 (by decide +kernel))) (hg _ ini_Jx4a65c) hE hA
  · exact vx_Zqof (hts _ (lw_it2 19 (by decide +kernel))) (hg _ ini_java_lang_Throwable) (hs (Cond.isRef (.static "java/lang/Throwable" "UNASSIGNED_STACK" "[Ljava/lang/StackTraceElement;")) (by decide +kernel)) hA
  · exact vx_Zqof (hts _ (lw_it2 21 (by decide +kernel))) (hg _ ini_java_lang_Throwable) (hs (Cond.isRef (.static "java/lang/Throwable" "SUPPRESSED_SENTINEL" "Ljava/util/List;")) (by decide +kernel)) hA
  · exact va_Fw.of (A := args) (hts _ (lw_it8 106 (by decide +kernel))) (hts _ (lw_it8 105 (by decide +kernel))) (hts _ (lw_it8 111 (by decide +kernel))) (hts _ (lw_it8 109 (by decide +kernel))) (hts _ (lw_it8 107 (by decide +kernel)))
  · exact va_Fw.of (A := args) (hts _ (lw_it8 116 (by decide +kernel))) (hts _ (lw_it8 115 (by decide +kernel))) (hts _ (lw_it8 120 (by decide +kernel))) (hts _ (lw_it8 118 (by decide +kernel))) (hts _ (lw_it8 107 (by decide +kernel)))
  · exact va_Zof (hts _ (lw_it9 74 (by decide +kernel))) (hg _ ini_Jxabbfe) (va_eqi (hs (Cond.eq (.static "java/lang/Integer$IntegerCache" "high" "I") (.int 127)) (by decide +kernel))) hA
  · exact va_Zref (hts _ (lw_it9 76 (by decide +kernel))) (hg _ ini_Jxabbfe) hN hA
/-- the heap at the start, as far as the run will see it: by addresses, and by names -/
def hp0 (E : Nat) (ad iv : Nat → Nat) : Hp := (fun a => if a = E then 118 else if iv a < 256 ∧ ad (iv a) = a then 1 else 0, fun _ => 0, fun a _ => if a = E then 0 else nI (iv a) - nI 128, fun _ _ => none, fun _ _ => 0, fun _ _ => 0)
def hn0 : Hp := (fun n => if n = 0 then 118 else if n % 128 = 0 ∧ n ≤ 32768 then 1 else 0, fun _ => 0, fun n _ => if n = 0 then 0 else nI (n / 128 - 1) - nI 128, fun _ _ => none, fun _ _ => 0, fun _ _ => 0)
def al0 (E : Nat) (ad : Nat → Nat) (n : Nat) : Nat := if n = 0 then E else ad (n / 128 - 1)
theorem hn0_k {n : Nat} (h : h_k hn0 n ≠ 0) (h0 : n ≠ 0) : n % 128 = 0 ∧ n ≤ 32768 := by
  have h : (if n = 0 then 118 else if n % 128 = 0 ∧ n ≤ 32768 then 1 else 0) ≠ 0 := h
  rw [if_neg h0] at h
  by_cases z : n % 128 = 0 ∧ n ≤ 32768
  · exact z
  · rw [if_neg z] at h
    exact absurd rfl h
theorem np0 {G : GG} {iv : Nat → Nat} (hne : ∀ i, i < 256 → gI G i ≠ gE G) (hiv : ∀ i, i < 256 → iv (gI G i) = i) : NP G (al0 (gE G) (gI G)) hn0 (hp0 (gE G) (gI G) iv) := by
  have aln : ∀ n, n ≠ 0 → al0 (gE G) (gI G) n = gI G (n / 128 - 1) := fun n h => if_neg h
  have kad : ∀ i, i < 256 → h_k (hp0 (gE G) (gI G) iv) (gI G i) = 1 := fun i hi => by
    show (if gI G i = gE G then 118 else if iv (gI G i) < 256 ∧ gI G (iv (gI G i)) = gI G i then 1 else 0) = 1
    rw [if_neg (hne i hi), hiv i hi, if_pos ⟨hi, rfl⟩]
  have vad : ∀ i, i < 256 → h_I (hp0 (gE G) (gI G) iv) (gI G i) = fun _ => nI i - nI 128 := fun i hi => by
    show (fun _ : Nat => if gI G i = gE G then 0 else nI (iv (gI G i)) - nI 128) = _
    rw [if_neg (hne i hi), hiv i hi]
  have vn : ∀ n, n ≠ 0 → h_I hn0 n = fun _ => nI (n / 128 - 1) - nI 128 := fun n h => by
    show (fun _ : Nat => if n = 0 then 0 else nI (n / 128 - 1) - nI 128) = _
    rw [if_neg h]
  have kn : ∀ n, n ≠ 0 → n % 128 = 0 ∧ n ≤ 32768 → h_k hn0 n = 1 := fun n h0 h => by
    show (if n = 0 then 118 else if n % 128 = 0 ∧ n ≤ 32768 then 1 else 0) = 1
    rw [if_neg h0, if_pos h]
  refine ⟨fun n hn => ?_, fun n n' hn hn' e => ?_, fun n j z _ e => (by cases e), rfl, rfl, rfl, fun i hi => ?_⟩
  · by_cases h0 : n = 0
    · subst h0
      refine ⟨?_, rfl, ?_, rfl, rfl, rfl⟩
      · show (if gE G = gE G then 118 else _) = 118
        rw [if_pos rfl]
      · show (fun _ : Nat => if gE G = gE G then 0 else nI (iv (gE G)) - nI 128) = fun _ => 0
        rw [if_pos rfl]
    · have h2 := hn0_k hn h0
      have h3 : n / 128 - 1 < 256 := by omega
      rw [aln n h0]
      exact ⟨(kad _ h3).trans (kn n h0 h2).symm, rfl, (vad _ h3).trans (vn n h0).symm, rfl, rfl, rfl⟩
  · by_cases h0 : n = 0
    · by_cases h1 : n' = 0
      · omega
      · have h2 := hn0_k hn' h1
        subst h0
        rw [aln n' h1] at e
        exact absurd e.symm (hne _ (by omega))
    · have h2 := hn0_k hn h0
      rw [aln n h0] at e
      by_cases h1 : n' = 0
      · subst h1
        exact absurd e (hne _ (by omega))
      · have h3 := hn0_k hn' h1
        rw [aln n' h1] at e
        have := congrArg iv e
        rw [hiv _ (by omega), hiv _ (by omega)] at this
        omega
  · have h0 : nm 0 (i + 1) ≠ 0 := by unfold nm; omega
    have e : nm 0 (i + 1) / 128 - 1 = i := by unfold nm; omega
    refine ⟨(aln _ h0).trans (by rw [e]), kn _ h0 (by unfold nm; omega), ?_⟩
    rw [vn _ h0, e]
theorem nI_sub_inj {i j : Nat} (hi : i < 256) (hj : j < 256) (e : nI i - nI 128 = nI j - nI 128) : i = j := by
  have e1 : nI i = nI j := by
    have := congrArg (fun z : Int32 => z + nI 128) e
    simpa only [Int32.sub_add_cancel] using this
  have e2 := congrArg Int32.toNatClampNeg e1
  rwa [nI_clamp (by omega), nI_clamp (by omega)] at e2
theorem ad_inj {s : State} {ad : Nat → Nat} {A : Nat → Prop} (hC : vb_C ad A s s.heap) {i j : Nat} (hi : i < 256) (hj : j < 256) (e : ad i = ad j) : i = j := by
  obtain ⟨cf, k, fi, f, cell, h1, h2, h3, h4, h5, h6⟩ := hC.2 i hi
  obtain ⟨cf', k', fi', f', cell', g1, g2, g3, g4, g5, g6⟩ := hC.2 j hj
  rw [e] at h3
  cases h1.symm.trans g1
  cases h3.symm.trans g3
  have h7 : (.int (vb_c i) : Value) = .int (vb_c j) := Option.some.inj (h5.symm.trans g5)
  exact nI_sub_inj hi hj (Value.int.inj h7)
theorem sift0 {s s' : State} {L : List Loc} {k n : Nat} (h : s.sameButNew s' L k n) (hL : ∀ x ∈ L, s.heap.size ≤ x.base) : s.sameButNew s' [] k n := by
  obtain ⟨h1, h2, h3, h4, h5, h6⟩ := h
  refine ⟨h1, h2, h3, h4, h5, fun a c hc => ?_⟩
  obtain ⟨c', g1, g2, g3, g4⟩ := h6 a c hc
  refine ⟨c', g1, g2, g3, fun i _ => g4 i (fun hm => ?_)⟩
  have h7 := hL _ hm
  have h8 := (Array.getElem?_eq_some_iff.mp hc).1
  exact absurd h8 (Nat.not_lt.mpr h7)
set_option maxRecDepth 100000 in
set_option maxHeartbeats 4000000 in
theorem rep0 {G : GG} {s : State} {iv : Nat → Nat} {cell : Cell} (hX : Sx G s) (hB : gB G = s.heap.size) (hc : s.heap[gE G]? = some cell) (hs1 : cell.vm.isStatics = false) (hs2 : cell.vm ≠ .unknown) (hcl : s.vm.findClass "[Ljava/lang/Object;" = some cell.cls) (hsz : cell.slots.size.toInt32 = nI 0) (hC : vb_C (gI G) (gA G) s s.heap) (hiv : ∀ i, i < 256 → iv (gI G i) = i) : (∀ i, i < 256 → gI G i ≠ gE G) ∧ Rep G (hp0 (gE G) (gI G) iv) s.heap := by
  have hobj : FieldType.object "java/lang/Object" ∈ arTys := by decide
  have e1 : cell.cls = gC G (.object "java/lang/Object") := Option.some.inj (hcl.symm.trans (arrName hX hobj (by decide)))
  obtain ⟨hS, hfc, kC, hkC, hkind⟩ := hX.1.1 0 _ (cl_ok (by decide))
  have hne : ∀ i, i < 256 → gI G i ≠ gE G := fun i hi e => by
    obtain ⟨c2, g1, g2, g3, -⟩ := hC.1 i hi
    rw [e] at g1
    cases hc.symm.trans g1
    have e2 : (gD G).1 0 = gC G (.object "java/lang/Object") := (Option.some.inj ((show s.vm.findClass "java/lang/Integer" = some ((gD G).1 0) from hfc).symm.trans g3)).trans e1
    obtain ⟨t0, ht0⟩ := ty_at (G := G) hobj
    obtain ⟨-, k, hk1, comp, hk2⟩ := (hX.1.2 t0 _ ht0).1 0 (fun _ => .null)
    have hk1 : s.vm.classes[gC G (.object "java/lang/Object")]? = some k := hk1
    rw [e2] at hkC
    cases hkC.symm.trans hk1
    rw [hkind] at hk2
    cases hk2
  have hlt : ∀ a, h_k (hp0 (gE G) (gI G) iv) a ≠ 0 → a = gE G ∨ (a ≠ gE G ∧ iv a < 256 ∧ gI G (iv a) = a) := fun a h => by
    have h : (if a = gE G then 118 else if iv a < 256 ∧ gI G (iv a) = a then 1 else 0) ≠ 0 := h
    by_cases z : a = gE G
    · exact Or.inl z
    · rw [if_neg z] at h
      by_cases z2 : iv a < 256 ∧ gI G (iv a) = a
      · exact Or.inr ⟨z, z2⟩
      · rw [if_neg z2] at h
        exact absurd rfl h
  refine ⟨hne, ⟨[], fun a => ⟨(fun z => nomatch z), fun z => ?_⟩, fun k q hq => ?_, fun i j p q hp => ?_, fun k q hq => ?_⟩, fun a ha hk1 => ?_⟩
  · exfalso
    obtain ⟨z1, z2⟩ := z
    rcases hlt a z2 with e | ⟨-, h2, h3⟩
    · have := (Array.getElem?_eq_some_iff.mp hc).1
      rw [hB, e] at z1
      omega
    · obtain ⟨c2, g1, -⟩ := hC.1 _ h2
      have := (Array.getElem?_eq_some_iff.mp g1).1
      rw [h3] at this
      rw [hB] at z1
      omega
  · have hq : ([] : va_W)[k]? = some q := hq
    rw [List.getElem?_nil] at hq
    cases hq
  · have hp : ([] : va_W)[i]? = some p := hp
    rw [List.getElem?_nil] at hp
    cases hp
  · have hq : ([] : va_W)[k]? = some q := hq
    rw [List.getElem?_nil] at hq
    cases hq
  · rcases hlt a hk1 with e | ⟨h0, h2, h3⟩
    · subst e
      have k1 : h_k (hp0 (gE G) (gI G) iv) (gE G) = 118 := by
        show (if gE G = gE G then 118 else _) = 118
        rw [if_pos rfl]
      refine ⟨?_, Or.inr ⟨k1, rfl⟩⟩
      rw [encE_arr (ty := .object "java/lang/Object") (by rw [k1]; rfl)]
      exact ⟨cell, hc, hs1, hs2, e1, hsz⟩
    · have k1 : h_k (hp0 (gE G) (gI G) iv) a = 0 + 1 := by
        show (if a = gE G then 118 else if iv a < 256 ∧ gI G (iv a) = a then 1 else 0) = 1
        rw [if_neg h0, if_pos ⟨h2, h3⟩]
      refine ⟨?_, Or.inl k1⟩
      rw [encE_obj (ci := 0) k1 (by decide)]
      obtain ⟨c2, g1, g2, g3, -⟩ := hC.1 _ h2
      obtain ⟨cf, kf, fi, f, c3, f1, f2, f3, f4, f5, -⟩ := hC.2 _ h2
      rw [h3] at g1 f3
      cases g1.symm.trans f3
      refine ⟨c2, g1, g2, f4, (Option.some.inj ((show s.vm.findClass "java/lang/Integer" = some ((gD G).1 0) from hfc).symm.trans g3)).symm, fun k v hv => ?_⟩
      have hk0 : k < 1 := by
        have := (List.getElem?_eq_some_iff.mp hv).1
        rwa [encO_len] at this
      have hk0 : k = 0 := by omega
      subst hk0
      rw [encO_get (show 0 < clN 0 by decide)] at hv
      obtain ⟨cf2, kf2, fi2, f9, hi2, hsl⟩ := hS 0 (by decide)
      have hi2 : s.fieldFound? "java/lang/Integer" "value" "I" = some (cf2, kf2, fi2, f9) := hi2
      cases f1.symm.trans hi2
      rw [← hsl]
      have ev : (.int (vb_c (iv a)) : Value) = v := by
        have hv : some ((.int (if a = gE G then 0 else nI (iv a) - nI 128)) : Value) = some v := hv
        rw [if_neg h0] at hv
        exact Option.some.inj hv
      rw [← ev]
      exact f5
