/-! Throws whose text has a small index. -/
section NXG
variable {p : Program} {l : Launch} {e : Env} {R : Room} {s : State} {m : MethodId} {args : Array Value} {below : List Frame} {meth : Method} {c : Code} {H : Heap} {locs : List Loc} {cells slots : Nat} {Qc : Array Value → State → Outcome → State → Prop} {XC : String → State → State → Prop} {free : Addr → Prop} {ls : Array Slot} {rest : List Value}
theorem nx_throwS {cc : ByteArray} {pc : Nat} (hexec : p.tables.exec = Jvm.exec) (hb : c.code = cc) (hl : l.stackTraces = false) {own cls text sup : String} {names : List String} {ik is ic mc ms sa ix : Nat} {rx : ByteArray} (x0 : decode rx 0 = .ok (.aload_n 0, 1)) (x1 : decode rx 1 = .ok (.aload_n 1, 1)) (x2 : decode rx 2 = .ok (.invokespecial ix, 3)) (x5 : decode rx 5 = .ok (.return_, 1)) (hsup : Bundle.fit sup = true) {A : Nat → Prop}
    (hown : s.vm.findClass own = some m.cls) (hcls : Bundle.fit cls = true) (hnames : ∀ n ∈ names, Bundle.fit n = true)
    (hk : (Cond.classLink own ik cls).before args s = true) (hini : (Cond.initialized cls).before args s = true) (hstr : vk_R own is text sa s) (hat : ∀ w ∈ nx_atS own ic cls ix rx sup names, w.before args s = true)
    (hgood : ∀ w ∈ Cond.classLink own ik cls :: Cond.initialized cls :: nx_atS own ic cls ix rx sup names, vx_ot w = true)
    (hU : vx_Zq Bundle.tN "UNASSIGNED_STACK" Bundle.steD A s s.heap) (hN : vx_Zq Bundle.tN "SUPPRESSED_SENTINEL" Bundle.listD A s s.heap) (hS : va_S A s.heap H locs) (hsize : ls.size = c.maxLocals)
    (d0 : decode cc pc = .ok (.new ik, 3)) (d3 : decode cc (pc + 3) = .ok (.dup, 1)) (d4 : decode cc (pc + 4) = .ok (.ldc is, 2)) (d6 : decode cc (pc + 6) = .ok (.invokespecial ic, 3)) (d9 : decode cc (pc + 9) = .ok (.athrow, 1))
    (hout : ∀ x ∈ c.exceptionTable.toList, covers x (pc + 9) = false)
    (hRframes : names.length + 4 < R.frames) (hRlocals : (rest.map fun v => v.category).sum + (13 * (names.length + 2) + 43) ≤ R.locals) (hRcells : cells + 1 ≤ R.cells) (hRslots : slots + 6 ≤ R.slots) (hlocks : meth.locks = false)
    (hx : ∀ t : State, s.vm.Alike t.vm → H.size ≤ t.heap.size → (∀ q : Nat, q < H.size → t.heap[q]? = H[q]?) → XC cls s t)
    (hf : ∀ z ∈ locs, free z.base) (hc : cells + 1 ≤ mc) (hs : slots + 6 ≤ ms) :
    W p l e R s m args below meth c H locs cells slots (vx_MQ below Qc XC args s mc ms free) (F0 m pc ls rest) := by
  intro T hT X
  have htr : e.platform.stackTraces = false := (show e.platform.stackTraces = l.stackTraces by rw [X.admits.platform]).trans hl
  have Y := vx_rebase X (R' := { frames := R.frames, locals := R.locals, cells := 1, slots := 6 }) (Nat.le_refl _) (Nat.le_refl _) hRcells hRslots
  obtain ⟨s', hA⟩ : ∃ z, z = (T.setVm s.vm).setFrames (.invoking m args :: below) := ⟨_, rfl⟩
  rw [← hA] at Y
  have hvm : s'.vm = s.vm := by rw [hA]; rfl
  have hhp : s'.heap = H := by rw [hA]; exact hT
  have hW0 : s.WarmedH s'.vm := by rw [hvm]; exact State.WarmedH.refl s
  have hat' : ∀ w ∈ nx_atS own ic cls ix rx sup names, w.before args s' = true := fun w hw => vx_ot_at hW0 hvm.symm (hgood w (List.mem_cons_of_mem _ (List.mem_cons_of_mem _ hw))) (hat w hw)
  have hk' : (Cond.classLink own ik cls).before args s' = true := vx_ot_at hW0 hvm.symm (hgood _ List.mem_cons_self) hk
  have hini' : (Cond.initialized cls).before args s' = true := vx_ot_at hW0 hvm.symm (hgood _ (List.mem_cons_of_mem _ List.mem_cons_self)) hini
  have hU' : vx_Zq Bundle.tN "UNASSIGNED_STACK" Bundle.steD A s' s'.heap := by rw [hhp]; exact vx_Zq.moved hW0.alike (hU.kept hS.2.1)
  have hN' : vx_Zq Bundle.tN "SUPPRESSED_SENTINEL" Bundle.listD A s' s'.heap := by rw [hhp]; exact vx_Zq.moved hW0.alike (hN.kept hS.2.1)
  have h : ∀ w ∈ nx_atoms own ic cls ix rx sup names, w.before args s' = true := vx_own hat' (vx_isRefq hU'.1) (vx_isRefq hN'.1) hU'.2.word hN'.2.word
  have hown' : s'.vm.findClass own = some m.cls := by rw [hvm]; exact hown
  have hins : (Cond.instantiable cls 6).before args s' = true := h _ (by simp [nx_atoms])
  obtain ⟨vm₁, cX, kX, hfX, hkX, -, -, X₁, st1⟩ := Y.newCold hexec (own := own) (C := cls) (index := ik) (n := 6) hown' hk' hins hini'
    (g := F0 m pc ls rest) rfl (by rw [hb]; exact d0) (Nat.le_refl _) (Nat.le_refl _)
  generalize hT1 : (T.setVm vm₁).pushCell { cls := cX, slots := kX.instanceTypes.map defaultValue, vm := .none } = T1 at X₁ st1
  have hcat : (Value.ref T.heap.size).category = 1 := rfl
  have hcellA : T1.heap[T.heap.size]? = some (freshCell cX kX) := by rw [← hT1]; exact State.heap_pushCell_size _ _
  have d3' : decode c.code (pc + 3) = .ok (.dup, 1) := by rw [hb]; exact d3
  have d4' : decode c.code (pc + 4) = .ok (.ldc is, 2) := by rw [hb]; exact d4
  have hstr' : vk_R own is text sa s' := vk_R.warm hW0 hstr
  obtain ⟨V, ce, L9, X2, hL9, hlt9, hc9, hv9, st9⟩ := nx_ctorMadeS X₁ hexec htr x0 x1 x2 x5 hsup (own := own) (cls := cls) (names := names) (ic := ic) hown' hcls hnames h (fun x hx => nomatch hx) hfX hkX hcellA (by rw [hhp, hT]; exact Nat.le_refl _) (msg := .ref sa) rfl
    (g := { method := m, pc := pc + 6, locals := ls, stack := .ref sa :: .ref T.heap.size :: .ref T.heap.size :: rest, locked := none }) rfl hsize (rest := rest) rfl
    (by rw [hb]; exact d6) hRframes (by simp only [List.map_cons, List.sum_cons, hcat]; omega)
  have X3 := Stand.forget (locs := []) X2 (fun q hq => by
    rw [hL9 q hq, hhp, hT]
    exact Nat.le_refl _)
  obtain ⟨hwalk, hrun, hend, hW, hsame⟩ := X3.athrowLeaves hexec (g := { method := m, pc := pc + 6 + 3, locals := ls, stack := .ref T.heap.size :: rest, locked := none }) rfl rfl rfl hout (a := T.heap.size) (rest := rest) rfl (by rw [hb]; exact d9)
  have hsteps := st9 _ hwalk
  generalize hU9 : State.setFrames (V.setCell T.heap.size ce) (.throwing T.heap.size :: below) = U at hsteps hrun hend hW hsame
  have hce : U.heap[T.heap.size]? = some ce := by rw [← hU9]; exact heapAt_setCell_self _ hlt9
  obtain ⟨f1, f2⟩ := vx_frame hsame
  rw [hhp] at f1 f2
  have hWs : s.WarmedH U.vm := State.WarmedH.trans hW0 hW
  have hcl : s.vm.findClass cls = some ce.cls := by
    rw [hc9, ← hvm]
    exact hfX
  have hall : s.sameButNew ({ U with vm := s.vm } : State) locs mc ms := by
    subst hA
    obtain ⟨e1, e2⟩ := hsame
    rw [State.setFrames_setFrames] at e1
    have h2 : (T.setVm s.vm).sameButNew ({ U with vm := s.vm } : State) [] (0 + 1) (0 + 6) := ⟨e1, e2⟩
    have h3 := X.same.trans h2
    rw [List.append_nil] at h3
    exact h3.mono hc hs
  refine ⟨U, ?_, .threw T.heap.size, hrun, hend, Or.inr ⟨T.heap.size, rfl, cls, ce, locs, hx U hWs.alike f1 (fun q hq => f2 q hq (fun z hz => nomatch hz)), hce, hv9, hcl, hWs, hall, hf⟩⟩
  refine st1 _ ?_
  show Steps p.tables e below (T1.setTop { method := m, pc := pc + 3, locals := ls, stack := .ref T.heap.size :: rest, locked := none }) _
  jvm_step X₁.here [X₁.here.top, hexec, d3', Value.category]
  exact X₁.ldcString hexec (own := own) (text := text) (index := is) (a := sa) hown' hstr'.1 hstr'.2
    (g := { method := m, pc := pc + 4, locals := ls, stack := .ref T.heap.size :: .ref T.heap.size :: rest, locked := none }) rfl d4' _ hsteps
end NXG
theorem wq_throwL {G : GG} {y : MI} {d pc : Nat} {lv : LV} {h : Hp} {bc bs : Nat} {Q : Pst} {E text : String} {ik is ic : Nat} (d0 : decode (mC y) pc = .ok (.new ik, 3)) (d3 : decode (mC y) (pc + 3) = .ok (.dup, 1)) (d4 : decode (mC y) (pc + 4) = .ok (.ldc is, 2)) (d6 : decode (mC y) (pc + 6) = .ok (.invokespecial ic, 3)) (d9 : decode (mC y) (pc + 9) = .ok (.athrow, 1))
    (ht : ThrOk (mN y).cls ik ic E) (hs : ((mN y).cls, is, text) ∈ srX) (hy : mH y = []) (hd : 6 ≤ d) (hbc : 1 ≤ bc) (hbs : 6 ≤ bs) (hq : Q (.inr E) h) : WQ G y d pc lv [] h bc bs Q := by
  intro p l e R s m args below meth c C H locs cells slots ls hr hS hl hc hss
  obtain ⟨c1, c2, c3, c4, c5, c6, c7, c8, hX, c10, c11, c12⟩ := C
  obtain ⟨t1, t2, t3, t4⟩ := ht
  obtain ⟨x1, x2, x3, x4, x5, x6, x7, x8, -⟩ := hX.2.2
  obtain ⟨sa, hsa⟩ := x4 _ hs
  refine vx_throwS (names := nmE) c1 c2 c12 c7 t3 (by decide) (c8 _ t1) (c8 _ t2) hsa (fun w hw => ?_) (fun w hw => ?_) x7 x8 hS (hl.1.trans c3.symm) d0 d3 d4 d6 d9 (fun x hx => ?_) (by show 2 + 3 < R.frames; omega) (by show 0 + (13 * (2 + 1) + 43) ≤ R.locals; omega) (by omega) (by omega) c5 (fun t hv hz hk1 => ?_) hS.2.2 (by omega) (by omega)
  · rcases t4 w hw with g | g
    · exact c8 w g
    · exact (x1 w g).use (dw_tab g)
  · rcases List.mem_cons.mp hw with rfl | hw
    · exact good_ot t1
    · rcases List.mem_cons.mp hw with rfl | hw
      · exact good_ot t2
      · rcases t4 w hw with g | g
        · exact good_ot g
        · exact dw_ot g
  · rw [c11, hy] at hx
    cases hx
  · exact ⟨h, hq, hr.kept hk1, Nat.le_trans hS.1 hz, fun q h1 h2 => (hk1 q (Nat.lt_of_lt_of_le h1 hS.1)).trans (hS.2.1 q h1 h2)⟩

theorem wq_throwNL {G : GG} {y : MI} {d pc : Nat} {lv : LV} {h : Hp} {bc bs : Nat} {Q : Pst} {text : String} {is : Nat} (d0 : decode (mC y) pc = .ok (.new 137, 3)) (d3 : decode (mC y) (pc + 3) = .ok (.dup, 1)) (d4 : decode (mC y) (pc + 4) = .ok (.ldc is, 2)) (d6 : decode (mC y) (pc + 6) = .ok (.invokespecial 141, 3)) (d9 : decode (mC y) (pc + 9) = .ok (.athrow, 1))
    (hown : (mN y).cls = RX11) (hs : ((mN y).cls, is, text) ∈ srX) (hy : mH y = []) (hd : 6 ≤ d) (hbc : 1 ≤ bc) (hbs : 6 ≤ bs) (hq : Q (.inr "java/util/NoSuchElementException") h) : WQ G y d pc lv [] h bc bs Q := by
  intro p l e R s m args below meth c C H locs cells slots ls hr hS hl hc hss
  obtain ⟨c1, c2, c3, c4, c5, c6, c7, c8, hX, c10, c11, c12⟩ := C
  obtain ⟨x1, x2, x3, x4, x5, x6, x7, x8, -⟩ := hX.2.2
  obtain ⟨sa, hsa⟩ := x4 _ hs
  rw [hown] at c7 hsa
  refine nx_throwS (sup := "java/lang/RuntimeException") (ix := 13) (rx := prog_44_method_4_code) (names := ["java/lang/Exception"]) (cls := "java/util/NoSuchElementException") c1 c2 c12 (by decide +kernel) (by decide +kernel) (by decide +kernel) (by decide +kernel) (by decide +kernel) c7 (by decide +kernel) (by decide) (c8 _ kl_X11_137) (c8 _ ini_java_util_NoSuchElementException) hsa (fun w hw => ?_) (fun w hw => ?_) x7 x8 hS (hl.1.trans c3.symm) d0 d3 d4 d6 d9 (fun x hx => ?_) (by show 1 + 4 < R.frames; omega) (by show 0 + (13 * (1 + 2) + 43) ≤ R.locals; omega) (by omega) (by omega) c5 (fun t hv hz hk1 => ?_) hS.2.2 (by omega) (by omega)
  · rcases nx_in w hw with g | g
    · exact c8 w g
    · exact (x1 w g).use (dw_tab g)
  · rcases List.mem_cons.mp hw with rfl | hw
    · exact good_ot kl_X11_137
    · rcases List.mem_cons.mp hw with rfl | hw
      · exact good_ot ini_java_util_NoSuchElementException
      · rcases nx_in w hw with g | g
        · exact good_ot g
        · exact dw_ot g
  · rw [c11, hy] at hx
    cases hx
  · exact ⟨h, hq, hr.kept hk1, Nat.le_trans hS.1 hz, fun q h1 h2 => (hk1 q (Nat.lt_of_lt_of_le h1 hS.1)).trans (hS.2.1 q h1 h2)⟩

section NM9
variable {G : GG} {y : MI} {d pc : Nat} {lv : LV} {st : List AV} {h : Hp} {bc bs : Nat} {Q : Pst}
theorem wp_throwL {E text : String} {ik is ic : Nat} (d0 : decode (mC y) pc = .ok (.new ik, 3)) (d3 : decode (mC y) (pc + 3) = .ok (.dup, 1)) (d4 : decode (mC y) (pc + 4) = .ok (.ldc is, 2)) (d6 : decode (mC y) (pc + 6) = .ok (.invokespecial ic, 3)) (d9 : decode (mC y) (pc + 9) = .ok (.athrow, 1))
    (ht : ThrOk (mN y).cls ik ic E) (hs : ((mN y).cls, is, text) ∈ srX) (hy : mH y = []) (hd : 6 ≤ d) (hbc : 1 ≤ bc) (hbs : 6 ≤ bs) (hq : Q (.inr E) h) : WP G y d pc lv [] h bc bs Q := fun α h0 hN hl hs0 Q0 hU =>
  wq_throwL d0 d3 d4 d6 d9 ht hs hy hd hbc hbs (hU α h h0 (.inr E) hN (ext.rf rfl) trivial hq)
theorem wp_throwNL {text : String} {is : Nat} (d0 : decode (mC y) pc = .ok (.new 137, 3)) (d3 : decode (mC y) (pc + 3) = .ok (.dup, 1)) (d4 : decode (mC y) (pc + 4) = .ok (.ldc is, 2)) (d6 : decode (mC y) (pc + 6) = .ok (.invokespecial 141, 3)) (d9 : decode (mC y) (pc + 9) = .ok (.athrow, 1))
    (hown : (mN y).cls = RX11) (hs : ((mN y).cls, is, text) ∈ srX) (hy : mH y = []) (hd : 6 ≤ d) (hbc : 1 ≤ bc) (hbs : 6 ≤ bs) (hq : Q (.inr "java/util/NoSuchElementException") h) : WP G y d pc lv [] h bc bs Q := fun α h0 hN hl hs0 Q0 hU =>
  wq_throwNL d0 d3 d4 d6 d9 hown hs hy hd hbc hbs (hU α h h0 (.inr _) hN (ext.rf rfl) trivial hq)

end NM9
