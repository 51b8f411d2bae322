/-! Calls: a method is called by what WQ says of it from its entry; what it throws goes on to WXq. -/
def aargs : Nat → List AV → LV
  | _, [] => []
  | i, v :: vs => (i, v) :: aargs (if av2 v = true then i + 2 else i + 1) vs
def awords (vs : List AV) : Nat := (vs.map fun v => if av2 v = true then 2 else 1).sum
theorem aargs_map : ∀ (i : Nat) (vs : List AV), lv_args i (vs.map toV) = lmap (aargs i vs)
  | _, [] => rfl
  | i, v :: vs => by
    show (i, toV v) :: lv_args (if (toV v).category = 2 then i + 2 else i + 1) (vs.map toV) = (i, toV v) :: lmap (aargs (if av2 v = true then i + 2 else i + 1) vs)
    rw [toV_cat]
    cases av2 v
    · exact congrArg _ (aargs_map (i + 1) vs)
    · exact congrArg _ (aargs_map (i + 2) vs)
theorem awords_len (vs : List AV) : (lg_sl (vs.map toV)).length = awords vs := by
  induction vs with
  | nil => rfl
  | cons v vs ih =>
    have e : lg_sl ((v :: vs).map toV) = (if (toV v).category = 2 then [.val (toV v), .second] else [.val (toV v)]) ++ lg_sl (vs.map toV) := by
      simp [lg_sl]
    rw [e, List.length_append, ih, toV_cat]
    cases h : av2 v <;> simp [awords, h]
abbrev rmOf (d bc bs : Nat) : Room := { frames := d, cells := bc, slots := bs, locals := 64 * d }
abbrev wsOf (y : MI) : List Cond := Cond.code (mN y) (mC y) (mL y) (mR y) :: lw_good
abbrev pcOf (G : GG) (as : List AV) (h : Hp) : Array Value → State → Prop := va_Pc (as.map toV) (fun U => Rep G h U.heap ∧ Sx G U)
def MOk (y : MI) (n : Nat) : Prop := Cond.code (mN y) (mC y) (mL y) (mR y) ∈ lw_good ∧ Cond.initialized (mN y).cls ∈ lw_good ∧ plainName (mN y).cls = true ∧ ((mN y).cls ≠ "java/lang/invoke/MethodHandle" ∧ (mN y).cls ≠ "java/lang/invoke/VarHandle" ∧ (parseMethodDescriptor (mN y).desc).map (fun d => d.parameters.length) = some n) ∧ mL y ≤ 45 ∧ mH y = []
theorem lw_goodIn' : GoodIn lw_good lw_good := fun w hw => ⟨hw, good_of_word (List.mem_filter.mp hw).2⟩
theorem wsOf_good {y : MI} {n : Nat} (h : MOk y n) : GoodIn lw_good (wsOf y) := fun w hw => by
  rcases List.mem_cons.mp hw with rfl | hw
  · exact lw_goodIn' _ h.1
  · exact lw_goodIn' w hw
/-- a method without a table of handlers, as the machine's contract -/
theorem met_of {G : GG} {l : Launch} {y : MI} {n d bc bs : Nat} {as : List AV} {h : Hp} {Q : Pst} (hl : l.stackTraces = false) (hy : MOk y n) (hw : awords as ≤ mL y) (K : WQ G y d 0 (aargs 0 as) [] h bc bs Q) :
    vx_Met l (mN y) (wsOf y) (rmOf d bc bs) (pcOf G as h) (QcO G Q) (XcO G Q) bc bs (gA G) := by
  refine vx_ofW (cc := mC y) (maxL := mL y) (ret := mR y) hy.2.2.1 rfl ?_
  intro p e s m args below meth c s₁ B hml htab hv
  obtain ⟨rfl, hr, hX⟩ := hv
  have hts := atoms_spec (ws := wsOf y) B.pre
  have C : Ctx G p l (rmOf d bc bs) s m (as.map toV).toArray meth c y d := ⟨B.exec, B.bytes, hml, B.returns, B.notSynchronized, (name_of_methodNamed B.named B.method).1, findClass_of_methodNamed B.named, fun w hw => hts w (List.mem_cons_of_mem _ hw), hX, ⟨Nat.le_refl _, Nat.le_refl _⟩, by
    rw [hy.2.2.2.2.2]
    cases hc : c.exceptionTable.toList with
    | nil => rfl
    | cons x r => exact absurd (by rw [hc]; exact List.mem_cons_self) (htab x), hl⟩
  rw [lg_entry_eq]
  have hlv := lv_entry (as.map toV) (n := mL y) (by rw [awords_len]; exact hw)
  rw [aargs_map] at hlv
  exact K p l e (rmOf d bc bs) s m _ below meth c C s.heap [] 0 0 _ hr va_S.rf hlv (by show 0 + bc ≤ bc; omega) (by show 0 + bs ≤ bs; omega)
theorem pcOf_blind {G : GG} {as : List AV} {h : Hp} : FrameBlind (pcOf G as h) := fun a U g mk q => by
  obtain ⟨e, hr, hX⟩ := q
  exact ⟨e, hr, Sx.moved (s := U) (U := U.calling g mk a) (State.WarmedH.refl U) hX.2.1 (fun _ _ => rfl) hX⟩
theorem pcOf_at {G : GG} {as : List AV} {h : Hp} {s : State} {H : Heap} {locs : List Loc} (hr : Rep G h H) (hX : Sx G s) (hS : va_S (gA G) s.heap H locs) : ∀ U : State, U.heap = H → s.WarmedH U.vm → pcOf G as h (as.map toV).toArray U := fun U hU hW =>
  ⟨rfl, by rw [hU]; exact hr, Sx.moved hW (by rw [hU]; exact Nat.le_trans hX.2.1 hS.1) (fun q hq => by rw [hU]; exact hS.2.1 q (Nat.lt_of_lt_of_le hq hX.2.1) (Nat.not_le.mpr hq)) hX⟩
section GO
variable {p : Program} {l : Launch} {e : Env} {R : Room} {s : State} {m : MethodId} {args : Array Value} {below : List Frame} {meth : Method} {c : Code} {H : Heap} {locs : List Loc} {cells slots : Nat} {Qf : State → Prop} {G : GG}
theorem run_go {pc mc ms : Nat} {ls : Array Slot} {rest st0 : List Value} {a : Array Value} {Q : Pst} (hr : vx_Run p l e R s m args below meth c H locs cells slots mc ms (F0 m pc ls st0) rest (QcO G Q a) (XcO G Q) (gA G)) (hS : va_S (gA G) s.heap H locs)
    (kv : ∀ (v : Option AV) (h' : Hp) (H1 : Heap) (locs1 : List Loc), Q (.inl v) h' → Rep G h' H1 → va_S (gA G) s.heap H1 locs1 → W p l e R s m args below meth c H1 locs1 (cells + mc) (slots + ms) Qf (F0 m (pc + 3) ls ((v.map toV).toList ++ rest)))
    (kx : ∀ (E : String) (ce : Cell) (q : Addr) (h' : Hp) (H1 : Heap) (locs1 : List Loc), Q (.inr E) h' → Rep G h' H1 → va_S (gA G) s.heap H1 locs1 → H1[q]? = some ce → ce.vm = .none → s.vm.findClass E = some ce.cls → vx_W p l e R s m args below meth c H1 locs1 (cells + mc) (slots + ms) Qf (F0 m pc ls rest) q) :
    W p l e R s m args below meth c H locs cells slots Qf (F0 m pc ls st0) := by
  intro T hT X
  have hkeep : ∀ {st₀ t T' : State} {L : List Loc}, st₀.heap = H → T'.heap = t.heap → va_F (gA G) st₀ t → (∀ q ∈ L, gA G q.base) → va_S (gA G) s.heap T'.heap (locs ++ L) := by
    intro st₀ t T' L h0 e1 hF hL
    obtain ⟨hz, hk1⟩ := hF
    rw [h0] at hz hk1
    exact ⟨Nat.le_trans hS.1 (by rw [e1]; exact hz), fun q h1 h2 => by rw [e1, hk1 q (Nat.lt_of_lt_of_le h1 hS.1) h2]; exact hS.2.1 q h1 h2, fun q hq => by
      rcases List.mem_append.mp hq with g | g
      · exact hS.2.2 q g
      · exact hL q g⟩
  rcases hr T hT X with ⟨v, st₀, t, T', L, h0, X', hL, e1, e2, ⟨v', h', e3, hq, hrep, hF⟩, st⟩ | ⟨q, st₀, t, T', L, E, ce, h0, X', hL, e1, e2, ⟨h', hq, hrep, hF⟩, g1, g2, g3, st⟩
  · have e4 : v = v'.map toV := by cases e3; rfl
    subst e4
    obtain ⟨t2, a1, b1⟩ := kv v' h' T'.heap (locs ++ L) hq (by rw [e1]; exact hrep) (hkeep h0 e1 hF hL) T' rfl X'
    exact ⟨t2, st t2 a1, b1⟩
  · obtain ⟨t2, a1, b1⟩ := kx E ce q h' T'.heap (locs ++ L) hq (by rw [e1]; exact hrep) (hkeep h0 e1 hF hL) (by rw [e1]; exact g1) g2 g3 T' rfl X'
    exact ⟨t2, Steps.trans st a1, b1⟩
end GO
/-- the walk with an exception of the class E over the frame -/
def WXq (G : GG) (y : MI) (d pc : Nat) (lv : LV) (h : Hp) (bc bs : Nat) (Q : Pst) (E : String) : Prop :=
  ∀ (p : Program) (l : Launch) (e : Env) (R : Room) (s : State) (m : MethodId) (args : Array Value) (below : List Frame) (meth : Method) (c : Code), Ctx G p l R s m args meth c y d →
    ∀ (H : Heap) (locs : List Loc) (cells slots : Nat) (ls : Array Slot) (rest : List Value) (q : Addr) (ce : Cell), Rep G h H → va_S (gA G) s.heap H locs → lv_has ls (mL y) (lmap lv) → cells + bc ≤ R.cells → slots + bs ≤ R.slots →
      H[q]? = some ce → ce.vm = .none → s.vm.findClass E = some ce.cls → vx_W p l e R s m args below meth c H locs cells slots (vx_MQ below (QcO G Q) (XcO G Q) args s R.cells R.slots (gA G)) (F0 m pc ls rest) q
theorem wxq_out {G : GG} {y : MI} {d pc : Nat} {lv : LV} {h : Hp} {bc bs : Nat} {Q : Pst} {E : String} (hy : mH y = []) (hq : Q (.inr E) h) : WXq G y d pc lv h bc bs Q E := by
  intro p l e R s m args below meth c C H locs cells slots ls rest q ce hr hS hl hc hs g1 g2 g3
  obtain ⟨-, -, -, -, c5, -, -, -, -, -, c11, -⟩ := C
  refine vx_out (E := E) (ce := ce) (fun x hx => ?_) c5 g1 g2 g3 (fun t e1 _ => ⟨h, hq, by rw [e1]; exact hr, hS.F e1⟩) hS.2.2 (by omega) (by omega)
  rw [c11, hy] at hx
  cases hx
section RC
variable {G : GG} {y y' : MI} {d d' pc idx n : Nat} {lv : LV} {st rest : List AV} {h : Hp} {bc bs mc ms : Nat} {Q Q' : Pst}
theorem callB_good {R : Room} {s : State} {args : Array Value} {own : String} (hts : ∀ w ∈ lw_good, w.before args s = true) (hy : MOk y' n) (hl : Cond.methodLink own idx (mN y') ∈ lw_good) (h1 : d' + 1 ≤ R.frames) (h2 : 64 * (d' + 1) ≤ R.locals) : CallB R s args own idx (mN y') (mC y') (mL y') (mR y') (wsOf y') (rmOf d' mc ms) mc ms n :=
  callB_of n hts (wsOf_good hy) rfl rfl rfl (hts _ hy.2.1) (hts _ hl) hy.2.2.2.1 ⟨h1, by
    have := hy.2.2.2.2.1
    show 8 + (mL y' + 11) + 64 * d' ≤ R.locals
    omega⟩
/-- a static method -/
theorem wq_callS (as : List AV) (hd : decode (mC y) pc = .ok (.invokestatic idx, 3)) (hl : Cond.methodLink (mN y).cls idx (mN y') ∈ lw_good) (hst : Cond.static (mN y') ∈ lw_good) (hy : MOk y' n) (hn : as.length = n) (hw : awords as ≤ mL y') (e : st = as.reverse ++ rest) (hcat : awords rest ≤ 8) (hd1 : d' < d) (h1 : mc ≤ bc) (h2 : ms ≤ bs)
    (K' : WQ G y' d' 0 (aargs 0 as) [] h mc ms Q') (K : ∀ v h', Q' (.inl v) h' → WQ G y d (pc + 3) lv (v.toList ++ rest) h' (bc - mc) (bs - ms) Q) (KX : ∀ E h', Q' (.inr E) h' → WXq G y d pc lv h' (bc - mc) (bs - ms) Q E) : WQ G y d pc lv st h bc bs Q := by
  subst e
  intro p l e R s m args below meth c C H locs cells slots ls hr hS hl' hc hs
  have hts := C.2.2.2.2.2.2.2.1
  have hX := C.2.2.2.2.2.2.2.2.1
  have h10 := C.2.2.2.2.2.2.2.2.2.1
  have hM := met_of (l := l) C.2.2.2.2.2.2.2.2.2.2.2 hy hw K'
  have hcb := callB_good (R := R) (s := s) (args := args) (mc := mc) (ms := ms) hts hy hl (d' := d') (by omega) (by omega)
  have hrun := vx_runS (As := as.map toV) (rest := rest.map toV) (H := H) (locs := locs) (cells := cells) (slots := slots) (meth := meth) (e := e) (below := below) (g := F0 m pc ls ((as.reverse ++ rest).map toV)) ⟨C.1, C.2.1, C.2.2.1, C.2.2.2.2.2.2.1, hts⟩ hM ⟨hcb, hts _ hst⟩ ⟨pcOf_blind, pcOf_at hr hX hS⟩ rfl (by rw [List.length_map]; exact hn) hl'.1 (by simp) (by
    have := cat_sum (st := rest)
    have h0 : awords rest ≤ 8 := hcat
    unfold awords at h0
    rw [← this] at h0
    exact lv_room h0) hd ⟨by omega, by omega⟩
  refine run_go hrun hS (fun v h' H1 locs1 hq hrep hS1 => ?_) (fun E ce q h' H1 locs1 hq hrep hS1 g1 g2 g3 => ?_)
  · have := K v h' hq p l e R s m args below meth c C H1 locs1 (cells + mc) (slots + ms) ls hrep hS1 hl' (by omega) (by omega)
    rw [List.map_append] at this
    cases v <;> exact this
  · exact KX E h' hq p l e R s m args below meth c C H1 locs1 (cells + mc) (slots + ms) ls _ q ce hrep hS1 hl' (by omega) (by omega) g1 g2 g3
/-- a method of an object -/
theorem wq_callV {b : Nat} (ci : Nat) (as : List AV) (hd : decode (mC y) pc = .ok (.invokevirtual idx, 3)) (hl : Cond.methodLink (mN y).cls idx (mN y') ∈ lw_good) (hin : Cond.instanceMethod (mN y') ∈ lw_good) (hsel : Cond.selects (clR ci) (mN y') (mN y') ∈ lw_good) (hci : ci < 18) (hb : h_k h b = ci + 1) (hy : MOk y' n) (hn : as.length = n) (hw : awords (vr (some b) :: as) ≤ mL y') (e : st = as.reverse ++ vr (some b) :: rest) (hcat : awords rest ≤ 8) (hd1 : d' < d) (h1 : mc ≤ bc) (h2 : ms ≤ bs)
    (K' : WQ G y' d' 0 (aargs 0 (vr (some b) :: as)) [] h mc ms Q') (K : ∀ v h', Q' (.inl v) h' → WQ G y d (pc + 3) lv (v.toList ++ rest) h' (bc - mc) (bs - ms) Q) (KX : ∀ E h', Q' (.inr E) h' → WXq G y d pc lv h' (bc - mc) (bs - ms) Q E) : WQ G y d pc lv st h bc bs Q := by
  subst e
  intro p l e R s m args below meth c C H locs cells slots ls hr hS hl' hc hs
  have hts := C.2.2.2.2.2.2.2.1
  have hX := C.2.2.2.2.2.2.2.2.1
  have h10 := C.2.2.2.2.2.2.2.2.2.1
  have hM := met_of (l := l) C.2.2.2.2.2.2.2.2.2.2.2 hy hw K'
  have hcb := callB_good (R := R) (s := s) (args := args) (mc := mc) (ms := ms) hts hy hl (d' := d') (by omega) (by omega)
  have hrun := vx_runV (C := clR ci) (b := b) (As := as.map toV) (rest := rest.map toV) (H := H) (locs := locs) (cells := cells) (slots := slots) (meth := meth) (e := e) (below := below) (g := F0 m pc ls ((as.reverse ++ vr (some b) :: rest).map toV)) ⟨C.1, C.2.1, C.2.2.1, C.2.2.2.2.2.2.1, hts⟩ hM ⟨hcb, hts _ hin, hts _ hsel⟩ ⟨pcOf_blind, hr.recv hb hci hX.1, pcOf_at (as := vr (some b) :: as) hr hX hS⟩ rfl (by rw [List.length_map]; exact hn) hl'.1 (by simp; rfl) (by
    have := cat_sum (st := rest)
    have h0 : awords rest ≤ 8 := hcat
    unfold awords at h0
    rw [← this] at h0
    exact lv_room h0) hd ⟨by omega, by omega⟩
  refine run_go hrun hS (fun v h' H1 locs1 hq hrep hS1 => ?_) (fun E ce q h' H1 locs1 hq hrep hS1 g1 g2 g3 => ?_)
  · have := K v h' hq p l e R s m args below meth c C H1 locs1 (cells + mc) (slots + ms) ls hrep hS1 hl' (by omega) (by omega)
    rw [List.map_append] at this
    cases v <;> exact this
  · exact KX E h' hq p l e R s m args below meth c C H1 locs1 (cells + mc) (slots + ms) ls _ q ce hrep hS1 hl' (by omega) (by omega) g1 g2 g3
/-- a constructor -/
theorem wq_callI {b : Nat} (as : List AV) (hd : decode (mC y) pc = .ok (.invokespecial idx, 3)) (hl : Cond.methodLink (mN y).cls idx (mN y') ∈ lw_good) (hin : Cond.instanceMethod (mN y') ∈ lw_good) (hnm : (mN y').name = "<init>") (hr0 : mR y' = none) (hy : MOk y' n) (hn : as.length = n) (hw : awords (vr (some b) :: as) ≤ mL y') (e : st = as.reverse ++ vr (some b) :: rest) (hcat : awords rest ≤ 8) (hd1 : d' < d) (h1 : mc ≤ bc) (h2 : ms ≤ bs)
    (K' : WQ G y' d' 0 (aargs 0 (vr (some b) :: as)) [] h mc ms Q') (K : ∀ v h', Q' (.inl v) h' → WQ G y d (pc + 3) lv (v.toList ++ rest) h' (bc - mc) (bs - ms) Q) (KX : ∀ E h', Q' (.inr E) h' → WXq G y d pc lv h' (bc - mc) (bs - ms) Q E) : WQ G y d pc lv st h bc bs Q := by
  subst e
  intro p l e R s m args below meth c C H locs cells slots ls hr hS hl' hc hs
  have hts := C.2.2.2.2.2.2.2.1
  have hX := C.2.2.2.2.2.2.2.2.1
  have h10 := C.2.2.2.2.2.2.2.2.2.1
  have hM := met_of (l := l) C.2.2.2.2.2.2.2.2.2.2.2 hy hw K'
  have hcb : CallB R s args (mN y).cls idx (mN y') (mC y') (mL y') none (wsOf y') (rmOf d' mc ms) mc ms n := by
    have := callB_good (R := R) (s := s) (args := args) (mc := mc) (ms := ms) hts hy hl (d' := d') (by omega) (by omega)
    rwa [hr0] at this
  have hrun := vx_runI (b := b) (As := as.map toV) (rest := rest.map toV) (H := H) (locs := locs) (cells := cells) (slots := slots) (meth := meth) (e := e) (below := below) (g := F0 m pc ls ((as.reverse ++ vr (some b) :: rest).map toV)) ⟨C.1, C.2.1, C.2.2.1, C.2.2.2.2.2.2.1, hts⟩ hM ⟨hcb, hnm, hts _ hin⟩ ⟨pcOf_blind, pcOf_at (as := vr (some b) :: as) hr hX hS⟩ rfl (by rw [List.length_map]; exact hn) hl'.1 (by simp; rfl) (by
    have := cat_sum (st := rest)
    have h0 : awords rest ≤ 8 := hcat
    unfold awords at h0
    rw [← this] at h0
    exact lv_room h0) hd ⟨by omega, by omega⟩
  refine run_go hrun hS (fun v h' H1 locs1 hq hrep hS1 => ?_) (fun E ce q h' H1 locs1 hq hrep hS1 g1 g2 g3 => ?_)
  · have := K v h' hq p l e R s m args below meth c C H1 locs1 (cells + mc) (slots + ms) ls hrep hS1 hl' (by omega) (by omega)
    rw [List.map_append] at this
    cases v <;> exact this
  · exact KX E h' hq p l e R s m args below meth c C H1 locs1 (cells + mc) (slots + ms) ls _ q ce hrep hS1 hl' (by omega) (by omega) g1 g2 g3
end RC
