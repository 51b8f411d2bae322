/-! Calls by an interface: an iterator's two methods. -/
section GO5
variable {p : Program} {l : Launch} {e : Env} {R : Room} {s : State} {m : MethodId} {args : Array Value} {below : List Frame} {meth : Method} {c : Code} {H : Heap} {locs : List Loc} {cells slots : Nat} {Qf : State → Prop} {G : GG}
theorem run_go5 {pc mc ms : Nat} {ls : Array Slot} {rest st0 : List Value} {a : Array Value} {Q : Pst} (hr : vx_Run5 p l e R s m args below meth c H locs cells slots mc ms (F0 m pc ls st0) rest (QcO G Q a) (XcO G Q) (gA G)) (hS : va_S (gA G) s.heap H locs)
    (kv : ∀ (v : Option AV) (h' : Hp) (H1 : Heap) (locs1 : List Loc), Q (.inl v) h' → Rep G h' H1 → va_S (gA G) s.heap H1 locs1 → W p l e R s m args below meth c H1 locs1 (cells + mc) (slots + ms) Qf (F0 m (pc + 5) ls ((v.map toV).toList ++ rest)))
    (kx : ∀ (E : String) (ce : Cell) (q : Addr) (h' : Hp) (H1 : Heap) (locs1 : List Loc), Q (.inr E) h' → Rep G h' H1 → va_S (gA G) s.heap H1 locs1 → H1[q]? = some ce → ce.vm = .none → s.vm.findClass E = some ce.cls → vx_W p l e R s m args below meth c H1 locs1 (cells + mc) (slots + ms) Qf (F0 m pc ls rest) q) :
    W p l e R s m args below meth c H locs cells slots Qf (F0 m pc ls st0) := by
  intro T hT X
  have hkeep : ∀ {st₀ t T' : State} {L : List Loc}, st₀.heap = H → T'.heap = t.heap → va_F (gA G) st₀ t → (∀ q ∈ L, gA G q.base) → va_S (gA G) s.heap T'.heap (locs ++ L) := by
    intro st₀ t T' L h0 e1 hF hL
    obtain ⟨hz, hk1⟩ := hF
    rw [h0] at hz hk1
    exact ⟨Nat.le_trans hS.1 (by rw [e1]; exact hz), fun q h1 h2 => by rw [e1, hk1 q (Nat.lt_of_lt_of_le h1 hS.1) h2]; exact hS.2.1 q h1 h2, fun q hq => by
      rcases List.mem_append.mp hq with g | g
      · exact hS.2.2 q g
      · exact hL q g⟩
  rcases hr T hT X with ⟨v, st₀, t, T', L, h0, X', hL, e1, e2, ⟨v', h', e3, hq, hrep, hF⟩, st⟩ | ⟨q, st₀, t, T', L, E, ce, h0, X', hL, e1, e2, ⟨h', hq, hrep, hF⟩, g1, g2, g3, st⟩
  · have e4 : v = v'.map toV := by cases e3; rfl
    subst e4
    obtain ⟨t2, a1, b1⟩ := kv v' h' T'.heap (locs ++ L) hq (by rw [e1]; exact hrep) (hkeep h0 e1 hF hL) T' rfl X'
    exact ⟨t2, st t2 a1, b1⟩
  · obtain ⟨t2, a1, b1⟩ := kx E ce q h' T'.heap (locs ++ L) hq (by rw [e1]; exact hrep) (hkeep h0 e1 hF hL) (by rw [e1]; exact g1) g2 g3 T' rfl X'
    exact ⟨t2, Steps.trans st a1, b1⟩
end GO5
section RF
variable {G : GG} {y y' : MI} {d d' pc idx n count : Nat} {lv : LV} {st rest : List AV} {h : Hp} {bc bs mc ms : Nat} {Q : Pst}
theorem wq_cF {b : Nat} {x : MethodName} (as : List AV) (rest : List AV) (mc ms : Nat) (hd : decode (mC y) pc = .ok (.invokeinterface idx count, 5)) (hl : Cond.methodLink (mN y).cls idx x ∈ lw_good) (hsel : Cond.selects cItr x (mN y') ∈ lw_good) (hin : Cond.instanceMethod (mN y') ∈ lw_good) (hF : ∀ U, Sy G U → va_Fw cItr x (mN y') U) (hx : x.cls ≠ "java/lang/invoke/MethodHandle" ∧ x.cls ≠ "java/lang/invoke/VarHandle" ∧ (parseMethodDescriptor x.desc).map (fun d => d.parameters.length) = some n) (hb : h_k h b = 2) (hy : MOk y' n) (hn : as.length = n) (hw : awords (vr (some b) :: as) ≤ mL y') (e : st = as.reverse ++ vr (some b) :: rest) (hcat : awords rest ≤ 8) (hd1 : d' < d) (h1 : mc ≤ bc) (h2 : ms ≤ bs)
    (K' : WQ G y' d' 0 (aargs 0 (vr (some b) :: as)) [] h mc ms (contq G y d (pc + 5) lv rest (bc - mc) (bs - ms) Q pc)) : WQ G y d pc lv st h bc bs Q := by
  subst e
  intro p l e R s m args below meth c C H locs cells slots ls hr hS hl' hc hs
  have hts := C.2.2.2.2.2.2.2.1
  have hX := C.2.2.2.2.2.2.2.2.1
  have h10 := C.2.2.2.2.2.2.2.2.2.1
  have hM := met_of (l := l) C.2.2.2.2.2.2.2.2.2.2.2 hy hw K'
  have hT : GoodIn lw_good (va_wsF (mN y).cls idx cItr x (mN y') (wsOf y')) := fun w hw' => by
    rcases List.mem_append.mp hw' with g | g
    · rcases List.mem_cons.mp g with g | g
      · rw [g]; exact lw_goodIn' _ hl
      · rcases List.mem_cons.mp g with g | g
        · rw [g]; exact lw_goodIn' _ hsel
        · rcases List.mem_cons.mp g with g | g
          · rw [g]; exact lw_goodIn' _ hin
          · rcases List.mem_cons.mp g with g | g
            · rw [g]; exact lw_goodIn' _ hy.2.1
            · cases g
    · exact wsOf_good hy w g
  have hcb : va_CI R s args (mN y).cls cItr idx x (mN y') (mC y') (mL y') (mR y') (wsOf y') (rmOf d' mc ms) mc ms n := va_cwF n hts hT rfl rfl rfl (hF s hX.2.2) hx ⟨by show d' + 1 ≤ _; omega, by
    have := hy.2.2.2.2.1
    show 8 + (mL y' + 11) + 64 * d' ≤ R.locals
    omega⟩
  have hrun := vx_runF (C := cItr) (b := b) (As := as.map toV) (rest := rest.map toV) (H := H) (locs := locs) (cells := cells) (slots := slots) (meth := meth) (e := e) (below := below) (g := F0 m pc ls ((as.reverse ++ vr (some b) :: rest).map toV)) (hX.1.1 1 _ rfl).2 ⟨C.1, C.2.1, C.2.2.1, C.2.2.2.2.2.2.1, hts⟩ hM hcb ⟨pcOf_blind, hr.recv (ci := 1) hb (by decide) hX.1, pcOf_at (as := vr (some b) :: as) hr hX hS⟩ rfl (by rw [List.length_map]; exact hn) hl'.1 (by simp; rfl) (by
    have := cat_sum (st := rest)
    have h0 : awords rest ≤ 8 := hcat
    unfold awords at h0
    rw [← this] at h0
    exact lv_room h0) hd ⟨by omega, by omega⟩
  refine run_go5 hrun hS (fun v h' H1 locs1 hq hrep hS1 => ?_) (fun E ce q h' H1 locs1 hq hrep hS1 g1 g2 g3 => ?_)
  · have := (show WQ G y d (pc + 5) lv (v.toList ++ rest) h' (bc - mc) (bs - ms) Q from hq) p l e R s m args below meth c C H1 locs1 (cells + mc) (slots + ms) ls hrep hS1 hl' (by omega) (by omega)
    rw [List.map_append] at this
    cases v <;> exact this
  · exact (show WXq G y d pc lv h' (bc - mc) (bs - ms) Q E from hq) p l e R s m args below meth c C H1 locs1 (cells + mc) (slots + ms) ls _ q ce hrep hS1 hl' (by omega) (by omega) g1 g2 g3
end RF
