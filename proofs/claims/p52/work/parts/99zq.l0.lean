/-! Methods with handlers: how they are called, and what is caught. -/
def MOkH (y : MI) (n : Nat) : Prop := Cond.codeWith (mN y) (mC y) (mL y) (mR y) (mH y) ∈ lw_good ∧ Cond.initialized (mN y).cls ∈ lw_good ∧ plainName (mN y).cls = true ∧ ((mN y).cls ≠ "java/lang/invoke/MethodHandle" ∧ (mN y).cls ≠ "java/lang/invoke/VarHandle" ∧ (parseMethodDescriptor (mN y).desc).map (fun d => d.parameters.length) = some n) ∧ mL y ≤ 45
abbrev wsOfH (y : MI) : List Cond := Cond.codeWith (mN y) (mC y) (mL y) (mR y) (mH y) :: lw_good
theorem wsOfH_good {y : MI} {n : Nat} (h : MOkH y n) : GoodIn lw_good (wsOfH y) := fun w hw => by
  rcases List.mem_cons.mp hw with rfl | hw
  · exact lw_goodIn' _ h.1
  · exact lw_goodIn' w hw
theorem met_ofH {G : GG} {l : Launch} {y : MI} {n d bc bs : Nat} {as : List AV} {h : Hp} {Q : Pst} (hl : l.stackTraces = false) (hy : MOkH y n) (hw : awords as ≤ mL y) (K : WQ G y d 0 (aargs 0 as) [] h bc bs Q) :
    vx_Met l (mN y) (wsOfH y) (rmOf d bc bs) (pcOf G as h) (QcO G Q) (XcO G Q) bc bs (gA G) := by
  refine vx_ofWH (cc := mC y) (maxL := mL y) (ret := mR y) (hh := mH y) hy.2.2.1 rfl ?_
  intro p e s m args below meth c s₁ B hml hv
  obtain ⟨rfl, hr, hX⟩ := hv
  have hts := atoms_spec (ws := wsOfH y) B.pre
  have C : Ctx G p l (rmOf d bc bs) s m (as.map toV).toArray meth c y d := ⟨B.exec, B.bytes, hml, B.returns, B.notSynchronized, (name_of_methodNamed B.named B.method).1, findClass_of_methodNamed B.named, fun w hw => hts w (List.mem_cons_of_mem _ hw), hX, ⟨Nat.le_refl _, Nat.le_refl _⟩, vx_table (x := mN y) B (hts _ List.mem_cons_self), hl⟩
  rw [lg_entry_eq]
  have hlv := lv_entry (as.map toV) (n := mL y) (by rw [awords_len]; exact hw)
  rw [aargs_map] at hlv
  exact K p l e (rmOf d bc bs) s m _ below meth c C s.heap [] 0 0 _ hr va_S.rf hlv (by show 0 + bc ≤ bc; omega) (by show 0 + bs ≤ bs; omega)
section HC
variable {G : GG} {y y' : MI} {d d' pc idx n : Nat} {lv lv' : LV} {st rest : List AV} {h : Hp} {bc bs mc ms : Nat} {Q Q' : Pst}
theorem callBH_good {R : Room} {s : State} {args : Array Value} {own : String} (hts : ∀ w ∈ lw_good, w.before args s = true) (hy : MOkH y' n) (hl : Cond.methodLink own idx (mN y') ∈ lw_good) (hst : Cond.static (mN y') ∈ lw_good) (h1 : d' + 1 ≤ R.frames) (h2 : 64 * (d' + 1) ≤ R.locals) : vx_CSW R s args own idx (mN y') (mC y') (mL y') (mR y') (mH y') (wsOfH y') (rmOf d' mc ms) mc ms n :=
  vx_cwSW n hts (fun w hw => by
    rcases List.mem_append.mp (show w ∈ ([.methodLink own idx (mN y'), .static (mN y'), .initialized (mN y').cls] : List Cond) ++ wsOfH y' from hw) with h | h
    · rcases List.mem_cons.mp h with rfl | h
      · exact lw_goodIn' _ hl
      · rcases List.mem_cons.mp h with rfl | h
        · exact lw_goodIn' _ hst
        · rcases List.mem_cons.mp h with rfl | h
          · exact lw_goodIn' _ hy.2.1
          · cases h
    · exact wsOfH_good hy w h) rfl rfl rfl hy.2.2.2.1 ⟨h1, by
    have := hy.2.2.2.2
    show 8 + (mL y' + 11) + 64 * d' ≤ R.locals
    omega⟩
/-- a static method with a table -/
theorem wq_cSH (as : List AV) (rest : List AV) (mc ms : Nat) (hd : decode (mC y) pc = .ok (.invokestatic idx, 3)) (hl : Cond.methodLink (mN y).cls idx (mN y') ∈ lw_good) (hst : Cond.static (mN y') ∈ lw_good) (hy : MOkH y' n) (hn : as.length = n) (hw : awords as ≤ mL y') (e : st = as.reverse ++ rest) (hcat : awords rest ≤ 8) (hd1 : d' < d) (h1 : mc ≤ bc) (h2 : ms ≤ bs)
    (K' : WQ G y' d' 0 (aargs 0 as) [] h mc ms (contq G y d (pc + 3) lv rest (bc - mc) (bs - ms) Q pc)) : WQ G y d pc lv st h bc bs Q := by
  subst e
  intro p l e R s m args below meth c C H locs cells slots ls hr hS hl' hc hs
  have hts := C.2.2.2.2.2.2.2.1
  have hX := C.2.2.2.2.2.2.2.2.1
  have h10 := C.2.2.2.2.2.2.2.2.2.1
  have hM := met_ofH (l := l) C.2.2.2.2.2.2.2.2.2.2.2 hy hw K'
  have hcb := callBH_good (R := R) (s := s) (args := args) (mc := mc) (ms := ms) hts hy hl hst (d' := d') (by omega) (by omega)
  have hrun := vx_runSX (As := as.map toV) (rest := rest.map toV) (H := H) (locs := locs) (cells := cells) (slots := slots) (meth := meth) (e := e) (below := below) (g := F0 m pc ls ((as.reverse ++ rest).map toV)) ⟨C.1, C.2.1, C.2.2.1, C.2.2.2.2.2.2.1, hts⟩ hM hcb ⟨pcOf_blind, pcOf_at hr hX hS⟩ rfl (by rw [List.length_map]; exact hn) hl'.1 (by simp) (rest_cat hcat) hd ⟨by omega, by omega⟩
  refine run_go hrun hS (fun v h' H1 locs1 hq hrep hS1 => ?_) (fun E ce q h' H1 locs1 hq hrep hS1 g1 g2 g3 => ?_)
  · have := (show WQ G y d (pc + 3) lv (v.toList ++ rest) h' (bc - mc) (bs - ms) Q from hq) p l e R s m args below meth c C H1 locs1 (cells + mc) (slots + ms) ls hrep hS1 hl' (by omega) (by omega)
    rw [List.map_append] at this
    cases v <;> exact this
  · exact (show WXq G y d pc lv h' (bc - mc) (bs - ms) Q E from hq) p l e R s m args below meth c C H1 locs1 (cells + mc) (slots + ms) ls _ q ce hrep hS1 hl' (by omega) (by omega) g1 g2 g3
theorem wp_cSH (as : List AV) (rest : List AV) (mc ms : Nat) (hd : decode (mC y) pc = .ok (.invokestatic idx, 3)) (hl : Cond.methodLink (mN y).cls idx (mN y') ∈ lw_good) (hst : Cond.static (mN y') ∈ lw_good) (hy : MOkH y' n) (hn : as.length = n) (hw : awords as ≤ mL y') (e : st = as.reverse ++ rest) (hcat : awords rest ≤ 8) (hd1 : d' < d) (h1 : mc ≤ bc) (h2 : ms ≤ bs)
    (K' : WP G y' d' 0 (aargs 0 as) [] h mc ms (cont G y d (pc + 3) lv rest (bc - mc) (bs - ms) Q pc)) : WP G y d pc lv st h bc bs Q := by
  intro α hp oN ol os Q0 oU
  subst e
  have ha := SI.app os
  have ee : sm α (as.reverse ++ rest) = (as.map (am α)).reverse ++ sm α rest := by
    rw [sm, List.map_append, List.map_reverse]
  exact wq_cSH (as.map (am α)) (sm α rest) mc ms hd hl hst hy (by rw [List.length_map]; exact hn) (by rw [show awords (as.map (am α)) = awords (as) from awords_am (as)]; exact hw) ee (by rw [awords_am]; exact hcat) hd1 h1 h2 (K'.callee oN ha.1.rev (cont_up ol ha.2 oU))
/-- what is thrown is caught by the row x -/
theorem wq_catch {E : String} (pre : List (Nat × Nat × Nat × Nat)) (x : Nat × Nat × Nat × Nat) (suf : List (Nat × Nat × Nat × Nat)) (hH : mH y = pre ++ x :: suf)
    (hpass : ∀ z ∈ pre, z.2.2.2 ≠ 0 ∧ ∃ nm : String, Cond.classLink (mN y).cls z.2.2.2 nm ∈ lw_good ∧ (E, nm) ∈ clX) (hx : covers ⟨x.1, x.2.1, x.2.2.1, x.2.2.2⟩ pc = true) (h0 : x.2.2.2 ≠ 0)
    (hl : Cond.classLink (mN y).cls x.2.2.2 E ∈ lw_good) (hc : Cond.castable E E ∈ dwX) (K : ∀ q, WQ G y d x.2.2.1 lv [vr (some q)] h bc bs Q) : WXq G y d pc lv h bc bs Q E := by
  intro p l e R s m args below meth c C H locs cells slots ls rest q ce hr hS hl' hcc hss g1 g2 g3
  have hts := C.2.2.2.2.2.2.2.1
  have hX := C.2.2.2.2.2.2.2.2.1
  have htab := C.2.2.2.2.2.2.2.2.2.2.1
  refine vx_catch (own := (mN y).cls) (name := E) (E := E) (ce := ce) C.2.2.2.2.2.2.1 (tableOf pre) ⟨x.1, x.2.1, x.2.2.1, x.2.2.2⟩ (tableOf suf) (by rw [htab, hH]; unfold tableOf; rw [List.map_append, List.map_cons]) ?_ hx h0 (hts _ hl) ((hX.2.2.1 _ hc).use (dw_tab hc)) g1 g2 g3 ?_
  · intro z hz
    obtain ⟨w, hw, rfl⟩ := List.mem_map.mp hz
    obtain ⟨a, nm, b, c⟩ := hpass w hw
    exact Or.inr ⟨a, nm, hts _ b, hX.2.2.2.2.1 _ c⟩
  · exact K q p l e R s m args below meth c C H locs cells slots ls hr hS hl' hcc hss
theorem am_1 {α : Nat → Nat} {j : Nat} {lv : LV} (hj : ∀ q ∈ lv, q.1 ≠ j ∧ av2 q.2 = false) {v : AV} : ∀ q ∈ lm α lv, q ∈ lset (lm α lv) j v := by
  intro z hz
  obtain ⟨w, hw, rfl⟩ := List.mem_map.mp hz
  obtain ⟨a, b⟩ := hj w hw
  refine List.mem_cons_of_mem _ (List.mem_filter.mpr ⟨hz, ?_⟩)
  simp only [am_av2, b, Bool.and_false, Bool.not_false, Bool.and_true, Bool.not_eq_true', beq_eq_false_iff_ne]
  exact a
theorem wx_catch_n {E : String} {k : Fin 4} {j : Nat} (pre : List (Nat × Nat × Nat × Nat)) (x : Nat × Nat × Nat × Nat) (suf : List (Nat × Nat × Nat × Nat)) (hH : mH y = pre ++ x :: suf)
    (hpass : ∀ z ∈ pre, z.2.2.2 ≠ 0 ∧ ∃ nm : String, Cond.classLink (mN y).cls z.2.2.2 nm ∈ lw_good ∧ (E, nm) ∈ clX) (hx : covers ⟨x.1, x.2.1, x.2.2.1, x.2.2.2⟩ pc = true) (h0 : x.2.2.2 ≠ 0)
    (hl : Cond.classLink (mN y).cls x.2.2.2 E ∈ lw_good) (hc : Cond.castable E E ∈ dwX) (hd : decode (mC y) x.2.2.1 = .ok (.astore_n k, 1)) (hi : (k : Nat) = j) (hb : j < mL y) (hj : ∀ q ∈ lv, q.1 ≠ j ∧ av2 q.2 = false)
    (K : WP G y d (x.2.2.1 + 1) lv [] h bc bs Q) : WX G y d pc lv h bc bs Q E := fun α h' hN hlv Q' hU =>
  wq_catch pre x suf hH hpass hx h0 hl hc (fun q => wq_astore_n hd hi hb rfl (wq_sub (lm α lv) (am_1 hj) (K.of hN hlv SI.nil hU rfl rfl)))
theorem wx_catch {E : String} {j : Nat} (pre : List (Nat × Nat × Nat × Nat)) (x : Nat × Nat × Nat × Nat) (suf : List (Nat × Nat × Nat × Nat)) (hH : mH y = pre ++ x :: suf)
    (hpass : ∀ z ∈ pre, z.2.2.2 ≠ 0 ∧ ∃ nm : String, Cond.classLink (mN y).cls z.2.2.2 nm ∈ lw_good ∧ (E, nm) ∈ clX) (hx : covers ⟨x.1, x.2.1, x.2.2.1, x.2.2.2⟩ pc = true) (h0 : x.2.2.2 ≠ 0)
    (hl : Cond.classLink (mN y).cls x.2.2.2 E ∈ lw_good) (hc : Cond.castable E E ∈ dwX) (hd : decode (mC y) x.2.2.1 = .ok (.astore j, 2)) (hb : j < mL y) (hj : ∀ q ∈ lv, q.1 ≠ j ∧ av2 q.2 = false)
    (K : WP G y d (x.2.2.1 + 2) lv [] h bc bs Q) : WX G y d pc lv h bc bs Q E := fun α h' hN hlv Q' hU =>
  wq_catch pre x suf hH hpass hx h0 hl hc (fun q => wq_astore hd hb rfl (wq_sub (lm α lv) (am_1 hj) (K.of hN hlv SI.nil hU rfl rfl)))
end HC
theorem hj_nil {j : Nat} : ∀ q ∈ ([] : LV), q.1 ≠ j ∧ av2 q.2 = false := fun _ h => nomatch h
theorem hj_cons {j a : Nat} {v : AV} {l : LV} (h : a ≠ j ∧ av2 v = false) (hl : ∀ q ∈ l, q.1 ≠ j ∧ av2 q.2 = false) : ∀ q ∈ (a, v) :: l, q.1 ≠ j ∧ av2 q.2 = false := List.forall_mem_cons.mpr ⟨h, hl⟩
theorem ps_nil {own E : String} : ∀ z ∈ ([] : List (Nat × Nat × Nat × Nat)), z.2.2.2 ≠ 0 ∧ ∃ nm : String, Cond.classLink own z.2.2.2 nm ∈ lw_good ∧ (E, nm) ∈ clX := fun _ h => nomatch h
theorem ps_cons {own E nm : String} {x : Nat × Nat × Nat × Nat} {l : List (Nat × Nat × Nat × Nat)} (h1 : x.2.2.2 ≠ 0) (h2 : Cond.classLink own x.2.2.2 nm ∈ lw_good) (h3 : (E, nm) ∈ clX) (hl : ∀ z ∈ l, z.2.2.2 ≠ 0 ∧ ∃ nm : String, Cond.classLink own z.2.2.2 nm ∈ lw_good ∧ (E, nm) ∈ clX) : ∀ z ∈ x :: l, z.2.2.2 ≠ 0 ∧ ∃ nm : String, Cond.classLink own z.2.2.2 nm ∈ lw_good ∧ (E, nm) ∈ clX := List.forall_mem_cons.mpr ⟨⟨h1, nm, h2, h3⟩, hl⟩
theorem okH_L_deed : MOkH m_L_deed 5 := ⟨lw_in3 65 (by decide +kernel) (by decide +kernel), ini_L, by decide +kernel, ⟨by decide +kernel, by decide +kernel, by decide +kernel⟩, by decide⟩
theorem okH_L_ask : MOkH m_L_ask 4 := ⟨lw_in2 68 (by decide +kernel) (by decide +kernel), ini_L, by decide +kernel, ⟨by decide +kernel, by decide +kernel, by decide +kernel⟩, by decide⟩
