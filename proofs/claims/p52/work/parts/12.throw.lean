/-! throw new E("text") -/
def dwB (w : Cond) : Bool := match w with | .castable _ _ => true | .methodLinkNest _ _ _ _ => true | .fieldLinkNest _ _ _ _ _ _ => true | .declares _ => true | _ => false
theorem dw_mem (i : Nat) {w : Cond} (h : lw_tbl[i]? = some w) (hg : dwB w = true) : w ∈ dwX := List.mem_filter.mpr ⟨List.mem_of_getElem? h, hg⟩
abbrev nmE : List String := ["java/lang/RuntimeException", "java/lang/Exception"]
def thrB (own : String) (ic : Nat) (cls : String) : Bool := (vx_atS own ic cls nmE).all (fun w => decide (w ∈ lw_tbl) && (goodWord w || dwB w))
def ThrOk (own : String) (ik ic : Nat) (cls : String) : Prop := Cond.classLink own ik cls ∈ lw_good ∧ Cond.initialized cls ∈ lw_good ∧ Bundle.fit cls = true ∧ (∀ w ∈ vx_atS own ic cls nmE, w ∈ lw_good ∨ w ∈ dwX)
theorem thrOk_of {own cls : String} {ik ic : Nat} (h1 : Cond.classLink own ik cls ∈ lw_good) (h2 : Cond.initialized cls ∈ lw_good) (h3 : Bundle.fit cls = true) (h4 : thrB own ic cls = true) : ThrOk own ik ic cls := ⟨h1, h2, h3, fun w hw => by
  have h := List.all_eq_true.mp h4 w hw
  simp only [Bool.and_eq_true, decide_eq_true_eq, Bool.or_eq_true] at h
  rcases h.2 with g | g
  · exact Or.inl (List.mem_filter.mpr ⟨h.1, g⟩)
  · exact Or.inr (List.mem_filter.mpr ⟨h.1, g⟩)⟩
theorem good_ot {w : Cond} (h : w ∈ lw_good) : vx_ot w = true := by
  unfold vx_ot
  rw [(List.mem_filter.mp h).2, Bool.or_true]
theorem dw_ot {w : Cond} (h : w ∈ dwX) : vx_ot w = true := by
  have h2 := (List.mem_filter.mp h).2
  unfold vx_ot
  cases w with
  | castable a b => rfl
  | methodLinkNest a b c d => rfl
  | fieldLinkNest a b c d e f => rfl
  | declares a => rfl
  | _ => cases h2
theorem dw_tab {w : Cond} (h : w ∈ dwX) : w.onTables = true := by
  have h2 := (List.mem_filter.mp h).2
  cases w with
  | castable a b => rfl
  | methodLinkNest a b c d => rfl
  | fieldLinkNest a b c d e f => rfl
  | declares a => rfl
  | _ => cases h2
theorem Rep.kept {G : GG} {h : Hp} {H H1 : Heap} (hr : Rep G h H) (hH : ∀ q : Nat, q < H.size → H1[q]? = H[q]?) : Rep G h H1 := by
  obtain ⟨⟨L, h1, h2, h3⟩, h4⟩ := hr
  exact ⟨⟨L, h1, h2.kept (fun k q hq => hH _ (h2 k q hq).lt), h3⟩, fun a ha ha0 => (h4 a ha ha0).imp (fun g => ⟨g.1.kept (hH _ g.1.lt), g.2⟩) id⟩
theorem wq_throw {G : GG} {y : MI} {d pc : Nat} {lv : LV} {h : Hp} {bc bs : Nat} {Q : Pst} {E text : String} {ik is ic : Nat} (d0 : decode (mC y) pc = .ok (.new ik, 3)) (d3 : decode (mC y) (pc + 3) = .ok (.dup, 1)) (d4 : decode (mC y) (pc + 4) = .ok (.ldc_w is, 3)) (d7 : decode (mC y) (pc + 7) = .ok (.invokespecial ic, 3)) (d10 : decode (mC y) (pc + 10) = .ok (.athrow, 1))
    (ht : ThrOk (mN y).cls ik ic E) (hs : ((mN y).cls, is, text) ∈ srX) (hy : mH y = []) (hd : 6 ≤ d) (hbc : 1 ≤ bc) (hbs : 6 ≤ bs) (hq : Q (.inr E) h) : WQ G y d pc lv [] h bc bs Q := by
  intro p l e R s m args below meth c C H locs cells slots ls hr hS hl hc hss
  obtain ⟨c1, c2, c3, c4, c5, c6, c7, c8, hX, c10, c11, c12⟩ := C
  obtain ⟨t1, t2, t3, t4⟩ := ht
  obtain ⟨x1, x2, x3, x4, x5, x6, x7, x8, -⟩ := hX.2.2
  obtain ⟨sa, hsa⟩ := x4 _ hs
  refine vx_throwSW (names := nmE) c1 c2 c12 c7 t3 (by decide) (c8 _ t1) (c8 _ t2) hsa (fun w hw => ?_) (fun w hw => ?_) x7 x8 hS (hl.1.trans c3.symm) d0 d3 d4 d7 d10 (fun x hx => ?_) (by show 2 + 3 < R.frames; omega) (by show 0 + (13 * (2 + 1) + 43) ≤ R.locals; omega) (by omega) (by omega) c5 (fun t hv hz hk1 => ?_) hS.2.2 (by omega) (by omega)
  · rcases t4 w hw with g | g
    · exact c8 w g
    · exact (x1 w g).use (dw_tab g)
  · rcases List.mem_cons.mp hw with rfl | hw
    · exact good_ot t1
    · rcases List.mem_cons.mp hw with rfl | hw
      · exact good_ot t2
      · rcases t4 w hw with g | g
        · exact good_ot g
        · exact dw_ot g
  · rw [c11, hy] at hx
    cases hx
  · exact ⟨h, hq, hr.kept hk1, Nat.le_trans hS.1 hz, fun q h1 h2 => (hk1 q (Nat.lt_of_lt_of_le h1 hS.1)).trans (hS.2.1 q h1 h2)⟩
