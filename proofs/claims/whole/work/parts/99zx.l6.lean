/-! The model's calls, over the whole state. -/
def GQ (Q : Pst) (h : Hp) (cd an : Int32) (V' : SV) (n' : Nat) (x' : Nat → QIS) (R' : RS) : Prop :=
  ∀ h', MDL h' V' n' x' R' → FG h h' → h_I h' (nm 1 0) 0 = cd → Q (oRet (vi an)) h'
theorem PVi.h40 {V : SV} {k : Nat} (hS : SVI V) (hk : k < sNv V) (ht : sTy V k = 109) : sSz V k ≤ 40 := ((hS.2.1 k hk).2.2.2.1 ht).2.1
set_option maxRecDepth 100000 in
set_option maxHeartbeats 4000000 in
theorem w_vector {G : GG} {d bc bs c M n : Nat} {h : Hp} {Q : Pst} {V : SV} {x : Nat → QIS} {R : RS}  (B : PUR c V M n x R) (hc : c < 512) (D : MDL h V n x R) (J : JC h)  (hd : 70 ≤ d) (hbc : 0 ≤ bc) (hbs : 0 ≤ bs) (hq : GQ Q h (o_vector V).1 (o_vector V).2.1 (o_vector V).2.2 n x R) : WP G m_X16_vector d 0 (aargs 0 [vr (some (nm 1 0))]) [] h bc bs Q := by
  obtain ⟨hS, hW, hmd, hMc, hX, hRB, hLF⟩ := B
  have hb1 := hRB.1
  have hnv := hS.1
  have hn12 := hX.1.2.1
  have hWB := hW.1
  exact c_X16_vector D.1 hWB (by omega) (by omega) (fun h9 e1 e2 e3 => hq h9 (D.ofV e1 e3).1 (D.ofV e1 e3).2 e2)
set_option maxRecDepth 100000 in
set_option maxHeartbeats 4000000 in
theorem w_append {G : GG} {d bc bs c M n : Nat} {h : Hp} {Q : Pst} {V : SV} {x : Nat → QIS} {R : RS} {u : Int32} {e : Int32} (B : PUR c V M n x R) (hc : c < 512) (D : MDL h V n x R) (J : JC h)  (hd : 70 ≤ d) (hbc : 0 ≤ bc) (hbs : 0 ≤ bs) (hq : GQ Q h (o_append V u (tn u) e).1 (o_append V u (tn u) e).2.1 (o_append V u (tn u) e).2.2 n x R) : WP G m_X16_append d 0 (aargs 0 [vr (some (nm 1 0)), vi u, vi e]) [] h bc bs Q := by
  obtain ⟨hS, hW, hmd, hMc, hX, hRB, hLF⟩ := B
  have hb1 := hRB.1
  have hnv := hS.1
  have hn12 := hX.1.2.1
  have hWB := hW.1
  exact c_X16_append D.1 hWB (by omega) (ix_tn (by omega)) (by omega) (fun h9 e1 e2 e3 => hq h9 (D.ofV e1 e3).1 (D.ofV e1 e3).2 e2)
set_option maxRecDepth 100000 in
set_option maxHeartbeats 4000000 in
theorem w_set {G : GG} {d bc bs c M n : Nat} {h : Hp} {Q : Pst} {V : SV} {x : Nat → QIS} {R : RS} {u : Int32} {i : Int32} {e : Int32} (B : PUR c V M n x R) (hc : c < 512) (D : MDL h V n x R) (J : JC h)  (hd : 70 ≤ d) (hbc : 0 ≤ bc) (hbs : 0 ≤ bs) (hq : GQ Q h (o_set V u (tn u) i (tn i) e).1 (o_set V u (tn u) i (tn i) e).2.1 (o_set V u (tn u) i (tn i) e).2.2 n x R) : WP G m_X16_set d 0 (aargs 0 [vr (some (nm 1 0)), vi u, vi i, vi e]) [] h bc bs Q := by
  obtain ⟨hS, hW, hmd, hMc, hX, hRB, hLF⟩ := B
  have hb1 := hRB.1
  have hnv := hS.1
  have hn12 := hX.1.2.1
  have hWB := hW.1
  have hsz : ∀ j, sSz V j < 2 ^ 31 := fun j => by have := hWB.2.2.2.1 j; omega
  exact c_X16_set D.1 hWB (by omega) (ix_tn (by omega)) (ix_tn (hsz _)) (by omega) (fun h9 e1 e2 e3 => hq h9 (D.ofV e1 e3).1 (D.ofV e1 e3).2 e2)
set_option maxRecDepth 100000 in
set_option maxHeartbeats 4000000 in
theorem w_cut {G : GG} {d bc bs c M n : Nat} {h : Hp} {Q : Pst} {V : SV} {x : Nat → QIS} {R : RS} {u : Int32} (B : PUR c V M n x R) (hc : c < 512) (D : MDL h V n x R) (J : JC h)  (hd : 70 ≤ d) (hbc : 0 ≤ bc) (hbs : 0 ≤ bs) (hq : GQ Q h (o_cut V u (tn u)).1 (o_cut V u (tn u)).2.1 (o_cut V u (tn u)).2.2 n x R) : WP G m_X16_cut d 0 (aargs 0 [vr (some (nm 1 0)), vi u]) [] h bc bs Q := by
  obtain ⟨hS, hW, hmd, hMc, hX, hRB, hLF⟩ := B
  have hb1 := hRB.1
  have hnv := hS.1
  have hn12 := hX.1.2.1
  have hWB := hW.1
  exact c_X16_cut D.1 hWB (by omega) (ix_tn (by omega)) (by omega) (fun h9 e1 e2 e3 => hq h9 (D.ofV e1 e3).1 (D.ofV e1 e3).2 e2)
set_option maxRecDepth 100000 in
set_option maxHeartbeats 4000000 in
theorem w_depth {G : GG} {d bc bs c M n : Nat} {h : Hp} {Q : Pst} {V : SV} {x : Nat → QIS} {R : RS} {u : Int32} (B : PUR c V M n x R) (hc : c < 512) (D : MDL h V n x R) (J : JC h)  (hd : 70 ≤ d) (hbc : 0 ≤ bc) (hbs : 0 ≤ bs) (hq : GQ Q h (o_depth V u (tn u)).1 (o_depth V u (tn u)).2.1 (o_depth V u (tn u)).2.2 n x R) : WP G m_X16_depth d 0 (aargs 0 [vr (some (nm 1 0)), vi u]) [] h bc bs Q := by
  obtain ⟨hS, hW, hmd, hMc, hX, hRB, hLF⟩ := B
  have hb1 := hRB.1
  have hnv := hS.1
  have hn12 := hX.1.2.1
  have hWB := hW.1
  exact c_X16_depth D.1 hWB (ix_tn (by omega)) (by omega) (fun h9 e1 e2 e3 => hq h9 (D.ofV e1 e3).1 (D.ofV e1 e3).2 e2)
set_option maxRecDepth 100000 in
set_option maxHeartbeats 4000000 in
theorem w_open {G : GG} {d bc bs c M n : Nat} {h : Hp} {Q : Pst} {V : SV} {x : Nat → QIS} {R : RS} {u : Int32} (B : PUR c V M n x R) (hc : c < 512) (D : MDL h V n x R) (J : JC h)  (hd : 70 ≤ d) (hbc : 0 ≤ bc) (hbs : 0 ≤ bs) (hq : GQ Q h (o_open V u (tn u)).1 (o_open V u (tn u)).2.1 (o_open V u (tn u)).2.2 n x R) : WP G m_X16_open d 0 (aargs 0 [vr (some (nm 1 0)), vi u]) [] h bc bs Q := by
  obtain ⟨hS, hW, hmd, hMc, hX, hRB, hLF⟩ := B
  have hb1 := hRB.1
  have hnv := hS.1
  have hn12 := hX.1.2.1
  have hWB := hW.1
  exact c_X16_open D.1 hWB (by omega) (ix_tn (by omega)) (by omega) (fun h9 e1 e2 e3 => hq h9 (D.ofV e1 e3).1 (D.ofV e1 e3).2 e2)
set_option maxRecDepth 100000 in
set_option maxHeartbeats 4000000 in
theorem w_appendTo {G : GG} {d bc bs c M n : Nat} {h : Hp} {Q : Pst} {V : SV} {x : Nat → QIS} {R : RS} {u : Int32} {e : Int32} (B : PUR c V M n x R) (hc : c < 512) (D : MDL h V n x R) (J : JC h)  (hd : 70 ≤ d) (hbc : 0 ≤ bc) (hbs : 0 ≤ bs) (hq : GQ Q h (o_appendTo V u (tn u) e).1 (o_appendTo V u (tn u) e).2.1 (o_appendTo V u (tn u) e).2.2 n x R) : WP G m_X16_appendTo d 0 (aargs 0 [vr (some (nm 1 0)), vi u, vi e]) [] h bc bs Q := by
  obtain ⟨hS, hW, hmd, hMc, hX, hRB, hLF⟩ := B
  have hb1 := hRB.1
  have hnv := hS.1
  have hn12 := hX.1.2.1
  have hWB := hW.1
  exact c_X16_appendTo D.1 hWB (ix_tn (by omega)) (by omega) (by omega) (fun h9 e1 e2 e3 => hq h9 (D.ofV e1 e3).1 (D.ofV e1 e3).2 e2)
set_option maxRecDepth 100000 in
set_option maxHeartbeats 4000000 in
theorem w_setIn {G : GG} {d bc bs c M n : Nat} {h : Hp} {Q : Pst} {V : SV} {x : Nat → QIS} {R : RS} {u : Int32} {i : Int32} {e : Int32} (B : PUR c V M n x R) (hc : c < 512) (D : MDL h V n x R) (J : JC h)  (hd : 70 ≤ d) (hbc : 0 ≤ bc) (hbs : 0 ≤ bs) (hq : GQ Q h (o_setIn V u (tn u) i (tn i) e).1 (o_setIn V u (tn u) i (tn i) e).2.1 (o_setIn V u (tn u) i (tn i) e).2.2 n x R) : WP G m_X16_setIn d 0 (aargs 0 [vr (some (nm 1 0)), vi u, vi i, vi e]) [] h bc bs Q := by
  obtain ⟨hS, hW, hmd, hMc, hX, hRB, hLF⟩ := B
  have hb1 := hRB.1
  have hnv := hS.1
  have hn12 := hX.1.2.1
  have hWB := hW.1
  have hsz : ∀ j, sSz V j < 2 ^ 31 := fun j => by have := hWB.2.2.2.1 j; omega
  exact c_X16_setIn D.1 hWB (ix_tn (by omega)) (ix_tn (hsz _)) (by omega) (by omega) (fun h9 e1 e2 e3 => hq h9 (D.ofV e1 e3).1 (D.ofV e1 e3).2 e2)
set_option maxRecDepth 100000 in
set_option maxHeartbeats 4000000 in
theorem w_makeLasting {G : GG} {d bc bs c M n : Nat} {h : Hp} {Q : Pst} {V : SV} {x : Nat → QIS} {R : RS} {u : Int32} (B : PUR c V M n x R) (hc : c < 512) (D : MDL h V n x R) (J : JC h)  (hd : 70 ≤ d) (hbc : 0 ≤ bc) (hbs : 0 ≤ bs) (hq : GQ Q h (o_lasting V u (tn u)).1 (o_lasting V u (tn u)).2.1 (o_lasting V u (tn u)).2.2 n x R) : WP G m_X16_makeLasting d 0 (aargs 0 [vr (some (nm 1 0)), vi u]) [] h bc bs Q := by
  obtain ⟨hS, hW, hmd, hMc, hX, hRB, hLF⟩ := B
  have hb1 := hRB.1
  have hnv := hS.1
  have hn12 := hX.1.2.1
  have hWB := hW.1
  exact c_X16_makeLasting D.1 hWB (by omega) (ix_tn (by omega)) (by omega) (fun h9 e1 e2 e3 => hq h9 (D.ofV e1 e3).1 (D.ofV e1 e3).2 e2)
set_option maxRecDepth 100000 in
set_option maxHeartbeats 4000000 in
theorem w_isOpen {G : GG} {d bc bs c M n : Nat} {h : Hp} {Q : Pst} {V : SV} {x : Nat → QIS} {R : RS} {u : Int32} (B : PUR c V M n x R) (hc : c < 512) (D : MDL h V n x R) (J : JC h)  (hd : 70 ≤ d) (hbc : 0 ≤ bc) (hbs : 0 ≤ bs) (hq : GQ Q h (o_isOpen V u (tn u)).1 (o_isOpen V u (tn u)).2.1 (o_isOpen V u (tn u)).2.2 n x R) : WP G m_X16_isOpen d 0 (aargs 0 [vr (some (nm 1 0)), vi u]) [] h bc bs Q := by
  obtain ⟨hS, hW, hmd, hMc, hX, hRB, hLF⟩ := B
  have hb1 := hRB.1
  have hnv := hS.1
  have hn12 := hX.1.2.1
  have hWB := hW.1
  exact c_X16_isOpen D.1 hWB (ix_tn (by omega)) (by omega) (fun h9 e1 e2 e3 => hq h9 (D.ofV e1 e3).1 (D.ofV e1 e3).2 e2)
set_option maxRecDepth 100000 in
set_option maxHeartbeats 4000000 in
theorem w_map {G : GG} {d bc bs c M n : Nat} {h : Hp} {Q : Pst} {V : SV} {x : Nat → QIS} {R : RS}  (B : PUR c V M n x R) (hc : c < 512) (D : MDL h V n x R) (J : JC h)  (hd : 70 ≤ d) (hbc : 0 ≤ bc) (hbs : 0 ≤ bs) (hq : GQ Q h (o_map V).1 (o_map V).2.1 (o_map V).2.2 n x R) : WP G m_X16_map d 0 (aargs 0 [vr (some (nm 1 0))]) [] h bc bs Q := by
  obtain ⟨hS, hW, hmd, hMc, hX, hRB, hLF⟩ := B
  have hb1 := hRB.1
  have hnv := hS.1
  have hn12 := hX.1.2.1
  have hWB := hW.1
  exact c_X16_map D.1 hWB (by omega) (by omega) (fun h9 e1 e2 e3 => hq h9 (D.ofV e1 e3).1 (D.ofV e1 e3).2 e2)
set_option maxRecDepth 100000 in
set_option maxHeartbeats 4000000 in
theorem w_put {G : GG} {d bc bs c M n : Nat} {h : Hp} {Q : Pst} {V : SV} {x : Nat → QIS} {R : RS} {u : Int32} {w : Int32} {e : Int32} (B : PUR c V M n x R) (hc : c < 512) (D : MDL h V n x R) (J : JC h)  (hd : 70 ≤ d) (hbc : 0 ≤ bc) (hbs : 0 ≤ bs) (hq : GQ Q h (o_put V u (tn u) w (tn w) e).1 (o_put V u (tn u) w (tn w) e).2.1 (o_put V u (tn u) w (tn w) e).2.2 n x R) : WP G m_X16_put d 0 (aargs 0 [vr (some (nm 1 0)), vi u, vi w, vi e]) [] h bc bs Q := by
  obtain ⟨hS, hW, hmd, hMc, hX, hRB, hLF⟩ := B
  have hb1 := hRB.1
  have hnv := hS.1
  have hn12 := hX.1.2.1
  have hWB := hW.1
  exact c_X16_put D.1 hWB (ix_tn (by omega)) (ix_tn (by decide)) hWB.2.2.2.1 (fun z => (Classical.em (sTy V (tn u) = 109)).elim (fun e => Or.inl (by have := PVi.h40 hS (ix_tn (by omega) z).2 e; omega)) (fun e => Or.inr (Or.inr e))) (by omega) (by omega) (fun h9 e1 e2 e3 => hq h9 (D.ofV e1 e3).1 (D.ofV e1 e3).2 e2)
set_option maxRecDepth 100000 in
set_option maxHeartbeats 4000000 in
theorem w_without {G : GG} {d bc bs c M n : Nat} {h : Hp} {Q : Pst} {V : SV} {x : Nat → QIS} {R : RS} {u : Int32} {w : Int32} (B : PUR c V M n x R) (hc : c < 512) (D : MDL h V n x R) (J : JC h)  (hd : 70 ≤ d) (hbc : 0 ≤ bc) (hbs : 0 ≤ bs) (hq : GQ Q h (o_without V u (tn u) w (tn w)).1 (o_without V u (tn u) w (tn w)).2.1 (o_without V u (tn u) w (tn w)).2.2 n x R) : WP G m_X16_without d 0 (aargs 0 [vr (some (nm 1 0)), vi u, vi w]) [] h bc bs Q := by
  obtain ⟨hS, hW, hmd, hMc, hX, hRB, hLF⟩ := B
  have hb1 := hRB.1
  have hnv := hS.1
  have hn12 := hX.1.2.1
  have hWB := hW.1
  have hpo : ixB u (sNv V) = true → sTy V (tn u) = 109 → tn w < 1000 → sHs V (1000 * tn u + tn w) = true → 1 ≤ sSz V (tn u) := fun z e q1 q2 => by
    have a := (hS.2.1 _ (ix_tn (by omega) z).2).2.2.2.1 e
    have b : 1 ≤ ct (hsv V (tn u)) 0 0 := ct_pos q1 (by rw [hsv_at q1]; exact q2) btN_0
    have e2 : sSz V (tn u) = ct (hsv V (tn u)) 0 0 := a.1
    omega
  exact c_X16_without D.1 hWB (ix_tn (by omega)) (ix_tn (by decide)) hpo (by omega) (by omega) (fun h9 e1 e2 e3 => hq h9 (D.ofV e1 e3).1 (D.ofV e1 e3).2 e2)
set_option maxRecDepth 100000 in
set_option maxHeartbeats 4000000 in
theorem w_get {G : GG} {d bc bs c M n : Nat} {h : Hp} {Q : Pst} {V : SV} {x : Nat → QIS} {R : RS} {u : Int32} {w : Int32} (B : PUR c V M n x R) (hc : c < 512) (D : MDL h V n x R) (J : JC h)  (hd : 70 ≤ d) (hbc : 0 ≤ bc) (hbs : 0 ≤ bs) (hq : GQ Q h (o_get V u (tn u) w (tn w)).1 (o_get V u (tn u) w (tn w)).2.1 (o_get V u (tn u) w (tn w)).2.2 n x R) : WP G m_X16_get d 0 (aargs 0 [vr (some (nm 1 0)), vi u, vi w]) [] h bc bs Q := by
  obtain ⟨hS, hW, hmd, hMc, hX, hRB, hLF⟩ := B
  have hb1 := hRB.1
  have hnv := hS.1
  have hn12 := hX.1.2.1
  have hWB := hW.1
  exact c_X16_get D.1 hWB (ix_tn (by omega)) (ix_tn (by decide)) (by omega) (fun h9 e1 e2 e3 => hq h9 (D.ofV e1 e3).1 (D.ofV e1 e3).2 e2)
set_option maxRecDepth 100000 in
set_option maxHeartbeats 4000000 in
theorem w_getPlain {G : GG} {d bc bs c M n : Nat} {h : Hp} {Q : Pst} {V : SV} {x : Nat → QIS} {R : RS} {u : Int32} {w : Int32} (B : PUR c V M n x R) (hc : c < 512) (D : MDL h V n x R) (J : JC h)  (hd : 70 ≤ d) (hbc : 0 ≤ bc) (hbs : 0 ≤ bs) (hq : GQ Q h (o_get V u (tn u) w (tn w)).1 (o_get V u (tn u) w (tn w)).2.1 (o_get V u (tn u) w (tn w)).2.2 n x R) : WP G m_X16_getPlain d 0 (aargs 0 [vr (some (nm 1 0)), vi u, vi w]) [] h bc bs Q := by
  obtain ⟨hS, hW, hmd, hMc, hX, hRB, hLF⟩ := B
  have hb1 := hRB.1
  have hnv := hS.1
  have hn12 := hX.1.2.1
  have hWB := hW.1
  exact c_X16_getPlain D.1 hWB (ix_tn (by omega)) (ix_tn (by decide)) (by omega) (fun h9 e1 e2 e3 => hq h9 (D.ofV e1 e3).1 (D.ofV e1 e3).2 e2)
set_option maxRecDepth 100000 in
set_option maxHeartbeats 4000000 in
theorem w_levelOf {G : GG} {d bc bs c M n : Nat} {h : Hp} {Q : Pst} {V : SV} {x : Nat → QIS} {R : RS} {u : Int32} {w : Int32} (B : PUR c V M n x R) (hc : c < 512) (D : MDL h V n x R) (J : JC h)  (hd : 70 ≤ d) (hbc : 0 ≤ bc) (hbs : 0 ≤ bs) (hq : GQ Q h (o_levelOf V u (tn u) w (tn w)).1 (o_levelOf V u (tn u) w (tn w)).2.1 (o_levelOf V u (tn u) w (tn w)).2.2 n x R) : WP G m_X16_levelOf d 0 (aargs 0 [vr (some (nm 1 0)), vi u, vi w]) [] h bc bs Q := by
  obtain ⟨hS, hW, hmd, hMc, hX, hRB, hLF⟩ := B
  have hb1 := hRB.1
  have hnv := hS.1
  have hn12 := hX.1.2.1
  have hWB := hW.1
  exact c_X16_levelOf D.1 hWB (ix_tn (by omega)) (ix_tn (by decide)) (by omega) (fun h9 e1 e2 e3 => hq h9 (D.ofV e1 e3).1 (D.ofV e1 e3).2 e2)
set_option maxRecDepth 100000 in
set_option maxHeartbeats 4000000 in
theorem w_size {G : GG} {d bc bs c M n : Nat} {h : Hp} {Q : Pst} {V : SV} {x : Nat → QIS} {R : RS} {u : Int32} (B : PUR c V M n x R) (hc : c < 512) (D : MDL h V n x R) (J : JC h)  (hd : 70 ≤ d) (hbc : 0 ≤ bc) (hbs : 0 ≤ bs) (hq : GQ Q h (o_size V u (tn u)).1 (o_size V u (tn u)).2.1 (o_size V u (tn u)).2.2 n x R) : WP G m_X16_size d 0 (aargs 0 [vr (some (nm 1 0)), vi u]) [] h bc bs Q := by
  obtain ⟨hS, hW, hmd, hMc, hX, hRB, hLF⟩ := B
  have hb1 := hRB.1
  have hnv := hS.1
  have hn12 := hX.1.2.1
  have hWB := hW.1
  exact c_X16_size D.1 hWB (ix_tn (by omega)) (by omega) (fun h9 e1 e2 e3 => hq h9 (D.ofV e1 e3).1 (D.ofV e1 e3).2 e2)
set_option maxRecDepth 100000 in
set_option maxHeartbeats 4000000 in
theorem w_nodes {G : GG} {d bc bs c M n : Nat} {h : Hp} {Q : Pst} {V : SV} {x : Nat → QIS} {R : RS} {u : Int32} (B : PUR c V M n x R) (hc : c < 512) (D : MDL h V n x R) (J : JC h)  (hd : 70 ≤ d) (hbc : 0 ≤ bc) (hbs : 0 ≤ bs) (hq : GQ Q h (o_nodes V u (tn u)).1 (o_nodes V u (tn u)).2.1 (o_nodes V u (tn u)).2.2 n x R) : WP G m_X16_nodes d 0 (aargs 0 [vr (some (nm 1 0)), vi u]) [] h bc bs Q := by
  obtain ⟨hS, hW, hmd, hMc, hX, hRB, hLF⟩ := B
  have hb1 := hRB.1
  have hnv := hS.1
  have hn12 := hX.1.2.1
  have hWB := hW.1
  exact c_X16_nodes D.1 hWB (ix_tn (by omega)) (by omega) (fun h9 e1 e2 e3 => hq h9 (D.ofV e1 e3).1 (D.ofV e1 e3).2 e2)
set_option maxRecDepth 100000 in
set_option maxHeartbeats 4000000 in
theorem w_shared {G : GG} {d bc bs c M n : Nat} {h : Hp} {Q : Pst} {V : SV} {x : Nat → QIS} {R : RS} {u : Int32} {u2 : Int32} (B : PUR c V M n x R) (hc : c < 512) (D : MDL h V n x R) (J : JC h)  (hd : 70 ≤ d) (hbc : 0 ≤ bc) (hbs : 0 ≤ bs) (hq : GQ Q h (o_shared V u (tn u) u2 (tn u2)).1 (o_shared V u (tn u) u2 (tn u2)).2.1 (o_shared V u (tn u) u2 (tn u2)).2.2 n x R) : WP G m_X16_shared d 0 (aargs 0 [vr (some (nm 1 0)), vi u, vi u2]) [] h bc bs Q := by
  obtain ⟨hS, hW, hmd, hMc, hX, hRB, hLF⟩ := B
  have hb1 := hRB.1
  have hnv := hS.1
  have hn12 := hX.1.2.1
  have hWB := hW.1
  exact c_X16_shared D.1 hWB (ix_tn (by omega)) (ix_tn (by omega)) (by omega) (fun h9 e1 e2 e3 => hq h9 (D.ofV e1 e3).1 (D.ofV e1 e3).2 e2)
set_option maxRecDepth 100000 in
set_option maxHeartbeats 4000000 in
theorem w_areSame {G : GG} {d bc bs c M n : Nat} {h : Hp} {Q : Pst} {V : SV} {x : Nat → QIS} {R : RS} {u : Int32} {u2 : Int32} (B : PUR c V M n x R) (hc : c < 512) (D : MDL h V n x R) (J : JC h)  (hd : 70 ≤ d) (hbc : 0 ≤ bc) (hbs : 0 ≤ bs) (hq : GQ Q h (o_areSame V u (tn u) u2 (tn u2)).1 (o_areSame V u (tn u) u2 (tn u2)).2.1 (o_areSame V u (tn u) u2 (tn u2)).2.2 n x R) : WP G m_X16_areSame d 0 (aargs 0 [vr (some (nm 1 0)), vi u, vi u2]) [] h bc bs Q := by
  obtain ⟨hS, hW, hmd, hMc, hX, hRB, hLF⟩ := B
  have hb1 := hRB.1
  have hnv := hS.1
  have hn12 := hX.1.2.1
  have hWB := hW.1
  exact c_X16_areSame D.1 hWB (ix_tn (by omega)) (ix_tn (by omega)) (by omega) (fun h9 e1 e2 e3 => hq h9 (D.ofV e1 e3).1 (D.ofV e1 e3).2 e2)
set_option maxRecDepth 100000 in
set_option maxHeartbeats 4000000 in
theorem w_range {G : GG} {d bc bs c M n : Nat} {h : Hp} {Q : Pst} {V : SV} {x : Nat → QIS} {R : RS} {a : Int32} {b : Int32} {c9 : Int32} (B : PUR c V M n x R) (hc : c < 512) (D : MDL h V n x R) (J : JC h)  (hd : 70 ≤ d) (hbc : 6 ≤ bc) (hbs : 100 ≤ bs) (hq : GQ Q h (o_range n x a b c9 (tn c9)).1 (o_range n x a b c9 (tn c9)).2.1 V (o_range n x a b c9 (tn c9)).2.2.1 (o_range n x a b c9 (tn c9)).2.2.2 R) : WP G m_X16_range d 0 (aargs 0 [vr (some (nm 1 0)), vi a, vi b, vi c9]) [] h bc bs Q := by
  obtain ⟨hS, hW, hmd, hMc, hX, hRB, hLF⟩ := B
  have hb1 := hRB.1
  have hnv := hS.1
  have hn12 := hX.1.2.1
  have hWB := hW.1
  exact c_X16_range hX D.2.1 D.2.2.2.1 J (fun z => ⟨(in_tn (m := 24) (by decide) z).1, Nat.le_of_lt_succ (in_tn (m := 24) (by decide) z).2⟩) (by omega) (by omega) (by omega) (fun h9 e1 e2 e3 e4 => hq h9 (D.ofQ e1 e3 e4).1 (D.ofQ e1 e3 e4).2 e2)
set_option maxRecDepth 100000 in
set_option maxHeartbeats 4000000 in
theorem w_over {G : GG} {d bc bs c M n : Nat} {h : Hp} {Q : Pst} {V : SV} {x : Nat → QIS} {R : RS} {u : Int32} {wn : Nat} {m : Int32} (B : PUR c V M n x R) (hc : c < 512) (D : MDL h V n x R) (J : JC h) (hwn9 : wn < 65536) (hd : 70 ≤ d) (hbc : 6 ≤ bc) (hbs : 100 ≤ bs) (hq : GQ Q h (o_over n x u (tn u) wn m).1 (o_over n x u (tn u) wn m).2.1 V (o_over n x u (tn u) wn m).2.2.1 (o_over n x u (tn u) wn m).2.2.2 R) : WP G m_X16_over d 0 (aargs 0 [vr (some (nm 1 0)), vi u, vi (nI wn), vi m]) [] h bc bs Q := by
  obtain ⟨hS, hW, hmd, hMc, hX, hRB, hLF⟩ := B
  have hb1 := hRB.1
  have hnv := hS.1
  have hn12 := hX.1.2.1
  have hWB := hW.1
  by_cases w1 : wn = 97
  · subst w1; exact c_X16_over_97 hX D.2.1 D.2.2.2.1 J (ix_tn (by omega)) (by omega) (by omega) (by omega) (fun h9 e1 e2 e3 e4 => hq h9 (D.ofQ e1 e3 e4).1 (D.ofQ e1 e3 e4).2 e2)
  by_cases w2 : wn = 100
  · subst w2; exact c_X16_over_100 hX D.2.1 D.2.2.2.1 J (ix_tn (by omega)) (by omega) (by omega) (by omega) (fun h9 e1 e2 e3 e4 => hq h9 (D.ofQ e1 e3 e4).1 (D.ofQ e1 e3 e4).2 e2)
  by_cases w3 : wn = 107
  · subst w3; exact c_X16_over_107 hX D.2.1 D.2.2.2.1 J (ix_tn (by omega)) (by omega) (by omega) (by omega) (fun h9 e1 e2 e3 e4 => hq h9 (D.ofQ e1 e3 e4).1 (D.ofQ e1 e3 e4).2 e2)
  by_cases w4 : wn = 116
  · subst w4; exact c_X16_over_116 hX D.2.1 D.2.2.2.1 J (ix_tn (by omega)) (by omega) (by omega) (by omega) (fun h9 e1 e2 e3 e4 => hq h9 (D.ofQ e1 e3 e4).1 (D.ofQ e1 e3 e4).2 e2)
  exact c_X16_over_n hX D.2.1 D.2.2.2.1 J (ix_tn (by omega)) ⟨hwn9, w1, w2, w3, w4⟩ (by omega) (by omega) (by omega) (fun h9 e1 e2 e3 e4 => hq h9 (D.ofQ e1 e3 e4).1 (D.ofQ e1 e3 e4).2 e2)
set_option maxRecDepth 100000 in
set_option maxHeartbeats 4000000 in
theorem w_at {G : GG} {d bc bs c M n : Nat} {h : Hp} {Q : Pst} {V : SV} {x : Nat → QIS} {R : RS} {u : Int32} {v : Int32} (B : PUR c V M n x R) (hc : c < 512) (D : MDL h V n x R) (J : JC h)  (hd : 70 ≤ d) (hbc : tn u < n → PC n x (atR x (tn u) v (tn v)) + 16 ≤ bc + PC n x (rcx x) ∧ PS n x (atR x (tn u) v (tn v)) + 64 ≤ bs + PS n x (rcx x)) (hq : GQ Q h (o_at n x u (tn u) v (tn v)).1 (o_at n x u (tn u) v (tn v)).2.1 V (o_at n x u (tn u) v (tn v)).2.2.1 (o_at n x u (tn u) v (tn v)).2.2.2 R) : WP G m_X16_at d 0 (aargs 0 [vr (some (nm 1 0)), vi u, vi v]) [] h bc bs Q := by
  obtain ⟨hS, hW, hmd, hMc, hX, hRB, hLF⟩ := B
  have hb1 := hRB.1
  have hnv := hS.1
  have hn12 := hX.1.2.1
  have hWB := hW.1
  exact c_X16_at hX D.2.1 D.2.2.2.1 (ix_tn (by omega)) nn_tn (by omega) hbc (fun h9 e1 e2 e3 e4 => hq h9 (D.ofQ e1 e3 e4).1 (D.ofQ e1 e3 e4).2 e2)
set_option maxRecDepth 100000 in
set_option maxHeartbeats 4000000 in
theorem w_all {G : GG} {d bc bs c M n : Nat} {h : Hp} {Q : Pst} {V : SV} {x : Nat → QIS} {R : RS} {u : Int32} (B : PUR c V M n x R) (hc : c < 512) (D : MDL h V n x R) (J : JC h)  (hd : 70 ≤ d) (hbc : tn u < n → PC n x (enR x (tn u) (rcx x)) + 16 ≤ bc + PC n x (rcx x) ∧ PS n x (enR x (tn u) (rcx x)) + 64 ≤ bs + PS n x (rcx x)) (hq : GQ Q h (o_all n x u (tn u)).1 (o_all n x u (tn u)).2.1 V (o_all n x u (tn u)).2.2.1 (o_all n x u (tn u)).2.2.2 R) : WP G m_X16_all d 0 (aargs 0 [vr (some (nm 1 0)), vi u]) [] h bc bs Q := by
  obtain ⟨hS, hW, hmd, hMc, hX, hRB, hLF⟩ := B
  have hb1 := hRB.1
  have hnv := hS.1
  have hn12 := hX.1.2.1
  have hWB := hW.1
  exact c_X16_all hX D.2.1 D.2.2.2.1 (ix_tn (by omega)) (by omega) hbc (fun h9 e1 e2 e3 e4 => hq h9 (D.ofQ e1 e3 e4).1 (D.ofQ e1 e3 e4).2 e2)
set_option maxRecDepth 100000 in
set_option maxHeartbeats 4000000 in
theorem w_realised {G : GG} {d bc bs c M n : Nat} {h : Hp} {Q : Pst} {V : SV} {x : Nat → QIS} {R : RS} {u : Int32} (B : PUR c V M n x R) (hc : c < 512) (D : MDL h V n x R) (J : JC h)  (hd : 70 ≤ d) (hbc : 1 ≤ bc) (hbs : 4 ≤ bs) (hq : GQ Q h (o_realised n x u (tn u)).1 (o_realised n x u (tn u)).2.1 V (o_realised n x u (tn u)).2.2.1 (o_realised n x u (tn u)).2.2.2 R) : WP G m_X16_realised d 0 (aargs 0 [vr (some (nm 1 0)), vi u]) [] h bc bs Q := by
  obtain ⟨hS, hW, hmd, hMc, hX, hRB, hLF⟩ := B
  have hb1 := hRB.1
  have hnv := hS.1
  have hn12 := hX.1.2.1
  have hWB := hW.1
  exact c_X16_realised hX D.2.1 D.2.2.2.1 (ix_tn (by omega)) (by omega) (by omega) (by omega) (fun h9 e1 e2 e3 e4 => hq h9 (D.ofQ e1 e3 e4).1 (D.ofQ e1 e3 e4).2 e2)
set_option maxRecDepth 100000 in
set_option maxHeartbeats 4000000 in
theorem w_chunks {G : GG} {d bc bs c M n : Nat} {h : Hp} {Q : Pst} {V : SV} {x : Nat → QIS} {R : RS} {u : Int32} (B : PUR c V M n x R) (hc : c < 512) (D : MDL h V n x R) (J : JC h)  (hd : 70 ≤ d) (hbc : 0 ≤ bc) (hbs : 0 ≤ bs) (hq : GQ Q h (o_chunks n x u (tn u)).1 (o_chunks n x u (tn u)).2.1 V (o_chunks n x u (tn u)).2.2.1 (o_chunks n x u (tn u)).2.2.2 R) : WP G m_X16_chunks d 0 (aargs 0 [vr (some (nm 1 0)), vi u]) [] h bc bs Q := by
  obtain ⟨hS, hW, hmd, hMc, hX, hRB, hLF⟩ := B
  have hb1 := hRB.1
  have hnv := hS.1
  have hn12 := hX.1.2.1
  have hWB := hW.1
  exact c_X16_chunks hX D.2.1 D.2.2.2.1 (ix_tn (by omega)) (by omega) (fun h9 e1 e2 e3 e4 => hq h9 (D.ofQ e1 e3 e4).1 (D.ofQ e1 e3 e4).2 e2)
set_option maxRecDepth 100000 in
set_option maxHeartbeats 4000000 in
theorem w_collect {G : GG} {d bc bs c M n : Nat} {h : Hp} {Q : Pst} {V : SV} {x : Nat → QIS} {R : RS} {u : Int32} (B : PUR c V M n x R) (hc : c < 512) (D : MDL h V n x R) (J : JC h)  (hd : 70 ≤ d) (hbc : ixB u n = true → tn u < n → PC n x (enR x (tn u) (rcx x)) + 87 ≤ bc + PC n x (rcx x) ∧ PS n x (enR x (tn u) (rcx x)) + 400 ≤ bs + PS n x (rcx x)) (hq : GQ Q h (o_collect V n x u (tn u)).1 (o_collect V n x u (tn u)).2.1 (o_collect V n x u (tn u)).2.2.1 (o_collect V n x u (tn u)).2.2.2.1 (o_collect V n x u (tn u)).2.2.2.2 R) : WP G m_X16_collect d 0 (aargs 0 [vr (some (nm 1 0)), vi u]) [] h bc bs Q := by
  obtain ⟨hS, hW, hmd, hMc, hX, hRB, hLF⟩ := B
  have hb1 := hRB.1
  have hnv := hS.1
  have hn12 := hX.1.2.1
  have hWB := hW.1
  by_cases g : ixB u n = true
  · exact c_X16_collect D.1 hWB (by omega) hX D.2.1 D.2.2.2.1 (ix_tn (by omega)) (by omega) (hbc g) (fun h9 e2 e1 eM eP eW => hq h9 (D.ofC eW e1 eM eP).1 (D.ofC eW e1 eM eP).2 e2)
  · have e : o_collect V n x u (tn u) = o_collect V n x u n := by
      have g2 : (!ixB u n) = true := by
        rw [Bool.not_eq_true] at g
        rw [g]
        rfl
      unfold o_collect
      rw [if_pos g2, if_pos g2]
    rw [e] at hq
    exact c_X16_collect D.1 hWB (by omega) hX D.2.1 D.2.2.2.1 (s := n) (fun z => absurd z g) (by omega) (fun z => absurd z (Nat.lt_irrefl _)) (fun h9 e2 e1 eM eP eW => hq h9 (D.ofC eW e1 eM eP).1 (D.ofC eW e1 eM eP).2 e2)
set_option maxRecDepth 100000 in
set_option maxHeartbeats 4000000 in
theorem w_addReference {G : GG} {d bc bs c M n : Nat} {h : Hp} {Q : Pst} {V : SV} {x : Nat → QIS} {R : RS} {v : Int32} {lo : Int32} {hi : Int32} (B : PUR c V M n x R) (hc : c < 512) (D : MDL h V n x R) (J : JC h)  (hd : 70 ≤ d) (hbc : 6 ≤ bc) (hbs : 100 ≤ bs) (hq : GQ Q h (o_addReference R v lo hi).1 (o_addReference R v lo hi).2.1 V n x (o_addReference R v lo hi).2.2) : WP G m_X16_addReference d 0 (aargs 0 [vr (some (nm 1 0)), vi v, vi lo, vi hi]) [] h bc bs Q := by
  obtain ⟨hS, hW, hmd, hMc, hX, hRB, hLF⟩ := B
  have hb1 := hRB.1
  have hnv := hS.1
  have hn12 := hX.1.2.1
  have hWB := hW.1
  exact c_X16_addReference D.2.2.1 (RB_up hRB (by omega)) D.2.2.2.1 J (by omega) (by omega) (by omega) (fun h9 e1 e2 e3 e4 => hq h9 (D.ofR e1 e3 e4).1 (D.ofR e1 e3 e4).2 e2)
set_option maxRecDepth 100000 in
set_option maxHeartbeats 4000000 in
theorem w_begin {G : GG} {d bc bs c M n : Nat} {h : Hp} {Q : Pst} {V : SV} {x : Nat → QIS} {R : RS} {v : Int32} (B : PUR c V M n x R) (hc : c < 512) (D : MDL h V n x R) (J : JC h)  (hd : 70 ≤ d) (hbc : 0 ≤ bc) (hbs : 0 ≤ bs) (hq : GQ Q h (o_begin R v (tn v)).1 (o_begin R v (tn v)).2.1 V n x (o_begin R v (tn v)).2.2) : WP G m_X16_begin d 0 (aargs 0 [vr (some (nm 1 0)), vi v]) [] h bc bs Q := by
  obtain ⟨hS, hW, hmd, hMc, hX, hRB, hLF⟩ := B
  have hb1 := hRB.1
  have hnv := hS.1
  have hn12 := hX.1.2.1
  have hWB := hW.1
  exact c_X16_begin D.2.2.1 (RB_up hRB (by omega)) D.2.2.2.1 (ix_tn (by decide)) (by omega) (fun h9 e1 e2 e3 e4 => hq h9 (D.ofR e1 e3 e4).1 (D.ofR e1 e3 e4).2 e2)
set_option maxRecDepth 100000 in
set_option maxHeartbeats 4000000 in
theorem w_read {G : GG} {d bc bs c M n : Nat} {h : Hp} {Q : Pst} {V : SV} {x : Nat → QIS} {R : RS} {v : Int32} {u : Int32} (B : PUR c V M n x R) (hc : c < 512) (D : MDL h V n x R) (J : JC h)  (hd : 70 ≤ d) (hbc : 1 ≤ bc) (hbs : 4 ≤ bs) (hq : GQ Q h (o_read R v (tn v) u (tn u)).1 (o_read R v (tn v) u (tn u)).2.1 V n x (o_read R v (tn v) u (tn u)).2.2) : WP G m_X16_read d 0 (aargs 0 [vr (some (nm 1 0)), vi v, vi u]) [] h bc bs Q := by
  obtain ⟨hS, hW, hmd, hMc, hX, hRB, hLF⟩ := B
  have hb1 := hRB.1
  have hnv := hS.1
  have hn12 := hX.1.2.1
  have hWB := hW.1
  exact c_X16_read D.2.2.1 (RB_up hRB (by omega)) D.2.2.2.1 (ix_tn (by decide)) (ix_tn (by omega)) (by omega) (by omega) (by omega) (fun h9 e1 e2 e3 e4 => hq h9 (D.ofR e1 e3 e4).1 (D.ofR e1 e3 e4).2 e2)
set_option maxRecDepth 100000 in
set_option maxHeartbeats 4000000 in
theorem w_write {G : GG} {d bc bs c M n : Nat} {h : Hp} {Q : Pst} {V : SV} {x : Nat → QIS} {R : RS} {v : Int32} {u : Int32} {y : Int32} (B : PUR c V M n x R) (hc : c < 512) (D : MDL h V n x R) (J : JC h)  (hd : 70 ≤ d) (hbc : 0 ≤ bc) (hbs : 0 ≤ bs) (hq : GQ Q h (o_write R v (tn v) u (tn u) y).1 (o_write R v (tn v) u (tn u) y).2.1 V n x (o_write R v (tn v) u (tn u) y).2.2) : WP G m_X16_write d 0 (aargs 0 [vr (some (nm 1 0)), vi v, vi u, vi y]) [] h bc bs Q := by
  obtain ⟨hS, hW, hmd, hMc, hX, hRB, hLF⟩ := B
  have hb1 := hRB.1
  have hnv := hS.1
  have hn12 := hX.1.2.1
  have hWB := hW.1
  exact c_X16_write D.2.2.1 (RB_up hRB (by omega)) D.2.2.2.1 (ix_tn (by decide)) (ix_tn (by omega)) (by omega) (fun h9 e1 e2 e3 e4 => hq h9 (D.ofR e1 e3 e4).1 (D.ofR e1 e3 e4).2 e2)
set_option maxRecDepth 100000 in
set_option maxHeartbeats 4000000 in
theorem w_ensure {G : GG} {d bc bs c M n : Nat} {h : Hp} {Q : Pst} {V : SV} {x : Nat → QIS} {R : RS} {v : Int32} {u : Int32} (B : PUR c V M n x R) (hc : c < 512) (D : MDL h V n x R) (J : JC h)  (hd : 70 ≤ d) (hbc : 0 ≤ bc) (hbs : 0 ≤ bs) (hq : GQ Q h (o_ensure R v (tn v) u (tn u)).1 (o_ensure R v (tn v) u (tn u)).2.1 V n x (o_ensure R v (tn v) u (tn u)).2.2) : WP G m_X16_ensure d 0 (aargs 0 [vr (some (nm 1 0)), vi v, vi u]) [] h bc bs Q := by
  obtain ⟨hS, hW, hmd, hMc, hX, hRB, hLF⟩ := B
  have hb1 := hRB.1
  have hnv := hS.1
  have hn12 := hX.1.2.1
  have hWB := hW.1
  exact c_X16_ensure D.2.2.1 (RB_up hRB (by omega)) D.2.2.2.1 (ix_tn (by decide)) (ix_tn (by omega)) (by omega) (fun h9 e1 e2 e3 e4 => hq h9 (D.ofR e1 e3 e4).1 (D.ofR e1 e3 e4).2 e2)
set_option maxRecDepth 100000 in
set_option maxHeartbeats 4000000 in
theorem w_add {G : GG} {d bc bs c M n : Nat} {h : Hp} {Q : Pst} {V : SV} {x : Nat → QIS} {R : RS} {v : Int32} {u : Int32} {y : Int32} (B : PUR c V M n x R) (hc : c < 512) (D : MDL h V n x R) (J : JC h)  (hd : 70 ≤ d) (hbc : 0 ≤ bc) (hbs : 0 ≤ bs) (hq : GQ Q h (o_add R v (tn v) u (tn u) y).1 (o_add R v (tn v) u (tn u) y).2.1 V n x (o_add R v (tn v) u (tn u) y).2.2) : WP G m_X16_add d 0 (aargs 0 [vr (some (nm 1 0)), vi v, vi u, vi y]) [] h bc bs Q := by
  obtain ⟨hS, hW, hmd, hMc, hX, hRB, hLF⟩ := B
  have hb1 := hRB.1
  have hnv := hS.1
  have hn12 := hX.1.2.1
  have hWB := hW.1
  exact c_X16_add D.2.2.1 (RB_up hRB (by omega)) D.2.2.2.1 (ix_tn (by decide)) (ix_tn (by omega)) (by omega) (fun h9 e1 e2 e3 e4 => hq h9 (D.ofR e1 e3 e4).1 (D.ofR e1 e3 e4).2 e2)
set_option maxRecDepth 100000 in
set_option maxHeartbeats 4000000 in
theorem w_commitE {G : GG} {d bc bs c M n : Nat} {h : Hp} {Q : Pst} {V : SV} {x : Nat → QIS} {R : RS} {v : Int32} (B : PUR c V M n x R) (hc : c < 512) (D : MDL h V n x R) (J : JC h)  (hd : 70 ≤ d) (he : ¬ (o_commit R v (tn v % 3)).1 = nI 0) (hq : GQ Q h (o_commit R v (tn v % 3)).1 (o_commit R v (tn v % 3)).2.1 V n x (o_commit R v (tn v % 3)).2.2) : WP G m_X16_commit d 0 (aargs 0 [vr (some (nm 1 0)), vi v]) [] h bc bs Q := by
  obtain ⟨hS, hW, hmd, hMc, hX, hRB, hLF⟩ := B
  have hb1 := hRB.1
  have hnv := hS.1
  have hn12 := hX.1.2.1
  have hWB := hW.1
  exact c_X16_commitE D.2.2.1 (RB_up hRB (by omega)) D.2.2.2.1 ix_t3 J he (by omega) (fun h9 e1 e2 e3 e4 => hq h9 (D.ofR e1 e3 e4).1 (D.ofR e1 e3 e4).2 e2)
set_option maxRecDepth 100000 in
set_option maxHeartbeats 4000000 in
theorem w_commit {G : GG} {d bc bs c M n : Nat} {h : Hp} {Q : Pst} {V : SV} {x : Nat → QIS} {R : RS} {v : Int32} (B : PUR c V M n x R) (hc : c < 512) (D : MDL h V n x R) (J : JC h)  (hd : 70 ≤ d) (hbc : 80 ≤ bc) (hbs : (2000 + 1300 * cgN (RS_tt R (tn v % 3)) (RS_rn R) 0) ≤ bs) (hq : GQ Q h (o_commit R v (tn v % 3)).1 (o_commit R v (tn v % 3)).2.1 V n x (o_commit R v (tn v % 3)).2.2) : WP G m_X16_commit d 0 (aargs 0 [vr (some (nm 1 0)), vi v]) [] h bc bs Q := by
  obtain ⟨hS, hW, hmd, hMc, hX, hRB, hLF⟩ := B
  have hb1 := hRB.1
  have hnv := hS.1
  have hn12 := hX.1.2.1
  have hWB := hW.1
  exact c_X16_commit D.2.2.1 (RB_up hRB (by omega)) D.2.2.2.1 ix_t3 J (by unfold LF at hLF; omega) (by omega) (by omega) (by omega) (fun h9 e1 e2 e3 e4 => hq h9 (D.ofR e1 e3 e4).1 (D.ofR e1 e3 e4).2 e2)
set_option maxRecDepth 100000 in
set_option maxHeartbeats 4000000 in
theorem w_end {G : GG} {d bc bs c M n : Nat} {h : Hp} {Q : Pst} {V : SV} {x : Nat → QIS} {R : RS} {v : Int32} (B : PUR c V M n x R) (hc : c < 512) (D : MDL h V n x R) (J : JC h)  (hd : 70 ≤ d) (hbc : 0 ≤ bc) (hbs : 0 ≤ bs) (hq : GQ Q h (o_end R v (tn v)).1 (o_end R v (tn v)).2.1 V n x (o_end R v (tn v)).2.2) : WP G m_X16_end d 0 (aargs 0 [vr (some (nm 1 0)), vi v]) [] h bc bs Q := by
  obtain ⟨hS, hW, hmd, hMc, hX, hRB, hLF⟩ := B
  have hb1 := hRB.1
  have hnv := hS.1
  have hn12 := hX.1.2.1
  have hWB := hW.1
  exact c_X16_end D.2.2.1 (RB_up hRB (by omega)) D.2.2.2.1 (ix_tn (by decide)) (by omega) (fun h9 e1 e2 e3 e4 => hq h9 (D.ofR e1 e3 e4).1 (D.ofR e1 e3 e4).2 e2)
set_option maxRecDepth 100000 in
set_option maxHeartbeats 4000000 in
theorem w_sentBack {G : GG} {d bc bs c M n : Nat} {h : Hp} {Q : Pst} {V : SV} {x : Nat → QIS} {R : RS} {v : Int32} (B : PUR c V M n x R) (hc : c < 512) (D : MDL h V n x R) (J : JC h)  (hd : 70 ≤ d) (hbc : 0 ≤ bc) (hbs : 0 ≤ bs) (hq : GQ Q h (o_sentBack R v (tn v)).1 (o_sentBack R v (tn v)).2.1 V n x (o_sentBack R v (tn v)).2.2) : WP G m_X16_sentBack d 0 (aargs 0 [vr (some (nm 1 0)), vi v]) [] h bc bs Q := by
  obtain ⟨hS, hW, hmd, hMc, hX, hRB, hLF⟩ := B
  have hb1 := hRB.1
  have hnv := hS.1
  have hn12 := hX.1.2.1
  have hWB := hW.1
  exact c_X16_sentBack D.2.2.1 (RB_up hRB (by omega)) D.2.2.2.1 (ix_tn (by decide)) (by omega) (fun h9 e1 e2 e3 e4 => hq h9 (D.ofR e1 e3 e4).1 (D.ofR e1 e3 e4).2 e2)
set_option maxRecDepth 100000 in
set_option maxHeartbeats 4000000 in
theorem w_valueOf {G : GG} {d bc bs c M n : Nat} {h : Hp} {Q : Pst} {V : SV} {x : Nat → QIS} {R : RS} {u : Int32} (B : PUR c V M n x R) (hc : c < 512) (D : MDL h V n x R) (J : JC h)  (hd : 70 ≤ d) (hbc : 0 ≤ bc) (hbs : 0 ≤ bs) (hq : GQ Q h (o_valueOf R u (tn u)).1 (o_valueOf R u (tn u)).2.1 V n x (o_valueOf R u (tn u)).2.2) : WP G m_X16_valueOf d 0 (aargs 0 [vr (some (nm 1 0)), vi u]) [] h bc bs Q := by
  obtain ⟨hS, hW, hmd, hMc, hX, hRB, hLF⟩ := B
  have hb1 := hRB.1
  have hnv := hS.1
  have hn12 := hX.1.2.1
  have hWB := hW.1
  exact c_X16_valueOf D.2.2.1 (RB_up hRB (by omega)) D.2.2.2.1 (ix_tn (by omega)) (by omega) (fun h9 e1 e2 e3 e4 => hq h9 (D.ofR e1 e3 e4).1 (D.ofR e1 e3 e4).2 e2)
set_option maxRecDepth 100000 in
set_option maxHeartbeats 4000000 in
theorem w_valueByLog {G : GG} {d bc bs c M n : Nat} {h : Hp} {Q : Pst} {V : SV} {x : Nat → QIS} {R : RS} {u : Int32} (B : PUR c V M n x R) (hc : c < 512) (D : MDL h V n x R) (J : JC h)  (hd : 70 ≤ d) (hbc : 1 ≤ bc) (hbs : 4 ≤ bs) (hq : GQ Q h (o_valueByLog R u (tn u)).1 (o_valueByLog R u (tn u)).2.1 V n x (o_valueByLog R u (tn u)).2.2) : WP G m_X16_valueByLog d 0 (aargs 0 [vr (some (nm 1 0)), vi u]) [] h bc bs Q := by
  obtain ⟨hS, hW, hmd, hMc, hX, hRB, hLF⟩ := B
  have hb1 := hRB.1
  have hnv := hS.1
  have hn12 := hX.1.2.1
  have hWB := hW.1
  exact c_X16_valueByLog D.2.2.1 (RB_up hRB (by omega)) D.2.2.2.1 (ix_tn (by omega)) (by omega) (by omega) (by omega) (fun h9 e1 e2 e3 e4 => hq h9 (D.ofR e1 e3 e4).1 (D.ofR e1 e3 e4).2 e2)
set_option maxRecDepth 100000 in
set_option maxHeartbeats 4000000 in
theorem w_history {G : GG} {d bc bs c M n : Nat} {h : Hp} {Q : Pst} {V : SV} {x : Nat → QIS} {R : RS} {u : Int32} (B : PUR c V M n x R) (hc : c < 512) (D : MDL h V n x R) (J : JC h)  (hd : 70 ≤ d) (hbc : 0 ≤ bc) (hbs : 0 ≤ bs) (hq : GQ Q h (o_history R u (tn u)).1 (o_history R u (tn u)).2.1 V n x (o_history R u (tn u)).2.2) : WP G m_X16_history d 0 (aargs 0 [vr (some (nm 1 0)), vi u]) [] h bc bs Q := by
  obtain ⟨hS, hW, hmd, hMc, hX, hRB, hLF⟩ := B
  have hb1 := hRB.1
  have hnv := hS.1
  have hn12 := hX.1.2.1
  have hWB := hW.1
  exact c_X16_history D.2.2.1 (RB_up hRB (by omega)) D.2.2.2.1 (ix_tn (by omega)) (by omega) (fun h9 e1 e2 e3 e4 => hq h9 (D.ofR e1 e3 e4).1 (D.ofR e1 e3 e4).2 e2)
set_option maxRecDepth 100000 in
set_option maxHeartbeats 4000000 in
theorem w_logAt {G : GG} {d bc bs c M n : Nat} {h : Hp} {Q : Pst} {V : SV} {x : Nat → QIS} {R : RS} {w : Int32} {y : Int32} (B : PUR c V M n x R) (hc : c < 512) (D : MDL h V n x R) (J : JC h)  (hd : 70 ≤ d) (hbc : 0 ≤ bc) (hbs : 0 ≤ bs) (hq : GQ Q h (o_logAt R w (tn w) y (tn y)).1 (o_logAt R w (tn w) y (tn y)).2.1 V n x (o_logAt R w (tn w) y (tn y)).2.2) : WP G m_X16_logAt d 0 (aargs 0 [vr (some (nm 1 0)), vi w, vi y]) [] h bc bs Q := by
  obtain ⟨hS, hW, hmd, hMc, hX, hRB, hLF⟩ := B
  have hb1 := hRB.1
  have hnv := hS.1
  have hn12 := hX.1.2.1
  have hWB := hW.1
  exact c_X16_logAt D.2.2.1 (RB_up hRB (by omega)) D.2.2.2.1 (ix_tn (by unfold LF at hLF; omega)) (in_tn (m := 3) (by decide)) (by omega) (fun h9 e1 e2 e3 e4 => hq h9 (D.ofR e1 e3 e4).1 (D.ofR e1 e3 e4).2 e2)
set_option maxRecDepth 100000 in
set_option maxHeartbeats 4000000 in
theorem w_addAgent {G : GG} {d bc bs c M n : Nat} {h : Hp} {Q : Pst} {V : SV} {x : Nat → QIS} {R : RS} {v : Int32} {lo : Int32} {hi : Int32} {md : Nat} (B : PUR c V M n x R) (hc : c < 512) (D : MDL h V n x R) (J : JC h) (hmd9 : md < 65536) (hd : 70 ≤ d) (hbc : 6 ≤ bc) (hbs : 100 ≤ bs) (hq : GQ Q h (o_addAgent R v lo hi (nI md)).1 (o_addAgent R v lo hi (nI md)).2.1 V n x (o_addAgent R v lo hi (nI md)).2.2) : WP G m_X16_addAgent d 0 (aargs 0 [vr (some (nm 1 0)), vi v, vi lo, vi hi, vi (nI md)]) [] h bc bs Q := by
  obtain ⟨hS, hW, hmd, hMc, hX, hRB, hLF⟩ := B
  have hb1 := hRB.1
  have hnv := hS.1
  have hn12 := hX.1.2.1
  have hWB := hW.1
  exact c_X16_addAgent D.2.2.1 (RB_up hRB (by omega)) D.2.2.2.1 hmd9 J (by omega) (by omega) (by omega) (fun h9 e1 e2 e3 e4 => hq h9 (D.ofR e1 e3 e4).1 (D.ofR e1 e3 e4).2 e2)
set_option maxRecDepth 100000 in
set_option maxHeartbeats 4000000 in
theorem w_send {G : GG} {d bc bs c M n : Nat} {h : Hp} {Q : Pst} {V : SV} {x : Nat → QIS} {R : RS} {v : Int32} {w : Int32} {z : Int32} (B : PUR c V M n x R) (hc : c < 512) (D : MDL h V n x R) (J : JC h)  (hd : 70 ≤ d) (hbc : 2 ≤ bc) (hbs : 1300 ≤ bs) (hq : GQ Q h (o_send R v (tn v) w (tn w) z).1 (o_send R v (tn v) w (tn w) z).2.1 V n x (o_send R v (tn v) w (tn w) z).2.2) : WP G m_X16_send d 0 (aargs 0 [vr (some (nm 1 0)), vi v, vi w, vi z]) [] h bc bs Q := by
  obtain ⟨hS, hW, hmd, hMc, hX, hRB, hLF⟩ := B
  have hb1 := hRB.1
  have hnv := hS.1
  have hn12 := hX.1.2.1
  have hWB := hW.1
  exact c_X16_send D.2.2.1 (RB_up hRB (by omega)) D.2.2.2.1 (ix_tn (by decide)) (ix_tn (by omega)) J (by omega) (by omega) (by omega) (fun h9 e1 e2 e3 e4 => hq h9 (D.ofR e1 e3 e4).1 (D.ofR e1 e3 e4).2 e2)
set_option maxRecDepth 100000 in
set_option maxHeartbeats 4000000 in
theorem w_act {G : GG} {d bc bs c M n : Nat} {h : Hp} {Q : Pst} {V : SV} {x : Nat → QIS} {R : RS} {w : Int32} (B : PUR c V M n x R) (hc : c < 512) (D : MDL h V n x R) (J : JC h)  (hd : 70 ≤ d) (hbc : 0 ≤ bc) (hbs : 0 ≤ bs) (hq : GQ Q h (o_act R w (tn w)).1 (o_act R w (tn w)).2.1 V n x (o_act R w (tn w)).2.2) : WP G m_X16_act d 0 (aargs 0 [vr (some (nm 1 0)), vi w]) [] h bc bs Q := by
  obtain ⟨hS, hW, hmd, hMc, hX, hRB, hLF⟩ := B
  have hb1 := hRB.1
  have hnv := hS.1
  have hn12 := hX.1.2.1
  have hWB := hW.1
  exact c_X16_act D.2.2.1 (RB_up hRB (by omega)) D.2.2.2.1 (ix_tn (by omega)) J (by omega) (fun h9 e1 e2 e3 e4 => hq h9 (D.ofR e1 e3 e4).1 (D.ofR e1 e3 e4).2 e2)
set_option maxRecDepth 100000 in
set_option maxHeartbeats 4000000 in
theorem w_beginAnew {G : GG} {d bc bs c M n : Nat} {h : Hp} {Q : Pst} {V : SV} {x : Nat → QIS} {R : RS} {w : Int32} {y : Int32} (B : PUR c V M n x R) (hc : c < 512) (D : MDL h V n x R) (J : JC h)  (hd : 70 ≤ d) (hbc : 0 ≤ bc) (hbs : 0 ≤ bs) (hq : GQ Q h (o_beginAnew R w (tn w) y).1 (o_beginAnew R w (tn w) y).2.1 V n x (o_beginAnew R w (tn w) y).2.2) : WP G m_X16_beginAnew d 0 (aargs 0 [vr (some (nm 1 0)), vi w, vi y]) [] h bc bs Q := by
  obtain ⟨hS, hW, hmd, hMc, hX, hRB, hLF⟩ := B
  have hb1 := hRB.1
  have hnv := hS.1
  have hn12 := hX.1.2.1
  have hWB := hW.1
  exact c_X16_beginAnew D.2.2.1 (RB_up hRB (by omega)) D.2.2.2.1 (ix_tn (by omega)) (by omega) (fun h9 e1 e2 e3 e4 => hq h9 (D.ofR e1 e3 e4).1 (D.ofR e1 e3 e4).2 e2)
set_option maxRecDepth 100000 in
set_option maxHeartbeats 4000000 in
theorem w_errors {G : GG} {d bc bs c M n : Nat} {h : Hp} {Q : Pst} {V : SV} {x : Nat → QIS} {R : RS} {w : Int32} (B : PUR c V M n x R) (hc : c < 512) (D : MDL h V n x R) (J : JC h)  (hd : 70 ≤ d) (hbc : 0 ≤ bc) (hbs : 0 ≤ bs) (hq : GQ Q h (o_errors R w (tn w)).1 (o_errors R w (tn w)).2.1 V n x (o_errors R w (tn w)).2.2) : WP G m_X16_errors d 0 (aargs 0 [vr (some (nm 1 0)), vi w]) [] h bc bs Q := by
  obtain ⟨hS, hW, hmd, hMc, hX, hRB, hLF⟩ := B
  have hb1 := hRB.1
  have hnv := hS.1
  have hn12 := hX.1.2.1
  have hWB := hW.1
  exact c_X16_errors D.2.2.1 (RB_up hRB (by omega)) D.2.2.2.1 (ix_tn (by omega)) (by omega) (fun h9 e1 e2 e3 e4 => hq h9 (D.ofR e1 e3 e4).1 (D.ofR e1 e3 e4).2 e2)
