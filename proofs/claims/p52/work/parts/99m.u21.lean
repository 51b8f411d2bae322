/-! The class: nodes marked. -/
/-- numbers marked one after another: how many were not yet, and what is marked then -/
def mrL : List Nat → (Nat → Bool) → Nat × (Nat → Bool)
  | [], D => (0, D)
  | k :: l, D => ((if D k = true then 0 else 1) + (mrL l (va_up D k true)).1, (mrL l (va_up D k true)).2)
theorem mrL_app : ∀ (l m : List Nat) (D : Nat → Bool), mrL (l ++ m) D = ((mrL l D).1 + (mrL m (mrL l D).2).1, (mrL m (mrL l D).2).2)
  | [], m, D => by show mrL m D = (0 + _, _); rw [Nat.zero_add]; rfl
  | k :: l, m, D => by
    show ((if D k = true then 0 else 1) + (mrL (l ++ m) (va_up D k true)).1, (mrL (l ++ m) (va_up D k true)).2) = _
    rw [mrL_app l m]
    show ((if D k = true then 0 else 1) + ((mrL l (va_up D k true)).1 + _), _) = ((if D k = true then 0 else 1) + (mrL l (va_up D k true)).1 + _, _)
    rw [Nat.add_assoc]; rfl
/-- only marks are changed -/
def FM (mk : Nat) (h h' : Hp) : Prop := (h_k h' = h_k h ∧ h_n h' = h_n h ∧ h_R h' = h_R h ∧ h_L h' = h_L h ∧ h_F h' = h_F h) ∧ (∀ a j, (a % 128 ≠ 45 ∨ j ≠ 6) → h_I h' a j = h_I h a j) ∧ ∀ k, h_I h' (nm 45 k) 6 = h_I h (nm 45 k) 6 ∨ h_I h' (nm 45 k) 6 = nI mk
theorem FM.rf {mk : Nat} {h : Hp} : FM mk h h := ⟨⟨rfl, rfl, rfl, rfl, rfl⟩, fun _ _ _ => rfl, fun _ => Or.inl rfl⟩
theorem FM.tr {mk : Nat} {h h1 h2 : Hp} (a : FM mk h h1) (b : FM mk h1 h2) : FM mk h h2 := ⟨⟨b.1.1.trans a.1.1, b.1.2.1.trans a.1.2.1, b.1.2.2.1.trans a.1.2.2.1, b.1.2.2.2.1.trans a.1.2.2.2.1, b.1.2.2.2.2.trans a.1.2.2.2.2⟩, fun x j hx => (b.2.1 x j hx).trans (a.2.1 x j hx), fun k => (b.2.2 k).elim (fun z => (a.2.2 k).elim (fun y => Or.inl (z.trans y)) (fun y => Or.inr (z.trans y))) Or.inr⟩
theorem FM.w {mk : Nat} {h : Hp} {k : Nat} : FM mk h (wI h (nm 45 k) 6 (nI mk)) := by
  refine ⟨⟨rfl, rfl, rfl, rfl, rfl⟩, fun a j ha => ?_, fun j => ?_⟩
  · rw [gI_wI, if_neg (fun z => ha.elim (fun q => q (by rw [z.1]; unfold nm; omega)) (fun q => q z.2))]
  · rw [gI_wI]
    split
    · exact Or.inr rfl
    · exact Or.inl rfl
theorem FM.cc {mk : Nat} {h h' : Hp} (F : FM mk h h') {a : Nat} (ha : a % 128 ≠ 45) : ce h' a = ce h a := by
  unfold ce
  rw [F.1.1, F.1.2.1, F.1.2.2.1, F.1.2.2.2.1, F.1.2.2.2.2, show h_I h' a = h_I h a from funext fun j => F.2.1 a j (Or.inl ha)]
theorem KN.fm {mk : Nat} {h h' : Hp} {k : Nat} {x : KNS} (H : KN h k x) (F : FM mk h h') : KN h' k (KN_umk x (h_I h' (nm 45 k) 6)) := by
  have e : ∀ j, j ≠ 6 → h_I h' (nm 45 k) j = h_I h (nm 45 k) j := fun j hj => F.2.1 _ j (Or.inr hj)
  have e2 : ∀ r, 46 ≤ r → r ≤ 48 → ce h' (nm r k) = ce h (nm r k) := fun r h1 h2 => F.cc (by unfold nm; omega)
  have e46 := e2 46 (by decide) (by decide)
  have e47 := e2 47 (by decide) (by decide)
  have e48 := e2 48 (by decide) (by decide)
  exact ⟨by rw [F.1.1]; exact H.k0, by rw [e 0 (by decide)]; exact H.f_lev, by rw [e 1 (by decide)]; exact H.f_own, by rw [F.1.2.2.1]; exact H.o_kk, by rw [F.1.2.2.1]; exact H.o_ke, by rw [F.1.2.2.1]; exact H.o_kb, by rw [e 5 (by decide)]; exact H.f_kc, rfl, ⟨(ce_k e46).trans H.k8, (ce_n e46).trans H.n8⟩, ⟨(ce_k e47).trans H.k9, (ce_n e47).trans H.n9⟩, ⟨(ce_k e48).trans H.k10, (ce_n e48).trans H.n10⟩, fun j => by rw [ce_I e46]; exact H.a_ky j, fun j => by rw [ce_I e47]; exact H.a_el j, fun j => by rw [ce_R e48]; exact H.a_bl j⟩
theorem TRE.fm {α : Type} {mk : Nat} {h h' : Hp} {num : α → Nat} {ch : α → Nat → Option α} (F : FM mk h h') : ∀ f s, TRE h num ch f s → TRE h' num ch f s := by
  intro f
  induction f with
  | zero => intro s T; exact absurd T id
  | succ f ih =>
    intro s T
    obtain ⟨x, hO, hw, h0, h1, h2⟩ := T
    exact ⟨_, hO.fm F, hw, h0, h1, fun p hp t ht => ih t (h2 p hp t ht)⟩
/-- D is what bears the mark -/
def MKD (h : Hp) (mk : Nat) (D : Nat → Bool) : Prop := ∀ k, h_k h (nm 45 k) = 6 → (h_I h (nm 45 k) 6 = nI mk ↔ D k = true)
theorem MKD.w {h : Hp} {mk k : Nat} {D : Nat → Bool} (H : MKD h mk D) : MKD (wI h (nm 45 k) 6 (nI mk)) mk (va_up D k true) := fun j hj => by
  rw [gI_wI, va_up_app]
  by_cases e : j = k
  · rw [if_pos e, if_pos ⟨by rw [e], rfl⟩]; exact ⟨fun _ => rfl, fun _ => rfl⟩
  · rw [if_neg e, if_neg (fun z => e (by have := z.1; unfold nm at this; omega))]; exact H j hj
set_option maxRecDepth 100000 in
set_option maxHeartbeats 4000000 in
theorem c_X11_markNull {G : GG} {d bc bs : Nat} {h : Hp} {Q : Pst} {k mk : Nat} (hq : Q (oRet (vi (nI 0))) h) : WP G m_X11_markNodes d 0 (aargs 0 [vr none, vi (nI mk), vi (nI k)]) [] h bc bs Q := by
  refine wp_sub [(0, vr none), (1, vi (nI mk)), (2, vi (nI k))] (fun _ hz => hz) ?_
  refine wp_aload_n (i := 0) dX11_markNodes_0 rfl rfl ?_
  refine wp_ifnull 9 dX11_markNodes_1 (by decide) (fun c_1 => ?_) (fun a_1 c_1 => absurd c_1 (fun z => nomatch z))
  refine wp_iconst (nI 0) dX11_markNodes_9 (by decide) ?_
  refine wp_ireturn dX11_markNodes_10 rfl ?_
  exact hq
set_option maxRecDepth 100000 in
set_option maxHeartbeats 4000000 in
theorem c_X11_markNodes {G : GG} {α : Type} {num : α → Nat} {ch : α → Nat → Option α} {mk : Nat} (hmk : mk < 1000000) : ∀ f s dp d bc bs (h : Hp) (D : Nat → Bool) (Q : Pst), TRE h num ch f s → MKD h mk D → dp + f ≤ 6 → f + 1 ≤ d → (∀ h', FM mk h h' → MKD h' mk (mrL ((trL ch f s).map num) D).2 → Q (oRet (vi (nI (mrL ((trL ch f s).map num) D).1))) h') → WP G m_X11_markNodes d 0 (aargs 0 [vr (some (nm 45 (num s))), vi (nI mk), vi (nI dp)]) [] h bc bs Q := by
  intro f
  induction f with
  | zero => intro s dp d bc bs h D Q T; exact absurd T id
  | succ f ih =>
    intro s dp d bc bs h D Q T hD hdp hd hq
    have T0 := T
    obtain ⟨x, hO, hw, hn0, hn1, hsub⟩ := T
    obtain ⟨c0, hc0⟩ : ∃ c0, c0 = (if D (num s) = true then 0 else 1 : Nat) := ⟨_, rfl⟩
    obtain ⟨D0, hD0⟩ : ∃ D0, D0 = va_up D (num s) true := ⟨_, rfl⟩
    have hlen : mrL ((trL ch (f + 1) s).map num) D = (c0 + (mrL ((trP (trL ch f) (ch s) 4).map num) D0).1, (mrL ((trP (trL ch f) (ch s) 4).map num) D0).2) := by rw [trL, List.map_cons, mrL, ← hc0, ← hD0]
    rw [hlen] at hq
    have hmkD := hD (num s) hO.k0
    have F1 : FM mk h (wI h (nm 45 (num s)) 6 (nI mk)) := FM.w
    have D1 : MKD (wI h (nm 45 (num s)) 6 (nI mk)) mk D0 := by rw [hD0]; exact hD.w
    have hO1 := hO.wmk (v := nI mk)
    have hc1 : ∀ z : Int32, (KN_mk x = nI mk → z = nI 0) → (¬ KN_mk x = nI mk → z = nI 1) → z = nI c0 := fun z z0 z1 => by
      by_cases e : KN_mk x = nI mk
      · rw [z0 e, hc0, if_pos (hmkD.mp (hO.f_mk.trans e))]
      · rw [z1 e, hc0, if_neg (fun q => e (hO.f_mk.symm.trans (hmkD.mpr q)))]
    refine wp_sub [(0, vr (some (nm 45 (num s)))), (1, vi (nI mk)), (2, vi (nI dp))] (fun _ hz => hz) ?_
    have rest : WP G m_X11_markNodes d 25 [(0, vr (some (nm 45 (num s)))), (1, vi (nI mk)), (2, vi (nI dp)), (3, vi (nI c0))] [] h bc bs Q := by
      rcases hw.2.2.1 with hb | ⟨hb1, hb2, hb3⟩
      · refine wp_aload_n (i := 0) dX11_markNodes_25 rfl rfl ?_
        refine wp_iload_n (i := 1) dX11_markNodes_26 rfl rfl ?_
        refine wp_putI 5 6 dX11_markNodes_27 hO.k0 (by decide) (by decide) (by decide) fl_X11_525 rfl (fun _ _ => rfl) rfl rfl ?_
        refine wp_aload_n (i := 0) dX11_markNodes_30 rfl rfl ?_
        refine wp_get 5 4 (vr none) dX11_markNodes_31 hO1.k0 (by decide) (by decide) fl_X11_521 (congrArg (fun z => toV (vr z)) (hO1.o_kb.trans hb)) ?_
        refine wp_ifnull 83 dX11_markNodes_34 (by decide) (fun c_34 => ?_) (fun a_34 c_34 => absurd c_34 (fun z => nomatch z))
        refine wp_iload_n (i := 3) dX11_markNodes_83 rfl rfl ?_
        refine wp_ireturn dX11_markNodes_84 rfl ?_
        rw [trP_0 4 (hn0 hb)] at hq
        exact hq _ F1 D1
      · have hbn : ¬ KN_kb x = none := by rw [hb1]; exact fun z => nomatch z
        have loop : ∀ m i H, i + m = 4 → FM mk h H → MKD H mk (mrL ((trP (trL ch f) (ch s) i).map num) D0).2 → WP G m_X11_markNodes d 51 [(6, vi (nI i)), (4, vr (some (nm 48 (num s)))), (5, vi (nI 4)), (3, vi (nI (c0 + (mrL ((trP (trL ch f) (ch s) i).map num) D0).1))), (1, vi (nI mk)), (2, vi (nI dp))] [] H bc bs Q := by
          intro m
          induction m with
          | zero =>
            intro i H hi hF hK
            have hi : i = 4 := hi
            subst hi
            refine wp_iload (i := 6) dX11_markNodes_51 rfl ?_
            refine wp_iload (i := 5) dX11_markNodes_53 rfl ?_
            refine wp_icmp_geN 83 dX11_markNodes_55 (by decide) (by decide) (by decide) (fun c_55 => ?_) (fun c_55 => absurd c_55 (by decide))
            refine wp_iload_n (i := 3) dX11_markNodes_83 rfl rfl ?_
            refine wp_ireturn dX11_markNodes_84 rfl ?_
            exact hq _ hF hK
          | succ m ih2 =>
            intro i H hi hF hK
            have hO2 := hO.fm hF
            have hch := hn1 hbn i (by omega)
            cases hc : ch s i with
            | none =>
              rw [hc] at hch
              refine wp_iload (i := 6) dX11_markNodes_51 rfl ?_
              refine wp_iload (i := 5) dX11_markNodes_53 rfl ?_
              refine wp_icmp_geN 83 dX11_markNodes_55 (by decide) (by omega) (by decide) (fun c_55 => absurd c_55 (by omega)) (fun c_55 => ?_)
              refine wp_aload (i := 4) dX11_markNodes_58 rfl ?_
              refine wp_iload (i := 6) dX11_markNodes_60 rfl ?_
              refine wp_aaloadN 4 none dX11_markNodes_62 (arTy_116 (hO2.k10.trans hb2)) (hO2.n10.trans hb3) (by omega) (by decide) ((hO2.a_bl i).trans hch) ?_
              refine wp_astore (i := 7) (lv' := [(7, vr none), (6, vi (nI i)), (4, vr (some (nm 48 (num s)))), (5, vi (nI 4)), (3, vi (nI (c0 + (mrL ((trP (trL ch f) (ch s) i).map num) D0).1))), (1, vi (nI mk)), (2, vi (nI dp))]) dX11_markNodes_63 (by decide) rfl ?_
              refine wp_iload_n (i := 3) dX11_markNodes_65 rfl rfl ?_
              refine wp_aload (i := 7) dX11_markNodes_66 rfl ?_
              refine wp_iload_n (i := 1) dX11_markNodes_68 rfl rfl ?_
              refine wp_iload_n (i := 2) dX11_markNodes_69 rfl rfl ?_
              refine wp_iconst (nI 1) dX11_markNodes_70 (by decide) ?_
              refine wp_iaddN dX11_markNodes_71 ?_
              refine wp_cS (y' := m_X11_markNodes) [vr none, vi (nI mk), vi (nI (dp + 1))] [vi (nI (c0 + (mrL ((trP (trL ch f) (ch s) i).map num) D0).1))] 0 0 dX11_markNodes_72 ml_X11_244 st_X11_markNodes ok_X11_markNodes rfl (Nat.le_of_ble_eq_true rfl) rfl (Nat.le_of_ble_eq_true rfl) (d' := d - 1) (by omega) (Nat.zero_le _) (Nat.zero_le _) (c_X11_markNull (cont_ret ?_))
              refine wp_iaddN dX11_markNodes_75 ?_
              refine wp_istore_n (i := 3) (lv' := [(3, vi (nI ((c0 + (mrL ((trP (trL ch f) (ch s) i).map num) D0).1) + 0))), (7, vr none), (6, vi (nI i)), (4, vr (some (nm 48 (num s)))), (5, vi (nI 4)), (1, vi (nI mk)), (2, vi (nI dp))]) dX11_markNodes_76 rfl (by decide) rfl ?_
              refine wp_iincN (a := i) (lv' := [(6, vi (nI (i + 1))), (3, vi (nI ((c0 + (mrL ((trP (trL ch f) (ch s) i).map num) D0).1) + 0))), (7, vr none), (4, vr (some (nm 48 (num s)))), (5, vi (nI 4)), (1, vi (nI mk)), (2, vi (nI dp))]) 1 dX11_markNodes_77 rfl (by decide) (by decide) rfl ?_
              refine wp_goto 51 dX11_markNodes_80 (by decide) ?_
              have e9 : mrL ((trP (trL ch f) (ch s) (i + 1)).map num) D0 = mrL ((trP (trL ch f) (ch s) i).map num) D0 := by rw [trP_n hc]
              rw [show c0 + (mrL ((trP (trL ch f) (ch s) i).map num) D0).1 + 0 = c0 + (mrL ((trP (trL ch f) (ch s) (i + 1)).map num) D0).1 by rw [e9, Nat.add_zero]]
              refine wp_sub [(6, vi (nI (i + 1))), (4, vr (some (nm 48 (num s)))), (5, vi (nI 4)), (3, vi (nI (c0 + (mrL ((trP (trL ch f) (ch s) (i + 1)).map num) D0).1))), (1, vi (nI mk)), (2, vi (nI dp))] (sb_cons (.head _) (sb_cons (.tail _ (.tail _ (.tail _ (.head _)))) (sb_cons (.tail _ (.tail _ (.tail _ (.tail _ (.head _))))) (sb_cons (.tail _ (.head _)) (sb_cons (.tail _ (.tail _ (.tail _ (.tail _ (.tail _ (.head _)))))) (sb_cons (.tail _ (.tail _ (.tail _ (.tail _ (.tail _ (.tail _ (.head _))))))) sb_nil)))))) ?_
              exact ih2 (i + 1) H (by omega) hF (by rw [e9]; exact hK)
            | some t =>
              rw [hc] at hch
              refine wp_iload (i := 6) dX11_markNodes_51 rfl ?_
              refine wp_iload (i := 5) dX11_markNodes_53 rfl ?_
              refine wp_icmp_geN 83 dX11_markNodes_55 (by decide) (by omega) (by decide) (fun c_55 => absurd c_55 (by omega)) (fun c_55 => ?_)
              refine wp_aload (i := 4) dX11_markNodes_58 rfl ?_
              refine wp_iload (i := 6) dX11_markNodes_60 rfl ?_
              refine wp_aaloadN 4 (some (nm 45 (num t))) dX11_markNodes_62 (arTy_116 (hO2.k10.trans hb2)) (hO2.n10.trans hb3) (by omega) (by decide) ((hO2.a_bl i).trans hch) ?_
              refine wp_astore (i := 7) (lv' := [(7, vr (some (nm 45 (num t)))), (6, vi (nI i)), (4, vr (some (nm 48 (num s)))), (5, vi (nI 4)), (3, vi (nI (c0 + (mrL ((trP (trL ch f) (ch s) i).map num) D0).1))), (1, vi (nI mk)), (2, vi (nI dp))]) dX11_markNodes_63 (by decide) rfl ?_
              refine wp_iload_n (i := 3) dX11_markNodes_65 rfl rfl ?_
              refine wp_aload (i := 7) dX11_markNodes_66 rfl ?_
              refine wp_iload_n (i := 1) dX11_markNodes_68 rfl rfl ?_
              refine wp_iload_n (i := 2) dX11_markNodes_69 rfl rfl ?_
              refine wp_iconst (nI 1) dX11_markNodes_70 (by decide) ?_
              refine wp_iaddN dX11_markNodes_71 ?_
              refine wp_cS (y' := m_X11_markNodes) [vr (some (nm 45 (num t))), vi (nI mk), vi (nI (dp + 1))] [vi (nI (c0 + (mrL ((trP (trL ch f) (ch s) i).map num) D0).1))] 0 0 dX11_markNodes_72 ml_X11_244 st_X11_markNodes ok_X11_markNodes rfl (Nat.le_of_ble_eq_true rfl) rfl (Nat.le_of_ble_eq_true rfl) (d' := d - 1) (by omega) (Nat.zero_le _) (Nat.zero_le _) (ih t (dp + 1) (d - 1) 0 0 H _ _ (TRE.fm hF f t (hsub i (by omega) t hc)) hK (by omega) (by omega) (fun H2 F2 K2 => cont_ret ?_))
              refine wp_iaddN dX11_markNodes_75 ?_
              refine wp_istore_n (i := 3) (lv' := [(3, vi (nI ((c0 + (mrL ((trP (trL ch f) (ch s) i).map num) D0).1) + ((mrL ((trL ch f t).map num) ((mrL ((trP (trL ch f) (ch s) i).map num) D0).2)).1)))), (7, vr (some (nm 45 (num t)))), (6, vi (nI i)), (4, vr (some (nm 48 (num s)))), (5, vi (nI 4)), (1, vi (nI mk)), (2, vi (nI dp))]) dX11_markNodes_76 rfl (by decide) rfl ?_
              refine wp_iincN (a := i) (lv' := [(6, vi (nI (i + 1))), (3, vi (nI ((c0 + (mrL ((trP (trL ch f) (ch s) i).map num) D0).1) + ((mrL ((trL ch f t).map num) ((mrL ((trP (trL ch f) (ch s) i).map num) D0).2)).1)))), (7, vr (some (nm 45 (num t)))), (4, vr (some (nm 48 (num s)))), (5, vi (nI 4)), (1, vi (nI mk)), (2, vi (nI dp))]) 1 dX11_markNodes_77 rfl (by decide) (by decide) rfl ?_
              refine wp_goto 51 dX11_markNodes_80 (by decide) ?_
              have e9 : mrL ((trP (trL ch f) (ch s) (i + 1)).map num) D0 = ((mrL ((trP (trL ch f) (ch s) i).map num) D0).1 + (mrL ((trL ch f t).map num) ((mrL ((trP (trL ch f) (ch s) i).map num) D0).2)).1, (mrL ((trL ch f t).map num) ((mrL ((trP (trL ch f) (ch s) i).map num) D0).2)).2) := by rw [trP_s hc, List.map_append, mrL_app]
              rw [show c0 + (mrL ((trP (trL ch f) (ch s) i).map num) D0).1 + (mrL ((trL ch f t).map num) ((mrL ((trP (trL ch f) (ch s) i).map num) D0).2)).1 = c0 + (mrL ((trP (trL ch f) (ch s) (i + 1)).map num) D0).1 by rw [e9, Nat.add_assoc]]
              refine wp_sub [(6, vi (nI (i + 1))), (4, vr (some (nm 48 (num s)))), (5, vi (nI 4)), (3, vi (nI (c0 + (mrL ((trP (trL ch f) (ch s) (i + 1)).map num) D0).1))), (1, vi (nI mk)), (2, vi (nI dp))] (sb_cons (.head _) (sb_cons (.tail _ (.tail _ (.tail _ (.head _)))) (sb_cons (.tail _ (.tail _ (.tail _ (.tail _ (.head _))))) (sb_cons (.tail _ (.head _)) (sb_cons (.tail _ (.tail _ (.tail _ (.tail _ (.tail _ (.head _)))))) (sb_cons (.tail _ (.tail _ (.tail _ (.tail _ (.tail _ (.tail _ (.head _))))))) sb_nil)))))) ?_
              exact ih2 (i + 1) H2 (by omega) (hF.tr F2) (by rw [e9]; exact K2)
        refine wp_aload_n (i := 0) dX11_markNodes_25 rfl rfl ?_
        refine wp_iload_n (i := 1) dX11_markNodes_26 rfl rfl ?_
        refine wp_putI 5 6 dX11_markNodes_27 hO.k0 (by decide) (by decide) (by decide) fl_X11_525 rfl (fun _ _ => rfl) rfl rfl ?_
        refine wp_aload_n (i := 0) dX11_markNodes_30 rfl rfl ?_
        refine wp_get 5 4 (vr (some (nm 48 (num s)))) dX11_markNodes_31 hO1.k0 (by decide) (by decide) fl_X11_521 (congrArg (fun z => toV (vr z)) (hO1.o_kb.trans hb1)) ?_
        refine wp_ifnull 83 dX11_markNodes_34 (by decide) (fun c_34 => absurd c_34 (fun z => nomatch z)) (fun a_34 c_34 => ?_)
        refine wp_aload_n (i := 0) dX11_markNodes_37 rfl rfl ?_
        refine wp_get 5 4 (vr (some (nm 48 (num s)))) dX11_markNodes_38 hO1.k0 (by decide) (by decide) fl_X11_521 (congrArg (fun z => toV (vr z)) (hO1.o_kb.trans hb1)) ?_
        refine wp_astore (i := 4) (lv' := [(4, vr (some (nm 48 (num s)))), (0, vr (some (nm 45 (num s)))), (1, vi (nI mk)), (2, vi (nI dp)), (3, vi (nI c0))]) dX11_markNodes_41 (by decide) rfl ?_
        refine wp_aload (i := 4) dX11_markNodes_43 rfl ?_
        refine wp_alen dX11_markNodes_45 (arTy_116 (hO1.k10.trans hb2)) ?_
        rw [hO1.n10, hb3]
        refine wp_istore (i := 5) (lv' := [(5, vi (nI 4)), (4, vr (some (nm 48 (num s)))), (0, vr (some (nm 45 (num s)))), (1, vi (nI mk)), (2, vi (nI dp)), (3, vi (nI c0))]) dX11_markNodes_46 (by decide) rfl ?_
        refine wp_iconst (nI 0) dX11_markNodes_48 (by decide) ?_
        refine wp_istore (i := 6) (lv' := [(6, vi (nI 0)), (5, vi (nI 4)), (4, vr (some (nm 48 (num s)))), (0, vr (some (nm 45 (num s)))), (1, vi (nI mk)), (2, vi (nI dp)), (3, vi (nI c0))]) dX11_markNodes_49 (by decide) rfl ?_
        rw [show c0 = c0 + (mrL ((trP (trL ch f) (ch s) 0).map num) D0).1 from rfl]
        refine wp_sub [(6, vi (nI 0)), (4, vr (some (nm 48 (num s)))), (5, vi (nI 4)), (3, vi (nI (c0 + (mrL ((trP (trL ch f) (ch s) 0).map num) D0).1))), (1, vi (nI mk)), (2, vi (nI dp))] (sb_cons (.head _) (sb_cons (.tail _ (.tail _ (.head _))) (sb_cons (.tail _ (.head _)) (sb_cons (.tail _ (.tail _ (.tail _ (.tail _ (.tail _ (.tail _ (.head _))))))) (sb_cons (.tail _ (.tail _ (.tail _ (.tail _ (.head _))))) (sb_cons (.tail _ (.tail _ (.tail _ (.tail _ (.tail _ (.head _)))))) sb_nil)))))) ?_
        exact loop 4 0 _ rfl F1 D1
    refine wp_aload_n (i := 0) dX11_markNodes_0 rfl rfl ?_
    refine wp_ifnull 9 dX11_markNodes_1 (by decide) (fun c_1 => absurd c_1 (fun z => nomatch z)) (fun a_1 c_1 => ?_)
    refine wp_iload_n (i := 2) dX11_markNodes_4 rfl rfl ?_
    refine wp_iconst (nI 5) dX11_markNodes_5 (by decide) ?_
    refine wp_icmp_leN 11 dX11_markNodes_6 (by decide) (by omega) (by decide) (fun c_6 => ?_) (fun c_6 => absurd c_6 (by omega))
    refine wp_aload_n (i := 0) dX11_markNodes_11 rfl rfl ?_
    refine wp_get 5 6 (vi (KN_mk x)) dX11_markNodes_12 hO.k0 (by decide) (by decide) fl_X11_525 (congrArg (fun z => toV (vi z)) (hO.f_mk)) ?_
    refine wp_iload_n (i := 1) dX11_markNodes_15 rfl rfl ?_
    refine wp_icmp_ne 23 dX11_markNodes_16 (by decide) (fun c_16 => ?_) (fun c_16 => ?_)
    · skip
      refine wp_iconst (nI 1) dX11_markNodes_23 (by decide) ?_
      rw [hc1 (nI 1) (fun z => absurd z c_16) (fun _ => rfl)]
      refine wp_istore_n (i := 3) (lv' := [(3, vi (nI c0)), (0, vr (some (nm 45 (num s)))), (1, vi (nI mk)), (2, vi (nI dp))]) dX11_markNodes_24 rfl (by decide) rfl ?_
      refine wp_sub [(0, vr (some (nm 45 (num s)))), (1, vi (nI mk)), (2, vi (nI dp)), (3, vi (nI c0))] (sb_cons (.tail _ (.head _)) (sb_cons (.tail _ (.tail _ (.head _))) (sb_cons (.tail _ (.tail _ (.tail _ (.head _)))) (sb_cons (.head _) sb_nil)))) ?_
      exact rest
    · skip
      refine wp_iconst (nI 0) dX11_markNodes_19 (by decide) ?_
      refine wp_goto 24 dX11_markNodes_20 (by decide) ?_
      rw [hc1 (nI 0) (fun _ => rfl) (fun z => absurd c_16 z)]
      refine wp_istore_n (i := 3) (lv' := [(3, vi (nI c0)), (0, vr (some (nm 45 (num s)))), (1, vi (nI mk)), (2, vi (nI dp))]) dX11_markNodes_24 rfl (by decide) rfl ?_
      refine wp_sub [(0, vr (some (nm 45 (num s)))), (1, vi (nI mk)), (2, vi (nI dp)), (3, vi (nI c0))] (sb_cons (.tail _ (.head _)) (sb_cons (.tail _ (.tail _ (.head _))) (sb_cons (.tail _ (.tail _ (.tail _ (.head _)))) (sb_cons (.head _) sb_nil)))) ?_
      exact rest
