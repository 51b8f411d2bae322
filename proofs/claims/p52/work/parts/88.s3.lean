/-! The class: sequences as one state; realising. -/
/-- what the class keeps of a sequence -/
def srcQ (q : QIS) : Option Nat := if q_w q = nI 114 then none else some (nm 50 (sN q))
def numQ (q : QIS) : Int32 := if q_w q = nI 114 then nI 0 else OF_num (q_o q)
abbrev kqx (q : QIS) : KQS := ksx (srcQ q) (q_w q) (numQ q) (q_F q) [] (q_B q) (q_rc q)
/-- the class's sequences: n of them, x -/
def CQR (h : Hp) (n : Nat) (x : Nat → QIS) : Prop := (h_k h (nm 40 0) = 13 ∧ h_R h (nm 40 0) 4 = some (nm 40 4) ∧ h_I h (nm 40 0) 5 = nI n ∧ h_k h (nm 40 4) = 111 ∧ h_n h (nm 40 4) = 12) ∧ (∀ s, s < n → h_R h (nm 40 4) s = some (nm 50 s)) ∧ (∀ s, s < n → KQ h s (kqx (x s))) ∧ FreeI h 50 n ∧ FreeI h 51 n ∧ FreeI h 52 n
/-- what the calls about sequences may change -/
def WKQ (a : Nat) : Prop := a = nm 40 0 ∨ a = nm 40 4 ∨ (50 ≤ a % 128 ∧ a % 128 ≤ 52)
def FRKQ (h h' : Hp) : Prop := (∀ a, ¬ WKQ a → ce h' a = ce h a) ∧ (h_k h' (nm 40 0) = h_k h (nm 40 0) ∧ h_n h' (nm 40 0) = h_n h (nm 40 0) ∧ h_R h' (nm 40 0) = h_R h (nm 40 0) ∧ h_L h' (nm 40 0) = h_L h (nm 40 0) ∧ h_F h' (nm 40 0) = h_F h (nm 40 0)) ∧ ∀ j, j ≠ 5 → h_I h' (nm 40 0) j = h_I h (nm 40 0) j
theorem FRKQ.rf {h : Hp} : FRKQ h h := ⟨fun _ _ => rfl, ⟨rfl, rfl, rfl, rfl, rfl⟩, fun _ _ => rfl⟩
theorem FRKQ.tr {h h1 h2 : Hp} (a : FRKQ h h1) (b : FRKQ h1 h2) : FRKQ h h2 := ⟨fun x hx => (b.1 x hx).trans (a.1 x hx), ⟨b.2.1.1.trans a.2.1.1, b.2.1.2.1.trans a.2.1.2.1, b.2.1.2.2.1.trans a.2.1.2.2.1, b.2.1.2.2.2.1.trans a.2.1.2.2.2.1, b.2.1.2.2.2.2.trans a.2.1.2.2.2.2⟩, fun j h5 => (b.2.2 j h5).trans (a.2.2 j h5)⟩
theorem FRKQ.o {h h' : Hp} {t : Nat} (hF : Fr h h' (CQs t)) : FRKQ h h' := by
  have e : ce h' (nm 40 0) = ce h (nm 40 0) := hF _ (CQs_n (by omega) (by decide))
  exact ⟨fun a ha => hF a (fun z => ha (Or.inr (Or.inr (by unfold CQs at z; omega)))), ⟨ce_k e, ce_n e, ce_R e, ce_L e, ce_F e⟩, fun j _ => by rw [ce_I e]⟩
theorem CR.frQ {h h' : Hp} {X : CS} (H : CR h X) (F : FRKQ h h') : CR h' X := by
  obtain ⟨⟨a1, a2, a3, a4, a5, a6, a7, a8, a9⟩, H2⟩ := H
  obtain ⟨f1, ⟨f2, f3, f4, f5, f6⟩, f7⟩ := F
  have ep : ∀ i, i ≠ 0 → i ≠ 4 → ce h' (nm 40 i) = ce h (nm 40 i) := fun i h1 h2 => f1 _ (by unfold WKQ nm; omega)
  have er : ∀ r i, 53 ≤ r → r ≤ 69 → ce h' (nm r i) = ce h (nm r i) := fun r i h1 h2 => f1 _ (by unfold WKQ nm; omega)
  exact ⟨⟨f2.trans a1, by rw [f4]; exact a2, by rw [f4]; exact a3, by rw [f4]; exact a4, by rw [f4]; exact a5, by rw [f7 _ (by decide)]; exact a6, by rw [f7 _ (by decide)]; exact a7, by rw [f7 _ (by decide)]; exact a8, by rw [f7 _ (by decide)]; exact a9⟩,
    H2.1.fr (ep _ (by decide) (by decide)) (ep _ (by decide) (by decide)) (ep _ (by decide) (by decide)), H2.2.1.fr (ep _ (by decide) (by decide)) (ep _ (by decide) (by decide)) (ep _ (by decide) (by decide)), H2.2.2.1.fr (fun r i h1 h2 => er r i h1 (by omega)),
    H2.2.2.2.1.fr (f1 _ (by unfold WKQ nm; omega)) (ep _ (by decide) (by decide)) (fun r i h1 h2 => er r i (by omega) (by omega)), H2.2.2.2.2.fr (fun r i h1 _ => er r i (by omega) (by omega)) (fun r i h1 _ => er r i (by omega) (by omega)) (fun i => er _ i (by decide) (by decide))⟩
theorem CQR.frK {h h' : Hp} {n : Nat} {x : Nat → QIS} (H : CQR h n x) (F : FRK h h') : CQR h' n x := by
  obtain ⟨⟨a1, a2, a3, a4, a5⟩, b, c, g1, g2, g3⟩ := H
  obtain ⟨f1, ⟨f2, f3, f4, f5, f6⟩, f7⟩ := F
  have e4 : ce h' (nm 40 4) = ce h (nm 40 4) := f1 _ (by unfold WK nm; omega)
  have er : ∀ r i, 50 ≤ r → r ≤ 52 → ce h' (nm r i) = ce h (nm r i) := fun r i h1 h2 => f1 _ (by unfold WK nm; omega)
  exact ⟨⟨f2.trans a1, by rw [f4]; exact a2, by rw [f7 _ (by decide) (by decide) (by decide) (by decide)]; exact a3, (ce_k e4).trans a4, (ce_n e4).trans a5⟩, fun s hs => by rw [ce_R e4]; exact b s hs, fun s hs => (c s hs).frm (er _ _ (by decide) (by decide)) (er _ _ (by decide) (by decide)) (er _ _ (by decide) (by decide)),
    g1.fr (fun i _ => er _ _ (by decide) (by decide)), g2.fr (fun i _ => er _ _ (by decide) (by decide)), g3.fr (fun i _ => er _ _ (by decide) (by decide))⟩
theorem CQR.s {h : Hp} {n s : Nat} {x : Nat → QIS} (H : CQR h n x) (hs : s < n) : KQ h s (kqx (x s)) := H.2.2.1 s hs
theorem CQR.eq {h : Hp} {n : Nat} {x y : Nat → QIS} (H : CQR h n x) (e : ∀ s, s < n → kqx (x s) = kqx (y s)) : CQR h n y := ⟨H.1, H.2.1, fun s hs => by rw [← e s hs]; exact H.2.2.1 s hs, H.2.2.2⟩
theorem CQR.g {h : Hp} {n : Nat} {x : Nat → QIS} (H : CQR h n x) {r κ : Nat → Nat} (hr : ∀ s, s < n → q_rc (x s) = r s) : CQR h n (gst x r κ) := H.eq (fun s hs => by show ksx _ _ _ _ _ _ (q_rc (x s)) = ksx _ _ _ _ _ _ (r s); rw [hr s hs]; rfl)
theorem CQR.rc {h : Hp} {n s v : Nat} {x : Nat → QIS} {r κ : Nat → Nat} (H : CQR h n (gst x r κ)) (hs : s < n) : CQR (wI h (nm 50 s) 8 (nI v)) n (gst x (va_up r s v) κ) ∧ FRKQ h (wI h (nm 50 s) 8 (nI v)) := by
  have hF : Fr h (wI h (nm 50 s) 8 (nI v)) (CQs s) := Fr.rf.wI (by unfold CQs nm; omega)
  obtain ⟨⟨a1, a2, a3, a4, a5⟩, b, c, g1, g2, g3⟩ := H
  have e0 : ce (wI h (nm 50 s) 8 (nI v)) (nm 40 0) = ce h (nm 40 0) := hF _ (CQs_n (by omega) (by decide))
  refine ⟨⟨⟨a1, a2, by rw [ce_I e0]; exact a3, a4, a5⟩, b, fun t ht => ?_, g1, g2, g3⟩, FRKQ.o hF⟩
  by_cases e : t = s
  · subst e
    have := (c t ht).wrc (v := v)
    show KQ _ t (ksx _ _ _ _ _ _ (va_up r t v t))
    rw [va_up_app, if_pos rfl]
    exact this
  · show KQ _ t (ksx _ _ _ _ _ _ (va_up r s v t))
    rw [va_up_app, if_neg e]
    exact (c t ht).frm (hF _ (CQs_n (by omega) (by decide))) (hF _ (CQs_n (by omega) (by decide))) (hF _ (CQs_n (by omega) (by decide)))
theorem qW.F {x : Nat → QIS} {s : Nat} (H : qW x s) : KF (kqx (x s)) (q_F (x s)) := ksx_F H.1 H.2.1
/-! realised from the top down -/
section TD
variable {n : Nat} {x : Nat → QIS} (hW : QWs n x)
theorem rs0_r {f s k : Nat} {r : Nat → Nat} (h : q_w (x s) = nI 114) : rs0 x (f + 1) s k r = va_up r s (max (r s) k) := by rw [rs0, if_pos h]
theorem rs0_t0 {f s : Nat} {r : Nat → Nat} (h : ¬ q_w (x s) = nI 114) (h2 : q_w (x s) = nI 116) : rs0 x (f + 1) s 0 r = va_up r s (max (r s) 0) := by rw [rs0, if_neg h, if_pos h2, if_pos rfl]
theorem td_k (hW : QWs n x) {s t k : Nat} {r r' : Nat → Nat} (ht : t < s) (hs : s < n) (hr : ∀ v, rs0 x s t k (va_up r s v) = va_up r' s v) (h1 : r' s = r s) {m : Nat} : rs0 x (t + 1) t k (va_up r s (max (r s) m)) = va_up r' s (max (r' s) m) := by
  rw [rs0_fu hW t (t + 1) s k _ (by omega) (by omega) (by omega), hr, h1]
theorem rs0_t1 (hW : QWs n x) {s k : Nat} {r : Nat → Nat} (hs : s < n) (h : ¬ q_w (x s) = nI 114) (h2 : q_w (x s) = nI 116) (hk : ¬ k = 0) : rs0 x (s + 1) s k r = rs0 x (sN (x s) + 1) (sN (x s)) (cf (q_F (x (sN (x s)))) (k - 1)) (va_up r s (max (r s) k)) := by
  have hl := qs_lt hW hs h
  rw [rs0, if_neg h, if_pos h2, if_neg hk]
  exact (td_k hW hl hs (fun v => rs0_up hW _ _ _ _ _ _ (by omega) hl) (rs0_hi hW _ _ _ _ _ (by omega) hl)).symm
theorem rs0_o (hW : QWs n x) {s k : Nat} {r : Nat → Nat} (hs : s < n) (h : ¬ q_w (x s) = nI 114) (h2 : ¬ q_w (x s) = nI 116) : rs0 x (s + 1) s k r = rs0 x (sN (x s) + 1) (sN (x s)) k (va_up r s (max (r s) k)) := by
  have hl := qs_lt hW hs h
  rw [rs0, if_neg h, if_neg h2]
  exact (td_k hW hl hs (fun v => rs0_up hW _ _ _ _ _ _ (by omega) hl) (rs0_hi hW _ _ _ _ _ (by omega) hl)).symm
theorem rs1_r {f s : Nat} {r : Nat → Nat} (h : q_w (x s) = nI 114) : rs1 x (f + 1) s r = va_up r s (max (r s) (q_F (x s)).length) := by rw [rs1, if_pos h]
theorem rs1_t0 {f s : Nat} {r : Nat → Nat} (h : ¬ q_w (x s) = nI 114) (h2 : q_w (x s) = nI 116 ∧ nN (x s) ≤ tot (q_F (x (sN (x s))))) (h3 : (q_F (x s)).length = 0) : rs1 x (f + 1) s r = va_up r s (max (r s) (q_F (x s)).length) := by rw [rs1, if_neg h, if_pos h2, if_pos h3]
theorem rs1_t1 (hW : QWs n x) {s : Nat} {r : Nat → Nat} (hs : s < n) (h : ¬ q_w (x s) = nI 114) (h2 : q_w (x s) = nI 116 ∧ nN (x s) ≤ tot (q_F (x (sN (x s))))) (h3 : ¬ (q_F (x s)).length = 0) : rs1 x (s + 1) s r = rs0 x (sN (x s) + 1) (sN (x s)) (cf (q_F (x (sN (x s)))) ((q_F (x s)).length - 1)) (va_up r s (max (r s) (q_F (x s)).length)) := by
  have hl := qs_lt hW hs h
  rw [rs1, if_neg h, if_pos h2, if_neg h3]
  exact (td_k hW hl hs (fun v => rs0_up hW _ _ _ _ _ _ (by omega) hl) (rs0_hi hW _ _ _ _ _ (by omega) hl)).symm
theorem rs1_o (hW : QWs n x) {s : Nat} {r : Nat → Nat} (hs : s < n) (h : ¬ q_w (x s) = nI 114) (h2 : ¬ (q_w (x s) = nI 116 ∧ nN (x s) ≤ tot (q_F (x (sN (x s)))))) : rs1 x (s + 1) s r = rs1 x (sN (x s) + 1) (sN (x s)) (va_up r s (max (r s) (q_F (x s)).length)) := by
  have hl := qs_lt hW hs h
  rw [rs1, if_neg h, if_neg h2]
  rw [rs1_fu hW (sN (x s)) (sN (x s) + 1) s _ (by omega) (by omega) (by omega), rs1_up hW _ _ _ _ _ (by omega) hl]
  show va_up _ s _ = va_up _ s _
  rw [rs1_hi hW _ _ _ _ (by omega) hl]
end TD
set_option maxRecDepth 100000 in
set_option maxHeartbeats 4000000 in
theorem c_X6_endsN {G : GG} {d bc bs : Nat} {h : Hp} {Q : Pst} {s : Nat} {x : KQS} (hO : KQ h s x) (hsrc : KQ_src x = none) (hq : Q (oRet (vi (nI 0))) h) : WP G m_X6_endsWithSource d 0 (aargs 0 [vr (some (nm 50 s))]) [] h bc bs Q := by
  have hF : Fr h h (CQs s) := Fr.rf
  refine wp_sub [(0, vr (some (nm 50 s)))] (fun _ hz => hz) ?_
  refine wp_aload_n (i := 0) dX6_endsWithSource_0 rfl rfl ?_
  refine wp_get 8 0 (vr none) dX6_endsWithSource_1 hO.k0 (by decide) (by decide) fl_X6_32 (congrArg (fun z => toV (vr z)) ((hO.o_src).trans hsrc)) ?_
  refine wp_ifnull 34 dX6_endsWithSource_4 (by decide) (fun c_4 => ?_) (fun a_4 c_4 => absurd c_4 (fun z => nomatch z))
  refine wp_iconst (nI 0) dX6_endsWithSource_34 (by decide) ?_
  refine wp_zreturn dX6_endsWithSource_35 rfl (by first | rfl | assumption) ?_
  exact hq
set_option maxRecDepth 100000 in
set_option maxHeartbeats 4000000 in
theorem c_X6_endsO {G : GG} {d bc bs : Nat} {h : Hp} {Q : Pst} {s : Nat} {x : KQS} (hO : KQ h s x) {u : Nat} (hsrc : KQ_src x = some (nm 50 u)) (hw : ¬ KQ_way x = nI 116) (hq : Q (oRet (vi (nI 1))) h) : WP G m_X6_endsWithSource d 0 (aargs 0 [vr (some (nm 50 s))]) [] h bc bs Q := by
  have hF : Fr h h (CQs s) := Fr.rf
  refine wp_sub [(0, vr (some (nm 50 s)))] (fun _ hz => hz) ?_
  refine wp_aload_n (i := 0) dX6_endsWithSource_0 rfl rfl ?_
  refine wp_get 8 0 (vr (some (nm 50 u))) dX6_endsWithSource_1 hO.k0 (by decide) (by decide) fl_X6_32 (congrArg (fun z => toV (vr z)) ((hO.o_src).trans hsrc)) ?_
  refine wp_ifnull 34 dX6_endsWithSource_4 (by decide) (fun c_4 => absurd c_4 (fun z => nomatch z)) (fun a_4 c_4 => ?_)
  refine wp_aload_n (i := 0) dX6_endsWithSource_7 rfl rfl ?_
  refine wp_get 8 1 (vi (KQ_way x)) dX6_endsWithSource_8 hO.k0 (by decide) (by decide) fl_X6_36 (congrArg (fun z => toV (vi z)) (hO.f_way)) ?_
  refine wp_bipush (nI 116) dX6_endsWithSource_11 (by decide) ?_
  refine wp_icmp_ne 30 dX6_endsWithSource_13 (by decide) (fun c_13 => ?_) (fun c_13 => absurd c_13 (hw))
  refine wp_iconst (nI 1) dX6_endsWithSource_30 (by decide) ?_
  refine wp_goto 35 dX6_endsWithSource_31 (by decide) ?_
  refine wp_zreturn dX6_endsWithSource_35 rfl (by first | rfl | assumption) ?_
  exact hq
set_option maxRecDepth 100000 in
set_option maxHeartbeats 4000000 in
theorem c_X6_endsT {G : GG} {d bc bs : Nat} {h : Hp} {Q : Pst} {s : Nat} {x : KQS} (hO : KQ h s x) {u : Nat} {y : KQS} {E : List (List Int32)} (hsrc : KQ_src x = some (nm 50 u)) (hus : u ≠ s) (hU : KQ h u y) (hy : KF y E) {m : Nat} (hm : KQ_num x = nI m) (hm9 : m ≤ 99) (hw : KQ_way x = nI 116) (hq : Q (oRet (vi (bI (decide (tot E < m))))) h) : WP G m_X6_endsWithSource d 0 (aargs 0 [vr (some (nm 50 s))]) [] h bc bs Q := by
  have hF : Fr h h (CQs s) := Fr.rf
  have h24 := hy.2.2.2.2.2
  refine wp_sub [(0, vr (some (nm 50 s)))] (fun _ hz => hz) ?_
  refine wp_aload_n (i := 0) dX6_endsWithSource_0 rfl rfl ?_
  refine wp_get 8 0 (vr (some (nm 50 u))) dX6_endsWithSource_1 hO.k0 (by decide) (by decide) fl_X6_32 (congrArg (fun z => toV (vr z)) ((hO.o_src).trans hsrc)) ?_
  refine wp_ifnull 34 dX6_endsWithSource_4 (by decide) (fun c_4 => absurd c_4 (fun z => nomatch z)) (fun a_4 c_4 => ?_)
  refine wp_aload_n (i := 0) dX6_endsWithSource_7 rfl rfl ?_
  refine wp_get 8 1 (vi (KQ_way x)) dX6_endsWithSource_8 hO.k0 (by decide) (by decide) fl_X6_36 (congrArg (fun z => toV (vi z)) (hO.f_way)) ?_
  refine wp_bipush (nI 116) dX6_endsWithSource_11 (by decide) ?_
  refine wp_icmp_ne 30 dX6_endsWithSource_13 (by decide) (fun c_13 => absurd c_13 (fun z => z hw)) (fun c_13 => ?_)
  refine wp_aload_n (i := 0) dX6_endsWithSource_16 rfl rfl ?_
  refine wp_get 8 2 (vi (nI m)) dX6_endsWithSource_17 hO.k0 (by decide) (by decide) fl_X6_40 (congrArg (fun z => toV (vi z)) (hO.f_num.trans hm)) ?_
  refine wp_aload_n (i := 0) dX6_endsWithSource_20 rfl rfl ?_
  refine wp_get 8 0 (vr (some (nm 50 u))) dX6_endsWithSource_21 hO.k0 (by decide) (by decide) fl_X6_32 (congrArg (fun z => toV (vr z)) ((hO.o_src).trans hsrc)) ?_
  refine wp_get 8 4 (vi (nI (tot E))) dX6_endsWithSource_24 ((ce_k (hF (nm 50 u) (CQs_n (by omega) (by decide)))).trans hU.k0) (by decide) (by decide) fl_X6_15 (congrArg (fun z => toV (vi z)) (hU.f_cnt.trans (congrArg nI hy.1))) ?_
  refine wp_icmp_leN 34 dX6_endsWithSource_27 (by decide) (by omega) (by omega) (fun c_27 => ?_) (fun c_27 => ?_)
  · skip
    refine wp_iconst (nI 0) dX6_endsWithSource_34 (by decide) ?_
    refine wp_zreturn dX6_endsWithSource_35 rfl (by first | rfl | assumption) ?_
    rw [show decide (tot E < m) = false from decide_eq_false (by omega)] at hq
    exact hq
  · skip
    refine wp_iconst (nI 1) dX6_endsWithSource_30 (by decide) ?_
    refine wp_goto 35 dX6_endsWithSource_31 (by decide) ?_
    refine wp_zreturn dX6_endsWithSource_35 rfl (by first | rfl | assumption) ?_
    rw [show decide (tot E < m) = true from decide_eq_true (by omega)] at hq
    exact hq
set_option maxRecDepth 100000 in
set_option maxHeartbeats 4000000 in
theorem c_X6_srcN {G : GG} {d bc bs : Nat} {h : Hp} {Q : Pst} {s : Nat} {x : KQS} (hO : KQ h s x) (hsrc : KQ_src x = none) {k : Nat} {wh : Bool} (hq : Q (oRet (vi (-1))) h) : WP G m_X6_sourceChunksFor d 0 (aargs 0 [vr (some (nm 50 s)), vi (nI k), vi (bI wh)]) [] h bc bs Q := by
  have hF : Fr h h (CQs s) := Fr.rf
  refine wp_sub [(0, vr (some (nm 50 s))), (1, vi (nI k)), (2, vi (bI wh))] (fun _ hz => hz) ?_
  refine wp_aload_n (i := 0) dX6_sourceChunksFor_0 rfl rfl ?_
  refine wp_get 8 0 (vr none) dX6_sourceChunksFor_1 hO.k0 (by decide) (by decide) fl_X6_32 (congrArg (fun z => toV (vr z)) ((hO.o_src).trans hsrc)) ?_
  refine wp_ifnonnull 9 dX6_sourceChunksFor_4 (by decide) (fun a_4 c_4 => absurd c_4 (fun z => nomatch z)) (fun c_4 => ?_)
  refine wp_iconst (-1) dX6_sourceChunksFor_7 (by decide) ?_
  refine wp_ireturn dX6_sourceChunksFor_8 rfl ?_
  exact hq
def scQ (E : List (List Int32)) (w : Int32) (k : Nat) (wh : Bool) : Int32 := if wh = true then nI E.length else if w = nI 116 then (if k = 0 then -1 else nI (cf E (k - 1))) else nI k
set_option maxRecDepth 100000 in
set_option maxHeartbeats 4000000 in
theorem c_X6_srcS {G : GG} {d bc bs : Nat} {h : Hp} {Q : Pst} {s : Nat} {x : KQS} (hO : KQ h s x) {u : Nat} {y : KQS} {E : List (List Int32)} (hsrc : KQ_src x = some (nm 50 u)) (hus : u ≠ s) (hU : KQ h u y) (hy : KF y E) {k : Nat} (hk : k ≤ 99) {wh : Bool} (hd : 2 ≤ d) (hq : Q (oRet (vi (scQ E (KQ_way x) k wh))) h) : WP G m_X6_sourceChunksFor d 0 (aargs 0 [vr (some (nm 50 s)), vi (nI k), vi (bI wh)]) [] h bc bs Q := by
  have hF : Fr h h (CQs s) := Fr.rf
  refine wp_sub [(0, vr (some (nm 50 s))), (1, vi (nI k)), (2, vi (bI wh))] (fun _ hz => hz) ?_
  refine wp_aload_n (i := 0) dX6_sourceChunksFor_0 rfl rfl ?_
  refine wp_get 8 0 (vr (some (nm 50 u))) dX6_sourceChunksFor_1 hO.k0 (by decide) (by decide) fl_X6_32 (congrArg (fun z => toV (vr z)) ((hO.o_src).trans hsrc)) ?_
  refine wp_ifnonnull 9 dX6_sourceChunksFor_4 (by decide) (fun a_4 c_4 => ?_) (fun c_4 => absurd c_4 (fun z => nomatch z))
  refine wp_iload_n (i := 2) dX6_sourceChunksFor_9 rfl rfl ?_
  refine wp_if_eqB 21 dX6_sourceChunksFor_10 (by decide) (fun c_10 => ?_) (fun c_10 => ?_)
  · skip
    refine wp_aload_n (i := 0) dX6_sourceChunksFor_21 rfl rfl ?_
    refine wp_get 8 1 (vi (KQ_way x)) dX6_sourceChunksFor_22 hO.k0 (by decide) (by decide) fl_X6_36 (congrArg (fun z => toV (vi z)) (hO.f_way)) ?_
    refine wp_bipush (nI 116) dX6_sourceChunksFor_25 (by decide) ?_
    refine wp_icmp_eq 32 dX6_sourceChunksFor_27 (by decide) (fun c_27 => ?_) (fun c_27 => ?_)
    · skip
      refine wp_iload_n (i := 1) dX6_sourceChunksFor_32 rfl rfl ?_
      refine wp_if_neN 40 dX6_sourceChunksFor_33 (by decide) (by omega) (fun c_33 => ?_) (fun c_33 => ?_)
      · skip
        refine wp_aload_n (i := 0) dX6_sourceChunksFor_40 rfl rfl ?_
        refine wp_get 8 0 (vr (some (nm 50 u))) dX6_sourceChunksFor_41 hO.k0 (by decide) (by decide) fl_X6_32 (congrArg (fun z => toV (vr z)) ((hO.o_src).trans hsrc)) ?_
        refine wp_iload_n (i := 1) dX6_sourceChunksFor_44 rfl rfl ?_
        refine wp_iconst (nI 1) dX6_sourceChunksFor_45 (by decide) ?_
        refine wp_isubN dX6_sourceChunksFor_46 (by omega) ?_
        refine wp_cV (y' := m_X6_chunksFor) 8 [vi (nI (k - 1))] [] 0 0 dX6_sourceChunksFor_47 ml_X6_64 im_X6_chunksFor se_X6_chunksFor (by decide) ((ce_k (hF (nm 50 u) (CQs_n (by omega) (by decide)))).trans hU.k0) ok_X6_chunksFor rfl (Nat.le_of_ble_eq_true rfl) rfl (Nat.le_of_ble_eq_true rfl) (d' := d - 1) (by omega) (Nat.zero_le _) (Nat.zero_le _) (c_X6_chunksFor hy hU (q := k - 1) (by omega) (by omega) (cont_ret ?_))
        refine wp_ireturn dX6_sourceChunksFor_50 rfl ?_
        rw [show scQ E (KQ_way x) k wh = nI (cf E (k - 1)) from by unfold scQ; rw [if_neg (by rw [c_10]; decide), if_pos c_27, if_neg (by omega)]] at hq
        exact hq
      · skip
        refine wp_iconst (-1) dX6_sourceChunksFor_36 (by decide) ?_
        refine wp_goto 50 dX6_sourceChunksFor_37 (by decide) ?_
        refine wp_ireturn dX6_sourceChunksFor_50 rfl ?_
        rw [show scQ E (KQ_way x) k wh = -1 from by unfold scQ; rw [if_neg (by rw [c_10]; decide), if_pos c_27, if_pos (by omega)]] at hq
        exact hq
    · skip
      refine wp_iload_n (i := 1) dX6_sourceChunksFor_30 rfl rfl ?_
      refine wp_ireturn dX6_sourceChunksFor_31 rfl ?_
      rw [show scQ E (KQ_way x) k wh = nI k from by unfold scQ; rw [if_neg (by rw [c_10]; decide), if_neg c_27]] at hq
      exact hq
  · skip
    refine wp_aload_n (i := 0) dX6_sourceChunksFor_13 rfl rfl ?_
    refine wp_get 8 0 (vr (some (nm 50 u))) dX6_sourceChunksFor_14 hO.k0 (by decide) (by decide) fl_X6_32 (congrArg (fun z => toV (vr z)) ((hO.o_src).trans hsrc)) ?_
    refine wp_get 8 6 (vi (nI E.length)) dX6_sourceChunksFor_17 ((ce_k (hF (nm 50 u) (CQs_n (by omega) (by decide)))).trans hU.k0) (by decide) (by decide) fl_X6_22 (congrArg (fun z => toV (vi z)) (hU.f_cc.trans (congrArg nI hy.2.1))) ?_
    refine wp_ireturn dX6_sourceChunksFor_20 rfl ?_
    rw [show scQ E (KQ_way x) k wh = nI E.length from by unfold scQ; rw [if_pos c_10]] at hq
    exact hq
