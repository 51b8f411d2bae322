/-! The class: collect. -/
/-- what collect is held to -/
def KOC (Q : Pst) (h : Hp) (E : List String) (M : Nat) (o : Int32 × Int32 × SV × Nat × (Nat → QIS)) : Prop := (∀ i e, o.1 = nI (i + 1) → E[i]? = some e → CQR h o.2.2.2.1 o.2.2.2.2 → CV h o.2.2.1 M → Q (oThr e) h) ∧ (o.1 = nI 0 → ∀ h1 h', FRKQ h h1 → FRV h1 h' → CQR h' o.2.2.2.1 o.2.2.2.2 → CV h' o.2.2.1 M → Q (oRet (vi o.2.1)) h')
theorem outK_iff {xs : List (List Int32)} : ∀ n, outK xs n = true ↔ ∃ j, j < n ∧ elB (atF xs j) = false := by
  intro n
  induction n with
  | zero => exact ⟨(fun h => nomatch h), fun ⟨j, h, _⟩ => absurd h (Nat.not_lt_zero _)⟩
  | succ n ih =>
    rw [outK, Bool.or_eq_true, ih, Bool.not_eq_true']
    constructor
    · rintro (⟨j, h1, h2⟩ | h)
      · exact ⟨j, by omega, h2⟩
      · exact ⟨n, Nat.lt_succ_self n, h⟩
    · rintro ⟨j, h1, h2⟩
      by_cases e : j = n
      · rw [e] at h2; exact Or.inr h2
      · exact Or.inl ⟨j, by omega, h2⟩
theorem COI.frv {h0 h : Hp} {M n N c0 c1 i : Nat} {nd : Nat → Nat} {el : Nat → Int32} (C : COI h0 h M n N c0 c1 i nd el) : FRV h0 h := FRV.of C.2.2.2 (fun a ha => by unfold VN nm at ha; unfold nm; omega)
set_option maxRecDepth 100000 in
set_option maxHeartbeats 4000000 in
theorem c_X11_refuseElementT {G : GG} {d bc bs : Nat} {h : Hp} {Q : Pst} {e : Int32} (hd : 6 ≤ d) (he : elB e = true) (hq : Q oVoid h) : WP G m_X11_refuseElement d 0 (aargs 0 [vi e]) [] h bc bs Q := by
  refine wp_sub [(0, vi e)] (fun _ hz => hz) ?_
  refine wp_iload_n (i := 0) dX11_refuseElement_0 rfl rfl ?_
  refine wp_sipush (-999) dX11_refuseElement_1 (by decide) ?_
  refine wp_sipush (nI 999) dX11_refuseElement_4 (by decide) ?_
  refine wp_cS (y' := m_X11_isWithin) [vi e, vi (-999), vi (nI 999)] [] 0 0 dX11_refuseElement_7 ml_X11_256 st_X11_isWithin ok_X11_isWithin rfl (Nat.le_of_ble_eq_true rfl) rfl (Nat.le_of_ble_eq_true rfl) (d' := d - 1) (by omega) (Nat.zero_le _) (Nat.zero_le _) (c_X11_isWithin e (-999) (nI 999) (cont_ret ?_))
  refine wp_if_neB 24 dX11_refuseElement_10 (by decide) (fun c_10 => ?_) (fun c_10 => Bool.noConfusion ((show elB e = false from c_10).symm.trans he))
  refine wp_return dX11_refuseElement_24 rfl ?_
  exact hq
set_option maxRecDepth 100000 in
set_option maxHeartbeats 4000000 in
theorem l_X11_collect1 {G : GG} {d kB kS : Nat} {h : Hp} {Q : Pst} {nq s : Nat} {y : Nat → QIS} (hQ : CQR h nq y) (hs : s < nq) (h24 : tot (q_F (y s)) ≤ 24) (hd : 8 ≤ d) (hk1 : 1 ≤ kB) (hk6 : 6 ≤ kS) (hqe : ∀ j, j < tot (q_F (y s)) → elB (atF (q_F (y s)) j) = false → Q (oThr "java/lang/IllegalArgumentException") h) (hk : (∀ j, j < tot (q_F (y s)) → elB (atF (q_F (y s)) j) = true) → ∀ bc bs, kB ≤ bc → kS ≤ bs → WP G m_X11_collect d 34 [(0, vr (some (nm 40 0))), (1, vi (nI s)), (2, vr (some (nm 50 s)))] [] h bc bs Q) : ∀ m i bc bs, i + m = tot (q_F (y s)) → kB ≤ bc → kS ≤ bs → (∀ j, j < i → elB (atF (q_F (y s)) j) = true) → WP G m_X11_collect d 12 [(3, vi (nI i)), (0, vr (some (nm 40 0))), (1, vi (nI s)), (2, vr (some (nm 50 s)))] [] h bc bs Q := by
  intro m
  induction m with
  | zero =>
    intro i bc bs hi hbc hbs hE
    have hi : i = tot (q_F (y s)) := hi
    refine wp_iload_n (i := 3) dX11_collect_12 rfl rfl ?_
    refine wp_aload_n (i := 2) dX11_collect_13 rfl rfl ?_
    refine wp_get 8 4 (vi (nI (tot (q_F (y s))))) dX11_collect_14 (hQ.s hs).k0 (by decide) (by decide) fl_X11_289 (congrArg (fun z => toV (vi z)) ((hQ.s hs).f_cnt)) ?_
    refine wp_icmp_geN 34 dX11_collect_17 (by decide) (by omega) (by omega) (fun c_17 => ?_) (fun c_17 => absurd c_17 (by omega))
    refine wp_sub [(0, vr (some (nm 40 0))), (1, vi (nI s)), (2, vr (some (nm 50 s)))] (sb_cons (.tail _ (.head _)) (sb_cons (.tail _ (.tail _ (.head _))) (sb_cons (.tail _ (.tail _ (.tail _ (.head _)))) sb_nil))) ?_
    exact hk (fun j hj => hE j (by omega)) bc bs (by omega) (by omega)
  | succ m ih =>
    intro i bc bs hi hbc hbs hE
    refine wp_iload_n (i := 3) dX11_collect_12 rfl rfl ?_
    refine wp_aload_n (i := 2) dX11_collect_13 rfl rfl ?_
    refine wp_get 8 4 (vi (nI (tot (q_F (y s))))) dX11_collect_14 (hQ.s hs).k0 (by decide) (by decide) fl_X11_289 (congrArg (fun z => toV (vi z)) ((hQ.s hs).f_cnt)) ?_
    refine wp_icmp_geN 34 dX11_collect_17 (by decide) (by omega) (by omega) (fun c_17 => absurd c_17 (by omega)) (fun c_17 => ?_)
    refine wp_aload_n (i := 2) dX11_collect_20 rfl rfl ?_
    refine wp_iload_n (i := 3) dX11_collect_21 rfl rfl ?_
    refine wp_cV (y' := m_X6_elementAt) 8 [vi (nI i)] [] 0 0 dX11_collect_22 ml_X11_304 im_X6_elementAt se_X6_elementAt (by decide) (hQ.s hs).k0 ok_X6_elementAt rfl (Nat.le_of_ble_eq_true rfl) rfl (Nat.le_of_ble_eq_true rfl) (d' := d - 1) (by omega) (Nat.zero_le _) (Nat.zero_le _) (c_X6_elementAt (hQ.s hs) (i := i) (by omega) (congrFun atF_nl i) (cont_ret ?_))
    by_cases b_e : elB (atF (q_F (y s)) i) = true
    · refine wp_cS (y' := m_X11_refuseElement) [vi (atF (q_F (y s)) i)] [] 0 0 dX11_collect_25 ml_X11_91 st_X11_refuseElement ok_X11_refuseElement rfl (Nat.le_of_ble_eq_true rfl) rfl (Nat.le_of_ble_eq_true rfl) (d' := d - 1) (by omega) (by omega) (by omega) (c_X11_refuseElementT (by omega) b_e (cont_void ?_))
      refine wp_iincN (a := i) (lv' := [(3, vi (nI (i + 1))), (0, vr (some (nm 40 0))), (1, vi (nI s)), (2, vr (some (nm 50 s)))]) 1 dX11_collect_28 rfl (by decide) (by decide) rfl ?_
      refine wp_goto 12 dX11_collect_31 (by decide) ?_
      refine wp_sub [(3, vi (nI (i + 1))), (0, vr (some (nm 40 0))), (1, vi (nI s)), (2, vr (some (nm 50 s)))] (sb_cons (.head _) (sb_cons (.tail _ (.head _)) (sb_cons (.tail _ (.tail _ (.head _))) (sb_cons (.tail _ (.tail _ (.tail _ (.head _)))) sb_nil)))) ?_
      refine ih (i + 1) _ _ (by omega) (by omega) (by omega) (fun j hj => ?_)
      by_cases q : j = i
      · rw [q]; exact b_e
      · exact hE j (by omega)
    · refine wp_cS (y' := m_X11_refuseElement) [vi (atF (q_F (y s)) i)] [] 1 6 dX11_collect_25 ml_X11_91 st_X11_refuseElement ok_X11_refuseElement rfl (Nat.le_of_ble_eq_true rfl) rfl (Nat.le_of_ble_eq_true rfl) (d' := d - 1) (by omega) (by omega) (by omega) (c_X11_refuseElement (by omega) (by omega) (by omega) (fun g_e => cont_thr rfl (hqe i (by omega) g_e)) (fun z => absurd z b_e))
set_option maxRecDepth 100000 in
set_option maxHeartbeats 4000000 in
theorem l_X11_collect2 {G : GG} {d : Nat} {h : Hp} {Q : Pst} {S : SV} {M nq s K : Nat} {y : Nat → QIS} (hC : CV h S M) (h60 : sNv S < 60) (hr : sMd S + 30 < 700000) (hQ : CQR h nq y) (hs : s < nq) (h24 : tot (q_F (y s)) ≤ 24) (fK : FreeI h 43 K) (hd : 9 ≤ d) (hq : ∀ h', CV h' (colS S (q_F (y s))) M → FRV h h' → Q (oRet (vi (nI (sNv S)))) h') : ∀ m i H bc bs, i + m = tot (q_F (y s)) → 12 * m + 40 ≤ bc → 273 * m + 100 ≤ bs → COI h H M (sNv S) (tot (q_F (y s))) (sMd S) (sMd (colS S (q_F (y s)))) i (ndv (colS S (q_F (y s))) (sNv S)) (atF (q_F (y s))) → WP G m_X11_collect d 65 [(5, vi (nI i)), (4, vr (some (nm 45 (ndv (colS S (q_F (y s))) (sNv S) (rtS i))))), (0, vr (some (nm 40 0))), (1, vi (nI s)), (2, vr (some (nm 50 s))), (3, vi (nI (sNv S)))] [] H bc bs Q := by
  obtain ⟨f1, f2, f3, f4, f5, f6, f7, f8, f9⟩ := col_f (S := S) (xs := q_F (y s)) (by omega)
  intro m
  induction m with
  | zero =>
    intro i H bc bs hi hbc hbs C
    have hi : i = tot (q_F (y s)) := hi
    have hQH := hQ.frV C.frv
    refine wp_iload (i := 5) dX11_collect_65 rfl ?_
    refine wp_aload_n (i := 2) dX11_collect_67 rfl rfl ?_
    refine wp_get 8 4 (vi (nI (tot (q_F (y s))))) dX11_collect_68 (hQH.s hs).k0 (by decide) (by decide) fl_X11_289 (congrArg (fun z => toV (vi z)) ((hQH.s hs).f_cnt)) ?_
    refine wp_icmp_geN 100 dX11_collect_71 (by decide) (by omega) (by omega) (fun c_72 => ?_) (fun c_72 => absurd c_72 (by omega))
    refine wp_aload_n (i := 0) dX11_collect_100 rfl rfl ?_
    refine wp_aload (i := 4) dX11_collect_101 rfl ?_
    refine wp_aload_n (i := 2) dX11_collect_103 rfl rfl ?_
    refine wp_get 8 4 (vi (nI (tot (q_F (y s))))) dX11_collect_104 (hQH.s hs).k0 (by decide) (by decide) fl_X11_289 (congrArg (fun z => toV (vi z)) ((hQH.s hs).f_cnt)) ?_
    refine wp_aload_n (i := 2) dX11_collect_107 rfl rfl ?_
    refine wp_get 8 3 (vr (some (nm 51 s))) dX11_collect_108 (hQH.s hs).k0 (by decide) (by decide) fl_X11_314 (congrArg (fun z => toV (vr z)) ((hQH.s hs).r4_3)) ?_
    refine wp_aload_n (i := 2) dX11_collect_111 rfl rfl ?_
    refine wp_get 8 4 (vi (nI (tot (q_F (y s))))) dX11_collect_112 (hQH.s hs).k0 (by decide) (by decide) fl_X11_289 (congrArg (fun z => toV (vi z)) ((hQH.s hs).f_cnt)) ?_
    refine wp_cS (y' := m_J7_copyOf_59c91) [vr (some (nm 51 s)), vi (nI (tot (q_F (y s))))] [vi (nI (tot (q_F (y s)))), vr (some (nm 45 (ndv (colS S (q_F (y s))) (sNv S) (rtS i)))), vr (some (nm 40 0))] 1 70 dX11_collect_115 ml_X11_110 st_J7_copyOf_59c91 ok_J7_copyOf_59c91 rfl (Nat.le_of_ble_eq_true rfl) rfl (Nat.le_of_ble_eq_true rfl) (d' := d - 1) (by omega) (by omega) (by omega) (c_J7_copyI (q := nm 43 K) (hQH.s hs).k10 (by rw [(hQH.s hs).n10]; decide) (by omega) ((ce_k (C.2.2.2 _ (by unfold VN nm; omega))).trans (fK K (Nat.le_refl _))) (by omega) (by omega) (by omega) (fun h3 k3 n3 e3 _ F3 => cont_ret ?_))
    have R3 : PRr h3 (nm 43 K) (tot (q_F (y s))) (atF (q_F (y s))) := ⟨k3, n3, fun j hj => by rw [e3 j (by rw [(hQH.s hs).n10]; omega)]; exact ((hQH.s hs).a_el j).trans (congrFun atF_nl j)⟩
    have g3 : ∀ r i, r ≠ 43 → r < 128 → (r < 45 ∧ (r ≠ 40 ∨ i ≠ 2)) → ce h3 (nm r i) = ce h (nm r i) := fun r i r1 r2 r3 => (F3 _ (by unfold nm; omega)).trans (C.2.2.2 _ (by unfold VN nm; omega))
    have C3 : CVh h3 (sNv S) M := hC.1.frm (g3 40 0 (by decide) (by decide) (by decide)) (g3 40 1 (by decide) (by decide) (by decide))
    refine wp_cV (y' := m_X11_keepVector) 12 [vr (some (nm 45 (ndv (colS S (q_F (y s))) (sNv S) (rtS i)))), vi (nI (tot (q_F (y s)))), vr (some (nm 43 K))] [] 1 5 dX11_collect_118 ml_X11_83 im_X11_keepVector se_X11_keepVector (by decide) (C3.1.1) ok_X11_keepVector rfl (Nat.le_of_ble_eq_true rfl) rfl (Nat.le_of_ble_eq_true rfl) (d' := d - 1) (by omega) (by omega) (by omega) (c_X11_keepVector C3 (by omega) (by omega) ((ce_k (g3 42 _ (by decide) (by decide) ⟨by decide, Or.inl (by decide)⟩)).trans (hC.2.2.2.1 _ (Nat.le_refl _))) (by omega) (by omega) (by omega) (fun h4 C4 K4 G4 V4 => cont_ret ?_))
    rw [hi] at C
    have E9 := hC.colEnd h60 (by omega) fK C F3 R3 C4 (by rw [hi] at K4; exact K4) G4 V4
    refine wp_ireturn dX11_collect_121 rfl ?_
    exact hq h4 E9.1 E9.2
  | succ m ih =>
    intro i H bc bs hi hbc hbs C
    have hQH := hQ.frV C.frv
    refine wp_iload (i := 5) dX11_collect_65 rfl ?_
    refine wp_aload_n (i := 2) dX11_collect_67 rfl rfl ?_
    refine wp_get 8 4 (vi (nI (tot (q_F (y s))))) dX11_collect_68 (hQH.s hs).k0 (by decide) (by decide) fl_X11_289 (congrArg (fun z => toV (vi z)) ((hQH.s hs).f_cnt)) ?_
    refine wp_icmp_geN 100 dX11_collect_71 (by decide) (by omega) (by omega) (fun c_72 => absurd c_72 (by omega)) (fun c_72 => ?_)
    refine wp_aload_n (i := 0) dX11_collect_74 rfl rfl ?_
    refine wp_get 12 2 (vr (some (nm 40 2))) dX11_collect_75 ((ce_k (C.2.2.2 (nm 40 0) (by unfold VN nm; omega))).trans hC.1.1.1) (by decide) (by decide) fl_X11_22 (congrArg (fun z => toV (vr z)) ((congrFun (ce_R (C.2.2.2 (nm 40 0) (by unfold VN nm; omega))) 2).trans hC.1.1.2.2.2.1)) ?_
    refine wp_aload (i := 4) dX11_collect_78 rfl ?_
    refine wp_iload (i := 5) dX11_collect_80 rfl ?_
    refine wp_aload_n (i := 2) dX11_collect_82 rfl rfl ?_
    refine wp_iload (i := 5) dX11_collect_83 rfl ?_
    refine wp_cV (y' := m_X6_elementAt) 8 [vi (nI i)] [vi (nI i), vr (some (nm 45 (ndv (colS S (q_F (y s))) (sNv S) (rtS i)))), vr (some (nm 40 2))] 0 0 dX11_collect_85 ml_X11_304 im_X6_elementAt se_X6_elementAt (by decide) (hQH.s hs).k0 ok_X6_elementAt rfl (Nat.le_of_ble_eq_true rfl) rfl (Nat.le_of_ble_eq_true rfl) (d' := d - 1) (by omega) (Nat.zero_le _) (Nat.zero_le _) (c_X6_elementAt (hQH.s hs) (i := i) (by omega) (congrFun atF_nl i) (cont_ret ?_))
    refine wp_iload_n (i := 3) dX11_collect_88 rfl rfl ?_
    refine wp_cS (y' := m_X9_withOneMore) [vr (some (nm 40 2)), vr (some (nm 45 (ndv (colS S (q_F (y s))) (sNv S) (rtS i)))), vi (nI i), vi (atF (q_F (y s)) i), vi (nI (sNv S))] [] 12 273 dX11_collect_89 ml_X11_120 st_X9_withOneMore ok_X9_withOneMore rfl (Nat.le_of_ble_eq_true rfl) rfl (Nat.le_of_ble_eq_true rfl) (d' := d - 1) (by omega) (by omega) (by omega) (c_moreC h60 (by omega) (by omega) hr f6 f7 C (by omega) (by omega) (by omega) (fun h2 C2 F2 => cont_ret ?_))
    refine wp_astore (i := 4) (lv' := [(4, vr (some (nm 45 (ndv (colS S (q_F (y s))) (sNv S) (rtS (i + 1)))))), (5, vi (nI i)), (0, vr (some (nm 40 0))), (1, vi (nI s)), (2, vr (some (nm 50 s))), (3, vi (nI (sNv S)))]) dX11_collect_92 (by decide) rfl ?_
    refine wp_iincN (a := i) (lv' := [(5, vi (nI (i + 1))), (4, vr (some (nm 45 (ndv (colS S (q_F (y s))) (sNv S) (rtS (i + 1)))))), (0, vr (some (nm 40 0))), (1, vi (nI s)), (2, vr (some (nm 50 s))), (3, vi (nI (sNv S)))]) 1 dX11_collect_94 rfl (by decide) (by decide) rfl ?_
    refine wp_goto 65 dX11_collect_97 (by decide) ?_
    refine wp_sub [(5, vi (nI (i + 1))), (4, vr (some (nm 45 (ndv (colS S (q_F (y s))) (sNv S) (rtS (i + 1)))))), (0, vr (some (nm 40 0))), (1, vi (nI s)), (2, vr (some (nm 50 s))), (3, vi (nI (sNv S)))] (sb_cons (.head _) (sb_cons (.tail _ (.head _)) (sb_cons (.tail _ (.tail _ (.head _))) (sb_cons (.tail _ (.tail _ (.tail _ (.head _)))) (sb_cons (.tail _ (.tail _ (.tail _ (.tail _ (.head _))))) (sb_cons (.tail _ (.tail _ (.tail _ (.tail _ (.tail _ (.head _)))))) sb_nil)))))) ?_
    exact ih (i + 1) h2 _ _ (by omega) (by omega) (by omega) C2
theorem col_0 {S : SV} {xs : List (List Int32)} : ndv (colS S xs) (sNv S) 0 = sMd S + 1 := by
  show ndv (nfS (colK (s_new S 118) xs (tot xs) (tot xs)) (sNv S) (fun _ => false) (fun _ => 0) 21) (sNv S) 0 = _
  rw [ndv_nf (by decide), if_pos (ith_le (Nat.zero_le _) (ith_0.mpr rfl)), if_neg (by decide)]; rfl
set_option maxRecDepth 100000 in
set_option maxHeartbeats 4000000 in
theorem c_X11_collect {G : GG} {d bc bs : Nat} {h : Hp} {Q : Pst} {S : SV} {M n s : Nat} {x : Nat → QIS} (hS : SVI S) (hC : CV h S M) (hX : QX n x) (hQ : CQR h n x) (hr : sMd S + 30 < 700000) {u : Int32} (hu : ixB u n = true → u = nI s ∧ s < n) (hd : 12 ≤ d) (hbc : 3 ≤ bc ∧ ((o_collect S n x u s).1 = nI 0 → 500 ≤ bc)) (hbs : 18 ≤ bs ∧ ((o_collect S n x u s).1 = nI 0 → 9000 ≤ bs)) (hq : KOC Q h ["java/lang/IndexOutOfBoundsException", "java/lang/UnsupportedOperationException", "java/lang/IllegalArgumentException", "java/lang/IllegalStateException"] M (o_collect S n x u s)) : WP G m_X11_collect d 0 (aargs 0 [vr (some (nm 40 0)), vi u]) [] h bc bs Q := by
  have hn60 := hS.1
  have hn12 := hX.1.2.1
  refine wp_sub [(0, vr (some (nm 40 0))), (1, vi u)] (fun _ hz => hz) ?_
  refine wp_aload_n (i := 0) dX11_collect_0 rfl rfl ?_
  refine wp_iload_n (i := 1) dX11_collect_1 rfl rfl ?_
  refine wp_cV (y' := m_X11_sequenceNumbered) 12 [vi u] [] 1 6 dX11_collect_2 ml_X11_275 im_X11_sequenceNumbered se_X11_sequenceNumbered (by decide) hC.1.1.1 ok_X11_sequenceNumbered rfl (Nat.le_of_ble_eq_true rfl) rfl (Nat.le_of_ble_eq_true rfl) (d' := d - 1) (by omega) (by omega) (by omega) (c_X11_sequenceNumbered hQ (by omega) (v := u) (t := s) hu (by omega) (by omega) (by omega) (fun g_s => cont_thr rfl ?_) (fun b_s eu hs => cont_ret ?_))
  · rw [show o_collect S n x u s = (nI 1, nI 0, S, n, x) from by unfold o_collect; rw [if_pos (by rw [g_s]; rfl)]] at hq
    exact hq.1 0 _ rfl rfl hQ hC
  · subst eu
    have hWs := hX.1.1 s hs
    have h24 := hWs.2.1
    refine wp_astore_n (i := 2) (lv' := [(2, vr (some (nm 50 s))), (0, vr (some (nm 40 0))), (1, vi (nI s))]) dX11_collect_5 rfl (by decide) rfl ?_
    refine wp_aload_n (i := 2) dX11_collect_6 rfl rfl ?_
    refine wp_cS (y' := m_X11_refuseBroken) [vr (some (nm 50 s))] [] 1 6 dX11_collect_7 ml_X11_291 st_X11_refuseBroken ok_X11_refuseBroken rfl (Nat.le_of_ble_eq_true rfl) rfl (Nat.le_of_ble_eq_true rfl) (d' := d - 1) (by omega) (by omega) (by omega) (c_X11_refuseBroken (hQ.s hs) (by omega) (by omega) (by omega) (fun g_b => cont_thr rfl ?_) (fun b_b => cont_void ?_))
    · have g_b : q_B (x s) = true := g_b
      rw [show o_collect S n x (nI s) s = (nI 2, nI 0, S, n, gst x (rcx x) (capR x (enR x s (rcx x)))) from by unfold o_collect; rw [if_neg (by rw [b_s]; decide), if_pos g_b]] at hq
      exact hq.1 1 _ rfl rfl (hQ.g (fun _ _ => rfl)) hC
    · have b_b : q_B (x s) = false := b_b
      refine wp_iconst (nI 0) dX11_collect_10 (by decide) ?_
      refine wp_istore_n (i := 3) (lv' := [(3, vi (nI 0)), (2, vr (some (nm 50 s))), (0, vr (some (nm 40 0))), (1, vi (nI s))]) dX11_collect_11 rfl (by decide) rfl ?_
      refine wp_sub [(3, vi (nI 0)), (0, vr (some (nm 40 0))), (1, vi (nI s)), (2, vr (some (nm 50 s)))] (sb_cons (.head _) (sb_cons (.tail _ (.tail _ (.head _))) (sb_cons (.tail _ (.tail _ (.tail _ (.head _)))) (sb_cons (.tail _ (.head _)) sb_nil)))) ?_
      refine l_X11_collect1 (kB := bc - 1 - 1) (kS := bs - 6 - 6) hQ hs h24 (by omega) (by omega) (by omega) (fun j j1 j2 => ?_) (fun hE bc2 bs2 hbc2 hbs2 => ?_) (tot (q_F (x s))) 0 _ _ (Nat.zero_add _) (by omega) (by omega) (fun j hj => absurd hj (Nat.not_lt_zero _))
      · rw [show o_collect S n x (nI s) s = (nI 3, nI 0, S, n, gst x (rcx x) (capR x (enR x s (rcx x)))) from by unfold o_collect; rw [if_neg (by rw [b_s]; decide), if_neg (by rw [b_b]; decide), if_pos ((outK_iff _).mpr ⟨j, j1, j2⟩)]] at hq
        exact hq.1 2 _ rfl rfl (hQ.g (fun _ _ => rfl)) hC
      · refine wp_aload_n (i := 0) dX11_collect_34 rfl rfl ?_
        refine wp_cV (y' := m_X11_refuseMoreValues) 12 [] [] 1 6 dX11_collect_35 ml_X11_76 im_X11_refuseMoreValues se_X11_refuseMoreValues (by decide) hC.1.1.1 ok_X11_refuseMoreValues rfl (Nat.le_of_ble_eq_true rfl) rfl (Nat.le_of_ble_eq_true rfl) (d' := d - 1) (by omega) (by omega) (by omega) (c_X11_refuseMoreValues hC.1 (by omega) (by omega) (by omega) (by omega) (fun g_m => cont_thr rfl ?_) (fun b_m => cont_void ?_))
        · rw [show o_collect S n x (nI s) s = (nI 4, nI 0, S, n, gst x (rcx x) (capR x (enR x s (rcx x)))) from by unfold o_collect; rw [if_neg (by rw [b_s]; decide), if_neg (by rw [b_b]; decide), if_neg (fun z => by obtain ⟨j, j1, j2⟩ := (outK_iff _).mp z; rw [hE j j1] at j2; cases j2), if_pos (by omega)]] at hq
          exact hq.1 3 _ rfl rfl (hQ.g (fun _ _ => rfl)) hC
        · have hz : (o_collect S n x (nI s) s).1 = nI 0 := congrArg (fun z => z.1) (show o_collect S n x (nI s) s = (nI 0, nI (sNv S), colS S (q_F (x s)), n, setR x (enR x s (rcx x))) from by unfold o_collect; rw [if_neg (by rw [b_s]; decide), if_neg (by rw [b_b]; decide), if_neg (fun z => by obtain ⟨j, j1, j2⟩ := (outK_iff _).mp z; rw [hE j j1] at j2; cases j2), if_neg (by omega)])
          have hb1 := hbc.2 hz
          have hb2 := hbs.2 hz
          refine wp_aload_n (i := 2) dX11_collect_38 rfl rfl ?_
          refine wp_aload_n (i := 2) dX11_collect_39 rfl rfl ?_
          refine wp_get 8 6 (vi (nI (q_F (x s)).length)) dX11_collect_40 (hQ.s hs).k0 (by decide) (by decide) fl_X11_305 (congrArg (fun z => toV (vi z)) ((hQ.s hs).f_cc)) ?_
          refine wp_iconst (nI 1) dX11_collect_43 (by decide) ?_
          refine wp_cS (y' := m_X11_realise) [vr (some (nm 50 s)), vi (nI (q_F (x s)).length), vi (nI 1)] [] 0 0 dX11_collect_44 ml_X11_300 st_X11_realise ok_X11_realise rfl (Nat.le_of_ble_eq_true rfl) rfl (Nat.le_of_ble_eq_true rfl) (d' := d - 1) (by omega) (Nat.zero_le _) (Nat.zero_le _) (c_X11_realise1 (r := rcx x) (κ := capR x (enR x s (rcx x))) hX.1.1 (by omega) hs hX.2.1.l (hQ.g (fun _ _ => rfl)) (by omega) (fun h2 Q2 G2 => cont_void ?_))
          have C2 := hC.frQ G2
          obtain ⟨K, fK⟩ := C2.2.2.2.2.2.2
          refine wp_aload_n (i := 0) dX11_collect_47 rfl rfl ?_
          refine wp_get 12 1 (vi (nI (sNv S))) dX11_collect_48 C2.1.1.1 (by decide) (by decide) fl_X11_15 (congrArg (fun z => toV (vi z)) (C2.1.1.2.2.1)) ?_
          refine wp_istore_n (i := 3) (lv' := [(3, vi (nI (sNv S))), (0, vr (some (nm 40 0))), (1, vi (nI s)), (2, vr (some (nm 50 s)))]) dX11_collect_51 rfl (by decide) rfl ?_
          refine wp_aload_n (i := 0) dX11_collect_52 rfl rfl ?_
          refine wp_get 12 2 (vr (some (nm 40 2))) dX11_collect_53 C2.1.1.1 (by decide) (by decide) fl_X11_22 (congrArg (fun z => toV (vr z)) (C2.1.1.2.2.2.1)) ?_
          refine wp_iload_n (i := 3) dX11_collect_56 rfl rfl ?_
          refine wp_cV (y' := m_X4_freshLeaf) 6 [vi (nI (sNv S))] [] 2 11 dX11_collect_57 ml_X11_79 im_X4_freshLeaf se_X4_freshLeaf (by decide) C2.2.1.1 ok_X4_freshLeaf rfl (Nat.le_of_ble_eq_true rfl) rfl (Nat.le_of_ble_eq_true rfl) (d' := d - 1) (by omega) (by omega) (by omega) (c_X4_freshLeaf (k := sMd S + 1) C2.2.1 (by omega) (C2.2.2.2.2.2.1 _ (Nat.lt_succ_self _)).1 (C2.2.2.2.2.2.1 _ (Nat.lt_succ_self _)).2.2.1 (by omega) (by omega) (by omega) (fun h3 x3 K3 L3 m3 M3 F3 => cont_ret ?_))
          refine wp_astore (i := 4) (lv' := [(4, vr (some (nm 45 (sMd S + 1)))), (3, vi (nI (sNv S))), (0, vr (some (nm 40 0))), (1, vi (nI s)), (2, vr (some (nm 50 s)))]) dX11_collect_60 (by decide) rfl ?_
          refine wp_iconst (nI 0) dX11_collect_62 (by decide) ?_
          refine wp_istore (i := 5) (lv' := [(5, vi (nI 0)), (4, vr (some (nm 45 (sMd S + 1)))), (3, vi (nI (sNv S))), (0, vr (some (nm 40 0))), (1, vi (nI s)), (2, vr (some (nm 50 s)))]) dX11_collect_63 (by decide) rfl ?_
          refine wp_sub [(5, vi (nI 0)), (4, vr (some (nm 45 (sMd S + 1)))), (0, vr (some (nm 40 0))), (1, vi (nI s)), (2, vr (some (nm 50 s))), (3, vi (nI (sNv S)))] (sb_cons (.head _) (sb_cons (.tail _ (.head _)) (sb_cons (.tail _ (.tail _ (.tail _ (.head _)))) (sb_cons (.tail _ (.tail _ (.tail _ (.tail _ (.head _))))) (sb_cons (.tail _ (.tail _ (.tail _ (.tail _ (.tail _ (.head _)))))) (sb_cons (.tail _ (.tail _ (.head _))) sb_nil)))))) ?_
          obtain ⟨f1, f2, f3, f4, f5, f6, f7, f8, f9⟩ := col_f (S := S) (xs := q_F (x s)) (by omega)
          have nd0 : ndv (colS S (q_F (x s))) (sNv S) 0 = sMd S + 1 := col_0
          have C0 : COI h2 h3 M (sNv S) (tot (q_F (x s))) (sMd S) (sMd (colS S (q_F (x s)))) 0 (ndv (colS S (q_F (x s))) (sNv S)) (atF (q_F (x s))) := COI.zero (by omega) f6 f7 C2.2.2.2.2.2.1 nd0 K3 L3 m3 M3 F3
          have e9 : enR x s (rcx x) = rs1 x (s + 1) s (rcx x) := if_neg (by rw [b_b]; decide)
          rw [show sMd S + 1 = ndv (colS S (q_F ((gst x (rs1 x (s + 1) s (rcx x)) (capR x (enR x s (rcx x)))) s))) (sNv S) (rtS 0) from nd0.symm]
          refine l_X11_collect2 (y := (gst x (rs1 x (s + 1) s (rcx x)) (capR x (enR x s (rcx x))))) C2 b_m hr Q2 hs h24 fK (by omega) (fun h5 C5 V5 => ?_) (tot (q_F (x s))) 0 h3 _ _ (Nat.zero_add _) (by omega) (by omega) C0
          rw [show o_collect S n x (nI s) s = (nI 0, nI (sNv S), colS S (q_F (x s)), n, setR x (enR x s (rcx x))) from by unfold o_collect; rw [if_neg (by rw [b_s]; decide), if_neg (by rw [b_b]; decide), if_neg (fun z => by obtain ⟨j, j1, j2⟩ := (outK_iff _).mp z; rw [hE j j1] at j2; cases j2), if_neg (by omega)]] at hq
          exact hq.2 rfl h2 h5 G2 V5 (show CQR h5 n (gst x (enR x s (rcx x)) (capR x (enR x s (rcx x)))) by rw [e9]; rw [e9] at Q2; exact Q2.frV V5) C5
