/-! The class: realising; sequences by number; kept. -/
theorem rs0_cs {n : Nat} {x : Nat → QIS} (hW : QWs n x) {s k : Nat} {r : Nat → Nat} (hs : s < n) (hk : k ≤ (q_F (x s)).length) (h : ¬ q_w (x s) = nI 114) :
    (scQ (q_F (x (sN (x s)))) (q_w (x s)) k false = -1 ∧ rs0 x (s + 1) s k r = va_up r s (max (r s) k)) ∨
    ∃ c, scQ (q_F (x (sN (x s)))) (q_w (x s)) k false = nI c ∧ c ≤ (q_F (x (sN (x s)))).length ∧ rs0 x (s + 1) s k r = rs0 x (sN (x s) + 1) (sN (x s)) c (va_up r s (max (r s) k)) := by
  have h2 := (qs_src hW hs h).2.2
  unfold scQ
  rw [if_neg (by decide)]
  by_cases ht : q_w (x s) = nI 116
  · rw [if_pos ht]
    by_cases hk0 : k = 0
    · left
      rw [if_pos hk0, hk0]
      exact ⟨rfl, rs0_t0 h ht⟩
    · right
      rw [if_neg hk0]
      have h3 : (q_F (x s)).length ≤ tot (q_F (x (sN (x s)))) := by
        rcases h2 with z | z
        · rw [z.2.2.2.1]; exact Nat.min_le_right _ _
        · rw [ht] at z; exact absurd z.1 (by decide)
      exact ⟨_, rfl, cf_le (by omega), rs0_t1 hW hs h ht hk0⟩
  · right
    rw [if_neg ht]
    have h3 : (q_F (x s)).length ≤ (q_F (x (sN (x s)))).length := by
      rcases h2 with z | z
      · exact absurd z.1 ht
      · exact z.2.2.1
    exact ⟨_, rfl, by omega, rs0_o hW hs h ht⟩
theorem rs1_0 {n : Nat} {x : Nat → QIS} (_ : QWs n x) {s : Nat} {r : Nat → Nat} (h : q_w (x s) = nI 114 ∨ (¬ q_w (x s) = nI 114 ∧ q_w (x s) = nI 116 ∧ nN (x s) ≤ tot (q_F (x (sN (x s)))))) : rs1 x (s + 1) s r = rs0 x (s + 1) s (q_F (x s)).length r := by
  rcases h with h | ⟨h, h2⟩
  · rw [rs1_r h, rs0_r h]
  · rw [rs1, rs0, if_neg h, if_neg h, if_pos h2, if_pos h2.1]
theorem src_no {q : QIS} (h : q_w q = nI 114) : srcQ q = none := if_pos h
theorem src_so {q : QIS} (h : ¬ q_w q = nI 114) : srcQ q = some (nm 50 (sN q)) := if_neg h
set_option maxRecDepth 100000 in
set_option maxHeartbeats 4000000 in
theorem l_X11_realNull {G : GG} {d bc bs : Nat} {h : Hp} {Q : Pst} {i : Nat} (hi : i ≤ 12) (hq : Q oVoid h) : WP G m_X11_realise d 11 [(6, vi (nI i)), (3, vr none)] [] h bc bs Q := by
  refine wp_iload (i := 6) dX11_realise_11 rfl ?_
  refine wp_bipush (nI 12) dX11_realise_13 (by decide) ?_
  refine wp_icmp_geN 85 dX11_realise_15 (by decide) (by omega) (by decide) (fun c_15 => ?_) (fun c_15 => ?_)
  · skip
    refine wp_return dX11_realise_85 rfl ?_
    exact hq
  · skip
    refine wp_aload_n (i := 3) dX11_realise_18 rfl rfl ?_
    refine wp_ifnull 85 dX11_realise_19 (by decide) (fun c_19 => ?_) (fun a_19 c_19 => absurd c_19 (fun z => nomatch z))
    refine wp_return dX11_realise_85 rfl ?_
    exact hq
set_option maxRecDepth 100000 in
set_option maxHeartbeats 4000000 in
theorem l_X11_real54 {G : GG} {d bc bs : Nat} {Q : Pst} {h0 : Hp} {n : Nat} {x : Nat → QIS} {κ : Nat → Nat} (hW : QWs n x) (hd : 4 ≤ d) : ∀ s i k r H, i + s ≤ 11 → s < n → k ≤ (q_F (x s)).length → QL n x (va_up r s (max (r s) k)) → CQR H n (gst x (va_up r s (max (r s) k)) κ) → FRKQ h0 H → (∀ H', CQR H' n (gst x (rs0 x (s + 1) s k r) κ) → FRKQ h0 H' → Q oVoid H') → WP G m_X11_realise d 54 [(6, vi (nI i)), (3, vr (some (nm 50 s))), (4, vi (nI k)), (5, vi (nI 0))] [] H bc bs Q := by
  intro s
  induction s using Nat.strongRecOn with
  | _ s ih =>
    intro i k r H hi hs hk hL hC hG hK
    have h24 := (hW s hs).1
    by_cases h9 : q_w (x s) = nI 114
    · refine wp_aload_n (i := 3) dX11_realise_54 rfl rfl ?_
      refine wp_iload (i := 4) dX11_realise_55 rfl ?_
      refine wp_iload (i := 5) dX11_realise_57 rfl ?_
      refine wp_cV (y' := m_X6_sourceChunksFor) 8 [vi (nI k), vi (nI 0)] [] 0 0 dX11_realise_59 ml_X11_540 im_X6_sourceChunksFor se_X6_sourceChunksFor (by decide) (hC.s hs).k0 ok_X6_sourceChunksFor rfl (Nat.le_of_ble_eq_true rfl) rfl (Nat.le_of_ble_eq_true rfl) (d' := d - 1) (by omega) (Nat.zero_le _) (Nat.zero_le _) (c_X6_srcN (hC.s hs) (src_no h9) (k := k) (wh := false) (cont_ret ?_))
      refine wp_istore (i := 4) (lv' := [(4, vi (-1)), (6, vi (nI i)), (3, vr (some (nm 50 s))), (5, vi (nI 0))]) dX11_realise_62 (by decide) rfl ?_
      refine wp_iload (i := 4) dX11_realise_64 rfl ?_
      refine wp_iconst (-1) dX11_realise_66 (by decide) ?_
      refine wp_icmp_ne 74 dX11_realise_67 (by decide) (fun c_67 => absurd c_67 (fun z => z rfl)) (fun c_67 => ?_)
      refine wp_null dX11_realise_70 ?_
      refine wp_goto 78 dX11_realise_71 (by decide) ?_
      refine wp_astore_n (i := 3) (lv' := [(3, vr none), (4, vi (-1)), (6, vi (nI i)), (5, vi (nI 0))]) dX11_realise_78 rfl (by decide) rfl ?_
      refine wp_iincN (a := i) (lv' := [(6, vi (nI (i + 1))), (3, vr none), (4, vi (-1)), (5, vi (nI 0))]) 1 dX11_realise_79 rfl (by decide) (by decide) rfl ?_
      refine wp_goto 11 dX11_realise_82 (by decide) ?_
      refine wp_sub [(6, vi (nI (i + 1))), (3, vr none)] (sb_cons (.head _) (sb_cons (.tail _ (.head _)) sb_nil)) ?_
      exact l_X11_realNull (by omega) (hK _ (by rw [rs0_r h9]; exact hC) hG)
    · have hl := qs_lt hW hs h9
      have hs2 : sN (x s) < n := by omega
      rcases rs0_cs hW hs hk h9 (r := r) with ⟨hv, he⟩ | ⟨c, hv, hc, he⟩
      · refine wp_aload_n (i := 3) dX11_realise_54 rfl rfl ?_
        refine wp_iload (i := 4) dX11_realise_55 rfl ?_
        refine wp_iload (i := 5) dX11_realise_57 rfl ?_
        refine wp_cV (y' := m_X6_sourceChunksFor) 8 [vi (nI k), vi (nI 0)] [] 0 0 dX11_realise_59 ml_X11_540 im_X6_sourceChunksFor se_X6_sourceChunksFor (by decide) (hC.s hs).k0 ok_X6_sourceChunksFor rfl (Nat.le_of_ble_eq_true rfl) rfl (Nat.le_of_ble_eq_true rfl) (d' := d - 1) (by omega) (Nat.zero_le _) (Nat.zero_le _) (c_X6_srcS (u := sN (x s)) (E := q_F (x (sN (x s)))) (hC.s hs) (src_so h9) (by omega) (hC.s hs2) (ksx_F (hW _ hs2).1 (hW _ hs2).2.1) (wh := false) (k := k) (by omega) (by omega) (cont_ret ?_))
        rw [show scQ (q_F (x (sN (x s)))) (KQ_way (kqx (gst x (va_up r s (max (r s) k)) κ s))) k false = -1 from hv]
        refine wp_istore (i := 4) (lv' := [(4, vi (-1)), (6, vi (nI i)), (3, vr (some (nm 50 s))), (5, vi (nI 0))]) dX11_realise_62 (by decide) rfl ?_
        refine wp_iload (i := 4) dX11_realise_64 rfl ?_
        refine wp_iconst (-1) dX11_realise_66 (by decide) ?_
        refine wp_icmp_ne 74 dX11_realise_67 (by decide) (fun c_67 => absurd c_67 (fun z => z rfl)) (fun c_67 => ?_)
        refine wp_null dX11_realise_70 ?_
        refine wp_goto 78 dX11_realise_71 (by decide) ?_
        refine wp_astore_n (i := 3) (lv' := [(3, vr none), (4, vi (-1)), (6, vi (nI i)), (5, vi (nI 0))]) dX11_realise_78 rfl (by decide) rfl ?_
        refine wp_iincN (a := i) (lv' := [(6, vi (nI (i + 1))), (3, vr none), (4, vi (-1)), (5, vi (nI 0))]) 1 dX11_realise_79 rfl (by decide) (by decide) rfl ?_
        refine wp_goto 11 dX11_realise_82 (by decide) ?_
        refine wp_sub [(6, vi (nI (i + 1))), (3, vr none)] (sb_cons (.head _) (sb_cons (.tail _ (.head _)) sb_nil)) ?_
        exact l_X11_realNull (by omega) (hK _ (by rw [he]; exact hC) hG)
      · have h24b := (hW _ hs2).1
        have hLt := hL _ hs2
        refine wp_aload_n (i := 3) dX11_realise_54 rfl rfl ?_
        refine wp_iload (i := 4) dX11_realise_55 rfl ?_
        refine wp_iload (i := 5) dX11_realise_57 rfl ?_
        refine wp_cV (y' := m_X6_sourceChunksFor) 8 [vi (nI k), vi (nI 0)] [] 0 0 dX11_realise_59 ml_X11_540 im_X6_sourceChunksFor se_X6_sourceChunksFor (by decide) (hC.s hs).k0 ok_X6_sourceChunksFor rfl (Nat.le_of_ble_eq_true rfl) rfl (Nat.le_of_ble_eq_true rfl) (d' := d - 1) (by omega) (Nat.zero_le _) (Nat.zero_le _) (c_X6_srcS (u := sN (x s)) (E := q_F (x (sN (x s)))) (hC.s hs) (src_so h9) (by omega) (hC.s hs2) (ksx_F (hW _ hs2).1 (hW _ hs2).2.1) (wh := false) (k := k) (by omega) (by omega) (cont_ret ?_))
        rw [show scQ (q_F (x (sN (x s)))) (KQ_way (kqx (gst x (va_up r s (max (r s) k)) κ s))) k false = nI c from hv]
        refine wp_istore (i := 4) (lv' := [(4, vi (nI c)), (6, vi (nI i)), (3, vr (some (nm 50 s))), (5, vi (nI 0))]) dX11_realise_62 (by decide) rfl ?_
        refine wp_iload (i := 4) dX11_realise_64 rfl ?_
        refine wp_iconst (-1) dX11_realise_66 (by decide) ?_
        refine wp_icmp_ne 74 dX11_realise_67 (by decide) (fun c_67 => ?_) (fun c_67 => absurd c_67 (nI_m1 (by omega)))
        refine wp_aload_n (i := 3) dX11_realise_74 rfl rfl ?_
        refine wp_get 8 0 (vr (some (nm 50 (sN (x s))))) dX11_realise_75 (hC.s hs).k0 (by decide) (by decide) fl_X11_544 (congrArg (fun z => toV (vr z)) ((hC.s hs).o_src.trans (src_so h9))) ?_
        refine wp_astore_n (i := 3) (lv' := [(3, vr (some (nm 50 (sN (x s))))), (4, vi (nI c)), (6, vi (nI i)), (5, vi (nI 0))]) dX11_realise_78 rfl (by decide) rfl ?_
        refine wp_iincN (a := i) (lv' := [(6, vi (nI (i + 1))), (3, vr (some (nm 50 (sN (x s))))), (4, vi (nI c)), (5, vi (nI 0))]) 1 dX11_realise_79 rfl (by decide) (by decide) rfl ?_
        refine wp_goto 11 dX11_realise_82 (by decide) ?_
        refine wp_sub [(6, vi (nI (i + 1))), (3, vr (some (nm 50 (sN (x s))))), (4, vi (nI c)), (5, vi (nI 0))] (sb_cons (.head _) (sb_cons (.tail _ (.head _)) (sb_cons (.tail _ (.tail _ (.head _))) (sb_cons (.tail _ (.tail _ (.tail _ (.head _)))) sb_nil)))) ?_
        refine wp_iload (i := 6) dX11_realise_11 rfl ?_
        refine wp_bipush (nI 12) dX11_realise_13 (by decide) ?_
        refine wp_icmp_geN 85 dX11_realise_15 (by decide) (by omega) (by decide) (fun c_15 => absurd c_15 (by omega)) (fun c_15 => ?_)
        refine wp_aload_n (i := 3) dX11_realise_18 rfl rfl ?_
        refine wp_ifnull 85 dX11_realise_19 (by decide) (fun c_19 => absurd c_19 (fun z => nomatch z)) (fun a_19 c_19 => ?_)
        refine wp_aload_n (i := 3) dX11_realise_22 rfl rfl ?_
        refine wp_aload_n (i := 3) dX11_realise_23 rfl rfl ?_
        refine wp_get 8 8 (vi (nI ((va_up r s (max (r s) k)) (sN (x s))))) dX11_realise_24 (hC.s hs2).k0 (by decide) (by decide) fl_X11_308 (congrArg (fun z => toV (vi z)) ((hC.s hs2).f_rc)) ?_
        refine wp_iload (i := 4) dX11_realise_27 rfl ?_
        refine wp_maxN dX11_realise_29 ml_X11_512 st_J9_max_7cf53 co_J9_max (by omega) (Nat.le_of_ble_eq_true rfl) (by omega) (by omega) ?_
        refine wp_putI 8 8 dX11_realise_32 (hC.s hs2).k0 (by decide) (by decide) (by decide) fl_X11_308 rfl (fun _ _ => rfl) rfl rfl ?_
        obtain ⟨hC1, hC1g⟩ := hC.rc (v := max ((va_up r s (max (r s) k)) (sN (x s))) c) hs2
        have hG1 := hG.tr hC1g
        refine wp_iload (i := 5) dX11_realise_35 rfl ?_
        refine wp_if_eqN 51 dX11_realise_37 (by decide) (by decide) (fun c_37 => ?_) (fun c_37 => absurd c_37 (by decide))
        refine wp_iconst (nI 0) dX11_realise_51 (by decide) ?_
        refine wp_istore (i := 5) (lv' := [(5, vi (nI 0)), (6, vi (nI (i + 1))), (3, vr (some (nm 50 (sN (x s))))), (4, vi (nI c))]) dX11_realise_52 (by decide) rfl ?_
        refine wp_sub [(6, vi (nI (i + 1))), (3, vr (some (nm 50 (sN (x s))))), (4, vi (nI c)), (5, vi (nI 0))] (sb_cons (.tail _ (.head _)) (sb_cons (.tail _ (.tail _ (.head _))) (sb_cons (.tail _ (.tail _ (.tail _ (.head _)))) (sb_cons (.head _) sb_nil)))) ?_
        exact ih _ hl (i + 1) c (va_up r s (max (r s) k)) _ (by omega) hs2 hc (hL.up hc) hC1 hG1 (fun H' a b => hK H' (by rw [he]; exact a) b)
set_option maxRecDepth 100000 in
set_option maxHeartbeats 4000000 in
theorem l_X11_real1 {G : GG} {d bc bs : Nat} {Q : Pst} {h0 : Hp} {n : Nat} {x : Nat → QIS} {κ : Nat → Nat} (hW : QWs n x) (hd : 4 ≤ d) : ∀ s i r H, i + s ≤ 11 → s < n → QL n x r → CQR H n (gst x r κ) → FRKQ h0 H → (∀ H', CQR H' n (gst x (rs1 x (s + 1) s r) κ) → FRKQ h0 H' → Q oVoid H') → WP G m_X11_realise d 11 [(6, vi (nI i)), (3, vr (some (nm 50 s))), (4, vi (nI ((q_F (x s)).length))), (5, vi (nI 1))] [] H bc bs Q := by
  intro s
  induction s using Nat.strongRecOn with
  | _ s ih =>
    intro i r H hi hs hL hC hG hK
    have h24 := (hW s hs).1
    have hLs := hL s hs
    refine wp_iload (i := 6) dX11_realise_11 rfl ?_
    refine wp_bipush (nI 12) dX11_realise_13 (by decide) ?_
    refine wp_icmp_geN 85 dX11_realise_15 (by decide) (by omega) (by decide) (fun c_15 => absurd c_15 (by omega)) (fun c_15 => ?_)
    refine wp_aload_n (i := 3) dX11_realise_18 rfl rfl ?_
    refine wp_ifnull 85 dX11_realise_19 (by decide) (fun c_19 => absurd c_19 (fun z => nomatch z)) (fun a_19 c_19 => ?_)
    refine wp_aload_n (i := 3) dX11_realise_22 rfl rfl ?_
    refine wp_aload_n (i := 3) dX11_realise_23 rfl rfl ?_
    refine wp_get 8 8 (vi (nI (r s))) dX11_realise_24 (hC.s hs).k0 (by decide) (by decide) fl_X11_308 (congrArg (fun z => toV (vi z)) ((hC.s hs).f_rc)) ?_
    refine wp_iload (i := 4) dX11_realise_27 rfl ?_
    refine wp_maxN dX11_realise_29 ml_X11_512 st_J9_max_7cf53 co_J9_max (by omega) (Nat.le_of_ble_eq_true rfl) (by omega) (by omega) ?_
    refine wp_putI 8 8 dX11_realise_32 (hC.s hs).k0 (by decide) (by decide) (by decide) fl_X11_308 rfl (fun _ _ => rfl) rfl rfl ?_
    obtain ⟨hC1, hC1g⟩ := hC.rc (v := max (r s) ((q_F (x s)).length)) hs
    have hG1 := hG.tr hC1g
    refine wp_iload (i := 5) dX11_realise_35 rfl ?_
    refine wp_if_eqN 51 dX11_realise_37 (by decide) (by decide) (fun c_37 => absurd c_37 (by decide)) (fun c_37 => ?_)
    by_cases h9 : q_w (x s) = nI 114
    · refine wp_aload_n (i := 3) dX11_realise_40 rfl rfl ?_
      refine wp_cV (y' := m_X6_endsWithSource) 8 [] [] 0 0 dX11_realise_41 ml_X11_537 im_X6_endsWithSource se_X6_endsWithSource (by decide) (hC1.s hs).k0 ok_X6_endsWithSource rfl (Nat.le_of_ble_eq_true rfl) rfl (Nat.le_of_ble_eq_true rfl) (d' := d - 1) (by omega) (Nat.zero_le _) (Nat.zero_le _) (c_X6_endsN (hC1.s hs) (src_no h9) (cont_ret ?_))
      refine wp_if_eqN 51 dX11_realise_44 (by decide) (by decide) (fun c_44 => ?_) (fun c_44 => absurd c_44 (by decide))
      refine wp_iconst (nI 0) dX11_realise_51 (by decide) ?_
      refine wp_istore (i := 5) (lv' := [(5, vi (nI 0)), (6, vi (nI i)), (3, vr (some (nm 50 s))), (4, vi (nI ((q_F (x s)).length)))]) dX11_realise_52 (by decide) rfl ?_
      refine wp_sub [(6, vi (nI i)), (3, vr (some (nm 50 s))), (4, vi (nI ((q_F (x s)).length))), (5, vi (nI 0))] (sb_cons (.tail _ (.head _)) (sb_cons (.tail _ (.tail _ (.head _))) (sb_cons (.tail _ (.tail _ (.tail _ (.head _)))) (sb_cons (.head _) sb_nil)))) ?_
      exact l_X11_real54 hW hd s i (q_F (x s)).length r _ hi hs (Nat.le_refl _) (hL.up (Nat.le_refl _)) hC1 hG1 (fun H' a b => hK H' (by rw [rs1_0 hW (Or.inl h9)]; exact a) b)
    · have hl := qs_lt hW hs h9
      have hs2 : sN (x s) < n := by omega
      have h24b := (hW _ hs2).1
      by_cases h8 : q_w (x s) = nI 116
      · have hq := (qs_src hW hs h9).2.2.resolve_right (fun z => by rw [h8] at z; exact absurd z.1 (by decide))
        have hn99 : nN (x s) ≤ 99 := hq.2.2.1
        have hnum : numQ (x s) = nI (nN (x s)) := (if_neg h9).trans hq.2.1
        by_cases h7 : nN (x s) ≤ tot (q_F (x (sN (x s))))
        · refine wp_aload_n (i := 3) dX11_realise_40 rfl rfl ?_
          refine wp_cV (y' := m_X6_endsWithSource) 8 [] [] 0 0 dX11_realise_41 ml_X11_537 im_X6_endsWithSource se_X6_endsWithSource (by decide) (hC1.s hs).k0 ok_X6_endsWithSource rfl (Nat.le_of_ble_eq_true rfl) rfl (Nat.le_of_ble_eq_true rfl) (d' := d - 1) (by omega) (Nat.zero_le _) (Nat.zero_le _) (c_X6_endsT (u := sN (x s)) (E := q_F (x (sN (x s)))) (hC1.s hs) (src_so h9) (by omega) (hC1.s hs2) (ksx_F (hW _ hs2).1 (hW _ hs2).2.1) (m := nN (x s)) hnum hn99 h8 (cont_ret ?_))
          rw [show decide (tot (q_F (x (sN (x s)))) < nN (x s)) = false from decide_eq_false (by omega)]
          show WP _ _ _ _ _ [vi (nI 0)] _ _ _ _
          refine wp_if_eqN 51 dX11_realise_44 (by decide) (by decide) (fun c_44 => ?_) (fun c_44 => absurd c_44 (by decide))
          refine wp_iconst (nI 0) dX11_realise_51 (by decide) ?_
          refine wp_istore (i := 5) (lv' := [(5, vi (nI 0)), (6, vi (nI i)), (3, vr (some (nm 50 s))), (4, vi (nI ((q_F (x s)).length)))]) dX11_realise_52 (by decide) rfl ?_
          refine wp_sub [(6, vi (nI i)), (3, vr (some (nm 50 s))), (4, vi (nI ((q_F (x s)).length))), (5, vi (nI 0))] (sb_cons (.tail _ (.head _)) (sb_cons (.tail _ (.tail _ (.head _))) (sb_cons (.tail _ (.tail _ (.tail _ (.head _)))) (sb_cons (.head _) sb_nil)))) ?_
          exact l_X11_real54 hW hd s i (q_F (x s)).length r _ hi hs (Nat.le_refl _) (hL.up (Nat.le_refl _)) hC1 hG1 (fun H' a b => hK H' (by rw [rs1_0 hW (Or.inr ⟨h9, h8, by omega⟩)]; exact a) b)
        · refine wp_aload_n (i := 3) dX11_realise_40 rfl rfl ?_
          refine wp_cV (y' := m_X6_endsWithSource) 8 [] [] 0 0 dX11_realise_41 ml_X11_537 im_X6_endsWithSource se_X6_endsWithSource (by decide) (hC1.s hs).k0 ok_X6_endsWithSource rfl (Nat.le_of_ble_eq_true rfl) rfl (Nat.le_of_ble_eq_true rfl) (d' := d - 1) (by omega) (Nat.zero_le _) (Nat.zero_le _) (c_X6_endsT (u := sN (x s)) (E := q_F (x (sN (x s)))) (hC1.s hs) (src_so h9) (by omega) (hC1.s hs2) (ksx_F (hW _ hs2).1 (hW _ hs2).2.1) (m := nN (x s)) hnum hn99 h8 (cont_ret ?_))
          rw [show decide (tot (q_F (x (sN (x s)))) < nN (x s)) = true from decide_eq_true (by omega)]
          show WP _ _ _ _ _ [vi (nI 1)] _ _ _ _
          refine wp_if_eqN 51 dX11_realise_44 (by decide) (by decide) (fun c_44 => absurd c_44 (by decide)) (fun c_44 => ?_)
          refine wp_iconst (nI 1) dX11_realise_47 (by decide) ?_
          refine wp_goto 52 dX11_realise_48 (by decide) ?_
          refine wp_istore (i := 5) (lv' := [(5, vi (nI 1)), (6, vi (nI i)), (3, vr (some (nm 50 s))), (4, vi (nI ((q_F (x s)).length)))]) dX11_realise_52 (by decide) rfl ?_
          refine wp_aload_n (i := 3) dX11_realise_54 rfl rfl ?_
          refine wp_iload (i := 4) dX11_realise_55 rfl ?_
          refine wp_iload (i := 5) dX11_realise_57 rfl ?_
          refine wp_cV (y' := m_X6_sourceChunksFor) 8 [vi (nI ((q_F (x s)).length)), vi (nI 1)] [] 0 0 dX11_realise_59 ml_X11_540 im_X6_sourceChunksFor se_X6_sourceChunksFor (by decide) (hC1.s hs).k0 ok_X6_sourceChunksFor rfl (Nat.le_of_ble_eq_true rfl) rfl (Nat.le_of_ble_eq_true rfl) (d' := d - 1) (by omega) (Nat.zero_le _) (Nat.zero_le _) (c_X6_srcS (u := sN (x s)) (E := q_F (x (sN (x s)))) (hC1.s hs) (src_so h9) (by omega) (hC1.s hs2) (ksx_F (hW _ hs2).1 (hW _ hs2).2.1) (wh := true) (k := (q_F (x s)).length) (by omega) (by omega) (cont_ret ?_))
          rw [show scQ (q_F (x (sN (x s)))) (KQ_way (kqx (gst x (va_up r s (max (r s) ((q_F (x s)).length))) κ s))) (q_F (x s)).length true = nI (q_F (x (sN (x s)))).length from if_pos rfl]
          refine wp_istore (i := 4) (lv' := [(4, vi (nI (q_F (x (sN (x s)))).length)), (5, vi (nI 1)), (6, vi (nI i)), (3, vr (some (nm 50 s)))]) dX11_realise_62 (by decide) rfl ?_
          refine wp_iload (i := 4) dX11_realise_64 rfl ?_
          refine wp_iconst (-1) dX11_realise_66 (by decide) ?_
          refine wp_icmp_ne 74 dX11_realise_67 (by decide) (fun c_67 => ?_) (fun c_67 => absurd c_67 (nI_m1 (by omega)))
          refine wp_aload_n (i := 3) dX11_realise_74 rfl rfl ?_
          refine wp_get 8 0 (vr (some (nm 50 (sN (x s))))) dX11_realise_75 (hC1.s hs).k0 (by decide) (by decide) fl_X11_544 (congrArg (fun z => toV (vr z)) ((hC1.s hs).o_src.trans (src_so h9))) ?_
          refine wp_astore_n (i := 3) (lv' := [(3, vr (some (nm 50 (sN (x s))))), (4, vi (nI (q_F (x (sN (x s)))).length)), (5, vi (nI 1)), (6, vi (nI i))]) dX11_realise_78 rfl (by decide) rfl ?_
          refine wp_iincN (a := i) (lv' := [(6, vi (nI (i + 1))), (3, vr (some (nm 50 (sN (x s))))), (4, vi (nI (q_F (x (sN (x s)))).length)), (5, vi (nI 1))]) 1 dX11_realise_79 rfl (by decide) (by decide) rfl ?_
          refine wp_goto 11 dX11_realise_82 (by decide) ?_
          refine wp_sub [(6, vi (nI (i + 1))), (3, vr (some (nm 50 (sN (x s))))), (4, vi (nI (q_F (x (sN (x s)))).length)), (5, vi (nI 1))] (sb_cons (.head _) (sb_cons (.tail _ (.head _)) (sb_cons (.tail _ (.tail _ (.head _))) (sb_cons (.tail _ (.tail _ (.tail _ (.head _)))) sb_nil)))) ?_
          exact ih _ hl (i + 1) (va_up r s (max (r s) ((q_F (x s)).length))) _ (by omega) hs2 (hL.up (Nat.le_refl _)) hC1 hG1 (fun H' a b => hK H' (by rw [rs1_o hW hs h9 (fun z => by have := z.2; omega)]; exact a) b)
      · refine wp_aload_n (i := 3) dX11_realise_40 rfl rfl ?_
        refine wp_cV (y' := m_X6_endsWithSource) 8 [] [] 0 0 dX11_realise_41 ml_X11_537 im_X6_endsWithSource se_X6_endsWithSource (by decide) (hC1.s hs).k0 ok_X6_endsWithSource rfl (Nat.le_of_ble_eq_true rfl) rfl (Nat.le_of_ble_eq_true rfl) (d' := d - 1) (by omega) (Nat.zero_le _) (Nat.zero_le _) (c_X6_endsO (hC1.s hs) (src_so h9) h8 (cont_ret ?_))
        refine wp_if_eqN 51 dX11_realise_44 (by decide) (by decide) (fun c_44 => absurd c_44 (by decide)) (fun c_44 => ?_)
        refine wp_iconst (nI 1) dX11_realise_47 (by decide) ?_
        refine wp_goto 52 dX11_realise_48 (by decide) ?_
        refine wp_istore (i := 5) (lv' := [(5, vi (nI 1)), (6, vi (nI i)), (3, vr (some (nm 50 s))), (4, vi (nI ((q_F (x s)).length)))]) dX11_realise_52 (by decide) rfl ?_
        refine wp_aload_n (i := 3) dX11_realise_54 rfl rfl ?_
        refine wp_iload (i := 4) dX11_realise_55 rfl ?_
        refine wp_iload (i := 5) dX11_realise_57 rfl ?_
        refine wp_cV (y' := m_X6_sourceChunksFor) 8 [vi (nI ((q_F (x s)).length)), vi (nI 1)] [] 0 0 dX11_realise_59 ml_X11_540 im_X6_sourceChunksFor se_X6_sourceChunksFor (by decide) (hC1.s hs).k0 ok_X6_sourceChunksFor rfl (Nat.le_of_ble_eq_true rfl) rfl (Nat.le_of_ble_eq_true rfl) (d' := d - 1) (by omega) (Nat.zero_le _) (Nat.zero_le _) (c_X6_srcS (u := sN (x s)) (E := q_F (x (sN (x s)))) (hC1.s hs) (src_so h9) (by omega) (hC1.s hs2) (ksx_F (hW _ hs2).1 (hW _ hs2).2.1) (wh := true) (k := (q_F (x s)).length) (by omega) (by omega) (cont_ret ?_))
        rw [show scQ (q_F (x (sN (x s)))) (KQ_way (kqx (gst x (va_up r s (max (r s) ((q_F (x s)).length))) κ s))) (q_F (x s)).length true = nI (q_F (x (sN (x s)))).length from if_pos rfl]
        refine wp_istore (i := 4) (lv' := [(4, vi (nI (q_F (x (sN (x s)))).length)), (5, vi (nI 1)), (6, vi (nI i)), (3, vr (some (nm 50 s)))]) dX11_realise_62 (by decide) rfl ?_
        refine wp_iload (i := 4) dX11_realise_64 rfl ?_
        refine wp_iconst (-1) dX11_realise_66 (by decide) ?_
        refine wp_icmp_ne 74 dX11_realise_67 (by decide) (fun c_67 => ?_) (fun c_67 => absurd c_67 (nI_m1 (by omega)))
        refine wp_aload_n (i := 3) dX11_realise_74 rfl rfl ?_
        refine wp_get 8 0 (vr (some (nm 50 (sN (x s))))) dX11_realise_75 (hC1.s hs).k0 (by decide) (by decide) fl_X11_544 (congrArg (fun z => toV (vr z)) ((hC1.s hs).o_src.trans (src_so h9))) ?_
        refine wp_astore_n (i := 3) (lv' := [(3, vr (some (nm 50 (sN (x s))))), (4, vi (nI (q_F (x (sN (x s)))).length)), (5, vi (nI 1)), (6, vi (nI i))]) dX11_realise_78 rfl (by decide) rfl ?_
        refine wp_iincN (a := i) (lv' := [(6, vi (nI (i + 1))), (3, vr (some (nm 50 (sN (x s))))), (4, vi (nI (q_F (x (sN (x s)))).length)), (5, vi (nI 1))]) 1 dX11_realise_79 rfl (by decide) (by decide) rfl ?_
        refine wp_goto 11 dX11_realise_82 (by decide) ?_
        refine wp_sub [(6, vi (nI (i + 1))), (3, vr (some (nm 50 (sN (x s))))), (4, vi (nI (q_F (x (sN (x s)))).length)), (5, vi (nI 1))] (sb_cons (.head _) (sb_cons (.tail _ (.head _)) (sb_cons (.tail _ (.tail _ (.head _))) (sb_cons (.tail _ (.tail _ (.tail _ (.head _)))) sb_nil)))) ?_
        exact ih _ hl (i + 1) (va_up r s (max (r s) ((q_F (x s)).length))) _ (by omega) hs2 (hL.up (Nat.le_refl _)) hC1 hG1 (fun H' a b => hK H' (by rw [rs1_o hW hs h9 (fun z => h8 z.1)]; exact a) b)
set_option maxRecDepth 100000 in
set_option maxHeartbeats 4000000 in
theorem c_X11_realise0 {G : GG} {d bc bs : Nat} {h : Hp} {Q : Pst} {n s : Nat} {x : Nat → QIS} {r κ : Nat → Nat} (hW : QWs n x) (hn : n ≤ 12) (hs : s < n) (hL : QL n x r) (hC : CQR h n (gst x r κ)) (hd : 4 ≤ d) {k : Nat} (hk : k ≤ (q_F (x s)).length) (hq : ∀ H', CQR H' n (gst x (rs0 x (s + 1) s k r) κ) → FRKQ h H' → Q oVoid H') : WP G m_X11_realise d 0 (aargs 0 [vr (some (nm 50 s)), vi (nI k), vi (nI 0)]) [] h bc bs Q := by
  have hG := FRKQ.rf (h := h)
  have h24 := (hW s hs).1
  have hLs := hL s hs
  refine wp_sub [(0, vr (some (nm 50 s))), (1, vi (nI k)), (2, vi (nI 0))] (fun _ hz => hz) ?_
  refine wp_aload_n (i := 0) dX11_realise_0 rfl rfl ?_
  refine wp_astore_n (i := 3) (lv' := [(3, vr (some (nm 50 s))), (0, vr (some (nm 50 s))), (1, vi (nI k)), (2, vi (nI 0))]) dX11_realise_1 rfl (by decide) rfl ?_
  refine wp_iload_n (i := 1) dX11_realise_2 rfl rfl ?_
  refine wp_istore (i := 4) (lv' := [(4, vi (nI k)), (3, vr (some (nm 50 s))), (0, vr (some (nm 50 s))), (1, vi (nI k)), (2, vi (nI 0))]) dX11_realise_3 (by decide) rfl ?_
  refine wp_iload_n (i := 2) dX11_realise_5 rfl rfl ?_
  refine wp_istore (i := 5) (lv' := [(5, vi (nI 0)), (4, vi (nI k)), (3, vr (some (nm 50 s))), (0, vr (some (nm 50 s))), (1, vi (nI k)), (2, vi (nI 0))]) dX11_realise_6 (by decide) rfl ?_
  refine wp_iconst (nI 0) dX11_realise_8 (by decide) ?_
  refine wp_istore (i := 6) (lv' := [(6, vi (nI 0)), (5, vi (nI 0)), (4, vi (nI k)), (3, vr (some (nm 50 s))), (0, vr (some (nm 50 s))), (1, vi (nI k)), (2, vi (nI 0))]) dX11_realise_9 (by decide) rfl ?_
  refine wp_sub [(6, vi (nI 0)), (3, vr (some (nm 50 s))), (4, vi (nI k)), (5, vi (nI 0))] (sb_cons (.head _) (sb_cons (.tail _ (.tail _ (.tail _ (.head _)))) (sb_cons (.tail _ (.tail _ (.head _))) (sb_cons (.tail _ (.head _)) sb_nil)))) ?_
  refine wp_iload (i := 6) dX11_realise_11 rfl ?_
  refine wp_bipush (nI 12) dX11_realise_13 (by decide) ?_
  refine wp_icmp_geN 85 dX11_realise_15 (by decide) (by decide) (by decide) (fun c_15 => absurd c_15 (by omega)) (fun c_15 => ?_)
  refine wp_aload_n (i := 3) dX11_realise_18 rfl rfl ?_
  refine wp_ifnull 85 dX11_realise_19 (by decide) (fun c_19 => absurd c_19 (fun z => nomatch z)) (fun a_19 c_19 => ?_)
  refine wp_aload_n (i := 3) dX11_realise_22 rfl rfl ?_
  refine wp_aload_n (i := 3) dX11_realise_23 rfl rfl ?_
  refine wp_get 8 8 (vi (nI (r s))) dX11_realise_24 (hC.s hs).k0 (by decide) (by decide) fl_X11_308 (congrArg (fun z => toV (vi z)) ((hC.s hs).f_rc)) ?_
  refine wp_iload (i := 4) dX11_realise_27 rfl ?_
  refine wp_maxN dX11_realise_29 ml_X11_512 st_J9_max_7cf53 co_J9_max (by omega) (Nat.le_of_ble_eq_true rfl) (by omega) (by omega) ?_
  refine wp_putI 8 8 dX11_realise_32 (hC.s hs).k0 (by decide) (by decide) (by decide) fl_X11_308 rfl (fun _ _ => rfl) rfl rfl ?_
  obtain ⟨hC1, hC1g⟩ := hC.rc (v := max (r s) k) hs
  have hG1 := hG.tr hC1g
  refine wp_iload (i := 5) dX11_realise_35 rfl ?_
  refine wp_if_eqN 51 dX11_realise_37 (by decide) (by decide) (fun c_37 => ?_) (fun c_37 => absurd c_37 (by decide))
  refine wp_iconst (nI 0) dX11_realise_51 (by decide) ?_
  refine wp_istore (i := 5) (lv' := [(5, vi (nI 0)), (6, vi (nI 0)), (3, vr (some (nm 50 s))), (4, vi (nI k))]) dX11_realise_52 (by decide) rfl ?_
  refine wp_sub [(6, vi (nI 0)), (3, vr (some (nm 50 s))), (4, vi (nI k)), (5, vi (nI 0))] (sb_cons (.tail _ (.head _)) (sb_cons (.tail _ (.tail _ (.head _))) (sb_cons (.tail _ (.tail _ (.tail _ (.head _)))) (sb_cons (.head _) sb_nil)))) ?_
  exact l_X11_real54 hW hd s 0 k r _ (by omega) hs hk (hL.up hk) hC1 hG1 hq
set_option maxRecDepth 100000 in
set_option maxHeartbeats 4000000 in
theorem c_X11_realise1 {G : GG} {d bc bs : Nat} {h : Hp} {Q : Pst} {n s : Nat} {x : Nat → QIS} {r κ : Nat → Nat} (hW : QWs n x) (hn : n ≤ 12) (hs : s < n) (hL : QL n x r) (hC : CQR h n (gst x r κ)) (hd : 4 ≤ d) (hq : ∀ H', CQR H' n (gst x (rs1 x (s + 1) s r) κ) → FRKQ h H' → Q oVoid H') : WP G m_X11_realise d 0 (aargs 0 [vr (some (nm 50 s)), vi (nI (q_F (x s)).length), vi (nI 1)]) [] h bc bs Q := by
  have hG := FRKQ.rf (h := h)
  refine wp_sub [(0, vr (some (nm 50 s))), (1, vi (nI (q_F (x s)).length)), (2, vi (nI 1))] (fun _ hz => hz) ?_
  refine wp_aload_n (i := 0) dX11_realise_0 rfl rfl ?_
  refine wp_astore_n (i := 3) (lv' := [(3, vr (some (nm 50 s))), (0, vr (some (nm 50 s))), (1, vi (nI (q_F (x s)).length)), (2, vi (nI 1))]) dX11_realise_1 rfl (by decide) rfl ?_
  refine wp_iload_n (i := 1) dX11_realise_2 rfl rfl ?_
  refine wp_istore (i := 4) (lv' := [(4, vi (nI (q_F (x s)).length)), (3, vr (some (nm 50 s))), (0, vr (some (nm 50 s))), (1, vi (nI (q_F (x s)).length)), (2, vi (nI 1))]) dX11_realise_3 (by decide) rfl ?_
  refine wp_iload_n (i := 2) dX11_realise_5 rfl rfl ?_
  refine wp_istore (i := 5) (lv' := [(5, vi (nI 1)), (4, vi (nI (q_F (x s)).length)), (3, vr (some (nm 50 s))), (0, vr (some (nm 50 s))), (1, vi (nI (q_F (x s)).length)), (2, vi (nI 1))]) dX11_realise_6 (by decide) rfl ?_
  refine wp_iconst (nI 0) dX11_realise_8 (by decide) ?_
  refine wp_istore (i := 6) (lv' := [(6, vi (nI 0)), (5, vi (nI 1)), (4, vi (nI (q_F (x s)).length)), (3, vr (some (nm 50 s))), (0, vr (some (nm 50 s))), (1, vi (nI (q_F (x s)).length)), (2, vi (nI 1))]) dX11_realise_9 (by decide) rfl ?_
  refine wp_sub [(6, vi (nI 0)), (3, vr (some (nm 50 s))), (4, vi (nI (q_F (x s)).length)), (5, vi (nI 1))] (sb_cons (.head _) (sb_cons (.tail _ (.tail _ (.tail _ (.head _)))) (sb_cons (.tail _ (.tail _ (.head _))) (sb_cons (.tail _ (.head _)) sb_nil)))) ?_
  exact l_X11_real1 hW hd s 0 r _ (by omega) hs hL hC hG hq
