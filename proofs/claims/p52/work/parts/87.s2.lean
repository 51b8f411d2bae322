/-! The class: sequences, filled chunk by chunk; made. -/
theorem atF_ch : ∀ (F : List (List Int32)) (k j : Nat), k < F.length → j < (F.getD k []).length → atF F (pre F k + j) = (F.getD k []).getD j (nI 0)
  | [], _, _, h, _ => absurd h (Nat.not_lt_zero _)
  | a :: F, 0, j, _, hj => by
    have hj : j < a.length := hj
    rw [pre_0, Nat.zero_add]
    show (if j < a.length then a.getD j (nI 0) else _) = _
    rw [if_pos hj]; rfl
  | a :: F, k + 1, j, hk, hj => by
    have e : pre (a :: F) (k + 1) = a.length + pre F k := by unfold pre; rw [List.take_succ_cons]; rfl
    rw [e]
    show (if a.length + pre F k + j < a.length then _ else atF F (a.length + pre F k + j - a.length)) = _
    rw [if_neg (by omega), show a.length + pre F k + j - a.length = pre F k + j by omega, atF_ch F k j (by simpa using hk) (by rw [List.getD_cons_succ] at hj; exact hj), List.getD_cons_succ]
theorem drop_c {c : List Int32} {G E : List (List Int32)} {k : Nat} (h : E.drop k = c :: G) : k < E.length ∧ E.getD k [] = c ∧ E.drop (k + 1) = G := by
  have hk : k < E.length := by
    rcases Nat.lt_or_ge k E.length with z | z
    · exact z
    · rw [List.drop_eq_nil_of_le z] at h; cases h
  rw [List.drop_eq_getElem_cons hk] at h
  injection h with h1 h2
  exact ⟨hk, by rw [List.getD_eq_getElem?_getD, List.getElem?_eq_getElem hk]; exact h1, h2⟩
theorem drop_n {E : List (List Int32)} {k : Nat} (h : E.drop k = []) : E.length ≤ k := by
  rcases Nat.lt_or_ge k E.length with z | z
  · rw [List.drop_eq_getElem_cons z] at h; cases h
  · exact z
theorem hz_c {e : Int32} {l : List Int32} (h : hz (e :: l) = false) : ¬ e = 0 ∧ hz l = false := by
  have h : (decide (e = nI 0) || hz l) = false := h
  rw [Bool.or_eq_false_iff] at h
  exact ⟨fun z => absurd h.1 (by rw [show decide (e = nI 0) = true from decide_eq_true (z.trans rfl)]; decide), h.2⟩
set_option maxRecDepth 100000 in
set_option maxHeartbeats 4000000 in
theorem l_X6_fill1 {G : GG} {d bc bs : Nat} {Q : Pst} {h0 : Hp} {s u : Nat} {y : KQS} {E : List (List Int32)} {w m : Int32} (hy : KF y E) (hus : u ≠ s) (hw : w = nI 97 ∨ w = nI 100 ∨ w = nI 107) (h107 : w = nI 107 → ¬ m = 0) (hd : 2 ≤ d) (hU : KQ h0 u y) {k t : Nat} (ht : t ≤ 24) {F : List (List Int32)} : ∀ (l : List Int32) i P H, i + l.length = t → (∀ j, j < l.length → KQ_el y (i + j) = l.getD j (nI 0)) → (w = nI 100 → hz l = false) → tot F + P.length + l.length ≤ 24 → KQ H s (ksx (some (nm 50 u)) w m F P false 0) → Fr h0 H (CQs s) → (∀ h', KQ h' s (ksx (some (nm 50 u)) w m F (P ++ chF w m l) false 0) → Fr h0 h' (CQs s) → WP G m_X6_fillByChunks d 96 [(0, vr (some (nm 50 s))), (1, vi (nI k))] [] h' bc bs Q) → WP G m_X6_fillByChunks d 71 [(4, vi (nI i)), (0, vr (some (nm 50 s))), (1, vi (nI k)), (3, vi (nI t))] [] H bc bs Q := by
  intro l
  induction l with
  | nil =>
    intro i P H hi he hz0 hl hO hF hK
    have hi : i = t := hi
    refine wp_iload (i := 4) dX6_fillByChunks_71 rfl ?_
    refine wp_iload_n (i := 3) dX6_fillByChunks_73 rfl rfl ?_
    refine wp_icmp_geN 96 dX6_fillByChunks_74 (by decide) (by omega) (by omega) (fun c_74 => ?_) (fun c_74 => absurd c_74 (by omega))
    refine wp_sub [(0, vr (some (nm 50 s))), (1, vi (nI k))] (sb_cons (.tail _ (.head _)) (sb_cons (.tail _ (.tail _ (.head _))) sb_nil)) ?_
    exact hK _ (by rw [show chF w m [] = [] from rfl, List.append_nil]; exact hO) hF
  | cons e l ih =>
    intro i P H hi he hz0 hl hO hF hK
    have hi : i + (l.length + 1) = t := hi
    have hl : tot F + P.length + (l.length + 1) ≤ 24 := hl
    have he0 : KQ_el y i = e := he 0 (Nat.zero_lt_succ _)
    refine wp_iload (i := 4) dX6_fillByChunks_71 rfl ?_
    refine wp_iload_n (i := 3) dX6_fillByChunks_73 rfl rfl ?_
    refine wp_icmp_geN 96 dX6_fillByChunks_74 (by decide) (by omega) (by omega) (fun c_74 => absurd c_74 (by omega)) (fun c_74 => ?_)
    refine wp_aload_n (i := 0) dX6_fillByChunks_77 rfl rfl ?_
    refine wp_aload_n (i := 0) dX6_fillByChunks_78 rfl rfl ?_
    refine wp_get 8 0 (vr (some (nm 50 u))) dX6_fillByChunks_79 hO.k0 (by decide) (by decide) fl_X6_32 (congrArg (fun z => toV (vr z)) ((hO.o_src).trans rfl)) ?_
    refine wp_iload (i := 4) dX6_fillByChunks_82 rfl ?_
    refine wp_cV (y' := m_X6_elementAt) 8 [vi (nI i)] [vr (some (nm 50 s))] 0 0 dX6_fillByChunks_84 ml_X6_50 im_X6_elementAt se_X6_elementAt (by decide) ((ce_k (hF (nm 50 u) (CQs_n (by omega) (by decide)))).trans hU.k0) ok_X6_elementAt rfl (Nat.le_of_ble_eq_true rfl) rfl (Nat.le_of_ble_eq_true rfl) (d' := d - 1) (by omega) (Nat.zero_le _) (Nat.zero_le _) (c_X6_elementAt (hU.frm (hF _ (CQs_n (by omega) (by decide))) (hF _ (CQs_n (by omega) (by decide))) (hF _ (CQs_n (by omega) (by decide)))) (i := i) (by omega) he0 (cont_ret ?_))
    refine wp_cV (y' := m_X6_takeFrom) 8 [vi e] [] 0 0 dX6_fillByChunks_87 ml_X6_61 im_X6_takeFrom se_X6_takeFrom (by decide) hO.k0 ok_X6_takeFrom rfl (Nat.le_of_ble_eq_true rfl) rfl (Nat.le_of_ble_eq_true rfl) (d' := d - 1) (by omega) (Nat.zero_le _) (Nat.zero_le _) (c_X6_takeFrom hO (by omega) hw (fun z => (hz_c (hz0 z)).1) h107 (by omega) (fun h1 O1 F1 => cont_void ?_))
    refine wp_iincN (a := i) (lv' := [(4, vi (nI (i + 1))), (0, vr (some (nm 50 s))), (1, vi (nI k)), (3, vi (nI t))]) 1 dX6_fillByChunks_90 rfl (by decide) (by decide) rfl ?_
    refine wp_goto 71 dX6_fillByChunks_93 (by decide) ?_
    refine wp_sub [(4, vi (nI (i + 1))), (0, vr (some (nm 50 s))), (1, vi (nI k)), (3, vi (nI t))] (sb_cons (.head _) (sb_cons (.tail _ (.head _)) (sb_cons (.tail _ (.tail _ (.head _))) (sb_cons (.tail _ (.tail _ (.tail _ (.head _)))) sb_nil)))) ?_
    have hlc : (chF w m [e]).length ≤ 1 := chF_le
    refine ih (i + 1) (P ++ chF w m [e]) _ (by omega) (fun j hj => ?_) (fun z => (hz_c (hz0 z)).2) (by rw [List.length_append]; omega) O1 (hF.tr F1) (fun h2 O2 F2 => ?_)
    · have := he (j + 1) (Nat.succ_lt_succ hj)
      rw [show i + 1 + j = i + (j + 1) by omega]
      exact this
    · refine hK h2 ?_ F2
      rw [show chF w m (e :: l) = chF w m [e] ++ chF w m l from chF_app (a := [e]), ← List.append_assoc]
      exact O2
set_option maxRecDepth 100000 in
set_option maxHeartbeats 4000000 in
theorem l_X6_fillByChunks {G : GG} {d bc bs : Nat} {Q : Pst} {h0 : Hp} {s u : Nat} {y : KQS} {E : List (List Int32)} {w m : Int32} (hy : KF y E) (hus : u ≠ s) (hw : w = nI 97 ∨ w = nI 100 ∨ w = nI 107) (h107 : w = nI 107 → ¬ m = 0) (hd : 2 ≤ d) (hU : KQ h0 u y) : ∀ (G0 : List (List Int32)) k F H, E.drop k = G0 → F.length + G0.length ≤ 24 → tot F + tot G0 ≤ 24 → KQ H s (ksx (some (nm 50 u)) w m F [] false 0) → Fr h0 H (CQs s) → (∀ h', KQ h' s (ksx (some (nm 50 u)) w m (F ++ (ovL w m G0 (KQ_brk y)).1) [] (ovL w m G0 (KQ_brk y)).2 0) → Fr h0 h' (CQs s) → Q oVoid h') → k ≤ 24 → WP G m_X6_fillByChunks d 10 [(1, vi (nI k)), (0, vr (some (nm 50 s)))] [] H bc bs Q := by
  have hy0 := hy
  obtain ⟨hyc, hycc, hye, hyn, hyl, hyt⟩ := hy
  intro G0
  induction G0 with
  | nil =>
    intro k F H hG hFl hFt hO hF hq hk24
    have hge := drop_n hG
    refine wp_iload_n (i := 1) dX6_fillByChunks_10 rfl rfl ?_
    refine wp_aload_n (i := 0) dX6_fillByChunks_11 rfl rfl ?_
    refine wp_get 8 0 (vr (some (nm 50 u))) dX6_fillByChunks_12 hO.k0 (by decide) (by decide) fl_X6_32 (congrArg (fun z => toV (vr z)) ((hO.o_src).trans rfl)) ?_
    refine wp_get 8 6 (vi (nI E.length)) dX6_fillByChunks_15 ((ce_k (hF (nm 50 u) (CQs_n (by omega) (by decide)))).trans hU.k0) (by decide) (by decide) fl_X6_22 (congrArg (fun z => toV (vi z)) ((congrFun (ce_I (hF (nm 50 u) (CQs_n (by omega) (by decide)))) 6).trans (hU.f_cc.trans (congrArg nI hycc)))) ?_
    refine wp_icmp_geN 106 dX6_fillByChunks_18 (by decide) (by omega) (by omega) (fun c_18 => ?_) (fun c_18 => absurd c_18 (by omega))
    refine wp_aload_n (i := 0) dX6_fillByChunks_106 rfl rfl ?_
    refine wp_aload_n (i := 0) dX6_fillByChunks_107 rfl rfl ?_
    refine wp_get 8 0 (vr (some (nm 50 u))) dX6_fillByChunks_108 hO.k0 (by decide) (by decide) fl_X6_32 (congrArg (fun z => toV (vr z)) ((hO.o_src).trans rfl)) ?_
    refine wp_get 8 7 (vi (bI (KQ_brk y))) dX6_fillByChunks_111 ((ce_k (hF (nm 50 u) (CQs_n (by omega) (by decide)))).trans hU.k0) (by decide) (by decide) fl_X6_25 (congrArg (fun z => toV (vi z)) ((congrFun (ce_I (hF (nm 50 u) (CQs_n (by omega) (by decide)))) 7).trans (hU.f_brk))) ?_
    refine wp_putI 8 7 dX6_fillByChunks_114 hO.k0 (by decide) (by decide) (by decide) fl_X6_25 rfl (fun _ _ => rfl) (by cases KQ_brk y <;> rfl) (by cases KQ_brk y <;> rfl) ?_
    have hO1 := hO.wbrk (v := (KQ_brk y))
    have hF2 := hF.wI (b := nm 50 s) (k := 7) (x := bI ((KQ_brk y))) (by unfold CQs nm; omega)
    refine wp_return dX6_fillByChunks_117 rfl ?_
    refine hq _ ?_ hF2
    rw [show ovL w m [] (KQ_brk y) = ([], KQ_brk y) from rfl, List.append_nil]
    exact hO1
  | cons c G1 ih =>
    intro k F H hG hFl hFt hO hF hq hk24
    obtain ⟨hk, hc, hG1⟩ := drop_c hG
    have hFl : F.length + (G1.length + 1) ≤ 24 := hFl
    have hFt : tot F + (c.length + tot G1) ≤ 24 := hFt
    have hp1 : pre E (k + 1) = pre E k + c.length := by rw [pre_s E k hk, hc]
    have hp2 : pre E (k + 1) ≤ tot E := pre_le
    have hel : ∀ j, j < c.length → KQ_el y (pre E k + j) = c.getD j (nI 0) := fun j hj => by rw [hye, atF_ch E k j hk (by rw [hc]; exact hj), hc]
    refine wp_iload_n (i := 1) dX6_fillByChunks_10 rfl rfl ?_
    refine wp_aload_n (i := 0) dX6_fillByChunks_11 rfl rfl ?_
    refine wp_get 8 0 (vr (some (nm 50 u))) dX6_fillByChunks_12 hO.k0 (by decide) (by decide) fl_X6_32 (congrArg (fun z => toV (vr z)) ((hO.o_src).trans rfl)) ?_
    refine wp_get 8 6 (vi (nI E.length)) dX6_fillByChunks_15 ((ce_k (hF (nm 50 u) (CQs_n (by omega) (by decide)))).trans hU.k0) (by decide) (by decide) fl_X6_22 (congrArg (fun z => toV (vi z)) ((congrFun (ce_I (hF (nm 50 u) (CQs_n (by omega) (by decide)))) 6).trans (hU.f_cc.trans (congrArg nI hycc)))) ?_
    refine wp_icmp_geN 106 dX6_fillByChunks_18 (by decide) (by omega) (by omega) (fun c_18 => absurd c_18 (by omega)) (fun c_18 => ?_)
    refine wp_aload_n (i := 0) dX6_fillByChunks_21 rfl rfl ?_
    refine wp_get 8 0 (vr (some (nm 50 u))) dX6_fillByChunks_22 hO.k0 (by decide) (by decide) fl_X6_32 (congrArg (fun z => toV (vr z)) ((hO.o_src).trans rfl)) ?_
    refine wp_iload_n (i := 1) dX6_fillByChunks_25 rfl rfl ?_
    refine wp_cV (y' := m_X6_elementsIn) 8 [vi (nI k)] [] 0 0 dX6_fillByChunks_26 ml_X6_54 im_X6_elementsIn se_X6_elementsIn (by decide) ((ce_k (hF (nm 50 u) (CQs_n (by omega) (by decide)))).trans hU.k0) ok_X6_elementsIn rfl (Nat.le_of_ble_eq_true rfl) rfl (Nat.le_of_ble_eq_true rfl) (d' := d - 1) (by omega) (Nat.zero_le _) (Nat.zero_le _) (c_X6_elementsIn (hU.frm (hF _ (CQs_n (by omega) (by decide))) (hF _ (CQs_n (by omega) (by decide))) (hF _ (CQs_n (by omega) (by decide)))) (by omega) (k := k) (by omega) (cont_ret ?_))
    rw [hy0.ein (k := k) (by omega)]
    refine wp_istore_n (i := 2) (lv' := [(2, vi (nI (pre E k))), (1, vi (nI k)), (0, vr (some (nm 50 s)))]) dX6_fillByChunks_29 rfl (by decide) rfl ?_
    refine wp_aload_n (i := 0) dX6_fillByChunks_30 rfl rfl ?_
    refine wp_get 8 0 (vr (some (nm 50 u))) dX6_fillByChunks_31 hO.k0 (by decide) (by decide) fl_X6_32 (congrArg (fun z => toV (vr z)) ((hO.o_src).trans rfl)) ?_
    refine wp_iload_n (i := 1) dX6_fillByChunks_34 rfl rfl ?_
    refine wp_iconst (nI 1) dX6_fillByChunks_35 (by decide) ?_
    refine wp_iaddN dX6_fillByChunks_36 ?_
    refine wp_cV (y' := m_X6_elementsIn) 8 [vi (nI (k + 1))] [] 0 0 dX6_fillByChunks_37 ml_X6_54 im_X6_elementsIn se_X6_elementsIn (by decide) ((ce_k (hF (nm 50 u) (CQs_n (by omega) (by decide)))).trans hU.k0) ok_X6_elementsIn rfl (Nat.le_of_ble_eq_true rfl) rfl (Nat.le_of_ble_eq_true rfl) (d' := d - 1) (by omega) (Nat.zero_le _) (Nat.zero_le _) (c_X6_elementsIn (hU.frm (hF _ (CQs_n (by omega) (by decide))) (hF _ (CQs_n (by omega) (by decide))) (hF _ (CQs_n (by omega) (by decide)))) (by omega) (k := k + 1) (by omega) (cont_ret ?_))
    rw [hy0.ein (k := k + 1) (by omega)]
    refine wp_istore_n (i := 3) (lv' := [(3, vi (nI (pre E (k + 1)))), (2, vi (nI (pre E k))), (1, vi (nI k)), (0, vr (some (nm 50 s)))]) dX6_fillByChunks_40 rfl (by decide) rfl ?_
    refine wp_aload_n (i := 0) dX6_fillByChunks_41 rfl rfl ?_
    refine wp_get 8 1 (vi w) dX6_fillByChunks_42 hO.k0 (by decide) (by decide) fl_X6_36 (congrArg (fun z => toV (vi z)) (hO.f_way)) ?_
    refine wp_bipush (nI 100) dX6_fillByChunks_45 (by decide) ?_
    refine wp_icmp_ne 68 dX6_fillByChunks_47 (by decide) (fun c_47 => ?_) (fun c_47 => ?_)
    · skip
      refine wp_iload_n (i := 2) dX6_fillByChunks_68 rfl rfl ?_
      refine wp_istore (i := 4) (lv' := [(4, vi (nI (pre E k))), (3, vi (nI (pre E (k + 1)))), (2, vi (nI (pre E k))), (1, vi (nI k)), (0, vr (some (nm 50 s)))]) dX6_fillByChunks_69 (by decide) rfl ?_
      have hcz : ¬ (w = nI 100 ∧ hz c = true) := fun z => by first | exact c_47 z.1 | exact absurd (c_59.symm.trans z.2) (by decide)
      refine wp_sub [(4, vi (nI (pre E k))), (0, vr (some (nm 50 s))), (1, vi (nI k)), (3, vi (nI (pre E (k + 1))))] (sb_cons (.head _) (sb_cons (.tail _ (.tail _ (.tail _ (.tail _ (.head _))))) (sb_cons (.tail _ (.tail _ (.tail _ (.head _)))) (sb_cons (.tail _ (.head _)) sb_nil)))) ?_
      refine l_X6_fill1 hy0 hus hw h107 hd hU (by omega) c (pre E k) [] _ hp1.symm hel (fun z => by cases e9 : hz c with
    | false => rfl
    | true => exact absurd ⟨z, e9⟩ hcz) (by show tot F + 0 + c.length ≤ 24; omega) hO hF (fun h1 hO1 hF1 => ?_)
      refine wp_aload_n (i := 0) dX6_fillByChunks_96 rfl rfl ?_
      refine wp_cV (y' := m_X6_closeChunk) 8 [] [] 0 0 dX6_fillByChunks_97 ml_X6_47 im_X6_closeChunk se_X6_closeChunk (by decide) hO1.k0 ok_X6_closeChunk rfl (Nat.le_of_ble_eq_true rfl) rfl (Nat.le_of_ble_eq_true rfl) (d' := d - 1) (by omega) (Nat.zero_le _) (Nat.zero_le _) (c_X6_closeX hO1 (by omega) (fun h_hO1 hO1 F_hO1 => cont_void ?_))
      have hF2 := hF1.tr F_hO1
      refine wp_iincN (a := k) (lv' := [(1, vi (nI (k + 1))), (0, vr (some (nm 50 s)))]) 1 dX6_fillByChunks_100 rfl (by decide) (by decide) rfl ?_
      refine wp_goto 10 dX6_fillByChunks_103 (by decide) ?_
      refine wp_sub [(1, vi (nI (k + 1))), (0, vr (some (nm 50 s)))] (sb_cons (.head _) (sb_cons (.tail _ (.head _)) sb_nil)) ?_
      have hO9 := hO1
      rw [List.nil_append] at hO9
      have hlc : (chF w m c).length ≤ c.length := chF_le
      refine ih (k + 1) (F ++ [chF w m c]) _ hG1 (by rw [List.length_append]; show F.length + 1 + _ ≤ 24; omega) (by rw [tot_1]; omega) hO9 hF2 (fun h2 O2 F2 => ?_) (by omega)
      refine hq h2 ?_ F2
      rw [show ovL w m (c :: G1) (KQ_brk y) = (chF w m c :: (ovL w m G1 (KQ_brk y)).1, (ovL w m G1 (KQ_brk y)).2) from if_neg hcz]
      rw [List.append_assoc] at O2
      exact O2
    · skip
      refine wp_aload_n (i := 0) dX6_fillByChunks_50 rfl rfl ?_
      refine wp_get 8 0 (vr (some (nm 50 u))) dX6_fillByChunks_51 hO.k0 (by decide) (by decide) fl_X6_32 (congrArg (fun z => toV (vr z)) ((hO.o_src).trans rfl)) ?_
      refine wp_iload_n (i := 2) dX6_fillByChunks_54 rfl rfl ?_
      refine wp_iload_n (i := 3) dX6_fillByChunks_55 rfl rfl ?_
      refine wp_cV (y' := m_X6_hasZero) 8 [vi (nI (pre E k)), vi (nI (pre E (k + 1)))] [] 0 0 dX6_fillByChunks_56 ml_X6_57 im_X6_hasZero se_X6_hasZero (by decide) ((ce_k (hF (nm 50 u) (CQs_n (by omega) (by decide)))).trans hU.k0) ok_X6_hasZero rfl (Nat.le_of_ble_eq_true rfl) rfl (Nat.le_of_ble_eq_true rfl) (d' := d - 1) (by omega) (Nat.zero_le _) (Nat.zero_le _) (c_X6_hasZero (hU.frm (hF _ (CQs_n (by omega) (by decide))) (hF _ (CQs_n (by omega) (by decide))) (hF _ (CQs_n (by omega) (by decide)))) (by omega) (by omega) (l := c) hp1.symm hel (cont_ret ?_))
      refine wp_if_eqB 68 dX6_fillByChunks_59 (by decide) (fun c_59 => ?_) (fun c_59 => ?_)
      · skip
        refine wp_iload_n (i := 2) dX6_fillByChunks_68 rfl rfl ?_
        refine wp_istore (i := 4) (lv' := [(4, vi (nI (pre E k))), (3, vi (nI (pre E (k + 1)))), (2, vi (nI (pre E k))), (1, vi (nI k)), (0, vr (some (nm 50 s)))]) dX6_fillByChunks_69 (by decide) rfl ?_
        have hcz : ¬ (w = nI 100 ∧ hz c = true) := fun z => by first | exact c_47 z.1 | exact absurd (c_59.symm.trans z.2) (by decide)
        refine wp_sub [(4, vi (nI (pre E k))), (0, vr (some (nm 50 s))), (1, vi (nI k)), (3, vi (nI (pre E (k + 1))))] (sb_cons (.head _) (sb_cons (.tail _ (.tail _ (.tail _ (.tail _ (.head _))))) (sb_cons (.tail _ (.tail _ (.tail _ (.head _)))) (sb_cons (.tail _ (.head _)) sb_nil)))) ?_
        refine l_X6_fill1 hy0 hus hw h107 hd hU (by omega) c (pre E k) [] _ hp1.symm hel (fun z => by cases e9 : hz c with
    | false => rfl
    | true => exact absurd ⟨z, e9⟩ hcz) (by show tot F + 0 + c.length ≤ 24; omega) hO hF (fun h1 hO1 hF1 => ?_)
        refine wp_aload_n (i := 0) dX6_fillByChunks_96 rfl rfl ?_
        refine wp_cV (y' := m_X6_closeChunk) 8 [] [] 0 0 dX6_fillByChunks_97 ml_X6_47 im_X6_closeChunk se_X6_closeChunk (by decide) hO1.k0 ok_X6_closeChunk rfl (Nat.le_of_ble_eq_true rfl) rfl (Nat.le_of_ble_eq_true rfl) (d' := d - 1) (by omega) (Nat.zero_le _) (Nat.zero_le _) (c_X6_closeX hO1 (by omega) (fun h_hO1 hO1 F_hO1 => cont_void ?_))
        have hF2 := hF1.tr F_hO1
        refine wp_iincN (a := k) (lv' := [(1, vi (nI (k + 1))), (0, vr (some (nm 50 s)))]) 1 dX6_fillByChunks_100 rfl (by decide) (by decide) rfl ?_
        refine wp_goto 10 dX6_fillByChunks_103 (by decide) ?_
        refine wp_sub [(1, vi (nI (k + 1))), (0, vr (some (nm 50 s)))] (sb_cons (.head _) (sb_cons (.tail _ (.head _)) sb_nil)) ?_
        have hO9 := hO1
        rw [List.nil_append] at hO9
        have hlc : (chF w m c).length ≤ c.length := chF_le
        refine ih (k + 1) (F ++ [chF w m c]) _ hG1 (by rw [List.length_append]; show F.length + 1 + _ ≤ 24; omega) (by rw [tot_1]; omega) hO9 hF2 (fun h2 O2 F2 => ?_) (by omega)
        refine hq h2 ?_ F2
        rw [show ovL w m (c :: G1) (KQ_brk y) = (chF w m c :: (ovL w m G1 (KQ_brk y)).1, (ovL w m G1 (KQ_brk y)).2) from if_neg hcz]
        rw [List.append_assoc] at O2
        exact O2
      · skip
        refine wp_aload_n (i := 0) dX6_fillByChunks_62 rfl rfl ?_
        refine wp_iconst (nI 1) dX6_fillByChunks_63 (by decide) ?_
        refine wp_putI 8 7 dX6_fillByChunks_64 hO.k0 (by decide) (by decide) (by decide) fl_X6_25 rfl (fun _ _ => rfl) rfl rfl ?_
        have hO1 := hO.wbrk (v := true)
        have hF2 := hF.wI (b := nm 50 s) (k := 7) (x := bI (true)) (by unfold CQs nm; omega)
        refine wp_return dX6_fillByChunks_67 rfl ?_
        refine hq _ ?_ hF2
        rw [show ovL w m (c :: G1) (KQ_brk y) = ([], true) from if_pos ⟨c_47, c_59⟩, List.append_nil]
        exact hO1
set_option maxRecDepth 100000 in
set_option maxHeartbeats 4000000 in
theorem c_X6_fillByChunks {G : GG} {d bc bs : Nat} {h : Hp} {Q : Pst} {s u : Nat} {y : KQS} {E : List (List Int32)} {w m : Int32} (hy : KF y E) (hus : u ≠ s) (hw : w = nI 97 ∨ w = nI 100 ∨ w = nI 107) (h107 : w = nI 107 → ¬ m = 0) (hd : 2 ≤ d) (hU : KQ h u y) (hO : KQ h s (ksx (some (nm 50 u)) w m [] [] false 0)) (hq : ∀ h', KQ h' s (ksx (some (nm 50 u)) w m (ovL w m E (KQ_brk y)).1 [] (ovL w m E (KQ_brk y)).2 0) → Fr h h' (CQs s) → Q oVoid h') : WP G m_X6_fillByChunks d 0 (aargs 0 [vr (some (nm 50 s))]) [] h bc bs Q := by
  have hF : Fr h h (CQs s) := Fr.rf
  refine wp_sub [(0, vr (some (nm 50 s)))] (fun _ hz => hz) ?_
  refine wp_aload_n (i := 0) dX6_fillByChunks_0 rfl rfl ?_
  refine wp_get 8 0 (vr (some (nm 50 u))) dX6_fillByChunks_1 hO.k0 (by decide) (by decide) fl_X6_32 (congrArg (fun z => toV (vr z)) ((hO.o_src).trans rfl)) ?_
  refine wp_ifnonnull 8 dX6_fillByChunks_4 (by decide) (fun a_4 c_4 => ?_) (fun c_4 => absurd c_4 (fun z => nomatch z))
  refine wp_iconst (nI 0) dX6_fillByChunks_8 (by decide) ?_
  refine wp_istore_n (i := 1) (lv' := [(1, vi (nI 0)), (0, vr (some (nm 50 s)))]) dX6_fillByChunks_9 rfl (by decide) rfl ?_
  refine wp_sub [(1, vi (nI 0)), (0, vr (some (nm 50 s)))] (sb_cons (.head _) (sb_cons (.tail _ (.head _)) sb_nil)) ?_
  exact l_X6_fillByChunks hy hus hw h107 hd hU E 0 [] _ rfl (by show 0 + E.length ≤ 24; have := hy.2.2.2.2.1; omega) (by show 0 + tot E ≤ 24; have := hy.2.2.2.2.2; omega) hO hF (fun h2 O2 F2 => hq h2 (by rw [List.nil_append] at O2; exact O2) F2) (by omega)
set_option maxRecDepth 100000 in
set_option maxHeartbeats 4000000 in
theorem c_X6_init {G : GG} {d bc bs : Nat} {h : Hp} {Q : Pst} {s : Nat} (f51 : h_k h (nm 51 s) = 0) (f52 : h_k h (nm 52 s) = 0) {src : Option Nat} {wn : Nat} (hnr : narrow (clTy 8 1) (toV (vi (nI wn))) = toV (vi (nI wn))) (hft : fits (clTy 8 1) (toV (vi (nI wn))) = true) {m : Int32} (hd : 3 ≤ d) (hbc : 2 ≤ bc) (hbs : 50 ≤ bs) (hq : ∀ h', KQ h' s (ksx src (nI wn) m [] [] false 0) → Fr h h' (CQs s) → Q oVoid h') : WP G m_X6_init d 0 (aargs 0 [vr (some (nm 50 s)), vr src, vi (nI wn), vi m]) [] (mk h (nm 50 s) 9 0) bc bs Q := by
  refine wp_sub [(0, vr (some (nm 50 s))), (1, vr src), (2, vi (nI wn)), (3, vi m)] (fun _ hz => hz) ?_
  refine wp_aload_n (i := 0) dX6_init_0 rfl rfl ?_
  refine wp_objInit dX6_init_1 ml_X6_3 im_java_lang_Object__init____V co_obj (by omega) (by decide) ?_
  refine wp_aload_n (i := 0) dX6_init_4 rfl rfl ?_
  refine wp_bipush (nI 24) dX6_init_5 (by decide) ?_
  refine wp_newarray 101 24 .int dX6_init_7 rfl rfl aw_int (nI_nn (by omega)) (nI_clamp (by omega)) (by omega) (by decide) pl_int (by omega) (by omega) (nm 51 s) (by simp [gI_wI, gI_wR, gI_mk, gR_wI, gR_wR, gR_mk, gk_wI, gk_wR, gk_mk, gn_wI, gn_wR, gn_mk, nm_eq, nm_i]; exact f51) ?_
  refine wp_putRF 8 3 dX6_init_9 (by simp [gI_wI, gI_wR, gI_mk, gR_wI, gR_wR, gR_mk, gk_wI, gk_wR, gk_mk, gn_wI, gn_wR, gn_mk, nm_eq, nm_i]) (by decide) (by decide) (by decide) fl_X6_9 rfl rfl rfl (fun _ _ => rfl) rfl ?_
  refine wp_aload_n (i := 0) dX6_init_12 rfl rfl ?_
  refine wp_iconst (nI 0) dX6_init_13 (by decide) ?_
  refine wp_putI 8 4 dX6_init_14 (by simp [gI_wI, gI_wR, gI_mk, gR_wI, gR_wR, gR_mk, gk_wI, gk_wR, gk_mk, gn_wI, gn_wR, gn_mk, nm_eq, nm_i]) (by decide) (by decide) (by decide) fl_X6_15 rfl (fun _ _ => rfl) rfl rfl ?_
  refine wp_aload_n (i := 0) dX6_init_17 rfl rfl ?_
  refine wp_bipush (nI 24) dX6_init_18 (by decide) ?_
  refine wp_newarray 101 24 .int dX6_init_20 rfl rfl aw_int (nI_nn (by omega)) (nI_clamp (by omega)) (by omega) (by decide) pl_int (by omega) (by omega) (nm 52 s) (by simp [gI_wI, gI_wR, gI_mk, gR_wI, gR_wR, gR_mk, gk_wI, gk_wR, gk_mk, gn_wI, gn_wR, gn_mk, nm_eq, nm_i]; exact f52) ?_
  refine wp_putRF 8 5 dX6_init_22 (by simp [gI_wI, gI_wR, gI_mk, gR_wI, gR_wR, gR_mk, gk_wI, gk_wR, gk_mk, gn_wI, gn_wR, gn_mk, nm_eq, nm_i]) (by decide) (by decide) (by decide) fl_X6_19 rfl rfl rfl (fun _ _ => rfl) rfl ?_
  refine wp_aload_n (i := 0) dX6_init_25 rfl rfl ?_
  refine wp_iconst (nI 0) dX6_init_26 (by decide) ?_
  refine wp_putI 8 6 dX6_init_27 (by simp [gI_wI, gI_wR, gI_mk, gR_wI, gR_wR, gR_mk, gk_wI, gk_wR, gk_mk, gn_wI, gn_wR, gn_mk, nm_eq, nm_i]) (by decide) (by decide) (by decide) fl_X6_22 rfl (fun _ _ => rfl) rfl rfl ?_
  refine wp_aload_n (i := 0) dX6_init_30 rfl rfl ?_
  refine wp_iconst (nI 0) dX6_init_31 (by decide) ?_
  refine wp_putI 8 7 dX6_init_32 (by simp [gI_wI, gI_wR, gI_mk, gR_wI, gR_wR, gR_mk, gk_wI, gk_wR, gk_mk, gn_wI, gn_wR, gn_mk, nm_eq, nm_i]) (by decide) (by decide) (by decide) fl_X6_25 rfl (fun _ _ => rfl) rfl rfl ?_
  refine wp_aload_n (i := 0) dX6_init_35 rfl rfl ?_
  refine wp_iconst (nI 0) dX6_init_36 (by decide) ?_
  refine wp_putI 8 8 dX6_init_37 (by simp [gI_wI, gI_wR, gI_mk, gR_wI, gR_wR, gR_mk, gk_wI, gk_wR, gk_mk, gn_wI, gn_wR, gn_mk, nm_eq, nm_i]) (by decide) (by decide) (by decide) fl_X6_29 rfl (fun _ _ => rfl) rfl rfl ?_
  refine wp_aload_n (i := 0) dX6_init_40 rfl rfl ?_
  refine wp_aload_n (i := 1) dX6_init_41 rfl rfl ?_
  refine wp_putRF 8 0 dX6_init_42 (by simp [gI_wI, gI_wR, gI_mk, gR_wI, gR_wR, gR_mk, gk_wI, gk_wR, gk_mk, gn_wI, gn_wR, gn_mk, nm_eq, nm_i]) (by decide) (by decide) (by decide) fl_X6_32 rfl rfl rfl (fun _ _ => rfl) rfl ?_
  refine wp_aload_n (i := 0) dX6_init_45 rfl rfl ?_
  refine wp_iload_n (i := 2) dX6_init_46 rfl rfl ?_
  refine wp_putIF 8 1 dX6_init_47 (by simp [gI_wI, gI_wR, gI_mk, gR_wI, gR_wR, gR_mk, gk_wI, gk_wR, gk_mk, gn_wI, gn_wR, gn_mk, nm_eq, nm_i]) (by decide) (by decide) (by decide) fl_X6_36 rfl rfl rfl (fun _ _ => rfl) hnr hft ?_
  refine wp_aload_n (i := 0) dX6_init_50 rfl rfl ?_
  refine wp_iload_n (i := 3) dX6_init_51 rfl rfl ?_
  refine wp_putIF 8 2 dX6_init_52 (by simp [gI_wI, gI_wR, gI_mk, gR_wI, gR_wR, gR_mk, gk_wI, gk_wR, gk_mk, gn_wI, gn_wR, gn_mk, nm_eq, nm_i]) (by decide) (by decide) (by decide) fl_X6_40 rfl rfl rfl (fun _ _ => rfl) rfl rfl ?_
  refine wp_return dX6_init_55 rfl ?_
  exact hq _ ⟨by first | (simp [gI_wI, gI_wR, gI_mk, gR_wI, gR_wR, gR_mk, gk_wI, gk_wR, gk_mk, gn_wI, gn_wR, gn_mk, nm_eq, nm_i, va_up_app]; done) | (simp [gI_wI, gI_wR, gI_mk, gR_wI, gR_wR, gR_mk, gk_wI, gk_wR, gk_mk, gn_wI, gn_wR, gn_mk, nm_eq, nm_i, va_up_app]; rfl), by first | (simp [gI_wI, gI_wR, gI_mk, gR_wI, gR_wR, gR_mk, gk_wI, gk_wR, gk_mk, gn_wI, gn_wR, gn_mk, nm_eq, nm_i, va_up_app]; done) | (simp [gI_wI, gI_wR, gI_mk, gR_wI, gR_wR, gR_mk, gk_wI, gk_wR, gk_mk, gn_wI, gn_wR, gn_mk, nm_eq, nm_i, va_up_app]; rfl), by first | (simp [gI_wI, gI_wR, gI_mk, gR_wI, gR_wR, gR_mk, gk_wI, gk_wR, gk_mk, gn_wI, gn_wR, gn_mk, nm_eq, nm_i, va_up_app]; done) | (simp [gI_wI, gI_wR, gI_mk, gR_wI, gR_wR, gR_mk, gk_wI, gk_wR, gk_mk, gn_wI, gn_wR, gn_mk, nm_eq, nm_i, va_up_app]; rfl), by first | (simp [gI_wI, gI_wR, gI_mk, gR_wI, gR_wR, gR_mk, gk_wI, gk_wR, gk_mk, gn_wI, gn_wR, gn_mk, nm_eq, nm_i, va_up_app]; done) | (simp [gI_wI, gI_wR, gI_mk, gR_wI, gR_wR, gR_mk, gk_wI, gk_wR, gk_mk, gn_wI, gn_wR, gn_mk, nm_eq, nm_i, va_up_app]; rfl), by first | (simp [gI_wI, gI_wR, gI_mk, gR_wI, gR_wR, gR_mk, gk_wI, gk_wR, gk_mk, gn_wI, gn_wR, gn_mk, nm_eq, nm_i, va_up_app]; done) | (simp [gI_wI, gI_wR, gI_mk, gR_wI, gR_wR, gR_mk, gk_wI, gk_wR, gk_mk, gn_wI, gn_wR, gn_mk, nm_eq, nm_i, va_up_app]; rfl), by first | (simp [gI_wI, gI_wR, gI_mk, gR_wI, gR_wR, gR_mk, gk_wI, gk_wR, gk_mk, gn_wI, gn_wR, gn_mk, nm_eq, nm_i, va_up_app]; done) | (simp [gI_wI, gI_wR, gI_mk, gR_wI, gR_wR, gR_mk, gk_wI, gk_wR, gk_mk, gn_wI, gn_wR, gn_mk, nm_eq, nm_i, va_up_app]; rfl), by first | (simp [gI_wI, gI_wR, gI_mk, gR_wI, gR_wR, gR_mk, gk_wI, gk_wR, gk_mk, gn_wI, gn_wR, gn_mk, nm_eq, nm_i, va_up_app]; done) | (simp [gI_wI, gI_wR, gI_mk, gR_wI, gR_wR, gR_mk, gk_wI, gk_wR, gk_mk, gn_wI, gn_wR, gn_mk, nm_eq, nm_i, va_up_app]; rfl), by first | (simp [gI_wI, gI_wR, gI_mk, gR_wI, gR_wR, gR_mk, gk_wI, gk_wR, gk_mk, gn_wI, gn_wR, gn_mk, nm_eq, nm_i, va_up_app]; done) | (simp [gI_wI, gI_wR, gI_mk, gR_wI, gR_wR, gR_mk, gk_wI, gk_wR, gk_mk, gn_wI, gn_wR, gn_mk, nm_eq, nm_i, va_up_app]; rfl), by first | (simp [gI_wI, gI_wR, gI_mk, gR_wI, gR_wR, gR_mk, gk_wI, gk_wR, gk_mk, gn_wI, gn_wR, gn_mk, nm_eq, nm_i, va_up_app]; done) | (simp [gI_wI, gI_wR, gI_mk, gR_wI, gR_wR, gR_mk, gk_wI, gk_wR, gk_mk, gn_wI, gn_wR, gn_mk, nm_eq, nm_i, va_up_app]; rfl), by first | (simp [gI_wI, gI_wR, gI_mk, gR_wI, gR_wR, gR_mk, gk_wI, gk_wR, gk_mk, gn_wI, gn_wR, gn_mk, nm_eq, nm_i, va_up_app]; done) | (simp [gI_wI, gI_wR, gI_mk, gR_wI, gR_wR, gR_mk, gk_wI, gk_wR, gk_mk, gn_wI, gn_wR, gn_mk, nm_eq, nm_i, va_up_app]; rfl), ⟨by first | (simp [gI_wI, gI_wR, gI_mk, gR_wI, gR_wR, gR_mk, gk_wI, gk_wR, gk_mk, gn_wI, gn_wR, gn_mk, nm_eq, nm_i, va_up_app]; done) | (simp [gI_wI, gI_wR, gI_mk, gR_wI, gR_wR, gR_mk, gk_wI, gk_wR, gk_mk, gn_wI, gn_wR, gn_mk, nm_eq, nm_i, va_up_app]; rfl), by first | (simp [gI_wI, gI_wR, gI_mk, gR_wI, gR_wR, gR_mk, gk_wI, gk_wR, gk_mk, gn_wI, gn_wR, gn_mk, nm_eq, nm_i, va_up_app]; done) | (simp [gI_wI, gI_wR, gI_mk, gR_wI, gR_wR, gR_mk, gk_wI, gk_wR, gk_mk, gn_wI, gn_wR, gn_mk, nm_eq, nm_i, va_up_app]; rfl)⟩, by intro j; show _ = atF ([] ++ [[]]) j; rw [atF_nl]; first | (simp [gI_wI, gI_wR, gI_mk, gR_wI, gR_wR, gR_mk, gk_wI, gk_wR, gk_mk, gn_wI, gn_wR, gn_mk, nm_eq, nm_i, va_up_app]; done) | (simp [gI_wI, gI_wR, gI_mk, gR_wI, gR_wR, gR_mk, gk_wI, gk_wR, gk_mk, gn_wI, gn_wR, gn_mk, nm_eq, nm_i, va_up_app]; rfl), ⟨by first | (simp [gI_wI, gI_wR, gI_mk, gR_wI, gR_wR, gR_mk, gk_wI, gk_wR, gk_mk, gn_wI, gn_wR, gn_mk, nm_eq, nm_i, va_up_app]; done) | (simp [gI_wI, gI_wR, gI_mk, gR_wI, gR_wR, gR_mk, gk_wI, gk_wR, gk_mk, gn_wI, gn_wR, gn_mk, nm_eq, nm_i, va_up_app]; rfl), by first | (simp [gI_wI, gI_wR, gI_mk, gR_wI, gR_wR, gR_mk, gk_wI, gk_wR, gk_mk, gn_wI, gn_wR, gn_mk, nm_eq, nm_i, va_up_app]; done) | (simp [gI_wI, gI_wR, gI_mk, gR_wI, gR_wR, gR_mk, gk_wI, gk_wR, gk_mk, gn_wI, gn_wR, gn_mk, nm_eq, nm_i, va_up_app]; rfl)⟩, by intro j; first | (simp [gI_wI, gI_wR, gI_mk, gR_wI, gR_wR, gR_mk, gk_wI, gk_wR, gk_mk, gn_wI, gn_wR, gn_mk, nm_eq, nm_i, va_up_app]; done) | (simp [gI_wI, gI_wR, gI_mk, gR_wI, gR_wR, gR_mk, gk_wI, gk_wR, gk_mk, gn_wI, gn_wR, gn_mk, nm_eq, nm_i, va_up_app]; rfl)⟩ (fun a ha => by
    have n3 : a ≠ nm 50 s := fun e => ha (by rw [e]; unfold CQs nm; omega)
    have n4 : a ≠ nm 51 s := fun e => ha (by rw [e]; unfold CQs nm; omega)
    have n5 : a ≠ nm 52 s := fun e => ha (by rw [e]; unfold CQs nm; omega)
    exact (ce_wI n3).trans ((ce_wI n3).trans ((ce_wR n3).trans ((ce_wI n3).trans ((ce_wI n3).trans ((ce_wI n3).trans ((ce_nwF n3 n5).trans ((ce_wI n3).trans ((ce_nwF n3 n4).trans (ce_mk n3))))))))))
