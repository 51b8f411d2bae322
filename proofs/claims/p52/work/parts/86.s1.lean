/-! The class: sequences, made and filled. -/
/-- a range, after i of many elements -/
def rgF (a b : Int32) (m i : Nat) : List (List Int32) := if i = m then rngF a b m else (List.range (i / 4)).map (fun j => (List.range 4).map (fun k => a + b * nI (4 * j + k)))
def rgP (a b : Int32) (m i : Nat) : List Int32 := if i = m then [] else (List.range (i % 4)).map (fun k => a + b * nI (4 * (i / 4) + k))
theorem rngF_q {a b : Int32} {m q : Nat} (h : 4 * q ≤ m) : (List.range q).map (fun j => (List.range (min (m - 4 * j) 4)).map (fun k => a + b * nI (4 * j + k))) = (List.range q).map (fun j => (List.range 4).map (fun k => a + b * nI (4 * j + k))) := by
  refine List.map_congr_left (fun j hj => ?_)
  have : j < q := List.mem_range.mp hj
  rw [show min (m - 4 * j) 4 = 4 by omega]
theorem rgP_s {a b : Int32} {m i : Nat} (h : i < m) : rgP a b m i ++ [a + b * nI i] = (List.range (i % 4 + 1)).map (fun k => a + b * nI (4 * (i / 4) + k)) := by
  unfold rgP
  rw [if_neg (by omega), List.range_succ, List.map_append, show (List.map (fun k => a + b * nI (4 * (i / 4) + k)) [i % 4]) = [a + b * nI (4 * (i / 4) + i % 4)] from rfl, show 4 * (i / 4) + i % 4 = i by omega]
theorem rg_c {a b : Int32} {m i : Nat} (h : i < m) (hc : (i + 1) % 4 = 0 ∨ i + 1 = m) : rgF a b m i ++ [rgP a b m i ++ [a + b * nI i]] = rgF a b m (i + 1) ∧ rgP a b m (i + 1) = [] := by
  rw [rgP_s h]
  have e1 : rgF a b m i = (List.range (i / 4)).map (fun j => (List.range 4).map (fun k => a + b * nI (4 * j + k))) := if_neg (by omega)
  by_cases e : i + 1 = m
  · refine ⟨?_, if_pos e⟩
    rw [e1, show rgF a b m (i + 1) = rngF a b m from if_pos e]
    unfold rngF
    rw [show (m + 3) / 4 = i / 4 + 1 by omega, List.range_succ (n := i / 4), List.map_append, rngF_q (by omega)]
    show _ = _ ++ [(List.range (min (m - 4 * (i / 4)) 4)).map (fun k => a + b * nI (4 * (i / 4) + k))]
    rw [show min (m - 4 * (i / 4)) 4 = i % 4 + 1 by omega]
  · have h4 : (i + 1) % 4 = 0 := hc.resolve_right e
    refine ⟨?_, ?_⟩
    · rw [e1, show rgF a b m (i + 1) = (List.range ((i + 1) / 4)).map (fun j => (List.range 4).map (fun k => a + b * nI (4 * j + k))) from if_neg e, show (i + 1) / 4 = i / 4 + 1 by omega, List.range_succ (n := i / 4), List.map_append, show i % 4 + 1 = 4 by omega]
      rfl
    · unfold rgP
      rw [if_neg e, h4]; rfl
theorem rg_n {a b : Int32} {m i : Nat} (h : i < m) (h1 : ¬ (i + 1) % 4 = 0) (h2 : ¬ i + 1 = m) : rgF a b m i = rgF a b m (i + 1) ∧ rgP a b m i ++ [a + b * nI i] = rgP a b m (i + 1) := by
  rw [rgP_s h]
  unfold rgF rgP
  rw [if_neg (by omega), if_neg h2, if_neg h2, show (i + 1) / 4 = i / 4 by omega, show (i + 1) % 4 = i % 4 + 1 by omega]
  exact ⟨rfl, rfl⟩
theorem tot_4 {f : Nat → Nat → Int32} {q : Nat} : tot ((List.range q).map (fun j => (List.range 4).map (f j))) = 4 * q := by
  induction q with
  | zero => rfl
  | succ q ih =>
    rw [List.range_succ (n := q), List.map_append, tot_app, ih]
    show 4 * q + (((List.range 4).map (f q)).length + 0) = _
    rw [List.length_map, List.length_range]; omega
theorem rg_l {a b : Int32} {m i : Nat} (h : i < m) : tot (rgF a b m i) + (rgP a b m i).length = i ∧ (rgF a b m i).length = i / 4 := by
  unfold rgF rgP
  rw [if_neg (by omega), if_neg (by omega), tot_4, List.length_map, List.length_range, List.length_map, List.length_range]
  exact ⟨by omega, rfl⟩
theorem rg_0 {a b : Int32} {m : Nat} : rgF a b m 0 = [] ∧ rgP a b m 0 = [] := by
  unfold rgF rgP
  rcases m with _ | m
  · exact ⟨rfl, rfl⟩
  · exact ⟨rfl, rfl⟩
theorem rg_m {a b : Int32} {m : Nat} : rgF a b m m = rngF a b m ∧ rgP a b m m = [] := ⟨if_pos rfl, if_pos rfl⟩
set_option maxRecDepth 100000 in
set_option maxHeartbeats 4000000 in
theorem l_X6_fillRange {G : GG} {d bc bs : Nat} {Q : Pst} {h0 : Hp} {s m : Nat} {w0 m0 a b : Int32} (hm : m ≤ 24) (hd : 1 ≤ d) (hq : ∀ h', KQ h' s (ksx none w0 m0 (rngF a b m) [] false 0) → Fr h0 h' (CQs s) → Q oVoid h') : ∀ n i H, i + n = m → KQ H s (ksx none w0 m0 (rgF a b m i) (rgP a b m i) false 0) → Fr h0 H (CQs s) → WP G m_X6_fillRange d 3 [(4, vi (nI i)), (0, vr (some (nm 50 s))), (1, vi a), (2, vi b), (3, vi (nI m))] [] H bc bs Q := by
  intro n
  induction n with
  | zero =>
    intro i H hi hO hF
    have hi : i = m := hi
    subst hi
    rw [rg_m.1, rg_m.2] at hO
    refine wp_iload (i := 4) dX6_fillRange_3 rfl ?_
    refine wp_iload_n (i := 3) dX6_fillRange_5 rfl rfl ?_
    refine wp_icmp_geN 46 dX6_fillRange_6 (by decide) (by omega) (by omega) (fun c_6 => ?_) (fun c_6 => absurd c_6 (by omega))
    refine wp_return dX6_fillRange_46 rfl ?_
    exact hq _ hO hF
  | succ n ih =>
    intro i H hi hO hF
    have hl := rg_l (a := a) (b := b) (show i < m by omega)
    have ei : a + nI i * b = a + b * nI i := by rw [Int32.mul_comm]
    refine wp_iload (i := 4) dX6_fillRange_3 rfl ?_
    refine wp_iload_n (i := 3) dX6_fillRange_5 rfl rfl ?_
    refine wp_icmp_geN 46 dX6_fillRange_6 (by decide) (by omega) (by omega) (fun c_6 => absurd c_6 (by omega)) (fun c_6 => ?_)
    refine wp_aload_n (i := 0) dX6_fillRange_9 rfl rfl ?_
    refine wp_iload_n (i := 1) dX6_fillRange_10 rfl rfl ?_
    refine wp_iload (i := 4) dX6_fillRange_11 rfl ?_
    refine wp_iload_n (i := 2) dX6_fillRange_13 rfl rfl ?_
    refine wp_imul dX6_fillRange_14 ?_
    refine wp_iadd dX6_fillRange_15 ?_
    refine wp_cV (y' := m_X6_takeElement) 8 [vi (a + ((nI i) * b))] [] 0 0 dX6_fillRange_16 ml_X6_43 im_X6_takeElement se_X6_takeElement (by decide) hO.k0 ok_X6_takeElement rfl (Nat.le_of_ble_eq_true rfl) rfl (Nat.le_of_ble_eq_true rfl) (d' := d - 1) (by omega) (Nat.zero_le _) (Nat.zero_le _) (c_X6_takeX hO (by omega) (fun h_hO1 hO1 F_hO1 => cont_void ?_))
    have hF2 := hF.tr F_hO1
    refine wp_aload_n (i := 0) dX6_fillRange_19 rfl rfl ?_
    refine wp_get 8 4 (vi (nI (i + 1))) dX6_fillRange_20 hO1.k0 (by decide) (by decide) fl_X6_15 (congrArg (fun z => toV (vi z)) ((hO1.f_cnt).trans (congrArg nI (show tot (rgF a b m i) + (rgP a b m i ++ [_]).length = i + 1 by rw [List.length_append, ← Nat.add_assoc, hl.1]; rfl)))) ?_
    refine wp_iconst (nI 4) dX6_fillRange_23 (by decide) ?_
    refine wp_iremN dX6_fillRange_24 (by omega) (by omega) (by omega) ?_
    refine wp_if_eqN 36 dX6_fillRange_25 (by decide) (by omega) (fun c_25 => ?_) (fun c_25 => ?_)
    · skip
      refine wp_aload_n (i := 0) dX6_fillRange_36 rfl rfl ?_
      refine wp_cV (y' := m_X6_closeChunk) 8 [] [] 0 0 dX6_fillRange_37 ml_X6_47 im_X6_closeChunk se_X6_closeChunk (by decide) hO1.k0 ok_X6_closeChunk rfl (Nat.le_of_ble_eq_true rfl) rfl (Nat.le_of_ble_eq_true rfl) (d' := d - 1) (by omega) (Nat.zero_le _) (Nat.zero_le _) (c_X6_closeX hO1 (by omega) (fun h_hO3 hO3 F_hO3 => cont_void ?_))
      have hF4 := hF2.tr F_hO3
      refine wp_iincN (a := i) (lv' := [(4, vi (nI (i + 1))), (0, vr (some (nm 50 s))), (1, vi a), (2, vi b), (3, vi (nI m))]) 1 dX6_fillRange_40 rfl (by decide) (by decide) rfl ?_
      refine wp_goto 3 dX6_fillRange_43 (by decide) ?_
      refine wp_sub [(4, vi (nI (i + 1))), (0, vr (some (nm 50 s))), (1, vi a), (2, vi b), (3, vi (nI m))] (sb_cons (.head _) (sb_cons (.tail _ (.head _)) (sb_cons (.tail _ (.tail _ (.head _))) (sb_cons (.tail _ (.tail _ (.tail _ (.head _)))) (sb_cons (.tail _ (.tail _ (.tail _ (.tail _ (.head _))))) sb_nil))))) ?_
      have hg := rg_c (a := a) (b := b) (show i < m by omega) (by omega)
      have hO9 := hO3
      rw [show a + nI i * b = a + b * nI i from ei, hg.1] at hO9
      exact ih (i + 1) _ (by omega) (by rw [hg.2]; exact hO9) hF4
    · skip
      refine wp_iload (i := 4) dX6_fillRange_28 rfl ?_
      refine wp_iload_n (i := 3) dX6_fillRange_30 rfl rfl ?_
      refine wp_iconst (nI 1) dX6_fillRange_31 (by decide) ?_
      refine wp_isubN dX6_fillRange_32 (by omega) ?_
      refine wp_icmp_neN 40 dX6_fillRange_33 (by decide) (by omega) (by omega) (fun c_33 => ?_) (fun c_33 => ?_)
      · skip
        refine wp_iincN (a := i) (lv' := [(4, vi (nI (i + 1))), (0, vr (some (nm 50 s))), (1, vi a), (2, vi b), (3, vi (nI m))]) 1 dX6_fillRange_40 rfl (by decide) (by decide) rfl ?_
        refine wp_goto 3 dX6_fillRange_43 (by decide) ?_
        refine wp_sub [(4, vi (nI (i + 1))), (0, vr (some (nm 50 s))), (1, vi a), (2, vi b), (3, vi (nI m))] (sb_cons (.head _) (sb_cons (.tail _ (.head _)) (sb_cons (.tail _ (.tail _ (.head _))) (sb_cons (.tail _ (.tail _ (.tail _ (.head _)))) (sb_cons (.tail _ (.tail _ (.tail _ (.tail _ (.head _))))) sb_nil))))) ?_
        have hg := rg_n (a := a) (b := b) (show i < m by omega) (by omega) (by omega)
        have hO9 := hO1
        rw [show a + nI i * b = a + b * nI i from ei] at hO9
        exact ih (i + 1) _ (by omega) (by rw [← hg.1, ← hg.2]; exact hO9) hF2
      · skip
        refine wp_aload_n (i := 0) dX6_fillRange_36 rfl rfl ?_
        refine wp_cV (y' := m_X6_closeChunk) 8 [] [] 0 0 dX6_fillRange_37 ml_X6_47 im_X6_closeChunk se_X6_closeChunk (by decide) hO1.k0 ok_X6_closeChunk rfl (Nat.le_of_ble_eq_true rfl) rfl (Nat.le_of_ble_eq_true rfl) (d' := d - 1) (by omega) (Nat.zero_le _) (Nat.zero_le _) (c_X6_closeX hO1 (by omega) (fun h_hO5 hO5 F_hO5 => cont_void ?_))
        have hF6 := hF2.tr F_hO5
        refine wp_iincN (a := i) (lv' := [(4, vi (nI (i + 1))), (0, vr (some (nm 50 s))), (1, vi a), (2, vi b), (3, vi (nI m))]) 1 dX6_fillRange_40 rfl (by decide) (by decide) rfl ?_
        refine wp_goto 3 dX6_fillRange_43 (by decide) ?_
        refine wp_sub [(4, vi (nI (i + 1))), (0, vr (some (nm 50 s))), (1, vi a), (2, vi b), (3, vi (nI m))] (sb_cons (.head _) (sb_cons (.tail _ (.head _)) (sb_cons (.tail _ (.tail _ (.head _))) (sb_cons (.tail _ (.tail _ (.tail _ (.head _)))) (sb_cons (.tail _ (.tail _ (.tail _ (.tail _ (.head _))))) sb_nil))))) ?_
        have hg := rg_c (a := a) (b := b) (show i < m by omega) (by omega)
        have hO9 := hO5
        rw [show a + nI i * b = a + b * nI i from ei, hg.1] at hO9
        exact ih (i + 1) _ (by omega) (by rw [hg.2]; exact hO9) hF6
set_option maxRecDepth 100000 in
set_option maxHeartbeats 4000000 in
theorem c_X6_fillRange {G : GG} {d bc bs : Nat} {h : Hp} {Q : Pst} {s m : Nat} {w0 m0 a b : Int32} (hO : KQ h s (ksx none w0 m0 [] [] false 0)) (hm : m ≤ 24) (hd : 1 ≤ d) (hq : ∀ h', KQ h' s (ksx none w0 m0 (rngF a b m) [] false 0) → Fr h h' (CQs s) → Q oVoid h') : WP G m_X6_fillRange d 0 (aargs 0 [vr (some (nm 50 s)), vi a, vi b, vi (nI m)]) [] h bc bs Q := by
  have hF : Fr h h (CQs s) := Fr.rf
  refine wp_sub [(0, vr (some (nm 50 s))), (1, vi a), (2, vi b), (3, vi (nI m))] (fun _ hz => hz) ?_
  refine wp_iconst (nI 0) dX6_fillRange_0 (by decide) ?_
  refine wp_istore (i := 4) (lv' := [(4, vi (nI 0)), (0, vr (some (nm 50 s))), (1, vi a), (2, vi b), (3, vi (nI m))]) dX6_fillRange_1 (by decide) rfl ?_
  refine wp_sub [(4, vi (nI 0)), (0, vr (some (nm 50 s))), (1, vi a), (2, vi b), (3, vi (nI m))] (sb_cons (.head _) (sb_cons (.tail _ (.head _)) (sb_cons (.tail _ (.tail _ (.head _))) (sb_cons (.tail _ (.tail _ (.tail _ (.head _)))) (sb_cons (.tail _ (.tail _ (.tail _ (.tail _ (.head _))))) sb_nil))))) ?_
  exact l_X6_fillRange hm hd hq m 0 _ (by omega) (by rw [rg_0.1, rg_0.2]; exact hO) hF
theorem tk1_tot {f : Nat → Int32} {i : Nat} : tot ((List.range i).map (fun j => [f j])) = i := by
  induction i with
  | zero => rfl
  | succ i ih => rw [List.range_succ, List.map_append, tot_app, ih]; rfl
theorem tk1_s {f : Nat → Int32} {i : Nat} : (List.range i).map (fun j => [f j]) ++ [[f i]] = (List.range (i + 1)).map (fun j => [f j]) := by rw [List.range_succ, List.map_append]; rfl
set_option maxRecDepth 100000 in
set_option maxHeartbeats 4000000 in
theorem l_X6_fillFirst {G : GG} {d bc bs : Nat} {Q : Pst} {h0 : Hp} {s u m : Nat} {y : KQS} {E : List (List Int32)} (hy : KF y E) (hus : u ≠ s) (hm : m ≤ 99) (hd : 1 ≤ d) (hU : KQ h0 u y) (hq : ∀ h', KQ h' s (ksx (some (nm 50 u)) (nI 116) (nI m) (tkF E m) [] (KQ_brk y && decide (tot E < m)) 0) → Fr h0 h' (CQs s) → Q oVoid h') : ∀ n i H, i + n = min m (tot E) → KQ H s (ksx (some (nm 50 u)) (nI 116) (nI m) ((List.range i).map (fun j => [atF E j])) [] false 0) → Fr h0 H (CQs s) → WP G m_X6_fillFirst d 10 [(1, vi (nI i)), (0, vr (some (nm 50 s)))] [] H bc bs Q := by
  obtain ⟨hyc, hycc, hye, hyn, hyl, hyt⟩ := hy
  intro n
  induction n with
  | zero =>
    intro i H hi hO hF
    have hi : i = min m (tot E) := hi
    have eT : ((List.range i).map (fun j => [atF E j])) = tkF E m := by rw [hi]; rfl
    rw [eT] at hO
    refine wp_iload_n (i := 1) dX6_fillFirst_10 rfl rfl ?_
    refine wp_aload_n (i := 0) dX6_fillFirst_11 rfl rfl ?_
    refine wp_get 8 0 (vr (some (nm 50 u))) dX6_fillFirst_12 hO.k0 (by decide) (by decide) fl_X6_32 (congrArg (fun z => toV (vr z)) ((hO.o_src).trans rfl)) ?_
    refine wp_get 8 4 (vi (nI (tot E))) dX6_fillFirst_15 ((ce_k (hF (nm 50 u) (CQs_n (by omega) (by decide)))).trans hU.k0) (by decide) (by decide) fl_X6_15 (congrArg (fun z => toV (vi z)) ((congrFun (ce_I (hF (nm 50 u) (CQs_n (by omega) (by decide)))) 4).trans (hU.f_cnt.trans (congrArg nI hyc)))) ?_
    refine wp_icmp_geN 51 dX6_fillFirst_18 (by decide) (by omega) (by omega) (fun c_18 => ?_) (fun c_18 => ?_)
    · skip
      refine wp_aload_n (i := 0) dX6_fillFirst_51 rfl rfl ?_
      refine wp_aload_n (i := 0) dX6_fillFirst_52 rfl rfl ?_
      refine wp_get 8 0 (vr (some (nm 50 u))) dX6_fillFirst_53 hO.k0 (by decide) (by decide) fl_X6_32 (congrArg (fun z => toV (vr z)) ((hO.o_src).trans rfl)) ?_
      refine wp_get 8 7 (vi (bI (KQ_brk y))) dX6_fillFirst_56 ((ce_k (hF (nm 50 u) (CQs_n (by omega) (by decide)))).trans hU.k0) (by decide) (by decide) fl_X6_25 (congrArg (fun z => toV (vi z)) ((congrFun (ce_I (hF (nm 50 u) (CQs_n (by omega) (by decide)))) 7).trans (hU.f_brk))) ?_
      refine wp_if_eqB 80 dX6_fillFirst_59 (by decide) (fun c_59 => ?_) (fun c_59 => ?_)
      · skip
        refine wp_iconst (nI 0) dX6_fillFirst_80 (by decide) ?_
        refine wp_putI 8 7 dX6_fillFirst_81 hO.k0 (by decide) (by decide) (by decide) fl_X6_25 rfl (fun _ _ => rfl) rfl rfl ?_
        have hO1 := hO.wbrk (v := false)
        have hF2 := hF.wI (b := nm 50 s) (k := 7) (x := bI (false)) (by unfold CQs nm; omega)
        refine wp_return dX6_fillFirst_84 rfl ?_
        refine hq _ ?_ hF2
        first | (rw [show (KQ_brk y && decide (tot E < m)) = true from by rw [c_59, decide_eq_true (by omega)]; rfl]; exact hO1) | (rw [show (KQ_brk y && decide (tot E < m)) = false from by first | (rw [c_59]; rfl) | (rw [decide_eq_false (by omega)]; exact Bool.and_false _)]; exact hO1)
      · skip
        refine wp_aload_n (i := 0) dX6_fillFirst_62 rfl rfl ?_
        refine wp_get 8 2 (vi (nI m)) dX6_fillFirst_63 hO.k0 (by decide) (by decide) fl_X6_40 (congrArg (fun z => toV (vi z)) (hO.f_num)) ?_
        refine wp_aload_n (i := 0) dX6_fillFirst_66 rfl rfl ?_
        refine wp_get 8 0 (vr (some (nm 50 u))) dX6_fillFirst_67 hO.k0 (by decide) (by decide) fl_X6_32 (congrArg (fun z => toV (vr z)) ((hO.o_src).trans rfl)) ?_
        refine wp_get 8 4 (vi (nI (tot E))) dX6_fillFirst_70 ((ce_k (hF (nm 50 u) (CQs_n (by omega) (by decide)))).trans hU.k0) (by decide) (by decide) fl_X6_15 (congrArg (fun z => toV (vi z)) ((congrFun (ce_I (hF (nm 50 u) (CQs_n (by omega) (by decide)))) 4).trans (hU.f_cnt.trans (congrArg nI hyc)))) ?_
        refine wp_icmp_leN 80 dX6_fillFirst_73 (by decide) (by omega) (by omega) (fun c_73 => ?_) (fun c_73 => ?_)
        · skip
          refine wp_iconst (nI 0) dX6_fillFirst_80 (by decide) ?_
          refine wp_putI 8 7 dX6_fillFirst_81 hO.k0 (by decide) (by decide) (by decide) fl_X6_25 rfl (fun _ _ => rfl) rfl rfl ?_
          have hO3 := hO.wbrk (v := false)
          have hF4 := hF.wI (b := nm 50 s) (k := 7) (x := bI (false)) (by unfold CQs nm; omega)
          refine wp_return dX6_fillFirst_84 rfl ?_
          refine hq _ ?_ hF4
          first | (rw [show (KQ_brk y && decide (tot E < m)) = true from by rw [c_59, decide_eq_true (by omega)]; rfl]; exact hO3) | (rw [show (KQ_brk y && decide (tot E < m)) = false from by first | (rw [c_59]; rfl) | (rw [decide_eq_false (by omega)]; exact Bool.and_false _)]; exact hO3)
        · skip
          refine wp_iconst (nI 1) dX6_fillFirst_76 (by decide) ?_
          refine wp_goto 81 dX6_fillFirst_77 (by decide) ?_
          refine wp_putI 8 7 dX6_fillFirst_81 hO.k0 (by decide) (by decide) (by decide) fl_X6_25 rfl (fun _ _ => rfl) rfl rfl ?_
          have hO5 := hO.wbrk (v := true)
          have hF6 := hF.wI (b := nm 50 s) (k := 7) (x := bI (true)) (by unfold CQs nm; omega)
          refine wp_return dX6_fillFirst_84 rfl ?_
          refine hq _ ?_ hF6
          first | (rw [show (KQ_brk y && decide (tot E < m)) = true from by rw [c_59, decide_eq_true (by omega)]; rfl]; exact hO5) | (rw [show (KQ_brk y && decide (tot E < m)) = false from by first | (rw [c_59]; rfl) | (rw [decide_eq_false (by omega)]; exact Bool.and_false _)]; exact hO5)
    · skip
      refine wp_iload_n (i := 1) dX6_fillFirst_21 rfl rfl ?_
      refine wp_aload_n (i := 0) dX6_fillFirst_22 rfl rfl ?_
      refine wp_get 8 2 (vi (nI m)) dX6_fillFirst_23 hO.k0 (by decide) (by decide) fl_X6_40 (congrArg (fun z => toV (vi z)) (hO.f_num)) ?_
      refine wp_icmp_geN 51 dX6_fillFirst_26 (by decide) (by omega) (by omega) (fun c_26 => ?_) (fun c_26 => absurd c_26 (by omega))
      refine wp_aload_n (i := 0) dX6_fillFirst_51 rfl rfl ?_
      refine wp_aload_n (i := 0) dX6_fillFirst_52 rfl rfl ?_
      refine wp_get 8 0 (vr (some (nm 50 u))) dX6_fillFirst_53 hO.k0 (by decide) (by decide) fl_X6_32 (congrArg (fun z => toV (vr z)) ((hO.o_src).trans rfl)) ?_
      refine wp_get 8 7 (vi (bI (KQ_brk y))) dX6_fillFirst_56 ((ce_k (hF (nm 50 u) (CQs_n (by omega) (by decide)))).trans hU.k0) (by decide) (by decide) fl_X6_25 (congrArg (fun z => toV (vi z)) ((congrFun (ce_I (hF (nm 50 u) (CQs_n (by omega) (by decide)))) 7).trans (hU.f_brk))) ?_
      refine wp_if_eqB 80 dX6_fillFirst_59 (by decide) (fun c_59 => ?_) (fun c_59 => ?_)
      · skip
        refine wp_iconst (nI 0) dX6_fillFirst_80 (by decide) ?_
        refine wp_putI 8 7 dX6_fillFirst_81 hO.k0 (by decide) (by decide) (by decide) fl_X6_25 rfl (fun _ _ => rfl) rfl rfl ?_
        have hO7 := hO.wbrk (v := false)
        have hF8 := hF.wI (b := nm 50 s) (k := 7) (x := bI (false)) (by unfold CQs nm; omega)
        refine wp_return dX6_fillFirst_84 rfl ?_
        refine hq _ ?_ hF8
        first | (rw [show (KQ_brk y && decide (tot E < m)) = true from by rw [c_59, decide_eq_true (by omega)]; rfl]; exact hO7) | (rw [show (KQ_brk y && decide (tot E < m)) = false from by first | (rw [c_59]; rfl) | (rw [decide_eq_false (by omega)]; exact Bool.and_false _)]; exact hO7)
      · skip
        refine wp_aload_n (i := 0) dX6_fillFirst_62 rfl rfl ?_
        refine wp_get 8 2 (vi (nI m)) dX6_fillFirst_63 hO.k0 (by decide) (by decide) fl_X6_40 (congrArg (fun z => toV (vi z)) (hO.f_num)) ?_
        refine wp_aload_n (i := 0) dX6_fillFirst_66 rfl rfl ?_
        refine wp_get 8 0 (vr (some (nm 50 u))) dX6_fillFirst_67 hO.k0 (by decide) (by decide) fl_X6_32 (congrArg (fun z => toV (vr z)) ((hO.o_src).trans rfl)) ?_
        refine wp_get 8 4 (vi (nI (tot E))) dX6_fillFirst_70 ((ce_k (hF (nm 50 u) (CQs_n (by omega) (by decide)))).trans hU.k0) (by decide) (by decide) fl_X6_15 (congrArg (fun z => toV (vi z)) ((congrFun (ce_I (hF (nm 50 u) (CQs_n (by omega) (by decide)))) 4).trans (hU.f_cnt.trans (congrArg nI hyc)))) ?_
        refine wp_icmp_leN 80 dX6_fillFirst_73 (by decide) (by omega) (by omega) (fun c_73 => ?_) (fun c_73 => ?_)
        · skip
          refine wp_iconst (nI 0) dX6_fillFirst_80 (by decide) ?_
          refine wp_putI 8 7 dX6_fillFirst_81 hO.k0 (by decide) (by decide) (by decide) fl_X6_25 rfl (fun _ _ => rfl) rfl rfl ?_
          have hO9 := hO.wbrk (v := false)
          have hF10 := hF.wI (b := nm 50 s) (k := 7) (x := bI (false)) (by unfold CQs nm; omega)
          refine wp_return dX6_fillFirst_84 rfl ?_
          refine hq _ ?_ hF10
          first | (rw [show (KQ_brk y && decide (tot E < m)) = true from by rw [c_59, decide_eq_true (by omega)]; rfl]; exact hO9) | (rw [show (KQ_brk y && decide (tot E < m)) = false from by first | (rw [c_59]; rfl) | (rw [decide_eq_false (by omega)]; exact Bool.and_false _)]; exact hO9)
        · skip
          refine wp_iconst (nI 1) dX6_fillFirst_76 (by decide) ?_
          refine wp_goto 81 dX6_fillFirst_77 (by decide) ?_
          refine wp_putI 8 7 dX6_fillFirst_81 hO.k0 (by decide) (by decide) (by decide) fl_X6_25 rfl (fun _ _ => rfl) rfl rfl ?_
          have hO11 := hO.wbrk (v := true)
          have hF12 := hF.wI (b := nm 50 s) (k := 7) (x := bI (true)) (by unfold CQs nm; omega)
          refine wp_return dX6_fillFirst_84 rfl ?_
          refine hq _ ?_ hF12
          first | (rw [show (KQ_brk y && decide (tot E < m)) = true from by rw [c_59, decide_eq_true (by omega)]; rfl]; exact hO11) | (rw [show (KQ_brk y && decide (tot E < m)) = false from by first | (rw [c_59]; rfl) | (rw [decide_eq_false (by omega)]; exact Bool.and_false _)]; exact hO11)
  | succ n ih =>
    intro i H hi hO hF
    have ht1 : tot ((List.range i).map (fun j => [atF E j])) = i := tk1_tot
    have hl1 : (((List.range i).map (fun j => [atF E j]))).length = i := by rw [List.length_map, List.length_range]
    refine wp_iload_n (i := 1) dX6_fillFirst_10 rfl rfl ?_
    refine wp_aload_n (i := 0) dX6_fillFirst_11 rfl rfl ?_
    refine wp_get 8 0 (vr (some (nm 50 u))) dX6_fillFirst_12 hO.k0 (by decide) (by decide) fl_X6_32 (congrArg (fun z => toV (vr z)) ((hO.o_src).trans rfl)) ?_
    refine wp_get 8 4 (vi (nI (tot E))) dX6_fillFirst_15 ((ce_k (hF (nm 50 u) (CQs_n (by omega) (by decide)))).trans hU.k0) (by decide) (by decide) fl_X6_15 (congrArg (fun z => toV (vi z)) ((congrFun (ce_I (hF (nm 50 u) (CQs_n (by omega) (by decide)))) 4).trans (hU.f_cnt.trans (congrArg nI hyc)))) ?_
    refine wp_icmp_geN 51 dX6_fillFirst_18 (by decide) (by omega) (by omega) (fun c_18 => absurd c_18 (by omega)) (fun c_18 => ?_)
    refine wp_iload_n (i := 1) dX6_fillFirst_21 rfl rfl ?_
    refine wp_aload_n (i := 0) dX6_fillFirst_22 rfl rfl ?_
    refine wp_get 8 2 (vi (nI m)) dX6_fillFirst_23 hO.k0 (by decide) (by decide) fl_X6_40 (congrArg (fun z => toV (vi z)) (hO.f_num)) ?_
    refine wp_icmp_geN 51 dX6_fillFirst_26 (by decide) (by omega) (by omega) (fun c_26 => absurd c_26 (by omega)) (fun c_26 => ?_)
    refine wp_aload_n (i := 0) dX6_fillFirst_29 rfl rfl ?_
    refine wp_aload_n (i := 0) dX6_fillFirst_30 rfl rfl ?_
    refine wp_get 8 0 (vr (some (nm 50 u))) dX6_fillFirst_31 hO.k0 (by decide) (by decide) fl_X6_32 (congrArg (fun z => toV (vr z)) ((hO.o_src).trans rfl)) ?_
    refine wp_iload_n (i := 1) dX6_fillFirst_34 rfl rfl ?_
    refine wp_cV (y' := m_X6_elementAt) 8 [vi (nI i)] [vr (some (nm 50 s))] 0 0 dX6_fillFirst_35 ml_X6_50 im_X6_elementAt se_X6_elementAt (by decide) ((ce_k (hF (nm 50 u) (CQs_n (by omega) (by decide)))).trans hU.k0) ok_X6_elementAt rfl (Nat.le_of_ble_eq_true rfl) rfl (Nat.le_of_ble_eq_true rfl) (d' := d - 1) (by omega) (Nat.zero_le _) (Nat.zero_le _) (c_X6_elementAt (hU.frm (hF _ (CQs_n (by omega) (by decide))) (hF _ (CQs_n (by omega) (by decide))) (hF _ (CQs_n (by omega) (by decide)))) (i := i) (by omega) (hye i) (cont_ret ?_))
    refine wp_cV (y' := m_X6_takeElement) 8 [vi (atF E i)] [] 0 0 dX6_fillFirst_38 ml_X6_43 im_X6_takeElement se_X6_takeElement (by decide) hO.k0 ok_X6_takeElement rfl (Nat.le_of_ble_eq_true rfl) rfl (Nat.le_of_ble_eq_true rfl) (d' := d - 1) (by omega) (Nat.zero_le _) (Nat.zero_le _) (c_X6_takeX hO (by rw [ht1]; show i + 0 < 24; omega) (fun h_hO1 hO1 F_hO1 => cont_void ?_))
    have hF2 := hF.tr F_hO1
    refine wp_aload_n (i := 0) dX6_fillFirst_41 rfl rfl ?_
    refine wp_cV (y' := m_X6_closeChunk) 8 [] [] 0 0 dX6_fillFirst_42 ml_X6_47 im_X6_closeChunk se_X6_closeChunk (by decide) hO1.k0 ok_X6_closeChunk rfl (Nat.le_of_ble_eq_true rfl) rfl (Nat.le_of_ble_eq_true rfl) (d' := d - 1) (by omega) (Nat.zero_le _) (Nat.zero_le _) (c_X6_closeX hO1 (by rw [hl1]; omega) (fun h_hO3 hO3 F_hO3 => cont_void ?_))
    have hF4 := hF2.tr F_hO3
    refine wp_iincN (a := i) (lv' := [(1, vi (nI (i + 1))), (0, vr (some (nm 50 s)))]) 1 dX6_fillFirst_45 rfl (by decide) (by decide) rfl ?_
    refine wp_goto 10 dX6_fillFirst_48 (by decide) ?_
    refine wp_sub [(1, vi (nI (i + 1))), (0, vr (some (nm 50 s)))] (sb_cons (.head _) (sb_cons (.tail _ (.head _)) sb_nil)) ?_
    have hO9 := hO3
    rw [List.nil_append, tk1_s] at hO9
    exact ih (i + 1) _ (by omega) hO9 hF4
set_option maxRecDepth 100000 in
set_option maxHeartbeats 4000000 in
theorem c_X6_fillFirst {G : GG} {d bc bs : Nat} {h : Hp} {Q : Pst} {s u m : Nat} {y : KQS} {E : List (List Int32)} (hy : KF y E) (hus : u ≠ s) (hm : m ≤ 99) (hd : 1 ≤ d) (hU : KQ h u y) (hO : KQ h s (ksx (some (nm 50 u)) (nI 116) (nI m) [] [] false 0)) (hq : ∀ h', KQ h' s (ksx (some (nm 50 u)) (nI 116) (nI m) (tkF E m) [] (KQ_brk y && decide (tot E < m)) 0) → Fr h h' (CQs s) → Q oVoid h') : WP G m_X6_fillFirst d 0 (aargs 0 [vr (some (nm 50 s))]) [] h bc bs Q := by
  have hF : Fr h h (CQs s) := Fr.rf
  refine wp_sub [(0, vr (some (nm 50 s)))] (fun _ hz => hz) ?_
  refine wp_aload_n (i := 0) dX6_fillFirst_0 rfl rfl ?_
  refine wp_get 8 0 (vr (some (nm 50 u))) dX6_fillFirst_1 hO.k0 (by decide) (by decide) fl_X6_32 (congrArg (fun z => toV (vr z)) ((hO.o_src).trans rfl)) ?_
  refine wp_ifnonnull 8 dX6_fillFirst_4 (by decide) (fun a_4 c_4 => ?_) (fun c_4 => absurd c_4 (fun z => nomatch z))
  refine wp_iconst (nI 0) dX6_fillFirst_8 (by decide) ?_
  refine wp_istore_n (i := 1) (lv' := [(1, vi (nI 0)), (0, vr (some (nm 50 s)))]) dX6_fillFirst_9 rfl (by decide) rfl ?_
  refine wp_sub [(1, vi (nI 0)), (0, vr (some (nm 50 s)))] (sb_cons (.head _) (sb_cons (.tail _ (.head _)) sb_nil)) ?_
  exact l_X6_fillFirst hy hus hm hd hU hq (min m (tot E)) 0 _ (by omega) hO hF
