/-! The model: read, valueByLog. -/
theorem MR.it {h h' : Hp} {S : RS} {K : Nat} (H : MR h S) (hc : ∀ b, b ≠ nm 30 K → ce h' b = ce h b) : MR h' S :=
  H.all (MK.of (fun i _ => hc _ (nm_ne (by decide) (by decide) (by decide)))) (by rw [ce_I (hc _ (nm_ne (by decide) (by decide) (by decide)))]) (by rw [ce_I (hc _ (nm_ne (by decide) (by decide) (by decide)))]) (hc 0 (by unfold nm; omega)) (fun k _ => hc _ (nm_ne (by decide) (by decide) (by decide))) (hc _ (nm_ne (by decide) (by decide) (by decide))) (hc _ (nm_ne (by decide) (by decide) (by decide))) (hc _ (nm_ne (by decide) (by decide) (by decide))) (fun r i h1 h2 => hc _ (nm_ne (by omega) (by omega) (by decide))) (fun r i h1 h2 _ => hc _ (nm_ne (by omega) (by omega) (by decide)))
theorem FRR.it {h h' : Hp} {K : Nat} (hc : ∀ b, b ≠ nm 30 K → ce h' b = ce h b) : FRR h h' :=
  FRR.fr (W := fun b => b = nm 30 K) (fun a ha => hc a ha) (fun a ha => by rw [ha]; unfold WRR nm; omega) (by unfold nm; omega) (fun k => by unfold nm; omega)
/-- the pools, while the K-th iterator goes *)-/
def PI (h : Hp) (K : Nat) : Prop := (∃ K2, FreeI h 22 K2) ∧ FreeI h 30 (K + 1)
theorem PI.of {h h' : Hp} {K : Nat} (H : PO2 h) (hK : FreeI h 30 K) (hc : ∀ b, b ≠ nm 30 K → ce h' b = ce h b) : PI h' K :=
  ⟨H.1.elim fun K2 z => ⟨K2, z.fr (fun _ _ => hc _ (nm_ne (by decide) (by decide) (by decide)))⟩, fun i hi => (ce_k (hc _ (nm_nei (by omega)))).trans (hK i (by omega))⟩
theorem PI.it {h h' : Hp} {K : Nat} (H : PI h K) (hc : ∀ b, b ≠ nm 30 K → ce h' b = ce h b) : PI h' K :=
  ⟨H.1.elim fun K2 z => ⟨K2, z.fr (fun _ _ => hc _ (nm_ne (by decide) (by decide) (by decide)))⟩, fun i hi => (ce_k (hc _ (nm_nei (by omega)))).trans (H.2 i hi)⟩
theorem PI.po {h : Hp} {K : Nat} (H : PI h K) : PO2 h := ⟨H.1, _, H.2⟩
theorem th_it {h h' : Hp} {K : Nat} (hc : ∀ b, b ≠ nm 30 K → ce h' b = ce h b) : h_I h' (nm 1 0) 0 = h_I h (nm 1 0) 0 := by rw [ce_I (hc _ (nm_ne (by decide) (by decide) (by decide)))]
/-- the newest value that a point may read: whether there is one, and it -/
def rdF (pt : Nat) : List (Nat × Int32) → Bool × Int32 → Bool × Int32
  | [], a => a
  | q :: l, a => rdF pt l (if q.1 ≤ pt then (true, q.2) else a)
theorem getD_cons {α : Type} {l : List α} {c : Nat} (hc : c < l.length) (z : α) : l.drop c = l.getD c z :: l.drop (c + 1) := by
  rw [List.drop_eq_getElem_cons hc]
  congr 1
  simp [List.getD, List.getElem?_eq_getElem hc]
theorem getD_mem {α : Type} {l : List α} {c : Nat} (hc : c < l.length) (z : α) : l.getD c z ∈ l := by
  have : l.getD c z = l[c] := by simp [List.getD, List.getElem?_eq_getElem hc]
  rw [this]; exact List.getElem_mem hc
theorem rdF_step {pt c : Nat} {l : List (Nat × Int32)} {a : Bool × Int32} (hc : c < l.length) : rdF pt (l.drop c) a = rdF pt (l.drop (c + 1)) (if (l.getD c (0, 0)).1 ≤ pt then (true, (l.getD c (0, 0)).2) else a) := by
  rw [getD_cons hc (0, 0)]; rfl
def vbF (r : Nat) : List (Nat × Nat × Int32 × Int32) → Int32 → Int32
  | [], z => z
  | q :: l, z => vbF r l (if q.2.1 = r then q.2.2.2 else z)
theorem vbF_step {r c : Nat} {l : List (Nat × Nat × Int32 × Int32)} {z : Int32} (hc : c < l.length) : vbF r (l.drop c) z = vbF r (l.drop (c + 1)) (if (l.getD c (0, 0, 0, 0)).2.1 = r then (l.getD c (0, 0, 0, 0)).2.2.2 else z) := by
  rw [getD_cons hc (0, 0, 0, 0)]; rfl
def o_read (S : RS) (v : Int32) (t : Nat) (u : Int32) (r : Nat) : Int32 × Int32 × RS :=
  if (!ixB v 3) = true then (nI 1, nI 0, S) else if (!ixB u (RS_rn S)) = true then (nI 2, nI 0, S) else if (!OT_op (RS_tt S t)) = true then (nI 3, nI 0, S)
  else if OT_wr (RS_tt S t) r = true then (nI 0, OT_wn (RS_tt S t) r, S)
  else if (rdF (OT_pt (RS_tt S t)) (OR_hs (RS_rr S r)) (false, nI 0)).1 = true then (nI 0, (rdF (OT_pt (RS_tt S t)) (OR_hs (RS_rr S r)) (false, nI 0)).2 + OT_sm (RS_tt S t) r, S)
  else (nI 0, (-10000), RS_utt1 (RS_urr1 S r (OR_ulim (RS_rr S r) (OR_lim (RS_rr S r) + if OR_lim (RS_rr S r) < 8 then 1 else 0))) t (sbk (RS_tt S t) (RS_mo S)))
def o_valueByLog (S : RS) (u : Int32) (r : Nat) : Int32 × Int32 × RS :=
  if (!ixB u (RS_rn S)) = true then (nI 1, nI 0, S) else (nI 0, vbF r (RS_lg S) (OR_fst (RS_rr S r)), S)
set_option maxRecDepth 100000 in
set_option maxHeartbeats 4000000 in
theorem l_X16_read {G : GG} {d bc bs : Nat} {Q : Pst} {h0 : Hp} {S : RS} {n t r K : Nat} (hB : RB n S) (ht : t < 3) (hr : r < RS_rn S) (hd : 7 ≤ d) : ∀ m c H b z, c + m = (OR_hs (RS_rr S r)).length → MR H S → FRR h0 H → PI H K → h_I H (nm 1 0) 0 = nI 0 → IT H (nm 30 K) (nm 5 r) c → (∀ H', MR H' S → FRR h0 H' → PI H' K → h_I H' (nm 1 0) 0 = nI 0 → WP G m_X16_read d 138 [(7, vr (some (nm 30 K))), (6, vi (rdF (OT_pt (RS_tt S t)) ((OR_hs (RS_rr S r)).drop c) (b, z)).2), (5, vi (bI (rdF (OT_pt (RS_tt S t)) ((OR_hs (RS_rr S r)).drop c) (b, z)).1)), (4, vr (some (nm 4 r))), (3, vr (some (nm 6 t))), (0, vr (some (nm 1 0))), (1, vi (nI t)), (2, vi (nI r))] [] H' bc bs Q) → WP G m_X16_read d 68 [(7, vr (some (nm 30 K))), (6, vi z), (5, vi (bI b)), (4, vr (some (nm 4 r))), (3, vr (some (nm 6 t))), (0, vr (some (nm 1 0))), (1, vi (nI t)), (2, vi (nI r))] [] H bc bs Q := by
  have hb1 := hB.2.2.1 r hr
  have hb2 := hB.2.1 t ht
  have hbb := hB.1
  intro m
  induction m with
  | zero =>
    intro c H b z hc hR hG hPi h0' I hK
    have hc : c = (OR_hs (RS_rr S r)).length := hc
    have hz : rdF (OT_pt (RS_tt S t)) ((OR_hs (RS_rr S r)).drop c) (b, z) = (b, z) := by rw [hc, List.drop_length]; rfl
    rw [hz] at hK
    refine wp_aload (i := 7) dX16_read_68 rfl ?_
    refine wp_cF (y' := m_Jx35411_hasNext_aae02) [] [] 0 0 dX16_read_70 ml_X16_293 sx_java_util_ArrayList_Itr_Jx35411_hasNext_aae02 im_Jx35411_hasNext_aae02 fw_0 ⟨by decide, by decide, by decide⟩ I.1 ok_Jx35411_hasNext_aae02 rfl (Nat.le_of_ble_eq_true rfl) rfl (Nat.le_of_ble_eq_true rfl) (d' := d - 1) (by omega) (Nat.zero_le _) (Nat.zero_le _) (c_LP_hasNext (hR.r hr).L6 I (by rw [L2_len]; omega) (cont_ret ?_))
    rw [L2_len]
    refine wp_if_eqB 138 dX16_read_75 (by decide) (fun c_75 => ?_) (fun c_75 => absurd c_75 (fun z => absurd (of_decide_eq_true z) (by omega)))
    exact hK H hR hG hPi h0'
  | succ m ih =>
    intro c H b z hc hR hG hPi h0' I hK
    have hcl : c < (OR_hs (RS_rr S r)).length := by omega
    have hq1 := hb1.2.2.2 _ (getD_mem hcl (0, 0))
    rw [rdF_step hcl] at hK
    refine wp_aload (i := 7) dX16_read_68 rfl ?_
    refine wp_cF (y' := m_Jx35411_hasNext_aae02) [] [] 0 0 dX16_read_70 ml_X16_293 sx_java_util_ArrayList_Itr_Jx35411_hasNext_aae02 im_Jx35411_hasNext_aae02 fw_0 ⟨by decide, by decide, by decide⟩ I.1 ok_Jx35411_hasNext_aae02 rfl (Nat.le_of_ble_eq_true rfl) rfl (Nat.le_of_ble_eq_true rfl) (d' := d - 1) (by omega) (Nat.zero_le _) (Nat.zero_le _) (c_LP_hasNext (hR.r hr).L6 I (by rw [L2_len]; omega) (cont_ret ?_))
    rw [L2_len]
    refine wp_if_eqB 138 dX16_read_75 (by decide) (fun c_75 => absurd c_75 (fun z => absurd (of_decide_eq_false z) (by omega))) (fun c_75 => ?_)
    refine wp_aload (i := 7) dX16_read_78 rfl ?_
    refine wp_cF (y' := m_Jx35411_next_0502b) [] [] 0 0 dX16_read_80 ml_X16_298 sx_java_util_ArrayList_Itr_Jx35411_next_0502b im_Jx35411_next_0502b fw_1 ⟨by decide, by decide, by decide⟩ I.1 ok_Jx35411_next_0502b rfl (Nat.le_of_ble_eq_true rfl) rfl (Nat.le_of_ble_eq_true rfl) (d' := d - 1) (by omega) (Nat.zero_le _) (Nat.zero_le _) (c_LP_next (hR.r hr).L6 I (by rw [L2_len]; omega) (kq := K) rfl (by decide) (by decide) (by omega) (fun h1 ra2 E3 hL4 I5 C6 => cont_ret ?_))
    rw [L2_get] at E3
    have hR7 := hR.it C6
    have hG8 := hG.tr (FRR.it C6)
    have hPi9 := hPi.it C6
    refine wp_castA .int dX16_read_85 (by decide) kl_X16_221 (fun a ha => by cases ha; exact arTy_101 E3.2.1) ?_
    refine wp_astore (i := 8) (lv' := [(8, vr (some ra2)), (7, vr (some (nm 30 K))), (6, vi z), (5, vi (bI b)), (4, vr (some (nm 4 r))), (3, vr (some (nm 6 t))), (0, vr (some (nm 1 0))), (1, vi (nI t)), (2, vi (nI r))]) dX16_read_88 (by decide) rfl ?_
    refine wp_iload (i := 5) dX16_read_90 rfl ?_
    refine wp_if_neB 106 dX16_read_92 (by decide) (fun c_92 => ?_) (fun c_92 => ?_)
    · subst c_92
      refine wp_iconst (nI 1) dX16_read_106 (by decide) ?_
      refine wp_goto 111 dX16_read_107 (by decide) ?_
      refine wp_istore (i := 5) (lv' := [(5, vi (nI 1)), (8, vr (some ra2)), (7, vr (some (nm 30 K))), (6, vi z), (4, vr (some (nm 4 r))), (3, vr (some (nm 6 t))), (0, vr (some (nm 1 0))), (1, vi (nI t)), (2, vi (nI r))]) dX16_read_111 (by decide) rfl ?_
      refine wp_aload (i := 8) dX16_read_113 rfl ?_
      refine wp_iconst (nI 0) dX16_read_115 (by decide) ?_
      refine wp_ialoadN 2 (nI ((OR_hs (RS_rr S r)).getD c (0, 0)).1) dX16_read_116 E3.2.1 E3.2.2.1 (by decide) (by decide) (E3.2.2.2 0 (Nat.le_of_ble_eq_true rfl)) ?_
      refine wp_aload_n (i := 3) dX16_read_117 rfl rfl ?_
      refine wp_get 16 1 (vi (nI (OT_pt (RS_tt S t)))) dX16_read_118 (hR7.t (by omega)).k0 (by decide) (by decide) fl_X16_256 (congrArg (fun z => toV (vi z)) ((hR7.t (by omega)).f_pt)) ?_
      refine wp_icmp_gtN 131 dX16_read_121 (by decide) (by omega) (by omega) (fun c_121 => ?_) (fun c_121 => ?_)
      · skip
        refine wp_iload (i := 6) dX16_read_131 rfl ?_
        refine wp_istore (i := 6) (lv' := [(6, vi z), (5, vi (nI 1)), (8, vr (some ra2)), (7, vr (some (nm 30 K))), (4, vr (some (nm 4 r))), (3, vr (some (nm 6 t))), (0, vr (some (nm 1 0))), (1, vi (nI t)), (2, vi (nI r))]) dX16_read_133 (by decide) rfl ?_
        refine wp_goto 68 dX16_read_135 (by decide) ?_
        rw [if_neg (by omega)] at hK
        refine wp_sub [(7, vr (some (nm 30 K))), (6, vi z), (5, vi (nI 1)), (4, vr (some (nm 4 r))), (3, vr (some (nm 6 t))), (0, vr (some (nm 1 0))), (1, vi (nI t)), (2, vi (nI r))] (sb_cons (.tail _ (.tail _ (.tail _ (.head _)))) (sb_cons (.head _) (sb_cons (.tail _ (.head _)) (sb_cons (.tail _ (.tail _ (.tail _ (.tail _ (.head _))))) (sb_cons (.tail _ (.tail _ (.tail _ (.tail _ (.tail _ (.head _)))))) (sb_cons (.tail _ (.tail _ (.tail _ (.tail _ (.tail _ (.tail _ (.head _))))))) (sb_cons (.tail _ (.tail _ (.tail _ (.tail _ (.tail _ (.tail _ (.tail _ (.head _)))))))) (sb_cons (.tail _ (.tail _ (.tail _ (.tail _ (.tail _ (.tail _ (.tail _ (.tail _ (.head _))))))))) sb_nil)))))))) ?_
        exact ih (c + 1) _ true _ (by omega) hR7 hG8 hPi9 ((th_it C6).trans h0') I5 hK
      · skip
        refine wp_aload (i := 8) dX16_read_124 rfl ?_
        refine wp_iconst (nI 1) dX16_read_126 (by decide) ?_
        refine wp_ialoadN 2 (((OR_hs (RS_rr S r)).getD c (0, 0)).2) dX16_read_127 E3.2.1 E3.2.2.1 (by decide) (by decide) (E3.2.2.2 1 (Nat.le_of_ble_eq_true rfl)) ?_
        refine wp_goto 133 dX16_read_128 (by decide) ?_
        refine wp_topi (fun x_133 e_133 => ?_)
        refine wp_istore (i := 6) (lv' := [(6, vi x_133), (5, vi (nI 1)), (8, vr (some ra2)), (7, vr (some (nm 30 K))), (4, vr (some (nm 4 r))), (3, vr (some (nm 6 t))), (0, vr (some (nm 1 0))), (1, vi (nI t)), (2, vi (nI r))]) dX16_read_133 (by decide) rfl ?_
        refine wp_goto 68 dX16_read_135 (by decide) ?_
        rw [if_pos c_121] at hK
        refine wp_sub [(7, vr (some (nm 30 K))), (6, vi x_133), (5, vi (nI 1)), (4, vr (some (nm 4 r))), (3, vr (some (nm 6 t))), (0, vr (some (nm 1 0))), (1, vi (nI t)), (2, vi (nI r))] (sb_cons (.tail _ (.tail _ (.tail _ (.head _)))) (sb_cons (.head _) (sb_cons (.tail _ (.head _)) (sb_cons (.tail _ (.tail _ (.tail _ (.tail _ (.head _))))) (sb_cons (.tail _ (.tail _ (.tail _ (.tail _ (.tail _ (.head _)))))) (sb_cons (.tail _ (.tail _ (.tail _ (.tail _ (.tail _ (.tail _ (.head _))))))) (sb_cons (.tail _ (.tail _ (.tail _ (.tail _ (.tail _ (.tail _ (.tail _ (.head _)))))))) (sb_cons (.tail _ (.tail _ (.tail _ (.tail _ (.tail _ (.tail _ (.tail _ (.tail _ (.head _))))))))) sb_nil)))))))) ?_
        subst e_133
        exact ih (c + 1) _ true _ (by omega) hR7 hG8 hPi9 ((th_it C6).trans h0') I5 hK
    · subst c_92
      refine wp_aload (i := 8) dX16_read_95 rfl ?_
      refine wp_iconst (nI 0) dX16_read_97 (by decide) ?_
      refine wp_ialoadN 2 (nI ((OR_hs (RS_rr S r)).getD c (0, 0)).1) dX16_read_98 E3.2.1 E3.2.2.1 (by decide) (by decide) (E3.2.2.2 0 (Nat.le_of_ble_eq_true rfl)) ?_
      refine wp_aload_n (i := 3) dX16_read_99 rfl rfl ?_
      refine wp_get 16 1 (vi (nI (OT_pt (RS_tt S t)))) dX16_read_100 (hR7.t (by omega)).k0 (by decide) (by decide) fl_X16_256 (congrArg (fun z => toV (vi z)) ((hR7.t (by omega)).f_pt)) ?_
      refine wp_icmp_gtN 110 dX16_read_103 (by decide) (by omega) (by omega) (fun c_103 => ?_) (fun c_103 => ?_)
      · skip
        refine wp_iconst (nI 0) dX16_read_110 (by decide) ?_
        refine wp_istore (i := 5) (lv' := [(5, vi (nI 0)), (8, vr (some ra2)), (7, vr (some (nm 30 K))), (6, vi z), (4, vr (some (nm 4 r))), (3, vr (some (nm 6 t))), (0, vr (some (nm 1 0))), (1, vi (nI t)), (2, vi (nI r))]) dX16_read_111 (by decide) rfl ?_
        refine wp_aload (i := 8) dX16_read_113 rfl ?_
        refine wp_iconst (nI 0) dX16_read_115 (by decide) ?_
        refine wp_ialoadN 2 (nI ((OR_hs (RS_rr S r)).getD c (0, 0)).1) dX16_read_116 E3.2.1 E3.2.2.1 (by decide) (by decide) (E3.2.2.2 0 (Nat.le_of_ble_eq_true rfl)) ?_
        refine wp_aload_n (i := 3) dX16_read_117 rfl rfl ?_
        refine wp_get 16 1 (vi (nI (OT_pt (RS_tt S t)))) dX16_read_118 (hR7.t (by omega)).k0 (by decide) (by decide) fl_X16_256 (congrArg (fun z => toV (vi z)) ((hR7.t (by omega)).f_pt)) ?_
        refine wp_icmp_gtN 131 dX16_read_121 (by decide) (by omega) (by omega) (fun c_121 => ?_) (fun c_121 => absurd c_121 (by omega))
        refine wp_iload (i := 6) dX16_read_131 rfl ?_
        refine wp_istore (i := 6) (lv' := [(6, vi z), (5, vi (nI 0)), (8, vr (some ra2)), (7, vr (some (nm 30 K))), (4, vr (some (nm 4 r))), (3, vr (some (nm 6 t))), (0, vr (some (nm 1 0))), (1, vi (nI t)), (2, vi (nI r))]) dX16_read_133 (by decide) rfl ?_
        refine wp_goto 68 dX16_read_135 (by decide) ?_
        rw [if_neg (by omega)] at hK
        refine wp_sub [(7, vr (some (nm 30 K))), (6, vi z), (5, vi (nI 0)), (4, vr (some (nm 4 r))), (3, vr (some (nm 6 t))), (0, vr (some (nm 1 0))), (1, vi (nI t)), (2, vi (nI r))] (sb_cons (.tail _ (.tail _ (.tail _ (.head _)))) (sb_cons (.head _) (sb_cons (.tail _ (.head _)) (sb_cons (.tail _ (.tail _ (.tail _ (.tail _ (.head _))))) (sb_cons (.tail _ (.tail _ (.tail _ (.tail _ (.tail _ (.head _)))))) (sb_cons (.tail _ (.tail _ (.tail _ (.tail _ (.tail _ (.tail _ (.head _))))))) (sb_cons (.tail _ (.tail _ (.tail _ (.tail _ (.tail _ (.tail _ (.tail _ (.head _)))))))) (sb_cons (.tail _ (.tail _ (.tail _ (.tail _ (.tail _ (.tail _ (.tail _ (.tail _ (.head _))))))))) sb_nil)))))))) ?_
        exact ih (c + 1) _ false _ (by omega) hR7 hG8 hPi9 ((th_it C6).trans h0') I5 hK
      · skip
        refine wp_iconst (nI 1) dX16_read_106 (by decide) ?_
        refine wp_goto 111 dX16_read_107 (by decide) ?_
        refine wp_istore (i := 5) (lv' := [(5, vi (nI 1)), (8, vr (some ra2)), (7, vr (some (nm 30 K))), (6, vi z), (4, vr (some (nm 4 r))), (3, vr (some (nm 6 t))), (0, vr (some (nm 1 0))), (1, vi (nI t)), (2, vi (nI r))]) dX16_read_111 (by decide) rfl ?_
        refine wp_aload (i := 8) dX16_read_113 rfl ?_
        refine wp_iconst (nI 0) dX16_read_115 (by decide) ?_
        refine wp_ialoadN 2 (nI ((OR_hs (RS_rr S r)).getD c (0, 0)).1) dX16_read_116 E3.2.1 E3.2.2.1 (by decide) (by decide) (E3.2.2.2 0 (Nat.le_of_ble_eq_true rfl)) ?_
        refine wp_aload_n (i := 3) dX16_read_117 rfl rfl ?_
        refine wp_get 16 1 (vi (nI (OT_pt (RS_tt S t)))) dX16_read_118 (hR7.t (by omega)).k0 (by decide) (by decide) fl_X16_256 (congrArg (fun z => toV (vi z)) ((hR7.t (by omega)).f_pt)) ?_
        refine wp_icmp_gtN 131 dX16_read_121 (by decide) (by omega) (by omega) (fun c_121 => absurd c_121 (by omega)) (fun c_121 => ?_)
        refine wp_aload (i := 8) dX16_read_124 rfl ?_
        refine wp_iconst (nI 1) dX16_read_126 (by decide) ?_
        refine wp_ialoadN 2 (((OR_hs (RS_rr S r)).getD c (0, 0)).2) dX16_read_127 E3.2.1 E3.2.2.1 (by decide) (by decide) (E3.2.2.2 1 (Nat.le_of_ble_eq_true rfl)) ?_
        refine wp_goto 133 dX16_read_128 (by decide) ?_
        refine wp_topi (fun x_133 e_133 => ?_)
        refine wp_istore (i := 6) (lv' := [(6, vi x_133), (5, vi (nI 1)), (8, vr (some ra2)), (7, vr (some (nm 30 K))), (4, vr (some (nm 4 r))), (3, vr (some (nm 6 t))), (0, vr (some (nm 1 0))), (1, vi (nI t)), (2, vi (nI r))]) dX16_read_133 (by decide) rfl ?_
        refine wp_goto 68 dX16_read_135 (by decide) ?_
        rw [if_pos c_103] at hK
        refine wp_sub [(7, vr (some (nm 30 K))), (6, vi x_133), (5, vi (nI 1)), (4, vr (some (nm 4 r))), (3, vr (some (nm 6 t))), (0, vr (some (nm 1 0))), (1, vi (nI t)), (2, vi (nI r))] (sb_cons (.tail _ (.tail _ (.tail _ (.head _)))) (sb_cons (.head _) (sb_cons (.tail _ (.head _)) (sb_cons (.tail _ (.tail _ (.tail _ (.tail _ (.head _))))) (sb_cons (.tail _ (.tail _ (.tail _ (.tail _ (.tail _ (.head _)))))) (sb_cons (.tail _ (.tail _ (.tail _ (.tail _ (.tail _ (.tail _ (.head _))))))) (sb_cons (.tail _ (.tail _ (.tail _ (.tail _ (.tail _ (.tail _ (.tail _ (.head _)))))))) (sb_cons (.tail _ (.tail _ (.tail _ (.tail _ (.tail _ (.tail _ (.tail _ (.tail _ (.head _))))))))) sb_nil)))))))) ?_
        subst e_133
        exact ih (c + 1) _ true _ (by omega) hR7 hG8 hPi9 ((th_it C6).trans h0') I5 hK
set_option maxRecDepth 100000 in
set_option maxHeartbeats 4000000 in
theorem c_X16_read {G : GG} {d bc bs : Nat} {h : Hp} {Q : Pst} {S : RS} (hR : MR h S) {n : Nat} (hB : RB n S) (hP : PO2 h) {v : Int32} {t : Nat} (hv : ixB v 3 = true → v = nI t ∧ t < 3) {u : Int32} {r : Nat} (hu : ixB u (RS_rn S) = true → u = nI r ∧ r < RS_rn S) (hbc : 1 ≤ bc) (hbs : 4 ≤ bs) (hd : 7 ≤ d) (hq : RO Q h (o_read S v t u r)) : WP G m_X16_read d 0 (aargs 0 [vr (some (nm 1 0)), vi v, vi u]) [] h bc bs Q := by
  refine wp_sub [(0, vr (some (nm 1 0))), (1, vi v), (2, vi u)] (fun _ hz => hz) ?_
  have hG := FRR.rf (h := h)
  have hB16 := hB.h16
  have hbb := hB.1
  refine wp_aload_n (i := 0) dX16_read_0 rfl rfl ?_
  refine wp_iconst (nI 0) dX16_read_1 (by decide) ?_
  refine wp_putI 17 0 dX16_read_2 hR.mk (by decide) (by decide) (by decide) fl_X16_63 rfl (fun _ _ => rfl) rfl rfl ?_
  have hR1 := hR.w0 (x := (nI 0))
  have hG2 := hG.tr (FRR.w0 (x := (nI 0)))
  have hP3 := PO2.m (a := nm 1 0) (k := 0) (x := (nI 0)) hP
  refine wp_aload_n (i := 0) dX16_read_5 rfl rfl ?_
  refine wp_iload_n (i := 1) dX16_read_6 rfl rfl ?_
  refine wp_iload_n (i := 2) dX16_read_7 rfl rfl ?_
  refine wp_cV (y' := m_X16_cannot) 17 [vi v, vi u] [] 0 0 dX16_read_8 ml_X16_277 im_X16_cannot se_X16_cannot (by decide) hR1.mk ok_X16_cannot rfl (Nat.le_of_ble_eq_true rfl) rfl (Nat.le_of_ble_eq_true rfl) (d' := d - 1) (by omega) (Nat.zero_le _) (Nat.zero_le _) (c_X16_cannot hR1 hP3 wI_ss hv hu (by omega) (fun g_1 => cont_ret ?_) (fun g_1 g_2 => cont_ret ?_) (fun g_1 g_2 g_3 => cont_ret ?_) (fun g_1 g_2 g_3 => cont_ret ?_))
  · have hR4 := hR1.w0 (x := nI 1)
    have hG5 := hG2.tr (FRR.w0 (x := nI 1))
    have hP6 := PO2.m (a := nm 1 0) (k := 0) (x := nI 1) hP3
    refine wp_if_eqN 16 dX16_read_11 (by decide) (by decide) (fun c_11 => absurd c_11 (by decide)) (fun c_11 => ?_)
    refine wp_iconst (nI 0) dX16_read_14 (by decide) ?_
    refine wp_ireturn dX16_read_15 rfl ?_
    rw [show o_read S v t u r = (nI 1, nI 0, S) from by unfold o_read; rw [if_pos g_1]] at hq
    exact hq _ hG5 wI_ss hR4 hP6
  · obtain ⟨ev, ht⟩ := hv (nt_g g_1)
    subst ev
    have hR7 := hR1.w0 (x := nI 2)
    have hG8 := hG2.tr (FRR.w0 (x := nI 2))
    have hP9 := PO2.m (a := nm 1 0) (k := 0) (x := nI 2) hP3
    refine wp_if_eqN 16 dX16_read_11 (by decide) (by decide) (fun c_11 => absurd c_11 (by decide)) (fun c_11 => ?_)
    refine wp_iconst (nI 0) dX16_read_14 (by decide) ?_
    refine wp_ireturn dX16_read_15 rfl ?_
    rw [show o_read S (nI t) t u r = (nI 2, nI 0, S) from by unfold o_read; rw [if_neg g_1, if_pos g_2]] at hq
    exact hq _ hG8 wI_ss hR7 hP9
  · obtain ⟨ev, ht⟩ := hv (nt_g g_1)
    subst ev
    obtain ⟨eu, hr⟩ := hu (nt_g g_2)
    subst eu
    have hR10 := hR1.w0 (x := nI 3)
    have hG11 := hG2.tr (FRR.w0 (x := nI 3))
    have hP12 := PO2.m (a := nm 1 0) (k := 0) (x := nI 3) hP3
    refine wp_if_eqN 16 dX16_read_11 (by decide) (by decide) (fun c_11 => absurd c_11 (by decide)) (fun c_11 => ?_)
    refine wp_iconst (nI 0) dX16_read_14 (by decide) ?_
    refine wp_ireturn dX16_read_15 rfl ?_
    rw [show o_read S (nI t) t (nI r) r = (nI 3, nI 0, S) from by unfold o_read; rw [if_neg g_1, if_neg g_2, if_pos g_3]] at hq
    exact hq _ hG11 wI_ss hR10 hP12
  · obtain ⟨ev, ht⟩ := hv (nt_g g_1)
    subst ev
    obtain ⟨eu, hr⟩ := hu (nt_g g_2)
    subst eu
    refine wp_if_eqN 16 dX16_read_11 (by decide) (by decide) (fun c_11 => ?_) (fun c_11 => absurd c_11 (by decide))
    have hr6 : r < 6 := by have := hB.1.2.1; omega
    have hb1 := hB.2.2.1 r hr
    have hb2 := hB.2.1 t ht
    obtain ⟨⟨K2, hK2⟩, K, hK⟩ := id hP
    refine wp_aload_n (i := 0) dX16_read_16 rfl rfl ?_
    refine wp_get 17 17 (vr (some (nm 1 17))) dX16_read_17 hR1.mk (by decide) (by decide) fl_X16_56 (congrArg (fun z => toV (vr z)) (hR1.ref 17 (by decide) (by decide) (by decide) (by decide))) ?_
    refine wp_iload_n (i := 1) dX16_read_20 rfl rfl ?_
    refine wp_aaloadN 3 (some (nm 6 t)) dX16_read_21 (arTy_117 hR1.k17) hR1.tn (by omega) (by decide) (hR1.tr (by omega)) ?_
    refine wp_astore_n (i := 3) (lv' := [(3, vr (some (nm 6 t))), (0, vr (some (nm 1 0))), (1, vi (nI t)), (2, vi (nI r))]) dX16_read_22 rfl (by decide) rfl ?_
    refine wp_aload_n (i := 3) dX16_read_23 rfl rfl ?_
    refine wp_get 16 4 (vr (some (nm 7 t))) dX16_read_24 (hR1.t (by omega)).k0 (by decide) (by decide) fl_X16_280 (congrArg (fun z => toV (vr z)) ((hR1.t (by omega)).r5_4)) ?_
    refine wp_iload_n (i := 2) dX16_read_27 rfl rfl ?_
    refine wp_zaloadN 6 (bI (OT_wr (RS_tt S t) r)) dX16_read_28 (hR1.t (by omega)).k11 (hR1.t (by omega)).n11 (by omega) (by decide) ((hR1.t (by omega)).a_wr r) ?_
    refine wp_if_eqB 39 dX16_read_29 (by decide) (fun c_29 => ?_) (fun c_29 => ?_)
    · skip
      refine wp_aload_n (i := 0) dX16_read_39 rfl rfl ?_
      refine wp_get 17 13 (vr (some (nm 1 13))) dX16_read_40 hR1.mk (by decide) (by decide) fl_X16_47 (congrArg (fun z => toV (vr z)) (hR1.ref 13 (by decide) (by decide) (by decide) (by decide))) ?_
      refine wp_iload_n (i := 2) dX16_read_43 rfl rfl ?_
      refine wp_cV (y' := m_Jx4a65c_get_915e3) 2 [vi (nI r)] [] 0 0 dX16_read_44 ml_X16_201 im_Jx4a65c_get_915e3 se_Jx4a65c_get_915e3 (by decide) hR1.rl.k ok_Jx4a65c_get_915e3 rfl (Nat.le_of_ble_eq_true rfl) rfl (Nat.le_of_ble_eq_true rfl) (d' := d - 1) (by omega) (Nat.zero_le _) (Nat.zero_le _) (c_LO_get hR1.rl (by omega) (by omega) (cont_ret ?_))
      refine wp_castC 14 dX16_read_47 (by decide) kl_X16_238 (fun a ha => by cases ha; exact (hR1.r (by omega)).k0) ?_
      refine wp_astore (i := 4) (lv' := [(4, vr (some (nm 4 r))), (3, vr (some (nm 6 t))), (0, vr (some (nm 1 0))), (1, vi (nI t)), (2, vi (nI r))]) dX16_read_50 (by decide) rfl ?_
      refine wp_iconst (nI 0) dX16_read_52 (by decide) ?_
      refine wp_istore (i := 5) (lv' := [(5, vi (nI 0)), (4, vr (some (nm 4 r))), (3, vr (some (nm 6 t))), (0, vr (some (nm 1 0))), (1, vi (nI t)), (2, vi (nI r))]) dX16_read_53 (by decide) rfl ?_
      refine wp_iconst (nI 0) dX16_read_55 (by decide) ?_
      refine wp_istore (i := 6) (lv' := [(6, vi (nI 0)), (5, vi (nI 0)), (4, vr (some (nm 4 r))), (3, vr (some (nm 6 t))), (0, vr (some (nm 1 0))), (1, vi (nI t)), (2, vi (nI r))]) dX16_read_56 (by decide) rfl ?_
      refine wp_aload (i := 4) dX16_read_58 rfl ?_
      refine wp_get 14 3 (vr (some (nm 5 r))) dX16_read_60 (hR1.r (by omega)).k0 (by decide) (by decide) fl_X16_286 (congrArg (fun z => toV (vr z)) ((hR1.r (by omega)).r4_3)) ?_
      refine wp_cV (y' := m_Jx4a65c_iterator_32c93) 2 [] [] 1 4 dX16_read_63 ml_X16_289 im_Jx4a65c_iterator_32c93 se_Jx4a65c_iterator_32c93 (by decide) (hR1.r (by omega)).L6.k ok_Jx4a65c_iterator_32c93 rfl (Nat.le_of_ble_eq_true rfl) rfl (Nat.le_of_ble_eq_true rfl) (d' := d - 1) (by omega) (by omega) (by omega) (c_AL_iterator (hR1.r (by omega)).L6.k (nm 30 K) (hK K (Nat.le_refl _)) (by omega) (Nat.le_refl _) (Nat.le_refl _) (fun h13 I14 C15 => cont_ret ?_))
      have hR16 := hR1.it C15
      have hG17 := hG2.tr (FRR.it C15)
      have hPi18 := PI.of hP3 hK C15
      refine wp_astore (i := 7) (lv' := [(7, vr (some (nm 30 K))), (6, vi (nI 0)), (5, vi (nI 0)), (4, vr (some (nm 4 r))), (3, vr (some (nm 6 t))), (0, vr (some (nm 1 0))), (1, vi (nI t)), (2, vi (nI r))]) dX16_read_66 (by decide) rfl ?_
      refine wp_sub [(7, vr (some (nm 30 K))), (6, vi (nI 0)), (5, vi (nI 0)), (4, vr (some (nm 4 r))), (3, vr (some (nm 6 t))), (0, vr (some (nm 1 0))), (1, vi (nI t)), (2, vi (nI r))] (sb_cons (.head _) (sb_cons (.tail _ (.head _)) (sb_cons (.tail _ (.tail _ (.head _))) (sb_cons (.tail _ (.tail _ (.tail _ (.head _)))) (sb_cons (.tail _ (.tail _ (.tail _ (.tail _ (.head _))))) (sb_cons (.tail _ (.tail _ (.tail _ (.tail _ (.tail _ (.head _)))))) (sb_cons (.tail _ (.tail _ (.tail _ (.tail _ (.tail _ (.tail _ (.head _))))))) (sb_cons (.tail _ (.tail _ (.tail _ (.tail _ (.tail _ (.tail _ (.tail _ (.head _)))))))) sb_nil)))))))) ?_
      refine l_X16_read hB ht hr hd (OR_hs (RS_rr S r)).length 0 _ false (nI 0) (by omega) hR16 hG17 hPi18 ((th_it C15).trans wI_ss) I14 (fun H' hRx hGx hPix hthx => ?_)
      have hPx := hPix.po
      rw [List.drop_zero]
      refine wp_iload (i := 5) dX16_read_138 rfl ?_
      refine wp_if_neB 177 dX16_read_140 (by decide) (fun c_140 => ?_) (fun c_140 => ?_)
      · skip
        refine wp_iload (i := 6) dX16_read_177 rfl ?_
        refine wp_aload_n (i := 3) dX16_read_179 rfl rfl ?_
        refine wp_get 16 8 (vr (some (nm 11 t))) dX16_read_180 (hRx.t (by omega)).k0 (by decide) (by decide) fl_X16_309 (congrArg (fun z => toV (vr z)) ((hRx.t (by omega)).r9_8)) ?_
        refine wp_iload_n (i := 2) dX16_read_183 rfl rfl ?_
        refine wp_ialoadN 6 (OT_sm (RS_tt S t) r) dX16_read_184 (hRx.t (by omega)).k19 (hRx.t (by omega)).n19 (by omega) (by decide) ((hRx.t (by omega)).a_sm r) ?_
        refine wp_iadd dX16_read_185 ?_
        refine wp_ireturn dX16_read_186 rfl ?_
        rw [show o_read S (nI t) t (nI r) r = (nI 0, (((rdF (OT_pt (RS_tt S t)) (OR_hs (RS_rr S r)) (false, nI 0)).2) + (OT_sm (RS_tt S t) r)), S) from by unfold o_read; rw [if_neg g_1, if_neg g_2, if_neg g_3, if_neg (fun z => Bool.false_ne_true (c_29.symm.trans z)), if_pos c_140] <;> rfl] at hq
        exact hq _ hGx hthx hRx hPx
      · skip
        refine wp_aload (i := 4) dX16_read_143 rfl ?_
        refine wp_dup dX16_read_145 ?_
        refine wp_get 14 2 (vi (nI (OR_lim (RS_rr S r)))) dX16_read_146 (hRx.r (by omega)).k0 (by decide) (by decide) fl_X16_302 (congrArg (fun z => toV (vi z)) ((hRx.r (by omega)).f_lim)) ?_
        refine wp_aload (i := 4) dX16_read_149 rfl ?_
        refine wp_get 14 2 (vi (nI (OR_lim (RS_rr S r)))) dX16_read_151 (hRx.r (by omega)).k0 (by decide) (by decide) fl_X16_302 (congrArg (fun z => toV (vi z)) ((hRx.r (by omega)).f_lim)) ?_
        refine wp_bipush (nI 8) dX16_read_154 (by decide) ?_
        refine wp_icmp_geN 163 dX16_read_156 (by decide) (by omega) (by decide) (fun c_156 => ?_) (fun c_156 => ?_)
        · skip
          refine wp_iconst (nI 0) dX16_read_163 (by decide) ?_
          refine wp_iaddN dX16_read_164 ?_
          refine wp_putI 14 2 dX16_read_165 (hRx.r (by omega)).k0 (by decide) (by decide) (by decide) fl_X16_302 rfl (fun _ _ => rfl) rfl rfl ?_
          have hO19 := (hRx.r (by omega))
          have hF20 := hO19.rfR
          have hO21 := hO19.wlim (v := ((OR_lim (RS_rr S r)) + 0))
          have hF22 := hF20.wI (b := nm 4 r) (k := 2) (x := nI (((OR_lim (RS_rr S r)) + 0))) (by unfold WRf nm; omega)
          refine wp_aload_n (i := 0) dX16_read_168 rfl rfl ?_
          refine wp_iload_n (i := 1) dX16_read_169 rfl rfl ?_
          have hP23 := (hPx).oR hF22
          have hR24 := hRx.upR (by omega) hF22 hO21 hB16
          have hG25 := hGx.tr (FRR.oR hF22)
          refine wp_cV (y' := m_X16_sendBack) 17 [vi (nI t)] [] 0 0 dX16_read_170 ml_X16_305 im_X16_sendBack se_X16_sendBack (by decide) hR24.mk ok_X16_sendBack rfl (Nat.le_of_ble_eq_true rfl) rfl (Nat.le_of_ble_eq_true rfl) (d' := d - 1) (by omega) (Nat.zero_le _) (Nat.zero_le _) (c_X16_sendBack hR24 (by omega) (by omega) (fun h28 hO26 hF27 => cont_void ?_))
          refine wp_sipush (-10000) dX16_read_173 (by decide) ?_
          refine wp_ireturn dX16_read_176 rfl ?_
          have hP29 := (hP23).oT hF27
          have hR30 := hR24.upT (by omega) hF27 hO26 hB16
          have hG31 := hG25.tr (FRR.oT hF27)
          rw [show o_read S (nI t) t (nI r) r = (nI 0, (-10000), RS_utt1 (RS_urr1 S r (OR_ulim (RS_rr S r) ((OR_lim (RS_rr S r)) + 0))) t (sbk (RS_tt (RS_urr1 S r (OR_ulim (RS_rr S r) ((OR_lim (RS_rr S r)) + 0))) t) (RS_mo (RS_urr1 S r (OR_ulim (RS_rr S r) ((OR_lim (RS_rr S r)) + 0)))))) from by unfold o_read; rw [if_neg g_1, if_neg g_2, if_neg g_3, if_neg (fun z => Bool.false_ne_true (c_29.symm.trans z)), if_neg (fun z => Bool.false_ne_true (c_140.symm.trans z)), if_neg (by omega)] <;> rfl] at hq
          exact hq _ hG31 ((th_oT hF27).trans ((th_oR hF22).trans hthx)) hR30 hP29
        · skip
          refine wp_iconst (nI 1) dX16_read_159 (by decide) ?_
          refine wp_goto 164 dX16_read_160 (by decide) ?_
          refine wp_iaddN dX16_read_164 ?_
          refine wp_putI 14 2 dX16_read_165 (hRx.r (by omega)).k0 (by decide) (by decide) (by decide) fl_X16_302 rfl (fun _ _ => rfl) rfl rfl ?_
          have hO32 := (hRx.r (by omega))
          have hF33 := hO32.rfR
          have hO34 := hO32.wlim (v := ((OR_lim (RS_rr S r)) + 1))
          have hF35 := hF33.wI (b := nm 4 r) (k := 2) (x := nI (((OR_lim (RS_rr S r)) + 1))) (by unfold WRf nm; omega)
          refine wp_aload_n (i := 0) dX16_read_168 rfl rfl ?_
          refine wp_iload_n (i := 1) dX16_read_169 rfl rfl ?_
          have hP36 := (hPx).oR hF35
          have hR37 := hRx.upR (by omega) hF35 hO34 hB16
          have hG38 := hGx.tr (FRR.oR hF35)
          refine wp_cV (y' := m_X16_sendBack) 17 [vi (nI t)] [] 0 0 dX16_read_170 ml_X16_305 im_X16_sendBack se_X16_sendBack (by decide) hR37.mk ok_X16_sendBack rfl (Nat.le_of_ble_eq_true rfl) rfl (Nat.le_of_ble_eq_true rfl) (d' := d - 1) (by omega) (Nat.zero_le _) (Nat.zero_le _) (c_X16_sendBack hR37 (by omega) (by omega) (fun h41 hO39 hF40 => cont_void ?_))
          refine wp_sipush (-10000) dX16_read_173 (by decide) ?_
          refine wp_ireturn dX16_read_176 rfl ?_
          have hP42 := (hP36).oT hF40
          have hR43 := hR37.upT (by omega) hF40 hO39 hB16
          have hG44 := hG38.tr (FRR.oT hF40)
          rw [show o_read S (nI t) t (nI r) r = (nI 0, (-10000), RS_utt1 (RS_urr1 S r (OR_ulim (RS_rr S r) ((OR_lim (RS_rr S r)) + 1))) t (sbk (RS_tt (RS_urr1 S r (OR_ulim (RS_rr S r) ((OR_lim (RS_rr S r)) + 1))) t) (RS_mo (RS_urr1 S r (OR_ulim (RS_rr S r) ((OR_lim (RS_rr S r)) + 1)))))) from by unfold o_read; rw [if_neg g_1, if_neg g_2, if_neg g_3, if_neg (fun z => Bool.false_ne_true (c_29.symm.trans z)), if_neg (fun z => Bool.false_ne_true (c_140.symm.trans z)), if_pos c_156] <;> rfl] at hq
          exact hq _ hG44 ((th_oT hF40).trans ((th_oR hF35).trans hthx)) hR43 hP42
    · skip
      refine wp_aload_n (i := 3) dX16_read_32 rfl rfl ?_
      refine wp_get 16 5 (vr (some (nm 8 t))) dX16_read_33 (hR1.t (by omega)).k0 (by decide) (by decide) fl_X16_283 (congrArg (fun z => toV (vr z)) ((hR1.t (by omega)).r6_5)) ?_
      refine wp_iload_n (i := 2) dX16_read_36 rfl rfl ?_
      refine wp_ialoadN 6 (OT_wn (RS_tt S t) r) dX16_read_37 (hR1.t (by omega)).k13 (hR1.t (by omega)).n13 (by omega) (by decide) ((hR1.t (by omega)).a_wn r) ?_
      refine wp_ireturn dX16_read_38 rfl ?_
      rw [show o_read S (nI t) t (nI r) r = (nI 0, (OT_wn (RS_tt S t) r), S) from by unfold o_read; rw [if_neg g_1, if_neg g_2, if_neg g_3, if_pos c_29] <;> rfl] at hq
      exact hq _ hG2 wI_ss hR1 hP3
set_option maxRecDepth 100000 in
set_option maxHeartbeats 4000000 in
theorem l_X16_valueByLog {G : GG} {d bc bs : Nat} {Q : Pst} {h0 : Hp} {S : RS} {n r K : Nat} (hB : RB n S) (hr : r < RS_rn S) (hd : 7 ≤ d) : ∀ m c H z, c + m = (RS_lg S).length → MR H S → FRR h0 H → PI H K → h_I H (nm 1 0) 0 = nI 0 → IT H (nm 30 K) (nm 1 14) c → (∀ H', MR H' S → FRR h0 H' → PI H' K → h_I H' (nm 1 0) 0 = nI 0 → WP G m_X16_valueByLog d 83 [(3, vr (some (nm 30 K))), (2, vi (vbF r ((RS_lg S).drop c) z)), (0, vr (some (nm 1 0))), (1, vi (nI r))] [] H' bc bs Q) → WP G m_X16_valueByLog d 43 [(3, vr (some (nm 30 K))), (2, vi z), (0, vr (some (nm 1 0))), (1, vi (nI r))] [] H bc bs Q := by
  have hbb := hB.1
  intro m
  induction m with
  | zero =>
    intro c H z hc hR hG hPi h0' I hK
    have hc : c = (RS_lg S).length := hc
    have hz : vbF r ((RS_lg S).drop c) z = z := by rw [hc, List.drop_length]; rfl
    rw [hz] at hK
    refine wp_aload_n (i := 3) dX16_valueByLog_43 rfl rfl ?_
    refine wp_cF (y' := m_Jx35411_hasNext_aae02) [] [] 0 0 dX16_valueByLog_44 ml_X16_293 sx_java_util_ArrayList_Itr_Jx35411_hasNext_aae02 im_Jx35411_hasNext_aae02 fw_0 ⟨by decide, by decide, by decide⟩ I.1 ok_Jx35411_hasNext_aae02 rfl (Nat.le_of_ble_eq_true rfl) rfl (Nat.le_of_ble_eq_true rfl) (d' := d - 1) (by omega) (Nat.zero_le _) (Nat.zero_le _) (c_LP_hasNext hR.lg I (by rw [lgL_len]; omega) (cont_ret ?_))
    rw [lgL_len]
    refine wp_if_eqB 83 dX16_valueByLog_49 (by decide) (fun c_49 => ?_) (fun c_49 => absurd c_49 (fun z => absurd (of_decide_eq_true z) (by omega)))
    exact hK H hR hG hPi h0'
  | succ m ih =>
    intro c H z hc hR hG hPi h0' I hK
    have hcl : c < (RS_lg S).length := by omega
    have hq1 := hbb.2.2.2.2.2.2 _ (getD_mem hcl (0, 0, 0, 0))
    rw [vbF_step hcl] at hK
    refine wp_aload_n (i := 3) dX16_valueByLog_43 rfl rfl ?_
    refine wp_cF (y' := m_Jx35411_hasNext_aae02) [] [] 0 0 dX16_valueByLog_44 ml_X16_293 sx_java_util_ArrayList_Itr_Jx35411_hasNext_aae02 im_Jx35411_hasNext_aae02 fw_0 ⟨by decide, by decide, by decide⟩ I.1 ok_Jx35411_hasNext_aae02 rfl (Nat.le_of_ble_eq_true rfl) rfl (Nat.le_of_ble_eq_true rfl) (d' := d - 1) (by omega) (Nat.zero_le _) (Nat.zero_le _) (c_LP_hasNext hR.lg I (by rw [lgL_len]; omega) (cont_ret ?_))
    rw [lgL_len]
    refine wp_if_eqB 83 dX16_valueByLog_49 (by decide) (fun c_49 => absurd c_49 (fun z => absurd (of_decide_eq_false z) (by omega))) (fun c_49 => ?_)
    refine wp_aload_n (i := 3) dX16_valueByLog_52 rfl rfl ?_
    refine wp_cF (y' := m_Jx35411_next_0502b) [] [] 0 0 dX16_valueByLog_53 ml_X16_298 sx_java_util_ArrayList_Itr_Jx35411_next_0502b im_Jx35411_next_0502b fw_1 ⟨by decide, by decide, by decide⟩ I.1 ok_Jx35411_next_0502b rfl (Nat.le_of_ble_eq_true rfl) rfl (Nat.le_of_ble_eq_true rfl) (d' := d - 1) (by omega) (Nat.zero_le _) (Nat.zero_le _) (c_LP_next hR.lg I (by rw [lgL_len]; omega) (kq := K) rfl (by decide) (by decide) (by omega) (fun h1 ra2 E3 hL4 I5 C6 => cont_ret ?_))
    rw [lgL_get] at E3
    have hR7 := hR.it C6
    have hG8 := hG.tr (FRR.it C6)
    have hPi9 := hPi.it C6
    refine wp_castA .int dX16_valueByLog_58 (by decide) kl_X16_221 (fun a ha => by cases ha; exact arTy_101 E3.2.1) ?_
    refine wp_astore (i := 4) (lv' := [(4, vr (some ra2)), (3, vr (some (nm 30 K))), (2, vi z), (0, vr (some (nm 1 0))), (1, vi (nI r))]) dX16_valueByLog_61 (by decide) rfl ?_
    refine wp_aload (i := 4) dX16_valueByLog_63 rfl ?_
    refine wp_iconst (nI 1) dX16_valueByLog_65 (by decide) ?_
    refine wp_ialoadN 4 (nI ((RS_lg S).getD c (0, 0, 0, 0)).2.1) dX16_valueByLog_66 E3.2.1 E3.2.2.1 (by decide) (by decide) (E3.2.2.2 1 (Nat.le_of_ble_eq_true rfl)) ?_
    refine wp_iload_n (i := 1) dX16_valueByLog_67 rfl rfl ?_
    refine wp_icmp_neN 78 dX16_valueByLog_68 (by decide) (by omega) (by omega) (fun c_68 => ?_) (fun c_68 => ?_)
    · skip
      refine wp_iload_n (i := 2) dX16_valueByLog_78 rfl rfl ?_
      skip
      refine wp_istore_n (i := 2) (lv' := [(2, vi z), (4, vr (some ra2)), (3, vr (some (nm 30 K))), (0, vr (some (nm 1 0))), (1, vi (nI r))]) dX16_valueByLog_79 rfl (by decide) rfl ?_
      refine wp_goto 43 dX16_valueByLog_80 (by decide) ?_
      rw [if_neg c_68] at hK
      refine wp_sub [(3, vr (some (nm 30 K))), (2, vi z), (0, vr (some (nm 1 0))), (1, vi (nI r))] (sb_cons (.tail _ (.tail _ (.head _))) (sb_cons (.head _) (sb_cons (.tail _ (.tail _ (.tail _ (.head _)))) (sb_cons (.tail _ (.tail _ (.tail _ (.tail _ (.head _))))) sb_nil)))) ?_
      exact ih (c + 1) _ _ (by omega) hR7 hG8 hPi9 ((th_it C6).trans h0') I5 hK
    · skip
      refine wp_aload (i := 4) dX16_valueByLog_71 rfl ?_
      refine wp_iconst (nI 3) dX16_valueByLog_73 (by decide) ?_
      refine wp_ialoadN 4 (((RS_lg S).getD c (0, 0, 0, 0)).2.2.2) dX16_valueByLog_74 E3.2.1 E3.2.2.1 (by decide) (by decide) (E3.2.2.2 3 (Nat.le_of_ble_eq_true rfl)) ?_
      refine wp_goto 79 dX16_valueByLog_75 (by decide) ?_
      skip
      refine wp_topi (fun zz e_79 => ?_)
      refine wp_istore_n (i := 2) (lv' := [(2, vi zz), (4, vr (some ra2)), (3, vr (some (nm 30 K))), (0, vr (some (nm 1 0))), (1, vi (nI r))]) dX16_valueByLog_79 rfl (by decide) rfl ?_
      refine wp_goto 43 dX16_valueByLog_80 (by decide) ?_
      rw [if_pos c_68] at hK
      refine wp_sub [(3, vr (some (nm 30 K))), (2, vi zz), (0, vr (some (nm 1 0))), (1, vi (nI r))] (sb_cons (.tail _ (.tail _ (.head _))) (sb_cons (.head _) (sb_cons (.tail _ (.tail _ (.tail _ (.head _)))) (sb_cons (.tail _ (.tail _ (.tail _ (.tail _ (.head _))))) sb_nil)))) ?_
      subst e_79
      exact ih (c + 1) _ _ (by omega) hR7 hG8 hPi9 ((th_it C6).trans h0') I5 hK
set_option maxRecDepth 100000 in
set_option maxHeartbeats 4000000 in
theorem c_X16_valueByLog {G : GG} {d bc bs : Nat} {h : Hp} {Q : Pst} {S : RS} (hR : MR h S) {n : Nat} (hB : RB n S) (hP : PO2 h) {u : Int32} {r : Nat} (hu : ixB u (RS_rn S) = true → u = nI r ∧ r < RS_rn S) (hbc : 1 ≤ bc) (hbs : 4 ≤ bs) (hd : 7 ≤ d) (hq : RO Q h (o_valueByLog S u r)) : WP G m_X16_valueByLog d 0 (aargs 0 [vr (some (nm 1 0)), vi u]) [] h bc bs Q := by
  refine wp_sub [(0, vr (some (nm 1 0))), (1, vi u)] (fun _ hz => hz) ?_
  have hG := FRR.rf (h := h)
  have hB16 := hB.h16
  have hbb := hB.1
  refine wp_aload_n (i := 0) dX16_valueByLog_0 rfl rfl ?_
  refine wp_iconst (nI 0) dX16_valueByLog_1 (by decide) ?_
  refine wp_putI 17 0 dX16_valueByLog_2 hR.mk (by decide) (by decide) (by decide) fl_X16_63 rfl (fun _ _ => rfl) rfl rfl ?_
  have hR1 := hR.w0 (x := (nI 0))
  have hG2 := hG.tr (FRR.w0 (x := (nI 0)))
  have hP3 := PO2.m (a := nm 1 0) (k := 0) (x := (nI 0)) hP
  refine wp_aload_n (i := 0) dX16_valueByLog_5 rfl rfl ?_
  refine wp_aload_n (i := 0) dX16_valueByLog_6 rfl rfl ?_
  refine wp_iload_n (i := 1) dX16_valueByLog_7 rfl rfl ?_
  refine wp_cV (y' := m_X16_noReference) 17 [vi u] [vr (some (nm 1 0))] 0 0 dX16_valueByLog_8 ml_X16_271 im_X16_noReference se_X16_noReference (by decide) hR1.mk ok_X16_noReference rfl (Nat.le_of_ble_eq_true rfl) rfl (Nat.le_of_ble_eq_true rfl) (d' := d - 1) (by omega) (Nat.zero_le _) (Nat.zero_le _) (c_X16_noReference hR1 u (by omega) (cont_ret ?_))
  refine wp_iconst (nI 1) dX16_valueByLog_11 (by decide) ?_
  refine wp_cV (y' := m_X16_fails) 17 [vi (bI (!ixB u (RS_rn S))), vi (nI 1)] [] 0 0 dX16_valueByLog_12 ml_X16_102 im_X16_fails se_X16_fails (by decide) hR1.mk ok_X16_fails rfl (Nat.le_of_ble_eq_true rfl) rfl (Nat.le_of_ble_eq_true rfl) (d' := d - 1) (by omega) (Nat.zero_le _) (Nat.zero_le _) (c_flB hR1.mk wI_ss (!ixB u (RS_rn S)) (nI 1) (by decide) (fun c_12 => cont_ret ?_) (fun c_12 => cont_ret ?_))
  · have g_1 : (!ixB u (RS_rn S)) = true := by first | exact c_12 | exact of_decide_eq_true c_12 | omega | (simp at c_12 ⊢; grind)
    have hR4 := hR1.w0 (x := nI 1)
    have hG5 := hG2.tr (FRR.w0 (x := nI 1))
    have hP6 := PO2.m (a := nm 1 0) (k := 0) (x := nI 1) hP3
    refine wp_if_eqN 20 dX16_valueByLog_15 (by decide) (by decide) (fun c_15 => absurd c_15 (by decide)) (fun c_15 => ?_)
    refine wp_iconst (nI 0) dX16_valueByLog_18 (by decide) ?_
    refine wp_ireturn dX16_valueByLog_19 rfl ?_
    rw [show o_valueByLog S u r = (nI 1, nI 0, S) from by unfold o_valueByLog; rw [if_pos g_1]] at hq
    exact hq _ hG5 wI_ss hR4 hP6
  · have g_1 : ¬ ((!ixB u (RS_rn S)) = true) := by first | exact fun z => Bool.false_ne_true (c_12.symm.trans z) | exact of_decide_eq_false c_12 | omega | (simp at c_12 ⊢; grind)
    obtain ⟨eu, hr⟩ := hu (nt_g g_1)
    subst eu
    obtain ⟨⟨K2, hK2⟩, K, hK⟩ := id hP
    refine wp_if_eqN 20 dX16_valueByLog_15 (by decide) (by decide) (fun c_15 => ?_) (fun c_15 => absurd c_15 (by decide))
    refine wp_aload_n (i := 0) dX16_valueByLog_20 rfl rfl ?_
    refine wp_get 17 13 (vr (some (nm 1 13))) dX16_valueByLog_21 hR1.mk (by decide) (by decide) fl_X16_47 (congrArg (fun z => toV (vr z)) (hR1.ref 13 (by decide) (by decide) (by decide) (by decide))) ?_
    refine wp_iload_n (i := 1) dX16_valueByLog_24 rfl rfl ?_
    refine wp_cV (y' := m_Jx4a65c_get_915e3) 2 [vi (nI r)] [] 0 0 dX16_valueByLog_25 ml_X16_201 im_Jx4a65c_get_915e3 se_Jx4a65c_get_915e3 (by decide) hR1.rl.k ok_Jx4a65c_get_915e3 rfl (Nat.le_of_ble_eq_true rfl) rfl (Nat.le_of_ble_eq_true rfl) (d' := d - 1) (by omega) (Nat.zero_le _) (Nat.zero_le _) (c_LO_get hR1.rl (by omega) (by omega) (cont_ret ?_))
    refine wp_castC 14 dX16_valueByLog_28 (by decide) kl_X16_238 (fun a ha => by cases ha; exact (hR1.r (by omega)).k0) ?_
    refine wp_get 14 4 (vi (OR_fst (RS_rr S r))) dX16_valueByLog_31 (hR1.r (by omega)).k0 (by decide) (by decide) fl_X16_351 (congrArg (fun z => toV (vi z)) ((hR1.r (by omega)).f_fst)) ?_
    refine wp_topi (fun x_34 e_34 => ?_)
    refine wp_istore_n (i := 2) (lv' := [(2, vi x_34), (0, vr (some (nm 1 0))), (1, vi (nI r))]) dX16_valueByLog_34 rfl (by decide) rfl ?_
    refine wp_aload_n (i := 0) dX16_valueByLog_35 rfl rfl ?_
    refine wp_get 17 14 (vr (some (nm 1 14))) dX16_valueByLog_36 hR1.mk (by decide) (by decide) fl_X16_50 (congrArg (fun z => toV (vr z)) (hR1.ref 14 (by decide) (by decide) (by decide) (by decide))) ?_
    refine wp_cV (y' := m_Jx4a65c_iterator_32c93) 2 [] [] 1 4 dX16_valueByLog_39 ml_X16_289 im_Jx4a65c_iterator_32c93 se_Jx4a65c_iterator_32c93 (by decide) hR1.lg.k ok_Jx4a65c_iterator_32c93 rfl (Nat.le_of_ble_eq_true rfl) rfl (Nat.le_of_ble_eq_true rfl) (d' := d - 1) (by omega) (by omega) (by omega) (c_AL_iterator hR1.lg.k (nm 30 K) (hK K (Nat.le_refl _)) (by omega) (Nat.le_refl _) (Nat.le_refl _) (fun h7 I8 C9 => cont_ret ?_))
    have hR10 := hR1.it C9
    have hG11 := hG2.tr (FRR.it C9)
    have hPi12 := PI.of hP3 hK C9
    refine wp_astore_n (i := 3) (lv' := [(3, vr (some (nm 30 K))), (2, vi x_34), (0, vr (some (nm 1 0))), (1, vi (nI r))]) dX16_valueByLog_42 rfl (by decide) rfl ?_
    refine wp_sub [(3, vr (some (nm 30 K))), (2, vi x_34), (0, vr (some (nm 1 0))), (1, vi (nI r))] (sb_cons (.head _) (sb_cons (.tail _ (.head _)) (sb_cons (.tail _ (.tail _ (.head _))) (sb_cons (.tail _ (.tail _ (.tail _ (.head _)))) sb_nil)))) ?_
    refine l_X16_valueByLog hB hr hd (RS_lg S).length 0 _ x_34 (by omega) hR10 hG11 hPi12 ((th_it C9).trans wI_ss) I8 (fun H' hRx hGx hPix hthx => ?_)
    have hPx := hPix.po
    rw [List.drop_zero]
    refine wp_iload_n (i := 2) dX16_valueByLog_83 rfl rfl ?_
    refine wp_ireturn dX16_valueByLog_84 rfl ?_
    subst e_34
    rw [show o_valueByLog S (nI r) r = (nI 0, (vbF r (RS_lg S) (OR_fst (RS_rr S r))), S) from by unfold o_valueByLog; rw [if_neg g_1] <;> rfl] at hq
    exact hq _ hGx hthx hRx hPx
