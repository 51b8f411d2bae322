/-! The model: what waits; a reference comes; new references and agents. -/
theorem PEr.mk2 {h : Hp} {K : Nat} {a b : Int32} : PEr (wI (wI (mk h (nm 22 K) 101 2) (nm 22 K) 0 a) (nm 22 K) 1 b) (nm 22 K) [a, b] := by
  refine ⟨⟨K, rfl⟩, by rw [gk_wI, gk_wI, gk_mk, if_pos rfl], by rw [gn_wI, gn_wI, gn_mk, if_pos rfl]; rfl, fun m hm => ?_⟩
  match m, hm with
  | 0, _ => rw [gI_wI, if_neg (fun z => absurd z.2 (by decide)), gI_wI, if_pos ⟨rfl, rfl⟩]; rfl
  | 1, _ => rw [gI_wI, if_pos ⟨rfl, rfl⟩]; rfl
theorem ce_row2 {h : Hp} {q b : Nat} {x y : Int32} (e : b ≠ q) : ce (wI (wI (mk h q 101 2) q 0 x) q 1 y) b = ce h b := (ce_wI e).trans ((ce_wI e).trans (ce_mk e))
/-- one more number waits -/
def tkL (l : List Int32) (z : Int32) : List Int32 := if l.length < 12 then l ++ [z] else l
theorem lt_iff_i {x : Int32} (h1 : -128 ≤ x.toInt) : ¬ x < -128 := fun e => by
  have := i32_lt.mp e
  have e2 : (-128 : Int32).toInt = -128 := by decide
  omega
theorem gt_iff_i {x : Int32} (h1 : x.toInt ≤ 127) : ¬ 127 < x := fun e => by
  have := i32_lt.mp e
  have e2 : (127 : Int32).toInt = 127 := by decide
  omega
set_option maxRecDepth 100000 in
set_option maxHeartbeats 4000000 in
theorem c_X12_take {G : GG} {d bc bs : Nat} {h : Hp} {Q : Pst} {a : Nat} {x : OAS} (hO : OA h a x) (J : JC h) (ha : a < 16) (h12 : (OA_row x).length ≤ 12) {z : Int32} (hz1 : -128 ≤ z.toInt) (hz2 : z.toInt ≤ 127) (hd : 9 ≤ d) (hbc : 1 ≤ bc) (hbs : 40 ≤ bs) (hq : ∀ h', OA h' a (OA_urow x (tkL (OA_row x) z)) → Fr h h' (WAg a) → Q oVoid h') : WP G m_X12_take d 0 (aargs 0 [vr (some (nm 13 a)), vi z]) [] h bc bs Q := by
  refine wp_sub [(0, vr (some (nm 13 a))), (1, vi z)] (fun _ hz => hz) ?_
  refine wp_aload_n (i := 0) dX12_take_0 rfl rfl ?_
  refine wp_get 13 6 (vr (some (nm 14 a))) dX12_take_1 hO.k0 (by decide) (by decide) fl_X12_12 (congrArg (fun z => toV (vr z)) (hO.r7_6)) ?_
  refine wp_cV (y' := m_Jx4a65c_size_8abf5) 2 [] [] 0 0 dX12_take_4 ml_X12_32 im_Jx4a65c_size_8abf5 se_Jx4a65c_size_8abf5 (by decide) (LNm.k hO.N8) ok_Jx4a65c_size_8abf5 rfl (Nat.le_of_ble_eq_true rfl) rfl (Nat.le_of_ble_eq_true rfl) (d' := d - 1) (by omega) (Nat.zero_le _) (Nat.zero_le _) (c_LN_size hO.N8 (cont_ret ?_))
  refine wp_bipush (nI 12) dX12_take_7 (by decide) ?_
  refine wp_icmp_geN 24 dX12_take_9 (by decide) (by omega) (by decide) (fun c_9 => ?_) (fun c_9 => ?_)
  · skip
    refine wp_return dX12_take_24 rfl ?_
    rw [show tkL (OA_row x) z = OA_row x from if_neg (by omega)] at hq
    exact hq _ hO (Fr.rf (W := WAg a))
  · skip
    refine wp_aload_n (i := 0) dX12_take_12 rfl rfl ?_
    refine wp_get 13 6 (vr (some (nm 14 a))) dX12_take_13 hO.k0 (by decide) (by decide) fl_X12_12 (congrArg (fun z => toV (vr z)) (hO.r7_6)) ?_
    refine wp_iload_n (i := 1) dX12_take_16 rfl rfl ?_
    refine wp_cS (y' := m_J6_valueOf_2dffe) [vi z] [vr (some (nm 14 a))] 0 0 dX12_take_17 ml_X12_36 st_J6_valueOf_2dffe ok_J6_valueOf_2dffe rfl (Nat.le_of_ble_eq_true rfl) rfl (Nat.le_of_ble_eq_true rfl) (d' := d - 1) (by omega) (Nat.zero_le _) (Nat.zero_le _) (c_J6_valueOf (iq_lt hz1 hz2) (iq_a hz1 hz2) (lt_iff_i hz1) (gt_iff_i hz2) (cont_ret ?_))
    refine wp_cV (y' := m_Jx4a65c_add_9ea2d) 2 [vr (some (nm 0 (iq z + 1)))] [] 1 (10 + 2 * (OA_row x).length) dX12_take_20 ml_X12_42 im_Jx4a65c_add_9ea2d se_Jx4a65c_add_9ea2d (by decide) (LNm.k hO.N8) ok_Jx4a65c_add_9ea2d rfl (Nat.le_of_ble_eq_true rfl) rfl (Nat.le_of_ble_eq_true rfl) (d' := d - 1) (by omega) (by omega) (by omega) (c_LN_add hO.N8 J hz1 hz2 (by omega) (by decide) (by decide) (by omega) (Nat.le_refl _) (Nat.le_refl _) (fun h1 hL hC => cont_ret ?_))
    refine wp_pop dX12_take_23 ?_
    refine wp_return dX12_take_24 rfl ?_
    rw [show tkL (OA_row x) z = OA_row x ++ [z] from if_pos c_9] at hq
    exact hq _ (hO.urow (v := OA_row x ++ [z]) hL (hC _ (by unfold nm; omega) (fun z => by unfold nm; omega))) (Fr.of hC (by unfold WAg nm; omega) (fun z => by unfold WAg nm; omega))
/-- the history, with q behind it -/
def cmH (hs : List (Nat × Int32)) (lim : Nat) (q : Nat × Int32) : List (Nat × Int32) := if lim < hs.length + 1 then (hs ++ [q]).tail else hs ++ [q]
def WC (r K : Nat) : Nat → Prop := fun a => WRf r a ∨ a = nm 22 K
theorem WC_n {r K s i : Nat} (h : ¬ ((4 ≤ s ∧ s ≤ 5 ∧ i = r) ∨ (s = 23 ∧ i % 16 = r) ∨ (s = 22 ∧ i = K))) (hs : s < 128) : ¬ WC r K (nm s i) := by unfold WC WRf nm; omega
theorem L2_app {l : List (Nat × Int32)} {q : Nat × Int32} : (l ++ [q]).map (fun q => [nI q.1, q.2]) = l.map (fun q => [nI q.1, q.2]) ++ [[nI q.1, q.2]] := by rw [List.map_append]; rfl
theorem L2_tl {l : List (Nat × Int32)} : (l.map (fun q => [nI q.1, q.2])).eraseIdx 0 = l.tail.map (fun q => [nI q.1, q.2]) := by
  cases l <;> rfl
set_option maxRecDepth 100000 in
set_option maxHeartbeats 4000000 in
theorem c_X13_come {G : GG} {d bc bs : Nat} {h : Hp} {Q : Pst} {r : Nat} {x : ORS} (hO : OR h r x) {K : Nat} (hK : FreeI h 22 K) (hr16 : r < 16) (hl1 : (OR_hs x).length ≤ OR_lim x) (hl2 : OR_lim x ≤ 8) {m : Nat} {v : Int32} (hd : 9 ≤ d) (hbc : 2 ≤ bc) (hbs : 40 ≤ bs) (hq : ∀ h', OR h' r (OR_uhs x (cmH (OR_hs x) (OR_lim x) (m, v))) → Fr h h' (WC r K) → FreeI h' 22 (K + 1) → Q oVoid h') : WP G m_X13_come d 0 (aargs 0 [vr (some (nm 4 r)), vi (nI m), vi v]) [] h bc bs Q := by
  refine wp_sub [(0, vr (some (nm 4 r))), (1, vi (nI m)), (2, vi v)] (fun _ hz => hz) ?_
  have hll := L2_len (OR_hs x)
  refine wp_iconst (nI 2) dX13_come_0 (by decide) ?_
  refine wp_newarray 101 2 .int dX13_come_1 rfl rfl aw_int (nI_nn (by omega)) (nI_clamp (by omega)) (by omega) (by decide) pl_int (by omega) (by omega) (nm 22 K) (hK K (Nat.le_refl _)) ?_
  refine wp_dup dX13_come_3 ?_
  refine wp_iconst (nI 0) dX13_come_4 (by decide) ?_
  refine wp_iload_n (i := 1) dX13_come_5 rfl rfl ?_
  refine wp_iastoreN 2 dX13_come_6 (show h_k (mk h (nm 22 K) 101 2) (nm 22 K) = 101 by rw [gk_mk, if_pos rfl]) (show h_n (mk h (nm 22 K) 101 2) (nm 22 K) = 2 by rw [gn_mk, if_pos rfl]) (by decide) (by decide) ?_
  refine wp_dup dX13_come_7 ?_
  refine wp_iconst (nI 1) dX13_come_8 (by decide) ?_
  refine wp_iload_n (i := 2) dX13_come_9 rfl rfl ?_
  refine wp_iastoreN 2 dX13_come_10 (show h_k (mk h (nm 22 K) 101 2) (nm 22 K) = 101 by rw [gk_mk, if_pos rfl]) (show h_n (mk h (nm 22 K) 101 2) (nm 22 K) = 2 by rw [gn_mk, if_pos rfl]) (by decide) (by decide) ?_
  have E := PEr.mk2 (h := h) (K := K) (a := nI m) (b := v)
  have c2 : ∀ b, b ≠ nm 22 K → ce (wI (wI (mk h (nm 22 K) 101 2) (nm 22 K) 0 (nI m)) (nm 22 K) 1 v) b = ce h b := fun b hb => ce_row2 hb
  have hO1 := hO.frm (c2 _ (by unfold nm; omega)) (c2 _ (by unfold nm; omega)) (fun z => c2 _ (by unfold nm; omega)) (c2 0 (by unfold nm; omega)) (fun k hk => c2 _ (fun e => hk (by rw [e]; exact hK K (Nat.le_refl _))))
  refine wp_astore_n (i := 3) (lv' := [(3, vr (some (nm 22 K))), (0, vr (some (nm 4 r))), (1, vi (nI m)), (2, vi v)]) dX13_come_11 rfl (by decide) rfl ?_
  refine wp_aload_n (i := 0) dX13_come_12 rfl rfl ?_
  refine wp_get 14 3 (vr (some (nm 5 r))) dX13_come_13 hO1.k0 (by decide) (by decide) fl_X13_16 (congrArg (fun z => toV (vr z)) (hO1.r4_3)) ?_
  refine wp_aload_n (i := 3) dX13_come_16 rfl rfl ?_
  refine wp_cV (y' := m_Jx4a65c_add_9ea2d) 2 [vr (some (nm 22 K))] [] 1 (10 + 2 * ((OR_hs x).map (fun q => [nI q.1, q.2])).length) dX13_come_17 ml_X13_39 im_Jx4a65c_add_9ea2d se_Jx4a65c_add_9ea2d (by decide) hO1.L6.k ok_Jx4a65c_add_9ea2d rfl (Nat.le_of_ble_eq_true rfl) rfl (Nat.le_of_ble_eq_true rfl) (d' := d - 1) (by omega) (by omega) (by omega) (c_LP_add hO1.L6 E (by rw [L2_len]; omega) (by decide) (by decide) (by omega) (Nat.le_refl _) (Nat.le_refl _) (fun h1 hL hC => cont_ret ?_))
  rw [← L2_app (q := (m, v))] at hL
  have hO2 := hO1.uhs (v := OR_hs x ++ [(m, v)]) hL (hC _ (by unfold nm; omega) (fun z => by unfold nm; omega))
  have hF2 : Fr h h1 (WC r K) := fun b hb => (hC b (fun e => hb (by rw [e]; unfold WC WRf nm; omega)) (fun z e => hb (by rw [e]; unfold WC WRf nm; omega))).trans (c2 b (fun e => hb (Or.inr e)))
  have hfr2 : FreeI h1 22 (K + 1) := fun i hi => (ce_k (hC _ (by unfold nm; omega) (fun z => by unfold nm; omega))).trans ((ce_k (c2 _ (nm_nei (by omega)))).trans (hK i (by omega)))
  refine wp_pop dX13_come_20 ?_
  refine wp_aload_n (i := 0) dX13_come_21 rfl rfl ?_
  refine wp_get 14 3 (vr (some (nm 5 r))) dX13_come_22 hO2.k0 (by decide) (by decide) fl_X13_16 (congrArg (fun z => toV (vr z)) (hO2.r4_3)) ?_
  refine wp_cV (y' := m_Jx4a65c_size_8abf5) 2 [] [] 0 0 dX13_come_25 ml_X13_29 im_Jx4a65c_size_8abf5 se_Jx4a65c_size_8abf5 (by decide) hO2.L6.k ok_Jx4a65c_size_8abf5 rfl (Nat.le_of_ble_eq_true rfl) rfl (Nat.le_of_ble_eq_true rfl) (d' := d - 1) (by omega) (Nat.zero_le _) (Nat.zero_le _) (c_LP_size hO2.L6 (cont_ret ?_))
  rw [L2_len, show (OR_hs (OR_uhs x (OR_hs x ++ [(m, v)]))).length = (OR_hs x).length + 1 from List.length_append]
  refine wp_aload_n (i := 0) dX13_come_28 rfl rfl ?_
  refine wp_get 14 2 (vi (nI (OR_lim x))) dX13_come_29 hO2.k0 (by decide) (by decide) fl_X13_7 (congrArg (fun z => toV (vi z)) (hO2.f_lim)) ?_
  refine wp_icmp_leN 47 dX13_come_32 (by decide) (by omega) (by omega) (fun c_32 => ?_) (fun c_32 => ?_)
  · skip
    refine wp_return dX13_come_47 rfl ?_
    rw [show cmH (OR_hs x) (OR_lim x) (m, v) = OR_hs x ++ [(m, v)] from if_neg (by omega)] at hq
    exact hq _ hO2 hF2 hfr2
  · have hgt := c_32
    refine wp_aload_n (i := 0) dX13_come_35 rfl rfl ?_
    refine wp_get 14 3 (vr (some (nm 5 r))) dX13_come_36 hO2.k0 (by decide) (by decide) fl_X13_16 (congrArg (fun z => toV (vr z)) (hO2.r4_3)) ?_
    refine wp_iconst (nI 0) dX13_come_39 (by decide) ?_
    refine wp_cV (y' := m_Jx4a65c_remove_915e3) 2 [vi (nI 0)] [] 0 0 dX13_come_40 ml_X13_43 im_Jx4a65c_remove_915e3 se_Jx4a65c_remove_915e3 (by decide) hO2.L6.k ok_Jx4a65c_remove_915e3 rfl (Nat.le_of_ble_eq_true rfl) rfl (Nat.le_of_ble_eq_true rfl) (d' := d - 1) (by omega) (Nat.zero_le _) (Nat.zero_le _) (c_LP_remove hO2.L6 (j := 0) (by rw [L2_len, show (OR_hs (OR_uhs x (OR_hs x ++ [(m, v)]))).length = (OR_hs x).length + 1 from List.length_append]; omega) (by omega) (fun h2 a2 E2 hL2 hC2 => cont_ret ?_))
    rw [L2_tl] at hL2
    have hO3 := hO2.uhs (v := (OR_hs x ++ [(m, v)]).tail) hL2 (hC2 _ (by unfold nm; omega) (fun z => by unfold nm; omega))
    have hF3 : Fr h h2 (WC r K) := fun b hb => (hC2 b (fun e => hb (by rw [e]; unfold WC WRf nm; omega)) (fun z e => hb (by rw [e]; unfold WC WRf nm; omega))).trans (hF2 b hb)
    have hfr3 : FreeI h2 22 (K + 1) := fun i hi => (ce_k (hC2 _ (by unfold nm; omega) (fun z => by unfold nm; omega))).trans (hfr2 i hi)
    refine wp_pop dX13_come_43 ?_
    refine wp_goto 21 dX13_come_44 (by decide) ?_
    refine wp_aload_n (i := 0) dX13_come_21 rfl rfl ?_
    refine wp_get 14 3 (vr (some (nm 5 r))) dX13_come_22 hO3.k0 (by decide) (by decide) fl_X13_16 (congrArg (fun z => toV (vr z)) (hO3.r4_3)) ?_
    refine wp_cV (y' := m_Jx4a65c_size_8abf5) 2 [] [] 0 0 dX13_come_25 ml_X13_29 im_Jx4a65c_size_8abf5 se_Jx4a65c_size_8abf5 (by decide) hO3.L6.k ok_Jx4a65c_size_8abf5 rfl (Nat.le_of_ble_eq_true rfl) rfl (Nat.le_of_ble_eq_true rfl) (d' := d - 1) (by omega) (Nat.zero_le _) (Nat.zero_le _) (c_LP_size hO3.L6 (cont_ret ?_))
    rw [L2_len, show (OR_hs (OR_uhs (OR_uhs x (OR_hs x ++ [(m, v)])) (OR_hs x ++ [(m, v)]).tail)).length = (OR_hs x).length by show ((OR_hs x ++ [(m, v)]).tail).length = _; simp]
    refine wp_aload_n (i := 0) dX13_come_28 rfl rfl ?_
    refine wp_get 14 2 (vi (nI (OR_lim x))) dX13_come_29 hO3.k0 (by decide) (by decide) fl_X13_7 (congrArg (fun z => toV (vi z)) (hO3.f_lim)) ?_
    refine wp_icmp_leN 47 dX13_come_32 (by decide) (by omega) (by omega) (fun c_32 => ?_) (fun c_32 => absurd c_32 (by omega))
    refine wp_return dX13_come_47 rfl ?_
    rw [show cmH (OR_hs x) (OR_lim x) (m, v) = (OR_hs x ++ [(m, v)]).tail from if_pos hgt] at hq
    exact hq _ hO3 hF3 hfr3
theorem JC.fr {h h' : Hp} (J : JC h) (hc : ∀ i, ce h' (nm 0 i) = ce h (nm 0 i)) : JC h' := ⟨(ce_k (hc 0)).trans J.1, (ce_n (hc 0)).trans J.2.1, fun i hi => ⟨(ce_k (hc _)).trans (J.2.2 i hi).1, by rw [ce_I (hc _)]; exact (J.2.2 i hi).2⟩⟩
theorem nm_0' {r i : Nat} : (0 = nm r i) = (r = 0 ∧ i = 0) := by
  apply propext
  unfold nm
  omega
set_option maxRecDepth 100000 in
set_option maxHeartbeats 4000000 in
theorem c_X13_init {G : GG} {d bc bs : Nat} {h : Hp} {Q : Pst} {r : Nat} (f5 : h_k h (nm 5 r) = 0) (f23 : ∀ z, h_k h (nm 23 (16 * z + r)) = 0) (J : JC h) {v lo hi : Int32} (hd : 5 ≤ d) (hbc : 1 ≤ bc) (hbs : 3 ≤ bs) (hq : ∀ h', OR h' r (lo, hi, 2, v, []) → Fr h h' (WRf r) → Q oVoid h') : WP G m_X13_init d 0 (aargs 0 [vr (some (nm 4 r)), vi v, vi lo, vi hi]) [] (mk h (nm 4 r) 15 0) bc bs Q := by
  refine wp_sub [(0, vr (some (nm 4 r))), (1, vi v), (2, vi lo), (3, vi hi)] (fun _ hz => hz) ?_
  refine wp_aload_n (i := 0) dX13_init_0 rfl rfl ?_
  refine wp_objInit dX13_init_1 ml_X13_1 im_java_lang_Object__init____V co_obj (by omega) (by decide) ?_
  refine wp_aload_n (i := 0) dX13_init_4 rfl rfl ?_
  refine wp_iconst (nI 2) dX13_init_5 (by decide) ?_
  refine wp_putI 14 2 dX13_init_6 (by simp [gI_wI, gI_wR, gI_mk, gR_wI, gR_wR, gR_mk, gk_wI, gk_wR, gk_mk, gn_wI, gn_wR, gn_mk, nm_eq, nm_i]) (by decide) (by decide) (by decide) fl_X13_7 rfl (fun _ _ => rfl) rfl rfl ?_
  refine wp_aload_n (i := 0) dX13_init_9 rfl rfl ?_
  refine wp_new 2 dX13_init_10 (by decide) kl_X13_13 ins_Jx4a65c ini_Jx4a65c (by omega) (by show 3 ≤ _; omega) (nm 5 r) (by simp [gI_wI, gI_wR, gI_mk, gR_wI, gR_wR, gR_mk, gk_wI, gk_wR, gk_mk, gn_wI, gn_wR, gn_mk, nm_eq, nm_i]; exact f5) ?_
  have hkl : h_k (mk (wI (mk h (nm 4 r) 15 0) (nm 4 r) 2 (nI 2)) (nm 5 r) 3 0) (nm 5 r) = 3 := by rw [gk_mk, if_pos rfl]
  refine wp_dup dX13_init_13 ?_
  refine wp_cI (y' := m_Jx4a65c_init_da8c8) [] [vr (some (nm 5 r)), vr (some (nm 4 r))] 0 0 dX13_init_14 ml_X13_15 im_Jx4a65c_init_da8c8 rfl rfl ok_Jx4a65c_init_da8c8 rfl (Nat.le_of_ble_eq_true rfl) rfl (Nat.le_of_ble_eq_true rfl) (d' := d - 1) (by omega) (Nat.zero_le _) (Nat.zero_le _) (c_AL_init hkl (by omega) (cont_void ?_))
  refine wp_putRF 14 3 dX13_init_17 (by simp [gI_wI, gI_wR, gI_mk, gR_wI, gR_wR, gR_mk, gk_wI, gk_wR, gk_mk, gn_wI, gn_wR, gn_mk, nm_eq, nm_i]) (by decide) (by decide) (by decide) fl_X13_16 rfl rfl rfl (fun _ _ => rfl) rfl ?_
  refine wp_aload_n (i := 0) dX13_init_20 rfl rfl ?_
  refine wp_iload_n (i := 2) dX13_init_21 rfl rfl ?_
  refine wp_putIF 14 0 dX13_init_22 (by simp [gI_wI, gI_wR, gI_mk, gR_wI, gR_wR, gR_mk, gk_wI, gk_wR, gk_mk, gn_wI, gn_wR, gn_mk, nm_eq, nm_i]) (by decide) (by decide) (by decide) fl_X13_20 rfl rfl rfl (fun _ _ => rfl) rfl rfl ?_
  refine wp_aload_n (i := 0) dX13_init_25 rfl rfl ?_
  refine wp_iload_n (i := 3) dX13_init_26 rfl rfl ?_
  refine wp_putIF 14 1 dX13_init_27 (by simp [gI_wI, gI_wR, gI_mk, gR_wI, gR_wR, gR_mk, gk_wI, gk_wR, gk_mk, gn_wI, gn_wR, gn_mk, nm_eq, nm_i]) (by decide) (by decide) (by decide) fl_X13_23 rfl rfl rfl (fun _ _ => rfl) rfl rfl ?_
  refine wp_aload_n (i := 0) dX13_init_30 rfl rfl ?_
  refine wp_iload_n (i := 1) dX13_init_31 rfl rfl ?_
  refine wp_putIF 14 4 dX13_init_32 (by simp [gI_wI, gI_wR, gI_mk, gR_wI, gR_wR, gR_mk, gk_wI, gk_wR, gk_mk, gn_wI, gn_wR, gn_mk, nm_eq, nm_i]) (by decide) (by decide) (by decide) fl_X13_26 rfl rfl rfl (fun _ _ => rfl) rfl rfl ?_
  refine wp_return dX13_init_35 rfl ?_
  exact hq _ ⟨by simp [gI_wI, gI_wR, gI_mk, gR_wI, gR_wR, gR_mk, gk_wI, gk_wR, gk_mk, gn_wI, gn_wR, gn_mk, nm_eq, nm_i], by simp [gI_wI, gI_wR, gI_mk, gR_wI, gR_wR, gR_mk, gk_wI, gk_wR, gk_mk, gn_wI, gn_wR, gn_mk, nm_eq, nm_i], by simp [gI_wI, gI_wR, gI_mk, gR_wI, gR_wR, gR_mk, gk_wI, gk_wR, gk_mk, gn_wI, gn_wR, gn_mk, nm_eq, nm_i], by simp [gI_wI, gI_wR, gI_mk, gR_wI, gR_wR, gR_mk, gk_wI, gk_wR, gk_mk, gn_wI, gn_wR, gn_mk, nm_eq, nm_i], by simp [gI_wI, gI_wR, gI_mk, gR_wI, gR_wR, gR_mk, gk_wI, gk_wR, gk_mk, gn_wI, gn_wR, gn_mk, nm_eq, nm_i], by simp [gI_wI, gI_wR, gI_mk, gR_wI, gR_wR, gR_mk, gk_wI, gk_wR, gk_mk, gn_wI, gn_wR, gn_mk, nm_eq, nm_i], ⟨0, 0, fun _ => 0, AL.nil (by simp [gI_wI, gI_wR, gI_mk, gR_wI, gR_wR, gR_mk, gk_wI, gk_wR, gk_mk, gn_wI, gn_wR, gn_mk, nm_eq, nm_i]) (by simp [gI_wI, gI_wR, gI_mk, gR_wI, gR_wR, gR_mk, gk_wI, gk_wR, gk_mk, gn_wI, gn_wR, gn_mk, nm_eq, nm_i]) (by simp [gI_wI, gI_wR, gI_mk, gR_wI, gR_wR, gR_mk, gk_wI, gk_wR, gk_mk, gn_wI, gn_wR, gn_mk, nm_eq, nm_i]; rfl) (by simp [gI_wI, gI_wR, gI_mk, gR_wI, gR_wR, gR_mk, gk_wI, gk_wR, gk_mk, gn_wI, gn_wR, gn_mk, nm_0']; exact J.1) (by simp [gI_wI, gI_wR, gI_mk, gR_wI, gR_wR, gR_mk, gk_wI, gk_wR, gk_mk, gn_wI, gn_wR, gn_mk, nm_0']; exact J.2.1) (fun g' _ => by simp [gI_wI, gI_wR, gI_mk, gR_wI, gR_wR, gR_mk, gk_wI, gk_wR, gk_mk, gn_wI, gn_wR, gn_mk, nm_eq, nm_i]; exact f23 g'), fun j hj => absurd hj (Nat.not_lt_zero _)⟩⟩ (fun a ha => by
    have n4 : a ≠ nm 4 r := fun e => ha (by rw [e]; unfold WRf nm; omega)
    have n5 : a ≠ nm 5 r := fun e => ha (by rw [e]; unfold WRf nm; omega)
    exact (ce_wI n4).trans ((ce_wI n4).trans ((ce_wI n4).trans ((ce_wR n4).trans ((ce_wR n5).trans ((ce_wI n5).trans ((ce_mk n5).trans ((ce_wI n4).trans (ce_mk n4)))))))))
