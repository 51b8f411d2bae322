/-! The model: realising a chunk of a range, one by t. -/
theorem tk_len {F : List (List Int32)} {k : Nat} (h : k ≤ F.length) : (F.take k).length = k := by rw [List.length_take]; omega
theorem nI_subI {a b : Nat} (ha : a < 100000) (hb : b < 100000) : (nI a - nI b).toInt = (a : Int) - b := by
  rw [Int32.toInt_sub, nI_toInt (by omega), nI_toInt (by omega)]; exact Int.bmod_eq_of_le (by omega) (by omega)
theorem nI_no4 {a b : Nat} (ha : a < 100000) (hb : b < 100000) (h : a ≤ b) : ¬ nI 4 ≤ nI a - nI b := fun z => by
  have := i32_le.mp z
  rw [nI_subI ha hb, nI_toInt (by decide)] at this
  omega
theorem nI_no0 {a b : Nat} (ha : a < 100000) (hb : b < 100000) (h : a ≤ b) : ¬ 0 < nI a - nI b := fun z => by
  have := i32_lt.mp z
  have e : (0 : Int32).toInt = 0 := by decide
  rw [nI_subI ha hb, e] at this
  omega
theorem wI_fill {H : Hp} {a k : Nat} {v : Int32} {f : Nat → Int32} (hI : ∀ j, j < k → h_I H a j = f j) (hv : v = f k) : ∀ j, j < k + 1 → h_I (wI H a k v) a j = f j := fun j hj => by
  rw [gI_wI]
  by_cases e : j = k
  · rw [if_pos ⟨rfl, e⟩, hv, e]
  · rw [if_neg (fun z => e z.2)]; exact hI j (by omega)
theorem PO2.lst {h h' : Hp} {s : Nat} (H : PO2 h) (hF : ∀ a, a ≠ nm 3 s → (∀ z, a ≠ nm 26 (16 * z + s)) → ce h' a = ce h a) : PO2 h' :=
  ⟨H.1.elim fun K z => ⟨K, z.fr (fun _ _ => hF _ (nm_ne (by decide) (by decide) (by decide)) (fun z => nm_ne (by decide) (by decide) (by decide)))⟩, H.2.elim fun K z => ⟨K, z.fr (fun _ _ => hF _ (nm_ne (by decide) (by decide) (by decide)) (fun z => nm_ne (by decide) (by decide) (by decide)))⟩⟩
/-- sequences as they can be -/
def QOK (n : Nat) (x : Nat → QIS) : Prop := QWs n x ∧ n ≤ 12 ∧ ∀ s, s < n → capB (q_cp (x s))
/-- realising the next chunk of s does what it should, whatever is realised -/
def RZ (G : GG) (x : Nat → QIS) (n s : Nat) : Prop := ∀ (d bc bs : Nat) (Q : Pst) (h : Hp) (r : Nat → Nat), MSQ h n (setR x r) → QV n x r → PO2 h → 3 * s + 14 ≤ d → PC n x (rzR x s r) + rzE x s r ≤ bc + PC n x r + 1 → PS n x (rzR x s r) + 4 * rzE x s r ≤ bs + PS n x r + 4 →
  (∀ h', MSQ h' n (setR x (rzR x s r)) → PO2 h' → FRQ h h' → Q (oRet (vi (rzA x s r))) h') → WP G m_X16_realise d 0 (aargs 0 [vr (some (nm 1 0)), vr (some (nm 2 s))]) [] h bc bs Q
set_option maxRecDepth 100000 in
set_option maxHeartbeats 4000000 in
theorem l_X16_realiseR {G : GG} {d bc bs : Nat} {Q : Pst} {s K p e : Nat} {o : OFS} {h1 : Hp} (hp : p ≤ 8) (he : e ≤ 4) (hq : ∀ h', PEr h' (nm 22 K) ((List.range e).map (fun j => (OF_num o + OF_stp o * nI (4 * p + j)))) → (∀ b, b ≠ nm 22 K → ce h' b = ce h1 b) → WP G m_X16_realise d 89 [(4, vr (some (nm 22 K))), (0, vr (some (nm 1 0))), (1, vr (some (nm 2 s)))] [] h' bc bs Q) : ∀ m k H, k + m = e → OF H s o → h_k H (nm 22 K) = 101 → h_n H (nm 22 K) = e → (∀ j, j < k → h_I H (nm 22 K) j = (OF_num o + OF_stp o * nI (4 * p + j))) → (∀ b, b ≠ nm 22 K → ce H b = ce h1 b) → WP G m_X16_realise d 56 [(5, vi (nI k)), (4, vr (some (nm 22 K))), (3, vi (nI e)), (2, vi (nI p)), (0, vr (some (nm 1 0))), (1, vr (some (nm 2 s)))] [] H bc bs Q := by
  intro m
  induction m with
  | zero =>
    intro k H hk hO hK1 hK2 hI hF
    have hk : k = e := hk
    refine wp_iload (i := 5) dX16_realise_56 rfl ?_
    refine wp_iload_n (i := 3) dX16_realise_58 rfl rfl ?_
    refine wp_icmp_geN 89 dX16_realise_59 (by decide) (by omega) (by omega) (fun c_59 => ?_) (fun c_59 => absurd c_59 (by omega))
    refine wp_sub [(4, vr (some (nm 22 K))), (0, vr (some (nm 1 0))), (1, vr (some (nm 2 s)))] (sb_cons (.tail _ (.head _)) (sb_cons (.tail _ (.tail _ (.tail _ (.tail _ (.head _))))) (sb_cons (.tail _ (.tail _ (.tail _ (.tail _ (.tail _ (.head _)))))) sb_nil))) ?_
    exact hq H ⟨⟨K, rfl⟩, hK1, by rw [hK2]; simp, fun j hj => by rw [List.getElem_map, List.getElem_range]; exact hI j (by simp at hj; omega)⟩ hF
  | succ m ih =>
    intro k H hk hO hK1 hK2 hI hF
    refine wp_iload (i := 5) dX16_realise_56 rfl ?_
    refine wp_iload_n (i := 3) dX16_realise_58 rfl rfl ?_
    refine wp_icmp_geN 89 dX16_realise_59 (by decide) (by omega) (by omega) (fun c_59 => absurd c_59 (by omega)) (fun c_59 => ?_)
    refine wp_aload (i := 4) dX16_realise_62 rfl ?_
    refine wp_iload (i := 5) dX16_realise_64 rfl ?_
    refine wp_aload_n (i := 1) dX16_realise_66 rfl rfl ?_
    refine wp_get 15 2 (vi (OF_num o)) dX16_realise_67 hO.k0 (by decide) (by decide) fl_X16_192 (congrArg (fun z => toV (vi z)) (hO.f_num)) ?_
    refine wp_aload_n (i := 1) dX16_realise_70 rfl rfl ?_
    refine wp_get 15 3 (vi (OF_stp o)) dX16_realise_71 hO.k0 (by decide) (by decide) fl_X16_195 (congrArg (fun z => toV (vi z)) (hO.f_stp)) ?_
    refine wp_iconst (nI 4) dX16_realise_74 (by decide) ?_
    refine wp_iload_n (i := 2) dX16_realise_75 rfl rfl ?_
    refine wp_imulN dX16_realise_76 ?_
    refine wp_iload (i := 5) dX16_realise_77 rfl ?_
    refine wp_iaddN dX16_realise_79 ?_
    refine wp_imul dX16_realise_80 ?_
    refine wp_iadd dX16_realise_81 ?_
    refine wp_iastoreN e dX16_realise_82 hK1 hK2 (by omega) (by omega) ?_
    refine wp_iincN (a := k) (lv' := [(5, vi (nI (k + 1))), (4, vr (some (nm 22 K))), (3, vi (nI e)), (2, vi (nI p)), (0, vr (some (nm 1 0))), (1, vr (some (nm 2 s)))]) 1 dX16_realise_83 rfl (by decide) (by decide) rfl ?_
    refine wp_goto 56 dX16_realise_86 (by decide) ?_
    refine wp_sub [(5, vi (nI (k + 1))), (4, vr (some (nm 22 K))), (3, vi (nI e)), (2, vi (nI p)), (0, vr (some (nm 1 0))), (1, vr (some (nm 2 s)))] (sb_cons (.head _) (sb_cons (.tail _ (.head _)) (sb_cons (.tail _ (.tail _ (.head _))) (sb_cons (.tail _ (.tail _ (.tail _ (.head _)))) (sb_cons (.tail _ (.tail _ (.tail _ (.tail _ (.head _))))) (sb_cons (.tail _ (.tail _ (.tail _ (.tail _ (.tail _ (.head _)))))) sb_nil)))))) ?_
    exact ih (k + 1) _ (by omega) (hO.frm (ce_wI (nm_ne (by decide) (by decide) (by decide)))) hK1 hK2 (wI_fill hI rfl) (fun b hb => (ce_wI hb).trans (hF b hb))
set_option maxRecDepth 100000 in
set_option maxHeartbeats 4000000 in
theorem c_X16_realiseR1 {G : GG} {d bc bs : Nat} {h : Hp} {Q : Pst} {n s : Nat} {x : Nat → QIS} {r : Nat → Nat} (hX : QOK n x) (hs : s < n) (hM : MSQ h n (setR x r)) (hV : QV n x r) (hP : PO2 h) (hd : 3 * s + 14 ≤ d) (hbc : PC n x (rzR x s r) + rzE x s r ≤ bc + PC n x r + 1) (hbs : PS n x (rzR x s r) + 4 * rzE x s r ≤ bs + PS n x r + 4) (hq : ∀ h', MSQ h' n (setR x (rzR x s r)) → PO2 h' → FRQ h h' → Q (oRet (vi (rzA x s r))) h') (hR : q_w (x s) = nI 114) (hlt : r s < (q_F (x s)).length)  : WP G m_X16_realise d 0 (aargs 0 [vr (some (nm 1 0)), vr (some (nm 2 s))]) [] h bc bs Q := by
  have hW := hX.1
  have hn12 := hX.2.1
  have hcap := hX.2.2 s hs
  have hl := (hV s hs).1
  obtain ⟨-, -, m, hm24, hmny, hlen, hF⟩ := qs_R hW hs hR
  have h24 := (hW s hs).1
  obtain ⟨⟨K2, hK2⟩, K, hK⟩ := id hP
  rw [rz_R1 hR hlt] at hbc hbs hq
  rw [(rz_1 hlt).2.1] at hq
  rw [(rz_1 hlt).2.2] at hbc hbs
  obtain ⟨e1, e2⟩ := PC_st (r := r) hs hcap (by omega)
  rw [e1] at hbc
  rw [e2] at hbs
  refine wp_sub [(0, vr (some (nm 1 0))), (1, vr (some (nm 2 s)))] (fun _ hz => hz) ?_
  refine wp_aload_n (i := 1) dX16_realise_0 rfl rfl ?_
  refine wp_get 15 5 (vr (some (nm 3 s))) dX16_realise_1 (hM.2.2.1 s hs).1.k0 (by decide) (by decide) fl_X16_182 (congrArg (fun z => toV (vr z)) ((hM.2.2.1 s hs).1.r6_5)) ?_
  have hL1 : LRc _ (nm 3 s) 26 s ((q_F (x s)).take (r s)) (capR x r s) := (hM.2.2.1 s hs).2
  refine wp_cV (y' := m_Jx4a65c_size_8abf5) 2 [] [] 0 0 dX16_realise_4 ml_X16_168 im_Jx4a65c_size_8abf5 se_Jx4a65c_size_8abf5 (by decide) (hM.2.2.1 s hs).2.k ok_Jx4a65c_size_8abf5 rfl (Nat.le_of_ble_eq_true rfl) rfl (Nat.le_of_ble_eq_true rfl) (d' := d - 1) (by omega) (Nat.zero_le _) (Nat.zero_le _) (c_LP_size hL1.w (cont_ret ?_))
  rw [tk_len hl]
  refine wp_istore_n (i := 2) (lv' := [(2, vi (nI (r s))), (0, vr (some (nm 1 0))), (1, vr (some (nm 2 s)))]) dX16_realise_7 rfl (by decide) rfl ?_
  refine wp_aload_n (i := 1) dX16_realise_8 rfl rfl ?_
  refine wp_get 15 0 (vi (nI 114)) dX16_realise_9 (hM.2.2.1 s hs).1.k0 (by decide) (by decide) fl_X16_185 (congrArg (fun z => toV (vi z)) (((hM.2.2.1 s hs).1.f_way).trans (hR))) ?_
  refine wp_bipush (nI 114) dX16_realise_12 (by decide) ?_
  refine wp_icmp_neN 101 dX16_realise_14 (by decide) (by decide) (by decide) (fun c_14 => absurd c_14 (by decide)) (fun c_14 => ?_)
  have K41 : ∀ e3 : Nat, e3 = min (m - 4 * r s) 4 → WP G m_X16_realise d 41 [(2, vi (nI (r s))), (0, vr (some (nm 1 0))), (1, vr (some (nm 2 s)))] [vi (nI e3)] h bc bs Q := by
    intro e3 j_41
    refine wp_istore_n (i := 3) (lv' := [(3, vi (nI e3)), (2, vi (nI (r s))), (0, vr (some (nm 1 0))), (1, vr (some (nm 2 s)))]) dX16_realise_41 rfl (by decide) rfl ?_
    refine wp_iload_n (i := 3) dX16_realise_42 rfl rfl ?_
    refine wp_if_gtN 48 dX16_realise_43 (by decide) (by omega) (fun c_43 => ?_) (fun c_43 => absurd c_43 (by omega))
    refine wp_iload_n (i := 3) dX16_realise_48 rfl rfl ?_
    refine wp_newarray 101 e3 .int dX16_realise_49 rfl rfl aw_int (nI_nn (by omega)) (nI_clamp (by omega)) (by omega) (by decide) pl_int (by omega) (by omega) (nm 22 K2) (hK2 K2 (Nat.le_refl _)) ?_
    refine wp_astore (i := 4) (lv' := [(4, vr (some (nm 22 K2))), (3, vi (nI e3)), (2, vi (nI (r s))), (0, vr (some (nm 1 0))), (1, vr (some (nm 2 s)))]) dX16_realise_51 (by decide) rfl ?_
    refine wp_iconst (nI 0) dX16_realise_53 (by decide) ?_
    refine wp_istore (i := 5) (lv' := [(5, vi (nI 0)), (4, vr (some (nm 22 K2))), (3, vi (nI e3)), (2, vi (nI (r s))), (0, vr (some (nm 1 0))), (1, vr (some (nm 2 s)))]) dX16_realise_54 (by decide) rfl ?_
    refine wp_sub [(5, vi (nI 0)), (4, vr (some (nm 22 K2))), (3, vi (nI e3)), (2, vi (nI (r s))), (0, vr (some (nm 1 0))), (1, vr (some (nm 2 s)))] (sb_cons (.head _) (sb_cons (.tail _ (.head _)) (sb_cons (.tail _ (.tail _ (.head _))) (sb_cons (.tail _ (.tail _ (.tail _ (.head _)))) (sb_cons (.tail _ (.tail _ (.tail _ (.tail _ (.head _))))) (sb_cons (.tail _ (.tail _ (.tail _ (.tail _ (.tail _ (.head _)))))) sb_nil)))))) ?_
    refine l_X16_realiseR (o := q_o (x s)) (h1 := h) (by omega) (by omega) (fun H1 E C1 => ?_) e3 0 _ (by omega) ((hM.2.2.1 s hs).1.frm (ce_mk (nm_ne (by decide) (by decide) (by decide)))) (by rw [gk_mk, if_pos rfl]) (by rw [gn_mk, if_pos rfl]) (fun j hj => absurd hj (Nat.not_lt_zero _)) (fun b hb => ce_mk hb)
    have hM1 := hM.row (hK2 K2 (Nat.le_refl _)) C1
    have hP1 := PO2.row hK2 hK C1
    have hfr := hK2 K2 (Nat.le_refl _)
    refine wp_aload_n (i := 1) dX16_realise_89 rfl rfl ?_
    refine wp_get 15 5 (vr (some (nm 3 s))) dX16_realise_90 (hM1.2.2.1 s hs).1.k0 (by decide) (by decide) fl_X16_182 (congrArg (fun z => toV (vr z)) ((hM1.2.2.1 s hs).1.r6_5)) ?_
    refine wp_aload (i := 4) dX16_realise_93 rfl ?_
    have hL2 : LRc _ (nm 3 s) 26 s ((q_F (x s)).take (r s)) (capR x r s) := (hM1.2.2.1 s hs).2
    refine wp_cV (y' := m_Jx4a65c_add_9ea2d) 2 [vr (some (nm 22 K2))] [] ((gcC (r s) (capR x r s))) ((gcS (r s) (capR x r s))) dX16_realise_95 ml_X16_175 im_Jx4a65c_add_9ea2d se_Jx4a65c_add_9ea2d (by decide) (hM1.2.2.1 s hs).2.k ok_Jx4a65c_add_9ea2d rfl (Nat.le_of_ble_eq_true rfl) rfl (Nat.le_of_ble_eq_true rfl) (d' := d - 1) (by omega) (by omega) (by omega) (c_LQ_add hL2 E (by rw [tk_len hl]; omega) (by decide) (by decide) (by omega) (by rw [tk_len hl]; exact Nat.le_refl _) (by rw [tk_len hl]; exact Nat.le_refl _) (fun h2 L2 C2 => cont_ret ?_))
    rw [tk_len hl] at L2
    refine wp_pop dX16_realise_98 ?_
    refine wp_iconst (nI 1) dX16_realise_99 (by decide) ?_
    refine wp_ireturn dX16_realise_100 rfl ?_
    have hM2 := hM1.add hs (by omega) hlt (by omega) (by rw [hF _ hlt, ← j_41]) hcap L2 C2
    exact hq _ hM2 (hP1.lst C2) ((FRQ.row hfr C1).tr (FRQ.add C2))
  refine wp_aload_n (i := 1) dX16_realise_17 rfl rfl ?_
  refine wp_get 15 4 (vi (nI m)) dX16_realise_18 (hM.2.2.1 s hs).1.k0 (by decide) (by decide) fl_X16_189 (congrArg (fun z => toV (vi z)) (((hM.2.2.1 s hs).1.f_mny).trans (hmny))) ?_
  refine wp_iconst (nI 4) dX16_realise_21 (by decide) ?_
  refine wp_iload_n (i := 2) dX16_realise_22 rfl rfl ?_
  refine wp_imulN dX16_realise_23 ?_
  refine wp_isubN dX16_realise_24 (by omega) ?_
  refine wp_iconst (nI 4) dX16_realise_25 (by decide) ?_
  refine wp_icmp_geN 40 dX16_realise_26 (by decide) (by omega) (by decide) (fun c_26 => ?_) (fun c_26 => ?_)
  · skip
    refine wp_iconst (nI 4) dX16_realise_40 (by decide) ?_
    exact K41 _ (by omega)
  · skip
    refine wp_aload_n (i := 1) dX16_realise_29 rfl rfl ?_
    refine wp_get 15 4 (vi (nI m)) dX16_realise_30 (hM.2.2.1 s hs).1.k0 (by decide) (by decide) fl_X16_189 (congrArg (fun z => toV (vi z)) (((hM.2.2.1 s hs).1.f_mny).trans (hmny))) ?_
    refine wp_iconst (nI 4) dX16_realise_33 (by decide) ?_
    refine wp_iload_n (i := 2) dX16_realise_34 rfl rfl ?_
    refine wp_imulN dX16_realise_35 ?_
    refine wp_isubN dX16_realise_36 (by omega) ?_
    refine wp_goto 41 dX16_realise_37 (by decide) ?_
    exact K41 _ (by omega)
set_option maxRecDepth 100000 in
set_option maxHeartbeats 4000000 in
theorem c_X16_realiseR0 {G : GG} {d bc bs : Nat} {h : Hp} {Q : Pst} {n s : Nat} {x : Nat → QIS} {r : Nat → Nat} (hX : QOK n x) (hs : s < n) (hM : MSQ h n (setR x r)) (hV : QV n x r) (hP : PO2 h) (hd : 3 * s + 14 ≤ d) (hbc : PC n x (rzR x s r) + rzE x s r ≤ bc + PC n x r + 1) (hbs : PS n x (rzR x s r) + 4 * rzE x s r ≤ bs + PS n x r + 4) (hq : ∀ h', MSQ h' n (setR x (rzR x s r)) → PO2 h' → FRQ h h' → Q (oRet (vi (rzA x s r))) h') (hR : q_w (x s) = nI 114) (he : r s = (q_F (x s)).length)  : WP G m_X16_realise d 0 (aargs 0 [vr (some (nm 1 0)), vr (some (nm 2 s))]) [] h bc bs Q := by
  have hW := hX.1
  have hn12 := hX.2.1
  have hcap := hX.2.2 s hs
  have hl := (hV s hs).1
  obtain ⟨-, -, m, hm24, hmny, hlen, hF⟩ := qs_R hW hs hR
  have h24 := (hW s hs).1
  obtain ⟨⟨K2, hK2⟩, K, hK⟩ := id hP
  rw [(rz_R0 hW hs hR he).1, (rz_R0 hW hs hR he).2] at hq
  refine wp_sub [(0, vr (some (nm 1 0))), (1, vr (some (nm 2 s)))] (fun _ hz => hz) ?_
  refine wp_aload_n (i := 1) dX16_realise_0 rfl rfl ?_
  refine wp_get 15 5 (vr (some (nm 3 s))) dX16_realise_1 (hM.2.2.1 s hs).1.k0 (by decide) (by decide) fl_X16_182 (congrArg (fun z => toV (vr z)) ((hM.2.2.1 s hs).1.r6_5)) ?_
  have hL3 : LRc _ (nm 3 s) 26 s ((q_F (x s)).take (r s)) (capR x r s) := (hM.2.2.1 s hs).2
  refine wp_cV (y' := m_Jx4a65c_size_8abf5) 2 [] [] 0 0 dX16_realise_4 ml_X16_168 im_Jx4a65c_size_8abf5 se_Jx4a65c_size_8abf5 (by decide) (hM.2.2.1 s hs).2.k ok_Jx4a65c_size_8abf5 rfl (Nat.le_of_ble_eq_true rfl) rfl (Nat.le_of_ble_eq_true rfl) (d' := d - 1) (by omega) (Nat.zero_le _) (Nat.zero_le _) (c_LP_size hL3.w (cont_ret ?_))
  rw [tk_len hl]
  refine wp_istore_n (i := 2) (lv' := [(2, vi (nI (r s))), (0, vr (some (nm 1 0))), (1, vr (some (nm 2 s)))]) dX16_realise_7 rfl (by decide) rfl ?_
  refine wp_aload_n (i := 1) dX16_realise_8 rfl rfl ?_
  refine wp_get 15 0 (vi (nI 114)) dX16_realise_9 (hM.2.2.1 s hs).1.k0 (by decide) (by decide) fl_X16_185 (congrArg (fun z => toV (vi z)) (((hM.2.2.1 s hs).1.f_way).trans (hR))) ?_
  refine wp_bipush (nI 114) dX16_realise_12 (by decide) ?_
  refine wp_icmp_neN 101 dX16_realise_14 (by decide) (by decide) (by decide) (fun c_14 => absurd c_14 (by decide)) (fun c_14 => ?_)
  refine wp_aload_n (i := 1) dX16_realise_17 rfl rfl ?_
  refine wp_get 15 4 (vi (nI m)) dX16_realise_18 (hM.2.2.1 s hs).1.k0 (by decide) (by decide) fl_X16_189 (congrArg (fun z => toV (vi z)) (((hM.2.2.1 s hs).1.f_mny).trans (hmny))) ?_
  refine wp_iconst (nI 4) dX16_realise_21 (by decide) ?_
  refine wp_iload_n (i := 2) dX16_realise_22 rfl rfl ?_
  refine wp_imulN dX16_realise_23 ?_
  refine wp_isub dX16_realise_24 ?_
  refine wp_iconst (nI 4) dX16_realise_25 (by decide) ?_
  refine wp_icmp_ge 40 dX16_realise_26 (by decide) (fun c_26 => absurd c_26 (nI_no4 (by omega) (by omega) (by omega))) (fun c_26 => ?_)
  refine wp_aload_n (i := 1) dX16_realise_29 rfl rfl ?_
  refine wp_get 15 4 (vi (nI m)) dX16_realise_30 (hM.2.2.1 s hs).1.k0 (by decide) (by decide) fl_X16_189 (congrArg (fun z => toV (vi z)) (((hM.2.2.1 s hs).1.f_mny).trans (hmny))) ?_
  refine wp_iconst (nI 4) dX16_realise_33 (by decide) ?_
  refine wp_iload_n (i := 2) dX16_realise_34 rfl rfl ?_
  refine wp_imulN dX16_realise_35 ?_
  refine wp_isub dX16_realise_36 ?_
  refine wp_goto 41 dX16_realise_37 (by decide) ?_
  refine wp_topi (fun x_41 e_41 => ?_)
  refine wp_istore_n (i := 3) (lv' := [(3, vi x_41), (2, vi (nI (r s))), (0, vr (some (nm 1 0))), (1, vr (some (nm 2 s)))]) dX16_realise_41 rfl (by decide) rfl ?_
  refine wp_iload_n (i := 3) dX16_realise_42 rfl rfl ?_
  refine wp_if_gt 48 dX16_realise_43 (by decide) (fun c_43 => absurd c_43 (by rw [e_41]; exact nI_no0 (by omega) (by omega) (by omega))) (fun c_43 => ?_)
  refine wp_iconst (nI 0) dX16_realise_46 (by decide) ?_
  refine wp_ireturn dX16_realise_47 rfl ?_
  exact hq _ hM hP FRQ.rf
