/-! The model: sequences on the heap. -/
/-- the model's sequences: n of them, x -/
def MSQ (h : Hp) (n : Nat) (x : Nat → QIS) : Prop :=
  MF h (nm 1 0) (nm 1) ∧ LOb h (nm 1 11) 31 0 2 n ∧ (∀ s, s < n → OF h s (q_o (x s)) ∧ LRc h (nm 3 s) 26 s ((q_F (x s)).take (q_rc (x s))) (q_cp (x s))) ∧ FreeI h 2 n ∧ FreeI h 3 n ∧ FreeL h 26 n
theorem MSQ.all {h h' : Hp} {n : Nat} {x : Nat → QIS} (H : MSQ h n x) (hm : ∀ i, i ≤ 18 → ce h' (nm 1 i) = ce h (nm 1 i)) (h0 : ce h' 0 = ce h 0) (h22 : ∀ k, h_k h (nm 22 k) ≠ 0 → ce h' (nm 22 k) = ce h (nm 22 k)) (hr : ∀ r i, r = 2 ∨ r = 3 ∨ r = 26 ∨ r = 31 → ce h' (nm r i) = ce h (nm r i)) : MSQ h' n x :=
  ⟨H.1.fr (ce_k (hm 0 (by decide))) (ce_R (hm 0 (by decide))) (fun i _ hi => ⟨ce_k (hm i hi), ce_n (hm i hi)⟩), H.2.1.frm h0 (hm 11 (by decide)) (fun z => hr _ _ (by decide)),
    fun s hs => ⟨(H.2.2.1 s hs).1.frm (hr _ _ (by decide)), (H.2.2.1 s hs).2.frm h0 (hr _ _ (by decide)) (fun z => hr _ _ (by decide)) h22⟩,
    H.2.2.2.1.fr (fun i _ => hr _ _ (by decide)), H.2.2.2.2.1.fr (fun i _ => hr _ _ (by decide)), H.2.2.2.2.2.fr (fun i _ _ z => hr _ _ (by decide))⟩
def WQQ (a : Nat) : Prop := a % 128 = 3 ∨ a % 128 = 26 ∨ a % 128 = 22 ∨ a % 128 = 30
/-- what realising may change -/
def FRQ (h h' : Hp) : Prop := (∀ a, ¬ WQQ a → ce h' a = ce h a) ∧ ∀ k, h_k h (nm 22 k) ≠ 0 → ce h' (nm 22 k) = ce h (nm 22 k)
theorem FRQ.rf {h : Hp} : FRQ h h := ⟨fun _ _ => rfl, fun _ _ => rfl⟩
theorem FRQ.tr {h h1 h2 : Hp} (a : FRQ h h1) (b : FRQ h1 h2) : FRQ h h2 :=
  ⟨fun x hx => (b.1 x hx).trans (a.1 x hx), fun k hk => (b.2 k (by rw [ce_k (a.2 k hk)]; exact hk)).trans (a.2 k hk)⟩
section MQI
variable {h h' : Hp} {n K : Nat} {x : Nat → QIS}
theorem MSQ.it (H : MSQ h n x) (hc : ∀ b, b ≠ nm 30 K → ce h' b = ce h b) : MSQ h' n x :=
  H.all (fun i _ => hc _ (nm_ne (by decide) (by decide) (by decide))) (hc 0 (by unfold nm; omega)) (fun k _ => hc _ (nm_ne (by decide) (by decide) (by decide))) (fun r i hr => hc _ (nm_ne (by omega) (by omega) (by decide)))
theorem FRQ.it (hc : ∀ b, b ≠ nm 30 K → ce h' b = ce h b) : FRQ h h' := ⟨fun a ha => hc a (fun e => ha (by rw [e]; unfold WQQ nm; omega)), fun k _ => hc _ (nm_ne (by decide) (by decide) (by decide))⟩
theorem MSQ.row (H : MSQ h n x) (hf : h_k h (nm 22 K) = 0) (hc : ∀ b, b ≠ nm 22 K → ce h' b = ce h b) : MSQ h' n x :=
  H.all (fun i _ => hc _ (nm_ne (by decide) (by decide) (by decide))) (hc 0 (by unfold nm; omega)) (fun k hk => hc _ (fun e => hk (by rw [e]; exact hf))) (fun r i hr => hc _ (nm_ne (by omega) (by omega) (by decide)))
theorem FRQ.row (hf : h_k h (nm 22 K) = 0) (hc : ∀ b, b ≠ nm 22 K → ce h' b = ce h b) : FRQ h h' := ⟨fun a ha => hc a (fun e => ha (by rw [e]; unfold WQQ nm; omega)), fun k hk => hc _ (fun e => hk (by rw [e]; exact hf))⟩
theorem PO2.itq {K : Nat} (H : PO2 h) (hK : FreeI h 30 K) (hc : ∀ b, b ≠ nm 30 K → ce h' b = ce h b) : PO2 h' := (PI.of H hK hc).po
end MQI
theorem take_gD : ∀ (F : List (List Int32)) (k : Nat), k < F.length → F.take (k + 1) = F.take k ++ [F.getD k []]
  | [], _, h => absurd h (Nat.not_lt_zero _)
  | a :: F, 0, _ => by simp
  | a :: F, k + 1, h => by
    rw [List.take_succ_cons, List.take_succ_cons, take_gD F k (by simpa using h), List.getD_cons_succ, List.cons_append]
theorem gD_eq {xs : List (List Int32)} {c : Nat} (hc : c < xs.length) : xs[c] = xs.getD c [] := by simp [List.getD, List.getElem?_eq_getElem hc]
theorem gI_eq {e : List Int32} {c : Nat} (hc : c < e.length) : e[c] = e.getD c (nI 0) := by simp [List.getD, List.getElem?_eq_getElem hc]
theorem tot_drop {xs : List (List Int32)} {c : Nat} (hc : c < xs.length) : tot (xs.drop c) = (xs.getD c []).length + tot (xs.drop (c + 1)) := by rw [getD_cons hc [], tot]
theorem atF_drop {xs : List (List Int32)} {c p : Nat} (hc : c < xs.length) : atF (xs.drop c) p = if p < (xs.getD c []).length then (xs.getD c []).getD p (nI 0) else atF (xs.drop (c + 1)) (p - (xs.getD c []).length) := by rw [getD_cons hc [], atF]
theorem MSQ.add {h h' : Hp} {n s : Nat} {x : Nat → QIS} {r : Nat → Nat} {c : List Int32} (H : MSQ h n (setR x r)) (hs : s < n) (hn : n ≤ 16) (hr : r s < (q_F (x s)).length) (h24 : r s < 24) (hc : (q_F (x s)).getD (r s) [] = c) (hcap : capB (q_cp (x s)))
    (L : LRc h' (nm 3 s) 26 s ((q_F (x s)).take (r s) ++ [c]) (gcN (r s) (capR x r s))) (hF : ∀ a, a ≠ nm 3 s → (∀ z, a ≠ nm 26 (16 * z + s)) → ce h' a = ce h a) : MSQ h' n (setR x (va_up r s (r s + 1))) := by
  have h0 : ce h' 0 = ce h 0 := hF 0 (by unfold nm; omega) (fun z => by unfold nm; omega)
  refine ⟨H.1.fr (ce_k (hF _ (nm_ne (by decide) (by decide) (by decide)) (fun z => nm_ne (by decide) (by decide) (by decide)))) (ce_R (hF _ (nm_ne (by decide) (by decide) (by decide)) (fun z => nm_ne (by decide) (by decide) (by decide)))) (fun i _ hi => ⟨ce_k (hF _ (nm_ne (by decide) (by decide) (by decide)) (fun z => nm_ne (by decide) (by decide) (by decide))), ce_n (hF _ (nm_ne (by decide) (by decide) (by decide)) (fun z => nm_ne (by decide) (by decide) (by decide)))⟩),
    H.2.1.frm h0 (hF _ (nm_ne (by decide) (by decide) (by decide)) (fun z => nm_ne (by decide) (by decide) (by decide))) (fun z => hF _ (nm_ne (by decide) (by decide) (by decide)) (fun z => nm_ne (by decide) (by decide) (by decide))), fun t ht => ⟨?_, ?_⟩,
    H.2.2.2.1.fr (fun i _ => hF _ (nm_ne (by decide) (by decide) (by decide)) (fun z => nm_ne (by decide) (by decide) (by decide))), H.2.2.2.2.1.fr (fun i hi => hF _ (nm_nei (by omega)) (fun z => nm_ne (by decide) (by decide) (by decide))), H.2.2.2.2.2.fr (fun i hi h16 z => hF _ (nm_ne (by decide) (by decide) (by decide)) (fun z => nm_nei (by omega)))⟩
  · exact (H.2.2.1 t ht).1.frm (hF _ (nm_ne (by decide) (by decide) (by decide)) (fun z => nm_ne (by decide) (by decide) (by decide)))
  · by_cases e : t = s
    · subst e
      have e1 : va_up r t (r t + 1) t = r t + 1 := by rw [va_up_app, if_pos rfl]
      show LRc h' (nm 3 t) 26 t ((q_F (x t)).take (va_up r t (r t + 1) t)) (max (q_cp (x t)) (cp (va_up r t (r t + 1) t)))
      rw [e1, take_gD _ _ hr, hc, ← (cp_st _ hcap.in (r t) h24).1]
      exact L
    · have e1 : va_up r s (r s + 1) t = r t := by rw [va_up_app, if_neg e]
      show LRc h' (nm 3 t) 26 t ((q_F (x t)).take (va_up r s (r s + 1) t)) (max (q_cp (x t)) (cp (va_up r s (r s + 1) t)))
      rw [e1]
      exact (H.2.2.1 t ht).2.frm h0 (hF _ (nm_nei e) (fun z => nm_ne (by decide) (by decide) (by decide))) (fun z => hF _ (nm_ne (by decide) (by decide) (by decide)) (fun z => nm_nei (by omega))) (fun k _ => hF _ (nm_ne (by decide) (by decide) (by decide)) (fun z => nm_ne (by decide) (by decide) (by decide)))
theorem FRQ.add {h h' : Hp} {s : Nat} (hF : ∀ a, a ≠ nm 3 s → (∀ z, a ≠ nm 26 (16 * z + s)) → ce h' a = ce h a) : FRQ h h' :=
  ⟨fun a ha => hF a (fun e => ha (by rw [e]; unfold WQQ nm; omega)) (fun z e => ha (by rw [e]; unfold WQQ nm; omega)), fun k _ => hF _ (nm_ne (by decide) (by decide) (by decide)) (fun z => nm_ne (by decide) (by decide) (by decide))⟩
set_option maxRecDepth 100000 in
set_option maxHeartbeats 4000000 in
theorem l_X14_elements {G : GG} {d bc bs : Nat} {Q : Pst} {h0 : Hp} {s K : Nat} {xs : List (List Int32)} (hd : 7 ≤ d) (ht : tot xs < 1000000) (hq : ∀ h', (∀ b, b ≠ nm 30 K → ce h' b = ce h0 b) → Q (oRet (vi (nI (tot xs)))) h') : ∀ m c H a, c + m = xs.length → a + tot (xs.drop c) = tot xs → LRw H (nm 3 s) 26 s xs → IT H (nm 30 K) (nm 3 s) c → (∀ b, b ≠ nm 30 K → ce H b = ce h0 b) → WP G m_X14_elements d 10 [(2, vr (some (nm 30 K))), (1, vi (nI a)), (0, vr (some (nm 2 s)))] [] H bc bs Q := by
  intro m
  induction m with
  | zero =>
    intro c H a hc hT L I hF
    have hc : c = xs.length := hc
    have ea : a = tot xs := by rw [hc, List.drop_length, tot] at hT; omega
    refine wp_aload_n (i := 2) dX14_elements_10 rfl rfl ?_
    refine wp_cF (y' := m_Jx35411_hasNext_aae02) [] [] 0 0 dX14_elements_11 ml_X14_37 sx_java_util_ArrayList_Itr_Jx35411_hasNext_aae02 im_Jx35411_hasNext_aae02 fw_0 ⟨by decide, by decide, by decide⟩ I.1 ok_Jx35411_hasNext_aae02 rfl (Nat.le_of_ble_eq_true rfl) rfl (Nat.le_of_ble_eq_true rfl) (d' := d - 1) (by omega) (Nat.zero_le _) (Nat.zero_le _) (c_LP_hasNext L I (by omega) (cont_ret ?_))
    refine wp_if_eqB 37 dX14_elements_16 (by decide) (fun c_16 => ?_) (fun c_16 => absurd c_16 (fun z => absurd (of_decide_eq_true z) (by omega)))
    refine wp_iload_n (i := 1) dX14_elements_37 rfl rfl ?_
    refine wp_ireturn dX14_elements_38 rfl ?_
    rw [ea]
    exact hq _ hF
  | succ m ih =>
    intro c H a hc hT L I hF
    have hcl : c < xs.length := by omega
    have hT2 := tot_drop hcl
    refine wp_aload_n (i := 2) dX14_elements_10 rfl rfl ?_
    refine wp_cF (y' := m_Jx35411_hasNext_aae02) [] [] 0 0 dX14_elements_11 ml_X14_37 sx_java_util_ArrayList_Itr_Jx35411_hasNext_aae02 im_Jx35411_hasNext_aae02 fw_0 ⟨by decide, by decide, by decide⟩ I.1 ok_Jx35411_hasNext_aae02 rfl (Nat.le_of_ble_eq_true rfl) rfl (Nat.le_of_ble_eq_true rfl) (d' := d - 1) (by omega) (Nat.zero_le _) (Nat.zero_le _) (c_LP_hasNext L I (by omega) (cont_ret ?_))
    refine wp_if_eqB 37 dX14_elements_16 (by decide) (fun c_16 => absurd c_16 (fun z => absurd (of_decide_eq_false z) (by omega))) (fun c_16 => ?_)
    refine wp_aload_n (i := 2) dX14_elements_19 rfl rfl ?_
    refine wp_cF (y' := m_Jx35411_next_0502b) [] [] 0 0 dX14_elements_20 ml_X14_43 sx_java_util_ArrayList_Itr_Jx35411_next_0502b im_Jx35411_next_0502b fw_1 ⟨by decide, by decide, by decide⟩ I.1 ok_Jx35411_next_0502b rfl (Nat.le_of_ble_eq_true rfl) rfl (Nat.le_of_ble_eq_true rfl) (d' := d - 1) (by omega) (Nat.zero_le _) (Nat.zero_le _) (c_LP_next L I (by omega) (kq := K) rfl (by decide) (by decide) (by omega) (fun h2 ra E L2 I2 C2 => cont_ret ?_))
    rw [gD_eq hcl] at E
    refine wp_castA .int dX14_elements_25 (by decide) kl_X14_47 (fun a ha => by cases ha; exact arTy_101 E.2.1) ?_
    refine wp_astore_n (i := 3) (lv' := [(3, vr (some ra)), (2, vr (some (nm 30 K))), (1, vi (nI a)), (0, vr (some (nm 2 s)))]) dX14_elements_28 rfl (by decide) rfl ?_
    refine wp_iload_n (i := 1) dX14_elements_29 rfl rfl ?_
    refine wp_aload_n (i := 3) dX14_elements_30 rfl rfl ?_
    refine wp_alen dX14_elements_31 (arTy_101 E.2.1) ?_
    rw [E.2.2.1]
    refine wp_iaddN dX14_elements_32 ?_
    refine wp_istore_n (i := 1) (lv' := [(1, vi (nI (a + ((xs.getD c []).length)))), (3, vr (some ra)), (2, vr (some (nm 30 K))), (0, vr (some (nm 2 s)))]) dX14_elements_33 rfl (by decide) rfl ?_
    refine wp_goto 10 dX14_elements_34 (by decide) ?_
    refine wp_sub [(2, vr (some (nm 30 K))), (1, vi (nI (a + ((xs.getD c []).length)))), (0, vr (some (nm 2 s)))] (sb_cons (.tail _ (.tail _ (.head _))) (sb_cons (.head _) (sb_cons (.tail _ (.tail _ (.tail _ (.head _)))) sb_nil))) ?_
    exact ih (c + 1) _ _ (by omega) (by omega) L2 I2 (fun b hb => (C2 b hb).trans (hF b hb))
set_option maxRecDepth 100000 in
set_option maxHeartbeats 4000000 in
theorem c_X14_elements {G : GG} {d bc bs : Nat} {h : Hp} {Q : Pst} {s K : Nat} {o : OFS} {xs : List (List Int32)} (hO : OF h s o) (L : LRw h (nm 3 s) 26 s xs) (hK : FreeI h 30 K) (hd : 7 ≤ d) (ht : tot xs < 1000000) (hbc : 1 ≤ bc) (hbs : 4 ≤ bs) (hq : ∀ h', (∀ b, b ≠ nm 30 K → ce h' b = ce h b) → Q (oRet (vi (nI (tot xs)))) h')  : WP G m_X14_elements d 0 (aargs 0 [vr (some (nm 2 s))]) [] h bc bs Q := by
  refine wp_sub [(0, vr (some (nm 2 s)))] (fun _ hz => hz) ?_
  refine wp_iconst (nI 0) dX14_elements_0 (by decide) ?_
  refine wp_istore_n (i := 1) (lv' := [(1, vi (nI 0)), (0, vr (some (nm 2 s)))]) dX14_elements_1 rfl (by decide) rfl ?_
  refine wp_aload_n (i := 0) dX14_elements_2 rfl rfl ?_
  refine wp_get 15 5 (vr (some (nm 3 s))) dX14_elements_3 hO.k0 (by decide) (by decide) fl_X14_10 (congrArg (fun z => toV (vr z)) (hO.r6_5)) ?_
  refine wp_cV (y' := m_Jx4a65c_iterator_32c93) 2 [] [] 1 4 dX14_elements_6 ml_X14_33 im_Jx4a65c_iterator_32c93 se_Jx4a65c_iterator_32c93 (by decide) L.k ok_Jx4a65c_iterator_32c93 rfl (Nat.le_of_ble_eq_true rfl) rfl (Nat.le_of_ble_eq_true rfl) (d' := d - 1) (by omega) (by omega) (by omega) (c_AL_iterator L.k (nm 30 K) (hK K (Nat.le_refl _)) (by omega) (Nat.le_refl _) (Nat.le_refl _) (fun h1 I1 C1 => cont_ret ?_))
  refine wp_astore_n (i := 2) (lv' := [(2, vr (some (nm 30 K))), (1, vi (nI 0)), (0, vr (some (nm 2 s)))]) dX14_elements_9 rfl (by decide) rfl ?_
  refine wp_sub [(2, vr (some (nm 30 K))), (1, vi (nI 0)), (0, vr (some (nm 2 s)))] (sb_cons (.head _) (sb_cons (.tail _ (.head _)) (sb_cons (.tail _ (.tail _ (.head _))) sb_nil))) ?_
  exact l_X14_elements hd ht (h0 := h) hq xs.length 0 _ 0 (by omega) (by rw [List.drop_zero]; omega) (L.frm (C1 0 (by unfold nm; omega)) (C1 _ (nm_ne (by decide) (by decide) (by decide))) (fun z => C1 _ (nm_ne (by decide) (by decide) (by decide))) (fun k _ => C1 _ (nm_ne (by decide) (by decide) (by decide)))) I1 C1
set_option maxRecDepth 100000 in
set_option maxHeartbeats 4000000 in
theorem l_X14_at {G : GG} {d bc bs : Nat} {Q : Pst} {h0 : Hp} {s K p : Nat} {xs : List (List Int32)} (hd : 7 ≤ d) (ht : tot xs < 1000000) (hq : ∀ h', (∀ b, b ≠ nm 30 K → ce h' b = ce h0 b) → Q (oRet (vi (atF xs p))) h') : ∀ m c H a, c + m = xs.length → atF (xs.drop c) a = atF xs p → a < tot (xs.drop c) → a < 1000000 → LRw H (nm 3 s) 26 s xs → IT H (nm 30 K) (nm 3 s) c → (∀ b, b ≠ nm 30 K → ce H b = ce h0 b) → WP G m_X14_at d 10 [(3, vr (some (nm 30 K))), (2, vi (nI a)), (0, vr (some (nm 2 s))), (1, vi (nI p))] [] H bc bs Q := by
  intro m
  induction m with
  | zero =>
    intro c H a hc hT ha ha2 L I hF
    have hc : c = xs.length := hc
    rw [hc, List.drop_length] at ha
    exact absurd ha (Nat.not_lt_zero _)
  | succ m ih =>
    intro c H a hc hT ha ha2 L I hF
    have hcl : c < xs.length := by omega
    have hT2 := tot_drop hcl
    have hT3 : tot (xs.drop c) ≤ tot xs := by
      have := tot_app (xs.take c) (xs.drop c)
      rw [List.take_append_drop] at this
      omega
    refine wp_aload_n (i := 3) dX14_at_10 rfl rfl ?_
    refine wp_cF (y' := m_Jx35411_hasNext_aae02) [] [] 0 0 dX14_at_11 ml_X14_37 sx_java_util_ArrayList_Itr_Jx35411_hasNext_aae02 im_Jx35411_hasNext_aae02 fw_0 ⟨by decide, by decide, by decide⟩ I.1 ok_Jx35411_hasNext_aae02 rfl (Nat.le_of_ble_eq_true rfl) rfl (Nat.le_of_ble_eq_true rfl) (d' := d - 1) (by omega) (Nat.zero_le _) (Nat.zero_le _) (c_LP_hasNext L I (by omega) (cont_ret ?_))
    refine wp_if_eqB 51 dX14_at_16 (by decide) (fun c_16 => absurd c_16 (fun z => absurd (of_decide_eq_false z) (by omega))) (fun c_16 => ?_)
    refine wp_aload_n (i := 3) dX14_at_19 rfl rfl ?_
    refine wp_cF (y' := m_Jx35411_next_0502b) [] [] 0 0 dX14_at_20 ml_X14_43 sx_java_util_ArrayList_Itr_Jx35411_next_0502b im_Jx35411_next_0502b fw_1 ⟨by decide, by decide, by decide⟩ I.1 ok_Jx35411_next_0502b rfl (Nat.le_of_ble_eq_true rfl) rfl (Nat.le_of_ble_eq_true rfl) (d' := d - 1) (by omega) (Nat.zero_le _) (Nat.zero_le _) (c_LP_next L I (by omega) (kq := K) rfl (by decide) (by decide) (by omega) (fun h2 ra E L2 I2 C2 => cont_ret ?_))
    rw [gD_eq hcl] at E
    refine wp_castA .int dX14_at_25 (by decide) kl_X14_47 (fun a ha => by cases ha; exact arTy_101 E.2.1) ?_
    refine wp_astore (i := 4) (lv' := [(4, vr (some ra)), (3, vr (some (nm 30 K))), (2, vi (nI a)), (0, vr (some (nm 2 s))), (1, vi (nI p))]) dX14_at_28 (by decide) rfl ?_
    refine wp_iload_n (i := 2) dX14_at_30 rfl rfl ?_
    refine wp_aload (i := 4) dX14_at_31 rfl ?_
    refine wp_alen dX14_at_33 (arTy_101 E.2.1) ?_
    rw [E.2.2.1]
    refine wp_icmp_geN 42 dX14_at_34 (by decide) (by omega) (by omega) (fun c_34 => ?_) (fun c_34 => ?_)
    · rw [atF_drop hcl, if_neg (by omega)] at hT
      refine wp_iload_n (i := 2) dX14_at_42 rfl rfl ?_
      refine wp_aload (i := 4) dX14_at_43 rfl ?_
      refine wp_alen dX14_at_45 (arTy_101 E.2.1) ?_
      rw [E.2.2.1]
      refine wp_isubN dX14_at_46 (by omega) ?_
      refine wp_istore_n (i := 2) (lv' := [(2, vi (nI (a - ((xs.getD c []).length)))), (4, vr (some ra)), (3, vr (some (nm 30 K))), (0, vr (some (nm 2 s))), (1, vi (nI p))]) dX14_at_47 rfl (by decide) rfl ?_
      refine wp_goto 10 dX14_at_48 (by decide) ?_
      refine wp_sub [(3, vr (some (nm 30 K))), (2, vi (nI (a - ((xs.getD c []).length)))), (0, vr (some (nm 2 s))), (1, vi (nI p))] (sb_cons (.tail _ (.tail _ (.head _))) (sb_cons (.head _) (sb_cons (.tail _ (.tail _ (.tail _ (.head _)))) (sb_cons (.tail _ (.tail _ (.tail _ (.tail _ (.head _))))) sb_nil)))) ?_
      exact ih (c + 1) _ _ (by omega) hT (by omega) (by omega) L2 I2 (fun b hb => (C2 b hb).trans (hF b hb))
    · rw [atF_drop hcl, if_pos c_34] at hT
      refine wp_aload (i := 4) dX14_at_37 rfl ?_
      refine wp_iload_n (i := 2) dX14_at_39 rfl rfl ?_
      refine wp_ialoadN ((xs.getD c []).length) ((xs.getD c []).getD a (nI 0)) dX14_at_40 E.2.1 E.2.2.1 (by omega) (by omega) ((E.2.2.2 a c_34).trans (gI_eq c_34)) ?_
      refine wp_ireturn dX14_at_41 rfl ?_
      rw [hT]
      exact hq _ (fun b hb => (C2 b hb).trans (hF b hb))
set_option maxRecDepth 100000 in
set_option maxHeartbeats 4000000 in
theorem c_X14_at {G : GG} {d bc bs : Nat} {h : Hp} {Q : Pst} {s K p : Nat} {o : OFS} {xs : List (List Int32)} (hO : OF h s o) (L : LRw h (nm 3 s) 26 s xs) (hK : FreeI h 30 K) (hd : 7 ≤ d) (ht : tot xs < 1000000) (hbc : 1 ≤ bc) (hbs : 4 ≤ bs) (hp : p < tot xs) (hq : ∀ h', (∀ b, b ≠ nm 30 K → ce h' b = ce h b) → Q (oRet (vi (atF xs p))) h')  : WP G m_X14_at d 0 (aargs 0 [vr (some (nm 2 s)), vi (nI p)]) [] h bc bs Q := by
  refine wp_sub [(0, vr (some (nm 2 s))), (1, vi (nI p))] (fun _ hz => hz) ?_
  refine wp_iload_n (i := 1) dX14_at_0 rfl rfl ?_
  refine wp_istore_n (i := 2) (lv' := [(2, vi (nI p)), (0, vr (some (nm 2 s))), (1, vi (nI p))]) dX14_at_1 rfl (by decide) rfl ?_
  refine wp_aload_n (i := 0) dX14_at_2 rfl rfl ?_
  refine wp_get 15 5 (vr (some (nm 3 s))) dX14_at_3 hO.k0 (by decide) (by decide) fl_X14_10 (congrArg (fun z => toV (vr z)) (hO.r6_5)) ?_
  refine wp_cV (y' := m_Jx4a65c_iterator_32c93) 2 [] [] 1 4 dX14_at_6 ml_X14_33 im_Jx4a65c_iterator_32c93 se_Jx4a65c_iterator_32c93 (by decide) L.k ok_Jx4a65c_iterator_32c93 rfl (Nat.le_of_ble_eq_true rfl) rfl (Nat.le_of_ble_eq_true rfl) (d' := d - 1) (by omega) (by omega) (by omega) (c_AL_iterator L.k (nm 30 K) (hK K (Nat.le_refl _)) (by omega) (Nat.le_refl _) (Nat.le_refl _) (fun h1 I1 C1 => cont_ret ?_))
  refine wp_astore_n (i := 3) (lv' := [(3, vr (some (nm 30 K))), (2, vi (nI p)), (0, vr (some (nm 2 s))), (1, vi (nI p))]) dX14_at_9 rfl (by decide) rfl ?_
  refine wp_sub [(3, vr (some (nm 30 K))), (2, vi (nI p)), (0, vr (some (nm 2 s))), (1, vi (nI p))] (sb_cons (.head _) (sb_cons (.tail _ (.head _)) (sb_cons (.tail _ (.tail _ (.head _))) (sb_cons (.tail _ (.tail _ (.tail _ (.head _)))) sb_nil)))) ?_
  exact l_X14_at hd ht (h0 := h) hq xs.length 0 _ p (by omega) (by rw [List.drop_zero]) (by rw [List.drop_zero]; exact hp) (by omega) (L.frm (C1 0 (by unfold nm; omega)) (C1 _ (nm_ne (by decide) (by decide) (by decide))) (fun z => C1 _ (nm_ne (by decide) (by decide) (by decide))) (fun k _ => C1 _ (nm_ne (by decide) (by decide) (by decide)))) I1 C1
