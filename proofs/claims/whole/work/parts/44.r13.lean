/-! The model: commit, what it delivers. -/
set_option maxRecDepth 100000 in
set_option maxHeartbeats 4000000 in
theorem c_X12_takeN {G : GG} {d bc bs : Nat} {h : Hp} {Q : Pst} {a : Nat} {x : OAS} (hO : OA h a x) (h12 : (OA_row x).length = 12) {z : Int32} (hd : 2 ≤ d) (hq : Q oVoid h) : WP G m_X12_take d 0 (aargs 0 [vr (some (nm 13 a)), vi z]) [] h bc bs Q := by
  refine wp_sub [(0, vr (some (nm 13 a))), (1, vi z)] (fun _ hz => hz) ?_
  refine wp_aload_n (i := 0) dX12_take_0 rfl rfl ?_
  refine wp_get 13 6 (vr (some (nm 14 a))) dX12_take_1 hO.k0 (by decide) (by decide) fl_X12_12 (congrArg (fun z => toV (vr z)) (hO.r7_6)) ?_
  refine wp_cV (y' := m_Jx4a65c_size_8abf5) 2 [] [] 0 0 dX12_take_4 ml_X12_32 im_Jx4a65c_size_8abf5 se_Jx4a65c_size_8abf5 (by decide) (LNm.k hO.N8) ok_Jx4a65c_size_8abf5 rfl (Nat.le_of_ble_eq_true rfl) rfl (Nat.le_of_ble_eq_true rfl) (d' := d - 1) (by omega) (Nat.zero_le _) (Nat.zero_le _) (c_LN_size hO.N8 (cont_ret ?_))
  refine wp_bipush (nI 12) dX12_take_7 (by decide) ?_
  refine wp_icmp_geN 24 dX12_take_9 (by decide) (by omega) (by decide) (fun c_9 => ?_) (fun c_9 => absurd c_9 (by omega))
  refine wp_return dX12_take_24 rfl ?_
  exact hq
def pot (A : Nat → OAS) : Nat := (12 - (OA_row (A 0)).length) + (12 - (OA_row (A 1)).length) + (12 - (OA_row (A 2)).length) + (12 - (OA_row (A 3)).length)
theorem pot_st {A : Nat → OAS} {a : Nat} {z : Int32} (ha : a < 4) (hl : (OA_row (A a)).length < 12) : pot (va_up A a (OA_urow (A a) (tkL (OA_row (A a)) z))) + 1 = pot A := by
  have e : (tkL (OA_row (A a)) z).length = (OA_row (A a)).length + 1 := by unfold tkL; rw [if_pos hl, List.length_append]; rfl
  have f : ∀ j, (OA_row (va_up A a (OA_urow (A a) (tkL (OA_row (A a)) z)) j)).length = if j = a then (OA_row (A a)).length + 1 else (OA_row (A j)).length := fun j => by
    rw [va_up_app]
    split
    · exact e
    · rfl
  unfold pot
  rw [f 0, f 1, f 2, f 3]
  have ha4 : a = 0 ∨ a = 1 ∨ a = 2 ∨ a = 3 := by omega
  rcases ha4 with e0 | e0 | e0 | e0 <;> subst e0 <;> simp <;> omega
theorem up_full {A : Nat → OAS} {a : Nat} {z : Int32} (hl : ¬ (OA_row (A a)).length < 12) : va_up A a (OA_urow (A a) (tkL (OA_row (A a)) z)) = A := by
  funext j
  rw [va_up_app]
  split
  · next e => rw [e, show tkL (OA_row (A a)) z = OA_row (A a) from if_neg hl]
  · rfl
theorem dlF_step {l : List (Nat × Int32)} {c : Nat} {A : Nat → OAS} (hc : c < l.length) : dlF (l.drop c) A = dlF (l.drop (c + 1)) (va_up A (l.getD c (0, 0)).1 (OA_urow (A (l.getD c (0, 0)).1) (tkL (OA_row (A (l.getD c (0, 0)).1)) (l.getD c (0, 0)).2))) := by
  rw [getD_cons hc (0, 0)]; rfl
theorem tkL_len {l : List Int32} {z : Int32} (h : l.length ≤ 12) : (tkL l z).length ≤ 12 := by
  unfold tkL
  split
  · rw [List.length_append]; simp; omega
  · exact h
set_option maxRecDepth 100000 in
set_option maxHeartbeats 4000000 in
theorem l_X16_commitD {G : GG} {d bcE bsE : Nat} {Q : Pst} {h0 : Hp} {t K : Nat} (ht : t < 3) (hd : 14 ≤ d) : ∀ m c H S, c + m = (OT_sq (RS_tt S t)).length → MR H S → RS_an S ≤ 4 ∧ RS_rn S ≤ 6 → (∀ a, a < RS_an S → (OA_row (RS_aa S a)).length ≤ 12) → (∀ q, q ∈ (OT_sq (RS_tt S t)) → q.1 < RS_an S ∧ -128 ≤ q.2.toInt ∧ q.2.toInt ≤ 127) → PI H K → FRR h0 H → h_I H (nm 1 0) 0 = nI 0 → JC H → IT H (nm 30 K) (nm 12 t) c → (∀ H', MR H' (RS_uaa S (dlF ((OT_sq (RS_tt S t)).drop c) (RS_aa S))) → PI H' K → FRR h0 H' → h_I H' (nm 1 0) 0 = nI 0 → WP G m_X16_commit d 377 [(2, vr (some (nm 6 t))), (0, vr (some (nm 1 0))), (1, vi (nI t))] [] H' bcE bsE Q) → WP G m_X16_commit d 331 [(5, vr (some (nm 30 K))), (2, vr (some (nm 6 t))), (0, vr (some (nm 1 0))), (1, vi (nI t))] [] H (bcE + pot (RS_aa S)) (bsE + 40 * pot (RS_aa S)) Q := by
  intro m
  induction m with
  | zero =>
    intro c H S hcm hR hb hrow hsq hPi hG h0' J I hk
    have hc : c = (OT_sq (RS_tt S t)).length := hcm
    rw [show dlF ((OT_sq (RS_tt S t)).drop c) (RS_aa S) = RS_aa S by rw [hc, List.drop_length]; rfl] at hk
    refine wp_aload (i := 5) dX16_commit_331 rfl ?_
    refine wp_cF (y' := m_Jx35411_hasNext_aae02) [] [] 0 0 dX16_commit_333 ml_X16_293 sx_java_util_ArrayList_Itr_Jx35411_hasNext_aae02 im_Jx35411_hasNext_aae02 fw_0 ⟨by decide, by decide, by decide⟩ I.1 ok_Jx35411_hasNext_aae02 rfl (Nat.le_of_ble_eq_true rfl) rfl (Nat.le_of_ble_eq_true rfl) (d' := d - 1) (by omega) (Nat.zero_le _) (Nat.zero_le _) (c_LP_hasNext (hR.t ht).L21 I (by rw [L2_len]; omega) (cont_ret ?_))
    rw [L2_len]
    refine wp_if_eqB 377 dX16_commit_338 (by decide) (fun c_338 => ?_) (fun c_338 => absurd c_338 (fun z => absurd (of_decide_eq_true z) (by omega)))
    refine wp_pay (bc' := bcE) (bs' := bsE) (by omega) (by omega) ?_
    refine wp_sub [(2, vr (some (nm 6 t))), (0, vr (some (nm 1 0))), (1, vi (nI t))] (sb_cons (.tail _ (.head _)) (sb_cons (.tail _ (.tail _ (.head _))) (sb_cons (.tail _ (.tail _ (.tail _ (.head _)))) sb_nil))) ?_
    exact hk H hR hPi hG h0'
  | succ m ih =>
    intro c H S hcm hR hb hrow hsq hPi hG h0' J I hk
    have hcl : c < (OT_sq (RS_tt S t)).length := by omega
    have hq1 := hsq _ (getD_mem hcl (0, 0))
    rw [dlF_step hcl] at hk
    obtain ⟨qa, eqa⟩ : ∃ qa, qa = ((OT_sq (RS_tt S t)).getD c (0, 0)).1 := ⟨_, rfl⟩
    obtain ⟨qv, eqv⟩ : ∃ qv, qv = ((OT_sq (RS_tt S t)).getD c (0, 0)).2 := ⟨_, rfl⟩
    rw [← eqa, ← eqv] at hk hq1
    have hqa := hq1.1
    have hz1 := hq1.2.1
    have hz2 := hq1.2.2
    have ha16 : qa < 16 := by omega
    have hB16 : RS_rn S ≤ 16 ∧ RS_an S ≤ 16 := ⟨by omega, by omega⟩
    have hr12 := hrow qa hqa
    refine wp_aload (i := 5) dX16_commit_331 rfl ?_
    refine wp_cF (y' := m_Jx35411_hasNext_aae02) [] [] 0 0 dX16_commit_333 ml_X16_293 sx_java_util_ArrayList_Itr_Jx35411_hasNext_aae02 im_Jx35411_hasNext_aae02 fw_0 ⟨by decide, by decide, by decide⟩ I.1 ok_Jx35411_hasNext_aae02 rfl (Nat.le_of_ble_eq_true rfl) rfl (Nat.le_of_ble_eq_true rfl) (d' := d - 1) (by omega) (Nat.zero_le _) (Nat.zero_le _) (c_LP_hasNext (hR.t ht).L21 I (by rw [L2_len]; omega) (cont_ret ?_))
    rw [L2_len]
    refine wp_if_eqB 377 dX16_commit_338 (by decide) (fun c_338 => absurd c_338 (fun z => absurd (of_decide_eq_false z) (by omega))) (fun c_338 => ?_)
    refine wp_aload (i := 5) dX16_commit_341 rfl ?_
    refine wp_cF (y' := m_Jx35411_next_0502b) [] [] 0 0 dX16_commit_343 ml_X16_298 sx_java_util_ArrayList_Itr_Jx35411_next_0502b im_Jx35411_next_0502b fw_1 ⟨by decide, by decide, by decide⟩ I.1 ok_Jx35411_next_0502b rfl (Nat.le_of_ble_eq_true rfl) rfl (Nat.le_of_ble_eq_true rfl) (d' := d - 1) (by omega) (Nat.zero_le _) (Nat.zero_le _) (c_LP_next (hR.t ht).L21 I (by rw [L2_len]; omega) (kq := K) rfl (by decide) (by decide) (by omega) (fun h1 ra2 E3 hL4 I5 C6 => cont_ret ?_))
    rw [L2_get] at E3
    rw [← eqa, ← eqv] at E3
    have hR7 := hR.it C6
    have hG8 := hG.tr (FRR.it C6)
    have hPi9 := hPi.it C6
    have Jn := J.fr (fun i => C6 _ (nm_ne (by decide) (by decide) (by decide)))
    refine wp_castA .int dX16_commit_348 (by decide) kl_X16_221 (fun a ha => by cases ha; exact arTy_101 E3.2.1) ?_
    refine wp_astore (i := 6) (lv' := [(6, vr (some ra2)), (5, vr (some (nm 30 K))), (2, vr (some (nm 6 t))), (0, vr (some (nm 1 0))), (1, vi (nI t))]) dX16_commit_351 (by decide) rfl ?_
    refine wp_aload_n (i := 0) dX16_commit_353 rfl rfl ?_
    refine wp_get 17 18 (vr (some (nm 1 18))) dX16_commit_354 hR7.mk (by decide) (by decide) fl_X16_60 (congrArg (fun z => toV (vr z)) (hR7.ref 18 (by decide) (by decide) (by decide) (by decide))) ?_
    refine wp_aload (i := 6) dX16_commit_357 rfl ?_
    refine wp_iconst (nI 0) dX16_commit_359 (by decide) ?_
    refine wp_ialoadN 2 (nI qa) dX16_commit_360 E3.2.1 E3.2.2.1 (by decide) (by decide) (E3.2.2.2 0 (Nat.le_of_ble_eq_true rfl)) ?_
    refine wp_cV (y' := m_Jx4a65c_get_915e3) 2 [vi (nI qa)] [] 0 0 dX16_commit_361 ml_X16_201 im_Jx4a65c_get_915e3 se_Jx4a65c_get_915e3 (by decide) hR7.al.k ok_Jx4a65c_get_915e3 rfl (Nat.le_of_ble_eq_true rfl) rfl (Nat.le_of_ble_eq_true rfl) (d' := d - 1) (by omega) (Nat.zero_le _) (Nat.zero_le _) (c_LO_get hR7.al hqa (by omega) (cont_ret ?_))
    refine wp_castC 13 dX16_commit_364 (by decide) kl_X16_346 (fun a ha => by cases ha; exact (hR7.a hqa).k0) ?_
    refine wp_aload (i := 6) dX16_commit_367 rfl ?_
    refine wp_iconst (nI 1) dX16_commit_369 (by decide) ?_
    refine wp_ialoadN 2 qv dX16_commit_370 E3.2.1 E3.2.2.1 (by decide) (by decide) (E3.2.2.2 1 (Nat.le_of_ble_eq_true rfl)) ?_
    by_cases hf : (OA_row (RS_aa S qa)).length < 12
    · have hpt := pot_st (A := RS_aa S) (z := qv) (by omega : qa < 4) hf
      refine wp_cV (y' := m_X12_take) 13 [vi qv] [] 1 40 dX16_commit_371 ml_X16_348 im_X12_take se_X12_take (by decide) (hR7.a hqa).k0 ok_X12_take rfl (Nat.le_of_ble_eq_true rfl) rfl (Nat.le_of_ble_eq_true rfl) (d' := d - 1) (by omega) (by omega) (by omega) (c_X12_take (hR7.a hqa) Jn ha16 hr12 hz1 hz2 (by omega) (Nat.le_refl _) (Nat.le_refl _) (fun h9 O9 F9 => cont_void ?_))
      have hR9 := hR7.upA hqa F9 O9 hB16
      refine wp_goto 331 dX16_commit_374 (by decide) ?_
      refine wp_sub [(5, vr (some (nm 30 K))), (2, vr (some (nm 6 t))), (0, vr (some (nm 1 0))), (1, vi (nI t))] (sb_cons (.tail _ (.head _)) (sb_cons (.tail _ (.tail _ (.head _))) (sb_cons (.tail _ (.tail _ (.tail _ (.head _)))) (sb_cons (.tail _ (.tail _ (.tail _ (.tail _ (.head _))))) sb_nil)))) ?_
      refine wp_pay (bc' := bcE + pot (va_up (RS_aa S) qa (OA_urow (RS_aa S qa) (tkL (OA_row (RS_aa S qa)) qv)))) (bs' := bsE + 40 * pot (va_up (RS_aa S) qa (OA_urow (RS_aa S qa) (tkL (OA_row (RS_aa S qa)) qv)))) (by omega) (by omega) ?_
      refine ih (c + 1) _ (RS_uaa1 S qa _) (by show _ = (OT_sq (RS_tt S t)).length; omega) hR9 hb (fun a ha => ?_) hsq ⟨hPi9.1.elim fun K2 z => ⟨K2, z.fr (fun _ _ => F9 _ (WAg_n (by omega) (by decide)))⟩, hPi9.2.fr (fun _ _ => F9 _ (WAg_n (by omega) (by decide)))⟩ (hG8.tr (FRR.oA F9)) ((th_oA F9).trans ((th_it C6).trans h0')) (Jn.fr (fun i => F9 _ (WAg_n (by omega) (by decide)))) ⟨(ce_k (F9 (nm 30 K) (WAg_n (by omega) (by decide)))).trans I5.1, by rw [ce_R (F9 (nm 30 K) (WAg_n (by omega) (by decide)))]; exact I5.2.1, by rw [ce_I (F9 (nm 30 K) (WAg_n (by omega) (by decide)))]; exact I5.2.2.1, by rw [ce_I (F9 (nm 30 K) (WAg_n (by omega) (by decide))), ce_I (F9 (nm 12 t) (WAg_n (by omega) (by decide)))]; exact I5.2.2.2⟩ hk
      show (OA_row ((va_up (RS_aa S) qa (OA_urow (RS_aa S qa) (tkL (OA_row (RS_aa S qa)) qv))) a)).length ≤ 12
      rw [va_up_app]
      split
      · exact tkL_len hr12
      · exact hrow a ha
    · rw [up_full hf] at hk
      refine wp_cV (y' := m_X12_take) 13 [vi qv] [] 0 0 dX16_commit_371 ml_X16_348 im_X12_take se_X12_take (by decide) (hR7.a hqa).k0 ok_X12_take rfl (Nat.le_of_ble_eq_true rfl) rfl (Nat.le_of_ble_eq_true rfl) (d' := d - 1) (by omega) (Nat.zero_le _) (Nat.zero_le _) (c_X12_takeN (hR7.a hqa) (by omega) (by omega) (cont_void ?_))
      refine wp_goto 331 dX16_commit_374 (by decide) ?_
      refine wp_sub [(5, vr (some (nm 30 K))), (2, vr (some (nm 6 t))), (0, vr (some (nm 1 0))), (1, vi (nI t))] (sb_cons (.tail _ (.head _)) (sb_cons (.tail _ (.tail _ (.head _))) (sb_cons (.tail _ (.tail _ (.tail _ (.head _)))) (sb_cons (.tail _ (.tail _ (.tail _ (.tail _ (.head _))))) sb_nil)))) ?_
      exact ih (c + 1) _ S (by omega) hR7 hb hrow hsq hPi9 hG8 ((th_it C6).trans h0') Jn I5 hk
