/-! The model: realising a chunk by t. -/
section EN
variable {n : Nat} {x : Nat → QIS}
theorem enR_ge (hW : QWs n x) {s : Nat} {r : Nat → Nat} (hs : s < n) (j : Nat) : r j ≤ enR x s r j := by
  unfold enR; split
  · exact bk0_ge hW _ _ _ _ hs
  · exact rs1_ge hW _ _ _ _ hs
theorem enA_n {s : Nat} : ¬ enA x s = nI 1 := by unfold enA; split <;> decide
/-- one more is counted -/
theorem rz_pc (hX : QOK n x) {s : Nat} {r : Nat → Nat} (hs : s < n) (h : r s < (q_F (x s)).length) : PC n x r + 4 ≤ PC n x (rzR x s r) ∧ PS n x r + 16 ≤ PS n x (rzR x s r) := by
  have h24 := (hX.1 s hs).1
  obtain ⟨e1, e2⟩ := PC_st (r := r) hs (hX.2.2 s hs) (by omega)
  have hle : ∀ j, j < n → va_up r s (r s + 1) j ≤ rzR x s r j := fun j _ => by
    rw [(rz_1 h).1, va_up_app]
    split
    · next e => rw [e, rs0_at hX.1 hs]; exact Nat.le_max_right _ _
    · exact rs0_ge hX.1 _ _ _ _ _ hs
  have a := PC_mono (x := x) hle
  have b := PS_mono (x := x) hle
  omega
end EN
set_option maxRecDepth 100000 in
set_option maxHeartbeats 4000000 in
theorem l_X16_one {G : GG} {d : Nat} {Q : Pst} {h0 : Hp} {n s k p bcE bsE : Nat} {x : Nat → QIS} (hX : QOK n x) (hk : k < n) (IH : RZ G x n k) (hd : 3 * k + 16 ≤ d) (T E : Nat → Nat) (hp24 : p ≤ 24) (kA : p < tot (q_F (x k)) → ∀ H, MSQ H n (setR x T) → PO2 H → FRQ h0 H → WP G m_X16_realiseOne d 37 [(0, vr (some (nm 1 0))), (1, vr (some (nm 2 s))), (2, vr (some (nm 2 k))), (3, vi (nI p))] [] H bcE bsE Q) (kB : ¬ p < tot (q_F (x k)) → ∀ H, MSQ H n (setR x E) → PO2 H → FRQ h0 H → Q (oRet (vi (enA x k))) H) : ∀ m r H bc bs, (q_F (x k)).length - r k = m → MSQ H n (setR x r) → QV n x r → PO2 H → FRQ h0 H → (p < tot (q_F (x k)) → rs0 x (k + 1) k (cf (q_F (x k)) p) r = T ∧ PC n x T + bcE + 1 ≤ bc + PC n x r ∧ PS n x T + bsE + 4 ≤ bs + PS n x r) → (¬ p < tot (q_F (x k)) → enR x k r = E ∧ PC n x E + k + 2 ≤ bc + PC n x r ∧ PS n x E + 4 * (k + 2) ≤ bs + PS n x r) → WP G m_X16_realiseOne d 10 [(0, vr (some (nm 1 0))), (1, vr (some (nm 2 s))), (2, vr (some (nm 2 k))), (3, vi (nI p))] [] H bc bs Q := by
  intro m
  induction m using Nat.strongRecOn with
  | _ m ih =>
    intro r H bc bs hm hM hV hP hG hA hB
    obtain ⟨⟨K2, hK2⟩, K, hK⟩ := id hP
    have hl := (hV k hk).1
    have hLk : LRc H (nm 3 k) 26 k ((q_F (x k)).take (r k)) (capR x r k) := (hM.2.2.1 k hk).2
    have h24 := (hX.1 k hk).2.1
    have hpl : tot ((q_F (x k)).take (r k)) ≤ tot (q_F (x k)) := pre_le
    have hT : p < tot (q_F (x k)) → PC n x r ≤ PC n x T ∧ PS n x r ≤ PS n x T := fun h => by rw [← (hA h).1]; exact ⟨PC_mono (fun j _ => rs0_ge hX.1 _ _ _ _ _ hk), PS_mono (fun j _ => rs0_ge hX.1 _ _ _ _ _ hk)⟩
    have hE : ¬ p < tot (q_F (x k)) → PC n x r ≤ PC n x E ∧ PS n x r ≤ PS n x E := fun h => by rw [← (hB h).1]; exact ⟨PC_mono (fun j _ => enR_ge hX.1 hk j), PS_mono (fun j _ => enR_ge hX.1 hk j)⟩
    have hb1 : 1 ≤ bc ∧ 4 ≤ bs := by
      by_cases h : p < tot (q_F (x k))
      · have := hA h; have := hT h; omega
      · have := hB h; have := hE h; omega
    refine wp_aload_n (i := 2) dX16_realiseOne_10 rfl rfl ?_
    refine wp_cV (y' := m_X14_elements) 15 [] [] 1 4 dX16_realiseOne_11 ml_X16_211 im_X14_elements se_X14_elements (by decide) (hM.2.2.1 k hk).1.k0 ok_X14_elements rfl (Nat.le_of_ble_eq_true rfl) rfl (Nat.le_of_ble_eq_true rfl) (d' := d - 1) (by omega) (by omega) (by omega) (c_X14_elements (hM.2.2.1 k hk).1 hLk.w hK (by omega) (by omega) (Nat.le_refl _) (Nat.le_refl _) (fun H1 C1 => cont_ret ?_))
    have hM1 := hM.it C1
    have hP1 := hP.itq hK C1
    have hG1 := hG.tr (FRQ.it C1)
    refine wp_iload_n (i := 3) dX16_realiseOne_14 rfl rfl ?_
    refine wp_icmp_gtN 37 dX16_realiseOne_15 (by decide) (by omega) (by omega) (fun c_15 => ?_) (fun c_15 => ?_)
    · have hpt : p < tot (q_F (x k)) := by omega
      have eT : T = r := by rw [← (hA hpt).1]; exact rs0_no hX.1 _ _ _ _ hk hV (cf_of (show p < pre (q_F (x k)) (r k) from c_15))
      refine wp_pay (bc' := bcE) (bs' := bsE) (by have := hA hpt; rw [eT] at this; omega) (by have := hA hpt; rw [eT] at this; omega) ?_
      exact kA hpt _ (by rw [eT]; exact hM1) hP1 hG1
    · skip
      have hnp : tot ((q_F (x k)).take (r k)) ≤ p := c_15
      by_cases hlt : r k < (q_F (x k)).length
      · have hz := rz_pc hX hk hlt
        have hzE := (rz_1 hlt).2.2
        have hrk : rzR x k r k = r k + 1 := by rw [(rz_1 hlt).1, rs0_at hX.1 hk]; omega
        have hle : p < tot (q_F (x k)) → r k + 1 ≤ cf (q_F (x k)) p := fun h => by
          rcases Nat.lt_or_ge (r k) (cf (q_F (x k)) p) with z | z
          · exact z
          · have a1 := pre_mono (F := q_F (x k)) z
            have a2 := cf_gt h
            have a3 : pre (q_F (x k)) (r k) ≤ p := c_15
            omega
        have hA2 : p < tot (q_F (x k)) → rs0 x (k + 1) k (cf (q_F (x k)) p) (rzR x k r) = T := fun h => by rw [(rz_1 hlt).1, rs0_ab hX.1 _ _ _ _ _ hk (hle h) (cf_le h)]; exact (hA h).1
        have hB2 : ¬ p < tot (q_F (x k)) → enR x k (rzR x k r) = E := fun h => by rw [(rz_1 hlt).1, enR_ab hX.1 hk (by omega)]; exact (hB h).1
        have hT2 : p < tot (q_F (x k)) → PC n x (rzR x k r) ≤ PC n x T ∧ PS n x (rzR x k r) ≤ PS n x T := fun h => by rw [← hA2 h]; exact ⟨PC_mono (fun j _ => rs0_ge hX.1 _ _ _ _ _ hk), PS_mono (fun j _ => rs0_ge hX.1 _ _ _ _ _ hk)⟩
        have hE2 : ¬ p < tot (q_F (x k)) → PC n x (rzR x k r) ≤ PC n x E ∧ PS n x (rzR x k r) ≤ PS n x E := fun h => by rw [← hB2 h]; exact ⟨PC_mono (fun j _ => enR_ge hX.1 hk j), PS_mono (fun j _ => enR_ge hX.1 hk j)⟩
        have hb2 : PC n x (rzR x k r) + 1 ≤ bc + PC n x r ∧ PS n x (rzR x k r) + 4 ≤ bs + PS n x r := by
          by_cases h : p < tot (q_F (x k))
          · have := hA h; have := hT2 h; omega
          · have := hB h; have := hE2 h; omega
        refine wp_aload_n (i := 0) dX16_realiseOne_18 rfl rfl ?_
        refine wp_aload_n (i := 2) dX16_realiseOne_19 rfl rfl ?_
        refine wp_cV (y' := m_X16_realise) 17 [vr (some (nm 2 k))] [] ((PC n x (rzR x k r) + rzE x k r - PC n x r - 1)) ((PS n x (rzR x k r) + 4 * rzE x k r - PS n x r - 4)) dX16_realiseOne_20 ml_X16_214 im_X16_realise se_X16_realise (by decide) hM1.1.1 ok_X16_realise rfl (Nat.le_of_ble_eq_true rfl) rfl (Nat.le_of_ble_eq_true rfl) (d' := d - 1) (by omega) (by omega) (by omega) (IH (d - 1) (PC n x (rzR x k r) + rzE x k r - PC n x r - 1) (PS n x (rzR x k r) + 4 * rzE x k r - PS n x r - 4) _ H1 r hM1 hV hP1 (by omega) (by omega) (by omega) (fun H2 hM2 hP2 hG2 => cont_ret ?_))
        rw [(rz_1 hlt).2.1]
        refine wp_istore (i := 4) (lv' := [(4, vi (nI 1)), (0, vr (some (nm 1 0))), (1, vr (some (nm 2 s))), (2, vr (some (nm 2 k))), (3, vi (nI p))]) dX16_realiseOne_23 (by decide) rfl ?_
        refine wp_iload (i := 4) dX16_realiseOne_25 rfl ?_
        refine wp_iconst (nI 1) dX16_realiseOne_27 (by decide) ?_
        refine wp_icmp_eqN 34 dX16_realiseOne_28 (by decide) (by decide) (by decide) (fun c_28 => ?_) (fun c_28 => absurd c_28 (by decide))
        refine wp_goto 10 dX16_realiseOne_34 (by decide) ?_
        refine wp_sub [(0, vr (some (nm 1 0))), (1, vr (some (nm 2 s))), (2, vr (some (nm 2 k))), (3, vi (nI p))] (sb_cons (.tail _ (.head _)) (sb_cons (.tail _ (.tail _ (.head _))) (sb_cons (.tail _ (.tail _ (.tail _ (.head _)))) (sb_cons (.tail _ (.tail _ (.tail _ (.tail _ (.head _))))) sb_nil)))) ?_
        refine ih ((q_F (x k)).length - rzR x k r k) (by omega) (rzR x k r) H2 _ _ rfl hM2 (rz_V hX.1 hk hV hlt) hP2 (hG1.tr hG2) (fun h => ⟨hA2 h, ?_, ?_⟩) (fun h => ⟨hB2 h, ?_, ?_⟩)
        · have := hA h; omega
        · have := hA h; omega
        · have := hB h; omega
        · have := hB h; omega
      · have hrl : r k = (q_F (x k)).length := by omega
        have hnt : ¬ p < tot (q_F (x k)) := by have := pre_all (F := q_F (x k)) (k := r k) (by omega); have e : tot ((q_F (x k)).take (r k)) = pre (q_F (x k)) (r k) := rfl; omega
        have hzE := (rz_0 hlt).2.2
        have hzR : rzR x k r = E := (rz_0 hlt).1.trans (hB hnt).1
        have hzP : PC n x (rzR x k r) = PC n x E ∧ PS n x (rzR x k r) = PS n x E := by rw [hzR]; exact ⟨rfl, rfl⟩
        have hB1 := hB hnt
        refine wp_aload_n (i := 0) dX16_realiseOne_18 rfl rfl ?_
        refine wp_aload_n (i := 2) dX16_realiseOne_19 rfl rfl ?_
        refine wp_cV (y' := m_X16_realise) 17 [vr (some (nm 2 k))] [] ((PC n x (rzR x k r) + rzE x k r - PC n x r - 1)) ((PS n x (rzR x k r) + 4 * rzE x k r - PS n x r - 4)) dX16_realiseOne_20 ml_X16_214 im_X16_realise se_X16_realise (by decide) hM1.1.1 ok_X16_realise rfl (Nat.le_of_ble_eq_true rfl) rfl (Nat.le_of_ble_eq_true rfl) (d' := d - 1) (by omega) (by omega) (by omega) (IH (d - 1) (PC n x (rzR x k r) + rzE x k r - PC n x r - 1) (PS n x (rzR x k r) + 4 * rzE x k r - PS n x r - 4) _ H1 r hM1 hV hP1 (by omega) (by omega) (by omega) (fun H2 hM2 hP2 hG2 => cont_ret ?_))
        rw [(rz_0 hlt).2.1]
        refine wp_topi (fun x_23 e_23 => ?_)
        refine wp_istore (i := 4) (lv' := [(4, vi x_23), (0, vr (some (nm 1 0))), (1, vr (some (nm 2 s))), (2, vr (some (nm 2 k))), (3, vi (nI p))]) dX16_realiseOne_23 (by decide) rfl ?_
        refine wp_iload (i := 4) dX16_realiseOne_25 rfl ?_
        refine wp_iconst (nI 1) dX16_realiseOne_27 (by decide) ?_
        refine wp_icmp_eq 34 dX16_realiseOne_28 (by decide) (fun c_28 => absurd c_28 (by rw [e_23]; exact enA_n)) (fun c_28 => ?_)
        refine wp_iload (i := 4) dX16_realiseOne_31 rfl ?_
        refine wp_ireturn dX16_realiseOne_33 rfl ?_
        rw [e_23]
        exact kB hnt _ (by rw [← hzR]; exact hM2) hP2 (hG1.tr hG2)
set_option maxRecDepth 100000 in
set_option maxHeartbeats 4000000 in
theorem c_X16_realiseOne {G : GG} {d bc bs : Nat} {h : Hp} {Q : Pst} {n s : Nat} {x : Nat → QIS} {r : Nat → Nat} (hX : QOK n x) (hs : s < n) (hM : MSQ h n (setR x r)) (hV : QV n x r) (hP : PO2 h) (hd : 3 * s + 13 ≤ d) (hbc : PC n x (rzR x s r) + rzE x s r ≤ bc + PC n x r + 1) (hbs : PS n x (rzR x s r) + 4 * rzE x s r ≤ bs + PS n x r + 4) (hq : ∀ h', MSQ h' n (setR x (rzR x s r)) → PO2 h' → FRQ h h' → Q (oRet (vi (rzA x s r))) h') (IH : RZ G x n (sN (x s))) (ht : q_w (x s) = nI 116)  : WP G m_X16_realiseOne d 0 (aargs 0 [vr (some (nm 1 0)), vr (some (nm 2 s)), vr (some (nm 2 (sN (x s)))), vi (nI (r s))]) [] h bc bs Q := by
  have hW := hX.1
  have hn12 := hX.2.1
  have hcap := hX.2.2 s hs
  have hl := (hV s hs).1
  obtain ⟨hks, hnum, hn99, hlen, hF, hBq⟩ := qs_T hW hs ht
  have hk : sN (x s) < n := by omega
  have h24 := (hW s hs).1
  refine wp_sub [(0, vr (some (nm 1 0))), (1, vr (some (nm 2 s))), (2, vr (some (nm 2 (sN (x s))))), (3, vi (nI (r s)))] (fun _ hz => hz) ?_
  refine wp_iload_n (i := 3) dX16_realiseOne_0 rfl rfl ?_
  refine wp_aload_n (i := 1) dX16_realiseOne_1 rfl rfl ?_
  refine wp_get 15 2 (vi (nI (nN (x s)))) dX16_realiseOne_2 (hM.2.2.1 s hs).1.k0 (by decide) (by decide) fl_X16_192 (congrArg (fun z => toV (vi z)) (((hM.2.2.1 s hs).1.f_num).trans (hnum))) ?_
  refine wp_icmp_neN 10 dX16_realiseOne_5 (by decide) (by omega) (by omega) (fun c_5 => ?_) (fun c_5 => ?_)
  · skip
    have hpn : r s < nN (x s) := by have := hlen; omega
    obtain ⟨T, eT⟩ : ∃ T, T = rs0 x (sN (x s) + 1) (sN (x s)) (cf (q_F (x (sN (x s)))) (r s)) r := ⟨_, rfl⟩
    have hTs : T s = r s := by rw [eT]; exact rs0_hi hW _ _ _ _ _ hk hks
    have hcT : capR x T s = capR x r s := by unfold capR; rw [hTs]
    have ht24 := (hW _ hk).2.1
    have hst : r s < 24 → PC n x (va_up T s (r s + 1)) = PC n x T + 4 + gcC (r s) (capR x r s) ∧ PS n x (va_up T s (r s + 1)) = PS n x T + 16 + gcS (r s) (capR x r s) := fun h9 => by
      have := PC_st (r := T) hs hcap (by rw [hTs]; exact h9)
      rw [hTs, hcT] at this
      exact this
    have key : r s < tot (q_F (x (sN (x s)))) → rzR x s r = va_up T s (r s + 1) ∧ rzA x s r = nI 1 ∧ rzE x s r = 0 := fun h => by
      have h1 : r s < (q_F (x s)).length := by omega
      rw [eT]; exact ⟨(rz_T1 hW hs ht h1).1, (rz_1 h1).2.1, (rz_1 h1).2.2⟩
    have kex : ¬ r s < tot (q_F (x (sN (x s)))) → rzR x s r = enR x (sN (x s)) r ∧ rzA x s r = enA x (sN (x s)) ∧ rzE x s r = s + 2 := fun h => by
      have h1 : r s = (q_F (x s)).length := by omega
      exact ⟨(rz_T2 hW hs ht h1 hpn).1, (rz_T2 hW hs ht h1 hpn).2.1, (rz_0 (by omega)).2.2⟩
    refine l_X16_one (bcE := 2 + gcC (r s) (capR x r s)) (bsE := 8 + gcS (r s) (capR x r s)) hX hk IH (by omega) T (enR x (sN (x s)) r) (by omega) (fun hpt H hM3 hP3 hG3 => ?_) (fun hpt H hM3 hP3 hG3 => ?_) _ r h _ _ rfl hM hV hP FRQ.rf (fun h => ⟨eT.symm, ?_, ?_⟩) (fun h => ⟨rfl, ?_, ?_⟩)
    · obtain ⟨⟨K2, hK2⟩, K, hK⟩ := id hP3
      obtain ⟨k1, k2, k3⟩ := key hpt
      have hf22 := hK2 K2 (Nat.le_refl _)
      have hM4 := hM3.row hf22 (fun b hb => ce_mk (h := H) (kd := 101) (n := 1) hb)
      have hTk : r s < pre (q_F (x (sN (x s)))) (T (sN (x s))) := by
        have a1 := cf_gt hpt
        have a2 : cf (q_F (x (sN (x s)))) (r s) ≤ T (sN (x s)) := by rw [eT, rs0_at hW hk]; exact Nat.le_max_right _ _
        have a3 := pre_mono (F := q_F (x (sN (x s)))) a2
        omega
      have hLk : LRc (mk H (nm 22 K2) 101 1) (nm 3 (sN (x s))) 26 (sN (x s)) ((q_F (x (sN (x s)))).take (T (sN (x s)))) (capR x T (sN (x s))) := (hM4.2.2.1 _ hk).2
      have htl : tot ((q_F (x (sN (x s)))).take (T (sN (x s)))) ≤ tot (q_F (x (sN (x s)))) := pre_le
      have hTl : T s ≤ (q_F (x s)).length := by rw [hTs]; exact hl
      refine wp_iconst (nI 1) dX16_realiseOne_37 (by decide) ?_
      refine wp_newarray 101 1 .int dX16_realiseOne_38 rfl rfl aw_int (nI_nn (by omega)) (nI_clamp (by omega)) (by omega) (by decide) pl_int (by omega) (by omega) (nm 22 K2) hf22 ?_
      refine wp_dup dX16_realiseOne_40 ?_
      refine wp_iconst (nI 0) dX16_realiseOne_41 (by decide) ?_
      refine wp_aload_n (i := 2) dX16_realiseOne_42 rfl rfl ?_
      refine wp_iload_n (i := 3) dX16_realiseOne_43 rfl rfl ?_
      refine wp_cV (y' := m_X14_at) 15 [vi (nI (r s))] [vi (nI 0), vr (some (nm 22 K2)), vr (some (nm 22 K2))] 1 4 dX16_realiseOne_44 ml_X16_218 im_X14_at se_X14_at (by decide) (hM4.2.2.1 (sN (x s)) hk).1.k0 ok_X14_at rfl (Nat.le_of_ble_eq_true rfl) rfl (Nat.le_of_ble_eq_true rfl) (d' := d - 1) (by omega) (by omega) (by omega) (c_X14_at (hM4.2.2.1 _ hk).1 hLk.w (show FreeI (mk H (nm 22 K2) 101 1) 30 K from hK.fr (fun i _ => ce_mk (nm_ne (by decide) (by decide) (by decide)))) (by omega) (by omega) (Nat.le_refl _) (Nat.le_refl _) hTk (fun H5 C5 => cont_ret ?_))
      rw [atF_take _ _ _ hTk]
      have hM5 := hM4.it C5
      have hr1 : h_k H5 (nm 22 K2) = 101 := (ce_k (C5 _ (nm_ne (by decide) (by decide) (by decide)))).trans (by rw [gk_mk, if_pos rfl])
      have hr2 : h_n H5 (nm 22 K2) = 1 := (ce_n (C5 _ (nm_ne (by decide) (by decide) (by decide)))).trans (by rw [gn_mk, if_pos rfl])
      refine wp_iastoreN 1 dX16_realiseOne_47 hr1 hr2 (by decide) (by decide) ?_
      have c6 : ∀ b, b ≠ nm 22 K2 → b ≠ nm 30 K → ce (wI H5 (nm 22 K2) 0 (atF (q_F (x (sN (x s)))) (r s))) b = ce H b := fun b h1 h2 => (ce_wI h1).trans ((C5 b h2).trans (ce_mk h1))
      have hM6 : MSQ (wI H5 (nm 22 K2) 0 (atF (q_F (x (sN (x s)))) (r s))) n (setR x T) := hM3.all (fun i _ => c6 _ (nm_ne (by decide) (by decide) (by decide)) (nm_ne (by decide) (by decide) (by decide))) (c6 0 (by unfold nm; omega) (by unfold nm; omega)) (fun k hk => c6 _ (fun e => hk (by rw [e]; exact hf22)) (nm_ne (by decide) (by decide) (by decide))) (fun r i hr => c6 _ (nm_ne (by omega) (by omega) (by decide)) (nm_ne (by omega) (by omega) (by decide)))
      have E6 : PEr (wI H5 (nm 22 K2) 0 (atF (q_F (x (sN (x s)))) (r s))) (nm 22 K2) [atF (q_F (x (sN (x s)))) (r s)] := ⟨⟨K2, rfl⟩, hr1, hr2, fun m hm => by
          match m, hm with
          | 0, _ => rw [gI_wI, if_pos ⟨rfl, rfl⟩]; rfl⟩
      have hP6 : PO2 (wI H5 (nm 22 K2) 0 (atF (q_F (x (sN (x s)))) (r s))) := ⟨⟨K2 + 1, fun i hi => (ce_k (c6 _ (nm_nei (by omega)) (nm_ne (by decide) (by decide) (by decide)))).trans (hK2 i (by omega))⟩, ⟨K + 1, fun i hi => (ce_k (c6 _ (nm_ne (by decide) (by decide) (by decide)) (nm_nei (by omega)))).trans (hK i (by omega))⟩⟩
      have hG6 : FRQ h (wI H5 (nm 22 K2) 0 (atF (q_F (x (sN (x s)))) (r s))) := hG3.tr ⟨fun a ha => c6 a (fun e => ha (by rw [e]; unfold WQQ nm; omega)) (fun e => ha (by rw [e]; unfold WQQ nm; omega)), fun k hk => c6 _ (fun e => hk (by rw [e]; exact hf22)) (nm_ne (by decide) (by decide) (by decide))⟩
      refine wp_astore (i := 4) (lv' := [(4, vr (some (nm 22 K2))), (0, vr (some (nm 1 0))), (1, vr (some (nm 2 s))), (2, vr (some (nm 2 (sN (x s))))), (3, vi (nI (r s)))]) dX16_realiseOne_48 (by decide) rfl ?_
      refine wp_aload_n (i := 1) dX16_realiseOne_50 rfl rfl ?_
      refine wp_get 15 5 (vr (some (nm 3 s))) dX16_realiseOne_51 (hM6.2.2.1 s hs).1.k0 (by decide) (by decide) fl_X16_182 (congrArg (fun z => toV (vr z)) ((hM6.2.2.1 s hs).1.r6_5)) ?_
      refine wp_aload (i := 4) dX16_realiseOne_54 rfl ?_
      have hL1 : LRc _ (nm 3 s) 26 s ((q_F (x s)).take (T s)) (capR x T s) := (hM6.2.2.1 s hs).2
      refine wp_cV (y' := m_Jx4a65c_add_9ea2d) 2 [vr (some (nm 22 K2))] [] ((gcC (r s) (capR x r s))) ((gcS (r s) (capR x r s))) dX16_realiseOne_56 ml_X16_175 im_Jx4a65c_add_9ea2d se_Jx4a65c_add_9ea2d (by decide) (hM6.2.2.1 s hs).2.k ok_Jx4a65c_add_9ea2d rfl (Nat.le_of_ble_eq_true rfl) rfl (Nat.le_of_ble_eq_true rfl) (d' := d - 1) (by omega) (by omega) (by omega) (c_LQ_add hL1 E6 (by rw [tk_len hTl]; omega) (by decide) (by decide) (by omega) (by rw [tk_len hTl, hTs, hcT]; exact Nat.le_refl _) (by rw [tk_len hTl, hTs, hcT]; exact Nat.le_refl _) (fun h7 L7 C7 => cont_ret ?_))
      rw [tk_len hTl] at L7
      refine wp_pop dX16_realiseOne_59 ?_
      refine wp_iconst (nI 1) dX16_realiseOne_60 (by decide) ?_
      refine wp_ireturn dX16_realiseOne_61 rfl ?_
      have hM7 := hM6.add hs (by omega) (by rw [hTs]; omega) (by rw [hTs]; omega) (by rw [hTs, hF _ (by omega)]) hcap L7 C7
      rw [hTs] at hM7
      rw [k1, k2] at hq
      exact hq _ hM7 (hP6.lst C7) (hG6.tr (FRQ.add C7))
    · obtain ⟨k1, k2, k3⟩ := kex hpt
      rw [k1, k2] at hq
      exact hq _ hM3 hP3 hG3
    · have := key h; rw [this.1, this.2.2] at hbc; have := hst (by omega); omega
    · have := key h; rw [this.1, this.2.2] at hbs; have := hst (by omega); omega
    · have := kex h; rw [this.1, this.2.2] at hbc; omega
    · have := kex h; rw [this.1, this.2.2] at hbs; omega
  · skip
    refine wp_iconst (nI 0) dX16_realiseOne_8 (by decide) ?_
    refine wp_ireturn dX16_realiseOne_9 rfl ?_
    obtain ⟨k1, k2, k3⟩ := rz_T3 hW hs hV ht c_5
    rw [k1, k2] at hq
    exact hq _ hM hP FRQ.rf
