/-! The model: commit. -/
theorem cmA_utt (t : Nat) : ∀ m r S, ∃ f, (cmA t m r S).2 = RS_utt S f := by
  intro m
  induction m with
  | zero => intro r S; exact ⟨RS_tt S, rfl⟩
  | succ m ih =>
    intro r S
    rw [cmA]
    split
    · obtain ⟨f, hf⟩ := gos_utt t r true 3 S
      split
      · exact ⟨f, hf⟩
      · obtain ⟨f2, hf2⟩ := ih (r + 1) (gos t r true 3 S).2
        rw [hf2, hf]
        exact ⟨f2, rfl⟩
    · exact ih (r + 1) S
theorem cmC_same (t : Nat) : ∀ m r S, ∃ v f, cmC t m r S = RS_urr (RS_ulg S v) f := by
  intro m
  induction m with
  | zero => intro r S; exact ⟨RS_lg S, RS_rr S, rfl⟩
  | succ m ih =>
    intro r S
    rw [cmC]
    split
    · obtain ⟨v, f, hf⟩ := ih (r + 1) (RS_urr1 (RS_ulg S (RS_lg S ++ [(RS_mo S, r, (lastq (RS_rr S r)).2, vth (RS_tt S t) (RS_rr S r) r)])) r (OR_uhs (RS_rr S r) (cmH (OR_hs (RS_rr S r)) (OR_lim (RS_rr S r)) (RS_mo S, vth (RS_tt S t) (RS_rr S r) r))))
      exact ⟨v, f, hf.trans rfl⟩
    · exact ih (r + 1) S
theorem pot_le (A : Nat → OAS) : pot A ≤ 48 := by unfold pot; omega
/-- commit, where the changes stay in their bounds -/
def cmE (S : RS) (t : Nat) (b : Bool) : RS :=
  RS_umo (RS_utt1 S t (OT_uop (RS_tt S t) false)) (RS_mo S + if b = true then 1 else 0)
def cmG (S : RS) (t : Nat) : RS := RS_uaa S (dlF (OT_sq (RS_tt S t)) (RS_aa S))
def o_commit (S : RS) (v : Int32) (t : Nat) : Int32 × Int32 × RS :=
  if (!ixB v 3) = true then (nI 1, nI 0, S) else if (!OT_op (RS_tt S t)) = true then (nI 2, nI 0, S)
  else if (cmA t (RS_rn S) 0 S).1 = false then (nI 0, nI 115, (cmA t (RS_rn S) 0 S).2)
  else if (cmB (cmA t (RS_rn S) 0 S).2 t (RS_rn S) 0 false false).1 = true then (nI 0, nI 98, RS_utt1 (cmA t (RS_rn S) 0 S).2 t (fgt (OT_uop (RS_tt (cmA t (RS_rn S) 0 S).2 t) false)))
  else (nI 0, nI 99, (fun Z => RS_utt1 Z t (fgt (RS_tt Z t))) (cmG (cmC t (RS_rn S) 0 (cmE (cmA t (RS_rn S) 0 S).2 t (cmB (cmA t (RS_rn S) 0 S).2 t (RS_rn S) 0 false false).2)) t))
set_option maxRecDepth 100000 in
set_option maxHeartbeats 4000000 in
theorem l_X16_commitE {G : GG} {d bc bs : Nat} {Q : Pst} {h0 H : Hp} {S : RS} {t : Nat} (ht : t < 3) (hd : 14 ≤ d) (hB16 : RS_rn S ≤ 16 ∧ RS_an S ≤ 16) (hR : MR H S) (hP : PO2 H) (hG : FRR h0 H) (h0' : h_I H (nm 1 0) 0 = nI 0) (hq : ∀ h', FRR h0 h' → h_I h' (nm 1 0) 0 = nI 0 → MR h' (RS_utt1 S t (fgt (RS_tt S t))) → PO2 h' → Q (oRet (vi (nI 99))) h') : WP G m_X16_commit d 377 [(2, vr (some (nm 6 t))), (0, vr (some (nm 1 0))), (1, vi (nI t))] [] H bc bs Q := by
  have ht16 : t < 16 := by omega
  refine wp_aload_n (i := 2) dX16_commit_377 rfl rfl ?_
  refine wp_cV (y' := m_X15_forget) 16 [] [] 0 0 dX16_commit_378 ml_X16_268 im_X15_forget se_X15_forget (by decide) (hR.t ht).k0 ok_X15_forget rfl (Nat.le_of_ble_eq_true rfl) rfl (Nat.le_of_ble_eq_true rfl) (d' := d - 1) (by omega) (Nat.zero_le _) (Nat.zero_le _) (c_X15_forget (hR.t ht) (by omega) (by omega) (fun h3 hO1 hF2 => cont_void ?_))
  refine wp_bipush (nI 99) dX16_commit_381 (by decide) ?_
  refine wp_zreturn dX16_commit_383 rfl (pk_charN (by decide)).1 ?_
  have hP4 := (hP).oT hF2
  have hR5 := hR.upT ht hF2 hO1 hB16
  have hG6 := hG.tr (FRR.oT hF2)
  exact hq _ hG6 ((th_oT hF2).trans h0') hR5 hP4
set_option maxRecDepth 100000 in
set_option maxHeartbeats 4000000 in
theorem l_X16_commitF {G : GG} {d bc bs : Nat} {Q : Pst} {h0 H : Hp} {S : RS} {t : Nat} (ht : t < 3) (hd : 14 ≤ d) (hb : RS_an S ≤ 4 ∧ RS_rn S ≤ 6) (hrow : ∀ a, a < RS_an S → (OA_row (RS_aa S a)).length ≤ 12) (hsq : ∀ q, q ∈ OT_sq (RS_tt S t) → q.1 < RS_an S ∧ -128 ≤ q.2.toInt ∧ q.2.toInt ≤ 127) (hR : MR H S) (hP : PO2 H) (hG : FRR h0 H) (h0' : h_I H (nm 1 0) 0 = nI 0) (J : JC H) (hbc : 49 ≤ bc) (hbs : 1924 ≤ bs) (hq : ∀ h', FRR h0 h' → h_I h' (nm 1 0) 0 = nI 0 → MR h' (RS_utt1 (cmG S t) t (fgt (RS_tt (cmG S t) t))) → PO2 h' → Q (oRet (vi (nI 99))) h') : WP G m_X16_commit d 322 [(2, vr (some (nm 6 t))), (0, vr (some (nm 1 0))), (1, vi (nI t))] [] H bc bs Q := by
  obtain ⟨⟨K2, hK2⟩, K, hK⟩ := id hP
  have hpl := pot_le (RS_aa S)
  refine wp_aload_n (i := 2) dX16_commit_322 rfl rfl ?_
  refine wp_get 16 9 (vr (some (nm 12 t))) dX16_commit_323 (hR.t ht).k0 (by decide) (by decide) fl_X16_343 (congrArg (fun z => toV (vr z)) ((hR.t ht).r10_9)) ?_
  refine wp_cV (y' := m_Jx4a65c_iterator_32c93) 2 [] [] 1 4 dX16_commit_326 ml_X16_289 im_Jx4a65c_iterator_32c93 se_Jx4a65c_iterator_32c93 (by decide) (hR.t ht).L21.k ok_Jx4a65c_iterator_32c93 rfl (Nat.le_of_ble_eq_true rfl) rfl (Nat.le_of_ble_eq_true rfl) (d' := d - 1) (by omega) (by omega) (by omega) (c_AL_iterator (hR.t ht).L21.k (nm 30 K) (hK K (Nat.le_refl _)) (by omega) (Nat.le_refl _) (Nat.le_refl _) (fun h1 I2 C3 => cont_ret ?_))
  have hR4 := hR.it C3
  have hG5 := hG.tr (FRR.it C3)
  have hPi6 := PI.of hP hK C3
  refine wp_astore (i := 5) (lv' := [(5, vr (some (nm 30 K))), (2, vr (some (nm 6 t))), (0, vr (some (nm 1 0))), (1, vi (nI t))]) dX16_commit_329 (by decide) rfl ?_
  have Jn := J.fr (fun i => C3 _ (nm_ne (by decide) (by decide) (by decide)))
  refine wp_pay (bc' := 0 + pot (RS_aa S)) (bs' := 0 + 40 * pot (RS_aa S)) (by omega) (by omega) ?_
  refine wp_sub [(5, vr (some (nm 30 K))), (2, vr (some (nm 6 t))), (0, vr (some (nm 1 0))), (1, vi (nI t))] (sb_cons (.head _) (sb_cons (.tail _ (.head _)) (sb_cons (.tail _ (.tail _ (.head _))) (sb_cons (.tail _ (.tail _ (.tail _ (.head _)))) sb_nil)))) ?_
  refine l_X16_commitD ht hd (OT_sq (RS_tt S t)).length 0 _ S (by omega) hR4 hb hrow hsq hPi6 hG5 ((th_it C3).trans h0') Jn I2 (fun H' r1 r2 r3 r4 => ?_)
  rw [List.drop_zero] at r1
  exact l_X16_commitE (S := cmG S t) ht hd ⟨by show RS_rn S ≤ 16; omega, by show RS_an S ≤ 16; omega⟩ r1 r2.po r3 r4 hq
