/-! The model: a new reference, a new agent, what is sent. -/
theorem JC.w {h : Hp} {a k : Nat} {x : Int32} (J : JC h) (ha : a % 128 ≠ 0) : JC (wI h a k x) := J.fr (fun i => ce_wI (by unfold nm; omega))
theorem MR.row {h h' : Hp} {S : RS} {K : Nat} (H : MR h S) (hf : h_k h (nm 22 K) = 0) (hc : ∀ b, b ≠ nm 22 K → ce h' b = ce h b) : MR h' S :=
  H.all (MK.of (fun i _ => hc _ (nm_ne (by decide) (by decide) (by decide)))) (by rw [ce_I (hc _ (nm_ne (by decide) (by decide) (by decide)))]) (by rw [ce_I (hc _ (nm_ne (by decide) (by decide) (by decide)))]) (hc 0 (by unfold nm; omega)) (fun k hk => hc _ (fun e => hk (by rw [e]; exact hf))) (hc _ (nm_ne (by decide) (by decide) (by decide))) (hc _ (nm_ne (by decide) (by decide) (by decide))) (hc _ (nm_ne (by decide) (by decide) (by decide))) (fun r i h1 h2 => hc _ (nm_ne (by omega) (by omega) (by decide))) (fun r i h1 h2 _ => hc _ (nm_ne (by omega) (by omega) (by decide)))
theorem FRR.row {h h' : Hp} {K : Nat} (hf : h_k h (nm 22 K) = 0) (hc : ∀ b, b ≠ nm 22 K → ce h' b = ce h b) : FRR h h' :=
  ⟨fun a ha => hc a (fun e => ha (by rw [e]; unfold WRR nm; omega)), fun k hk => hc _ (fun e => hk (by rw [e]; exact hf)), ⟨ce_k (hc _ (nm_ne (by decide) (by decide) (by decide))), ce_n (hc _ (nm_ne (by decide) (by decide) (by decide))), ce_R (hc _ (nm_ne (by decide) (by decide) (by decide))), ce_L (hc _ (nm_ne (by decide) (by decide) (by decide))), ce_F (hc _ (nm_ne (by decide) (by decide) (by decide)))⟩, fun j _ _ _ => by rw [ce_I (hc _ (nm_ne (by decide) (by decide) (by decide)))]⟩
theorem PO2.row {h h' : Hp} {K K3 : Nat} (hK : FreeI h 22 K) (hK3 : FreeI h 30 K3) (hc : ∀ b, b ≠ nm 22 K → ce h' b = ce h b) : PO2 h' :=
  ⟨⟨K + 1, fun i hi => (ce_k (hc _ (nm_nei (by omega)))).trans (hK i (by omega))⟩, ⟨K3, hK3.fr (fun i _ => hc _ (nm_ne (by decide) (by decide) (by decide)))⟩⟩
theorem th_row {h h' : Hp} {K : Nat} (hc : ∀ b, b ≠ nm 22 K → ce h' b = ce h b) : h_I h' (nm 1 0) 0 = h_I h (nm 1 0) 0 := by rw [ce_I (hc _ (nm_ne (by decide) (by decide) (by decide)))]
theorem MR.addR {h h' : Hp} {S : RS} {K : Nat} {x : ORS} (H : MR h S) (hn : RS_rn S < 16) (ha : RS_an S ≤ 16) (h22 : h_k h (nm 22 K) = 0) (ec : ∀ s i, s < 128 → ¬ ((4 ≤ s ∧ s ≤ 5 ∧ i = RS_rn S) ∨ (s = 23 ∧ i % 16 = RS_rn S) ∨ (s = 22 ∧ i = K) ∨ (s = 1 ∧ i = 13) ∨ s = 27) → ce h' (nm s i) = ce h (nm s i)) (L : LOb h' (nm 1 13) 27 0 4 (RS_rn S + 1)) (O : OR h' (RS_rn S) x) : MR h' (RS_urr (RS_urn S (RS_rn S + 1)) (va_up (RS_rr S) (RS_rn S) x)) := by
  have e22 : ∀ k, h_k h (nm 22 k) ≠ 0 → ce h' (nm 22 k) = ce h (nm 22 k) := fun k hk => by
    have hk2 : k ≠ K := fun e => hk (by rw [e]; exact h22)
    exact ec _ _ (by decide) (by omega)
  have e0 : ce h' 0 = ce h 0 := ec 0 0 (by decide) (by omega)
  have em : ce h' (nm 1 0) = ce h (nm 1 0) := ec _ _ (by decide) (by omega)
  have e17 : ce h' (nm 1 17) = ce h (nm 1 17) := ec _ _ (by decide) (by omega)
  have e13 : h_k h' (nm 1 13) = h_k h (nm 1 13) ∧ h_n h' (nm 1 13) = h_n h' (nm 1 13) := ⟨L.k.trans H.rl.k.symm, rfl⟩
  refine ⟨⟨⟨(ce_k em).trans H.mk, fun i a b c d => ?_, fun i a b c => ?_, H.mf.2.2.2⟩, (ce_n e17).trans H.tn, fun t ht => by rw [ce_R e17]; exact H.tr ht, by rw [ce_I em]; exact H.mo, by rw [ce_I em]; exact H.bg⟩, ⟨L, fun r hr => ?_, fun i hi => ?_, fun i hi => ?_, fun i hi h16 z => ?_⟩, ⟨H.al.frm e0 (ec _ _ (by decide) (by omega)) (fun z => ec _ _ (by decide) (by omega)), fun r hr => ?_, H.2.2.1.2.2.1.fr (fun _ _ => ec _ _ (by decide) (by omega)), H.2.2.1.2.2.2.1.fr (fun _ _ => ec _ _ (by decide) (by omega)), H.2.2.1.2.2.2.2.fr (fun _ _ _ _ => ec _ _ (by decide) (by omega))⟩, fun t ht => ?_, H.lg.frm e0 (ec _ _ (by decide) (by omega)) (fun z => ec _ _ (by decide) (by omega)) e22⟩
  · have h1 := H.mf.2.1 i a b c d
    rw [ce_R em]
    refine ⟨h1.1, ?_⟩
    by_cases e : i = 13
    · rw [e]; exact L.k
    · rw [ce_k (ec 1 i (by decide) (by omega))]; exact h1.2
  · rw [ce_n (ec 1 i (by decide) (by omega))]; exact H.mf.2.2.1 i a b c
  · show OR h' r (va_up (RS_rr S) (RS_rn S) x r)
    have hr : r < RS_rn S + 1 := hr
    rw [va_up_app]
    by_cases e : r = RS_rn S
    · rw [if_pos e, e]; exact O
    · rw [if_neg e]
      exact (H.r (by omega)).frm (ec _ _ (by decide) (by omega)) (ec _ _ (by decide) (by omega)) (fun z => ec _ _ (by decide) (by omega)) e0 e22
  · have hi : RS_rn S + 1 ≤ i := hi
    exact (ce_k (ec _ _ (by decide) (by omega))).trans (H.2.1.2.2.1 i (by omega))
  · have hi : RS_rn S + 1 ≤ i := hi
    exact (ce_k (ec _ _ (by decide) (by omega))).trans (H.2.1.2.2.2.1 i (by omega))
  · have hi : RS_rn S + 1 ≤ i := hi
    exact (ce_k (ec _ _ (by decide) (by omega))).trans (H.2.1.2.2.2.2 i (by omega) h16 z)
  · have hr : r < RS_an S := hr
    exact (H.a hr).frm (ec _ _ (by decide) (by omega)) (ec _ _ (by decide) (by omega)) (fun z => ec _ _ (by decide) (by omega)) e0 e22
  · exact (H.t ht).frm (ec _ _ (by decide) (by omega)) (ec _ _ (by decide) (by omega)) (ec _ _ (by decide) (by omega)) (ec _ _ (by decide) (by omega)) (ec _ _ (by decide) (by omega)) (ec _ _ (by decide) (by omega)) (ec _ _ (by decide) (by omega)) (fun z => ec _ _ (by decide) (by omega)) e0 e22
theorem MR.addA {h h' : Hp} {S : RS} {x : OAS} (H : MR h S) (hn : RS_an S < 16) (ha : RS_rn S ≤ 16) (ec : ∀ s i, s < 128 → ¬ ((13 ≤ s ∧ s ≤ 14 ∧ i = RS_an S) ∨ (s = 25 ∧ i % 16 = RS_an S) ∨ (s = 1 ∧ i = 18) ∨ s = 28) → ce h' (nm s i) = ce h (nm s i)) (L : LOb h' (nm 1 18) 28 0 13 (RS_an S + 1)) (O : OA h' (RS_an S) x) : MR h' (RS_uaa (RS_uan S (RS_an S + 1)) (va_up (RS_aa S) (RS_an S) x)) := by
  have e22 : ∀ k, h_k h (nm 22 k) ≠ 0 → ce h' (nm 22 k) = ce h (nm 22 k) := fun k hk => ec _ _ (by decide) (by omega)
  have e0 : ce h' 0 = ce h 0 := ec 0 0 (by decide) (by omega)
  have em : ce h' (nm 1 0) = ce h (nm 1 0) := ec _ _ (by decide) (by omega)
  have e17 : ce h' (nm 1 17) = ce h (nm 1 17) := ec _ _ (by decide) (by omega)
  refine ⟨⟨⟨(ce_k em).trans H.mk, fun i a b c d => ?_, fun i a b c => ?_, H.mf.2.2.2⟩, (ce_n e17).trans H.tn, fun t ht => by rw [ce_R e17]; exact H.tr ht, by rw [ce_I em]; exact H.mo, by rw [ce_I em]; exact H.bg⟩, ⟨H.rl.frm e0 (ec _ _ (by decide) (by omega)) (fun z => ec _ _ (by decide) (by omega)), fun r hr => ?_, H.2.1.2.2.1.fr (fun _ _ => ec _ _ (by decide) (by omega)), H.2.1.2.2.2.1.fr (fun _ _ => ec _ _ (by decide) (by omega)), H.2.1.2.2.2.2.fr (fun _ _ _ _ => ec _ _ (by decide) (by omega))⟩, ⟨L, fun r hr => ?_, fun i hi => ?_, fun i hi => ?_, fun i hi h16 z => ?_⟩, fun t ht => ?_, H.lg.frm e0 (ec _ _ (by decide) (by omega)) (fun z => ec _ _ (by decide) (by omega)) e22⟩
  · have h1 := H.mf.2.1 i a b c d
    rw [ce_R em]
    refine ⟨h1.1, ?_⟩
    by_cases e : i = 18
    · rw [e]; exact L.k
    · rw [ce_k (ec 1 i (by decide) (by omega))]; exact h1.2
  · rw [ce_n (ec 1 i (by decide) (by omega))]; exact H.mf.2.2.1 i a b c
  · have hr : r < RS_rn S := hr
    exact (H.r hr).frm (ec _ _ (by decide) (by omega)) (ec _ _ (by decide) (by omega)) (fun z => ec _ _ (by decide) (by omega)) e0 e22
  · show OA h' r (va_up (RS_aa S) (RS_an S) x r)
    have hr : r < RS_an S + 1 := hr
    rw [va_up_app]
    by_cases e : r = RS_an S
    · rw [if_pos e, e]; exact O
    · rw [if_neg e]
      exact (H.a (by omega)).frm (ec _ _ (by decide) (by omega)) (ec _ _ (by decide) (by omega)) (fun z => ec _ _ (by decide) (by omega)) e0 e22
  · have hi : RS_an S + 1 ≤ i := hi
    exact (ce_k (ec _ _ (by decide) (by omega))).trans (H.2.2.1.2.2.1 i (by omega))
  · have hi : RS_an S + 1 ≤ i := hi
    exact (ce_k (ec _ _ (by decide) (by omega))).trans (H.2.2.1.2.2.2.1 i (by omega))
  · have hi : RS_an S + 1 ≤ i := hi
    exact (ce_k (ec _ _ (by decide) (by omega))).trans (H.2.2.1.2.2.2.2 i (by omega) h16 z)
  · exact (H.t ht).frm (ec _ _ (by decide) (by omega)) (ec _ _ (by decide) (by omega)) (ec _ _ (by decide) (by omega)) (ec _ _ (by decide) (by omega)) (ec _ _ (by decide) (by omega)) (ec _ _ (by decide) (by omega)) (ec _ _ (by decide) (by omega)) (fun z => ec _ _ (by decide) (by omega)) e0 e22
theorem FRR.ec {h h' : Hp} {K : Nat} (h22 : ∀ k, h_k h (nm 22 k) ≠ 0 → ce h' (nm 22 k) = ce h (nm 22 k)) (ec : ∀ a, ¬ WRR a → ce h' a = ce h a) (em : ce h' (nm 1 0) = ce h (nm 1 0)) : FRR h h' :=
  ⟨ec, h22, ⟨ce_k em, ce_n em, ce_R em, ce_L em, ce_F em⟩, fun j _ _ _ => by rw [ce_I em]⟩
theorem nI_nej {a b : Nat} (ha : a < 2 ^ 31) (hb : b < 2 ^ 31) (h : a ≠ b) : nI a ≠ nI b := fun e => h (by have e2 := congrArg Int32.toNatClampNeg e; rwa [nI_clamp ha, nI_clamp hb] at e2)
def abB (v lo hi : Int32) : Bool := elB lo && elB hi && inB v lo hi
def o_addReference (S : RS) (v lo hi : Int32) : Int32 × Int32 × RS :=
  if abB v lo hi = false then (nI 1, nI 0, S) else if RS_rn S = 6 then (nI 2, nI 0, S)
  else (nI 0, nI (RS_rn S), RS_urr (RS_urn S (RS_rn S + 1)) (va_up (RS_rr S) (RS_rn S) (lo, hi, 2, v, [(0, v)])))
def o_addAgent (S : RS) (v lo hi md : Int32) : Int32 × Int32 × RS :=
  if abB v lo hi = false ∨ (md ≠ nI 102 ∧ md ≠ nI 99) then (nI 1, nI 0, S) else if RS_an S = 4 then (nI 2, nI 0, S)
  else (nI 0, nI (RS_an S), RS_uaa (RS_uan S (RS_an S + 1)) (va_up (RS_aa S) (RS_an S) (v, lo, hi, md, false, 0, [])))
set_option maxRecDepth 100000 in
set_option maxHeartbeats 4000000 in
theorem c_X16_areBounds {G : GG} {d bc bs : Nat} {h : Hp} {Q : Pst} (v lo hi : Int32) (hd : 1 ≤ d) (hq : Q (oRet (vi (bI (abB v lo hi)))) h) : WP G m_X16_areBounds d 0 (aargs 0 [vi v, vi lo, vi hi]) [] h bc bs Q := by
  refine wp_sub [(0, vi v), (1, vi lo), (2, vi hi)] (fun _ hz => hz) ?_
  refine wp_iload_n (i := 1) dX16_areBounds_0 rfl rfl ?_
  refine wp_sipush (-999) dX16_areBounds_1 (by decide) ?_
  refine wp_sipush (nI 999) dX16_areBounds_4 (by decide) ?_
  refine wp_cS (y' := m_X16_in) [vi lo, vi (-999), vi (nI 999)] [] 0 0 dX16_areBounds_7 ml_X16_70 st_X16_in ok_X16_in rfl (Nat.le_of_ble_eq_true rfl) rfl (Nat.le_of_ble_eq_true rfl) (d' := d - 1) (by omega) (Nat.zero_le _) (Nat.zero_le _) (c_X16_in lo (-999) (nI 999) (cont_ret ?_))
  refine wp_if_eqB 39 dX16_areBounds_10 (by decide) (fun c_10 => ?_) (fun c_10 => ?_)
  · have e : abB v lo hi = false := by unfold abB; rw [show elB lo = false from c_10]; rfl
    rw [e] at hq
    refine wp_iconst (nI 0) dX16_areBounds_39 (by decide) ?_
    refine wp_zreturn dX16_areBounds_40 rfl (by decide) ?_
    exact hq
  · skip
    refine wp_iload_n (i := 2) dX16_areBounds_13 rfl rfl ?_
    refine wp_sipush (-999) dX16_areBounds_14 (by decide) ?_
    refine wp_sipush (nI 999) dX16_areBounds_17 (by decide) ?_
    refine wp_cS (y' := m_X16_in) [vi hi, vi (-999), vi (nI 999)] [] 0 0 dX16_areBounds_20 ml_X16_70 st_X16_in ok_X16_in rfl (Nat.le_of_ble_eq_true rfl) rfl (Nat.le_of_ble_eq_true rfl) (d' := d - 1) (by omega) (Nat.zero_le _) (Nat.zero_le _) (c_X16_in hi (-999) (nI 999) (cont_ret ?_))
    refine wp_if_eqB 39 dX16_areBounds_23 (by decide) (fun c_23 => ?_) (fun c_23 => ?_)
    · have e : abB v lo hi = false := by unfold abB; rw [show elB lo = true from c_10, show elB hi = false from c_23]; rfl
      rw [e] at hq
      refine wp_iconst (nI 0) dX16_areBounds_39 (by decide) ?_
      refine wp_zreturn dX16_areBounds_40 rfl (by decide) ?_
      exact hq
    · skip
      refine wp_iload_n (i := 0) dX16_areBounds_26 rfl rfl ?_
      refine wp_iload_n (i := 1) dX16_areBounds_27 rfl rfl ?_
      refine wp_iload_n (i := 2) dX16_areBounds_28 rfl rfl ?_
      refine wp_cS (y' := m_X16_in) [vi v, vi lo, vi hi] [] 0 0 dX16_areBounds_29 ml_X16_70 st_X16_in ok_X16_in rfl (Nat.le_of_ble_eq_true rfl) rfl (Nat.le_of_ble_eq_true rfl) (d' := d - 1) (by omega) (Nat.zero_le _) (Nat.zero_le _) (c_X16_in v lo hi (cont_ret ?_))
      refine wp_if_eqB 39 dX16_areBounds_32 (by decide) (fun c_32 => ?_) (fun c_32 => ?_)
      · have e : abB v lo hi = false := by unfold abB; rw [show elB lo = true from c_10, show elB hi = true from c_23, c_32]; rfl
        rw [e] at hq
        refine wp_iconst (nI 0) dX16_areBounds_39 (by decide) ?_
        refine wp_zreturn dX16_areBounds_40 rfl (by decide) ?_
        exact hq
      · have e : abB v lo hi = true := by unfold abB; rw [show elB lo = true from c_10, show elB hi = true from c_23, c_32]; rfl
        rw [e] at hq
        refine wp_iconst (nI 1) dX16_areBounds_35 (by decide) ?_
        refine wp_goto 40 dX16_areBounds_36 (by decide) ?_
        refine wp_zreturn dX16_areBounds_40 rfl (by decide) ?_
        exact hq
set_option maxRecDepth 100000 in
set_option maxHeartbeats 4000000 in
theorem c_X16_addReference {G : GG} {d bc bs : Nat} {h : Hp} {Q : Pst} {S : RS} (hR : MR h S) {n : Nat} (hB : RB n S) (hP : PO2 h) {v lo hi : Int32} (J : JC h) (hbc : 6 ≤ bc) (hbs : 100 ≤ bs) (hd : 12 ≤ d) (hq : RO Q h (o_addReference S v lo hi)) : WP G m_X16_addReference d 0 (aargs 0 [vr (some (nm 1 0)), vi v, vi lo, vi hi]) [] h bc bs Q := by
  refine wp_sub [(0, vr (some (nm 1 0))), (1, vi v), (2, vi lo), (3, vi hi)] (fun _ hz => hz) ?_
  have hG := FRR.rf (h := h)
  have hB16 := hB.h16
  have hbb := hB.1
  have q14 : clN 14 = 5 := rfl
  have q13 : clN 13 = 7 := rfl
  have q02 : clN 2 = 3 := rfl
  refine wp_aload_n (i := 0) dX16_addReference_0 rfl rfl ?_
  refine wp_iconst (nI 0) dX16_addReference_1 (by decide) ?_
  refine wp_putI 17 0 dX16_addReference_2 hR.mk (by decide) (by decide) (by decide) fl_X16_63 rfl (fun _ _ => rfl) rfl rfl ?_
  have hR1 := hR.w0 (x := (nI 0))
  have hG2 := hG.tr (FRR.w0 (x := (nI 0)))
  have hP3 := PO2.m (a := nm 1 0) (k := 0) (x := (nI 0)) hP
  refine wp_aload_n (i := 0) dX16_addReference_5 rfl rfl ?_
  refine wp_iload_n (i := 1) dX16_addReference_6 rfl rfl ?_
  refine wp_iload_n (i := 2) dX16_addReference_7 rfl rfl ?_
  refine wp_iload_n (i := 3) dX16_addReference_8 rfl rfl ?_
  refine wp_cS (y' := m_X16_areBounds) [vi v, vi lo, vi hi] [vr (some (nm 1 0))] 0 0 dX16_addReference_9 ml_X16_235 st_X16_areBounds ok_X16_areBounds rfl (Nat.le_of_ble_eq_true rfl) rfl (Nat.le_of_ble_eq_true rfl) (d' := d - 1) (by omega) (Nat.zero_le _) (Nat.zero_le _) (c_X16_areBounds v lo hi (by omega) (cont_ret ?_))
  refine wp_if_neB 19 dX16_addReference_12 (by decide) (fun c_12 => ?_) (fun c_12 => ?_)
  · skip
    refine wp_iconst (nI 0) dX16_addReference_19 (by decide) ?_
    refine wp_iconst (nI 1) dX16_addReference_20 (by decide) ?_
    refine wp_cV (y' := m_X16_fails) 17 [vi (nI 0), vi (nI 1)] [] 0 0 dX16_addReference_21 ml_X16_102 im_X16_fails se_X16_fails (by decide) hR1.mk ok_X16_fails rfl (Nat.le_of_ble_eq_true rfl) rfl (Nat.le_of_ble_eq_true rfl) (d' := d - 1) (by omega) (Nat.zero_le _) (Nat.zero_le _) (c_flF hR1.mk wI_ss (nI 1) (by decide) (cont_ret ?_))
    have g_1 : ¬ (abB v lo hi = false) := by exact fun z => Bool.false_ne_true (z.symm.trans c_12)
    refine wp_if_neN 52 dX16_addReference_24 (by decide) (by decide) (fun c_24 => absurd c_24 (by decide)) (fun c_24 => ?_)
    refine wp_aload_n (i := 0) dX16_addReference_27 rfl rfl ?_
    refine wp_aload_n (i := 0) dX16_addReference_28 rfl rfl ?_
    refine wp_get 17 13 (vr (some (nm 1 13))) dX16_addReference_29 hR1.mk (by decide) (by decide) fl_X16_47 (congrArg (fun z => toV (vr z)) (hR1.ref 13 (by decide) (by decide) (by decide) (by decide))) ?_
    refine wp_cV (y' := m_Jx4a65c_size_8abf5) 2 [] [vr (some (nm 1 0))] 0 0 dX16_addReference_32 ml_X16_168 im_Jx4a65c_size_8abf5 se_Jx4a65c_size_8abf5 (by decide) hR1.rl.k ok_Jx4a65c_size_8abf5 rfl (Nat.le_of_ble_eq_true rfl) rfl (Nat.le_of_ble_eq_true rfl) (d' := d - 1) (by omega) (Nat.zero_le _) (Nat.zero_le _) (c_LO_size hR1.rl (cont_ret ?_))
    refine wp_bipush (nI 6) dX16_addReference_35 (by decide) ?_
    refine wp_icmp_neN 44 dX16_addReference_37 (by decide) (by omega) (by decide) (fun c_37 => ?_) (fun c_37 => ?_)
    · skip
      refine wp_iconst (nI 0) dX16_addReference_44 (by decide) ?_
      refine wp_iconst (nI 2) dX16_addReference_45 (by decide) ?_
      refine wp_cV (y' := m_X16_fails) 17 [vi (nI 0), vi (nI 2)] [] 0 0 dX16_addReference_46 ml_X16_102 im_X16_fails se_X16_fails (by decide) hR1.mk ok_X16_fails rfl (Nat.le_of_ble_eq_true rfl) rfl (Nat.le_of_ble_eq_true rfl) (d' := d - 1) (by omega) (Nat.zero_le _) (Nat.zero_le _) (c_flF hR1.mk wI_ss (nI 2) (by decide) (cont_ret ?_))
      have g_2 : ¬ (RS_rn S = 6) := by first | exact fun z => Bool.false_ne_true (c_46.symm.trans z) | exact of_decide_eq_false c_46 | omega | (simp at c_46 ⊢; grind)
      refine wp_if_eqN 54 dX16_addReference_49 (by decide) (by decide) (fun c_49 => ?_) (fun c_49 => absurd c_49 (by decide))
      obtain ⟨⟨K, hK22⟩, K3, hK30⟩ := id hP3
      have hf4 := hR1.2.1.2.2.1 _ (Nat.le_refl _)
      have hf5 := hR1.2.1.2.2.2.1 _ (Nat.le_refl _)
      have hf23 := fun z => hR1.2.1.2.2.2.2 _ (Nat.le_refl _) (by omega) z
      have J1 := J.w (a := nm 1 0) (k := 0) (x := nI 0) (by unfold nm; omega)
      refine wp_new 14 dX16_addReference_54 (by decide) kl_X16_238 ins_X13 ini_X13 (by omega) (by show 5 ≤ _; omega) (nm 4 (RS_rn S)) hf4 ?_
      refine wp_dup dX16_addReference_57 ?_
      refine wp_iload_n (i := 1) dX16_addReference_58 rfl rfl ?_
      refine wp_iload_n (i := 2) dX16_addReference_59 rfl rfl ?_
      refine wp_iload_n (i := 3) dX16_addReference_60 rfl rfl ?_
      refine wp_cI (y' := m_X13_init) [vi v, vi lo, vi hi] [vr (some (nm 4 (RS_rn S)))] 1 3 dX16_addReference_61 ml_X16_240 im_X13_init rfl rfl ok_X13_init rfl (Nat.le_of_ble_eq_true rfl) rfl (Nat.le_of_ble_eq_true rfl) (d' := d - 1) (by omega) (by omega) (by omega) (c_X13_init hf5 hf23 J1 (by omega) (Nat.le_refl _) (Nat.le_refl _) (fun h2 O2 F2 => cont_void ?_))
      refine wp_astore (i := 4) (lv' := [(4, vr (some (nm 4 (RS_rn S)))), (0, vr (some (nm 1 0))), (1, vi v), (2, vi lo), (3, vi hi)]) dX16_addReference_64 (by decide) rfl ?_
      refine wp_aload (i := 4) dX16_addReference_66 rfl ?_
      refine wp_iconst (nI 0) dX16_addReference_68 (by decide) ?_
      refine wp_iload_n (i := 1) dX16_addReference_69 rfl rfl ?_
      refine wp_cV (y' := m_X13_come) 14 [vi (nI 0), vi v] [] 2 40 dX16_addReference_70 ml_X16_243 im_X13_come se_X13_come (by decide) O2.k0 ok_X13_come rfl (Nat.le_of_ble_eq_true rfl) rfl (Nat.le_of_ble_eq_true rfl) (d' := d - 1) (by omega) (by omega) (by omega) (c_X13_come O2 (hK22.fr (fun i _ => F2 _ (WRf_n (by omega) (by decide)))) (by omega) (Nat.zero_le _) (by show (2 : Nat) ≤ 8; decide) (m := 0) (by omega) (Nat.le_refl _) (Nat.le_refl _) (fun h3 O3 F3 fr3 => cont_void ?_))
      have F13 := Fr.tr (F2.up (V := WC (RS_rn S) K) (fun b hb => Or.inl hb)) F3
      have hrl3 := hR1.rl.frm (F13 0 (by unfold WC WRf; unfold nm; omega)) (F13 _ (WC_n (by omega) (by decide))) (fun z => F13 _ (WC_n (by omega) (by decide)))
      refine wp_aload_n (i := 0) dX16_addReference_73 rfl rfl ?_
      refine wp_get 17 13 (vr (some (nm 1 13))) dX16_addReference_74 ((ce_k (F13 (nm 1 0) (WC_n (by omega) (by decide)))).trans hR1.mk) (by decide) (by decide) fl_X16_47 (congrArg (fun z => toV (vr z)) ((congrFun (ce_R (F13 (nm 1 0) (WC_n (by omega) (by decide)))) 13).trans (hR1.ref 13 (by decide) (by decide) (by decide) (by decide)))) ?_
      refine wp_aload (i := 4) dX16_addReference_77 rfl ?_
      refine wp_cV (y' := m_Jx4a65c_add_9ea2d) 2 [vr (some (nm 4 (RS_rn S)))] [] 1 (10 + 2 * RS_rn S) dX16_addReference_79 ml_X16_175 im_Jx4a65c_add_9ea2d se_Jx4a65c_add_9ea2d (by decide) hrl3.k ok_Jx4a65c_add_9ea2d rfl (Nat.le_of_ble_eq_true rfl) rfl (Nat.le_of_ble_eq_true rfl) (d' := d - 1) (by omega) (by omega) (by omega) (c_LO_add hrl3 (by rw [O3.k0]; decide) (by rw [O3.k0]; decide) (by omega) (by decide) (by decide) (by decide) (by omega) (Nat.le_refl _) (Nat.le_refl _) (fun h4 L4 C4 => cont_ret ?_))
      have c14 : ∀ a, ¬ WC (RS_rn S) K a → a ≠ nm 1 13 → (∀ z, a ≠ nm 27 (16 * z + 0)) → ce h4 a = ce _ a := fun a h1 h2 h3 => (C4 a h2 h3).trans (F13 a h1)
      refine wp_pop dX16_addReference_82 ?_
      refine wp_aload_n (i := 0) dX16_addReference_83 rfl rfl ?_
      refine wp_get 17 13 (vr (some (nm 1 13))) dX16_addReference_84 ((ce_k (c14 _ (WC_n (by omega) (by decide)) (by unfold nm; omega) (fun z => by unfold nm; omega))).trans hR1.mk) (by decide) (by decide) fl_X16_47 (congrArg (fun z => toV (vr z)) ((congrFun (ce_R (c14 _ (WC_n (by omega) (by decide)) (by unfold nm; omega) (fun z => by unfold nm; omega))) 13).trans (hR1.ref 13 (by decide) (by decide) (by decide) (by decide)))) ?_
      refine wp_cV (y' := m_Jx4a65c_size_8abf5) 2 [] [] 0 0 dX16_addReference_87 ml_X16_168 im_Jx4a65c_size_8abf5 se_Jx4a65c_size_8abf5 (by decide) L4.k ok_Jx4a65c_size_8abf5 rfl (Nat.le_of_ble_eq_true rfl) rfl (Nat.le_of_ble_eq_true rfl) (d' := d - 1) (by omega) (Nat.zero_le _) (Nat.zero_le _) (c_LO_size L4 (cont_ret ?_))
      refine wp_iconst (nI 1) dX16_addReference_90 (by decide) ?_
      refine wp_isubN dX16_addReference_91 (by omega) ?_
      refine wp_ireturn dX16_addReference_92 rfl ?_
      rw [show o_addReference S v lo hi = (nI 0, nI (RS_rn S + 1 - 1), RS_urr (RS_urn S (RS_rn S + 1)) (va_up (RS_rr S) (RS_rn S) (lo, hi, 2, v, [(0, v)]))) from by unfold o_addReference; rw [if_neg g_1, if_neg g_2]; rfl] at hq
      have hk22 := hK22 K (Nat.le_refl _)
      have e22 : ∀ k, h_k _ (nm 22 k) ≠ 0 → ce h4 (nm 22 k) = ce _ (nm 22 k) := fun k hk => c14 _ (WC_n (by have : k ≠ K := fun e => hk (by rw [e]; exact hk22); omega) (by decide)) (by unfold nm; omega) (fun z => by unfold nm; omega)
      refine hq _ (hG2.tr (FRR.ec (K := K) e22 (fun a ha => c14 a (fun z => ha (by unfold WC WRf at z; unfold WRR; unfold nm at *; omega)) (fun z => ha (by rw [z]; unfold WRR nm; omega)) (fun z e => ha (by rw [e]; unfold WRR nm; omega))) (c14 _ (WC_n (by omega) (by decide)) (by unfold nm; omega) (fun z => by unfold nm; omega)))) ?_ (hR1.addR (by omega) hB16.2 hk22 (fun s i hs hn => c14 _ (WC_n (by omega) hs) (by unfold nm; omega) (fun z => by unfold nm; omega)) L4 (O3.frm (C4 _ (by unfold nm; omega) (fun z => by unfold nm; omega)) (C4 _ (by unfold nm; omega) (fun z => by unfold nm; omega)) (fun z => C4 _ (by unfold nm; omega) (fun z => by unfold nm; omega)) (C4 0 (by unfold nm; omega) (fun z => by unfold nm; omega)) (fun k _ => C4 _ (by unfold nm; omega) (fun z => by unfold nm; omega)))) ?_
      · exact (congrFun (ce_I (c14 _ (WC_n (by omega) (by decide)) (by unfold nm; omega) (fun z => by unfold nm; omega))) 0).trans wI_ss
      · exact ⟨⟨K + 1, fr3.fr (fun i _ => C4 _ (by unfold nm; omega) (fun z => by unfold nm; omega))⟩, ⟨K3, (show FreeI _ 30 K3 from hK30).fr (fun i _ => c14 _ (WC_n (by omega) (by decide)) (by unfold nm; omega) (fun z => by unfold nm; omega))⟩⟩
    · skip
      refine wp_iconst (nI 1) dX16_addReference_40 (by decide) ?_
      refine wp_goto 45 dX16_addReference_41 (by decide) ?_
      refine wp_iconst (nI 2) dX16_addReference_45 (by decide) ?_
      refine wp_cV (y' := m_X16_fails) 17 [vi (nI 1), vi (nI 2)] [] 0 0 dX16_addReference_46 ml_X16_102 im_X16_fails se_X16_fails (by decide) hR1.mk ok_X16_fails rfl (Nat.le_of_ble_eq_true rfl) rfl (Nat.le_of_ble_eq_true rfl) (d' := d - 1) (by omega) (Nat.zero_le _) (Nat.zero_le _) (c_flT hR1.mk wI_ss (nI 2) (by decide) (cont_ret ?_))
      have g_2 : RS_rn S = 6 := by first | exact c_46 | exact of_decide_eq_true c_46 | omega | (simp at c_46 ⊢; grind)
      have hR10 := hR1.w0 (x := nI 2)
      have hG11 := hG2.tr (FRR.w0 (x := nI 2))
      have hP12 := PO2.m (a := nm 1 0) (k := 0) (x := nI 2) hP3
      refine wp_if_eqN 54 dX16_addReference_49 (by decide) (by decide) (fun c_49 => absurd c_49 (by decide)) (fun c_49 => ?_)
      refine wp_iconst (nI 0) dX16_addReference_52 (by decide) ?_
      refine wp_ireturn dX16_addReference_53 rfl ?_
      rw [show o_addReference S v lo hi = (nI 2, nI 0, S) from by unfold o_addReference; rw [if_neg g_1, if_pos g_2]] at hq
      exact hq _ hG11 wI_ss hR10 hP12
  · skip
    refine wp_iconst (nI 1) dX16_addReference_15 (by decide) ?_
    refine wp_goto 20 dX16_addReference_16 (by decide) ?_
    refine wp_iconst (nI 1) dX16_addReference_20 (by decide) ?_
    refine wp_cV (y' := m_X16_fails) 17 [vi (nI 1), vi (nI 1)] [] 0 0 dX16_addReference_21 ml_X16_102 im_X16_fails se_X16_fails (by decide) hR1.mk ok_X16_fails rfl (Nat.le_of_ble_eq_true rfl) rfl (Nat.le_of_ble_eq_true rfl) (d' := d - 1) (by omega) (Nat.zero_le _) (Nat.zero_le _) (c_flT hR1.mk wI_ss (nI 1) (by decide) (cont_ret ?_))
    have g_1 : abB v lo hi = false := by exact c_12
    have hR13 := hR1.w0 (x := nI 1)
    have hG14 := hG2.tr (FRR.w0 (x := nI 1))
    have hP15 := PO2.m (a := nm 1 0) (k := 0) (x := nI 1) hP3
    refine wp_if_neN 52 dX16_addReference_24 (by decide) (by decide) (fun c_24 => ?_) (fun c_24 => absurd c_24 (by decide))
    refine wp_iconst (nI 0) dX16_addReference_52 (by decide) ?_
    refine wp_ireturn dX16_addReference_53 rfl ?_
    rw [show o_addReference S v lo hi = (nI 1, nI 0, S) from by unfold o_addReference; rw [if_pos g_1]] at hq
    exact hq _ hG14 wI_ss hR13 hP15
set_option maxRecDepth 100000 in
set_option maxHeartbeats 4000000 in
theorem c_X12_init {G : GG} {d bc bs : Nat} {h : Hp} {Q : Pst} {a : Nat} (f14 : h_k h (nm 14 a) = 0) (f25 : ∀ z, h_k h (nm 25 (16 * z + a)) = 0) (J : JC h) {v lo hi : Int32} {md : Nat} (hmd : md < 65536) (hd : 5 ≤ d) (hbc : 1 ≤ bc) (hbs : 3 ≤ bs) (hq : ∀ h', OA h' a (v, lo, hi, nI md, false, 0, []) → Fr h h' (WAg a) → Q oVoid h') : WP G m_X12_init d 0 (aargs 0 [vr (some (nm 13 a)), vi v, vi lo, vi hi, vi (nI md)]) [] (mk h (nm 13 a) 14 0) bc bs Q := by
  refine wp_sub [(0, vr (some (nm 13 a))), (1, vi v), (2, vi lo), (3, vi hi), (4, vi (nI md))] (fun _ hz => hz) ?_
  refine wp_aload_n (i := 0) dX12_init_0 rfl rfl ?_
  refine wp_objInit dX12_init_1 ml_X12_3 im_java_lang_Object__init____V co_obj (by omega) (by decide) ?_
  refine wp_aload_n (i := 0) dX12_init_4 rfl rfl ?_
  refine wp_new 2 dX12_init_5 (by decide) kl_X12_9 ins_Jx4a65c ini_Jx4a65c (by omega) (by show 3 ≤ _; omega) (nm 14 a) (by simp [gI_wI, gI_wR, gI_mk, gR_wI, gR_wR, gR_mk, gk_wI, gk_wR, gk_mk, gn_wI, gn_wR, gn_mk, nm_eq, nm_i]; exact f14) ?_
  have hkl : h_k (mk (mk h (nm 13 a) 14 0) (nm 14 a) 3 0) (nm 14 a) = 3 := by rw [gk_mk, if_pos rfl]
  refine wp_dup dX12_init_8 ?_
  refine wp_cI (y' := m_Jx4a65c_init_da8c8) [] [vr (some (nm 14 a)), vr (some (nm 13 a))] 0 0 dX12_init_9 ml_X12_11 im_Jx4a65c_init_da8c8 rfl rfl ok_Jx4a65c_init_da8c8 rfl (Nat.le_of_ble_eq_true rfl) rfl (Nat.le_of_ble_eq_true rfl) (d' := d - 1) (by omega) (Nat.zero_le _) (Nat.zero_le _) (c_AL_init hkl (by omega) (cont_void ?_))
  refine wp_putRF 13 6 dX12_init_12 (by simp [gI_wI, gI_wR, gI_mk, gR_wI, gR_wR, gR_mk, gk_wI, gk_wR, gk_mk, gn_wI, gn_wR, gn_mk, nm_eq, nm_i]) (by decide) (by decide) (by decide) fl_X12_12 rfl rfl rfl (fun _ _ => rfl) rfl ?_
  refine wp_aload_n (i := 0) dX12_init_15 rfl rfl ?_
  refine wp_iload_n (i := 1) dX12_init_16 rfl rfl ?_
  refine wp_putI 13 0 dX12_init_17 (by simp [gI_wI, gI_wR, gI_mk, gR_wI, gR_wR, gR_mk, gk_wI, gk_wR, gk_mk, gn_wI, gn_wR, gn_mk, nm_eq, nm_i]) (by decide) (by decide) (by decide) fl_X12_18 rfl (fun _ _ => rfl) rfl rfl ?_
  refine wp_aload_n (i := 0) dX12_init_20 rfl rfl ?_
  refine wp_iload_n (i := 2) dX12_init_21 rfl rfl ?_
  refine wp_putIF 13 1 dX12_init_22 (by simp [gI_wI, gI_wR, gI_mk, gR_wI, gR_wR, gR_mk, gk_wI, gk_wR, gk_mk, gn_wI, gn_wR, gn_mk, nm_eq, nm_i]) (by decide) (by decide) (by decide) fl_X12_22 rfl rfl rfl (fun _ _ => rfl) rfl rfl ?_
  refine wp_aload_n (i := 0) dX12_init_25 rfl rfl ?_
  refine wp_iload_n (i := 3) dX12_init_26 rfl rfl ?_
  refine wp_putIF 13 2 dX12_init_27 (by simp [gI_wI, gI_wR, gI_mk, gR_wI, gR_wR, gR_mk, gk_wI, gk_wR, gk_mk, gn_wI, gn_wR, gn_mk, nm_eq, nm_i]) (by decide) (by decide) (by decide) fl_X12_25 rfl rfl rfl (fun _ _ => rfl) rfl rfl ?_
  refine wp_aload_n (i := 0) dX12_init_30 rfl rfl ?_
  refine wp_iload (i := 4) dX12_init_31 rfl ?_
  refine wp_putIF 13 3 dX12_init_33 (by simp [gI_wI, gI_wR, gI_mk, gR_wI, gR_wR, gR_mk, gk_wI, gk_wR, gk_mk, gn_wI, gn_wR, gn_mk, nm_eq, nm_i]) (by decide) (by decide) (by decide) fl_X12_28 rfl rfl rfl (fun _ _ => rfl) (pk_charN hmd).1 (pk_charN hmd).2 ?_
  refine wp_return dX12_init_36 rfl ?_
  exact hq _ ⟨by simp [gI_wI, gI_wR, gI_mk, gR_wI, gR_wR, gR_mk, gk_wI, gk_wR, gk_mk, gn_wI, gn_wR, gn_mk, nm_eq, nm_i], by simp [gI_wI, gI_wR, gI_mk, gR_wI, gR_wR, gR_mk, gk_wI, gk_wR, gk_mk, gn_wI, gn_wR, gn_mk, nm_eq, nm_i], by simp [gI_wI, gI_wR, gI_mk, gR_wI, gR_wR, gR_mk, gk_wI, gk_wR, gk_mk, gn_wI, gn_wR, gn_mk, nm_eq, nm_i], by simp [gI_wI, gI_wR, gI_mk, gR_wI, gR_wR, gR_mk, gk_wI, gk_wR, gk_mk, gn_wI, gn_wR, gn_mk, nm_eq, nm_i], by simp [gI_wI, gI_wR, gI_mk, gR_wI, gR_wR, gR_mk, gk_wI, gk_wR, gk_mk, gn_wI, gn_wR, gn_mk, nm_eq, nm_i], by simp [gI_wI, gI_wR, gI_mk, gR_wI, gR_wR, gR_mk, gk_wI, gk_wR, gk_mk, gn_wI, gn_wR, gn_mk, nm_eq, nm_i]; rfl, by simp [gI_wI, gI_wR, gI_mk, gR_wI, gR_wR, gR_mk, gk_wI, gk_wR, gk_mk, gn_wI, gn_wR, gn_mk, nm_eq, nm_i]; rfl, by simp [gI_wI, gI_wR, gI_mk, gR_wI, gR_wR, gR_mk, gk_wI, gk_wR, gk_mk, gn_wI, gn_wR, gn_mk, nm_eq, nm_i], ⟨⟨0, 0, AL.nil (by simp [gI_wI, gI_wR, gI_mk, gR_wI, gR_wR, gR_mk, gk_wI, gk_wR, gk_mk, gn_wI, gn_wR, gn_mk, nm_eq, nm_i]) (by simp [gI_wI, gI_wR, gI_mk, gR_wI, gR_wR, gR_mk, gk_wI, gk_wR, gk_mk, gn_wI, gn_wR, gn_mk, nm_eq, nm_i]) (by simp [gI_wI, gI_wR, gI_mk, gR_wI, gR_wR, gR_mk, gk_wI, gk_wR, gk_mk, gn_wI, gn_wR, gn_mk, nm_eq, nm_i]; rfl) (by simp [gI_wI, gI_wR, gI_mk, gR_wI, gR_wR, gR_mk, gk_wI, gk_wR, gk_mk, gn_wI, gn_wR, gn_mk, nm_0']; exact J.1) (by simp [gI_wI, gI_wR, gI_mk, gR_wI, gR_wR, gR_mk, gk_wI, gk_wR, gk_mk, gn_wI, gn_wR, gn_mk, nm_0']; exact J.2.1) (fun g' _ => by simp [gI_wI, gI_wR, gI_mk, gR_wI, gR_wR, gR_mk, gk_wI, gk_wR, gk_mk, gn_wI, gn_wR, gn_mk, nm_eq, nm_i]; exact f25 g')⟩, fun x hx => nomatch hx⟩⟩ (fun b ha => by
    have n4 : b ≠ nm 13 a := fun e => ha (by rw [e]; unfold WAg nm; omega)
    have n5 : b ≠ nm 14 a := fun e => ha (by rw [e]; unfold WAg nm; omega)
    exact (ce_wI n4).trans ((ce_wI n4).trans ((ce_wI n4).trans ((ce_wI n4).trans ((ce_wR n4).trans ((ce_wR n5).trans ((ce_wI n5).trans ((ce_mk n5).trans (ce_mk n4)))))))))
set_option maxRecDepth 100000 in
set_option maxHeartbeats 4000000 in
theorem c_X16_addAgent {G : GG} {d bc bs : Nat} {h : Hp} {Q : Pst} {S : RS} (hR : MR h S) {n : Nat} (hB : RB n S) (hP : PO2 h) {v lo hi : Int32} {md : Nat} (hmd : md < 65536) (J : JC h) (hbc : 6 ≤ bc) (hbs : 100 ≤ bs) (hd : 12 ≤ d) (hq : RO Q h (o_addAgent S v lo hi (nI md))) : WP G m_X16_addAgent d 0 (aargs 0 [vr (some (nm 1 0)), vi v, vi lo, vi hi, vi (nI md)]) [] h bc bs Q := by
  refine wp_sub [(0, vr (some (nm 1 0))), (1, vi v), (2, vi lo), (3, vi hi), (4, vi (nI md))] (fun _ hz => hz) ?_
  have hG := FRR.rf (h := h)
  have hB16 := hB.h16
  have hbb := hB.1
  have q14 : clN 14 = 5 := rfl
  have q13 : clN 13 = 7 := rfl
  have q02 : clN 2 = 3 := rfl
  refine wp_aload_n (i := 0) dX16_addAgent_0 rfl rfl ?_
  refine wp_iconst (nI 0) dX16_addAgent_1 (by decide) ?_
  refine wp_putI 17 0 dX16_addAgent_2 hR.mk (by decide) (by decide) (by decide) fl_X16_63 rfl (fun _ _ => rfl) rfl rfl ?_
  have hR1 := hR.w0 (x := (nI 0))
  have hG2 := hG.tr (FRR.w0 (x := (nI 0)))
  have hP3 := PO2.m (a := nm 1 0) (k := 0) (x := (nI 0)) hP
  refine wp_aload_n (i := 0) dX16_addAgent_5 rfl rfl ?_
  refine wp_iload_n (i := 1) dX16_addAgent_6 rfl rfl ?_
  refine wp_iload_n (i := 2) dX16_addAgent_7 rfl rfl ?_
  refine wp_iload_n (i := 3) dX16_addAgent_8 rfl rfl ?_
  refine wp_cS (y' := m_X16_areBounds) [vi v, vi lo, vi hi] [vr (some (nm 1 0))] 0 0 dX16_addAgent_9 ml_X16_235 st_X16_areBounds ok_X16_areBounds rfl (Nat.le_of_ble_eq_true rfl) rfl (Nat.le_of_ble_eq_true rfl) (d' := d - 1) (by omega) (Nat.zero_le _) (Nat.zero_le _) (c_X16_areBounds v lo hi (by omega) (cont_ret ?_))
  refine wp_if_eqB 29 dX16_addAgent_12 (by decide) (fun c_12 => ?_) (fun c_12 => ?_)
  · skip
    refine wp_iconst (nI 1) dX16_addAgent_29 (by decide) ?_
    refine wp_goto 34 dX16_addAgent_30 (by decide) ?_
    refine wp_iconst (nI 1) dX16_addAgent_34 (by decide) ?_
    refine wp_cV (y' := m_X16_fails) 17 [vi (nI 1), vi (nI 1)] [] 0 0 dX16_addAgent_35 ml_X16_102 im_X16_fails se_X16_fails (by decide) hR1.mk ok_X16_fails rfl (Nat.le_of_ble_eq_true rfl) rfl (Nat.le_of_ble_eq_true rfl) (d' := d - 1) (by omega) (Nat.zero_le _) (Nat.zero_le _) (c_flT hR1.mk wI_ss (nI 1) (by decide) (cont_ret ?_))
    have g_1 : abB v lo hi = false ∨ (nI md ≠ nI 102 ∧ nI md ≠ nI 99) := by first | exact Or.inl c_12 | exact Or.inr ⟨nI_nej (by omega) (by decide) c_19, nI_nej (by omega) (by decide) c_26⟩
    have hR4 := hR1.w0 (x := nI 1)
    have hG5 := hG2.tr (FRR.w0 (x := nI 1))
    have hP6 := PO2.m (a := nm 1 0) (k := 0) (x := nI 1) hP3
    refine wp_if_neN 65 dX16_addAgent_38 (by decide) (by decide) (fun c_38 => ?_) (fun c_38 => absurd c_38 (by decide))
    refine wp_iconst (nI 0) dX16_addAgent_65 (by decide) ?_
    refine wp_ireturn dX16_addAgent_66 rfl ?_
    rw [show o_addAgent S v lo hi (nI md) = (nI 1, nI 0, S) from by unfold o_addAgent; rw [if_pos g_1]] at hq
    exact hq _ hG5 wI_ss hR4 hP6
  · skip
    refine wp_iload (i := 4) dX16_addAgent_15 rfl ?_
    refine wp_bipush (nI 102) dX16_addAgent_17 (by decide) ?_
    refine wp_icmp_eqN 33 dX16_addAgent_19 (by decide) (by omega) (by decide) (fun c_19 => ?_) (fun c_19 => ?_)
    · skip
      refine wp_iconst (nI 0) dX16_addAgent_33 (by decide) ?_
      refine wp_iconst (nI 1) dX16_addAgent_34 (by decide) ?_
      refine wp_cV (y' := m_X16_fails) 17 [vi (nI 0), vi (nI 1)] [] 0 0 dX16_addAgent_35 ml_X16_102 im_X16_fails se_X16_fails (by decide) hR1.mk ok_X16_fails rfl (Nat.le_of_ble_eq_true rfl) rfl (Nat.le_of_ble_eq_true rfl) (d' := d - 1) (by omega) (Nat.zero_le _) (Nat.zero_le _) (c_flF hR1.mk wI_ss (nI 1) (by decide) (cont_ret ?_))
      have g_1 : ¬ (abB v lo hi = false ∨ (nI md ≠ nI 102 ∧ nI md ≠ nI 99)) := by exact fun y => y.elim (fun y => Bool.false_ne_true (y.symm.trans c_12)) (fun y => by first | exact y.1 (congrArg nI c_19) | exact y.2 (congrArg nI c_26))
      refine wp_if_neN 65 dX16_addAgent_38 (by decide) (by decide) (fun c_38 => absurd c_38 (by decide)) (fun c_38 => ?_)
      refine wp_aload_n (i := 0) dX16_addAgent_41 rfl rfl ?_
      refine wp_aload_n (i := 0) dX16_addAgent_42 rfl rfl ?_
      refine wp_get 17 18 (vr (some (nm 1 18))) dX16_addAgent_43 hR1.mk (by decide) (by decide) fl_X16_60 (congrArg (fun z => toV (vr z)) (hR1.ref 18 (by decide) (by decide) (by decide) (by decide))) ?_
      refine wp_cV (y' := m_Jx4a65c_size_8abf5) 2 [] [vr (some (nm 1 0))] 0 0 dX16_addAgent_46 ml_X16_168 im_Jx4a65c_size_8abf5 se_Jx4a65c_size_8abf5 (by decide) hR1.al.k ok_Jx4a65c_size_8abf5 rfl (Nat.le_of_ble_eq_true rfl) rfl (Nat.le_of_ble_eq_true rfl) (d' := d - 1) (by omega) (Nat.zero_le _) (Nat.zero_le _) (c_LO_size hR1.al (cont_ret ?_))
      refine wp_iconst (nI 4) dX16_addAgent_49 (by decide) ?_
      refine wp_icmp_neN 57 dX16_addAgent_50 (by decide) (by omega) (by decide) (fun c_50 => ?_) (fun c_50 => ?_)
      · skip
        refine wp_iconst (nI 0) dX16_addAgent_57 (by decide) ?_
        refine wp_iconst (nI 2) dX16_addAgent_58 (by decide) ?_
        refine wp_cV (y' := m_X16_fails) 17 [vi (nI 0), vi (nI 2)] [] 0 0 dX16_addAgent_59 ml_X16_102 im_X16_fails se_X16_fails (by decide) hR1.mk ok_X16_fails rfl (Nat.le_of_ble_eq_true rfl) rfl (Nat.le_of_ble_eq_true rfl) (d' := d - 1) (by omega) (Nat.zero_le _) (Nat.zero_le _) (c_flF hR1.mk wI_ss (nI 2) (by decide) (cont_ret ?_))
        have g_2 : ¬ (RS_an S = 4) := by first | exact fun z => Bool.false_ne_true (c_59.symm.trans z) | exact of_decide_eq_false c_59 | omega | (simp at c_59 ⊢; grind)
        refine wp_if_eqN 67 dX16_addAgent_62 (by decide) (by decide) (fun c_62 => ?_) (fun c_62 => absurd c_62 (by decide))
        obtain ⟨⟨K, hK22⟩, K3, hK30⟩ := id hP3
        have hf13 := hR1.2.2.1.2.2.1 _ (Nat.le_refl _)
        have hf14 := hR1.2.2.1.2.2.2.1 _ (Nat.le_refl _)
        have hf25 := fun z => hR1.2.2.1.2.2.2.2 _ (Nat.le_refl _) (by omega) z
        have J1 := J.w (a := nm 1 0) (k := 0) (x := nI 0) (by unfold nm; omega)
        refine wp_aload_n (i := 0) dX16_addAgent_67 rfl rfl ?_
        refine wp_get 17 18 (vr (some (nm 1 18))) dX16_addAgent_68 hR1.mk (by decide) (by decide) fl_X16_60 (congrArg (fun z => toV (vr z)) (hR1.ref 18 (by decide) (by decide) (by decide) (by decide))) ?_
        refine wp_new 13 dX16_addAgent_71 (by decide) kl_X16_346 ins_X12 ini_X12 (by omega) (by show 7 ≤ _; omega) (nm 13 (RS_an S)) hf13 ?_
        refine wp_dup dX16_addAgent_74 ?_
        refine wp_iload_n (i := 1) dX16_addAgent_75 rfl rfl ?_
        refine wp_iload_n (i := 2) dX16_addAgent_76 rfl rfl ?_
        refine wp_iload_n (i := 3) dX16_addAgent_77 rfl rfl ?_
        refine wp_iload (i := 4) dX16_addAgent_78 rfl ?_
        refine wp_cI (y' := m_X12_init) [vi v, vi lo, vi hi, vi (nI md)] [vr (some (nm 13 (RS_an S))), vr (some (nm 1 18))] 1 3 dX16_addAgent_80 ml_X16_354 im_X12_init rfl rfl ok_X12_init rfl (Nat.le_of_ble_eq_true rfl) rfl (Nat.le_of_ble_eq_true rfl) (d' := d - 1) (by omega) (by omega) (by omega) (c_X12_init hf14 hf25 J1 hmd (by omega) (Nat.le_refl _) (Nat.le_refl _) (fun h2 O2 F2 => cont_void ?_))
        have hal2 := hR1.al.frm (F2 0 (by unfold WAg; omega)) (F2 _ (WAg_n (by omega) (by decide))) (fun z => F2 _ (WAg_n (by omega) (by decide)))
        refine wp_cV (y' := m_Jx4a65c_add_9ea2d) 2 [vr (some (nm 13 (RS_an S)))] [] 1 (10 + 2 * RS_an S) dX16_addAgent_83 ml_X16_175 im_Jx4a65c_add_9ea2d se_Jx4a65c_add_9ea2d (by decide) hal2.k ok_Jx4a65c_add_9ea2d rfl (Nat.le_of_ble_eq_true rfl) rfl (Nat.le_of_ble_eq_true rfl) (d' := d - 1) (by omega) (by omega) (by omega) (c_LO_add hal2 (by rw [O2.k0]; decide) (by rw [O2.k0]; decide) (by omega) (by decide) (by decide) (by decide) (by omega) (Nat.le_refl _) (Nat.le_refl _) (fun h4 L4 C4 => cont_ret ?_))
        have c14 : ∀ a, ¬ WAg (RS_an S) a → a ≠ nm 1 18 → (∀ z, a ≠ nm 28 (16 * z + 0)) → ce h4 a = ce _ a := fun a h1 h2 h3 => (C4 a h2 h3).trans (F2 a h1)
        refine wp_pop dX16_addAgent_86 ?_
        refine wp_aload_n (i := 0) dX16_addAgent_87 rfl rfl ?_
        refine wp_get 17 18 (vr (some (nm 1 18))) dX16_addAgent_88 ((ce_k (c14 _ (WAg_n (by omega) (by decide)) (by unfold nm; omega) (fun z => by unfold nm; omega))).trans hR1.mk) (by decide) (by decide) fl_X16_60 (congrArg (fun z => toV (vr z)) ((congrFun (ce_R (c14 _ (WAg_n (by omega) (by decide)) (by unfold nm; omega) (fun z => by unfold nm; omega))) 18).trans (hR1.ref 18 (by decide) (by decide) (by decide) (by decide)))) ?_
        refine wp_cV (y' := m_Jx4a65c_size_8abf5) 2 [] [] 0 0 dX16_addAgent_91 ml_X16_168 im_Jx4a65c_size_8abf5 se_Jx4a65c_size_8abf5 (by decide) L4.k ok_Jx4a65c_size_8abf5 rfl (Nat.le_of_ble_eq_true rfl) rfl (Nat.le_of_ble_eq_true rfl) (d' := d - 1) (by omega) (Nat.zero_le _) (Nat.zero_le _) (c_LO_size L4 (cont_ret ?_))
        refine wp_iconst (nI 1) dX16_addAgent_94 (by decide) ?_
        refine wp_isubN dX16_addAgent_95 (by omega) ?_
        refine wp_ireturn dX16_addAgent_96 rfl ?_
        rw [show o_addAgent S v lo hi (nI md) = (nI 0, nI (RS_an S + 1 - 1), RS_uaa (RS_uan S (RS_an S + 1)) (va_up (RS_aa S) (RS_an S) (v, lo, hi, nI md, false, 0, []))) from by unfold o_addAgent; rw [if_neg g_1, if_neg g_2]; rfl] at hq
        have e22 : ∀ k, h_k (wI h (nm 1 0) 0 (nI 0)) (nm 22 k) ≠ 0 → ce h4 (nm 22 k) = ce (wI h (nm 1 0) 0 (nI 0)) (nm 22 k) := fun k hk => c14 _ (WAg_n (by omega) (by decide)) (by unfold nm; omega) (fun z => by unfold nm; omega)
        refine hq _ (hG2.tr (FRR.ec (K := 0) e22 (fun a ha => c14 a (fun z => ha (by unfold WAg at z; unfold WRR; unfold nm at *; omega)) (fun z => ha (by rw [z]; unfold WRR nm; omega)) (fun z e => ha (by rw [e]; unfold WRR nm; omega))) (c14 _ (WAg_n (by omega) (by decide)) (by unfold nm; omega) (fun z => by unfold nm; omega)))) ?_ (hR1.addA (by omega) hB16.1 (fun s i hs hn => c14 _ (WAg_n (by omega) hs) (by unfold nm; omega) (fun z => by unfold nm; omega)) L4 (O2.frm (C4 _ (by unfold nm; omega) (fun z => by unfold nm; omega)) (C4 _ (by unfold nm; omega) (fun z => by unfold nm; omega)) (fun z => C4 _ (by unfold nm; omega) (fun z => by unfold nm; omega)) (C4 0 (by unfold nm; omega) (fun z => by unfold nm; omega)) (fun k _ => C4 _ (by unfold nm; omega) (fun z => by unfold nm; omega)))) ?_
        · exact (congrFun (ce_I (c14 _ (WAg_n (by omega) (by decide)) (by unfold nm; omega) (fun z => by unfold nm; omega))) 0).trans wI_ss
        · exact ⟨⟨K, (show FreeI _ 22 K from hK22).fr (fun i _ => c14 _ (WAg_n (by omega) (by decide)) (by unfold nm; omega) (fun z => by unfold nm; omega))⟩, ⟨K3, (show FreeI _ 30 K3 from hK30).fr (fun i _ => c14 _ (WAg_n (by omega) (by decide)) (by unfold nm; omega) (fun z => by unfold nm; omega))⟩⟩
      · skip
        refine wp_iconst (nI 1) dX16_addAgent_53 (by decide) ?_
        refine wp_goto 58 dX16_addAgent_54 (by decide) ?_
        refine wp_iconst (nI 2) dX16_addAgent_58 (by decide) ?_
        refine wp_cV (y' := m_X16_fails) 17 [vi (nI 1), vi (nI 2)] [] 0 0 dX16_addAgent_59 ml_X16_102 im_X16_fails se_X16_fails (by decide) hR1.mk ok_X16_fails rfl (Nat.le_of_ble_eq_true rfl) rfl (Nat.le_of_ble_eq_true rfl) (d' := d - 1) (by omega) (Nat.zero_le _) (Nat.zero_le _) (c_flT hR1.mk wI_ss (nI 2) (by decide) (cont_ret ?_))
        have g_2 : RS_an S = 4 := by first | exact c_59 | exact of_decide_eq_true c_59 | omega | (simp at c_59 ⊢; grind)
        have hR13 := hR1.w0 (x := nI 2)
        have hG14 := hG2.tr (FRR.w0 (x := nI 2))
        have hP15 := PO2.m (a := nm 1 0) (k := 0) (x := nI 2) hP3
        refine wp_if_eqN 67 dX16_addAgent_62 (by decide) (by decide) (fun c_62 => absurd c_62 (by decide)) (fun c_62 => ?_)
        refine wp_iconst (nI 0) dX16_addAgent_65 (by decide) ?_
        refine wp_ireturn dX16_addAgent_66 rfl ?_
        rw [show o_addAgent S v lo hi (nI md) = (nI 2, nI 0, S) from by unfold o_addAgent; rw [if_neg g_1, if_pos g_2]] at hq
        exact hq _ hG14 wI_ss hR13 hP15
    · skip
      refine wp_iload (i := 4) dX16_addAgent_22 rfl ?_
      refine wp_bipush (nI 99) dX16_addAgent_24 (by decide) ?_
      refine wp_icmp_eqN 33 dX16_addAgent_26 (by decide) (by omega) (by decide) (fun c_26 => ?_) (fun c_26 => ?_)
      · skip
        refine wp_iconst (nI 0) dX16_addAgent_33 (by decide) ?_
        refine wp_iconst (nI 1) dX16_addAgent_34 (by decide) ?_
        refine wp_cV (y' := m_X16_fails) 17 [vi (nI 0), vi (nI 1)] [] 0 0 dX16_addAgent_35 ml_X16_102 im_X16_fails se_X16_fails (by decide) hR1.mk ok_X16_fails rfl (Nat.le_of_ble_eq_true rfl) rfl (Nat.le_of_ble_eq_true rfl) (d' := d - 1) (by omega) (Nat.zero_le _) (Nat.zero_le _) (c_flF hR1.mk wI_ss (nI 1) (by decide) (cont_ret ?_))
        have g_1 : ¬ (abB v lo hi = false ∨ (nI md ≠ nI 102 ∧ nI md ≠ nI 99)) := by exact fun y => y.elim (fun y => Bool.false_ne_true (y.symm.trans c_12)) (fun y => by first | exact y.1 (congrArg nI c_19) | exact y.2 (congrArg nI c_26))
        refine wp_if_neN 65 dX16_addAgent_38 (by decide) (by decide) (fun c_38 => absurd c_38 (by decide)) (fun c_38 => ?_)
        refine wp_aload_n (i := 0) dX16_addAgent_41 rfl rfl ?_
        refine wp_aload_n (i := 0) dX16_addAgent_42 rfl rfl ?_
        refine wp_get 17 18 (vr (some (nm 1 18))) dX16_addAgent_43 hR1.mk (by decide) (by decide) fl_X16_60 (congrArg (fun z => toV (vr z)) (hR1.ref 18 (by decide) (by decide) (by decide) (by decide))) ?_
        refine wp_cV (y' := m_Jx4a65c_size_8abf5) 2 [] [vr (some (nm 1 0))] 0 0 dX16_addAgent_46 ml_X16_168 im_Jx4a65c_size_8abf5 se_Jx4a65c_size_8abf5 (by decide) hR1.al.k ok_Jx4a65c_size_8abf5 rfl (Nat.le_of_ble_eq_true rfl) rfl (Nat.le_of_ble_eq_true rfl) (d' := d - 1) (by omega) (Nat.zero_le _) (Nat.zero_le _) (c_LO_size hR1.al (cont_ret ?_))
        refine wp_iconst (nI 4) dX16_addAgent_49 (by decide) ?_
        refine wp_icmp_neN 57 dX16_addAgent_50 (by decide) (by omega) (by decide) (fun c_50 => ?_) (fun c_50 => ?_)
        · skip
          refine wp_iconst (nI 0) dX16_addAgent_57 (by decide) ?_
          refine wp_iconst (nI 2) dX16_addAgent_58 (by decide) ?_
          refine wp_cV (y' := m_X16_fails) 17 [vi (nI 0), vi (nI 2)] [] 0 0 dX16_addAgent_59 ml_X16_102 im_X16_fails se_X16_fails (by decide) hR1.mk ok_X16_fails rfl (Nat.le_of_ble_eq_true rfl) rfl (Nat.le_of_ble_eq_true rfl) (d' := d - 1) (by omega) (Nat.zero_le _) (Nat.zero_le _) (c_flF hR1.mk wI_ss (nI 2) (by decide) (cont_ret ?_))
          have g_2 : ¬ (RS_an S = 4) := by first | exact fun z => Bool.false_ne_true (c_59.symm.trans z) | exact of_decide_eq_false c_59 | omega | (simp at c_59 ⊢; grind)
          refine wp_if_eqN 67 dX16_addAgent_62 (by decide) (by decide) (fun c_62 => ?_) (fun c_62 => absurd c_62 (by decide))
          obtain ⟨⟨K, hK22⟩, K3, hK30⟩ := id hP3
          have hf13 := hR1.2.2.1.2.2.1 _ (Nat.le_refl _)
          have hf14 := hR1.2.2.1.2.2.2.1 _ (Nat.le_refl _)
          have hf25 := fun z => hR1.2.2.1.2.2.2.2 _ (Nat.le_refl _) (by omega) z
          have J1 := J.w (a := nm 1 0) (k := 0) (x := nI 0) (by unfold nm; omega)
          refine wp_aload_n (i := 0) dX16_addAgent_67 rfl rfl ?_
          refine wp_get 17 18 (vr (some (nm 1 18))) dX16_addAgent_68 hR1.mk (by decide) (by decide) fl_X16_60 (congrArg (fun z => toV (vr z)) (hR1.ref 18 (by decide) (by decide) (by decide) (by decide))) ?_
          refine wp_new 13 dX16_addAgent_71 (by decide) kl_X16_346 ins_X12 ini_X12 (by omega) (by show 7 ≤ _; omega) (nm 13 (RS_an S)) hf13 ?_
          refine wp_dup dX16_addAgent_74 ?_
          refine wp_iload_n (i := 1) dX16_addAgent_75 rfl rfl ?_
          refine wp_iload_n (i := 2) dX16_addAgent_76 rfl rfl ?_
          refine wp_iload_n (i := 3) dX16_addAgent_77 rfl rfl ?_
          refine wp_iload (i := 4) dX16_addAgent_78 rfl ?_
          refine wp_cI (y' := m_X12_init) [vi v, vi lo, vi hi, vi (nI md)] [vr (some (nm 13 (RS_an S))), vr (some (nm 1 18))] 1 3 dX16_addAgent_80 ml_X16_354 im_X12_init rfl rfl ok_X12_init rfl (Nat.le_of_ble_eq_true rfl) rfl (Nat.le_of_ble_eq_true rfl) (d' := d - 1) (by omega) (by omega) (by omega) (c_X12_init hf14 hf25 J1 hmd (by omega) (Nat.le_refl _) (Nat.le_refl _) (fun h2 O2 F2 => cont_void ?_))
          have hal2 := hR1.al.frm (F2 0 (by unfold WAg; omega)) (F2 _ (WAg_n (by omega) (by decide))) (fun z => F2 _ (WAg_n (by omega) (by decide)))
          refine wp_cV (y' := m_Jx4a65c_add_9ea2d) 2 [vr (some (nm 13 (RS_an S)))] [] 1 (10 + 2 * RS_an S) dX16_addAgent_83 ml_X16_175 im_Jx4a65c_add_9ea2d se_Jx4a65c_add_9ea2d (by decide) hal2.k ok_Jx4a65c_add_9ea2d rfl (Nat.le_of_ble_eq_true rfl) rfl (Nat.le_of_ble_eq_true rfl) (d' := d - 1) (by omega) (by omega) (by omega) (c_LO_add hal2 (by rw [O2.k0]; decide) (by rw [O2.k0]; decide) (by omega) (by decide) (by decide) (by decide) (by omega) (Nat.le_refl _) (Nat.le_refl _) (fun h4 L4 C4 => cont_ret ?_))
          have c14 : ∀ a, ¬ WAg (RS_an S) a → a ≠ nm 1 18 → (∀ z, a ≠ nm 28 (16 * z + 0)) → ce h4 a = ce _ a := fun a h1 h2 h3 => (C4 a h2 h3).trans (F2 a h1)
          refine wp_pop dX16_addAgent_86 ?_
          refine wp_aload_n (i := 0) dX16_addAgent_87 rfl rfl ?_
          refine wp_get 17 18 (vr (some (nm 1 18))) dX16_addAgent_88 ((ce_k (c14 _ (WAg_n (by omega) (by decide)) (by unfold nm; omega) (fun z => by unfold nm; omega))).trans hR1.mk) (by decide) (by decide) fl_X16_60 (congrArg (fun z => toV (vr z)) ((congrFun (ce_R (c14 _ (WAg_n (by omega) (by decide)) (by unfold nm; omega) (fun z => by unfold nm; omega))) 18).trans (hR1.ref 18 (by decide) (by decide) (by decide) (by decide)))) ?_
          refine wp_cV (y' := m_Jx4a65c_size_8abf5) 2 [] [] 0 0 dX16_addAgent_91 ml_X16_168 im_Jx4a65c_size_8abf5 se_Jx4a65c_size_8abf5 (by decide) L4.k ok_Jx4a65c_size_8abf5 rfl (Nat.le_of_ble_eq_true rfl) rfl (Nat.le_of_ble_eq_true rfl) (d' := d - 1) (by omega) (Nat.zero_le _) (Nat.zero_le _) (c_LO_size L4 (cont_ret ?_))
          refine wp_iconst (nI 1) dX16_addAgent_94 (by decide) ?_
          refine wp_isubN dX16_addAgent_95 (by omega) ?_
          refine wp_ireturn dX16_addAgent_96 rfl ?_
          rw [show o_addAgent S v lo hi (nI md) = (nI 0, nI (RS_an S + 1 - 1), RS_uaa (RS_uan S (RS_an S + 1)) (va_up (RS_aa S) (RS_an S) (v, lo, hi, nI md, false, 0, []))) from by unfold o_addAgent; rw [if_neg g_1, if_neg g_2]; rfl] at hq
          have e22 : ∀ k, h_k (wI h (nm 1 0) 0 (nI 0)) (nm 22 k) ≠ 0 → ce h4 (nm 22 k) = ce (wI h (nm 1 0) 0 (nI 0)) (nm 22 k) := fun k hk => c14 _ (WAg_n (by omega) (by decide)) (by unfold nm; omega) (fun z => by unfold nm; omega)
          refine hq _ (hG2.tr (FRR.ec (K := 0) e22 (fun a ha => c14 a (fun z => ha (by unfold WAg at z; unfold WRR; unfold nm at *; omega)) (fun z => ha (by rw [z]; unfold WRR nm; omega)) (fun z e => ha (by rw [e]; unfold WRR nm; omega))) (c14 _ (WAg_n (by omega) (by decide)) (by unfold nm; omega) (fun z => by unfold nm; omega)))) ?_ (hR1.addA (by omega) hB16.1 (fun s i hs hn => c14 _ (WAg_n (by omega) hs) (by unfold nm; omega) (fun z => by unfold nm; omega)) L4 (O2.frm (C4 _ (by unfold nm; omega) (fun z => by unfold nm; omega)) (C4 _ (by unfold nm; omega) (fun z => by unfold nm; omega)) (fun z => C4 _ (by unfold nm; omega) (fun z => by unfold nm; omega)) (C4 0 (by unfold nm; omega) (fun z => by unfold nm; omega)) (fun k _ => C4 _ (by unfold nm; omega) (fun z => by unfold nm; omega)))) ?_
          · exact (congrFun (ce_I (c14 _ (WAg_n (by omega) (by decide)) (by unfold nm; omega) (fun z => by unfold nm; omega))) 0).trans wI_ss
          · exact ⟨⟨K, (show FreeI _ 22 K from hK22).fr (fun i _ => c14 _ (WAg_n (by omega) (by decide)) (by unfold nm; omega) (fun z => by unfold nm; omega))⟩, ⟨K3, (show FreeI _ 30 K3 from hK30).fr (fun i _ => c14 _ (WAg_n (by omega) (by decide)) (by unfold nm; omega) (fun z => by unfold nm; omega))⟩⟩
        · skip
          refine wp_iconst (nI 1) dX16_addAgent_53 (by decide) ?_
          refine wp_goto 58 dX16_addAgent_54 (by decide) ?_
          refine wp_iconst (nI 2) dX16_addAgent_58 (by decide) ?_
          refine wp_cV (y' := m_X16_fails) 17 [vi (nI 1), vi (nI 2)] [] 0 0 dX16_addAgent_59 ml_X16_102 im_X16_fails se_X16_fails (by decide) hR1.mk ok_X16_fails rfl (Nat.le_of_ble_eq_true rfl) rfl (Nat.le_of_ble_eq_true rfl) (d' := d - 1) (by omega) (Nat.zero_le _) (Nat.zero_le _) (c_flT hR1.mk wI_ss (nI 2) (by decide) (cont_ret ?_))
          have g_2 : RS_an S = 4 := by first | exact c_59 | exact of_decide_eq_true c_59 | omega | (simp at c_59 ⊢; grind)
          have hR22 := hR1.w0 (x := nI 2)
          have hG23 := hG2.tr (FRR.w0 (x := nI 2))
          have hP24 := PO2.m (a := nm 1 0) (k := 0) (x := nI 2) hP3
          refine wp_if_eqN 67 dX16_addAgent_62 (by decide) (by decide) (fun c_62 => absurd c_62 (by decide)) (fun c_62 => ?_)
          refine wp_iconst (nI 0) dX16_addAgent_65 (by decide) ?_
          refine wp_ireturn dX16_addAgent_66 rfl ?_
          rw [show o_addAgent S v lo hi (nI md) = (nI 2, nI 0, S) from by unfold o_addAgent; rw [if_neg g_1, if_pos g_2]] at hq
          exact hq _ hG23 wI_ss hR22 hP24
      · skip
        refine wp_iconst (nI 1) dX16_addAgent_29 (by decide) ?_
        refine wp_goto 34 dX16_addAgent_30 (by decide) ?_
        refine wp_iconst (nI 1) dX16_addAgent_34 (by decide) ?_
        refine wp_cV (y' := m_X16_fails) 17 [vi (nI 1), vi (nI 1)] [] 0 0 dX16_addAgent_35 ml_X16_102 im_X16_fails se_X16_fails (by decide) hR1.mk ok_X16_fails rfl (Nat.le_of_ble_eq_true rfl) rfl (Nat.le_of_ble_eq_true rfl) (d' := d - 1) (by omega) (Nat.zero_le _) (Nat.zero_le _) (c_flT hR1.mk wI_ss (nI 1) (by decide) (cont_ret ?_))
        have g_1 : abB v lo hi = false ∨ (nI md ≠ nI 102 ∧ nI md ≠ nI 99) := by first | exact Or.inl c_12 | exact Or.inr ⟨nI_nej (by omega) (by decide) c_19, nI_nej (by omega) (by decide) c_26⟩
        have hR25 := hR1.w0 (x := nI 1)
        have hG26 := hG2.tr (FRR.w0 (x := nI 1))
        have hP27 := PO2.m (a := nm 1 0) (k := 0) (x := nI 1) hP3
        refine wp_if_neN 65 dX16_addAgent_38 (by decide) (by decide) (fun c_38 => ?_) (fun c_38 => absurd c_38 (by decide))
        refine wp_iconst (nI 0) dX16_addAgent_65 (by decide) ?_
        refine wp_ireturn dX16_addAgent_66 rfl ?_
        rw [show o_addAgent S v lo hi (nI md) = (nI 1, nI 0, S) from by unfold o_addAgent; rw [if_pos g_1]] at hq
        exact hq _ hG26 wI_ss hR25 hP27
