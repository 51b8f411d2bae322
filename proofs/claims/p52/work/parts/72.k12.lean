/-! The class: new rows and agents; addReference, addAgent. -/
set_option maxRecDepth 100000 in
set_option maxHeartbeats 4000000 in
theorem c_X10_init {G : GG} {d bc bs : Nat} {h : Hp} {Q : Pst} {o p : Nat} (hne : o ≠ p) (fp : h_k h p = 0) (hd : 2 ≤ d) (hbc : 1 ≤ bc) (hbs : 12 ≤ bs) (hq : ∀ h', WRw h' o p 0 (fun _ => 0) → Fr h h' (WRo o p) → Q oVoid h') : WP G m_X10_init d 0 (aargs 0 [vr (some o)]) [] (mk h o 12 0) bc bs Q := by
  refine wp_sub [(0, vr (some o))] (fun _ hz => hz) ?_
  refine wp_aload_n (i := 0) dX10_init_0 rfl rfl ?_
  refine wp_objInit dX10_init_1 ml_X10_3 im_java_lang_Object__init____V co_obj (by omega) (by decide) ?_
  refine wp_aload_n (i := 0) dX10_init_4 rfl rfl ?_
  refine wp_bipush (nI 12) dX10_init_5 (by decide) ?_
  refine wp_newarray 101 12 .int dX10_init_7 rfl rfl aw_int (nI_nn (by omega)) (nI_clamp (by omega)) (by omega) (by decide) pl_int (by omega) (by omega) p (by rw [gk_mk, if_neg hne.symm]; exact fp) ?_
  refine wp_putRF 11 0 dX10_init_9 (by simp [gI_wI, gI_wR, gI_mk, gR_wI, gR_wR, gR_mk, gk_wI, gk_wR, gk_mk, gn_wI, gn_wR, gn_mk, hne, hne.symm]) (by decide) (by decide) (by decide) fl_X10_9 rfl rfl rfl (fun _ _ => rfl) rfl ?_
  refine wp_aload_n (i := 0) dX10_init_12 rfl rfl ?_
  refine wp_iconst (nI 0) dX10_init_13 (by decide) ?_
  refine wp_putI 11 1 dX10_init_14 (by simp [gI_wI, gI_wR, gI_mk, gR_wI, gR_wR, gR_mk, gk_wI, gk_wR, gk_mk, gn_wI, gn_wR, gn_mk, hne, hne.symm]) (by decide) (by decide) (by decide) fl_X10_15 rfl (fun _ _ => rfl) rfl rfl ?_
  refine wp_return dX10_init_17 rfl ?_
  exact hq _ ⟨by simp [gI_wI, gI_wR, gI_mk, gR_wI, gR_wR, gR_mk, gk_wI, gk_wR, gk_mk, gn_wI, gn_wR, gn_mk, hne, hne.symm], by simp [gI_wI, gI_wR, gI_mk, gR_wI, gR_wR, gR_mk, gk_wI, gk_wR, gk_mk, gn_wI, gn_wR, gn_mk, hne, hne.symm], by simp [gI_wI, gI_wR, gI_mk, gR_wI, gR_wR, gR_mk, gk_wI, gk_wR, gk_mk, gn_wI, gn_wR, gn_mk, hne, hne.symm], ⟨by simp [gI_wI, gI_wR, gI_mk, gR_wI, gR_wR, gR_mk, gk_wI, gk_wR, gk_mk, gn_wI, gn_wR, gn_mk, hne, hne.symm], by simp [gI_wI, gI_wR, gI_mk, gR_wI, gR_wR, gR_mk, gk_wI, gk_wR, gk_mk, gn_wI, gn_wR, gn_mk, hne, hne.symm]⟩, by intro j; simp [gI_wI, gI_wR, gI_mk, gR_wI, gR_wR, gR_mk, gk_wI, gk_wR, gk_mk, gn_wI, gn_wR, gn_mk, hne, hne.symm]⟩ (fun a ha => by
    have n1 : a ≠ o := fun e => ha (Or.inl e)
    have n2 : a ≠ p := fun e => ha (Or.inr e)
    exact (ce_wI n1).trans ((ce_nwF n1 n2).trans (ce_mk n1)))
set_option maxRecDepth 100000 in
set_option maxHeartbeats 4000000 in
theorem c_X0_init {G : GG} {d bc bs : Nat} {h : Hp} {Q : Pst} {a : Nat} (f66 : h_k h (nm 66 a) = 0) (f67 : h_k h (nm 67 a) = 0) {v lo hi : Int32} {fe : Bool} (hd : 4 ≤ d) (hbc : 2 ≤ bc) (hbs : 20 ≤ bs) (hq : ∀ h', KA h' a (v, lo, hi, fe, 0, false, 0, fun _ => 0) → Fr h h' (CA a) → Q oVoid h') : WP G m_X0_init d 0 (aargs 0 [vr (some (nm 65 a)), vi v, vi lo, vi hi, vi (bI fe)]) [] (mk h (nm 65 a) 4 0) bc bs Q := by
  have q2 : clN 11 = 2 := rfl
  refine wp_sub [(0, vr (some (nm 65 a))), (1, vi v), (2, vi lo), (3, vi hi), (4, vi (bI fe))] (fun _ hz => hz) ?_
  refine wp_aload_n (i := 0) dX0_init_0 rfl rfl ?_
  refine wp_objInit dX0_init_1 ml_X0_1 im_java_lang_Object__init____V co_obj (by omega) (by decide) ?_
  refine wp_aload_n (i := 0) dX0_init_4 rfl rfl ?_
  refine wp_new 11 dX0_init_5 (by decide) kl_X0_7 ins_X10 ini_X10 (by omega) (by show 2 ≤ _; omega) (nm 66 a) (by rw [gk_mk, if_neg (by unfold nm; omega)]; exact f66) ?_
  refine wp_dup dX0_init_8 ?_
  refine wp_cIN (y' := m_X10_init) [] [vr (some (nm 66 a)), vr (some (nm 65 a))] 1 12 dX0_init_9 mn_X0_9 im_X10_init rfl rfl ok_X10_init rfl (Nat.le_of_ble_eq_true rfl) rfl (Nat.le_of_ble_eq_true rfl) (d' := d - 1) (by omega) (by omega) (by omega) (c_X10_init (o := nm 66 a) (p := nm 67 a) (by unfold nm; omega) (by rw [gk_mk, if_neg (by unfold nm; omega)]; exact f67) (by omega) (by omega) (by omega) (fun h1 W1 F1 => cont_void ?_))
  have k65 : h_k h1 (nm 65 a) = 4 := by rw [ce_k (F1 _ (WRo_n (by omega) (by decide) (by decide))), gk_mk, if_pos rfl]
  have i65 : ∀ j, h_I h1 (nm 65 a) j = 0 := fun j => by rw [ce_I (F1 _ (WRo_n (by omega) (by decide) (by decide))), gI_mk, if_pos rfl]
  refine wp_putRF 3 4 dX0_init_12 (by simp [gI_wI, gI_wR, gI_mk, gR_wI, gR_wR, gR_mk, gk_wI, gk_wR, gk_mk, gn_wI, gn_wR, gn_mk, nm_eq, nm_i, k65]) (by decide) (by decide) (by decide) fl_X0_10 rfl rfl rfl (fun _ _ => rfl) rfl ?_
  refine wp_aload_n (i := 0) dX0_init_15 rfl rfl ?_
  refine wp_iconst (nI 0) dX0_init_16 (by decide) ?_
  refine wp_putI 3 5 dX0_init_17 (by simp [gI_wI, gI_wR, gI_mk, gR_wI, gR_wR, gR_mk, gk_wI, gk_wR, gk_mk, gn_wI, gn_wR, gn_mk, nm_eq, nm_i, k65]) (by decide) (by decide) (by decide) fl_X0_16 rfl (fun _ _ => rfl) rfl rfl ?_
  refine wp_aload_n (i := 0) dX0_init_20 rfl rfl ?_
  refine wp_iconst (nI 0) dX0_init_21 (by decide) ?_
  refine wp_putI 3 6 dX0_init_22 (by simp [gI_wI, gI_wR, gI_mk, gR_wI, gR_wR, gR_mk, gk_wI, gk_wR, gk_mk, gn_wI, gn_wR, gn_mk, nm_eq, nm_i, k65]) (by decide) (by decide) (by decide) fl_X0_20 rfl (fun _ _ => rfl) rfl rfl ?_
  refine wp_aload_n (i := 0) dX0_init_25 rfl rfl ?_
  refine wp_iload_n (i := 1) dX0_init_26 rfl rfl ?_
  refine wp_putI 3 0 dX0_init_27 (by simp [gI_wI, gI_wR, gI_mk, gR_wI, gR_wR, gR_mk, gk_wI, gk_wR, gk_mk, gn_wI, gn_wR, gn_mk, nm_eq, nm_i, k65]) (by decide) (by decide) (by decide) fl_X0_24 rfl (fun _ _ => rfl) rfl rfl ?_
  refine wp_aload_n (i := 0) dX0_init_30 rfl rfl ?_
  refine wp_iload_n (i := 2) dX0_init_31 rfl rfl ?_
  refine wp_putIF 3 1 dX0_init_32 (by simp [gI_wI, gI_wR, gI_mk, gR_wI, gR_wR, gR_mk, gk_wI, gk_wR, gk_mk, gn_wI, gn_wR, gn_mk, nm_eq, nm_i, k65]) (by decide) (by decide) (by decide) fl_X0_27 rfl rfl rfl (fun _ _ => rfl) rfl rfl ?_
  refine wp_aload_n (i := 0) dX0_init_35 rfl rfl ?_
  refine wp_iload_n (i := 3) dX0_init_36 rfl rfl ?_
  refine wp_putIF 3 2 dX0_init_37 (by simp [gI_wI, gI_wR, gI_mk, gR_wI, gR_wR, gR_mk, gk_wI, gk_wR, gk_mk, gn_wI, gn_wR, gn_mk, nm_eq, nm_i, k65]) (by decide) (by decide) (by decide) fl_X0_30 rfl rfl rfl (fun _ _ => rfl) rfl rfl ?_
  refine wp_aload_n (i := 0) dX0_init_40 rfl rfl ?_
  refine wp_iload (i := 4) dX0_init_41 rfl ?_
  refine wp_putIF 3 3 dX0_init_43 (by simp [gI_wI, gI_wR, gI_mk, gR_wI, gR_wR, gR_mk, gk_wI, gk_wR, gk_mk, gn_wI, gn_wR, gn_mk, nm_eq, nm_i, k65]) (by decide) (by decide) (by decide) fl_X0_33 rfl rfl rfl (fun _ _ => rfl) (by cases fe <;> rfl) (by cases fe <;> rfl) ?_
  refine wp_return dX0_init_46 rfl ?_
  have n6 : ∀ a2, a2 ≠ nm 65 a → ce (wI (wI (wI (wI (wI (wI (wR h1 (nm 65 a) 4 (some (nm 66 a))) (nm 65 a) 5 (nI 0)) (nm 65 a) 6 (nI 0)) (nm 65 a) 0 v) (nm 65 a) 1 lo) (nm 65 a) 2 hi) (nm 65 a) 3 (bI fe)) a2 = ce h1 a2 := fun a2 n => (ce_wI n).trans ((ce_wI n).trans ((ce_wI n).trans ((ce_wI n).trans ((ce_wI n).trans ((ce_wI n).trans (ce_wR n))))))
  have W2 := W1.frm (n6 _ (by unfold nm; omega)) (n6 _ (by unfold nm; omega))
  exact hq _ ⟨by first | (simp [gI_wI, gI_wR, gI_mk, gR_wI, gR_wR, gR_mk, gk_wI, gk_wR, gk_mk, gn_wI, gn_wR, gn_mk, nm_eq, nm_i, k65]; done) | (simp [gI_wI, gI_wR, gI_mk, gR_wI, gR_wR, gR_mk, gk_wI, gk_wR, gk_mk, gn_wI, gn_wR, gn_mk, nm_eq, nm_i, k65]; rfl), by first | (simp [gI_wI, gI_wR, gI_mk, gR_wI, gR_wR, gR_mk, gk_wI, gk_wR, gk_mk, gn_wI, gn_wR, gn_mk, nm_eq, nm_i, k65]; done) | (simp [gI_wI, gI_wR, gI_mk, gR_wI, gR_wR, gR_mk, gk_wI, gk_wR, gk_mk, gn_wI, gn_wR, gn_mk, nm_eq, nm_i, k65]; rfl), by first | (simp [gI_wI, gI_wR, gI_mk, gR_wI, gR_wR, gR_mk, gk_wI, gk_wR, gk_mk, gn_wI, gn_wR, gn_mk, nm_eq, nm_i, k65]; done) | (simp [gI_wI, gI_wR, gI_mk, gR_wI, gR_wR, gR_mk, gk_wI, gk_wR, gk_mk, gn_wI, gn_wR, gn_mk, nm_eq, nm_i, k65]; rfl), by first | (simp [gI_wI, gI_wR, gI_mk, gR_wI, gR_wR, gR_mk, gk_wI, gk_wR, gk_mk, gn_wI, gn_wR, gn_mk, nm_eq, nm_i, k65]; done) | (simp [gI_wI, gI_wR, gI_mk, gR_wI, gR_wR, gR_mk, gk_wI, gk_wR, gk_mk, gn_wI, gn_wR, gn_mk, nm_eq, nm_i, k65]; rfl), by first | (simp [gI_wI, gI_wR, gI_mk, gR_wI, gR_wR, gR_mk, gk_wI, gk_wR, gk_mk, gn_wI, gn_wR, gn_mk, nm_eq, nm_i, k65]; done) | (simp [gI_wI, gI_wR, gI_mk, gR_wI, gR_wR, gR_mk, gk_wI, gk_wR, gk_mk, gn_wI, gn_wR, gn_mk, nm_eq, nm_i, k65]; rfl), by first | (simp [gI_wI, gI_wR, gI_mk, gR_wI, gR_wR, gR_mk, gk_wI, gk_wR, gk_mk, gn_wI, gn_wR, gn_mk, nm_eq, nm_i, k65]; done) | (simp [gI_wI, gI_wR, gI_mk, gR_wI, gR_wR, gR_mk, gk_wI, gk_wR, gk_mk, gn_wI, gn_wR, gn_mk, nm_eq, nm_i, k65]; rfl), by first | (simp [gI_wI, gI_wR, gI_mk, gR_wI, gR_wR, gR_mk, gk_wI, gk_wR, gk_mk, gn_wI, gn_wR, gn_mk, nm_eq, nm_i, k65]; done) | (simp [gI_wI, gI_wR, gI_mk, gR_wI, gR_wR, gR_mk, gk_wI, gk_wR, gk_mk, gn_wI, gn_wR, gn_mk, nm_eq, nm_i, k65]; rfl), by first | (simp [gI_wI, gI_wR, gI_mk, gR_wI, gR_wR, gR_mk, gk_wI, gk_wR, gk_mk, gn_wI, gn_wR, gn_mk, nm_eq, nm_i, k65]; done) | (simp [gI_wI, gI_wR, gI_mk, gR_wI, gR_wR, gR_mk, gk_wI, gk_wR, gk_mk, gn_wI, gn_wR, gn_mk, nm_eq, nm_i, k65]; rfl), W2.1, W2.2.1, W2.2.2.1, W2.2.2.2.1, W2.2.2.2.2⟩ (fun b hb => by
    have b5 : b ≠ nm 65 a := fun e => hb (by rw [e]; unfold CA nm; omega)
    exact (n6 b b5).trans ((F1 b (fun z => hb (by rcases z with e | e <;> (rw [e]; unfold CA nm; omega)))).trans (ce_mk b5)))
theorem CR.addR {h h' : Hp} {X : CS} {x : KRS} (H : CR h X) (hn : CS_rn X < 6) (hF : Fr h h' (CRf (CS_rn X))) (K : KR h' (CS_rn X) x) : CR (wI (wR h' (nm 40 6) (CS_rn X) (some (nm 53 (CS_rn X)))) (nm 40 0) 7 (nI (CS_rn X + 1))) (CS_urr (CS_urn X (CS_rn X + 1)) (va_up (CS_rr X) (CS_rn X) x)) ∧ FRK h (wI (wR h' (nm 40 6) (CS_rn X) (some (nm 53 (CS_rn X)))) (nm 40 0) 7 (nI (CS_rn X + 1))) := by
  have e : ∀ a, a ≠ nm 40 0 → a ≠ nm 40 6 → ce (wI (wR h' (nm 40 6) (CS_rn X) (some (nm 53 (CS_rn X)))) (nm 40 0) 7 (nI (CS_rn X + 1))) a = ce h' a := fun a h1 h2 => (ce_wI h1).trans (ce_wR h2)
  have eo : ∀ i, i ≠ 0 → i ≠ 6 → ce (wI (wR h' (nm 40 6) (CS_rn X) (some (nm 53 (CS_rn X)))) (nm 40 0) 7 (nI (CS_rn X + 1))) (nm 40 i) = ce h (nm 40 i) := fun i h1 h2 => (e _ (by unfold nm; omega) (by unfold nm; omega)).trans (hF _ (CRf_n (by omega) (by decide)))
  have er : ∀ r i, 53 ≤ r → r ≤ 69 → ¬ (53 ≤ r ∧ r ≤ 55 ∧ i = CS_rn X) → ce (wI (wR h' (nm 40 6) (CS_rn X) (some (nm 53 (CS_rn X)))) (nm 40 0) 7 (nI (CS_rn X + 1))) (nm r i) = ce h (nm r i) := fun r i h1 h2 h3 => (e _ (by unfold nm; omega) (by unfold nm; omega)).trans (hF _ (CRf_n h3 (by omega)))
  have e0 : ce (wI (wR h' (nm 40 6) (CS_rn X) (some (nm 53 (CS_rn X)))) (nm 40 0) 7 (nI (CS_rn X + 1))) 0 = ce h 0 := (e 0 (by unfold nm; omega) (by unfold nm; omega)).trans (hF 0 (by unfold CRf; omega))
  have ep : ce h' (nm 40 0) = ce h (nm 40 0) := hF _ (CRf_n (by omega) (by decide))
  have ea : ce h' (nm 40 6) = ce h (nm 40 6) := hF _ (CRf_n (by omega) (by decide))
  have n6 : (nm 40 6 : Nat) ≠ nm 40 0 := by unfold nm; omega
  obtain ⟨⟨a1, a2, a3, a4, a5, a6, a7, a8, a9⟩, ⟨b1, b2, b3, b4, b5, b6⟩, ⟨c1, c2, c3⟩, ⟨d1, d2, d3, d4⟩, p4, ⟨g1, g2, g3, g4, g5, g6, g7⟩⟩ := H
  refine ⟨⟨⟨by rw [gk_wI, gk_wR, ce_k ep]; exact a1, by rw [gR_wI, gR_wR, if_neg (fun z => n6 z.1.symm), ce_R ep]; exact a2, by rw [gR_wI, gR_wR, if_neg (fun z => n6 z.1.symm), ce_R ep]; exact a3, by rw [gR_wI, gR_wR, if_neg (fun z => n6 z.1.symm), ce_R ep]; exact a4, by rw [gR_wI, gR_wR, if_neg (fun z => n6 z.1.symm), ce_R ep]; exact a5, by rw [gI_wI, if_pos ⟨rfl, rfl⟩], by rw [gI_wI, if_neg (fun z => absurd z.2 (by decide)), gI_wR, ce_I ep]; exact a7, by rw [gI_wI, if_neg (fun z => absurd z.2 (by decide)), gI_wR, ce_I ep]; exact a8, by rw [gI_wI, if_neg (fun z => absurd z.2 (by decide)), gI_wR, ce_I ep]; exact a9⟩,
  ⟨by rw [gk_wI, gk_wR, ce_k ea]; exact b1, by rw [gn_wI, gn_wR, ce_n ea]; exact b2, by rw [ce_k (eo 8 (by decide) (by decide))]; exact b3, by rw [ce_n (eo 8 (by decide) (by decide))]; exact b4, by rw [ce_k (eo 12 (by decide) (by decide))]; exact b5, by rw [ce_n (eo 12 (by decide) (by decide))]; exact b6⟩,
  ⟨fun r hr => by
    rw [gR_wI, gR_wR]
    by_cases z : r = CS_rn X
    · rw [if_pos ⟨rfl, z⟩, z]
    · rw [if_neg (fun y => z y.2), ce_R ea]; exact c1 r (by have : r < CS_rn X + 1 := hr; omega),
  fun r hr => by rw [ce_R (eo 8 (by decide) (by decide))]; exact c2 r hr,
  fun r hr => by rw [ce_R (eo 12 (by decide) (by decide))]; exact c3 r hr⟩,
  ⟨fun r hr => by
    show KR _ r (va_up (CS_rr X) (CS_rn X) x r)
    rw [va_up_app]
    by_cases z : r = CS_rn X
    · rw [if_pos z, z]; exact K.frm (e _ (by unfold nm; omega) (by unfold nm; omega)) (e _ (by unfold nm; omega) (by unfold nm; omega)) (e _ (by unfold nm; omega) (by unfold nm; omega))
    · have hr2 : r < CS_rn X := by have : r < CS_rn X + 1 := hr; omega
      rw [if_neg z]; exact (d1 r hr2).frm (er _ _ (by decide) (by decide) (by omega)) (er _ _ (by decide) (by decide) (by omega)) (er _ _ (by decide) (by decide) (by omega)),
  fun r hr => (d2 r hr).frm (er _ _ (by decide) (by decide) (by omega)) (er _ _ (by decide) (by decide) (by omega)) (er _ _ (by decide) (by decide) (by omega)) (er _ _ (by decide) (by decide) (by omega)) (er _ _ (by decide) (by decide) (by omega)) (er _ _ (by decide) (by decide) (by omega)) (er _ _ (by decide) (by decide) (by omega)),
  fun r hr => (d3 r hr).frm (er _ _ (by decide) (by decide) (by omega)) (er _ _ (by decide) (by decide) (by omega)) (er _ _ (by decide) (by decide) (by omega)),
  fun r hr => (d4 r hr).frm (er _ _ (by decide) (by decide) (by omega)) (er _ _ (by decide) (by decide) (by omega))⟩,
  p4.fr e0 (eo 11 (by decide) (by decide)) (fun r i h1 h2 => er r i (by omega) (by omega) (by omega)),
  ⟨(fun i hi => (ce_k (er 53 i (by decide) (by decide) (by have : CS_rn X + 1 ≤ i := hi; omega))).trans (g1 i (by have : CS_rn X + 1 ≤ i := hi; omega))), (fun i hi => (ce_k (er 54 i (by decide) (by decide) (by have : CS_rn X + 1 ≤ i := hi; omega))).trans (g2 i (by have : CS_rn X + 1 ≤ i := hi; omega))), (fun i hi => (ce_k (er 55 i (by decide) (by decide) (by have : CS_rn X + 1 ≤ i := hi; omega))).trans (g3 i (by have : CS_rn X + 1 ≤ i := hi; omega))), g4.fr (fun i hi => er 65 i (by decide) (by decide) (by omega)), g5.fr (fun i hi => er 66 i (by decide) (by decide) (by omega)), g6.fr (fun i hi => er 67 i (by decide) (by decide) (by omega)), g7.fr (fun i hi => er 68 i (by decide) (by decide) (by omega))⟩⟩, ?_⟩
  refine ⟨fun a ha => (e a (fun z => ha (Or.inl z)) (fun z => ha (by rw [z]; unfold WK; omega))).trans (hF a (fun z => ha (by unfold CRf at z; unfold WK; omega))), ⟨by rw [gk_wI, gk_wR, ce_k ep], by rw [gn_wI, gn_wR, ce_n ep], ?_, (show h_L h' (nm 40 0) = h_L h (nm 40 0) from ce_L ep), (show h_F h' (nm 40 0) = h_F h (nm 40 0) from ce_F ep)⟩, fun j h7 h9 h10 h13 => by rw [gI_wI, if_neg (fun z => by have := z.2; omega), gI_wR, ce_I ep]⟩
  · funext j; rw [gR_wI, gR_wR, if_neg (fun z => n6 z.1.symm), ce_R ep]
theorem CR.addA {h h' : Hp} {X : CS} {x : KAS} (H : CR h X) (hn : CS_an X < 4) (hF : Fr h h' (CA (CS_an X))) (K : KA h' (CS_an X) x) : CR (wI (wR h' (nm 40 12) (CS_an X) (some (nm 65 (CS_an X)))) (nm 40 0) 13 (nI (CS_an X + 1))) (CS_uaa (CS_uan X (CS_an X + 1)) (va_up (CS_aa X) (CS_an X) x)) ∧ FRK h (wI (wR h' (nm 40 12) (CS_an X) (some (nm 65 (CS_an X)))) (nm 40 0) 13 (nI (CS_an X + 1))) := by
  have e : ∀ a, a ≠ nm 40 0 → a ≠ nm 40 12 → ce (wI (wR h' (nm 40 12) (CS_an X) (some (nm 65 (CS_an X)))) (nm 40 0) 13 (nI (CS_an X + 1))) a = ce h' a := fun a h1 h2 => (ce_wI h1).trans (ce_wR h2)
  have eo : ∀ i, i ≠ 0 → i ≠ 12 → ce (wI (wR h' (nm 40 12) (CS_an X) (some (nm 65 (CS_an X)))) (nm 40 0) 13 (nI (CS_an X + 1))) (nm 40 i) = ce h (nm 40 i) := fun i h1 h2 => (e _ (by unfold nm; omega) (by unfold nm; omega)).trans (hF _ (CA_n (by omega) (by decide)))
  have er : ∀ r i, 53 ≤ r → r ≤ 69 → ¬ (65 ≤ r ∧ r ≤ 67 ∧ i = CS_an X) → ce (wI (wR h' (nm 40 12) (CS_an X) (some (nm 65 (CS_an X)))) (nm 40 0) 13 (nI (CS_an X + 1))) (nm r i) = ce h (nm r i) := fun r i h1 h2 h3 => (e _ (by unfold nm; omega) (by unfold nm; omega)).trans (hF _ (CA_n h3 (by omega)))
  have e0 : ce (wI (wR h' (nm 40 12) (CS_an X) (some (nm 65 (CS_an X)))) (nm 40 0) 13 (nI (CS_an X + 1))) 0 = ce h 0 := (e 0 (by unfold nm; omega) (by unfold nm; omega)).trans (hF 0 (by unfold CA; omega))
  have ep : ce h' (nm 40 0) = ce h (nm 40 0) := hF _ (CA_n (by omega) (by decide))
  have ea : ce h' (nm 40 12) = ce h (nm 40 12) := hF _ (CA_n (by omega) (by decide))
  have n6 : (nm 40 12 : Nat) ≠ nm 40 0 := by unfold nm; omega
  obtain ⟨⟨a1, a2, a3, a4, a5, a6, a7, a8, a9⟩, ⟨b1, b2, b3, b4, b5, b6⟩, ⟨c1, c2, c3⟩, ⟨d1, d2, d3, d4⟩, p4, ⟨g1, g2, g3, g4, g5, g6, g7⟩⟩ := H
  refine ⟨⟨⟨by rw [gk_wI, gk_wR, ce_k ep]; exact a1, by rw [gR_wI, gR_wR, if_neg (fun z => n6 z.1.symm), ce_R ep]; exact a2, by rw [gR_wI, gR_wR, if_neg (fun z => n6 z.1.symm), ce_R ep]; exact a3, by rw [gR_wI, gR_wR, if_neg (fun z => n6 z.1.symm), ce_R ep]; exact a4, by rw [gR_wI, gR_wR, if_neg (fun z => n6 z.1.symm), ce_R ep]; exact a5, by rw [gI_wI, if_neg (fun z => absurd z.2 (by decide)), gI_wR, ce_I ep]; exact a6, by rw [gI_wI, if_pos ⟨rfl, rfl⟩], by rw [gI_wI, if_neg (fun z => absurd z.2 (by decide)), gI_wR, ce_I ep]; exact a8, by rw [gI_wI, if_neg (fun z => absurd z.2 (by decide)), gI_wR, ce_I ep]; exact a9⟩,
  ⟨by rw [ce_k (eo 6 (by decide) (by decide))]; exact b1, by rw [ce_n (eo 6 (by decide) (by decide))]; exact b2, by rw [ce_k (eo 8 (by decide) (by decide))]; exact b3, by rw [ce_n (eo 8 (by decide) (by decide))]; exact b4, by rw [gk_wI, gk_wR, ce_k ea]; exact b5, by rw [gn_wI, gn_wR, ce_n ea]; exact b6⟩,
  ⟨fun r hr => by rw [ce_R (eo 6 (by decide) (by decide))]; exact c1 r hr,
  fun r hr => by rw [ce_R (eo 8 (by decide) (by decide))]; exact c2 r hr,
  fun r hr => by
    rw [gR_wI, gR_wR]
    by_cases z : r = CS_an X
    · rw [if_pos ⟨rfl, z⟩, z]
    · rw [if_neg (fun y => z y.2), ce_R ea]; exact c3 r (by have : r < CS_an X + 1 := hr; omega)⟩,
  ⟨fun r hr => (d1 r hr).frm (er _ _ (by decide) (by decide) (by omega)) (er _ _ (by decide) (by decide) (by omega)) (er _ _ (by decide) (by decide) (by omega)),
  fun r hr => (d2 r hr).frm (er _ _ (by decide) (by decide) (by omega)) (er _ _ (by decide) (by decide) (by omega)) (er _ _ (by decide) (by decide) (by omega)) (er _ _ (by decide) (by decide) (by omega)) (er _ _ (by decide) (by decide) (by omega)) (er _ _ (by decide) (by decide) (by omega)) (er _ _ (by decide) (by decide) (by omega)),
  fun r hr => by
    show KA _ r (va_up (CS_aa X) (CS_an X) x r)
    rw [va_up_app]
    by_cases z : r = CS_an X
    · rw [if_pos z, z]; exact K.frm (e _ (by unfold nm; omega) (by unfold nm; omega)) (e _ (by unfold nm; omega) (by unfold nm; omega)) (e _ (by unfold nm; omega) (by unfold nm; omega))
    · have hr2 : r < CS_an X := by have : r < CS_an X + 1 := hr; omega
      rw [if_neg z]; exact (d3 r hr2).frm (er _ _ (by decide) (by decide) (by omega)) (er _ _ (by decide) (by decide) (by omega)) (er _ _ (by decide) (by decide) (by omega)),
  fun r hr => (d4 r hr).frm (er _ _ (by decide) (by decide) (by omega)) (er _ _ (by decide) (by decide) (by omega))⟩,
  p4.fr e0 (eo 11 (by decide) (by decide)) (fun r i h1 h2 => er r i (by omega) (by omega) (by omega)),
  ⟨g1.fr (fun i hi => er 53 i (by decide) (by decide) (by omega)), g2.fr (fun i hi => er 54 i (by decide) (by decide) (by omega)), g3.fr (fun i hi => er 55 i (by decide) (by decide) (by omega)), (fun i hi => (ce_k (er 65 i (by decide) (by decide) (by have : CS_an X + 1 ≤ i := hi; omega))).trans (g4 i (by have : CS_an X + 1 ≤ i := hi; omega))), (fun i hi => (ce_k (er 66 i (by decide) (by decide) (by have : CS_an X + 1 ≤ i := hi; omega))).trans (g5 i (by have : CS_an X + 1 ≤ i := hi; omega))), (fun i hi => (ce_k (er 67 i (by decide) (by decide) (by have : CS_an X + 1 ≤ i := hi; omega))).trans (g6 i (by have : CS_an X + 1 ≤ i := hi; omega))), g7.fr (fun i hi => er 68 i (by decide) (by decide) (by omega))⟩⟩, ?_⟩
  refine ⟨fun a ha => (e a (fun z => ha (Or.inl z)) (fun z => ha (by rw [z]; unfold WK; omega))).trans (hF a (fun z => ha (by unfold CA at z; unfold WK; omega))), ⟨by rw [gk_wI, gk_wR, ce_k ep], by rw [gn_wI, gn_wR, ce_n ep], ?_, (show h_L h' (nm 40 0) = h_L h (nm 40 0) from ce_L ep), (show h_F h' (nm 40 0) = h_F h (nm 40 0) from ce_F ep)⟩, fun j h7 h9 h10 h13 => by rw [gI_wI, if_neg (fun z => by have := z.2; omega), gI_wR, ce_I ep]⟩
  · funext j; rw [gR_wI, gR_wR, if_neg (fun z => n6 z.1.symm), ce_R ep]
