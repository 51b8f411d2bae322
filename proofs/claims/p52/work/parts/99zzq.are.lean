/-! areReferences. -/
/-- all but two arrays of the law is as it was -/
def FKJ (J : Nat) (h h' : Hp) : Prop := ∀ a, ¬ (40 ≤ a % 128 ∧ a % 128 ≤ 69) → a ≠ nm 72 J → a ≠ nm 73 J → ce h' a = ce h a
def B6 (h : Hp) (a : Nat) (g : Nat → Bool) : Prop := h_k h a = 102 ∧ h_n h a = 6 ∧ ∀ j, j < 6 → h_I h a j = bI (g j)
section FJ
variable {h h' h1 : Hp} {J a : Nat} {f : Nat → Int32} {g : Nat → Bool}
theorem FKJ.of (F : FK h h') : FKJ J h h' := fun a ha _ _ => F a ha
theorem FKJ.tr (F : FKJ J h h1) (G : FK h1 h') : FKJ J h h' := fun a ha h2 h3 => (G a ha).trans (F a ha h2 h3)
theorem FKJ.tj (F : FKJ J h h1) (G : FKJ J h1 h') : FKJ J h h' := fun a ha h2 h3 => (G a ha h2 h3).trans (F a ha h2 h3)
theorem FKJ.w2 (F : FKJ J h h1) {k : Nat} {z : Int32} : FKJ J h (wI h1 (nm 72 J) k z) := fun a ha h2 h3 => (ce_wI h2).trans (F a ha h2 h3)
theorem FKJ.w3 (F : FKJ J h h1) {k : Nat} {z : Int32} : FKJ J h (wI h1 (nm 73 J) k z) := fun a ha h2 h3 => (ce_wI h3).trans (F a ha h2 h3)
theorem ce_w7 {i k : Nat} {z : Int32} {b : Nat} (ha : b ≠ nm i J) : ce (wI h (nm i J) k z) b = ce h b := ce_wI ha
theorem B6.ce (H : B6 h a g) (e : ce h' a = ce h a) : B6 h' a g := ⟨(ce_k e).trans H.1, (ce_n e).trans H.2.1, fun j hj => by rw [ce_I e]; exact H.2.2 j hj⟩
theorem B6.w (H : B6 h a g) {k : Nat} {b : Bool} : B6 (wI h a k (bI b)) a (va_up g k b) := ⟨H.1, H.2.1, fun j hj => by
  rw [gI_wI, va_up_app]
  by_cases e : j = k
  · rw [if_pos ⟨rfl, e⟩, if_pos e]
  · rw [if_neg (fun z => e z.2), if_neg e]; exact H.2.2 j hj⟩
theorem mk_R {n : Nat} : RWn n (mk h a 101 n) a (fun _ => 0) := ⟨va_up_self _ _ _, va_up_self _ _ _, fun j _ => by
  show va_up (h_I h) a (fun _ => 0) a j = 0
  rw [va_up_self]⟩
theorem mk_B : B6 (mk h a 102 6) a (fun _ => false) := ⟨va_up_self _ _ _, va_up_self _ _ _, fun j _ => by
  show va_up (h_I h) a (fun _ => 0) a j = 0
  rw [va_up_self]⟩
theorem LWH.fkJ {nV n nR K : Nat} {ro : Nat → Nat} {rf : Nat → Nat → Int32} {op : Nat → Bool} (H : LWH h nV n nR ro rf K J op) (F : FKJ J h h') : LWH h' nV n nR ro rf K (J + 1) op := by
  obtain ⟨⟨a1, a2⟩, b, c, ⟨d1, d2, d3, d4, d5⟩, ⟨e1, e2, e3⟩, f, g⟩ := H
  have e0 := F (nm 70 0) (by unfold nm; omega) (by unfold nm; omega) (by unfold nm; omega)
  have eo := F (nm 70 1) (by unfold nm; omega) (by unfold nm; omega) (by unfold nm; omega)
  have ep := F (nm 70 2) (by unfold nm; omega) (by unfold nm; omega) (by unfold nm; omega)
  have e71 : ∀ i, ce h' (nm 71 i) = ce h (nm 71 i) := fun i => F _ (by unfold nm; omega) (by unfold nm; omega) (by unfold nm; omega)
  refine ⟨⟨(ce_k e0).trans a1, (ce_n e0).trans a2⟩, fun v hv => ?_, c, ⟨(ce_k eo).trans d1, (ce_n eo).trans d2, by rw [ce_I eo]; exact d3, by rw [ce_I eo]; exact d4, by rw [ce_I eo]; exact d5⟩, ⟨(ce_k ep).trans e1, (ce_n ep).trans e2, fun t ht => by rw [ce_I ep]; exact e3 t ht⟩, fun i hi => (ce_k (e71 i)).trans (f i hi), fun i hi => ⟨(ce_k (F (nm 72 i) (by unfold nm; omega) (by unfold nm; omega) (by unfold nm; omega))).trans (g i (by omega)).1, (ce_k (F (nm 73 i) (by unfold nm; omega) (by unfold nm; omega) (by unfold nm; omega))).trans (g i (by omega)).2⟩⟩
  obtain ⟨b1, b2, b3⟩ := b v hv
  exact ⟨by rw [ce_R e0]; exact b1, b2, RWn.ce (n := 70) b3 (e71 _)⟩
end FJ
theorem rx_log {S : RS} {j i : Nat} (hj : j < (RS_lg S).length) (hl : (RS_lg S).length < 2 ^ 31) (hi : i < 4) : o_logAt S (nI j) j (nI i) i = (nI 0, logw (RS_lg S) j i, S) := by
  unfold o_logAt
  have e := nI_toInt (n := i) (by omega)
  rw [if_neg (by rw [ixB_n1 hj hl]; decide), if_neg (by rw [inB_of (v := nI i) (lo := nI 0) (hi := nI 3) (by rw [e, show (nI 0).toInt = 0 from by decide]; omega) (by rw [e, show (nI 3).toInt = 3 from by decide]; omega)]; decide)]
theorem rx_val {S : RS} {r : Nat} (h6 : RS_rn S ≤ 6) (hr : r < RS_rn S) : o_valueOf S (nI r) r = (nI 0, (lastq (RS_rr S r)).2, S) ∧ o_valueByLog S (nI r) r = (nI 0, vbF r (RS_lg S) (OR_fst (RS_rr S r)), S) ∧ o_history S (nI r) r = (nI 0, nI (OR_hs (RS_rr S r)).length, S) := by
  unfold o_valueOf o_valueByLog o_history
  rw [if_neg (irn h6 hr), if_neg (irn h6 hr), if_neg (irn h6 hr)]
  exact ⟨rfl, rfl, rfl⟩
theorem rx_valN {S : RS} (h6 : RS_rn S ≤ 6) : o_valueOf S (nI (RS_rn S)) (RS_rn S) = (nI 1, nI 0, S) := by
  unfold o_valueOf
  rw [if_pos (by rw [ixB_n0 (Nat.le_refl _) (by omega)]; rfl)]
set_option maxRecDepth 100000 in
set_option maxHeartbeats 4000000 in
theorem l_ar_1 {G : GG} {d c n k : Nat} {Q : Pst} {V : SV} {x : Nat → QIS} {R : RS} (B : PU c V n x R) (hc : c < 512) (HI : RI k R) (hd : 40 ≤ d) {h0 : Hp} {M : Nat} (hK : ∀ h' bc' bs', 24800 ≤ bc' → 165000 ≤ bs' → CLS h' V M n x R → FK h0 h' → WP G m_L_areReferences d 105 [(3, vi (nI (RS_rn R))), (2, vi (nI 1)), (0, vr (some (nm 40 0))), (1, vi (nI (RS_rn R)))] [] h' bc' bs' Q) : ∀ m j h bc bs, m + j = RS_rn R → CLS h V M n x R → FK h0 h → 24 * m + 24800 ≤ bc → 160 * m + 165000 ≤ bs → WP G m_L_areReferences d 22 [(3, vi (nI j)), (2, vi (nI 1)), (0, vr (some (nm 40 0))), (1, vi (nI (RS_rn R)))] [] h bc bs Q := by
  have h6 : RS_rn R ≤ 6 := B.2.2.2.2.1.1.2.1
  have hmo : RS_mo R ≤ c := B.2.2.2.2.1.1.2.2.2.1
  have hlg : (RS_lg R).length ≤ 6 * c := B.2.2.2.2.1.1.2.2.2.2.2.1
  intro m
  induction m with
  | zero =>
    intro j h bc bs hj C F hbc hbs
    have hj2 : j = RS_rn R := by omega
    subst hj2
    refine wp_iload_n (i := 3) dL_areReferences_22 rfl rfl ?_
    refine wp_iload_n (i := 1) dL_areReferences_23 rfl rfl ?_
    refine wp_icmp_geN 105 dL_areReferences_24 (by decide) (by omega) (by omega) (fun c_24 => ?_) (fun c_24 => absurd c_24 (by omega))
    refine wp_sub [(3, vi (nI (RS_rn R))), (2, vi (nI 1)), (0, vr (some (nm 40 0))), (1, vi (nI (RS_rn R)))] (sb_cons (.head _) (sb_cons (.tail _ (.head _)) (sb_cons (.tail _ (.tail _ (.head _))) (sb_cons (.tail _ (.tail _ (.tail _ (.head _)))) sb_nil)))) ?_
    exact hK _ _ _ (by omega) (by omega) C F
  | succ m ih =>
    intro j h bc bs hj C F hbc hbs
    have hjr : j < RS_rn R := by omega
    obtain ⟨ev1, ev2, ev3⟩ := rx_val h6 hjr
    obtain ⟨rf1, rf2, rf3, ⟨rf4, rf5, rf6⟩, rf7⟩ := HI.2.2.2 j hjr
    have rf8 := rf3 _ (lastq_in rf4)
    rw [rf7] at ev2
    generalize (lastq (RS_rr R j)).2 = v0 at *
    obtain ⟨hl0, ehl⟩ : ∃ z, (OR_hs (RS_rr R j)).length = z := ⟨_, rfl⟩
    rw [ehl] at ev3 rf4 rf5
    have hv1 : ¬ v0 < -10 := fun z => by rw [Int32.lt_iff_toInt_lt, show (-10 : Int32).toInt = -10 from by decide] at z; omega
    have hv2 : ¬ nI 10 < v0 := fun z => by rw [Int32.lt_iff_toInt_lt, show (nI 10).toInt = 10 from by decide] at z; omega
    refine wp_iload_n (i := 3) dL_areReferences_22 rfl rfl ?_
    refine wp_iload_n (i := 1) dL_areReferences_23 rfl rfl ?_
    refine wp_icmp_geN 105 dL_areReferences_24 (by decide) (by omega) (by omega) (fun c_24 => absurd c_24 (by omega)) (fun c_24 => ?_)
    refine wp_iload_n (i := 2) dL_areReferences_27 rfl rfl ?_
    refine wp_if_eqN 105 dL_areReferences_28 (by decide) (by decide) (fun c_28 => absurd c_28 (by decide)) (fun c_28 => ?_)
    refine wp_aload_n (i := 0) dL_areReferences_31 rfl rfl ?_
    refine wp_bipush (nI 11) dL_areReferences_32 (by decide) ?_
    refine wp_iload_n (i := 3) dL_areReferences_34 rfl rfl ?_
    refine wp_iconst (nI 0) dL_areReferences_35 (by decide) ?_
    refine wp_cSH (y' := m_L_ask) [vr (some (nm 40 0)), vi (nI 11), vi (nI j), vi (nI 0)] [] 6 40 dL_areReferences_36 ml_L_184 st_L_ask okH_L_ask rfl (Nat.le_of_ble_eq_true rfl) rfl (Nat.le_of_ble_eq_true rfl) (d' := d - 1) (by omega) (by omega) (by omega) (q_valueOf (r := j) (by omega) B (by omega) C (by omega) (by omega) (by omega) (fun h1 C1 F1 => cont_ret ?_))
    rw [r_valueOf] at C1
    rw [show dA [-20001] (o_valueOf R (nI j) j) = v0 from by rw [ev1]; rfl]
    have G1 := F.tr F1
    refine wp_istore (i := 4) (lv' := [(4, vi v0), (3, vi (nI j)), (2, vi (nI 1)), (0, vr (some (nm 40 0))), (1, vi (nI (RS_rn R)))]) dL_areReferences_39 (by decide) rfl ?_
    refine wp_iload (i := 4) dL_areReferences_41 rfl ?_
    refine wp_bipush (-10) dL_areReferences_43 (by decide) ?_
    refine wp_icmp_lt 97 dL_areReferences_45 (by decide) (fun c_45 => absurd c_45 (hv1)) (fun c_45 => ?_)
    refine wp_iload (i := 4) dL_areReferences_48 rfl ?_
    refine wp_bipush (nI 10) dL_areReferences_50 (by decide) ?_
    refine wp_icmp_gt 97 dL_areReferences_52 (by decide) (fun c_52 => absurd c_52 (hv2)) (fun c_52 => ?_)
    refine wp_aload_n (i := 0) dL_areReferences_55 rfl rfl ?_
    refine wp_bipush (nI 12) dL_areReferences_56 (by decide) ?_
    refine wp_iload_n (i := 3) dL_areReferences_58 rfl rfl ?_
    refine wp_iconst (nI 0) dL_areReferences_59 (by decide) ?_
    refine wp_cSH (y' := m_L_ask) [vr (some (nm 40 0)), vi (nI 12), vi (nI j), vi (nI 0)] [] 6 40 dL_areReferences_60 ml_L_184 st_L_ask okH_L_ask rfl (Nat.le_of_ble_eq_true rfl) rfl (Nat.le_of_ble_eq_true rfl) (d' := d - 1) (by omega) (by omega) (by omega) (q_valueByLog (r := j) (by omega) B (by omega) C1 (by omega) (by omega) (by omega) (fun h2 C2 F2 => cont_ret ?_))
    rw [r_valueByLog] at C2
    rw [show dA [-20001] (o_valueByLog R (nI j) j) = v0 from by rw [ev2]; rfl]
    have G2 := G1.tr F2
    refine wp_iload (i := 4) dL_areReferences_63 rfl ?_
    refine wp_icmp_ne 97 dL_areReferences_65 (by decide) (fun c_65 => absurd c_65 (fun z => z rfl)) (fun c_65 => ?_)
    refine wp_aload_n (i := 0) dL_areReferences_68 rfl rfl ?_
    refine wp_bipush (nI 13) dL_areReferences_69 (by decide) ?_
    refine wp_iload_n (i := 3) dL_areReferences_71 rfl rfl ?_
    refine wp_iconst (nI 0) dL_areReferences_72 (by decide) ?_
    refine wp_cSH (y' := m_L_ask) [vr (some (nm 40 0)), vi (nI 13), vi (nI j), vi (nI 0)] [] 6 40 dL_areReferences_73 ml_L_184 st_L_ask okH_L_ask rfl (Nat.le_of_ble_eq_true rfl) rfl (Nat.le_of_ble_eq_true rfl) (d' := d - 1) (by omega) (by omega) (by omega) (q_history (r := j) (by omega) B (by omega) C2 (by omega) (by omega) (by omega) (fun h3 C3 F3 => cont_ret ?_))
    rw [r_history] at C3
    rw [show dA [-20001] (o_history R (nI j) j) = nI hl0 from by rw [ev3]; rfl]
    have G3 := G2.tr F3
    refine wp_iconst (nI 1) dL_areReferences_76 (by decide) ?_
    refine wp_icmp_ltN 97 dL_areReferences_77 (by decide) (by omega) (by decide) (fun c_77 => absurd c_77 (by omega)) (fun c_77 => ?_)
    refine wp_aload_n (i := 0) dL_areReferences_80 rfl rfl ?_
    refine wp_bipush (nI 13) dL_areReferences_81 (by decide) ?_
    refine wp_iload_n (i := 3) dL_areReferences_83 rfl rfl ?_
    refine wp_iconst (nI 0) dL_areReferences_84 (by decide) ?_
    refine wp_cSH (y' := m_L_ask) [vr (some (nm 40 0)), vi (nI 13), vi (nI j), vi (nI 0)] [] 6 40 dL_areReferences_85 ml_L_184 st_L_ask okH_L_ask rfl (Nat.le_of_ble_eq_true rfl) rfl (Nat.le_of_ble_eq_true rfl) (d' := d - 1) (by omega) (by omega) (by omega) (q_history (r := j) (by omega) B (by omega) C3 (by omega) (by omega) (by omega) (fun h4 C4 F4 => cont_ret ?_))
    rw [r_history] at C4
    rw [show dA [-20001] (o_history R (nI j) j) = nI hl0 from by rw [ev3]; rfl]
    have G4 := G3.tr F4
    refine wp_bipush (nI 8) dL_areReferences_88 (by decide) ?_
    refine wp_icmp_gtN 97 dL_areReferences_90 (by decide) (by omega) (by decide) (fun c_90 => absurd c_90 (by omega)) (fun c_90 => ?_)
    refine wp_iconst (nI 1) dL_areReferences_93 (by decide) ?_
    refine wp_goto 98 dL_areReferences_94 (by decide) ?_
    refine wp_istore_n (i := 2) (lv' := [(2, vi (nI 1)), (4, vi v0), (3, vi (nI j)), (0, vr (some (nm 40 0))), (1, vi (nI (RS_rn R)))]) dL_areReferences_98 rfl (by decide) rfl ?_
    refine wp_iincN (a := j) (lv' := [(3, vi (nI (j + 1))), (2, vi (nI 1)), (4, vi v0), (0, vr (some (nm 40 0))), (1, vi (nI (RS_rn R)))]) 1 dL_areReferences_99 rfl (by decide) (by decide) rfl ?_
    refine wp_goto 22 dL_areReferences_102 (by decide) ?_
    refine wp_sub [(3, vi (nI (j + 1))), (2, vi (nI 1)), (0, vr (some (nm 40 0))), (1, vi (nI (RS_rn R)))] (sb_cons (.head _) (sb_cons (.tail _ (.head _)) (sb_cons (.tail _ (.tail _ (.tail _ (.head _)))) (sb_cons (.tail _ (.tail _ (.tail _ (.tail _ (.head _))))) sb_nil)))) ?_
    exact ih (j + 1) _ _ _ (by omega) C4 G4 (by omega) (by omega)
set_option maxRecDepth 100000 in
set_option maxHeartbeats 4000000 in
theorem l_ar_2 {G : GG} {d c n k J : Nat} {Q : Pst} {V : SV} {x : Nat → QIS} {R : RS} (B : PU c V n x R) (hc : c < 512) (HI : RI k R) (hd : 40 ≤ d) {h0 : Hp} {M : Nat} (hq : ∀ h', CLS h' V M n x R → FKJ J h0 h' → Q (oRet (vi (nI 1))) h') : ∀ m j m0 h f g bc bs, m + j = (RS_lg R).length → CLS h V M n x R → FKJ J h0 h → RWn 6 h (nm 72 J) f → B6 h (nm 73 J) g → (∀ r, r < 6 → g r = true → f r = vbF r ((RS_lg R).take j) (OR_fst (RS_rr R r))) → ((j = 0 → m0 = 0) ∧ (0 < j → m0 = ((RS_lg R).getD (j - 1) (0, 0, 0, 0)).1)) → 48 * m + 60 ≤ bc → 320 * m + 300 ≤ bs → WP G m_L_areReferences d 122 [(6, vi (nI j)), (5, vr (some (nm 73 J))), (4, vr (some (nm 72 J))), (3, vi (nI m0)), (2, vi (nI 1)), (0, vr (some (nm 40 0))), (1, vi (nI (RS_rn R)))] [] h bc bs Q := by
  have h6 : RS_rn R ≤ 6 := B.2.2.2.2.1.1.2.1
  have hmo : RS_mo R ≤ c := B.2.2.2.2.1.1.2.2.2.1
  have hlg : (RS_lg R).length ≤ 6 * c := B.2.2.2.2.1.1.2.2.2.2.2.1
  have HL := HI.2.1
  intro m
  induction m with
  | zero =>
    intro j m0 h f g bc bs hj C F W X hg hm0 hbc hbs
    have hj2 : j = (RS_lg R).length := by omega
    have hm1 : m0 = RS_mo R := by
      by_cases z : j = 0
      · rw [hm0.1 z]; exact (HI.2.2.1.1 (by omega)).symm
      · rw [hm0.2 (by omega), hj2]; exact HI.2.2.1.2 (by omega)
    refine wp_iload (i := 6) dL_areReferences_122 rfl ?_
    refine wp_aload_n (i := 0) dL_areReferences_124 rfl rfl ?_
    refine wp_cV (y' := m_X11_logged) 12 [] [vi (nI j)] 6 40 dL_areReferences_125 ml_L_217 im_X11_logged se_X11_logged (by decide) C.hk ok_X11_logged rfl (Nat.le_of_ble_eq_true rfl) rfl (Nat.le_of_ble_eq_true rfl) (d' := d - 1) (by omega) (by omega) (by omega) (g_logged B (by omega) C (by omega) (by omega) (by omega) (fun h1 C1 F1 => cont_ret ?_))
    have W1 := RWn.ce (n := 6) W (F1 (nm 72 J) (by unfold nm; omega))
    have X1 := X.ce (F1 (nm 73 J) (by unfold nm; omega))
    have G1 := F.tr F1
    refine wp_icmp_geN 253 dL_areReferences_128 (by decide) (by omega) (by omega) (fun c_128 => ?_) (fun c_128 => absurd c_128 (by omega))
    refine wp_iload_n (i := 2) dL_areReferences_253 rfl rfl ?_
    refine wp_if_eqN 269 dL_areReferences_254 (by decide) (by decide) (fun c_254 => absurd c_254 (by decide)) (fun c_254 => ?_)
    refine wp_iload_n (i := 3) dL_areReferences_257 rfl rfl ?_
    refine wp_aload_n (i := 0) dL_areReferences_258 rfl rfl ?_
    refine wp_cV (y' := m_X11_moment) 12 [] [vi (nI m0)] 6 40 dL_areReferences_259 ml_L_214 im_X11_moment se_X11_moment (by decide) C1.hk ok_X11_moment rfl (Nat.le_of_ble_eq_true rfl) rfl (Nat.le_of_ble_eq_true rfl) (d' := d - 1) (by omega) (by omega) (by omega) (g_moment B (by omega) C1 (by omega) (by omega) (by omega) (fun h2 C2 F2 => cont_ret ?_))
    have W2 := RWn.ce (n := 6) W1 (F2 (nm 72 J) (by unfold nm; omega))
    have X2 := X1.ce (F2 (nm 73 J) (by unfold nm; omega))
    have G2 := G1.tr F2
    refine wp_icmp_neN 269 dL_areReferences_262 (by decide) (by omega) (by omega) (fun c_262 => absurd c_262 (by omega)) (fun c_262 => ?_)
    refine wp_iconst (nI 1) dL_areReferences_265 (by decide) ?_
    refine wp_goto 270 dL_areReferences_266 (by decide) ?_
    refine wp_zreturn dL_areReferences_270 rfl (by decide) ?_
    exact hq _ C2 G2
  | succ m ih =>
    intro j m0 h f g bc bs hj C F W X hg hm0 hbc hbs
    have hjl : j < (RS_lg R).length := by omega
    obtain ⟨a1, a2, a3⟩ := HL.1 j hjl
    have a4 : m0 ≤ ((RS_lg R).getD j (0, 0, 0, 0)).1 := by
      by_cases z : j = 0
      · rw [hm0.1 z]; exact Nat.zero_le _
      · have q := HL.2 (j - 1) (by omega)
        rw [show j - 1 + 1 = j by omega] at q
        rw [hm0.2 (by omega)]; exact q
    have g0 := rx_log (i := 0) hjl (by omega) (by decide)
    have g1 := rx_log (i := 1) hjl (by omega) (by decide)
    have g2 := rx_log (i := 2) hjl (by omega) (by decide)
    have g3 := rx_log (i := 3) hjl (by omega) (by decide)
    have hgn : ∀ r, vbF r ((RS_lg R).take (j + 1)) (OR_fst (RS_rr R r)) = if ((RS_lg R).getD j (0, 0, 0, 0)).2.1 = r then ((RS_lg R).getD j (0, 0, 0, 0)).2.2.2 else vbF r ((RS_lg R).take j) (OR_fst (RS_rr R r)) := fun r => by
      have e : (RS_lg R).take (j + 1) = (RS_lg R).take j ++ [(RS_lg R).getD j (0, 0, 0, 0)] := by
        rw [List.getD_eq_getElem?_getD, List.getElem?_eq_getElem hjl, List.take_succ_eq_append_getElem hjl]
        rfl
      rw [e, vbF_app]
    have hlast : ((RS_lg R).getD j (0, 0, 0, 0)).1 = ((RS_lg R).getD (j + 1 - 1) (0, 0, 0, 0)).1 := rfl
    unfold logw at g0 g1 g2 g3
    rw [if_pos rfl] at g0
    rw [if_neg (by decide), if_pos rfl] at g1
    rw [if_neg (by decide), if_neg (by decide), if_pos rfl] at g2
    rw [if_neg (by decide), if_neg (by decide), if_neg (by decide)] at g3
    generalize (RS_lg R).getD j (0, 0, 0, 0) = q at *
    obtain ⟨qa, qr, qb, qc⟩ := q
    have a1 : qa ≤ RS_mo R := a1
    have a2 : qr < RS_rn R := a2
    have a3 : qb = vbF qr ((RS_lg R).take j) (OR_fst (RS_rr R qr)) := a3
    have a4 : m0 ≤ qa := a4
    have g0 : o_logAt R (nI j) j (nI 0) 0 = (nI 0, nI qa, R) := g0
    have g1 : o_logAt R (nI j) j (nI 1) 1 = (nI 0, nI qr, R) := g1
    have g2 : o_logAt R (nI j) j (nI 2) 2 = (nI 0, qb, R) := g2
    have g3 : o_logAt R (nI j) j (nI 3) 3 = (nI 0, qc, R) := g3
    have hgn : ∀ r, vbF r ((RS_lg R).take (j + 1)) (OR_fst (RS_rr R r)) = if qr = r then qc else vbF r ((RS_lg R).take j) (OR_fst (RS_rr R r)) := hgn
    have hng : ∀ r, r < 6 → va_up g qr true r = true → va_up f qr qc r = vbF r ((RS_lg R).take (j + 1)) (OR_fst (RS_rr R r)) := fun r hr z => by
      rw [hgn, va_up_app]
      by_cases e : r = qr
      · rw [if_pos e, if_pos e.symm]
      · rw [if_neg e, if_neg (fun z => e z.symm)]
        rw [va_up_ne _ _ e] at z
        exact hg r hr z
    refine wp_iload (i := 6) dL_areReferences_122 rfl ?_
    refine wp_aload_n (i := 0) dL_areReferences_124 rfl rfl ?_
    refine wp_cV (y' := m_X11_logged) 12 [] [vi (nI j)] 6 40 dL_areReferences_125 ml_L_217 im_X11_logged se_X11_logged (by decide) C.hk ok_X11_logged rfl (Nat.le_of_ble_eq_true rfl) rfl (Nat.le_of_ble_eq_true rfl) (d' := d - 1) (by omega) (by omega) (by omega) (g_logged B (by omega) C (by omega) (by omega) (by omega) (fun h1 C1 F1 => cont_ret ?_))
    have W1 := RWn.ce (n := 6) W (F1 (nm 72 J) (by unfold nm; omega))
    have X1 := X.ce (F1 (nm 73 J) (by unfold nm; omega))
    have G1 := F.tr F1
    refine wp_icmp_geN 253 dL_areReferences_128 (by decide) (by omega) (by omega) (fun c_128 => absurd c_128 (by omega)) (fun c_128 => ?_)
    refine wp_iload_n (i := 2) dL_areReferences_131 rfl rfl ?_
    refine wp_if_eqN 253 dL_areReferences_132 (by decide) (by decide) (fun c_132 => absurd c_132 (by decide)) (fun c_132 => ?_)
    refine wp_aload_n (i := 0) dL_areReferences_135 rfl rfl ?_
    refine wp_bipush (nI 14) dL_areReferences_136 (by decide) ?_
    refine wp_iload (i := 6) dL_areReferences_138 rfl ?_
    refine wp_iconst (nI 1) dL_areReferences_140 (by decide) ?_
    refine wp_cSH (y' := m_L_ask) [vr (some (nm 40 0)), vi (nI 14), vi (nI j), vi (nI 1)] [] 6 40 dL_areReferences_141 ml_L_184 st_L_ask okH_L_ask rfl (Nat.le_of_ble_eq_true rfl) rfl (Nat.le_of_ble_eq_true rfl) (d' := d - 1) (by omega) (by omega) (by omega) (q_logAt (k := j) (by omega) (j := 1) (by decide) B (by omega) C1 (by omega) (by omega) (by omega) (fun h2 C2 F2 => cont_ret ?_))
    rw [r_logAt] at C2
    rw [show dA [-20001, -20002] (o_logAt R (nI j) j (nI 1) 1) = nI qr from by rw [g1]; rfl]
    have W2 := RWn.ce (n := 6) W1 (F2 (nm 72 J) (by unfold nm; omega))
    have X2 := X1.ce (F2 (nm 73 J) (by unfold nm; omega))
    have G2 := G1.tr F2
    refine wp_istore (i := 7) (lv' := [(7, vi (nI qr)), (6, vi (nI j)), (5, vr (some (nm 73 J))), (4, vr (some (nm 72 J))), (3, vi (nI m0)), (2, vi (nI 1)), (0, vr (some (nm 40 0))), (1, vi (nI (RS_rn R)))]) dL_areReferences_144 (by decide) rfl ?_
    refine wp_aload_n (i := 0) dL_areReferences_146 rfl rfl ?_
    refine wp_bipush (nI 14) dL_areReferences_147 (by decide) ?_
    refine wp_iload (i := 6) dL_areReferences_149 rfl ?_
    refine wp_iconst (nI 0) dL_areReferences_151 (by decide) ?_
    refine wp_cSH (y' := m_L_ask) [vr (some (nm 40 0)), vi (nI 14), vi (nI j), vi (nI 0)] [] 6 40 dL_areReferences_152 ml_L_184 st_L_ask okH_L_ask rfl (Nat.le_of_ble_eq_true rfl) rfl (Nat.le_of_ble_eq_true rfl) (d' := d - 1) (by omega) (by omega) (by omega) (q_logAt (k := j) (by omega) (j := 0) (by decide) B (by omega) C2 (by omega) (by omega) (by omega) (fun h3 C3 F3 => cont_ret ?_))
    rw [r_logAt] at C3
    rw [show dA [-20001, -20002] (o_logAt R (nI j) j (nI 0) 0) = nI qa from by rw [g0]; rfl]
    have W3 := RWn.ce (n := 6) W2 (F3 (nm 72 J) (by unfold nm; omega))
    have X3 := X2.ce (F3 (nm 73 J) (by unfold nm; omega))
    have G3 := G2.tr F3
    refine wp_iload_n (i := 3) dL_areReferences_155 rfl rfl ?_
    refine wp_icmp_ltN 215 dL_areReferences_156 (by decide) (by omega) (by omega) (fun c_156 => absurd c_156 (by omega)) (fun c_156 => ?_)
    refine wp_aload_n (i := 0) dL_areReferences_159 rfl rfl ?_
    refine wp_bipush (nI 14) dL_areReferences_160 (by decide) ?_
    refine wp_iload (i := 6) dL_areReferences_162 rfl ?_
    refine wp_iconst (nI 0) dL_areReferences_164 (by decide) ?_
    refine wp_cSH (y' := m_L_ask) [vr (some (nm 40 0)), vi (nI 14), vi (nI j), vi (nI 0)] [] 6 40 dL_areReferences_165 ml_L_184 st_L_ask okH_L_ask rfl (Nat.le_of_ble_eq_true rfl) rfl (Nat.le_of_ble_eq_true rfl) (d' := d - 1) (by omega) (by omega) (by omega) (q_logAt (k := j) (by omega) (j := 0) (by decide) B (by omega) C3 (by omega) (by omega) (by omega) (fun h4 C4 F4 => cont_ret ?_))
    rw [r_logAt] at C4
    rw [show dA [-20001, -20002] (o_logAt R (nI j) j (nI 0) 0) = nI qa from by rw [g0]; rfl]
    have W4 := RWn.ce (n := 6) W3 (F4 (nm 72 J) (by unfold nm; omega))
    have X4 := X3.ce (F4 (nm 73 J) (by unfold nm; omega))
    have G4 := G3.tr F4
    refine wp_aload_n (i := 0) dL_areReferences_168 rfl rfl ?_
    refine wp_cV (y' := m_X11_moment) 12 [] [vi (nI qa)] 6 40 dL_areReferences_169 ml_L_214 im_X11_moment se_X11_moment (by decide) C4.hk ok_X11_moment rfl (Nat.le_of_ble_eq_true rfl) rfl (Nat.le_of_ble_eq_true rfl) (d' := d - 1) (by omega) (by omega) (by omega) (g_moment B (by omega) C4 (by omega) (by omega) (by omega) (fun h5 C5 F5 => cont_ret ?_))
    have W5 := RWn.ce (n := 6) W4 (F5 (nm 72 J) (by unfold nm; omega))
    have X5 := X4.ce (F5 (nm 73 J) (by unfold nm; omega))
    have G5 := G4.tr F5
    refine wp_icmp_gtN 215 dL_areReferences_172 (by decide) (by omega) (by omega) (fun c_172 => absurd c_172 (by omega)) (fun c_172 => ?_)
    refine wp_iload (i := 7) dL_areReferences_175 rfl ?_
    refine wp_if_ltN 215 dL_areReferences_177 (by decide) (by omega) (fun c_177 => absurd c_177 (id)) (fun c_177 => ?_)
    refine wp_iload (i := 7) dL_areReferences_180 rfl ?_
    refine wp_iload_n (i := 1) dL_areReferences_182 rfl rfl ?_
    refine wp_icmp_geN 215 dL_areReferences_183 (by decide) (by omega) (by omega) (fun c_183 => absurd c_183 (by omega)) (fun c_183 => ?_)
    refine wp_aload (i := 5) dL_areReferences_186 rfl ?_
    refine wp_iload (i := 7) dL_areReferences_188 rfl ?_
    refine wp_zaloadN 6 (bI (g qr)) dL_areReferences_190 X5.1 X5.2.1 (by omega) (by decide) (X5.2.2 qr (by omega)) ?_
    refine wp_if_eqB 211 dL_areReferences_191 (by decide) (fun c_191 => ?_) (fun c_191 => ?_)
    · skip
      refine wp_iconst (nI 1) dL_areReferences_211 (by decide) ?_
      refine wp_goto 216 dL_areReferences_212 (by decide) ?_
      refine wp_istore_n (i := 2) (lv' := [(2, vi (nI 1)), (7, vi (nI qr)), (6, vi (nI j)), (5, vr (some (nm 73 J))), (4, vr (some (nm 72 J))), (3, vi (nI m0)), (0, vr (some (nm 40 0))), (1, vi (nI (RS_rn R)))]) dL_areReferences_216 rfl (by decide) rfl ?_
      refine wp_aload_n (i := 0) dL_areReferences_217 rfl rfl ?_
      refine wp_bipush (nI 14) dL_areReferences_218 (by decide) ?_
      refine wp_iload (i := 6) dL_areReferences_220 rfl ?_
      refine wp_iconst (nI 0) dL_areReferences_222 (by decide) ?_
      refine wp_cSH (y' := m_L_ask) [vr (some (nm 40 0)), vi (nI 14), vi (nI j), vi (nI 0)] [] 6 40 dL_areReferences_223 ml_L_184 st_L_ask okH_L_ask rfl (Nat.le_of_ble_eq_true rfl) rfl (Nat.le_of_ble_eq_true rfl) (d' := d - 1) (by omega) (by omega) (by omega) (q_logAt (k := j) (by omega) (j := 0) (by decide) B (by omega) C5 (by omega) (by omega) (by omega) (fun h6 C6 F6 => cont_ret ?_))
      rw [r_logAt] at C6
      rw [show dA [-20001, -20002] (o_logAt R (nI j) j (nI 0) 0) = nI qa from by rw [g0]; rfl]
      have W6 := RWn.ce (n := 6) W5 (F6 (nm 72 J) (by unfold nm; omega))
      have X6 := X5.ce (F6 (nm 73 J) (by unfold nm; omega))
      have G6 := G5.tr F6
      refine wp_istore_n (i := 3) (lv' := [(3, vi (nI qa)), (2, vi (nI 1)), (7, vi (nI qr)), (6, vi (nI j)), (5, vr (some (nm 73 J))), (4, vr (some (nm 72 J))), (0, vr (some (nm 40 0))), (1, vi (nI (RS_rn R)))]) dL_areReferences_226 rfl (by decide) rfl ?_
      refine wp_aload (i := 4) dL_areReferences_227 rfl ?_
      refine wp_iload (i := 7) dL_areReferences_229 rfl ?_
      refine wp_aload_n (i := 0) dL_areReferences_231 rfl rfl ?_
      refine wp_bipush (nI 14) dL_areReferences_232 (by decide) ?_
      refine wp_iload (i := 6) dL_areReferences_234 rfl ?_
      refine wp_iconst (nI 3) dL_areReferences_236 (by decide) ?_
      refine wp_cSH (y' := m_L_ask) [vr (some (nm 40 0)), vi (nI 14), vi (nI j), vi (nI 3)] [vi (nI qr), vr (some (nm 72 J))] 6 40 dL_areReferences_237 ml_L_184 st_L_ask okH_L_ask rfl (Nat.le_of_ble_eq_true rfl) rfl (Nat.le_of_ble_eq_true rfl) (d' := d - 1) (by omega) (by omega) (by omega) (q_logAt (k := j) (by omega) (j := 3) (by decide) B (by omega) C6 (by omega) (by omega) (by omega) (fun h7 C7 F7 => cont_ret ?_))
      rw [r_logAt] at C7
      rw [show dA [-20001, -20002] (o_logAt R (nI j) j (nI 3) 3) = qc from by rw [g3]; rfl]
      have W7 := RWn.ce (n := 6) W6 (F7 (nm 72 J) (by unfold nm; omega))
      have X7 := X6.ce (F7 (nm 73 J) (by unfold nm; omega))
      have G7 := G6.tr F7
      refine wp_iastoreN 6 dL_areReferences_240 W7.1 W7.2.1 (by omega) (by decide) ?_
      have W8w := RWn.w (n := 6) (k := qr) (z := qc) W7
      have X8w := X7.ce (ce_w7 (i := 72) (J := J) (k := qr) (z := qc) (show nm 73 J ≠ nm 72 J by unfold nm; omega))
      have C8w := C7.law (fun a ha => ce_w7 (i := 72) (J := J) (k := qr) (z := qc) (show a ≠ nm 72 J by unfold nm; omega))
      have F8w := G7.w2 (k := qr) (z := qc)
      refine wp_aload (i := 5) dL_areReferences_241 rfl ?_
      refine wp_iload (i := 7) dL_areReferences_243 rfl ?_
      refine wp_iconst (nI 1) dL_areReferences_245 (by decide) ?_
      refine wp_zastoreN 6 dL_areReferences_246 X8w.1 X8w.2.1 (by omega) (by decide) (by decide) ?_
      have X9w := X8w.w (k := qr) (b := true)
      have W9w := RWn.ce (n := 6) W8w (ce_w7 (i := 73) (J := J) (k := qr) (z := bI true) (show nm 72 J ≠ nm 73 J by unfold nm; omega))
      have C9w := C8w.law (fun a ha => ce_w7 (i := 73) (J := J) (k := qr) (z := (bI true)) (show a ≠ nm 73 J by unfold nm; omega))
      have F9w := F8w.w3 (k := qr) (z := (bI true))
      refine wp_iincN (a := j) (lv' := [(6, vi (nI (j + 1))), (3, vi (nI qa)), (2, vi (nI 1)), (7, vi (nI qr)), (5, vr (some (nm 73 J))), (4, vr (some (nm 72 J))), (0, vr (some (nm 40 0))), (1, vi (nI (RS_rn R)))]) 1 dL_areReferences_247 rfl (by decide) (by decide) rfl ?_
      refine wp_goto 122 dL_areReferences_250 (by decide) ?_
      refine wp_sub [(6, vi (nI (j + 1))), (5, vr (some (nm 73 J))), (4, vr (some (nm 72 J))), (3, vi (nI qa)), (2, vi (nI 1)), (0, vr (some (nm 40 0))), (1, vi (nI (RS_rn R)))] (sb_cons (.head _) (sb_cons (.tail _ (.tail _ (.tail _ (.tail _ (.head _))))) (sb_cons (.tail _ (.tail _ (.tail _ (.tail _ (.tail _ (.head _)))))) (sb_cons (.tail _ (.head _)) (sb_cons (.tail _ (.tail _ (.head _))) (sb_cons (.tail _ (.tail _ (.tail _ (.tail _ (.tail _ (.tail _ (.head _))))))) (sb_cons (.tail _ (.tail _ (.tail _ (.tail _ (.tail _ (.tail _ (.tail _ (.head _)))))))) sb_nil))))))) ?_
      exact ih (j + 1) qa _ _ _ _ _ (by omega) C9w F9w W9w X9w hng ⟨fun z => absurd z (Nat.succ_ne_zero _), fun _ => hlast⟩ (by omega) (by omega)
    · skip
      refine wp_aload_n (i := 0) dL_areReferences_194 rfl rfl ?_
      refine wp_bipush (nI 14) dL_areReferences_195 (by decide) ?_
      refine wp_iload (i := 6) dL_areReferences_197 rfl ?_
      refine wp_iconst (nI 2) dL_areReferences_199 (by decide) ?_
      refine wp_cSH (y' := m_L_ask) [vr (some (nm 40 0)), vi (nI 14), vi (nI j), vi (nI 2)] [] 6 40 dL_areReferences_200 ml_L_184 st_L_ask okH_L_ask rfl (Nat.le_of_ble_eq_true rfl) rfl (Nat.le_of_ble_eq_true rfl) (d' := d - 1) (by omega) (by omega) (by omega) (q_logAt (k := j) (by omega) (j := 2) (by decide) B (by omega) C5 (by omega) (by omega) (by omega) (fun h10 C10 F10 => cont_ret ?_))
      rw [r_logAt] at C10
      rw [show dA [-20001, -20002] (o_logAt R (nI j) j (nI 2) 2) = qb from by rw [g2]; rfl]
      have W10 := RWn.ce (n := 6) W5 (F10 (nm 72 J) (by unfold nm; omega))
      have X10 := X5.ce (F10 (nm 73 J) (by unfold nm; omega))
      have G10 := G5.tr F10
      refine wp_aload (i := 4) dL_areReferences_203 rfl ?_
      refine wp_iload (i := 7) dL_areReferences_205 rfl ?_
      refine wp_ialoadN 6 (f qr) dL_areReferences_207 W10.1 W10.2.1 (by omega) (by decide) (W10.2.2 qr (by omega)) ?_
      refine wp_icmp_ne 215 dL_areReferences_208 (by decide) (fun c_208 => absurd c_208 (fun z => z (a3.trans (hg qr (by omega) c_191).symm))) (fun c_208 => ?_)
      refine wp_iconst (nI 1) dL_areReferences_211 (by decide) ?_
      refine wp_goto 216 dL_areReferences_212 (by decide) ?_
      refine wp_istore_n (i := 2) (lv' := [(2, vi (nI 1)), (7, vi (nI qr)), (6, vi (nI j)), (5, vr (some (nm 73 J))), (4, vr (some (nm 72 J))), (3, vi (nI m0)), (0, vr (some (nm 40 0))), (1, vi (nI (RS_rn R)))]) dL_areReferences_216 rfl (by decide) rfl ?_
      refine wp_aload_n (i := 0) dL_areReferences_217 rfl rfl ?_
      refine wp_bipush (nI 14) dL_areReferences_218 (by decide) ?_
      refine wp_iload (i := 6) dL_areReferences_220 rfl ?_
      refine wp_iconst (nI 0) dL_areReferences_222 (by decide) ?_
      refine wp_cSH (y' := m_L_ask) [vr (some (nm 40 0)), vi (nI 14), vi (nI j), vi (nI 0)] [] 6 40 dL_areReferences_223 ml_L_184 st_L_ask okH_L_ask rfl (Nat.le_of_ble_eq_true rfl) rfl (Nat.le_of_ble_eq_true rfl) (d' := d - 1) (by omega) (by omega) (by omega) (q_logAt (k := j) (by omega) (j := 0) (by decide) B (by omega) C10 (by omega) (by omega) (by omega) (fun h11 C11 F11 => cont_ret ?_))
      rw [r_logAt] at C11
      rw [show dA [-20001, -20002] (o_logAt R (nI j) j (nI 0) 0) = nI qa from by rw [g0]; rfl]
      have W11 := RWn.ce (n := 6) W10 (F11 (nm 72 J) (by unfold nm; omega))
      have X11 := X10.ce (F11 (nm 73 J) (by unfold nm; omega))
      have G11 := G10.tr F11
      refine wp_istore_n (i := 3) (lv' := [(3, vi (nI qa)), (2, vi (nI 1)), (7, vi (nI qr)), (6, vi (nI j)), (5, vr (some (nm 73 J))), (4, vr (some (nm 72 J))), (0, vr (some (nm 40 0))), (1, vi (nI (RS_rn R)))]) dL_areReferences_226 rfl (by decide) rfl ?_
      refine wp_aload (i := 4) dL_areReferences_227 rfl ?_
      refine wp_iload (i := 7) dL_areReferences_229 rfl ?_
      refine wp_aload_n (i := 0) dL_areReferences_231 rfl rfl ?_
      refine wp_bipush (nI 14) dL_areReferences_232 (by decide) ?_
      refine wp_iload (i := 6) dL_areReferences_234 rfl ?_
      refine wp_iconst (nI 3) dL_areReferences_236 (by decide) ?_
      refine wp_cSH (y' := m_L_ask) [vr (some (nm 40 0)), vi (nI 14), vi (nI j), vi (nI 3)] [vi (nI qr), vr (some (nm 72 J))] 6 40 dL_areReferences_237 ml_L_184 st_L_ask okH_L_ask rfl (Nat.le_of_ble_eq_true rfl) rfl (Nat.le_of_ble_eq_true rfl) (d' := d - 1) (by omega) (by omega) (by omega) (q_logAt (k := j) (by omega) (j := 3) (by decide) B (by omega) C11 (by omega) (by omega) (by omega) (fun h12 C12 F12 => cont_ret ?_))
      rw [r_logAt] at C12
      rw [show dA [-20001, -20002] (o_logAt R (nI j) j (nI 3) 3) = qc from by rw [g3]; rfl]
      have W12 := RWn.ce (n := 6) W11 (F12 (nm 72 J) (by unfold nm; omega))
      have X12 := X11.ce (F12 (nm 73 J) (by unfold nm; omega))
      have G12 := G11.tr F12
      refine wp_iastoreN 6 dL_areReferences_240 W12.1 W12.2.1 (by omega) (by decide) ?_
      have W13w := RWn.w (n := 6) (k := qr) (z := qc) W12
      have X13w := X12.ce (ce_w7 (i := 72) (J := J) (k := qr) (z := qc) (show nm 73 J ≠ nm 72 J by unfold nm; omega))
      have C13w := C12.law (fun a ha => ce_w7 (i := 72) (J := J) (k := qr) (z := qc) (show a ≠ nm 72 J by unfold nm; omega))
      have F13w := G12.w2 (k := qr) (z := qc)
      refine wp_aload (i := 5) dL_areReferences_241 rfl ?_
      refine wp_iload (i := 7) dL_areReferences_243 rfl ?_
      refine wp_iconst (nI 1) dL_areReferences_245 (by decide) ?_
      refine wp_zastoreN 6 dL_areReferences_246 X13w.1 X13w.2.1 (by omega) (by decide) (by decide) ?_
      have X14w := X13w.w (k := qr) (b := true)
      have W14w := RWn.ce (n := 6) W13w (ce_w7 (i := 73) (J := J) (k := qr) (z := bI true) (show nm 72 J ≠ nm 73 J by unfold nm; omega))
      have C14w := C13w.law (fun a ha => ce_w7 (i := 73) (J := J) (k := qr) (z := (bI true)) (show a ≠ nm 73 J by unfold nm; omega))
      have F14w := F13w.w3 (k := qr) (z := (bI true))
      refine wp_iincN (a := j) (lv' := [(6, vi (nI (j + 1))), (3, vi (nI qa)), (2, vi (nI 1)), (7, vi (nI qr)), (5, vr (some (nm 73 J))), (4, vr (some (nm 72 J))), (0, vr (some (nm 40 0))), (1, vi (nI (RS_rn R)))]) 1 dL_areReferences_247 rfl (by decide) (by decide) rfl ?_
      refine wp_goto 122 dL_areReferences_250 (by decide) ?_
      refine wp_sub [(6, vi (nI (j + 1))), (5, vr (some (nm 73 J))), (4, vr (some (nm 72 J))), (3, vi (nI qa)), (2, vi (nI 1)), (0, vr (some (nm 40 0))), (1, vi (nI (RS_rn R)))] (sb_cons (.head _) (sb_cons (.tail _ (.tail _ (.tail _ (.tail _ (.head _))))) (sb_cons (.tail _ (.tail _ (.tail _ (.tail _ (.tail _ (.head _)))))) (sb_cons (.tail _ (.head _)) (sb_cons (.tail _ (.tail _ (.head _))) (sb_cons (.tail _ (.tail _ (.tail _ (.tail _ (.tail _ (.tail _ (.head _))))))) (sb_cons (.tail _ (.tail _ (.tail _ (.tail _ (.tail _ (.tail _ (.tail _ (.head _)))))))) sb_nil))))))) ?_
      exact ih (j + 1) qa _ _ _ _ _ (by omega) C14w F14w W14w X14w hng ⟨fun z => absurd z (Nat.succ_ne_zero _), fun _ => hlast⟩ (by omega) (by omega)
set_option maxRecDepth 100000 in
set_option maxHeartbeats 4000000 in
theorem l_ar_m {G : GG} {d c n k J : Nat} {Q : Pst} {V : SV} {x : Nat → QIS} {R : RS} (B : PU c V n x R) (hc : c < 512) (HI : RI k R) (hd : 40 ≤ d) {h : Hp} {M bc bs : Nat} (C : CLS h V M n x R) (h72 : h_k h (nm 72 J) = 0) (h73 : h_k h (nm 73 J) = 0) (hlc : (RS_lg R).length ≤ 512) (hbc : 24800 ≤ bc) (hbs : 165000 ≤ bs) (hq : ∀ h', CLS h' V M n x R → FKJ J h h' → Q (oRet (vi (nI 1))) h') : WP G m_L_areReferences d 105 [(3, vi (nI (RS_rn R))), (2, vi (nI 1)), (0, vr (some (nm 40 0))), (1, vi (nI (RS_rn R)))] [] h bc bs Q := by
  refine wp_iconst (nI 0) dL_areReferences_105 (by decide) ?_
  refine wp_istore_n (i := 3) (lv' := [(3, vi (nI 0)), (2, vi (nI 1)), (0, vr (some (nm 40 0))), (1, vi (nI (RS_rn R)))]) dL_areReferences_106 rfl (by decide) rfl ?_
  refine wp_bipush (nI 6) dL_areReferences_107 (by decide) ?_
  refine wp_newarray 101 6 .int dL_areReferences_109 rfl rfl aw_int (nI_nn (by omega)) (nI_clamp (by omega)) (by omega) (by decide) pl_int (by omega) (by omega) (nm 72 J) h72 ?_
  refine wp_astore (i := 4) (lv' := [(4, vr (some (nm 72 J))), (3, vi (nI 0)), (2, vi (nI 1)), (0, vr (some (nm 40 0))), (1, vi (nI (RS_rn R)))]) dL_areReferences_111 (by decide) rfl ?_
  refine wp_bipush (nI 6) dL_areReferences_113 (by decide) ?_
  refine wp_newarray 102 6 .boolean dL_areReferences_115 rfl rfl aw_boolean (nI_nn (by omega)) (nI_clamp (by omega)) (by omega) (by decide) pl_boolean (by omega) (by omega) (nm 73 J) (show h_k (mk h (nm 72 J) 101 6) (nm 73 J) = 0 from (va_up_ne _ _ (by unfold nm; omega)).trans h73) ?_
  refine wp_astore (i := 5) (lv' := [(5, vr (some (nm 73 J))), (4, vr (some (nm 72 J))), (3, vi (nI 0)), (2, vi (nI 1)), (0, vr (some (nm 40 0))), (1, vi (nI (RS_rn R)))]) dL_areReferences_117 (by decide) rfl ?_
  refine wp_iconst (nI 0) dL_areReferences_119 (by decide) ?_
  refine wp_istore (i := 6) (lv' := [(6, vi (nI 0)), (5, vr (some (nm 73 J))), (4, vr (some (nm 72 J))), (3, vi (nI 0)), (2, vi (nI 1)), (0, vr (some (nm 40 0))), (1, vi (nI (RS_rn R)))]) dL_areReferences_120 (by decide) rfl ?_
  have W := RWn.ce (n := 6) (mk_R (h := h) (a := nm 72 J) (n := 6)) (ce_mk (a := nm 73 J) (kd := 102) (n := 6) (show nm 72 J ≠ nm 73 J by unfold nm; omega))
  have C2 := (C.law (fun a ha => ce_mk (a := nm 72 J) (kd := 101) (n := 6) (show a ≠ nm 72 J by unfold nm; omega))).law (fun a ha => ce_mk (a := nm 73 J) (kd := 102) (n := 6) (show a ≠ nm 73 J by unfold nm; omega))
  have F2 : FKJ J h (mk (mk h (nm 72 J) 101 6) (nm 73 J) 102 6) := fun a _ h2 h3 => (ce_mk h3).trans (ce_mk h2)
  refine wp_sub [(6, vi (nI 0)), (5, vr (some (nm 73 J))), (4, vr (some (nm 72 J))), (3, vi (nI 0)), (2, vi (nI 1)), (0, vr (some (nm 40 0))), (1, vi (nI (RS_rn R)))] (sb_cons (.head _) (sb_cons (.tail _ (.head _)) (sb_cons (.tail _ (.tail _ (.head _))) (sb_cons (.tail _ (.tail _ (.tail _ (.head _)))) (sb_cons (.tail _ (.tail _ (.tail _ (.tail _ (.head _))))) (sb_cons (.tail _ (.tail _ (.tail _ (.tail _ (.tail _ (.head _)))))) (sb_cons (.tail _ (.tail _ (.tail _ (.tail _ (.tail _ (.tail _ (.head _))))))) sb_nil))))))) ?_
  exact l_ar_2 B hc HI hd hq (RS_lg R).length 0 0 _ _ _ _ _ rfl C2 F2 W mk_B (fun r _ z => by cases z) ⟨fun _ => rfl, fun z => absurd z (Nat.lt_irrefl 0)⟩ (by omega) (by omega)
set_option maxRecDepth 100000 in
set_option maxHeartbeats 4000000 in
theorem c_L_are {G : GG} {d c n k J : Nat} {Q : Pst} {V : SV} {x : Nat → QIS} {R : RS} (B : PU c V n x R) (hc : c < 512) (HI : RI k R) (hd : 40 ≤ d) {h : Hp} {M bc bs : Nat} (C : CLS h V M n x R) (h72 : h_k h (nm 72 J) = 0) (h73 : h_k h (nm 73 J) = 0) (hlc : (RS_lg R).length ≤ 512) (hbc : 25000 ≤ bc) (hbs : 166000 ≤ bs) (hq : ∀ h', CLS h' V M n x R → FKJ J h h' → Q (oRet (vi (nI 1))) h') : WP G m_L_areReferences d 0 (aargs 0 [vr (some (nm 40 0)), vi (nI (RS_rn R))]) [] h bc bs Q := by
  refine wp_sub [(0, vr (some (nm 40 0))), (1, vi (nI (RS_rn R)))] (fun _ hz => hz) ?_
  have h6 : RS_rn R ≤ 6 := B.2.2.2.2.1.1.2.1
  have hmo : RS_mo R ≤ c := B.2.2.2.2.1.1.2.2.2.1
  have hlg : (RS_lg R).length ≤ 6 * c := B.2.2.2.2.1.1.2.2.2.2.2.1
  refine wp_aload_n (i := 0) dL_areReferences_0 rfl rfl ?_
  refine wp_bipush (nI 11) dL_areReferences_1 (by decide) ?_
  refine wp_iload_n (i := 1) dL_areReferences_3 rfl rfl ?_
  refine wp_iconst (nI 0) dL_areReferences_4 (by decide) ?_
  refine wp_cSH (y' := m_L_ask) [vr (some (nm 40 0)), vi (nI 11), vi (nI (RS_rn R)), vi (nI 0)] [] 6 40 dL_areReferences_5 ml_L_184 st_L_ask okH_L_ask rfl (Nat.le_of_ble_eq_true rfl) rfl (Nat.le_of_ble_eq_true rfl) (d' := d - 1) (by omega) (by omega) (by omega) (q_valueOf (r := RS_rn R) (by omega) B (by omega) C (by omega) (by omega) (by omega) (fun h1 C1 F1 => cont_ret ?_))
  rw [r_valueOf] at C1
  rw [show dA [-20001] (o_valueOf R (nI (RS_rn R)) (RS_rn R)) = -20001 from by rw [rx_valN h6]; rfl]
  refine wp_sipush (-20001) dL_areReferences_8 (by decide) ?_
  refine wp_icmp_ne 18 dL_areReferences_11 (by decide) (fun c_11 => absurd c_11 (fun z => z rfl)) (fun c_11 => ?_)
  refine wp_iconst (nI 1) dL_areReferences_14 (by decide) ?_
  refine wp_goto 19 dL_areReferences_15 (by decide) ?_
  refine wp_istore_n (i := 2) (lv' := [(2, vi (nI 1)), (0, vr (some (nm 40 0))), (1, vi (nI (RS_rn R)))]) dL_areReferences_19 rfl (by decide) rfl ?_
  refine wp_iconst (nI 0) dL_areReferences_20 (by decide) ?_
  refine wp_istore_n (i := 3) (lv' := [(3, vi (nI 0)), (2, vi (nI 1)), (0, vr (some (nm 40 0))), (1, vi (nI (RS_rn R)))]) dL_areReferences_21 rfl (by decide) rfl ?_
  refine wp_sub [(3, vi (nI 0)), (2, vi (nI 1)), (0, vr (some (nm 40 0))), (1, vi (nI (RS_rn R)))] (sb_cons (.head _) (sb_cons (.tail _ (.head _)) (sb_cons (.tail _ (.tail _ (.head _))) (sb_cons (.tail _ (.tail _ (.tail _ (.head _)))) sb_nil)))) ?_
  exact l_ar_1 B hc HI hd (h0 := h) (fun h9 bc9 bs9 b1 b2 C9 F9 => l_ar_m B hc HI hd C9 ((ce_k (F9 (nm 72 J) (by unfold nm; omega))).trans h72) ((ce_k (F9 (nm 73 J) (by unfold nm; omega))).trans h73) hlc b1 b2 (fun h8 C8 F8 => hq h8 C8 ((FKJ.of F9).tj F8))) (RS_rn R) 0 _ _ _ rfl C1 F1 (by omega) (by omega)
