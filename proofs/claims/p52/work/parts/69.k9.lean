/-! The class: beginAnew, act, send. -/
theorem SIM.upA {X : CS} {S : RS} (H : SIM X S) {r : Nat} {x : KAS} {y : OAS} (h1 : SA x y) : SIM (CS_uaa1 X r x) (RS_uaa1 S r y) := by
  obtain ⟨a1, a2, a3, a4, a5⟩ := H
  refine ⟨a1, a2, fun u hu => ?_, a4, a5⟩
  show SA (va_up (CS_aa X) r x u) (va_up (RS_aa S) r y u)
  rw [va_up_app, va_up_app]
  by_cases e : u = r
  · rw [if_pos e, if_pos e]; exact h1
  · rw [if_neg e, if_neg e]; exact a3 u hu
theorem KA.wr {h : Hp} {a : Nat} {x : KAS} (H : KA h a x) : WRw h (nm 66 a) (nm 67 a) (KA_cnt x) (KA_num x) := ⟨H.2.2.2.2.2.2.2.2.1, H.2.2.2.2.2.2.2.2.2.1, H.2.2.2.2.2.2.2.2.2.2.1, H.2.2.2.2.2.2.2.2.2.2.2.1, H.2.2.2.2.2.2.2.2.2.2.2.2⟩
abbrev KArow (x : KAS) (c : Nat) (f : Nat → Int32) : KAS := (KA_val x, KA_lo x, KA_hi x, KA_fe x, KA_er x, KA_fl x, c, f)
theorem WRo_n {r s i k : Nat} (h : ¬ ((r = s ∨ r = s + 1) ∧ i = k)) (hr : r < 128) (hs : s < 127) : ¬ WRo (nm s k) (nm (s + 1) k) (nm r i) := by unfold WRo nm; omega
theorem KA.row {h h' : Hp} {a c : Nat} {f : Nat → Int32} {x : KAS} (H : KA h a x) (W : WRw h' (nm 66 a) (nm 67 a) c f) (F : Fr h h' (WRo (nm 66 a) (nm 67 a))) : KA h' a (KArow x c f) := by
  have e : ce h' (nm 65 a) = ce h (nm 65 a) := F _ (WRo_n (by omega) (by decide) (by decide))
  obtain ⟨a1, a2, a3, a4, a5, a6, a7, a8, a9⟩ := H
  exact ⟨(ce_k e).trans a1, by rw [ce_I e]; exact a2, by rw [ce_I e]; exact a3, by rw [ce_I e]; exact a4, by rw [ce_I e]; exact a5, by rw [ce_R e]; exact a6, by rw [ce_I e]; exact a7, by rw [ce_I e]; exact a8, W.1, W.2.1, W.2.2.1, W.2.2.2.1, W.2.2.2.2⟩
theorem Fr.rowA {h h' : Hp} {a : Nat} (F : Fr h h' (WRo (nm 66 a) (nm 67 a))) : Fr h h' (CA a) := F.up (fun b hb => by rcases hb with e | e <;> (rw [e]; unfold CA nm; omega))
theorem Fr.rowW {h h' : Hp} {a : Nat} (F : Fr h h' (WRo (nm 63 a) (nm 64 a))) : Fr h h' (CWr a) := F.up (fun b hb => by rcases hb with e | e <;> (rw [e]; unfold CWr nm; omega))
/-- an agent after taking its first number -/
def kact (x : KAS) : KAS := if inB (KA_val x + KA_num x 0) (KA_lo x) (KA_hi x) = true then (KA_val x + KA_num x 0, KA_lo x, KA_hi x, KA_fe x, KA_er x, KA_fl x, KA_cnt x - 1, shF (KA_num x) (KA_cnt x))
  else (KA_val x, KA_lo x, KA_hi x, KA_fe x, KA_er x + 1, KA_fe x, KA_cnt x - 1, shF (KA_num x) (KA_cnt x))
theorem SA.act {x : KAS} {y : OAS} (H : SA x y) (h0 : (OA_row y).length ≠ 0) (hf : OA_fl y = false) : SA (kact x) (actd y ((OA_row y).headD 0) (OA_row y).tail) := by
  obtain ⟨a1, a2, a3, a4, a5, a6, a7, a8⟩ := H
  have hz : KA_num x 0 = (OA_row y).headD 0 := by rw [a8 0 (by omega)]; cases OA_row y <;> rfl
  have hl : KA_cnt x - 1 = (OA_row y).tail.length := by rw [a7, List.length_tail]
  have hn : ∀ j, j < (OA_row y).tail.length → shF (KA_num x) (KA_cnt x) j = (OA_row y).tail.getD j 0 := fun j hj => by
    rw [List.length_tail] at hj
    unfold shF
    rw [if_pos (by omega), a8 (j + 1) (by omega)]
    cases e : OA_row y
    · rw [e] at h0; exact absurd rfl h0
    · rfl
  unfold kact actd
  rw [a1, hz, a2, a3]
  split
  · exact ⟨rfl, rfl, rfl, a4, a5, a6.trans hf, hl, hn⟩
  · exact ⟨rfl, rfl, rfl, a4, congrArg (· + 1) a5, a4, hl, hn⟩
theorem SA.anew {x : KAS} {y : OAS} (H : SA x y) {v : Int32} : SA (KA_ufl (KA_uval x v) false) (OA_ufl (OA_uval y v) false) := ⟨rfl, H.2.1, H.2.2.1, H.2.2.2.1, H.2.2.2.2.1, rfl, H.2.2.2.2.2.2⟩
theorem getD_app {α : Type} {l : List α} {q z : α} {j : Nat} : (l ++ [q]).getD j z = if j < l.length then l.getD j z else if j = l.length then q else z := by
  rw [List.getD_eq_getElem?_getD, List.getD_eq_getElem?_getD]
  by_cases h1 : j < l.length
  · rw [if_pos h1, List.getElem?_append_left h1]
  · rw [if_neg h1, List.getElem?_append_right (by omega)]
    by_cases h2 : j = l.length
    · rw [if_pos h2, h2, Nat.sub_self]; rfl
    · rw [if_neg h2, List.getElem?_eq_none (by show 1 ≤ _; omega)]; rfl
theorem SA.take {x : KAS} {y : OAS} (H : SA x y) {z : Int32} : SA (KArow x (luC (KA_cnt x)) (luF (KA_cnt x) (KA_num x) z)) (OA_urow y (tkL (OA_row y) z)) := by
  obtain ⟨a1, a2, a3, a4, a5, a6, a7, a8⟩ := H
  refine ⟨a1, a2, a3, a4, a5, a6, ?_, fun j hj => ?_⟩
  · show luC (KA_cnt x) = (tkL (OA_row y) z).length
    unfold luC tkL
    rw [a7]
    split
    · rw [List.length_append]; rfl
    · rfl
  · show luF (KA_cnt x) (KA_num x) z j = (tkL (OA_row y) z).getD j 0
    have hj2 : j < (tkL (OA_row y) z).length := hj
    unfold tkL at hj2 ⊢
    unfold luF
    rw [a7]
    by_cases h : (OA_row y).length < 12
    · rw [if_pos h] at hj2
      rw [if_pos h, if_pos h, va_up_app, getD_app]
      rw [List.length_append] at hj2
      by_cases e : j = (OA_row y).length
      · rw [if_pos e, if_neg (by omega), if_pos e]
      · have : j < (OA_row y).length := by have : j < (OA_row y).length + 1 := hj2; omega
        rw [if_neg e, if_pos this]; exact a8 j this
    · rw [if_neg h] at hj2
      rw [if_neg h, if_neg h]; exact a8 j hj2
theorem toA_app {l : List (Nat × Int32)} {a b : Nat} {z : Int32} : toA (l ++ [(a, z)]) b = if a = b then toA l b ++ [z] else toA l b := by
  unfold toA
  rw [List.filter_append, List.map_append]
  by_cases e : a = b
  · rw [if_pos e]; subst e; simp
  · rw [if_neg e]; simp [e]
theorem SW.take {x : KWS} {l : List Int32} (H : SW x l) {z : Int32} : SW (luC (KW_cnt x), luF (KW_cnt x) (KW_num x) z) (l ++ [z]) := by
  obtain ⟨a1, a2⟩ := H
  have hl : (l ++ [z]).length = l.length + 1 := by rw [List.length_append]; rfl
  refine ⟨?_, fun j hj h12 => ?_⟩
  · show luC (KW_cnt x) = min (l ++ [z]).length 12
    unfold luC
    rw [a1, hl]; split <;> omega
  · show luF (KW_cnt x) (KW_num x) z j = (l ++ [z]).getD j 0
    rw [hl] at hj
    unfold luF
    rw [a1, getD_app]
    by_cases h : min l.length 12 < 12
    · rw [if_pos h, va_up_app]
      by_cases e : j = l.length
      · rw [if_pos (by omega), if_neg (by omega), if_pos e]
      · rw [if_neg (by omega), if_pos (by omega)]; exact a2 j (by omega) h12
    · rw [if_neg h, if_pos (by omega)]; exact a2 j (by omega) h12
theorem SIM.sent {X : CS} {S : RS} (H : SIM X S) {t a : Nat} (ht : t < 3) (ha : a < 4) (hop : OT_op (RS_tt S t) = true) {z : Int32} : SIM (CS_uww1 X (4 * t + a) (luC (KW_cnt (CS_ww X (4 * t + a))), luF (KW_cnt (CS_ww X (4 * t + a))) (KW_num (CS_ww X (4 * t + a))) z)) (RS_utt1 S t (OT_usq (RS_tt S t) (OT_sq (RS_tt S t) ++ [(a, z)]))) := by
  obtain ⟨a1, a2, a3, a4, a5⟩ := H
  refine ⟨a1, a2, a3, fun u hu => ?_, fun u b hu hb => ?_⟩
  · show ST (CS_tt X u) (va_up (RS_tt S) t _ u)
    rw [va_up_app]
    by_cases e : u = t
    · rw [if_pos e, e]
      obtain ⟨b1, b2, b3, b4, b5, b6⟩ := a4 t ht
      exact ⟨b1, b2, b3, b4, b5, fun q => absurd (hop.symm.trans q) (by decide)⟩
    · rw [if_neg e]; exact a4 u hu
  · show SW (va_up (CS_ww X) (4 * t + a) _ (4 * u + b)) (toA (OT_sq (va_up (RS_tt S) t _ u)) b)
    rw [va_up_app, va_up_app]
    by_cases e : u = t
    · rw [if_pos e]
      show SW _ (toA (OT_sq (RS_tt S t) ++ [(a, z)]) b)
      rw [toA_app]
      by_cases e2 : a = b
      · rw [if_pos (by omega), if_pos e2, ← e2]; exact (a5 t a ht ha).take
      · rw [if_neg (by omega), if_neg e2, e]; exact a5 t b ht hb
    · rw [if_neg (by omega), if_neg e]; exact a5 u b hu hb
set_option maxRecDepth 100000 in
set_option maxHeartbeats 4000000 in
theorem c_X0_takeNumber {G : GG} {d bc bs : Nat} {h : Hp} {Q : Pst} {a : Nat} {x : KAS} (hO : KA h a x) (h1 : 1 ≤ KA_cnt x) (hc : KA_cnt x ≤ 12) (hd : 3 ≤ d) (hq : ∀ h', KA h' a (kact x) → Fr h h' (CA a) → Q oVoid h') : WP G m_X0_takeNumber d 0 (aargs 0 [vr (some (nm 65 a))]) [] h bc bs Q := by
  have hF : Fr h h (CA a) := Fr.rf
  refine wp_sub [(0, vr (some (nm 65 a)))] (fun _ hz => hz) ?_
  refine wp_aload_n (i := 0) dX0_takeNumber_0 rfl rfl ?_
  refine wp_get 3 0 (vi (KA_val x)) dX0_takeNumber_1 hO.k0 (by decide) (by decide) fl_X0_24 (congrArg (fun z => toV (vi z)) (hO.f_val)) ?_
  refine wp_aload_n (i := 0) dX0_takeNumber_4 rfl rfl ?_
  refine wp_get 3 4 (vr (some (nm 66 a))) dX0_takeNumber_5 hO.k0 (by decide) (by decide) fl_X0_10 (congrArg (fun z => toV (vr z)) (hO.r5_4)) ?_
  refine wp_cV (y' := m_X10_takeFirst) 11 [] [vi (KA_val x)] 0 0 dX0_takeNumber_8 ml_X0_36 im_X10_takeFirst se_X10_takeFirst (by decide) hO.k8 ok_X10_takeFirst rfl (Nat.le_of_ble_eq_true rfl) rfl (Nat.le_of_ble_eq_true rfl) (d' := d - 1) (by omega) (Nat.zero_le _) (Nat.zero_le _) (c_X10_takeFirst hO.wr h1 hc (by omega) (fun h1 W1 F1 => cont_ret ?_))
  have hO1 : KA h1 a (KA_val x, KA_lo x, KA_hi x, KA_fe x, KA_er x, KA_fl x, KA_cnt x - 1, shF (KA_num x) (KA_cnt x)) := hO.row W1 F1
  have hF1 : Fr h h1 (CA a) := F1.rowA
  refine wp_iadd dX0_takeNumber_11 ?_
  refine wp_topi (fun x_12 e_12 => ?_)
  refine wp_istore_n (i := 1) (lv' := [(1, vi x_12), (0, vr (some (nm 65 a)))]) dX0_takeNumber_12 rfl (by decide) rfl ?_
  subst e_12
  refine wp_iload_n (i := 1) dX0_takeNumber_13 rfl rfl ?_
  refine wp_aload_n (i := 0) dX0_takeNumber_14 rfl rfl ?_
  refine wp_get 3 1 (vi (KA_lo x)) dX0_takeNumber_15 hO1.k0 (by decide) (by decide) fl_X0_27 (congrArg (fun z => toV (vi z)) (hO1.f_lo)) ?_
  refine wp_aload_n (i := 0) dX0_takeNumber_18 rfl rfl ?_
  refine wp_get 3 2 (vi (KA_hi x)) dX0_takeNumber_19 hO1.k0 (by decide) (by decide) fl_X0_30 (congrArg (fun z => toV (vi z)) (hO1.f_hi)) ?_
  refine wp_cSN (y' := m_X11_isWithin) [vi (KA_val x + KA_num x 0), vi (KA_lo x), vi (KA_hi x)] [] 0 0 dX0_takeNumber_22 mn_X0_40 st_X11_isWithin ok_X11_isWithin rfl (Nat.le_of_ble_eq_true rfl) rfl (Nat.le_of_ble_eq_true rfl) (d' := d - 1) (by omega) (Nat.zero_le _) (Nat.zero_le _) (c_X11_isWithin (KA_val x + KA_num x 0) (KA_lo x) (KA_hi x) (cont_ret ?_))
  refine wp_if_eqB 34 dX0_takeNumber_25 (by decide) (fun c_25 => ?_) (fun c_25 => ?_)
  · skip
    refine wp_aload_n (i := 0) dX0_takeNumber_34 rfl rfl ?_
    refine wp_dup dX0_takeNumber_35 ?_
    refine wp_get 3 5 (vi (nI (KA_er x))) dX0_takeNumber_36 hO1.k0 (by decide) (by decide) fl_X0_16 (congrArg (fun z => toV (vi z)) (hO1.f_er)) ?_
    refine wp_iconst (nI 1) dX0_takeNumber_39 (by decide) ?_
    refine wp_iaddN dX0_takeNumber_40 ?_
    refine wp_putI 3 5 dX0_takeNumber_41 hO1.k0 (by decide) (by decide) (by decide) fl_X0_16 rfl (fun _ _ => rfl) rfl rfl ?_
    have hO1 := hO1.wer (v := ((KA_er x) + 1))
    have hF2 := hF1.wI (b := nm 65 a) (k := 5) (x := nI (((KA_er x) + 1))) (by unfold CA nm; omega)
    refine wp_aload_n (i := 0) dX0_takeNumber_44 rfl rfl ?_
    refine wp_aload_n (i := 0) dX0_takeNumber_45 rfl rfl ?_
    refine wp_get 3 3 (vi (bI (KA_fe x))) dX0_takeNumber_46 hO1.k0 (by decide) (by decide) fl_X0_33 (congrArg (fun z => toV (vi z)) (hO1.f_fe)) ?_
    refine wp_putI 3 6 dX0_takeNumber_49 hO1.k0 (by decide) (by decide) (by decide) fl_X0_20 rfl (fun _ _ => rfl) (by generalize KA_fe x = b; cases b <;> rfl) (by generalize KA_fe x = b; cases b <;> rfl) ?_
    have hO3 := hO1.wfl (v := (KA_fe x))
    have hF4 := hF2.wI (b := nm 65 a) (k := 6) (x := bI ((KA_fe x))) (by unfold CA nm; omega)
    refine wp_return dX0_takeNumber_52 rfl ?_
    have hb : inB (KA_val x + KA_num x 0) (KA_lo x) (KA_hi x) = false := c_25
    rw [show kact x = (KA_val x, KA_lo x, KA_hi x, KA_fe x, KA_er x + 1, KA_fe x, KA_cnt x - 1, shF (KA_num x) (KA_cnt x)) from if_neg (by rw [hb]; decide)] at hq
    exact hq _ hO3 hF4
  · skip
    refine wp_aload_n (i := 0) dX0_takeNumber_28 rfl rfl ?_
    refine wp_iload_n (i := 1) dX0_takeNumber_29 rfl rfl ?_
    refine wp_putI 3 0 dX0_takeNumber_30 hO1.k0 (by decide) (by decide) (by decide) fl_X0_24 rfl (fun _ _ => rfl) rfl rfl ?_
    have hO5 := hO1.wval (v := KA_val x + KA_num x 0)
    have hF6 := hF1.wI (b := nm 65 a) (k := 0) (x := KA_val x + KA_num x 0) (by unfold CA nm; omega)
    refine wp_return dX0_takeNumber_33 rfl ?_
    have hb : inB (KA_val x + KA_num x 0) (KA_lo x) (KA_hi x) = true := c_25
    rw [show kact x = (KA_val x + KA_num x 0, KA_lo x, KA_hi x, KA_fe x, KA_er x, KA_fl x, KA_cnt x - 1, shF (KA_num x) (KA_cnt x)) from if_pos hb] at hq
    exact hq _ hO5 hF6
set_option maxRecDepth 100000 in
set_option maxHeartbeats 4000000 in
theorem c_X11_beginAnew {G : GG} {d bc bs : Nat} {h : Hp} {Q : Pst} {X : CS} {S : RS} (hR : CR h X) (hs : SIM X S) {n : Nat} (hB : RB n S) {w : Int32} {a : Nat} (hw : ixB w (RS_an S) = true → w = nI a ∧ a < RS_an S) {x : Int32} (hd : 9 ≤ d) (hbc : 6 ≤ bc) (hbs : 40 ≤ bs) (hq : KO Q h ["java/lang/IndexOutOfBoundsException", "java/lang/IllegalArgumentException", "java/lang/IllegalStateException"] (o_beginAnew S w a x)) : WP G m_X11_beginAnew d 0 (aargs 0 [vr (some (nm 40 0)), vi w, vi x]) [] h bc bs Q := by
  have hG := FRK.rf (h := h)
  have hrn : CS_rn X = RS_rn S := hs.1.1
  have han : CS_an X = RS_an S := hs.1.2.1
  have hbi : CS_bi X = RS_bg S := hs.1.2.2.1
  have hpr : CS_pr X = RS_mo S := hs.1.2.2.2.1
  have hlg : CS_lg X = RS_lg S := hs.1.2.2.2.2
  have hb0 := hB.1
  refine wp_sub [(0, vr (some (nm 40 0))), (1, vi w), (2, vi x)] (fun _ hz => hz) ?_
  refine wp_aload_n (i := 0) dX11_beginAnew_0 rfl rfl ?_
  refine wp_iload_n (i := 1) dX11_beginAnew_1 rfl rfl ?_
  refine wp_cV (y' := m_X11_agentNumbered) 12 [vi w] [] 1 6 dX11_beginAnew_2 ml_X11_454 im_X11_agentNumbered se_X11_agentNumbered (by decide) hR.mk ok_X11_agentNumbered rfl (Nat.le_of_ble_eq_true rfl) rfl (Nat.le_of_ble_eq_true rfl) (d' := d - 1) (by omega) (by omega) (by omega) (c_X11_agentNumbered hR (by omega) (v := w) (t := a) (fun z => by rw [han] at z ⊢; exact hw z) (by omega) (by omega) (by omega) (fun g_a => cont_thr rfl ?_) (fun b_a ew ha => cont_ret ?_))
  · rw [han] at g_a
    exact hq.1 0 _ (congrArg (fun z => z.1) (show o_beginAnew S w a x = (nI 1, nI 0, S) from by unfold o_beginAnew; rw [if_pos (by rw [g_a]; rfl)])) rfl
  · subst ew
    rw [han] at b_a
    have ha0 : a < RS_an S := by omega
    have hsa := hs.2.2.1 a ha0
    have hb3 := hB.2.2.2 a ha0
    refine wp_astore_n (i := 3) (lv' := [(3, vr (some (nm 65 a))), (0, vr (some (nm 40 0))), (1, vi (nI a)), (2, vi x)]) dX11_beginAnew_5 rfl (by decide) rfl ?_
    refine wp_iload_n (i := 2) dX11_beginAnew_6 rfl rfl ?_
    refine wp_aload_n (i := 3) dX11_beginAnew_7 rfl rfl ?_
    refine wp_get 3 1 (vi (OA_lo (RS_aa S a))) dX11_beginAnew_8 (hR.a (r := a) ha).k0 (by decide) (by decide) fl_X11_485 (congrArg (fun z => toV (vi z)) ((hR.a (r := a) ha).f_lo.trans hsa.2.1)) ?_
    refine wp_aload_n (i := 3) dX11_beginAnew_11 rfl rfl ?_
    refine wp_get 3 2 (vi (OA_hi (RS_aa S a))) dX11_beginAnew_12 (hR.a (r := a) ha).k0 (by decide) (by decide) fl_X11_488 (congrArg (fun z => toV (vi z)) ((hR.a (r := a) ha).f_hi.trans hsa.2.2.1)) ?_
    refine wp_cS (y' := m_X11_isWithin) [vi x, vi (OA_lo (RS_aa S a)), vi (OA_hi (RS_aa S a))] [] 0 0 dX11_beginAnew_15 ml_X11_256 st_X11_isWithin ok_X11_isWithin rfl (Nat.le_of_ble_eq_true rfl) rfl (Nat.le_of_ble_eq_true rfl) (d' := d - 1) (by omega) (Nat.zero_le _) (Nat.zero_le _) (c_X11_isWithin x (OA_lo (RS_aa S a)) (OA_hi (RS_aa S a)) (cont_ret ?_))
    refine wp_if_neB 32 dX11_beginAnew_18 (by decide) (fun c_18 => ?_) (fun c_18 => ?_)
    · skip
      refine wp_aload_n (i := 3) dX11_beginAnew_32 rfl rfl ?_
      refine wp_get 3 6 (vi (bI (KA_fl (CS_aa X a)))) dX11_beginAnew_33 (hR.a (r := a) ha).k0 (by decide) (by decide) fl_X11_474 (congrArg (fun z => toV (vi z)) ((hR.a (r := a) ha).f_fl)) ?_
      refine wp_if_neB 50 dX11_beginAnew_36 (by decide) (fun c_36 => ?_) (fun c_36 => ?_)
      · skip
        refine wp_aload_n (i := 3) dX11_beginAnew_50 rfl rfl ?_
        refine wp_get 3 0 (vi (OA_val (RS_aa S a))) dX11_beginAnew_51 (hR.a (r := a) ha).k0 (by decide) (by decide) fl_X11_482 (congrArg (fun z => toV (vi z)) ((hR.a (r := a) ha).f_val.trans hsa.1)) ?_
        refine wp_topi (fun x_54 e_54 => ?_)
        refine wp_istore (i := 4) (lv' := [(4, vi x_54), (3, vr (some (nm 65 a))), (0, vr (some (nm 40 0))), (1, vi (nI a)), (2, vi x)]) dX11_beginAnew_54 (by decide) rfl ?_
        refine wp_aload_n (i := 3) dX11_beginAnew_56 rfl rfl ?_
        refine wp_iload_n (i := 2) dX11_beginAnew_57 rfl rfl ?_
        refine wp_putI 3 0 dX11_beginAnew_58 (hR.a (r := a) ha).k0 (by decide) (by decide) (by decide) fl_X11_482 rfl (fun _ _ => rfl) rfl rfl ?_
        have hO1 := (hR.a (r := a) ha)
        have hF2 := hO1.rfA
        have hO3 := hO1.wval (v := x)
        have hF4 := hF2.wI (b := nm 65 a) (k := 0) (x := x) (by unfold CA nm; omega)
        refine wp_aload_n (i := 3) dX11_beginAnew_61 rfl rfl ?_
        refine wp_iconst (nI 0) dX11_beginAnew_62 (by decide) ?_
        refine wp_putI 3 6 dX11_beginAnew_63 hO3.k0 (by decide) (by decide) (by decide) fl_X11_474 rfl (fun _ _ => rfl) rfl rfl ?_
        have hO5 := hO3.wfl (v := false)
        have hF6 := hF4.wI (b := nm 65 a) (k := 6) (x := bI (false)) (by unfold CA nm; omega)
        refine wp_iload (i := 4) dX11_beginAnew_66 rfl ?_
        refine wp_ireturn dX11_beginAnew_68 rfl ?_
        subst e_54
        have hR7 := hR.upA ha hF6 hO5
        have hG8 := hG.tr (FRK.oA hF6)
        rw [show o_beginAnew S (nI a) a x = (nI 0, OA_val (RS_aa S a), RS_uaa1 S a (OA_ufl (OA_uval (RS_aa S a) x) false)) from by unfold o_beginAnew; rw [if_neg (by rw [b_a]; decide), if_neg (by rw [c_18]; decide), if_neg (by rw [← hsa.2.2.2.2.2.1, c_36]; decide)]] at hq
        exact hq.2 rfl _ _ hR7 (hs.upA hsa.anew) hG8
      · skip
        refine wp_throw dX11_beginAnew_39 dX11_beginAnew_42 dX11_beginAnew_43 dX11_beginAnew_46 dX11_beginAnew_49 th_320 sr_X11_493 rfl (by omega) (by omega) (by omega) ?_
        have e18 := c_18
        exact hq.1 2 _ (congrArg (fun z => z.1) (show o_beginAnew S (nI a) a x = (nI 3, nI 0, S) from by unfold o_beginAnew; rw [if_neg (by rw [b_a]; decide), if_neg (by rw [c_18]; decide), if_pos (hsa.2.2.2.2.2.1.symm.trans c_36)])) rfl
    · skip
      refine wp_throw dX11_beginAnew_21 dX11_beginAnew_24 dX11_beginAnew_25 dX11_beginAnew_28 dX11_beginAnew_31 th_189 sr_X11_491 rfl (by omega) (by omega) (by omega) ?_
      exact hq.1 1 _ (congrArg (fun z => z.1) (show o_beginAnew S (nI a) a x = (nI 2, nI 0, S) from by unfold o_beginAnew; rw [if_neg (by rw [b_a]; decide), if_pos c_18])) rfl
theorem CS_aa_s {S : CS} {t : Nat} {x : KAS} : CS_aa (CS_uaa1 S t x) t = x := va_up_self _ _ _
set_option maxRecDepth 100000 in
set_option maxHeartbeats 4000000 in
theorem c_X11_act {G : GG} {d bc bs : Nat} {h : Hp} {Q : Pst} {X : CS} {S : RS} (hR : CR h X) (hs : SIM X S) {n : Nat} (hB : RB n S) {w : Int32} {a : Nat} (hw : ixB w (RS_an S) = true → w = nI a ∧ a < RS_an S) (hd : 9 ≤ d) (hbc : 6 ≤ bc) (hbs : 40 ≤ bs) (hq : KO Q h ["java/lang/IndexOutOfBoundsException", "java/util/NoSuchElementException", "java/lang/IllegalStateException"] (o_act S w a)) : WP G m_X11_act d 0 (aargs 0 [vr (some (nm 40 0)), vi w]) [] h bc bs Q := by
  have hG := FRK.rf (h := h)
  have hrn : CS_rn X = RS_rn S := hs.1.1
  have han : CS_an X = RS_an S := hs.1.2.1
  have hbi : CS_bi X = RS_bg S := hs.1.2.2.1
  have hpr : CS_pr X = RS_mo S := hs.1.2.2.2.1
  have hlg : CS_lg X = RS_lg S := hs.1.2.2.2.2
  have hb0 := hB.1
  refine wp_sub [(0, vr (some (nm 40 0))), (1, vi w)] (fun _ hz => hz) ?_
  refine wp_aload_n (i := 0) dX11_act_0 rfl rfl ?_
  refine wp_iload_n (i := 1) dX11_act_1 rfl rfl ?_
  refine wp_cV (y' := m_X11_agentNumbered) 12 [vi w] [] 1 6 dX11_act_2 ml_X11_454 im_X11_agentNumbered se_X11_agentNumbered (by decide) hR.mk ok_X11_agentNumbered rfl (Nat.le_of_ble_eq_true rfl) rfl (Nat.le_of_ble_eq_true rfl) (d' := d - 1) (by omega) (by omega) (by omega) (c_X11_agentNumbered hR (by omega) (v := w) (t := a) (fun z => by rw [han] at z ⊢; exact hw z) (by omega) (by omega) (by omega) (fun g_a => cont_thr rfl ?_) (fun b_a ew ha => cont_ret ?_))
  · rw [han] at g_a
    exact hq.1 0 _ (congrArg (fun z => z.1) (show o_act S w a = (nI 1, nI 0, S) from by unfold o_act; rw [if_pos (by rw [g_a]; rfl)])) rfl
  · subst ew
    rw [han] at b_a
    have ha0 : a < RS_an S := by omega
    have hsa := hs.2.2.1 a ha0
    have hb3 := hB.2.2.2 a ha0
    refine wp_astore_n (i := 2) (lv' := [(2, vr (some (nm 65 a))), (0, vr (some (nm 40 0))), (1, vi (nI a))]) dX11_act_5 rfl (by decide) rfl ?_
    refine wp_aload_n (i := 2) dX11_act_6 rfl rfl ?_
    refine wp_get 3 4 (vr (some (nm 66 a))) dX11_act_7 (hR.a (r := a) ha).k0 (by decide) (by decide) fl_X11_458 (congrArg (fun z => toV (vr z)) ((hR.a (r := a) ha).r5_4)) ?_
    refine wp_get 11 1 (vi (nI (KA_cnt (CS_aa X a)))) dX11_act_10 (hR.a (r := a) ha).k8 (by decide) (by decide) fl_X11_471 (congrArg (fun z => toV (vi z)) ((hR.a (r := a) ha).f_cnt)) ?_
    refine wp_if_neN 27 dX11_act_13 (by decide) (by have := hsa.2.2.2.2.2.2.1; omega) (fun c_13 => ?_) (fun c_13 => ?_)
    · skip
      refine wp_aload_n (i := 2) dX11_act_27 rfl rfl ?_
      refine wp_get 3 6 (vi (bI (KA_fl (CS_aa X a)))) dX11_act_28 (hR.a (r := a) ha).k0 (by decide) (by decide) fl_X11_474 (congrArg (fun z => toV (vi z)) ((hR.a (r := a) ha).f_fl)) ?_
      refine wp_if_eqB 45 dX11_act_31 (by decide) (fun c_31 => ?_) (fun c_31 => ?_)
      · skip
        have hcn := hsa.2.2.2.2.2.2.1
        have hfl : OA_fl (RS_aa S a) = false := hsa.2.2.2.2.2.1.symm.trans c_31
        have hact := hsa.act (by omega) hfl
        refine wp_aload_n (i := 2) dX11_act_45 rfl rfl ?_
        refine wp_cV (y' := m_X0_takeNumber) 3 [] [] 0 0 dX11_act_46 ml_X11_479 im_X0_takeNumber se_X0_takeNumber (by decide) (hR.a (r := a) ha).k0 ok_X0_takeNumber rfl (Nat.le_of_ble_eq_true rfl) rfl (Nat.le_of_ble_eq_true rfl) (d' := d - 1) (by omega) (Nat.zero_le _) (Nat.zero_le _) (c_X0_takeNumber (hR.a (r := a) ha) (by omega) (by rw [hsa.2.2.2.2.2.2.1]; omega) (by omega) (fun h_hR1 O_hR1 F_hR1 => cont_void ?_))
        have hR1 := hR.upA ha F_hR1 O_hR1
        have hG2 := hG.tr (FRK.oA F_hR1)
        refine wp_aload_n (i := 2) dX11_act_49 rfl rfl ?_
        refine wp_get 3 0 (vi (OA_val (actd (RS_aa S a) ((OA_row (RS_aa S a)).headD 0) (OA_row (RS_aa S a)).tail))) dX11_act_50 (hR1.a (r := a) ha).k0 (by decide) (by decide) fl_X11_482 (congrArg (fun z => toV (vi z)) ((hR1.a (r := a) ha).f_val.trans ((congrArg KA_val CS_aa_s).trans hact.1))) ?_
        refine wp_ireturn dX11_act_53 rfl ?_
        rw [show o_act S (nI a) a = (nI 0, OA_val (actd (RS_aa S a) ((OA_row (RS_aa S a)).headD 0) (OA_row (RS_aa S a)).tail), RS_uaa1 S a (actd (RS_aa S a) ((OA_row (RS_aa S a)).headD 0) (OA_row (RS_aa S a)).tail)) from by unfold o_act; rw [if_neg (by rw [b_a]; decide), if_neg (by omega), if_neg (by rw [hfl]; decide)]] at hq
        exact hq.2 rfl _ _ hR1 (hs.upA hact) hG2
      · skip
        refine wp_throw dX11_act_34 dX11_act_37 dX11_act_38 dX11_act_41 dX11_act_44 th_320 sr_X11_477 rfl (by omega) (by omega) (by omega) ?_
        have hcn := hsa.2.2.2.2.2.2.1
        exact hq.1 2 _ (congrArg (fun z => z.1) (show o_act S (nI a) a = (nI 3, nI 0, S) from by unfold o_act; rw [if_neg (by rw [b_a]; decide), if_neg (by omega), if_pos (hsa.2.2.2.2.2.1.symm.trans c_31)])) rfl
    · skip
      refine wp_throwN dX11_act_16 dX11_act_19 dX11_act_20 dX11_act_23 dX11_act_26 rfl sr_X11_472 rfl (by omega) (by omega) (by omega) ?_
      have hcn := hsa.2.2.2.2.2.2.1
      exact hq.1 1 _ (congrArg (fun z => z.1) (show o_act S (nI a) a = (nI 2, nI 0, S) from by unfold o_act; rw [if_neg (by rw [b_a]; decide), if_pos (by omega)])) rfl
