/-! The class: what was sent is delivered. -/
/-- the row after all of these have come, as far as there is room -/
def tkA (row : List Int32) : List Int32 → List Int32
  | [] => row
  | z :: l => tkA (tkL row z) l
theorem tkL_le {row : List Int32} {z : Int32} (h : row.length ≤ 12) : (tkL row z).length ≤ 12 := by
  unfold tkL; split
  · rw [List.length_append]; show row.length + 1 ≤ 12; omega
  · exact h
theorem tkA_full {row : List Int32} (h : 12 ≤ row.length) : ∀ l, tkA row l = row := by
  intro l
  induction l with
  | nil => rfl
  | cons z l ih => rw [tkA, show tkL row z = row from if_neg (by omega)]; exact ih
theorem tkA_app : ∀ (l : List Int32) {row l2 : List Int32}, tkA row (l ++ l2) = tkA (tkA row l) l2 := by
  intro l
  induction l with
  | nil => intro row l2; rfl
  | cons z l ih => intro row l2; exact ih
theorem tkA_len : ∀ (l : List Int32) {row : List Int32}, min (row.length + l.length) 12 ≤ (tkA row l).length := by
  intro l
  induction l with
  | nil => intro row; show _ ≤ row.length; exact Nat.le_trans (Nat.min_le_left _ _) (by show row.length + 0 ≤ _; omega)
  | cons z l ih =>
    intro row
    rw [tkA]
    refine Nat.le_trans ?_ ih
    have : row.length + (z :: l).length ≤ (tkL row z).length + l.length ∨ 12 ≤ (tkL row z).length := by
      unfold tkL; split
      · left; rw [List.length_append]; show row.length + (l.length + 1) ≤ row.length + 1 + l.length; omega
      · right; omega
    omega
theorem tkA_12 {row l : List Int32} : tkA row (l.take (min l.length 12)) = tkA row l := by
  by_cases h : l.length ≤ 12
  · rw [Nat.min_eq_left h, List.take_length]
  · rw [Nat.min_eq_right (by omega)]
    have e : tkA row l = tkA (tkA row (l.take 12)) (l.drop 12) := by rw [← tkA_app, List.take_append_drop]
    rw [e]
    have hl := tkA_len (l.take 12) (row := row)
    rw [List.length_take] at hl
    exact (tkA_full (by omega) _).symm
theorem dlF_at {a : Nat} : ∀ (l : List (Nat × Int32)) (A : Nat → OAS), dlF l A a = OA_urow (A a) (tkA (OA_row (A a)) (toA l a)) := by
  intro l
  induction l with
  | nil => intro A; rfl
  | cons q l ih =>
    intro A
    rw [dlF, ih, va_up_app]
    have e : toA (q :: l) a = if q.1 = a then q.2 :: toA l a else toA l a := by
      unfold toA
      by_cases z : q.1 = a
      · rw [if_pos z, List.filter_cons_of_pos (by simp [z])]; rfl
      · rw [if_neg z, List.filter_cons_of_neg (by simp [z])]
    rw [e]
    by_cases z : a = q.1
    · rw [if_pos z, if_pos z.symm, ← z]; rfl
    · rw [if_neg z, if_neg (fun y => z y.symm)]
theorem SA.all {x : KAS} {y : OAS} (H : SA x y) {g : Nat → Int32} {l : List Int32} (hg : ∀ j, j < l.length → j < 12 → g j = l.getD j 0) : ∀ k, k ≤ l.length → k ≤ 12 → SA (KArow x (laZ (KA_cnt x) (KA_num x) g k).1 (laZ (KA_cnt x) (KA_num x) g k).2) (OA_urow y (tkA (OA_row y) (l.take k))) := by
  intro k
  induction k with
  | zero => intro _ _; exact H
  | succ k ih =>
    intro h1 h2
    have e : l.take (k + 1) = l.take k ++ [g k] := by
      rw [hg k (by omega) (by omega), List.getD_eq_getElem?_getD, List.getElem?_eq_getElem (by omega)]
      exact (List.take_append_getElem (by omega)).symm
    rw [e, tkA_app]
    exact (ih (by omega) (by omega)).take (z := g k)
/-- the agents before the k-th have what t sent -/
def dlS (S : RS) (t k : Nat) : RS := RS_uaa S (fun a => if a < k then dlF (OT_sq (RS_tt S t)) (RS_aa S) a else RS_aa S a)
theorem dlS_0 {S : RS} {t : Nat} : dlS S t 0 = S := by
  have : (fun a => if a < 0 then dlF (OT_sq (RS_tt S t)) (RS_aa S) a else RS_aa S a) = RS_aa S := funext fun a => if_neg (by omega)
  unfold dlS RS_uaa; rw [this]
theorem dlS_s {S : RS} {t k : Nat} : RS_uaa1 (dlS S t k) k (dlF (OT_sq (RS_tt S t)) (RS_aa S) k) = dlS S t (k + 1) := by
  have : va_up (fun a => if a < k then dlF (OT_sq (RS_tt S t)) (RS_aa S) a else RS_aa S a) k (dlF (OT_sq (RS_tt S t)) (RS_aa S) k) = fun a => if a < k + 1 then dlF (OT_sq (RS_tt S t)) (RS_aa S) a else RS_aa S a := funext fun a => by
    rw [va_up_app]
    by_cases e : a = k
    · rw [if_pos e, if_pos (by omega), e]
    · rw [if_neg e]
      by_cases e2 : a < k
      · rw [if_pos e2, if_pos (by omega)]
      · rw [if_neg e2, if_neg (by omega)]
  show (_, _, _, va_up (fun a => if a < k then dlF (OT_sq (RS_tt S t)) (RS_aa S) a else RS_aa S a) k (dlF (OT_sq (RS_tt S t)) (RS_aa S) k), _, _, _, _) = _
  rw [this]; rfl
theorem SIM.dl {X : CS} {S : RS} {t : Nat} (H : SIM X (dlS S t (RS_an S))) : SIM X (cmG S t) := by
  obtain ⟨a1, a2, a3, a4, a5⟩ := H
  refine ⟨a1, a2, fun a ha => ?_, a4, a5⟩
  have ha : a < RS_an S := ha
  have h := a3 a ha
  have e : RS_aa (dlS S t (RS_an S)) a = dlF (OT_sq (RS_tt S t)) (RS_aa S) a := if_pos ha
  rw [e] at h; exact h
set_option maxRecDepth 100000 in
set_option maxHeartbeats 4000000 in
theorem l_X11_deliver {G : GG} {d bc bs : Nat} {Q : Pst} {h0 : Hp} {n t : Nat} {S : RS} (hB : RB n S) (ht : t < 3) (hd : 11 ≤ d) (hq : ∀ h' X', CR h' X' → SIM X' (cmG S t) → FRK h0 h' → Q oVoid h') : ∀ m k X H, k + m = RS_an S → CR H X → SIM X (dlS S t k) → FRK h0 H → WP G m_X11_deliver d 2 [(2, vi (nI k)), (0, vr (some (nm 40 0))), (1, vr (some (nm 56 t)))] [] H (bc + 1 * m) (bs + 6 * m) Q := by
  have hb0 := hB.1
  intro m
  induction m with
  | zero =>
    intro k X H hk0 hR hs hG
    have han : CS_an X = RS_an S := hs.1.2.1
    have hk1 : k = RS_an S := by omega
    have hs2 : SIM X (cmG S t) := SIM.dl (by rw [← hk1]; exact hs)
    refine wp_iload_n (i := 2) dX11_deliver_2 rfl rfl ?_
    refine wp_aload_n (i := 0) dX11_deliver_3 rfl rfl ?_
    refine wp_get 12 13 (vi (nI (CS_an X))) dX11_deliver_4 hR.mk (by decide) (by decide) fl_X11_72 (congrArg (fun z => toV (vi z)) (hR.i13)) ?_
    refine wp_icmp_geN 33 dX11_deliver_7 (by decide) (by omega) (by omega) (fun c_7 => ?_) (fun c_7 => absurd c_7 (by omega))
    refine wp_return dX11_deliver_33 rfl ?_
    exact hq _ _ hR hs2 hG
  | succ m ih =>
    intro k X H hk0 hR hs hG
    have han : CS_an X = RS_an S := hs.1.2.1
    have hk : k < CS_an X := by omega
    have hk2 : k < RS_an S := by omega
    have hsa : SA (CS_aa X k) (RS_aa S k) := by
      have h := hs.2.2.1 k hk2
      rw [show RS_aa (dlS S t k) k = RS_aa S k from if_neg (by omega)] at h
      exact h
    have hcn := hsa.2.2.2.2.2.2.1
    have hb3 := hB.2.2.2 k hk2
    have hsw : SW (CS_ww X (4 * t + k)) (toA (OT_sq (RS_tt S t)) k) := hs.2.2.2.2 t k ht (by omega)
    refine wp_iload_n (i := 2) dX11_deliver_2 rfl rfl ?_
    refine wp_aload_n (i := 0) dX11_deliver_3 rfl rfl ?_
    refine wp_get 12 13 (vi (nI (CS_an X))) dX11_deliver_4 hR.mk (by decide) (by decide) fl_X11_72 (congrArg (fun z => toV (vi z)) (hR.i13)) ?_
    refine wp_icmp_geN 33 dX11_deliver_7 (by decide) (by omega) (by omega) (fun c_7 => absurd c_7 (by omega)) (fun c_7 => ?_)
    refine wp_aload_n (i := 0) dX11_deliver_10 rfl rfl ?_
    refine wp_iload_n (i := 2) dX11_deliver_11 rfl rfl ?_
    refine wp_cV (y' := m_X11_agentNumbered) 12 [vi (nI k)] [] 1 6 dX11_deliver_12 ml_X11_454 im_X11_agentNumbered se_X11_agentNumbered (by decide) hR.mk ok_X11_agentNumbered rfl (Nat.le_of_ble_eq_true rfl) rfl (Nat.le_of_ble_eq_true rfl) (d' := d - 1) (by omega) (by omega) (by omega) (c_X11_agentNumbered hR (by omega) (v := nI k) (t := k) (fun _ => ⟨rfl, hk⟩) (by omega) (by omega) (by omega) (fun g => absurd (ixB_of hk (by omega)) (by rw [g]; decide)) (fun _ _ _ => cont_ret ?_))
    refine wp_get 3 4 (vr (some (nm 66 k))) dX11_deliver_15 (hR.a (r := k) hk).k0 (by decide) (by decide) fl_X11_458 (congrArg (fun z => toV (vr z)) ((hR.a (r := k) hk).r5_4)) ?_
    refine wp_aload_n (i := 1) dX11_deliver_18 rfl rfl ?_
    refine wp_get 9 9 (vr (some (nm 62 t))) dX11_deliver_19 (hR.t (r := t) ht).k0 (by decide) (by decide) fl_X11_467 (congrArg (fun z => toV (vr z)) ((hR.t (r := t) ht).r10_9)) ?_
    refine wp_iload_n (i := 2) dX11_deliver_22 rfl rfl ?_
    refine wp_aaloadN 4 (some (nm 63 (4 * t + k))) dX11_deliver_23 (arTy_115 (hR.t (r := t) ht).k21) (hR.t (r := t) ht).n21 (by omega) (by decide) ((hR.t (r := t) ht).q22 k (by omega)) ?_
    refine wp_cV (y' := m_X10_lineUpAll) 11 [vr (some (nm 63 (4 * t + k)))] [] 0 0 dX11_deliver_24 ml_X11_588 im_X10_lineUpAll se_X10_lineUpAll (by decide) (hR.a (r := k) hk).k8 ok_X10_lineUpAll rfl (Nat.le_of_ble_eq_true rfl) rfl (Nat.le_of_ble_eq_true rfl) (d' := d - 1) (by omega) (Nat.zero_le _) (Nat.zero_le _) (c_X10_lineUpAll (hR.a (r := k) hk).wr (hR.w (r := 4 * t + k) (by omega)).wr (WRo_n (by omega) (by decide) (by decide)) (WRo_n (by omega) (by decide) (by decide)) (by rw [hcn]; omega) (by rw [hsw.1]; omega) (by omega) (fun h1 W1 F1 => cont_void ?_))
    have hR1 := hR.upA (t := k) hk F1.rowA ((hR.a (r := k) hk).row W1 F1)
    have hG1 := hG.tr (FRK.oA F1.rowA)
    refine wp_iincN (a := k) (lv' := [(2, vi (nI (k + 1))), (0, vr (some (nm 40 0))), (1, vr (some (nm 56 t)))]) 1 dX11_deliver_27 rfl (by decide) (by decide) rfl ?_
    refine wp_goto 2 dX11_deliver_30 (by decide) ?_
    refine wp_sub [(2, vi (nI (k + 1))), (0, vr (some (nm 40 0))), (1, vr (some (nm 56 t)))] (sb_cons (.head _) (sb_cons (.tail _ (.head _)) (sb_cons (.tail _ (.tail _ (.head _))) sb_nil))) ?_
    refine wp_pay (bc' := bc + 1 * m) (bs' := bs + 6 * m) (by omega) (by omega) ?_
    have hz := hsa.all hsw.2 (min (toA (OT_sq (RS_tt S t)) k).length 12) (Nat.min_le_left _ _) (Nat.min_le_right _ _)
    rw [tkA_12, ← dlF_at, ← hsw.1] at hz
    have s9 := hs.upA (r := k) hz
    rw [dlS_s] at s9
    exact ih (k + 1) _ _ (by omega) hR1 s9 hG1
set_option maxRecDepth 100000 in
set_option maxHeartbeats 4000000 in
theorem c_X11_deliver {G : GG} {d bc bs : Nat} {h : Hp} {Q : Pst} {X : CS} {S : RS} (hR : CR h X) (hs : SIM X S) {n : Nat} (hB : RB n S) {t : Nat} (ht : t < 3) (hd : 11 ≤ d) (hbc : 4 ≤ bc) (hbs : 24 ≤ bs) (hq : ∀ h' X', CR h' X' → SIM X' (cmG S t) → FRK h h' → Q oVoid h') : WP G m_X11_deliver d 0 (aargs 0 [vr (some (nm 40 0)), vr (some (nm 56 t))]) [] h bc bs Q := by
  have hG := FRK.rf (h := h)
  have hrn : CS_rn X = RS_rn S := hs.1.1
  have han : CS_an X = RS_an S := hs.1.2.1
  have hbi : CS_bi X = RS_bg S := hs.1.2.2.1
  have hpr : CS_pr X = RS_mo S := hs.1.2.2.2.1
  have hlg : CS_lg X = RS_lg S := hs.1.2.2.2.2
  have hb0 := hB.1
  have hst := hs.2.2.2.1 t ht
  refine wp_sub [(0, vr (some (nm 40 0))), (1, vr (some (nm 56 t)))] (fun _ hz => hz) ?_
  refine wp_iconst (nI 0) dX11_deliver_0 (by decide) ?_
  refine wp_istore_n (i := 2) (lv' := [(2, vi (nI 0)), (0, vr (some (nm 40 0))), (1, vr (some (nm 56 t)))]) dX11_deliver_1 rfl (by decide) rfl ?_
  refine wp_sub [(2, vi (nI 0)), (0, vr (some (nm 40 0))), (1, vr (some (nm 56 t)))] (sb_cons (.head _) (sb_cons (.tail _ (.head _)) (sb_cons (.tail _ (.tail _ (.head _))) sb_nil))) ?_
  refine wp_pay (bc' := (bc - 4) + 1 * RS_an S) (bs' := (bs - 24) + 6 * RS_an S) (by omega) (by omega) ?_
  exact l_X11_deliver hB ht (by omega) hq (RS_an S) 0 _ _ (by omega) hR (by rw [dlS_0]; exact hs) hG
