/-! The law: its last look. -/
def SAP (V : SV) (rf : Nat → Nat → Int32) (v w : Nat) : Prop := ((sTy V v = 109 ↔ sTy V w = 109) ∧ sSz V v = sSz V w) ∧ ∀ j, j < rwN V v → rf v (2 + j) = rf w (2 + j)
theorem sam_b {V : SV} {rf : Nat → Nat → Int32} {v w b : Nat} (H : SVI V) (hP : ∀ v, v < sNv V → RowP (vp V v) (rf v)) (hv : v < sNv V) (hw : w < sNv V) (hx : ¬ (sTy V v = 120 ∨ sTy V w = 120)) (hb : (b = 1 ∧ SAP V rf v w) ∨ (b = 0 ∧ ¬ SAP V rf v w)) : bI (samB V v w) = nI b := by
  have h := sam_iff H hv hw (hP v hv) (hP w hw) hx
  rcases hb with ⟨e, hp⟩ | ⟨e, hp⟩
  · subst e
    rw [h.mpr hp]
    rfl
  · subst e
    have : samB V v w = false := by
      cases q : samB V v w with
      | true => exact absurd (h.mp q) hp
      | false => rfl
    rw [this]
    rfl
set_option maxRecDepth 100000 in
set_option maxHeartbeats 4000000 in
theorem l_law_e4 {G : GG} {d K J c n : Nat} {Q : Pst} {V : SV} {x : Nat → QIS} {R : RS} {ro : Nat → Nat} {rf : Nat → Nat → Int32} {op : Nat → Bool} {X Y : Nat} (B : PU c V n x R) (hc : c ≤ 512) (hP : ∀ v, v < sNv V → RowP (vp V v) (rf v)) (hL : slen G < 2 ^ 31) (hd : 60 ≤ d) {v w aw : Nat} (hv : v < sNv V) (hw : w < sNv V) (haw : (aw = 1 ∧ (sTy V v = 120 ∨ sTy V w = 120)) ∨ (aw = 0 ∧ ¬ (sTy V v = 120 ∨ sTy V w = 120))) {b : Nat} (hb : (b = 1 ∧ SAP V rf v w) ∨ (b = 0 ∧ ¬ SAP V rf v w)) {h : Hp} {M bc bs : Nat} (C : CLS h V M n x R) (H : LWH h (sNv V) n (RS_rn R) ro rf K J op) (hM : M + 230 < 900000) (hbc : X + 1260 ≤ bc) (hbs : Y + 8250 ≤ bs) (hK : ∀ h' M' bc' bs', CLS h' V M' n x R → LWH h' (sNv V) n (RS_rn R) ro rf K J op → M' ≤ M + 212 → X ≤ bc' → Y ≤ bs' → WP G m_L_law d 199 [(6, vi (nI (v + 1))), (5, vi (nI 1)), (4, vr (some (nm 70 2))), (3, vr (some (nm 70 1))), (2, vr (some (nm 70 0))), (1, vr (some (nm 40 0))), (0, vr (some nS))] [] h' bc' bs' Q) : WP G m_L_law d 382 [(9, vi (nI b)), (8, vi (nI aw)), (7, vi (nI w)), (6, vi (nI v)), (5, vi (nI 1)), (4, vr (some (nm 70 2))), (3, vr (some (nm 70 1))), (2, vr (some (nm 70 0))), (1, vr (some (nm 40 0))), (0, vr (some nS))] [] h bc bs Q := by
  have hn60 := B.1.1
  rcases haw with ⟨e1, ha⟩ | ⟨e1, ha⟩ <;> subst e1
  · have hsm : (if sTy V v = 120 ∨ sTy V w = 120 then (-20005 : Int32) else bI (samB V v w)) = -20005 := if_pos ha
    have hb9 : b ≤ 1 := by omega
    refine wp_aload_n (i := 1) dL_law_382 rfl rfl ?_
    refine wp_iload (i := 6) dL_law_383 rfl ?_
    refine wp_aload_n (i := 2) dL_law_385 rfl rfl ?_
    refine wp_iload (i := 6) dL_law_386 rfl ?_
    refine wp_aaloadAN 60 (some (nm 71 (ro v))) dL_law_388 H.1.1 H.1.2 (by omega) (by decide) ((H.2.1 v hv).1) ?_
    refine wp_cS (y' := m_L_isLike) [vr (some (nm 40 0)), vi (nI v), vr (some (nm 71 (ro v)))] [] 1250 8200 dL_law_389 ml_L_235 st_L_isLike ok_L_isLike rfl (Nat.le_of_ble_eq_true rfl) rfl (Nat.le_of_ble_eq_true rfl) (d' := d - 1) (by omega) (by omega) (by omega) (c_L_isLike B (by omega) hv (hP v hv) (by omega) C (by omega) (H.2.1 v hv).2.2 (by omega) (by omega) (fun h1 M1 ma1 mb1 C1 F1 => cont_ret ?_))
    have H1 := H.fk F1
    refine wp_if_eqN 428 dL_law_392 (by decide) (by decide) (fun c_392 => absurd c_392 (by decide)) (fun c_392 => ?_)
    refine wp_aload_n (i := 1) dL_law_395 rfl rfl ?_
    refine wp_bipush (nI 7) dL_law_396 (by decide) ?_
    refine wp_iload (i := 6) dL_law_398 rfl ?_
    refine wp_iload (i := 7) dL_law_400 rfl ?_
    refine wp_cSH (y' := m_L_ask) [vr (some (nm 40 0)), vi (nI 7), vi (nI v), vi (nI w)] [] 6 40 dL_law_402 ml_L_184 st_L_ask okH_L_ask rfl (Nat.le_of_ble_eq_true rfl) rfl (Nat.le_of_ble_eq_true rfl) (d' := d - 1) (by omega) (by omega) (by omega) (q_areSame (k := v) (by omega) (k2 := w) (by omega) B (by omega) C1 (by omega) (by omega) (by omega) (fun h2 M2 ma2 mb2 C2 F2 => cont_ret ?_))
    rw [r_areSame] at C2
    rw [an_same hv hw (by omega), hsm]
    have H2 := H1.fk F2
    refine wp_iload (i := 8) dL_law_405 rfl ?_
    refine wp_if_eqN 416 dL_law_407 (by decide) (by decide) (fun c_407 => absurd c_407 (by decide)) (fun c_407 => ?_)
    refine wp_sipush (-20005) dL_law_410 (by decide) ?_
    refine wp_goto 421 dL_law_413 (by decide) ?_
    refine wp_icmp_ne 428 dL_law_421 (by decide) (fun c_421 => absurd c_421 (fun z => z rfl)) (fun c_421 => ?_)
    refine wp_iconst (nI 1) dL_law_424 (by decide) ?_
    refine wp_goto 429 dL_law_425 (by decide) ?_
    refine wp_istore (i := 5) (lv' := [(5, vi (nI 1)), (9, vi (nI b)), (8, vi (nI 1)), (7, vi (nI w)), (6, vi (nI v)), (4, vr (some (nm 70 2))), (3, vr (some (nm 70 1))), (2, vr (some (nm 70 0))), (1, vr (some (nm 40 0))), (0, vr (some nS))]) dL_law_429 (by decide) rfl ?_
    refine wp_iincN (a := v) (lv' := [(6, vi (nI (v + 1))), (5, vi (nI 1)), (9, vi (nI b)), (8, vi (nI 1)), (7, vi (nI w)), (4, vr (some (nm 70 2))), (3, vr (some (nm 70 1))), (2, vr (some (nm 70 0))), (1, vr (some (nm 40 0))), (0, vr (some nS))]) 1 dL_law_431 rfl (by decide) (by decide) rfl ?_
    refine wp_goto 199 dL_law_434 (by decide) ?_
    refine wp_sub [(6, vi (nI (v + 1))), (5, vi (nI 1)), (4, vr (some (nm 70 2))), (3, vr (some (nm 70 1))), (2, vr (some (nm 70 0))), (1, vr (some (nm 40 0))), (0, vr (some nS))] (sb_cons (.head _) (sb_cons (.tail _ (.head _)) (sb_cons (.tail _ (.tail _ (.tail _ (.tail _ (.tail _ (.head _)))))) (sb_cons (.tail _ (.tail _ (.tail _ (.tail _ (.tail _ (.tail _ (.head _))))))) (sb_cons (.tail _ (.tail _ (.tail _ (.tail _ (.tail _ (.tail _ (.tail _ (.head _)))))))) (sb_cons (.tail _ (.tail _ (.tail _ (.tail _ (.tail _ (.tail _ (.tail _ (.tail _ (.head _))))))))) (sb_cons (.tail _ (.tail _ (.tail _ (.tail _ (.tail _ (.tail _ (.tail _ (.tail _ (.tail _ (.head _)))))))))) sb_nil))))))) ?_
    exact hK _ _ _ _ C2 H2 (by omega) (by omega) (by omega)
  · have hsm : (if sTy V v = 120 ∨ sTy V w = 120 then (-20005 : Int32) else bI (samB V v w)) = nI b := (if_neg ha).trans (sam_b B.1 hP hv hw ha hb)
    rcases (show b = 0 ∨ b = 1 by omega) with e2 | e2 <;> subst e2
    · skip
      refine wp_aload_n (i := 1) dL_law_382 rfl rfl ?_
      refine wp_iload (i := 6) dL_law_383 rfl ?_
      refine wp_aload_n (i := 2) dL_law_385 rfl rfl ?_
      refine wp_iload (i := 6) dL_law_386 rfl ?_
      refine wp_aaloadAN 60 (some (nm 71 (ro v))) dL_law_388 H.1.1 H.1.2 (by omega) (by decide) ((H.2.1 v hv).1) ?_
      refine wp_cS (y' := m_L_isLike) [vr (some (nm 40 0)), vi (nI v), vr (some (nm 71 (ro v)))] [] 1250 8200 dL_law_389 ml_L_235 st_L_isLike ok_L_isLike rfl (Nat.le_of_ble_eq_true rfl) rfl (Nat.le_of_ble_eq_true rfl) (d' := d - 1) (by omega) (by omega) (by omega) (c_L_isLike B (by omega) hv (hP v hv) (by omega) C (by omega) (H.2.1 v hv).2.2 (by omega) (by omega) (fun h1 M1 ma1 mb1 C1 F1 => cont_ret ?_))
      have H1 := H.fk F1
      refine wp_if_eqN 428 dL_law_392 (by decide) (by decide) (fun c_392 => absurd c_392 (by decide)) (fun c_392 => ?_)
      refine wp_aload_n (i := 1) dL_law_395 rfl rfl ?_
      refine wp_bipush (nI 7) dL_law_396 (by decide) ?_
      refine wp_iload (i := 6) dL_law_398 rfl ?_
      refine wp_iload (i := 7) dL_law_400 rfl ?_
      refine wp_cSH (y' := m_L_ask) [vr (some (nm 40 0)), vi (nI 7), vi (nI v), vi (nI w)] [] 6 40 dL_law_402 ml_L_184 st_L_ask okH_L_ask rfl (Nat.le_of_ble_eq_true rfl) rfl (Nat.le_of_ble_eq_true rfl) (d' := d - 1) (by omega) (by omega) (by omega) (q_areSame (k := v) (by omega) (k2 := w) (by omega) B (by omega) C1 (by omega) (by omega) (by omega) (fun h2 M2 ma2 mb2 C2 F2 => cont_ret ?_))
      rw [r_areSame] at C2
      rw [an_same hv hw (by omega), hsm]
      have H2 := H1.fk F2
      refine wp_iload (i := 8) dL_law_405 rfl ?_
      refine wp_if_eqN 416 dL_law_407 (by decide) (by decide) (fun c_407 => ?_) (fun c_407 => absurd c_407 (by decide))
      refine wp_iload (i := 9) dL_law_416 rfl ?_
      refine wp_cS (y' := m_L_told) [vi (bI false)] [vi (nI 0)] 0 0 dL_law_418 ml_L_83 st_L_told ok_L_told rfl (Nat.le_of_ble_eq_true rfl) rfl (Nat.le_of_ble_eq_true rfl) (d' := d - 1) (by omega) (Nat.zero_le _) (Nat.zero_le _) (c_L_told (b := false) (cont_ret ?_))
      rw [show bI false = (nI 0) from rfl]
      refine wp_icmp_neN 428 dL_law_421 (by decide) (by decide) (by decide) (fun c_421 => absurd c_421 (by decide)) (fun c_421 => ?_)
      refine wp_iconst (nI 1) dL_law_424 (by decide) ?_
      refine wp_goto 429 dL_law_425 (by decide) ?_
      refine wp_istore (i := 5) (lv' := [(5, vi (nI 1)), (9, vi (nI 0)), (8, vi (nI 0)), (7, vi (nI w)), (6, vi (nI v)), (4, vr (some (nm 70 2))), (3, vr (some (nm 70 1))), (2, vr (some (nm 70 0))), (1, vr (some (nm 40 0))), (0, vr (some nS))]) dL_law_429 (by decide) rfl ?_
      refine wp_iincN (a := v) (lv' := [(6, vi (nI (v + 1))), (5, vi (nI 1)), (9, vi (nI 0)), (8, vi (nI 0)), (7, vi (nI w)), (4, vr (some (nm 70 2))), (3, vr (some (nm 70 1))), (2, vr (some (nm 70 0))), (1, vr (some (nm 40 0))), (0, vr (some nS))]) 1 dL_law_431 rfl (by decide) (by decide) rfl ?_
      refine wp_goto 199 dL_law_434 (by decide) ?_
      refine wp_sub [(6, vi (nI (v + 1))), (5, vi (nI 1)), (4, vr (some (nm 70 2))), (3, vr (some (nm 70 1))), (2, vr (some (nm 70 0))), (1, vr (some (nm 40 0))), (0, vr (some nS))] (sb_cons (.head _) (sb_cons (.tail _ (.head _)) (sb_cons (.tail _ (.tail _ (.tail _ (.tail _ (.tail _ (.head _)))))) (sb_cons (.tail _ (.tail _ (.tail _ (.tail _ (.tail _ (.tail _ (.head _))))))) (sb_cons (.tail _ (.tail _ (.tail _ (.tail _ (.tail _ (.tail _ (.tail _ (.head _)))))))) (sb_cons (.tail _ (.tail _ (.tail _ (.tail _ (.tail _ (.tail _ (.tail _ (.tail _ (.head _))))))))) (sb_cons (.tail _ (.tail _ (.tail _ (.tail _ (.tail _ (.tail _ (.tail _ (.tail _ (.tail _ (.head _)))))))))) sb_nil))))))) ?_
      exact hK _ _ _ _ C2 H2 (by omega) (by omega) (by omega)
    · skip
      refine wp_aload_n (i := 1) dL_law_382 rfl rfl ?_
      refine wp_iload (i := 6) dL_law_383 rfl ?_
      refine wp_aload_n (i := 2) dL_law_385 rfl rfl ?_
      refine wp_iload (i := 6) dL_law_386 rfl ?_
      refine wp_aaloadAN 60 (some (nm 71 (ro v))) dL_law_388 H.1.1 H.1.2 (by omega) (by decide) ((H.2.1 v hv).1) ?_
      refine wp_cS (y' := m_L_isLike) [vr (some (nm 40 0)), vi (nI v), vr (some (nm 71 (ro v)))] [] 1250 8200 dL_law_389 ml_L_235 st_L_isLike ok_L_isLike rfl (Nat.le_of_ble_eq_true rfl) rfl (Nat.le_of_ble_eq_true rfl) (d' := d - 1) (by omega) (by omega) (by omega) (c_L_isLike B (by omega) hv (hP v hv) (by omega) C (by omega) (H.2.1 v hv).2.2 (by omega) (by omega) (fun h1 M1 ma1 mb1 C1 F1 => cont_ret ?_))
      have H1 := H.fk F1
      refine wp_if_eqN 428 dL_law_392 (by decide) (by decide) (fun c_392 => absurd c_392 (by decide)) (fun c_392 => ?_)
      refine wp_aload_n (i := 1) dL_law_395 rfl rfl ?_
      refine wp_bipush (nI 7) dL_law_396 (by decide) ?_
      refine wp_iload (i := 6) dL_law_398 rfl ?_
      refine wp_iload (i := 7) dL_law_400 rfl ?_
      refine wp_cSH (y' := m_L_ask) [vr (some (nm 40 0)), vi (nI 7), vi (nI v), vi (nI w)] [] 6 40 dL_law_402 ml_L_184 st_L_ask okH_L_ask rfl (Nat.le_of_ble_eq_true rfl) rfl (Nat.le_of_ble_eq_true rfl) (d' := d - 1) (by omega) (by omega) (by omega) (q_areSame (k := v) (by omega) (k2 := w) (by omega) B (by omega) C1 (by omega) (by omega) (by omega) (fun h2 M2 ma2 mb2 C2 F2 => cont_ret ?_))
      rw [r_areSame] at C2
      rw [an_same hv hw (by omega), hsm]
      have H2 := H1.fk F2
      refine wp_iload (i := 8) dL_law_405 rfl ?_
      refine wp_if_eqN 416 dL_law_407 (by decide) (by decide) (fun c_407 => ?_) (fun c_407 => absurd c_407 (by decide))
      refine wp_iload (i := 9) dL_law_416 rfl ?_
      refine wp_cS (y' := m_L_told) [vi (bI true)] [vi (nI 1)] 0 0 dL_law_418 ml_L_83 st_L_told ok_L_told rfl (Nat.le_of_ble_eq_true rfl) rfl (Nat.le_of_ble_eq_true rfl) (d' := d - 1) (by omega) (Nat.zero_le _) (Nat.zero_le _) (c_L_told (b := true) (cont_ret ?_))
      rw [show bI true = (nI 1) from rfl]
      refine wp_icmp_neN 428 dL_law_421 (by decide) (by decide) (by decide) (fun c_421 => absurd c_421 (by decide)) (fun c_421 => ?_)
      refine wp_iconst (nI 1) dL_law_424 (by decide) ?_
      refine wp_goto 429 dL_law_425 (by decide) ?_
      refine wp_istore (i := 5) (lv' := [(5, vi (nI 1)), (9, vi (nI 1)), (8, vi (nI 0)), (7, vi (nI w)), (6, vi (nI v)), (4, vr (some (nm 70 2))), (3, vr (some (nm 70 1))), (2, vr (some (nm 70 0))), (1, vr (some (nm 40 0))), (0, vr (some nS))]) dL_law_429 (by decide) rfl ?_
      refine wp_iincN (a := v) (lv' := [(6, vi (nI (v + 1))), (5, vi (nI 1)), (9, vi (nI 1)), (8, vi (nI 0)), (7, vi (nI w)), (4, vr (some (nm 70 2))), (3, vr (some (nm 70 1))), (2, vr (some (nm 70 0))), (1, vr (some (nm 40 0))), (0, vr (some nS))]) 1 dL_law_431 rfl (by decide) (by decide) rfl ?_
      refine wp_goto 199 dL_law_434 (by decide) ?_
      refine wp_sub [(6, vi (nI (v + 1))), (5, vi (nI 1)), (4, vr (some (nm 70 2))), (3, vr (some (nm 70 1))), (2, vr (some (nm 70 0))), (1, vr (some (nm 40 0))), (0, vr (some nS))] (sb_cons (.head _) (sb_cons (.tail _ (.head _)) (sb_cons (.tail _ (.tail _ (.tail _ (.tail _ (.tail _ (.head _)))))) (sb_cons (.tail _ (.tail _ (.tail _ (.tail _ (.tail _ (.tail _ (.head _))))))) (sb_cons (.tail _ (.tail _ (.tail _ (.tail _ (.tail _ (.tail _ (.tail _ (.head _)))))))) (sb_cons (.tail _ (.tail _ (.tail _ (.tail _ (.tail _ (.tail _ (.tail _ (.tail _ (.head _))))))))) (sb_cons (.tail _ (.tail _ (.tail _ (.tail _ (.tail _ (.tail _ (.tail _ (.tail _ (.tail _ (.head _)))))))))) sb_nil))))))) ?_
      exact hK _ _ _ _ C2 H2 (by omega) (by omega) (by omega)
set_option maxRecDepth 100000 in
set_option maxHeartbeats 4000000 in
theorem l_law_x1 {G : GG} {d K J n : Nat} {Q : Pst} {V : SV} {R : RS} {ro : Nat → Nat} {rf : Nat → Nat → Int32} {op : Nat → Bool} (hP : ∀ v, v < sNv V → RowP (vp V v) (rf v)) (hn60 : sNv V ≤ 60) (hz : ∀ u, u < sNv V → sSz V u ≤ 64 ∧ sTy V u ≤ 120) {v w aw bc bs : Nat} {h : Hp} (hv : v < sNv V) (hw : w < sNv V) (H : LWH h (sNv V) n (RS_rn R) ro rf K J op) (hm : sTy V v = 109) {j : Nat} (hj : j < 100) (hK : WP G m_L_law d 382 [(9, vi (nI 0)), (8, vi (nI aw)), (7, vi (nI w)), (6, vi (nI v)), (5, vi (nI 1)), (4, vr (some (nm 70 2))), (3, vr (some (nm 70 1))), (2, vr (some (nm 70 0))), (1, vr (some (nm 40 0))), (0, vr (some nS))] [] h bc bs Q) : WP G m_L_law d 316 [(10, vi (nI j)), (9, vi (nI 0)), (8, vi (nI aw)), (7, vi (nI w)), (6, vi (nI v)), (5, vi (nI 1)), (4, vr (some (nm 70 2))), (3, vr (some (nm 70 1))), (2, vr (some (nm 70 0))), (1, vr (some (nm 40 0))), (0, vr (some nS))] [] h bc bs Q := by
  have hz1 := hz v hv
  refine wp_iload (i := 10) dL_law_316 rfl ?_
  refine wp_aload_n (i := 2) dL_law_318 rfl rfl ?_
  refine wp_iload (i := 6) dL_law_319 rfl ?_
  refine wp_aaloadAN 60 (some (nm 71 (ro v))) dL_law_321 H.1.1 H.1.2 (by omega) (by decide) ((H.2.1 v hv).1) ?_
  refine wp_iconst (nI 0) dL_law_322 (by decide) ?_
  refine wp_ialoadN 70 (nI (sTy V v)) dL_law_323 (H.2.1 v hv).2.2.1 (H.2.1 v hv).2.2.2.1 (by decide) (by decide) (((H.2.1 v hv).2.2.2.2 0 (by decide)).trans ((hP v hv).1)) ?_
  refine wp_bipush (nI 109) dL_law_324 (by decide) ?_
  refine wp_icmp_neN 334 dL_law_326 (by decide) (by omega) (by decide) (fun c_326 => absurd c_326 (by omega)) (fun c_326 => ?_)
  refine wp_bipush (nI 40) dL_law_329 (by decide) ?_
  refine wp_goto 340 dL_law_331 (by decide) ?_
  refine wp_icmp_geN 382 dL_law_340 (by decide) (by omega) (by decide) (fun c_340 => ?_) (fun c_340 => ?_)
  · skip
    refine wp_sub [(9, vi (nI 0)), (8, vi (nI aw)), (7, vi (nI w)), (6, vi (nI v)), (5, vi (nI 1)), (4, vr (some (nm 70 2))), (3, vr (some (nm 70 1))), (2, vr (some (nm 70 0))), (1, vr (some (nm 40 0))), (0, vr (some nS))] (sb_cons (.tail _ (.head _)) (sb_cons (.tail _ (.tail _ (.head _))) (sb_cons (.tail _ (.tail _ (.tail _ (.head _)))) (sb_cons (.tail _ (.tail _ (.tail _ (.tail _ (.head _))))) (sb_cons (.tail _ (.tail _ (.tail _ (.tail _ (.tail _ (.head _)))))) (sb_cons (.tail _ (.tail _ (.tail _ (.tail _ (.tail _ (.tail _ (.head _))))))) (sb_cons (.tail _ (.tail _ (.tail _ (.tail _ (.tail _ (.tail _ (.tail _ (.head _)))))))) (sb_cons (.tail _ (.tail _ (.tail _ (.tail _ (.tail _ (.tail _ (.tail _ (.tail _ (.head _))))))))) (sb_cons (.tail _ (.tail _ (.tail _ (.tail _ (.tail _ (.tail _ (.tail _ (.tail _ (.tail _ (.head _)))))))))) (sb_cons (.tail _ (.tail _ (.tail _ (.tail _ (.tail _ (.tail _ (.tail _ (.tail _ (.tail _ (.tail _ (.head _))))))))))) sb_nil)))))))))) ?_
    exact hK
  · skip
    refine wp_iload (i := 9) dL_law_343 rfl ?_
    refine wp_if_eqN 382 dL_law_345 (by decide) (by decide) (fun c_345 => ?_) (fun c_345 => absurd c_345 (by decide))
    refine wp_sub [(9, vi (nI 0)), (8, vi (nI aw)), (7, vi (nI w)), (6, vi (nI v)), (5, vi (nI 1)), (4, vr (some (nm 70 2))), (3, vr (some (nm 70 1))), (2, vr (some (nm 70 0))), (1, vr (some (nm 40 0))), (0, vr (some nS))] (sb_cons (.tail _ (.head _)) (sb_cons (.tail _ (.tail _ (.head _))) (sb_cons (.tail _ (.tail _ (.tail _ (.head _)))) (sb_cons (.tail _ (.tail _ (.tail _ (.tail _ (.head _))))) (sb_cons (.tail _ (.tail _ (.tail _ (.tail _ (.tail _ (.head _)))))) (sb_cons (.tail _ (.tail _ (.tail _ (.tail _ (.tail _ (.tail _ (.head _))))))) (sb_cons (.tail _ (.tail _ (.tail _ (.tail _ (.tail _ (.tail _ (.tail _ (.head _)))))))) (sb_cons (.tail _ (.tail _ (.tail _ (.tail _ (.tail _ (.tail _ (.tail _ (.tail _ (.head _))))))))) (sb_cons (.tail _ (.tail _ (.tail _ (.tail _ (.tail _ (.tail _ (.tail _ (.tail _ (.tail _ (.head _)))))))))) (sb_cons (.tail _ (.tail _ (.tail _ (.tail _ (.tail _ (.tail _ (.tail _ (.tail _ (.tail _ (.tail _ (.head _))))))))))) sb_nil)))))))))) ?_
    exact hK
set_option maxRecDepth 100000 in
set_option maxHeartbeats 4000000 in
theorem l_law_y1 {G : GG} {d K J n : Nat} {Q : Pst} {V : SV} {R : RS} {ro : Nat → Nat} {rf : Nat → Nat → Int32} {op : Nat → Bool} (hP : ∀ v, v < sNv V → RowP (vp V v) (rf v)) (hn60 : sNv V ≤ 60) (hz : ∀ u, u < sNv V → sSz V u ≤ 64 ∧ sTy V u ≤ 120) {v w aw bc bs : Nat} {h : Hp} (hv : v < sNv V) (hw : w < sNv V) (H : LWH h (sNv V) n (RS_rn R) ro rf K J op) (hm : sTy V v = 109) (hK : ∀ b, (b = 1 ∧ ∀ i, i < 40 → rf v (2 + i) = rf w (2 + i)) ∨ (b = 0 ∧ ¬ ∀ i, i < 40 → rf v (2 + i) = rf w (2 + i)) → WP G m_L_law d 382 [(9, vi (nI b)), (8, vi (nI aw)), (7, vi (nI w)), (6, vi (nI v)), (5, vi (nI 1)), (4, vr (some (nm 70 2))), (3, vr (some (nm 70 1))), (2, vr (some (nm 70 0))), (1, vr (some (nm 40 0))), (0, vr (some nS))] [] h bc bs Q) : ∀ m j, m + j = 40 → (∀ i, i < j → rf v (2 + i) = rf w (2 + i)) → WP G m_L_law d 316 [(10, vi (nI j)), (9, vi (nI 1)), (8, vi (nI aw)), (7, vi (nI w)), (6, vi (nI v)), (5, vi (nI 1)), (4, vr (some (nm 70 2))), (3, vr (some (nm 70 1))), (2, vr (some (nm 70 0))), (1, vr (some (nm 40 0))), (0, vr (some nS))] [] h bc bs Q := by
  have hz1 := hz v hv
  intro m
  induction m with
  | zero =>
    intro j hj ha
    have hj2 : j = 40 := by omega
    refine wp_iload (i := 10) dL_law_316 rfl ?_
    refine wp_aload_n (i := 2) dL_law_318 rfl rfl ?_
    refine wp_iload (i := 6) dL_law_319 rfl ?_
    refine wp_aaloadAN 60 (some (nm 71 (ro v))) dL_law_321 H.1.1 H.1.2 (by omega) (by decide) ((H.2.1 v hv).1) ?_
    refine wp_iconst (nI 0) dL_law_322 (by decide) ?_
    refine wp_ialoadN 70 (nI (sTy V v)) dL_law_323 (H.2.1 v hv).2.2.1 (H.2.1 v hv).2.2.2.1 (by decide) (by decide) (((H.2.1 v hv).2.2.2.2 0 (by decide)).trans ((hP v hv).1)) ?_
    refine wp_bipush (nI 109) dL_law_324 (by decide) ?_
    refine wp_icmp_neN 334 dL_law_326 (by decide) (by omega) (by decide) (fun c_326 => absurd c_326 (by omega)) (fun c_326 => ?_)
    refine wp_bipush (nI 40) dL_law_329 (by decide) ?_
    refine wp_goto 340 dL_law_331 (by decide) ?_
    refine wp_icmp_geN 382 dL_law_340 (by decide) (by omega) (by decide) (fun c_340 => ?_) (fun c_340 => absurd c_340 (by omega))
    refine wp_sub [(9, vi (nI 1)), (8, vi (nI aw)), (7, vi (nI w)), (6, vi (nI v)), (5, vi (nI 1)), (4, vr (some (nm 70 2))), (3, vr (some (nm 70 1))), (2, vr (some (nm 70 0))), (1, vr (some (nm 40 0))), (0, vr (some nS))] (sb_cons (.tail _ (.head _)) (sb_cons (.tail _ (.tail _ (.head _))) (sb_cons (.tail _ (.tail _ (.tail _ (.head _)))) (sb_cons (.tail _ (.tail _ (.tail _ (.tail _ (.head _))))) (sb_cons (.tail _ (.tail _ (.tail _ (.tail _ (.tail _ (.head _)))))) (sb_cons (.tail _ (.tail _ (.tail _ (.tail _ (.tail _ (.tail _ (.head _))))))) (sb_cons (.tail _ (.tail _ (.tail _ (.tail _ (.tail _ (.tail _ (.tail _ (.head _)))))))) (sb_cons (.tail _ (.tail _ (.tail _ (.tail _ (.tail _ (.tail _ (.tail _ (.tail _ (.head _))))))))) (sb_cons (.tail _ (.tail _ (.tail _ (.tail _ (.tail _ (.tail _ (.tail _ (.tail _ (.tail _ (.head _)))))))))) (sb_cons (.tail _ (.tail _ (.tail _ (.tail _ (.tail _ (.tail _ (.tail _ (.tail _ (.tail _ (.tail _ (.head _))))))))))) sb_nil)))))))))) ?_
    exact hK 1 (Or.inl ⟨rfl, fun i hi => ha i (by omega)⟩)
  | succ m ih =>
    intro j hj ha
    have hj2 : j < 40 := by omega
    refine wp_iload (i := 10) dL_law_316 rfl ?_
    refine wp_aload_n (i := 2) dL_law_318 rfl rfl ?_
    refine wp_iload (i := 6) dL_law_319 rfl ?_
    refine wp_aaloadAN 60 (some (nm 71 (ro v))) dL_law_321 H.1.1 H.1.2 (by omega) (by decide) ((H.2.1 v hv).1) ?_
    refine wp_iconst (nI 0) dL_law_322 (by decide) ?_
    refine wp_ialoadN 70 (nI (sTy V v)) dL_law_323 (H.2.1 v hv).2.2.1 (H.2.1 v hv).2.2.2.1 (by decide) (by decide) (((H.2.1 v hv).2.2.2.2 0 (by decide)).trans ((hP v hv).1)) ?_
    refine wp_bipush (nI 109) dL_law_324 (by decide) ?_
    refine wp_icmp_neN 334 dL_law_326 (by decide) (by omega) (by decide) (fun c_326 => absurd c_326 (by omega)) (fun c_326 => ?_)
    refine wp_bipush (nI 40) dL_law_329 (by decide) ?_
    refine wp_goto 340 dL_law_331 (by decide) ?_
    refine wp_icmp_geN 382 dL_law_340 (by decide) (by omega) (by decide) (fun c_340 => absurd c_340 (by omega)) (fun c_340 => ?_)
    refine wp_iload (i := 9) dL_law_343 rfl ?_
    refine wp_if_eqN 382 dL_law_345 (by decide) (by decide) (fun c_345 => absurd c_345 (by decide)) (fun c_345 => ?_)
    refine wp_aload_n (i := 2) dL_law_348 rfl rfl ?_
    refine wp_iload (i := 6) dL_law_349 rfl ?_
    refine wp_aaloadAN 60 (some (nm 71 (ro v))) dL_law_351 H.1.1 H.1.2 (by omega) (by decide) ((H.2.1 v hv).1) ?_
    refine wp_iconst (nI 2) dL_law_352 (by decide) ?_
    refine wp_iload (i := 10) dL_law_353 rfl ?_
    refine wp_iaddN dL_law_355 ?_
    refine wp_ialoadN 70 (rf v (2 + j)) dL_law_356 (H.2.1 v hv).2.2.1 (H.2.1 v hv).2.2.2.1 (by omega) (by decide) (((H.2.1 v hv).2.2.2.2 (2 + j) (by omega)).trans (rfl)) ?_
    refine wp_aload_n (i := 2) dL_law_357 rfl rfl ?_
    refine wp_iload (i := 7) dL_law_358 rfl ?_
    refine wp_aaloadAN 60 (some (nm 71 (ro w))) dL_law_360 H.1.1 H.1.2 (by omega) (by decide) ((H.2.1 w hw).1) ?_
    refine wp_iconst (nI 2) dL_law_361 (by decide) ?_
    refine wp_iload (i := 10) dL_law_362 rfl ?_
    refine wp_iaddN dL_law_364 ?_
    refine wp_ialoadN 70 (rf w (2 + j)) dL_law_365 (H.2.1 w hw).2.2.1 (H.2.1 w hw).2.2.2.1 (by omega) (by decide) (((H.2.1 w hw).2.2.2.2 (2 + j) (by omega)).trans (rfl)) ?_
    refine wp_icmp_ne 373 dL_law_366 (by decide) (fun c_366 => ?_) (fun c_366 => ?_)
    · skip
      refine wp_iconst (nI 0) dL_law_373 (by decide) ?_
      refine wp_istore (i := 9) (lv' := [(9, vi (nI 0)), (10, vi (nI j)), (8, vi (nI aw)), (7, vi (nI w)), (6, vi (nI v)), (5, vi (nI 1)), (4, vr (some (nm 70 2))), (3, vr (some (nm 70 1))), (2, vr (some (nm 70 0))), (1, vr (some (nm 40 0))), (0, vr (some nS))]) dL_law_374 (by decide) rfl ?_
      refine wp_iincN (a := j) (lv' := [(10, vi (nI (j + 1))), (9, vi (nI 0)), (8, vi (nI aw)), (7, vi (nI w)), (6, vi (nI v)), (5, vi (nI 1)), (4, vr (some (nm 70 2))), (3, vr (some (nm 70 1))), (2, vr (some (nm 70 0))), (1, vr (some (nm 40 0))), (0, vr (some nS))]) 1 dL_law_376 rfl (by decide) (by decide) rfl ?_
      refine wp_goto 316 dL_law_379 (by decide) ?_
      refine wp_sub [(10, vi (nI (j + 1))), (9, vi (nI 0)), (8, vi (nI aw)), (7, vi (nI w)), (6, vi (nI v)), (5, vi (nI 1)), (4, vr (some (nm 70 2))), (3, vr (some (nm 70 1))), (2, vr (some (nm 70 0))), (1, vr (some (nm 40 0))), (0, vr (some nS))] (sb_cons (.head _) (sb_cons (.tail _ (.head _)) (sb_cons (.tail _ (.tail _ (.head _))) (sb_cons (.tail _ (.tail _ (.tail _ (.head _)))) (sb_cons (.tail _ (.tail _ (.tail _ (.tail _ (.head _))))) (sb_cons (.tail _ (.tail _ (.tail _ (.tail _ (.tail _ (.head _)))))) (sb_cons (.tail _ (.tail _ (.tail _ (.tail _ (.tail _ (.tail _ (.head _))))))) (sb_cons (.tail _ (.tail _ (.tail _ (.tail _ (.tail _ (.tail _ (.tail _ (.head _)))))))) (sb_cons (.tail _ (.tail _ (.tail _ (.tail _ (.tail _ (.tail _ (.tail _ (.tail _ (.head _))))))))) (sb_cons (.tail _ (.tail _ (.tail _ (.tail _ (.tail _ (.tail _ (.tail _ (.tail _ (.tail _ (.head _)))))))))) (sb_cons (.tail _ (.tail _ (.tail _ (.tail _ (.tail _ (.tail _ (.tail _ (.tail _ (.tail _ (.tail _ (.head _))))))))))) sb_nil))))))))))) ?_
      exact l_law_x1 hP hn60 hz hv hw H hm (by omega) (hK 0 (Or.inr ⟨rfl, fun z => c_366 (z j hj2)⟩))
    · skip
      refine wp_iconst (nI 1) dL_law_369 (by decide) ?_
      refine wp_goto 374 dL_law_370 (by decide) ?_
      refine wp_istore (i := 9) (lv' := [(9, vi (nI 1)), (10, vi (nI j)), (8, vi (nI aw)), (7, vi (nI w)), (6, vi (nI v)), (5, vi (nI 1)), (4, vr (some (nm 70 2))), (3, vr (some (nm 70 1))), (2, vr (some (nm 70 0))), (1, vr (some (nm 40 0))), (0, vr (some nS))]) dL_law_374 (by decide) rfl ?_
      refine wp_iincN (a := j) (lv' := [(10, vi (nI (j + 1))), (9, vi (nI 1)), (8, vi (nI aw)), (7, vi (nI w)), (6, vi (nI v)), (5, vi (nI 1)), (4, vr (some (nm 70 2))), (3, vr (some (nm 70 1))), (2, vr (some (nm 70 0))), (1, vr (some (nm 40 0))), (0, vr (some nS))]) 1 dL_law_376 rfl (by decide) (by decide) rfl ?_
      refine wp_goto 316 dL_law_379 (by decide) ?_
      refine wp_sub [(10, vi (nI (j + 1))), (9, vi (nI 1)), (8, vi (nI aw)), (7, vi (nI w)), (6, vi (nI v)), (5, vi (nI 1)), (4, vr (some (nm 70 2))), (3, vr (some (nm 70 1))), (2, vr (some (nm 70 0))), (1, vr (some (nm 40 0))), (0, vr (some nS))] (sb_cons (.head _) (sb_cons (.tail _ (.head _)) (sb_cons (.tail _ (.tail _ (.head _))) (sb_cons (.tail _ (.tail _ (.tail _ (.head _)))) (sb_cons (.tail _ (.tail _ (.tail _ (.tail _ (.head _))))) (sb_cons (.tail _ (.tail _ (.tail _ (.tail _ (.tail _ (.head _)))))) (sb_cons (.tail _ (.tail _ (.tail _ (.tail _ (.tail _ (.tail _ (.head _))))))) (sb_cons (.tail _ (.tail _ (.tail _ (.tail _ (.tail _ (.tail _ (.tail _ (.head _)))))))) (sb_cons (.tail _ (.tail _ (.tail _ (.tail _ (.tail _ (.tail _ (.tail _ (.tail _ (.head _))))))))) (sb_cons (.tail _ (.tail _ (.tail _ (.tail _ (.tail _ (.tail _ (.tail _ (.tail _ (.tail _ (.head _)))))))))) (sb_cons (.tail _ (.tail _ (.tail _ (.tail _ (.tail _ (.tail _ (.tail _ (.tail _ (.tail _ (.tail _ (.head _))))))))))) sb_nil))))))))))) ?_
      exact ih (j + 1) (by omega) (fun i hi => by
      by_cases e : i = j
      · rw [e]; exact c_366
      · exact ha i (by omega))
set_option maxRecDepth 100000 in
set_option maxHeartbeats 4000000 in
theorem l_law_x0 {G : GG} {d K J n : Nat} {Q : Pst} {V : SV} {R : RS} {ro : Nat → Nat} {rf : Nat → Nat → Int32} {op : Nat → Bool} (hP : ∀ v, v < sNv V → RowP (vp V v) (rf v)) (hn60 : sNv V ≤ 60) (hz : ∀ u, u < sNv V → sSz V u ≤ 64 ∧ sTy V u ≤ 120) {v w aw bc bs : Nat} {h : Hp} (hv : v < sNv V) (hw : w < sNv V) (H : LWH h (sNv V) n (RS_rn R) ro rf K J op) (hm : sTy V v ≠ 109) {j : Nat} (hj : j < 100) (hK : WP G m_L_law d 382 [(9, vi (nI 0)), (8, vi (nI aw)), (7, vi (nI w)), (6, vi (nI v)), (5, vi (nI 1)), (4, vr (some (nm 70 2))), (3, vr (some (nm 70 1))), (2, vr (some (nm 70 0))), (1, vr (some (nm 40 0))), (0, vr (some nS))] [] h bc bs Q) : WP G m_L_law d 316 [(10, vi (nI j)), (9, vi (nI 0)), (8, vi (nI aw)), (7, vi (nI w)), (6, vi (nI v)), (5, vi (nI 1)), (4, vr (some (nm 70 2))), (3, vr (some (nm 70 1))), (2, vr (some (nm 70 0))), (1, vr (some (nm 40 0))), (0, vr (some nS))] [] h bc bs Q := by
  have hz1 := hz v hv
  refine wp_iload (i := 10) dL_law_316 rfl ?_
  refine wp_aload_n (i := 2) dL_law_318 rfl rfl ?_
  refine wp_iload (i := 6) dL_law_319 rfl ?_
  refine wp_aaloadAN 60 (some (nm 71 (ro v))) dL_law_321 H.1.1 H.1.2 (by omega) (by decide) ((H.2.1 v hv).1) ?_
  refine wp_iconst (nI 0) dL_law_322 (by decide) ?_
  refine wp_ialoadN 70 (nI (sTy V v)) dL_law_323 (H.2.1 v hv).2.2.1 (H.2.1 v hv).2.2.2.1 (by decide) (by decide) (((H.2.1 v hv).2.2.2.2 0 (by decide)).trans ((hP v hv).1)) ?_
  refine wp_bipush (nI 109) dL_law_324 (by decide) ?_
  refine wp_icmp_neN 334 dL_law_326 (by decide) (by omega) (by decide) (fun c_326 => ?_) (fun c_326 => absurd c_326 (by omega))
  refine wp_aload_n (i := 2) dL_law_334 rfl rfl ?_
  refine wp_iload (i := 6) dL_law_335 rfl ?_
  refine wp_aaloadAN 60 (some (nm 71 (ro v))) dL_law_337 H.1.1 H.1.2 (by omega) (by decide) ((H.2.1 v hv).1) ?_
  refine wp_iconst (nI 1) dL_law_338 (by decide) ?_
  refine wp_ialoadN 70 (nI (sSz V v)) dL_law_339 (H.2.1 v hv).2.2.1 (H.2.1 v hv).2.2.2.1 (by decide) (by decide) (((H.2.1 v hv).2.2.2.2 1 (by decide)).trans ((hP v hv).2.1)) ?_
  refine wp_icmp_geN 382 dL_law_340 (by decide) (by omega) (by omega) (fun c_340 => ?_) (fun c_340 => ?_)
  · skip
    refine wp_sub [(9, vi (nI 0)), (8, vi (nI aw)), (7, vi (nI w)), (6, vi (nI v)), (5, vi (nI 1)), (4, vr (some (nm 70 2))), (3, vr (some (nm 70 1))), (2, vr (some (nm 70 0))), (1, vr (some (nm 40 0))), (0, vr (some nS))] (sb_cons (.tail _ (.head _)) (sb_cons (.tail _ (.tail _ (.head _))) (sb_cons (.tail _ (.tail _ (.tail _ (.head _)))) (sb_cons (.tail _ (.tail _ (.tail _ (.tail _ (.head _))))) (sb_cons (.tail _ (.tail _ (.tail _ (.tail _ (.tail _ (.head _)))))) (sb_cons (.tail _ (.tail _ (.tail _ (.tail _ (.tail _ (.tail _ (.head _))))))) (sb_cons (.tail _ (.tail _ (.tail _ (.tail _ (.tail _ (.tail _ (.tail _ (.head _)))))))) (sb_cons (.tail _ (.tail _ (.tail _ (.tail _ (.tail _ (.tail _ (.tail _ (.tail _ (.head _))))))))) (sb_cons (.tail _ (.tail _ (.tail _ (.tail _ (.tail _ (.tail _ (.tail _ (.tail _ (.tail _ (.head _)))))))))) (sb_cons (.tail _ (.tail _ (.tail _ (.tail _ (.tail _ (.tail _ (.tail _ (.tail _ (.tail _ (.tail _ (.head _))))))))))) sb_nil)))))))))) ?_
    exact hK
  · skip
    refine wp_iload (i := 9) dL_law_343 rfl ?_
    refine wp_if_eqN 382 dL_law_345 (by decide) (by decide) (fun c_345 => ?_) (fun c_345 => absurd c_345 (by decide))
    refine wp_sub [(9, vi (nI 0)), (8, vi (nI aw)), (7, vi (nI w)), (6, vi (nI v)), (5, vi (nI 1)), (4, vr (some (nm 70 2))), (3, vr (some (nm 70 1))), (2, vr (some (nm 70 0))), (1, vr (some (nm 40 0))), (0, vr (some nS))] (sb_cons (.tail _ (.head _)) (sb_cons (.tail _ (.tail _ (.head _))) (sb_cons (.tail _ (.tail _ (.tail _ (.head _)))) (sb_cons (.tail _ (.tail _ (.tail _ (.tail _ (.head _))))) (sb_cons (.tail _ (.tail _ (.tail _ (.tail _ (.tail _ (.head _)))))) (sb_cons (.tail _ (.tail _ (.tail _ (.tail _ (.tail _ (.tail _ (.head _))))))) (sb_cons (.tail _ (.tail _ (.tail _ (.tail _ (.tail _ (.tail _ (.tail _ (.head _)))))))) (sb_cons (.tail _ (.tail _ (.tail _ (.tail _ (.tail _ (.tail _ (.tail _ (.tail _ (.head _))))))))) (sb_cons (.tail _ (.tail _ (.tail _ (.tail _ (.tail _ (.tail _ (.tail _ (.tail _ (.tail _ (.head _)))))))))) (sb_cons (.tail _ (.tail _ (.tail _ (.tail _ (.tail _ (.tail _ (.tail _ (.tail _ (.tail _ (.tail _ (.head _))))))))))) sb_nil)))))))))) ?_
    exact hK
set_option maxRecDepth 100000 in
set_option maxHeartbeats 4000000 in
theorem l_law_y0 {G : GG} {d K J n : Nat} {Q : Pst} {V : SV} {R : RS} {ro : Nat → Nat} {rf : Nat → Nat → Int32} {op : Nat → Bool} (hP : ∀ v, v < sNv V → RowP (vp V v) (rf v)) (hn60 : sNv V ≤ 60) (hz : ∀ u, u < sNv V → sSz V u ≤ 64 ∧ sTy V u ≤ 120) {v w aw bc bs : Nat} {h : Hp} (hv : v < sNv V) (hw : w < sNv V) (H : LWH h (sNv V) n (RS_rn R) ro rf K J op) (hm : sTy V v ≠ 109) (hK : ∀ b, (b = 1 ∧ ∀ i, i < sSz V v → rf v (2 + i) = rf w (2 + i)) ∨ (b = 0 ∧ ¬ ∀ i, i < sSz V v → rf v (2 + i) = rf w (2 + i)) → WP G m_L_law d 382 [(9, vi (nI b)), (8, vi (nI aw)), (7, vi (nI w)), (6, vi (nI v)), (5, vi (nI 1)), (4, vr (some (nm 70 2))), (3, vr (some (nm 70 1))), (2, vr (some (nm 70 0))), (1, vr (some (nm 40 0))), (0, vr (some nS))] [] h bc bs Q) : ∀ m j, m + j = sSz V v → (∀ i, i < j → rf v (2 + i) = rf w (2 + i)) → WP G m_L_law d 316 [(10, vi (nI j)), (9, vi (nI 1)), (8, vi (nI aw)), (7, vi (nI w)), (6, vi (nI v)), (5, vi (nI 1)), (4, vr (some (nm 70 2))), (3, vr (some (nm 70 1))), (2, vr (some (nm 70 0))), (1, vr (some (nm 40 0))), (0, vr (some nS))] [] h bc bs Q := by
  have hz1 := hz v hv
  intro m
  induction m with
  | zero =>
    intro j hj ha
    have hj2 : j = sSz V v := by omega
    refine wp_iload (i := 10) dL_law_316 rfl ?_
    refine wp_aload_n (i := 2) dL_law_318 rfl rfl ?_
    refine wp_iload (i := 6) dL_law_319 rfl ?_
    refine wp_aaloadAN 60 (some (nm 71 (ro v))) dL_law_321 H.1.1 H.1.2 (by omega) (by decide) ((H.2.1 v hv).1) ?_
    refine wp_iconst (nI 0) dL_law_322 (by decide) ?_
    refine wp_ialoadN 70 (nI (sTy V v)) dL_law_323 (H.2.1 v hv).2.2.1 (H.2.1 v hv).2.2.2.1 (by decide) (by decide) (((H.2.1 v hv).2.2.2.2 0 (by decide)).trans ((hP v hv).1)) ?_
    refine wp_bipush (nI 109) dL_law_324 (by decide) ?_
    refine wp_icmp_neN 334 dL_law_326 (by decide) (by omega) (by decide) (fun c_326 => ?_) (fun c_326 => absurd c_326 (by omega))
    refine wp_aload_n (i := 2) dL_law_334 rfl rfl ?_
    refine wp_iload (i := 6) dL_law_335 rfl ?_
    refine wp_aaloadAN 60 (some (nm 71 (ro v))) dL_law_337 H.1.1 H.1.2 (by omega) (by decide) ((H.2.1 v hv).1) ?_
    refine wp_iconst (nI 1) dL_law_338 (by decide) ?_
    refine wp_ialoadN 70 (nI (sSz V v)) dL_law_339 (H.2.1 v hv).2.2.1 (H.2.1 v hv).2.2.2.1 (by decide) (by decide) (((H.2.1 v hv).2.2.2.2 1 (by decide)).trans ((hP v hv).2.1)) ?_
    refine wp_icmp_geN 382 dL_law_340 (by decide) (by omega) (by omega) (fun c_340 => ?_) (fun c_340 => absurd c_340 (by omega))
    refine wp_sub [(9, vi (nI 1)), (8, vi (nI aw)), (7, vi (nI w)), (6, vi (nI v)), (5, vi (nI 1)), (4, vr (some (nm 70 2))), (3, vr (some (nm 70 1))), (2, vr (some (nm 70 0))), (1, vr (some (nm 40 0))), (0, vr (some nS))] (sb_cons (.tail _ (.head _)) (sb_cons (.tail _ (.tail _ (.head _))) (sb_cons (.tail _ (.tail _ (.tail _ (.head _)))) (sb_cons (.tail _ (.tail _ (.tail _ (.tail _ (.head _))))) (sb_cons (.tail _ (.tail _ (.tail _ (.tail _ (.tail _ (.head _)))))) (sb_cons (.tail _ (.tail _ (.tail _ (.tail _ (.tail _ (.tail _ (.head _))))))) (sb_cons (.tail _ (.tail _ (.tail _ (.tail _ (.tail _ (.tail _ (.tail _ (.head _)))))))) (sb_cons (.tail _ (.tail _ (.tail _ (.tail _ (.tail _ (.tail _ (.tail _ (.tail _ (.head _))))))))) (sb_cons (.tail _ (.tail _ (.tail _ (.tail _ (.tail _ (.tail _ (.tail _ (.tail _ (.tail _ (.head _)))))))))) (sb_cons (.tail _ (.tail _ (.tail _ (.tail _ (.tail _ (.tail _ (.tail _ (.tail _ (.tail _ (.tail _ (.head _))))))))))) sb_nil)))))))))) ?_
    exact hK 1 (Or.inl ⟨rfl, fun i hi => ha i (by omega)⟩)
  | succ m ih =>
    intro j hj ha
    have hj2 : j < sSz V v := by omega
    refine wp_iload (i := 10) dL_law_316 rfl ?_
    refine wp_aload_n (i := 2) dL_law_318 rfl rfl ?_
    refine wp_iload (i := 6) dL_law_319 rfl ?_
    refine wp_aaloadAN 60 (some (nm 71 (ro v))) dL_law_321 H.1.1 H.1.2 (by omega) (by decide) ((H.2.1 v hv).1) ?_
    refine wp_iconst (nI 0) dL_law_322 (by decide) ?_
    refine wp_ialoadN 70 (nI (sTy V v)) dL_law_323 (H.2.1 v hv).2.2.1 (H.2.1 v hv).2.2.2.1 (by decide) (by decide) (((H.2.1 v hv).2.2.2.2 0 (by decide)).trans ((hP v hv).1)) ?_
    refine wp_bipush (nI 109) dL_law_324 (by decide) ?_
    refine wp_icmp_neN 334 dL_law_326 (by decide) (by omega) (by decide) (fun c_326 => ?_) (fun c_326 => absurd c_326 (by omega))
    refine wp_aload_n (i := 2) dL_law_334 rfl rfl ?_
    refine wp_iload (i := 6) dL_law_335 rfl ?_
    refine wp_aaloadAN 60 (some (nm 71 (ro v))) dL_law_337 H.1.1 H.1.2 (by omega) (by decide) ((H.2.1 v hv).1) ?_
    refine wp_iconst (nI 1) dL_law_338 (by decide) ?_
    refine wp_ialoadN 70 (nI (sSz V v)) dL_law_339 (H.2.1 v hv).2.2.1 (H.2.1 v hv).2.2.2.1 (by decide) (by decide) (((H.2.1 v hv).2.2.2.2 1 (by decide)).trans ((hP v hv).2.1)) ?_
    refine wp_icmp_geN 382 dL_law_340 (by decide) (by omega) (by omega) (fun c_340 => absurd c_340 (by omega)) (fun c_340 => ?_)
    refine wp_iload (i := 9) dL_law_343 rfl ?_
    refine wp_if_eqN 382 dL_law_345 (by decide) (by decide) (fun c_345 => absurd c_345 (by decide)) (fun c_345 => ?_)
    refine wp_aload_n (i := 2) dL_law_348 rfl rfl ?_
    refine wp_iload (i := 6) dL_law_349 rfl ?_
    refine wp_aaloadAN 60 (some (nm 71 (ro v))) dL_law_351 H.1.1 H.1.2 (by omega) (by decide) ((H.2.1 v hv).1) ?_
    refine wp_iconst (nI 2) dL_law_352 (by decide) ?_
    refine wp_iload (i := 10) dL_law_353 rfl ?_
    refine wp_iaddN dL_law_355 ?_
    refine wp_ialoadN 70 (rf v (2 + j)) dL_law_356 (H.2.1 v hv).2.2.1 (H.2.1 v hv).2.2.2.1 (by omega) (by decide) (((H.2.1 v hv).2.2.2.2 (2 + j) (by omega)).trans (rfl)) ?_
    refine wp_aload_n (i := 2) dL_law_357 rfl rfl ?_
    refine wp_iload (i := 7) dL_law_358 rfl ?_
    refine wp_aaloadAN 60 (some (nm 71 (ro w))) dL_law_360 H.1.1 H.1.2 (by omega) (by decide) ((H.2.1 w hw).1) ?_
    refine wp_iconst (nI 2) dL_law_361 (by decide) ?_
    refine wp_iload (i := 10) dL_law_362 rfl ?_
    refine wp_iaddN dL_law_364 ?_
    refine wp_ialoadN 70 (rf w (2 + j)) dL_law_365 (H.2.1 w hw).2.2.1 (H.2.1 w hw).2.2.2.1 (by omega) (by decide) (((H.2.1 w hw).2.2.2.2 (2 + j) (by omega)).trans (rfl)) ?_
    refine wp_icmp_ne 373 dL_law_366 (by decide) (fun c_366 => ?_) (fun c_366 => ?_)
    · skip
      refine wp_iconst (nI 0) dL_law_373 (by decide) ?_
      refine wp_istore (i := 9) (lv' := [(9, vi (nI 0)), (10, vi (nI j)), (8, vi (nI aw)), (7, vi (nI w)), (6, vi (nI v)), (5, vi (nI 1)), (4, vr (some (nm 70 2))), (3, vr (some (nm 70 1))), (2, vr (some (nm 70 0))), (1, vr (some (nm 40 0))), (0, vr (some nS))]) dL_law_374 (by decide) rfl ?_
      refine wp_iincN (a := j) (lv' := [(10, vi (nI (j + 1))), (9, vi (nI 0)), (8, vi (nI aw)), (7, vi (nI w)), (6, vi (nI v)), (5, vi (nI 1)), (4, vr (some (nm 70 2))), (3, vr (some (nm 70 1))), (2, vr (some (nm 70 0))), (1, vr (some (nm 40 0))), (0, vr (some nS))]) 1 dL_law_376 rfl (by decide) (by decide) rfl ?_
      refine wp_goto 316 dL_law_379 (by decide) ?_
      refine wp_sub [(10, vi (nI (j + 1))), (9, vi (nI 0)), (8, vi (nI aw)), (7, vi (nI w)), (6, vi (nI v)), (5, vi (nI 1)), (4, vr (some (nm 70 2))), (3, vr (some (nm 70 1))), (2, vr (some (nm 70 0))), (1, vr (some (nm 40 0))), (0, vr (some nS))] (sb_cons (.head _) (sb_cons (.tail _ (.head _)) (sb_cons (.tail _ (.tail _ (.head _))) (sb_cons (.tail _ (.tail _ (.tail _ (.head _)))) (sb_cons (.tail _ (.tail _ (.tail _ (.tail _ (.head _))))) (sb_cons (.tail _ (.tail _ (.tail _ (.tail _ (.tail _ (.head _)))))) (sb_cons (.tail _ (.tail _ (.tail _ (.tail _ (.tail _ (.tail _ (.head _))))))) (sb_cons (.tail _ (.tail _ (.tail _ (.tail _ (.tail _ (.tail _ (.tail _ (.head _)))))))) (sb_cons (.tail _ (.tail _ (.tail _ (.tail _ (.tail _ (.tail _ (.tail _ (.tail _ (.head _))))))))) (sb_cons (.tail _ (.tail _ (.tail _ (.tail _ (.tail _ (.tail _ (.tail _ (.tail _ (.tail _ (.head _)))))))))) (sb_cons (.tail _ (.tail _ (.tail _ (.tail _ (.tail _ (.tail _ (.tail _ (.tail _ (.tail _ (.tail _ (.head _))))))))))) sb_nil))))))))))) ?_
      exact l_law_x0 hP hn60 hz hv hw H hm (by omega) (hK 0 (Or.inr ⟨rfl, fun z => c_366 (z j hj2)⟩))
    · skip
      refine wp_iconst (nI 1) dL_law_369 (by decide) ?_
      refine wp_goto 374 dL_law_370 (by decide) ?_
      refine wp_istore (i := 9) (lv' := [(9, vi (nI 1)), (10, vi (nI j)), (8, vi (nI aw)), (7, vi (nI w)), (6, vi (nI v)), (5, vi (nI 1)), (4, vr (some (nm 70 2))), (3, vr (some (nm 70 1))), (2, vr (some (nm 70 0))), (1, vr (some (nm 40 0))), (0, vr (some nS))]) dL_law_374 (by decide) rfl ?_
      refine wp_iincN (a := j) (lv' := [(10, vi (nI (j + 1))), (9, vi (nI 1)), (8, vi (nI aw)), (7, vi (nI w)), (6, vi (nI v)), (5, vi (nI 1)), (4, vr (some (nm 70 2))), (3, vr (some (nm 70 1))), (2, vr (some (nm 70 0))), (1, vr (some (nm 40 0))), (0, vr (some nS))]) 1 dL_law_376 rfl (by decide) (by decide) rfl ?_
      refine wp_goto 316 dL_law_379 (by decide) ?_
      refine wp_sub [(10, vi (nI (j + 1))), (9, vi (nI 1)), (8, vi (nI aw)), (7, vi (nI w)), (6, vi (nI v)), (5, vi (nI 1)), (4, vr (some (nm 70 2))), (3, vr (some (nm 70 1))), (2, vr (some (nm 70 0))), (1, vr (some (nm 40 0))), (0, vr (some nS))] (sb_cons (.head _) (sb_cons (.tail _ (.head _)) (sb_cons (.tail _ (.tail _ (.head _))) (sb_cons (.tail _ (.tail _ (.tail _ (.head _)))) (sb_cons (.tail _ (.tail _ (.tail _ (.tail _ (.head _))))) (sb_cons (.tail _ (.tail _ (.tail _ (.tail _ (.tail _ (.head _)))))) (sb_cons (.tail _ (.tail _ (.tail _ (.tail _ (.tail _ (.tail _ (.head _))))))) (sb_cons (.tail _ (.tail _ (.tail _ (.tail _ (.tail _ (.tail _ (.tail _ (.head _)))))))) (sb_cons (.tail _ (.tail _ (.tail _ (.tail _ (.tail _ (.tail _ (.tail _ (.tail _ (.head _))))))))) (sb_cons (.tail _ (.tail _ (.tail _ (.tail _ (.tail _ (.tail _ (.tail _ (.tail _ (.tail _ (.head _)))))))))) (sb_cons (.tail _ (.tail _ (.tail _ (.tail _ (.tail _ (.tail _ (.tail _ (.tail _ (.tail _ (.tail _ (.head _))))))))))) sb_nil))))))))))) ?_
      exact ih (j + 1) (by omega) (fun i hi => by
      by_cases e : i = j
      · rw [e]; exact c_366
      · exact ha i (by omega))
set_option maxRecDepth 100000 in
set_option maxHeartbeats 4000000 in
theorem l_law_e3 {G : GG} {d K J c n : Nat} {Q : Pst} {V : SV} {x : Nat → QIS} {R : RS} {ro : Nat → Nat} {rf : Nat → Nat → Int32} {op : Nat → Bool} {X Y : Nat} (B : PU c V n x R) (hc : c ≤ 512) (hP : ∀ v, v < sNv V → RowP (vp V v) (rf v)) (hL : slen G < 2 ^ 31) (hd : 60 ≤ d) {v w aw : Nat} (hv : v < sNv V) (hw : w < sNv V) (haw : (aw = 1 ∧ (sTy V v = 120 ∨ sTy V w = 120)) ∨ (aw = 0 ∧ ¬ (sTy V v = 120 ∨ sTy V w = 120))) {h : Hp} {M bc bs : Nat} (C : CLS h V M n x R) (H : LWH h (sNv V) n (RS_rn R) ro rf K J op) (hM : M + 230 < 900000) (hbc : X + 1260 ≤ bc) (hbs : Y + 8250 ≤ bs) (hK : ∀ h' M' bc' bs', CLS h' V M' n x R → LWH h' (sNv V) n (RS_rn R) ro rf K J op → M' ≤ M + 212 → X ≤ bc' → Y ≤ bs' → WP G m_L_law d 199 [(6, vi (nI (v + 1))), (5, vi (nI 1)), (4, vr (some (nm 70 2))), (3, vr (some (nm 70 1))), (2, vr (some (nm 70 0))), (1, vr (some (nm 40 0))), (0, vr (some nS))] [] h' bc' bs' Q) : WP G m_L_law d 256 [(8, vi (nI aw)), (7, vi (nI w)), (6, vi (nI v)), (5, vi (nI 1)), (4, vr (some (nm 70 2))), (3, vr (some (nm 70 1))), (2, vr (some (nm 70 0))), (1, vr (some (nm 40 0))), (0, vr (some nS))] [] h bc bs Q := by
  have hn60 := B.1.1
  have hz : ∀ u, u < sNv V → sSz V u ≤ 64 ∧ sTy V u ≤ 120 := fun u hu => ⟨(B.1.2.1 u hu).2.1, by have := (B.1.2.1 u hu).1; have : sTy V u = 118 ∨ sTy V u = 111 ∨ sTy V u = 109 ∨ sTy V u = 120 := this; omega⟩
  have hzv := hz v hv
  have hzw := hz w hw
  have key : ∀ b, (b = 1 ∧ SAP V rf v w) ∨ (b = 0 ∧ ¬ SAP V rf v w) → WP G m_L_law d 382 [(9, vi (nI b)), (8, vi (nI aw)), (7, vi (nI w)), (6, vi (nI v)), (5, vi (nI 1)), (4, vr (some (nm 70 2))), (3, vr (some (nm 70 1))), (2, vr (some (nm 70 0))), (1, vr (some (nm 40 0))), (0, vr (some nS))] [] h bc bs Q := fun b hb => l_law_e4 B hc hP hL hd hv hw haw hb C H hM hbc hbs hK
  by_cases mv : sTy V v = 109
  · by_cases mw : sTy V w = 109
    · by_cases sz : sSz V v = sSz V w
      · skip
        refine wp_aload_n (i := 2) dL_law_256 rfl rfl ?_
        refine wp_iload (i := 6) dL_law_257 rfl ?_
        refine wp_aaloadAN 60 (some (nm 71 (ro v))) dL_law_259 H.1.1 H.1.2 (by omega) (by decide) ((H.2.1 v hv).1) ?_
        refine wp_iconst (nI 0) dL_law_260 (by decide) ?_
        refine wp_ialoadN 70 (nI (sTy V v)) dL_law_261 (H.2.1 v hv).2.2.1 (H.2.1 v hv).2.2.2.1 (by decide) (by decide) (((H.2.1 v hv).2.2.2.2 0 (by decide)).trans ((hP v hv).1)) ?_
        refine wp_bipush (nI 109) dL_law_262 (by decide) ?_
        refine wp_icmp_neN 271 dL_law_264 (by decide) (by omega) (by decide) (fun c_264 => absurd c_264 (by omega)) (fun c_264 => ?_)
        refine wp_iconst (nI 1) dL_law_267 (by decide) ?_
        refine wp_goto 272 dL_law_268 (by decide) ?_
        refine wp_aload_n (i := 2) dL_law_272 rfl rfl ?_
        refine wp_iload (i := 7) dL_law_273 rfl ?_
        refine wp_aaloadAN 60 (some (nm 71 (ro w))) dL_law_275 H.1.1 H.1.2 (by omega) (by decide) ((H.2.1 w hw).1) ?_
        refine wp_iconst (nI 0) dL_law_276 (by decide) ?_
        refine wp_ialoadN 70 (nI (sTy V w)) dL_law_277 (H.2.1 w hw).2.2.1 (H.2.1 w hw).2.2.2.1 (by decide) (by decide) (((H.2.1 w hw).2.2.2.2 0 (by decide)).trans ((hP w hw).1)) ?_
        refine wp_bipush (nI 109) dL_law_278 (by decide) ?_
        refine wp_icmp_neN 287 dL_law_280 (by decide) (by omega) (by decide) (fun c_280 => absurd c_280 (by omega)) (fun c_280 => ?_)
        refine wp_iconst (nI 1) dL_law_283 (by decide) ?_
        refine wp_goto 288 dL_law_284 (by decide) ?_
        refine wp_icmp_neN 310 dL_law_288 (by decide) (by decide) (by decide) (fun c_288 => absurd c_288 (by decide)) (fun c_288 => ?_)
        refine wp_aload_n (i := 2) dL_law_291 rfl rfl ?_
        refine wp_iload (i := 6) dL_law_292 rfl ?_
        refine wp_aaloadAN 60 (some (nm 71 (ro v))) dL_law_294 H.1.1 H.1.2 (by omega) (by decide) ((H.2.1 v hv).1) ?_
        refine wp_iconst (nI 1) dL_law_295 (by decide) ?_
        refine wp_ialoadN 70 (nI (sSz V v)) dL_law_296 (H.2.1 v hv).2.2.1 (H.2.1 v hv).2.2.2.1 (by decide) (by decide) (((H.2.1 v hv).2.2.2.2 1 (by decide)).trans ((hP v hv).2.1)) ?_
        refine wp_aload_n (i := 2) dL_law_297 rfl rfl ?_
        refine wp_iload (i := 7) dL_law_298 rfl ?_
        refine wp_aaloadAN 60 (some (nm 71 (ro w))) dL_law_300 H.1.1 H.1.2 (by omega) (by decide) ((H.2.1 w hw).1) ?_
        refine wp_iconst (nI 1) dL_law_301 (by decide) ?_
        refine wp_ialoadN 70 (nI (sSz V w)) dL_law_302 (H.2.1 w hw).2.2.1 (H.2.1 w hw).2.2.2.1 (by decide) (by decide) (((H.2.1 w hw).2.2.2.2 1 (by decide)).trans ((hP w hw).2.1)) ?_
        refine wp_icmp_neN 310 dL_law_303 (by decide) (by omega) (by omega) (fun c_303 => absurd c_303 (by omega)) (fun c_303 => ?_)
        refine wp_iconst (nI 1) dL_law_306 (by decide) ?_
        refine wp_goto 311 dL_law_307 (by decide) ?_
        refine wp_istore (i := 9) (lv' := [(9, vi (nI 1)), (8, vi (nI aw)), (7, vi (nI w)), (6, vi (nI v)), (5, vi (nI 1)), (4, vr (some (nm 70 2))), (3, vr (some (nm 70 1))), (2, vr (some (nm 70 0))), (1, vr (some (nm 40 0))), (0, vr (some nS))]) dL_law_311 (by decide) rfl ?_
        refine wp_iconst (nI 0) dL_law_313 (by decide) ?_
        refine wp_istore (i := 10) (lv' := [(10, vi (nI 0)), (9, vi (nI 1)), (8, vi (nI aw)), (7, vi (nI w)), (6, vi (nI v)), (5, vi (nI 1)), (4, vr (some (nm 70 2))), (3, vr (some (nm 70 1))), (2, vr (some (nm 70 0))), (1, vr (some (nm 40 0))), (0, vr (some nS))]) dL_law_314 (by decide) rfl ?_
        refine wp_sub [(10, vi (nI 0)), (9, vi (nI 1)), (8, vi (nI aw)), (7, vi (nI w)), (6, vi (nI v)), (5, vi (nI 1)), (4, vr (some (nm 70 2))), (3, vr (some (nm 70 1))), (2, vr (some (nm 70 0))), (1, vr (some (nm 40 0))), (0, vr (some nS))] (sb_cons (.head _) (sb_cons (.tail _ (.head _)) (sb_cons (.tail _ (.tail _ (.head _))) (sb_cons (.tail _ (.tail _ (.tail _ (.head _)))) (sb_cons (.tail _ (.tail _ (.tail _ (.tail _ (.head _))))) (sb_cons (.tail _ (.tail _ (.tail _ (.tail _ (.tail _ (.head _)))))) (sb_cons (.tail _ (.tail _ (.tail _ (.tail _ (.tail _ (.tail _ (.head _))))))) (sb_cons (.tail _ (.tail _ (.tail _ (.tail _ (.tail _ (.tail _ (.tail _ (.head _)))))))) (sb_cons (.tail _ (.tail _ (.tail _ (.tail _ (.tail _ (.tail _ (.tail _ (.tail _ (.head _))))))))) (sb_cons (.tail _ (.tail _ (.tail _ (.tail _ (.tail _ (.tail _ (.tail _ (.tail _ (.tail _ (.head _)))))))))) (sb_cons (.tail _ (.tail _ (.tail _ (.tail _ (.tail _ (.tail _ (.tail _ (.tail _ (.tail _ (.tail _ (.head _))))))))))) sb_nil))))))))))) ?_
        exact l_law_y1 hP hn60 hz hv hw H mv (fun b hb => key b (hb.imp (fun z => ⟨z.1, ⟨⟨by omega, sz⟩, fun j hj => z.2 j (by unfold rwN at hj; rw [if_pos mv] at hj; exact hj)⟩⟩) (fun z => ⟨z.1, fun q => z.2 (fun i hi => q.2 i (by unfold rwN; rw [if_pos mv]; exact hi))⟩))) 40 0 rfl (fun i hi => absurd hi (Nat.not_lt_zero _))
      · skip
        refine wp_aload_n (i := 2) dL_law_256 rfl rfl ?_
        refine wp_iload (i := 6) dL_law_257 rfl ?_
        refine wp_aaloadAN 60 (some (nm 71 (ro v))) dL_law_259 H.1.1 H.1.2 (by omega) (by decide) ((H.2.1 v hv).1) ?_
        refine wp_iconst (nI 0) dL_law_260 (by decide) ?_
        refine wp_ialoadN 70 (nI (sTy V v)) dL_law_261 (H.2.1 v hv).2.2.1 (H.2.1 v hv).2.2.2.1 (by decide) (by decide) (((H.2.1 v hv).2.2.2.2 0 (by decide)).trans ((hP v hv).1)) ?_
        refine wp_bipush (nI 109) dL_law_262 (by decide) ?_
        refine wp_icmp_neN 271 dL_law_264 (by decide) (by omega) (by decide) (fun c_264 => absurd c_264 (by omega)) (fun c_264 => ?_)
        refine wp_iconst (nI 1) dL_law_267 (by decide) ?_
        refine wp_goto 272 dL_law_268 (by decide) ?_
        refine wp_aload_n (i := 2) dL_law_272 rfl rfl ?_
        refine wp_iload (i := 7) dL_law_273 rfl ?_
        refine wp_aaloadAN 60 (some (nm 71 (ro w))) dL_law_275 H.1.1 H.1.2 (by omega) (by decide) ((H.2.1 w hw).1) ?_
        refine wp_iconst (nI 0) dL_law_276 (by decide) ?_
        refine wp_ialoadN 70 (nI (sTy V w)) dL_law_277 (H.2.1 w hw).2.2.1 (H.2.1 w hw).2.2.2.1 (by decide) (by decide) (((H.2.1 w hw).2.2.2.2 0 (by decide)).trans ((hP w hw).1)) ?_
        refine wp_bipush (nI 109) dL_law_278 (by decide) ?_
        refine wp_icmp_neN 287 dL_law_280 (by decide) (by omega) (by decide) (fun c_280 => absurd c_280 (by omega)) (fun c_280 => ?_)
        refine wp_iconst (nI 1) dL_law_283 (by decide) ?_
        refine wp_goto 288 dL_law_284 (by decide) ?_
        refine wp_icmp_neN 310 dL_law_288 (by decide) (by decide) (by decide) (fun c_288 => absurd c_288 (by decide)) (fun c_288 => ?_)
        refine wp_aload_n (i := 2) dL_law_291 rfl rfl ?_
        refine wp_iload (i := 6) dL_law_292 rfl ?_
        refine wp_aaloadAN 60 (some (nm 71 (ro v))) dL_law_294 H.1.1 H.1.2 (by omega) (by decide) ((H.2.1 v hv).1) ?_
        refine wp_iconst (nI 1) dL_law_295 (by decide) ?_
        refine wp_ialoadN 70 (nI (sSz V v)) dL_law_296 (H.2.1 v hv).2.2.1 (H.2.1 v hv).2.2.2.1 (by decide) (by decide) (((H.2.1 v hv).2.2.2.2 1 (by decide)).trans ((hP v hv).2.1)) ?_
        refine wp_aload_n (i := 2) dL_law_297 rfl rfl ?_
        refine wp_iload (i := 7) dL_law_298 rfl ?_
        refine wp_aaloadAN 60 (some (nm 71 (ro w))) dL_law_300 H.1.1 H.1.2 (by omega) (by decide) ((H.2.1 w hw).1) ?_
        refine wp_iconst (nI 1) dL_law_301 (by decide) ?_
        refine wp_ialoadN 70 (nI (sSz V w)) dL_law_302 (H.2.1 w hw).2.2.1 (H.2.1 w hw).2.2.2.1 (by decide) (by decide) (((H.2.1 w hw).2.2.2.2 1 (by decide)).trans ((hP w hw).2.1)) ?_
        refine wp_icmp_neN 310 dL_law_303 (by decide) (by omega) (by omega) (fun c_303 => ?_) (fun c_303 => absurd c_303 (by omega))
        refine wp_iconst (nI 0) dL_law_310 (by decide) ?_
        refine wp_istore (i := 9) (lv' := [(9, vi (nI 0)), (8, vi (nI aw)), (7, vi (nI w)), (6, vi (nI v)), (5, vi (nI 1)), (4, vr (some (nm 70 2))), (3, vr (some (nm 70 1))), (2, vr (some (nm 70 0))), (1, vr (some (nm 40 0))), (0, vr (some nS))]) dL_law_311 (by decide) rfl ?_
        refine wp_iconst (nI 0) dL_law_313 (by decide) ?_
        refine wp_istore (i := 10) (lv' := [(10, vi (nI 0)), (9, vi (nI 0)), (8, vi (nI aw)), (7, vi (nI w)), (6, vi (nI v)), (5, vi (nI 1)), (4, vr (some (nm 70 2))), (3, vr (some (nm 70 1))), (2, vr (some (nm 70 0))), (1, vr (some (nm 40 0))), (0, vr (some nS))]) dL_law_314 (by decide) rfl ?_
        refine wp_sub [(10, vi (nI 0)), (9, vi (nI 0)), (8, vi (nI aw)), (7, vi (nI w)), (6, vi (nI v)), (5, vi (nI 1)), (4, vr (some (nm 70 2))), (3, vr (some (nm 70 1))), (2, vr (some (nm 70 0))), (1, vr (some (nm 40 0))), (0, vr (some nS))] (sb_cons (.head _) (sb_cons (.tail _ (.head _)) (sb_cons (.tail _ (.tail _ (.head _))) (sb_cons (.tail _ (.tail _ (.tail _ (.head _)))) (sb_cons (.tail _ (.tail _ (.tail _ (.tail _ (.head _))))) (sb_cons (.tail _ (.tail _ (.tail _ (.tail _ (.tail _ (.head _)))))) (sb_cons (.tail _ (.tail _ (.tail _ (.tail _ (.tail _ (.tail _ (.head _))))))) (sb_cons (.tail _ (.tail _ (.tail _ (.tail _ (.tail _ (.tail _ (.tail _ (.head _)))))))) (sb_cons (.tail _ (.tail _ (.tail _ (.tail _ (.tail _ (.tail _ (.tail _ (.tail _ (.head _))))))))) (sb_cons (.tail _ (.tail _ (.tail _ (.tail _ (.tail _ (.tail _ (.tail _ (.tail _ (.tail _ (.head _)))))))))) (sb_cons (.tail _ (.tail _ (.tail _ (.tail _ (.tail _ (.tail _ (.tail _ (.tail _ (.tail _ (.tail _ (.head _))))))))))) sb_nil))))))))))) ?_
        exact l_law_x1 hP hn60 hz hv hw H mv (by omega) (key 0 (Or.inr ⟨rfl, fun q => absurd q.1.2 sz⟩))
    · skip
      refine wp_aload_n (i := 2) dL_law_256 rfl rfl ?_
      refine wp_iload (i := 6) dL_law_257 rfl ?_
      refine wp_aaloadAN 60 (some (nm 71 (ro v))) dL_law_259 H.1.1 H.1.2 (by omega) (by decide) ((H.2.1 v hv).1) ?_
      refine wp_iconst (nI 0) dL_law_260 (by decide) ?_
      refine wp_ialoadN 70 (nI (sTy V v)) dL_law_261 (H.2.1 v hv).2.2.1 (H.2.1 v hv).2.2.2.1 (by decide) (by decide) (((H.2.1 v hv).2.2.2.2 0 (by decide)).trans ((hP v hv).1)) ?_
      refine wp_bipush (nI 109) dL_law_262 (by decide) ?_
      refine wp_icmp_neN 271 dL_law_264 (by decide) (by omega) (by decide) (fun c_264 => absurd c_264 (by omega)) (fun c_264 => ?_)
      refine wp_iconst (nI 1) dL_law_267 (by decide) ?_
      refine wp_goto 272 dL_law_268 (by decide) ?_
      refine wp_aload_n (i := 2) dL_law_272 rfl rfl ?_
      refine wp_iload (i := 7) dL_law_273 rfl ?_
      refine wp_aaloadAN 60 (some (nm 71 (ro w))) dL_law_275 H.1.1 H.1.2 (by omega) (by decide) ((H.2.1 w hw).1) ?_
      refine wp_iconst (nI 0) dL_law_276 (by decide) ?_
      refine wp_ialoadN 70 (nI (sTy V w)) dL_law_277 (H.2.1 w hw).2.2.1 (H.2.1 w hw).2.2.2.1 (by decide) (by decide) (((H.2.1 w hw).2.2.2.2 0 (by decide)).trans ((hP w hw).1)) ?_
      refine wp_bipush (nI 109) dL_law_278 (by decide) ?_
      refine wp_icmp_neN 287 dL_law_280 (by decide) (by omega) (by decide) (fun c_280 => ?_) (fun c_280 => absurd c_280 (by omega))
      refine wp_iconst (nI 0) dL_law_287 (by decide) ?_
      refine wp_icmp_neN 310 dL_law_288 (by decide) (by decide) (by decide) (fun c_288 => ?_) (fun c_288 => absurd c_288 (by decide))
      refine wp_iconst (nI 0) dL_law_310 (by decide) ?_
      refine wp_istore (i := 9) (lv' := [(9, vi (nI 0)), (8, vi (nI aw)), (7, vi (nI w)), (6, vi (nI v)), (5, vi (nI 1)), (4, vr (some (nm 70 2))), (3, vr (some (nm 70 1))), (2, vr (some (nm 70 0))), (1, vr (some (nm 40 0))), (0, vr (some nS))]) dL_law_311 (by decide) rfl ?_
      refine wp_iconst (nI 0) dL_law_313 (by decide) ?_
      refine wp_istore (i := 10) (lv' := [(10, vi (nI 0)), (9, vi (nI 0)), (8, vi (nI aw)), (7, vi (nI w)), (6, vi (nI v)), (5, vi (nI 1)), (4, vr (some (nm 70 2))), (3, vr (some (nm 70 1))), (2, vr (some (nm 70 0))), (1, vr (some (nm 40 0))), (0, vr (some nS))]) dL_law_314 (by decide) rfl ?_
      refine wp_sub [(10, vi (nI 0)), (9, vi (nI 0)), (8, vi (nI aw)), (7, vi (nI w)), (6, vi (nI v)), (5, vi (nI 1)), (4, vr (some (nm 70 2))), (3, vr (some (nm 70 1))), (2, vr (some (nm 70 0))), (1, vr (some (nm 40 0))), (0, vr (some nS))] (sb_cons (.head _) (sb_cons (.tail _ (.head _)) (sb_cons (.tail _ (.tail _ (.head _))) (sb_cons (.tail _ (.tail _ (.tail _ (.head _)))) (sb_cons (.tail _ (.tail _ (.tail _ (.tail _ (.head _))))) (sb_cons (.tail _ (.tail _ (.tail _ (.tail _ (.tail _ (.head _)))))) (sb_cons (.tail _ (.tail _ (.tail _ (.tail _ (.tail _ (.tail _ (.head _))))))) (sb_cons (.tail _ (.tail _ (.tail _ (.tail _ (.tail _ (.tail _ (.tail _ (.head _)))))))) (sb_cons (.tail _ (.tail _ (.tail _ (.tail _ (.tail _ (.tail _ (.tail _ (.tail _ (.head _))))))))) (sb_cons (.tail _ (.tail _ (.tail _ (.tail _ (.tail _ (.tail _ (.tail _ (.tail _ (.tail _ (.head _)))))))))) (sb_cons (.tail _ (.tail _ (.tail _ (.tail _ (.tail _ (.tail _ (.tail _ (.tail _ (.tail _ (.tail _ (.head _))))))))))) sb_nil))))))))))) ?_
      exact l_law_x1 hP hn60 hz hv hw H mv (by omega) (key 0 (Or.inr ⟨rfl, fun q => mw (q.1.1.mp mv)⟩))
  · by_cases mw : sTy V w = 109
    · skip
      refine wp_aload_n (i := 2) dL_law_256 rfl rfl ?_
      refine wp_iload (i := 6) dL_law_257 rfl ?_
      refine wp_aaloadAN 60 (some (nm 71 (ro v))) dL_law_259 H.1.1 H.1.2 (by omega) (by decide) ((H.2.1 v hv).1) ?_
      refine wp_iconst (nI 0) dL_law_260 (by decide) ?_
      refine wp_ialoadN 70 (nI (sTy V v)) dL_law_261 (H.2.1 v hv).2.2.1 (H.2.1 v hv).2.2.2.1 (by decide) (by decide) (((H.2.1 v hv).2.2.2.2 0 (by decide)).trans ((hP v hv).1)) ?_
      refine wp_bipush (nI 109) dL_law_262 (by decide) ?_
      refine wp_icmp_neN 271 dL_law_264 (by decide) (by omega) (by decide) (fun c_264 => ?_) (fun c_264 => absurd c_264 (by omega))
      refine wp_iconst (nI 0) dL_law_271 (by decide) ?_
      refine wp_aload_n (i := 2) dL_law_272 rfl rfl ?_
      refine wp_iload (i := 7) dL_law_273 rfl ?_
      refine wp_aaloadAN 60 (some (nm 71 (ro w))) dL_law_275 H.1.1 H.1.2 (by omega) (by decide) ((H.2.1 w hw).1) ?_
      refine wp_iconst (nI 0) dL_law_276 (by decide) ?_
      refine wp_ialoadN 70 (nI (sTy V w)) dL_law_277 (H.2.1 w hw).2.2.1 (H.2.1 w hw).2.2.2.1 (by decide) (by decide) (((H.2.1 w hw).2.2.2.2 0 (by decide)).trans ((hP w hw).1)) ?_
      refine wp_bipush (nI 109) dL_law_278 (by decide) ?_
      refine wp_icmp_neN 287 dL_law_280 (by decide) (by omega) (by decide) (fun c_280 => absurd c_280 (by omega)) (fun c_280 => ?_)
      refine wp_iconst (nI 1) dL_law_283 (by decide) ?_
      refine wp_goto 288 dL_law_284 (by decide) ?_
      refine wp_icmp_neN 310 dL_law_288 (by decide) (by decide) (by decide) (fun c_288 => ?_) (fun c_288 => absurd c_288 (by decide))
      refine wp_iconst (nI 0) dL_law_310 (by decide) ?_
      refine wp_istore (i := 9) (lv' := [(9, vi (nI 0)), (8, vi (nI aw)), (7, vi (nI w)), (6, vi (nI v)), (5, vi (nI 1)), (4, vr (some (nm 70 2))), (3, vr (some (nm 70 1))), (2, vr (some (nm 70 0))), (1, vr (some (nm 40 0))), (0, vr (some nS))]) dL_law_311 (by decide) rfl ?_
      refine wp_iconst (nI 0) dL_law_313 (by decide) ?_
      refine wp_istore (i := 10) (lv' := [(10, vi (nI 0)), (9, vi (nI 0)), (8, vi (nI aw)), (7, vi (nI w)), (6, vi (nI v)), (5, vi (nI 1)), (4, vr (some (nm 70 2))), (3, vr (some (nm 70 1))), (2, vr (some (nm 70 0))), (1, vr (some (nm 40 0))), (0, vr (some nS))]) dL_law_314 (by decide) rfl ?_
      refine wp_sub [(10, vi (nI 0)), (9, vi (nI 0)), (8, vi (nI aw)), (7, vi (nI w)), (6, vi (nI v)), (5, vi (nI 1)), (4, vr (some (nm 70 2))), (3, vr (some (nm 70 1))), (2, vr (some (nm 70 0))), (1, vr (some (nm 40 0))), (0, vr (some nS))] (sb_cons (.head _) (sb_cons (.tail _ (.head _)) (sb_cons (.tail _ (.tail _ (.head _))) (sb_cons (.tail _ (.tail _ (.tail _ (.head _)))) (sb_cons (.tail _ (.tail _ (.tail _ (.tail _ (.head _))))) (sb_cons (.tail _ (.tail _ (.tail _ (.tail _ (.tail _ (.head _)))))) (sb_cons (.tail _ (.tail _ (.tail _ (.tail _ (.tail _ (.tail _ (.head _))))))) (sb_cons (.tail _ (.tail _ (.tail _ (.tail _ (.tail _ (.tail _ (.tail _ (.head _)))))))) (sb_cons (.tail _ (.tail _ (.tail _ (.tail _ (.tail _ (.tail _ (.tail _ (.tail _ (.head _))))))))) (sb_cons (.tail _ (.tail _ (.tail _ (.tail _ (.tail _ (.tail _ (.tail _ (.tail _ (.tail _ (.head _)))))))))) (sb_cons (.tail _ (.tail _ (.tail _ (.tail _ (.tail _ (.tail _ (.tail _ (.tail _ (.tail _ (.tail _ (.head _))))))))))) sb_nil))))))))))) ?_
      exact l_law_x0 hP hn60 hz hv hw H mv (by omega) (key 0 (Or.inr ⟨rfl, fun q => mv (q.1.1.mpr mw)⟩))
    · by_cases sz : sSz V v = sSz V w
      · skip
        refine wp_aload_n (i := 2) dL_law_256 rfl rfl ?_
        refine wp_iload (i := 6) dL_law_257 rfl ?_
        refine wp_aaloadAN 60 (some (nm 71 (ro v))) dL_law_259 H.1.1 H.1.2 (by omega) (by decide) ((H.2.1 v hv).1) ?_
        refine wp_iconst (nI 0) dL_law_260 (by decide) ?_
        refine wp_ialoadN 70 (nI (sTy V v)) dL_law_261 (H.2.1 v hv).2.2.1 (H.2.1 v hv).2.2.2.1 (by decide) (by decide) (((H.2.1 v hv).2.2.2.2 0 (by decide)).trans ((hP v hv).1)) ?_
        refine wp_bipush (nI 109) dL_law_262 (by decide) ?_
        refine wp_icmp_neN 271 dL_law_264 (by decide) (by omega) (by decide) (fun c_264 => ?_) (fun c_264 => absurd c_264 (by omega))
        refine wp_iconst (nI 0) dL_law_271 (by decide) ?_
        refine wp_aload_n (i := 2) dL_law_272 rfl rfl ?_
        refine wp_iload (i := 7) dL_law_273 rfl ?_
        refine wp_aaloadAN 60 (some (nm 71 (ro w))) dL_law_275 H.1.1 H.1.2 (by omega) (by decide) ((H.2.1 w hw).1) ?_
        refine wp_iconst (nI 0) dL_law_276 (by decide) ?_
        refine wp_ialoadN 70 (nI (sTy V w)) dL_law_277 (H.2.1 w hw).2.2.1 (H.2.1 w hw).2.2.2.1 (by decide) (by decide) (((H.2.1 w hw).2.2.2.2 0 (by decide)).trans ((hP w hw).1)) ?_
        refine wp_bipush (nI 109) dL_law_278 (by decide) ?_
        refine wp_icmp_neN 287 dL_law_280 (by decide) (by omega) (by decide) (fun c_280 => ?_) (fun c_280 => absurd c_280 (by omega))
        refine wp_iconst (nI 0) dL_law_287 (by decide) ?_
        refine wp_icmp_neN 310 dL_law_288 (by decide) (by decide) (by decide) (fun c_288 => absurd c_288 (by decide)) (fun c_288 => ?_)
        refine wp_aload_n (i := 2) dL_law_291 rfl rfl ?_
        refine wp_iload (i := 6) dL_law_292 rfl ?_
        refine wp_aaloadAN 60 (some (nm 71 (ro v))) dL_law_294 H.1.1 H.1.2 (by omega) (by decide) ((H.2.1 v hv).1) ?_
        refine wp_iconst (nI 1) dL_law_295 (by decide) ?_
        refine wp_ialoadN 70 (nI (sSz V v)) dL_law_296 (H.2.1 v hv).2.2.1 (H.2.1 v hv).2.2.2.1 (by decide) (by decide) (((H.2.1 v hv).2.2.2.2 1 (by decide)).trans ((hP v hv).2.1)) ?_
        refine wp_aload_n (i := 2) dL_law_297 rfl rfl ?_
        refine wp_iload (i := 7) dL_law_298 rfl ?_
        refine wp_aaloadAN 60 (some (nm 71 (ro w))) dL_law_300 H.1.1 H.1.2 (by omega) (by decide) ((H.2.1 w hw).1) ?_
        refine wp_iconst (nI 1) dL_law_301 (by decide) ?_
        refine wp_ialoadN 70 (nI (sSz V w)) dL_law_302 (H.2.1 w hw).2.2.1 (H.2.1 w hw).2.2.2.1 (by decide) (by decide) (((H.2.1 w hw).2.2.2.2 1 (by decide)).trans ((hP w hw).2.1)) ?_
        refine wp_icmp_neN 310 dL_law_303 (by decide) (by omega) (by omega) (fun c_303 => absurd c_303 (by omega)) (fun c_303 => ?_)
        refine wp_iconst (nI 1) dL_law_306 (by decide) ?_
        refine wp_goto 311 dL_law_307 (by decide) ?_
        refine wp_istore (i := 9) (lv' := [(9, vi (nI 1)), (8, vi (nI aw)), (7, vi (nI w)), (6, vi (nI v)), (5, vi (nI 1)), (4, vr (some (nm 70 2))), (3, vr (some (nm 70 1))), (2, vr (some (nm 70 0))), (1, vr (some (nm 40 0))), (0, vr (some nS))]) dL_law_311 (by decide) rfl ?_
        refine wp_iconst (nI 0) dL_law_313 (by decide) ?_
        refine wp_istore (i := 10) (lv' := [(10, vi (nI 0)), (9, vi (nI 1)), (8, vi (nI aw)), (7, vi (nI w)), (6, vi (nI v)), (5, vi (nI 1)), (4, vr (some (nm 70 2))), (3, vr (some (nm 70 1))), (2, vr (some (nm 70 0))), (1, vr (some (nm 40 0))), (0, vr (some nS))]) dL_law_314 (by decide) rfl ?_
        refine wp_sub [(10, vi (nI 0)), (9, vi (nI 1)), (8, vi (nI aw)), (7, vi (nI w)), (6, vi (nI v)), (5, vi (nI 1)), (4, vr (some (nm 70 2))), (3, vr (some (nm 70 1))), (2, vr (some (nm 70 0))), (1, vr (some (nm 40 0))), (0, vr (some nS))] (sb_cons (.head _) (sb_cons (.tail _ (.head _)) (sb_cons (.tail _ (.tail _ (.head _))) (sb_cons (.tail _ (.tail _ (.tail _ (.head _)))) (sb_cons (.tail _ (.tail _ (.tail _ (.tail _ (.head _))))) (sb_cons (.tail _ (.tail _ (.tail _ (.tail _ (.tail _ (.head _)))))) (sb_cons (.tail _ (.tail _ (.tail _ (.tail _ (.tail _ (.tail _ (.head _))))))) (sb_cons (.tail _ (.tail _ (.tail _ (.tail _ (.tail _ (.tail _ (.tail _ (.head _)))))))) (sb_cons (.tail _ (.tail _ (.tail _ (.tail _ (.tail _ (.tail _ (.tail _ (.tail _ (.head _))))))))) (sb_cons (.tail _ (.tail _ (.tail _ (.tail _ (.tail _ (.tail _ (.tail _ (.tail _ (.tail _ (.head _)))))))))) (sb_cons (.tail _ (.tail _ (.tail _ (.tail _ (.tail _ (.tail _ (.tail _ (.tail _ (.tail _ (.tail _ (.head _))))))))))) sb_nil))))))))))) ?_
        exact l_law_y0 hP hn60 hz hv hw H mv (fun b hb => key b (hb.imp (fun z => ⟨z.1, ⟨⟨by omega, sz⟩, fun j hj => z.2 j (by unfold rwN at hj; rw [if_neg mv] at hj; exact hj)⟩⟩) (fun z => ⟨z.1, fun q => z.2 (fun i hi => q.2 i (by unfold rwN; rw [if_neg mv]; exact hi))⟩))) (sSz V v) 0 rfl (fun i hi => absurd hi (Nat.not_lt_zero _))
      · skip
        refine wp_aload_n (i := 2) dL_law_256 rfl rfl ?_
        refine wp_iload (i := 6) dL_law_257 rfl ?_
        refine wp_aaloadAN 60 (some (nm 71 (ro v))) dL_law_259 H.1.1 H.1.2 (by omega) (by decide) ((H.2.1 v hv).1) ?_
        refine wp_iconst (nI 0) dL_law_260 (by decide) ?_
        refine wp_ialoadN 70 (nI (sTy V v)) dL_law_261 (H.2.1 v hv).2.2.1 (H.2.1 v hv).2.2.2.1 (by decide) (by decide) (((H.2.1 v hv).2.2.2.2 0 (by decide)).trans ((hP v hv).1)) ?_
        refine wp_bipush (nI 109) dL_law_262 (by decide) ?_
        refine wp_icmp_neN 271 dL_law_264 (by decide) (by omega) (by decide) (fun c_264 => ?_) (fun c_264 => absurd c_264 (by omega))
        refine wp_iconst (nI 0) dL_law_271 (by decide) ?_
        refine wp_aload_n (i := 2) dL_law_272 rfl rfl ?_
        refine wp_iload (i := 7) dL_law_273 rfl ?_
        refine wp_aaloadAN 60 (some (nm 71 (ro w))) dL_law_275 H.1.1 H.1.2 (by omega) (by decide) ((H.2.1 w hw).1) ?_
        refine wp_iconst (nI 0) dL_law_276 (by decide) ?_
        refine wp_ialoadN 70 (nI (sTy V w)) dL_law_277 (H.2.1 w hw).2.2.1 (H.2.1 w hw).2.2.2.1 (by decide) (by decide) (((H.2.1 w hw).2.2.2.2 0 (by decide)).trans ((hP w hw).1)) ?_
        refine wp_bipush (nI 109) dL_law_278 (by decide) ?_
        refine wp_icmp_neN 287 dL_law_280 (by decide) (by omega) (by decide) (fun c_280 => ?_) (fun c_280 => absurd c_280 (by omega))
        refine wp_iconst (nI 0) dL_law_287 (by decide) ?_
        refine wp_icmp_neN 310 dL_law_288 (by decide) (by decide) (by decide) (fun c_288 => absurd c_288 (by decide)) (fun c_288 => ?_)
        refine wp_aload_n (i := 2) dL_law_291 rfl rfl ?_
        refine wp_iload (i := 6) dL_law_292 rfl ?_
        refine wp_aaloadAN 60 (some (nm 71 (ro v))) dL_law_294 H.1.1 H.1.2 (by omega) (by decide) ((H.2.1 v hv).1) ?_
        refine wp_iconst (nI 1) dL_law_295 (by decide) ?_
        refine wp_ialoadN 70 (nI (sSz V v)) dL_law_296 (H.2.1 v hv).2.2.1 (H.2.1 v hv).2.2.2.1 (by decide) (by decide) (((H.2.1 v hv).2.2.2.2 1 (by decide)).trans ((hP v hv).2.1)) ?_
        refine wp_aload_n (i := 2) dL_law_297 rfl rfl ?_
        refine wp_iload (i := 7) dL_law_298 rfl ?_
        refine wp_aaloadAN 60 (some (nm 71 (ro w))) dL_law_300 H.1.1 H.1.2 (by omega) (by decide) ((H.2.1 w hw).1) ?_
        refine wp_iconst (nI 1) dL_law_301 (by decide) ?_
        refine wp_ialoadN 70 (nI (sSz V w)) dL_law_302 (H.2.1 w hw).2.2.1 (H.2.1 w hw).2.2.2.1 (by decide) (by decide) (((H.2.1 w hw).2.2.2.2 1 (by decide)).trans ((hP w hw).2.1)) ?_
        refine wp_icmp_neN 310 dL_law_303 (by decide) (by omega) (by omega) (fun c_303 => ?_) (fun c_303 => absurd c_303 (by omega))
        refine wp_iconst (nI 0) dL_law_310 (by decide) ?_
        refine wp_istore (i := 9) (lv' := [(9, vi (nI 0)), (8, vi (nI aw)), (7, vi (nI w)), (6, vi (nI v)), (5, vi (nI 1)), (4, vr (some (nm 70 2))), (3, vr (some (nm 70 1))), (2, vr (some (nm 70 0))), (1, vr (some (nm 40 0))), (0, vr (some nS))]) dL_law_311 (by decide) rfl ?_
        refine wp_iconst (nI 0) dL_law_313 (by decide) ?_
        refine wp_istore (i := 10) (lv' := [(10, vi (nI 0)), (9, vi (nI 0)), (8, vi (nI aw)), (7, vi (nI w)), (6, vi (nI v)), (5, vi (nI 1)), (4, vr (some (nm 70 2))), (3, vr (some (nm 70 1))), (2, vr (some (nm 70 0))), (1, vr (some (nm 40 0))), (0, vr (some nS))]) dL_law_314 (by decide) rfl ?_
        refine wp_sub [(10, vi (nI 0)), (9, vi (nI 0)), (8, vi (nI aw)), (7, vi (nI w)), (6, vi (nI v)), (5, vi (nI 1)), (4, vr (some (nm 70 2))), (3, vr (some (nm 70 1))), (2, vr (some (nm 70 0))), (1, vr (some (nm 40 0))), (0, vr (some nS))] (sb_cons (.head _) (sb_cons (.tail _ (.head _)) (sb_cons (.tail _ (.tail _ (.head _))) (sb_cons (.tail _ (.tail _ (.tail _ (.head _)))) (sb_cons (.tail _ (.tail _ (.tail _ (.tail _ (.head _))))) (sb_cons (.tail _ (.tail _ (.tail _ (.tail _ (.tail _ (.head _)))))) (sb_cons (.tail _ (.tail _ (.tail _ (.tail _ (.tail _ (.tail _ (.head _))))))) (sb_cons (.tail _ (.tail _ (.tail _ (.tail _ (.tail _ (.tail _ (.tail _ (.head _)))))))) (sb_cons (.tail _ (.tail _ (.tail _ (.tail _ (.tail _ (.tail _ (.tail _ (.tail _ (.head _))))))))) (sb_cons (.tail _ (.tail _ (.tail _ (.tail _ (.tail _ (.tail _ (.tail _ (.tail _ (.tail _ (.head _)))))))))) (sb_cons (.tail _ (.tail _ (.tail _ (.tail _ (.tail _ (.tail _ (.tail _ (.tail _ (.tail _ (.tail _ (.head _))))))))))) sb_nil))))))))))) ?_
        exact l_law_x0 hP hn60 hz hv hw H mv (by omega) (key 0 (Or.inr ⟨rfl, fun q => absurd q.1.2 sz⟩))
set_option maxRecDepth 100000 in
set_option maxHeartbeats 4000000 in
theorem l_law_vl {G : GG} {d K J c n : Nat} {Q : Pst} {V : SV} {x : Nat → QIS} {R : RS} {ro : Nat → Nat} {rf : Nat → Nat → Int32} {op : Nat → Bool} {X Y : Nat} (B : PU c V n x R) (hc : c ≤ 512) (hP : ∀ v, v < sNv V → RowP (vp V v) (rf v)) (hL : slen G < 2 ^ 31) (hd : 60 ≤ d) {M0 : Nat} (hM0 : M0 + 14000 < 900000) (hK : ∀ h' M' bc' bs', CLS h' V M' n x R → LWH h' (sNv V) n (RS_rn R) ro rf K J op → M' ≤ M0 + 12720 → X ≤ bc' → Y ≤ bs' → WP G m_L_law d 437 [(5, vi (nI 1)), (3, vr (some (nm 70 1))), (1, vr (some (nm 40 0)))] [] h' bc' bs' Q) : ∀ m v h M bc bs, m + v = sNv V → CLS h V M n x R → LWH h (sNv V) n (RS_rn R) ro rf K J op → M ≤ M0 + 212 * v → 1260 * m + X ≤ bc → 8250 * m + Y ≤ bs → WP G m_L_law d 199 [(6, vi (nI v)), (5, vi (nI 1)), (4, vr (some (nm 70 2))), (3, vr (some (nm 70 1))), (2, vr (some (nm 70 0))), (1, vr (some (nm 40 0))), (0, vr (some nS))] [] h bc bs Q := by
  have hn60 := B.1.1
  intro m
  induction m with
  | zero =>
    intro v h M bc bs hm C H hMv hbc hbs
    have hv9 : v = sNv V := by omega
    subst hv9
    refine wp_iload (i := 6) dL_law_199 rfl ?_
    refine wp_aload_n (i := 3) dL_law_201 rfl rfl ?_
    refine wp_iconst (nI 0) dL_law_202 (by decide) ?_
    refine wp_ialoadN 3 (nI (sNv V)) dL_law_203 H.2.2.2.1.1 H.2.2.2.1.2.1 (by decide) (by decide) (H.2.2.2.1.2.2.1) ?_
    refine wp_icmp_geN 437 dL_law_204 (by decide) (by omega) (by omega) (fun c_204 => ?_) (fun c_204 => absurd c_204 (by omega))
    refine wp_sub [(5, vi (nI 1)), (3, vr (some (nm 70 1))), (1, vr (some (nm 40 0)))] (sb_cons (.tail _ (.head _)) (sb_cons (.tail _ (.tail _ (.tail _ (.head _)))) (sb_cons (.tail _ (.tail _ (.tail _ (.tail _ (.tail _ (.head _)))))) sb_nil))) ?_
    exact hK _ _ _ _ C H (by omega) (by omega) (by omega)
  | succ m ih =>
    intro v h M bc bs hm C H hMv hbc hbs
    have hv : v < sNv V := by omega
    have hwp := @pkv_lt G (800 + v) (sNv V) (by omega)
    have hzv : sTy V v ≤ 120 := by have := (B.1.2.1 v hv).1; have : sTy V v = 118 ∨ sTy V v = 111 ∨ sTy V v = 109 ∨ sTy V v = 120 := this; omega
    obtain ⟨w, hwe⟩ : ∃ w, pkV G (800 + v) (sNv V) = w := ⟨_, rfl⟩
    have hw : w < sNv V := by rw [← hwe]; exact hwp
    have hzw : sTy V w ≤ 120 := by have := (B.1.2.1 w hw).1; have : sTy V w = 118 ∨ sTy V w = 111 ∨ sTy V w = 109 ∨ sTy V w = 120 := this; omega
    by_cases tv : sTy V v = 120
    · skip
      refine wp_iload (i := 6) dL_law_199 rfl ?_
      refine wp_aload_n (i := 3) dL_law_201 rfl rfl ?_
      refine wp_iconst (nI 0) dL_law_202 (by decide) ?_
      refine wp_ialoadN 3 (nI (sNv V)) dL_law_203 H.2.2.2.1.1 H.2.2.2.1.2.1 (by decide) (by decide) (H.2.2.2.1.2.2.1) ?_
      refine wp_icmp_geN 437 dL_law_204 (by decide) (by omega) (by omega) (fun c_204 => absurd c_204 (by omega)) (fun c_204 => ?_)
      refine wp_iload (i := 5) dL_law_207 rfl ?_
      refine wp_if_eqN 437 dL_law_209 (by decide) (by decide) (fun c_209 => absurd c_209 (by decide)) (fun c_209 => ?_)
      refine wp_aload_n (i := 0) dL_law_212 rfl rfl ?_
      refine wp_sipush (nI 800) dL_law_213 (by decide) ?_
      refine wp_iload (i := 6) dL_law_216 rfl ?_
      refine wp_iaddN dL_law_218 ?_
      refine wp_aload_n (i := 3) dL_law_219 rfl rfl ?_
      refine wp_iconst (nI 0) dL_law_220 (by decide) ?_
      refine wp_ialoadN 3 (nI (sNv V)) dL_law_221 H.2.2.2.1.1 H.2.2.2.1.2.1 (by decide) (by decide) (H.2.2.2.1.2.2.1) ?_
      refine wp_cS (y' := m_L_pick) [vr (some nS), vi (nI (800 + v)), vi (nI (sNv V))] [] 0 0 dL_law_222 ml_L_199 st_L_pick ok_L_pick rfl (Nat.le_of_ble_eq_true rfl) rfl (Nat.le_of_ble_eq_true rfl) (d' := d - 1) (by omega) (Nat.zero_le _) (Nat.zero_le _) (c_L_pick (by omega) (by omega) (by omega) hL (by omega) (cont_ret ?_))
      rw [hwe]
      refine wp_istore (i := 7) (lv' := [(7, vi (nI w)), (6, vi (nI v)), (5, vi (nI 1)), (4, vr (some (nm 70 2))), (3, vr (some (nm 70 1))), (2, vr (some (nm 70 0))), (1, vr (some (nm 40 0))), (0, vr (some nS))]) dL_law_225 (by decide) rfl ?_
      refine wp_aload_n (i := 2) dL_law_227 rfl rfl ?_
      refine wp_iload (i := 6) dL_law_228 rfl ?_
      refine wp_aaloadAN 60 (some (nm 71 (ro v))) dL_law_230 H.1.1 H.1.2 (by omega) (by decide) ((H.2.1 v hv).1) ?_
      refine wp_iconst (nI 0) dL_law_231 (by decide) ?_
      refine wp_ialoadN 70 (nI (sTy V v)) dL_law_232 (H.2.1 v hv).2.2.1 (H.2.1 v hv).2.2.2.1 (by decide) (by decide) (((H.2.1 v hv).2.2.2.2 0 (by decide)).trans ((hP v hv).1)) ?_
      refine wp_bipush (nI 120) dL_law_233 (by decide) ?_
      refine wp_icmp_eqN 249 dL_law_235 (by decide) (by omega) (by decide) (fun c_235 => ?_) (fun c_235 => absurd c_235 (by omega))
      refine wp_iconst (nI 1) dL_law_249 (by decide) ?_
      refine wp_goto 254 dL_law_250 (by decide) ?_
      refine wp_istore (i := 8) (lv' := [(8, vi (nI 1)), (7, vi (nI w)), (6, vi (nI v)), (5, vi (nI 1)), (4, vr (some (nm 70 2))), (3, vr (some (nm 70 1))), (2, vr (some (nm 70 0))), (1, vr (some (nm 40 0))), (0, vr (some nS))]) dL_law_254 (by decide) rfl ?_
      refine wp_sub [(8, vi (nI 1)), (7, vi (nI w)), (6, vi (nI v)), (5, vi (nI 1)), (4, vr (some (nm 70 2))), (3, vr (some (nm 70 1))), (2, vr (some (nm 70 0))), (1, vr (some (nm 40 0))), (0, vr (some nS))] (sb_cons (.head _) (sb_cons (.tail _ (.head _)) (sb_cons (.tail _ (.tail _ (.head _))) (sb_cons (.tail _ (.tail _ (.tail _ (.head _)))) (sb_cons (.tail _ (.tail _ (.tail _ (.tail _ (.head _))))) (sb_cons (.tail _ (.tail _ (.tail _ (.tail _ (.tail _ (.head _)))))) (sb_cons (.tail _ (.tail _ (.tail _ (.tail _ (.tail _ (.tail _ (.head _))))))) (sb_cons (.tail _ (.tail _ (.tail _ (.tail _ (.tail _ (.tail _ (.tail _ (.head _)))))))) (sb_cons (.tail _ (.tail _ (.tail _ (.tail _ (.tail _ (.tail _ (.tail _ (.tail _ (.head _))))))))) sb_nil))))))))) ?_
      exact l_law_e3 (X := 1260 * m + X) (Y := 8250 * m + Y) B hc hP hL hd hv hw (Or.inl ⟨rfl, Or.inl tv⟩) C H (by omega) (by omega) (by omega) (fun h9 M9 bc9 bs9 C9 H9 m9 b1 b2 => ih (v + 1) _ _ _ _ (by omega) C9 H9 (by omega) b1 b2)
    · by_cases tw : sTy V w = 120
      · skip
        refine wp_iload (i := 6) dL_law_199 rfl ?_
        refine wp_aload_n (i := 3) dL_law_201 rfl rfl ?_
        refine wp_iconst (nI 0) dL_law_202 (by decide) ?_
        refine wp_ialoadN 3 (nI (sNv V)) dL_law_203 H.2.2.2.1.1 H.2.2.2.1.2.1 (by decide) (by decide) (H.2.2.2.1.2.2.1) ?_
        refine wp_icmp_geN 437 dL_law_204 (by decide) (by omega) (by omega) (fun c_204 => absurd c_204 (by omega)) (fun c_204 => ?_)
        refine wp_iload (i := 5) dL_law_207 rfl ?_
        refine wp_if_eqN 437 dL_law_209 (by decide) (by decide) (fun c_209 => absurd c_209 (by decide)) (fun c_209 => ?_)
        refine wp_aload_n (i := 0) dL_law_212 rfl rfl ?_
        refine wp_sipush (nI 800) dL_law_213 (by decide) ?_
        refine wp_iload (i := 6) dL_law_216 rfl ?_
        refine wp_iaddN dL_law_218 ?_
        refine wp_aload_n (i := 3) dL_law_219 rfl rfl ?_
        refine wp_iconst (nI 0) dL_law_220 (by decide) ?_
        refine wp_ialoadN 3 (nI (sNv V)) dL_law_221 H.2.2.2.1.1 H.2.2.2.1.2.1 (by decide) (by decide) (H.2.2.2.1.2.2.1) ?_
        refine wp_cS (y' := m_L_pick) [vr (some nS), vi (nI (800 + v)), vi (nI (sNv V))] [] 0 0 dL_law_222 ml_L_199 st_L_pick ok_L_pick rfl (Nat.le_of_ble_eq_true rfl) rfl (Nat.le_of_ble_eq_true rfl) (d' := d - 1) (by omega) (Nat.zero_le _) (Nat.zero_le _) (c_L_pick (by omega) (by omega) (by omega) hL (by omega) (cont_ret ?_))
        rw [hwe]
        refine wp_istore (i := 7) (lv' := [(7, vi (nI w)), (6, vi (nI v)), (5, vi (nI 1)), (4, vr (some (nm 70 2))), (3, vr (some (nm 70 1))), (2, vr (some (nm 70 0))), (1, vr (some (nm 40 0))), (0, vr (some nS))]) dL_law_225 (by decide) rfl ?_
        refine wp_aload_n (i := 2) dL_law_227 rfl rfl ?_
        refine wp_iload (i := 6) dL_law_228 rfl ?_
        refine wp_aaloadAN 60 (some (nm 71 (ro v))) dL_law_230 H.1.1 H.1.2 (by omega) (by decide) ((H.2.1 v hv).1) ?_
        refine wp_iconst (nI 0) dL_law_231 (by decide) ?_
        refine wp_ialoadN 70 (nI (sTy V v)) dL_law_232 (H.2.1 v hv).2.2.1 (H.2.1 v hv).2.2.2.1 (by decide) (by decide) (((H.2.1 v hv).2.2.2.2 0 (by decide)).trans ((hP v hv).1)) ?_
        refine wp_bipush (nI 120) dL_law_233 (by decide) ?_
        refine wp_icmp_eqN 249 dL_law_235 (by decide) (by omega) (by decide) (fun c_235 => absurd c_235 (by omega)) (fun c_235 => ?_)
        refine wp_aload_n (i := 2) dL_law_238 rfl rfl ?_
        refine wp_iload (i := 7) dL_law_239 rfl ?_
        refine wp_aaloadAN 60 (some (nm 71 (ro w))) dL_law_241 H.1.1 H.1.2 (by omega) (by decide) ((H.2.1 w hw).1) ?_
        refine wp_iconst (nI 0) dL_law_242 (by decide) ?_
        refine wp_ialoadN 70 (nI (sTy V w)) dL_law_243 (H.2.1 w hw).2.2.1 (H.2.1 w hw).2.2.2.1 (by decide) (by decide) (((H.2.1 w hw).2.2.2.2 0 (by decide)).trans ((hP w hw).1)) ?_
        refine wp_bipush (nI 120) dL_law_244 (by decide) ?_
        refine wp_icmp_neN 253 dL_law_246 (by decide) (by omega) (by decide) (fun c_246 => absurd c_246 (by omega)) (fun c_246 => ?_)
        refine wp_iconst (nI 1) dL_law_249 (by decide) ?_
        refine wp_goto 254 dL_law_250 (by decide) ?_
        refine wp_istore (i := 8) (lv' := [(8, vi (nI 1)), (7, vi (nI w)), (6, vi (nI v)), (5, vi (nI 1)), (4, vr (some (nm 70 2))), (3, vr (some (nm 70 1))), (2, vr (some (nm 70 0))), (1, vr (some (nm 40 0))), (0, vr (some nS))]) dL_law_254 (by decide) rfl ?_
        refine wp_sub [(8, vi (nI 1)), (7, vi (nI w)), (6, vi (nI v)), (5, vi (nI 1)), (4, vr (some (nm 70 2))), (3, vr (some (nm 70 1))), (2, vr (some (nm 70 0))), (1, vr (some (nm 40 0))), (0, vr (some nS))] (sb_cons (.head _) (sb_cons (.tail _ (.head _)) (sb_cons (.tail _ (.tail _ (.head _))) (sb_cons (.tail _ (.tail _ (.tail _ (.head _)))) (sb_cons (.tail _ (.tail _ (.tail _ (.tail _ (.head _))))) (sb_cons (.tail _ (.tail _ (.tail _ (.tail _ (.tail _ (.head _)))))) (sb_cons (.tail _ (.tail _ (.tail _ (.tail _ (.tail _ (.tail _ (.head _))))))) (sb_cons (.tail _ (.tail _ (.tail _ (.tail _ (.tail _ (.tail _ (.tail _ (.head _)))))))) (sb_cons (.tail _ (.tail _ (.tail _ (.tail _ (.tail _ (.tail _ (.tail _ (.tail _ (.head _))))))))) sb_nil))))))))) ?_
        exact l_law_e3 (X := 1260 * m + X) (Y := 8250 * m + Y) B hc hP hL hd hv hw (Or.inl ⟨rfl, Or.inr tw⟩) C H (by omega) (by omega) (by omega) (fun h9 M9 bc9 bs9 C9 H9 m9 b1 b2 => ih (v + 1) _ _ _ _ (by omega) C9 H9 (by omega) b1 b2)
      · skip
        refine wp_iload (i := 6) dL_law_199 rfl ?_
        refine wp_aload_n (i := 3) dL_law_201 rfl rfl ?_
        refine wp_iconst (nI 0) dL_law_202 (by decide) ?_
        refine wp_ialoadN 3 (nI (sNv V)) dL_law_203 H.2.2.2.1.1 H.2.2.2.1.2.1 (by decide) (by decide) (H.2.2.2.1.2.2.1) ?_
        refine wp_icmp_geN 437 dL_law_204 (by decide) (by omega) (by omega) (fun c_204 => absurd c_204 (by omega)) (fun c_204 => ?_)
        refine wp_iload (i := 5) dL_law_207 rfl ?_
        refine wp_if_eqN 437 dL_law_209 (by decide) (by decide) (fun c_209 => absurd c_209 (by decide)) (fun c_209 => ?_)
        refine wp_aload_n (i := 0) dL_law_212 rfl rfl ?_
        refine wp_sipush (nI 800) dL_law_213 (by decide) ?_
        refine wp_iload (i := 6) dL_law_216 rfl ?_
        refine wp_iaddN dL_law_218 ?_
        refine wp_aload_n (i := 3) dL_law_219 rfl rfl ?_
        refine wp_iconst (nI 0) dL_law_220 (by decide) ?_
        refine wp_ialoadN 3 (nI (sNv V)) dL_law_221 H.2.2.2.1.1 H.2.2.2.1.2.1 (by decide) (by decide) (H.2.2.2.1.2.2.1) ?_
        refine wp_cS (y' := m_L_pick) [vr (some nS), vi (nI (800 + v)), vi (nI (sNv V))] [] 0 0 dL_law_222 ml_L_199 st_L_pick ok_L_pick rfl (Nat.le_of_ble_eq_true rfl) rfl (Nat.le_of_ble_eq_true rfl) (d' := d - 1) (by omega) (Nat.zero_le _) (Nat.zero_le _) (c_L_pick (by omega) (by omega) (by omega) hL (by omega) (cont_ret ?_))
        rw [hwe]
        refine wp_istore (i := 7) (lv' := [(7, vi (nI w)), (6, vi (nI v)), (5, vi (nI 1)), (4, vr (some (nm 70 2))), (3, vr (some (nm 70 1))), (2, vr (some (nm 70 0))), (1, vr (some (nm 40 0))), (0, vr (some nS))]) dL_law_225 (by decide) rfl ?_
        refine wp_aload_n (i := 2) dL_law_227 rfl rfl ?_
        refine wp_iload (i := 6) dL_law_228 rfl ?_
        refine wp_aaloadAN 60 (some (nm 71 (ro v))) dL_law_230 H.1.1 H.1.2 (by omega) (by decide) ((H.2.1 v hv).1) ?_
        refine wp_iconst (nI 0) dL_law_231 (by decide) ?_
        refine wp_ialoadN 70 (nI (sTy V v)) dL_law_232 (H.2.1 v hv).2.2.1 (H.2.1 v hv).2.2.2.1 (by decide) (by decide) (((H.2.1 v hv).2.2.2.2 0 (by decide)).trans ((hP v hv).1)) ?_
        refine wp_bipush (nI 120) dL_law_233 (by decide) ?_
        refine wp_icmp_eqN 249 dL_law_235 (by decide) (by omega) (by decide) (fun c_235 => absurd c_235 (by omega)) (fun c_235 => ?_)
        refine wp_aload_n (i := 2) dL_law_238 rfl rfl ?_
        refine wp_iload (i := 7) dL_law_239 rfl ?_
        refine wp_aaloadAN 60 (some (nm 71 (ro w))) dL_law_241 H.1.1 H.1.2 (by omega) (by decide) ((H.2.1 w hw).1) ?_
        refine wp_iconst (nI 0) dL_law_242 (by decide) ?_
        refine wp_ialoadN 70 (nI (sTy V w)) dL_law_243 (H.2.1 w hw).2.2.1 (H.2.1 w hw).2.2.2.1 (by decide) (by decide) (((H.2.1 w hw).2.2.2.2 0 (by decide)).trans ((hP w hw).1)) ?_
        refine wp_bipush (nI 120) dL_law_244 (by decide) ?_
        refine wp_icmp_neN 253 dL_law_246 (by decide) (by omega) (by decide) (fun c_246 => ?_) (fun c_246 => absurd c_246 (by omega))
        refine wp_iconst (nI 0) dL_law_253 (by decide) ?_
        refine wp_istore (i := 8) (lv' := [(8, vi (nI 0)), (7, vi (nI w)), (6, vi (nI v)), (5, vi (nI 1)), (4, vr (some (nm 70 2))), (3, vr (some (nm 70 1))), (2, vr (some (nm 70 0))), (1, vr (some (nm 40 0))), (0, vr (some nS))]) dL_law_254 (by decide) rfl ?_
        refine wp_sub [(8, vi (nI 0)), (7, vi (nI w)), (6, vi (nI v)), (5, vi (nI 1)), (4, vr (some (nm 70 2))), (3, vr (some (nm 70 1))), (2, vr (some (nm 70 0))), (1, vr (some (nm 40 0))), (0, vr (some nS))] (sb_cons (.head _) (sb_cons (.tail _ (.head _)) (sb_cons (.tail _ (.tail _ (.head _))) (sb_cons (.tail _ (.tail _ (.tail _ (.head _)))) (sb_cons (.tail _ (.tail _ (.tail _ (.tail _ (.head _))))) (sb_cons (.tail _ (.tail _ (.tail _ (.tail _ (.tail _ (.head _)))))) (sb_cons (.tail _ (.tail _ (.tail _ (.tail _ (.tail _ (.tail _ (.head _))))))) (sb_cons (.tail _ (.tail _ (.tail _ (.tail _ (.tail _ (.tail _ (.tail _ (.head _)))))))) (sb_cons (.tail _ (.tail _ (.tail _ (.tail _ (.tail _ (.tail _ (.tail _ (.tail _ (.head _))))))))) sb_nil))))))))) ?_
        exact l_law_e3 (X := 1260 * m + X) (Y := 8250 * m + Y) B hc hP hL hd hv hw (Or.inr ⟨rfl, fun z => z.elim tv tw⟩) C H (by omega) (by omega) (by omega) (fun h9 M9 bc9 bs9 C9 H9 m9 b1 b2 => ih (v + 1) _ _ _ _ (by omega) C9 H9 (by omega) b1 b2)
set_option maxRecDepth 100000 in
set_option maxHeartbeats 4000000 in
theorem l_law_end {G : GG} {d K J c n : Nat} {Q : Pst} {V : SV} {x : Nat → QIS} {R : RS} {ro : Nat → Nat} {rf : Nat → Nat → Int32} {op : Nat → Bool} {X Y : Nat} (B : PU c V n x R) (hc : c ≤ 512) (hP : ∀ v, v < sNv V → RowP (vp V v) (rf v)) (hL : slen G < 2 ^ 31) (hd : 60 ≤ d) (hI0 : IN0 V) {h : Hp} {M bc bs : Nat} (C : CLS h V M n x R) (H : LWH h (sNv V) n (RS_rn R) ro rf K J op) (hM : M + 10 < 900000) (hbc : 200 ≤ bc) (hbs : 1100 ≤ bs) (hq : ∀ h, Q (oRet (vi (nI 1))) h) : WP G m_L_law d 437 [(5, vi (nI 1)), (3, vr (some (nm 70 1))), (1, vr (some (nm 40 0)))] [] h bc bs Q := by
  have hn60 := B.1.1
  by_cases z : sNv V = 0
  · skip
    refine wp_iload (i := 5) dL_law_437 rfl ?_
    refine wp_if_eqN 470 dL_law_439 (by decide) (by decide) (fun c_439 => absurd c_439 (by decide)) (fun c_439 => ?_)
    refine wp_aload_n (i := 3) dL_law_442 rfl rfl ?_
    refine wp_iconst (nI 0) dL_law_443 (by decide) ?_
    refine wp_ialoadN 3 (nI (sNv V)) dL_law_444 H.2.2.2.1.1 H.2.2.2.1.2.1 (by decide) (by decide) (H.2.2.2.1.2.2.1) ?_
    refine wp_if_eqN 466 dL_law_445 (by decide) (by omega) (fun c_445 => ?_) (fun c_445 => absurd c_445 (by omega))
    refine wp_iconst (nI 1) dL_law_466 (by decide) ?_
    refine wp_goto 471 dL_law_467 (by decide) ?_
    refine wp_zreturn dL_law_471 rfl (by decide) ?_
    exact hq _
  · have hp : 0 < sNv V := by omega
    refine wp_iload (i := 5) dL_law_437 rfl ?_
    refine wp_if_eqN 470 dL_law_439 (by decide) (by decide) (fun c_439 => absurd c_439 (by decide)) (fun c_439 => ?_)
    refine wp_aload_n (i := 3) dL_law_442 rfl rfl ?_
    refine wp_iconst (nI 0) dL_law_443 (by decide) ?_
    refine wp_ialoadN 3 (nI (sNv V)) dL_law_444 H.2.2.2.1.1 H.2.2.2.1.2.1 (by decide) (by decide) (H.2.2.2.1.2.2.1) ?_
    refine wp_if_eqN 466 dL_law_445 (by decide) (by omega) (fun c_445 => absurd c_445 (by omega)) (fun c_445 => ?_)
    refine wp_aload_n (i := 1) dL_law_448 rfl rfl ?_
    refine wp_cV (y' := m_X11_sharing) 12 [] [] 80 500 dL_law_449 ml_L_243 im_X11_sharing se_X11_sharing (by decide) C.hk ok_X11_sharing rfl (Nat.le_of_ble_eq_true rfl) rfl (Nat.le_of_ble_eq_true rfl) (d' := d - 1) (by omega) (by omega) (by omega) (c_sharing B hI0 hp C (by omega) (by omega) (by omega) (by omega) (fun h1 f1 u1 v1 C1 F1 => cont_ret ?_))
    refine wp_fconst0 dL_law_452 ?_
    refine wp_fcmp dL_law_453 ?_
    rw [u1]
    refine wp_if_leN 470 dL_law_454 (by decide) (by decide) (fun c_454 => absurd c_454 (by decide)) (fun c_454 => ?_)
    refine wp_aload_n (i := 1) dL_law_457 rfl rfl ?_
    refine wp_cV (y' := m_X11_sharing) 12 [] [] 80 500 dL_law_458 ml_L_243 im_X11_sharing se_X11_sharing (by decide) C1.hk ok_X11_sharing rfl (Nat.le_of_ble_eq_true rfl) rfl (Nat.le_of_ble_eq_true rfl) (d' := d - 1) (by omega) (by omega) (by omega) (c_sharing B hI0 hp C1 (by omega) (by omega) (by omega) (by omega) (fun h2 f2 u2 v2 C2 F2 => cont_ret ?_))
    refine wp_fconst1 dL_law_461 ?_
    refine wp_fcmp dL_law_462 ?_
    refine wp_if_gt 470 dL_law_463 (by decide) (fun c_463 => absurd c_463 (fun z => by rcases v2 with e9 | e9 <;> rw [e9] at z <;> revert z <;> decide)) (fun c_463 => ?_)
    refine wp_iconst (nI 1) dL_law_466 (by decide) ?_
    refine wp_goto 471 dL_law_467 (by decide) ?_
    refine wp_zreturn dL_law_471 rfl (by decide) ?_
    exact hq _
set_option maxRecDepth 100000 in
set_option maxHeartbeats 4000000 in
theorem l_law_fin {G : GG} {d K J c M n : Nat} {Q : Pst} {V : SV} {x : Nat → QIS} {R : RS} {ro : Nat → Nat} {rf : Nat → Nat → Int32} {op : Nat → Bool} {h : Hp} {bc bs : Nat} (L : LSt 110 K J c M n V x R ro rf op h) (hL : slen G < 2 ^ 31) (hd : 60 ≤ d) (hM : M ≤ 700000) (hbc : 80000 ≤ bc) (hbs : 520000 ≤ bs) (hq : ∀ h, Q (oRet (vi (nI 1))) h) : WP G m_L_law d 196 [(6, vi (nI 110)), (5, vi (nI 1)), (4, vr (some (nm 70 2))), (3, vr (some (nm 70 1))), (2, vr (some (nm 70 0))), (1, vr (some (nm 40 0))), (0, vr (some nS))] [] h bc bs Q := by
  obtain ⟨B, hc4, hP, hI0, hb, HI, HO, C, H⟩ := L
  have hn60 := B.1.1
  refine wp_iconst (nI 0) dL_law_196 (by decide) ?_
  refine wp_istore (i := 6) (lv' := [(6, vi (nI 0)), (5, vi (nI 1)), (4, vr (some (nm 70 2))), (3, vr (some (nm 70 1))), (2, vr (some (nm 70 0))), (1, vr (some (nm 40 0))), (0, vr (some nS))]) dL_law_197 (by decide) rfl ?_
  refine wp_sub [(6, vi (nI 0)), (5, vi (nI 1)), (4, vr (some (nm 70 2))), (3, vr (some (nm 70 1))), (2, vr (some (nm 70 0))), (1, vr (some (nm 40 0))), (0, vr (some nS))] (sb_cons (.head _) (sb_cons (.tail _ (.head _)) (sb_cons (.tail _ (.tail _ (.head _))) (sb_cons (.tail _ (.tail _ (.tail _ (.head _)))) (sb_cons (.tail _ (.tail _ (.tail _ (.tail _ (.head _))))) (sb_cons (.tail _ (.tail _ (.tail _ (.tail _ (.tail _ (.head _)))))) (sb_cons (.tail _ (.tail _ (.tail _ (.tail _ (.tail _ (.tail _ (.head _))))))) sb_nil))))))) ?_
  exact l_law_vl (X := 200) (Y := 1100) B (by omega) hP hL hd (M0 := M) (by omega) (fun h9 M9 bc9 bs9 C9 H9 m9 b1 b2 => l_law_end (X := 0) (Y := 0) B (by omega) hP hL hd hI0 C9 H9 (by omega) b1 b2 hq) (sNv V) 0 _ _ _ _ rfl C H (by omega) (by omega) (by omega)
