/-! transact: commit and end. -/
set_option maxRecDepth 100000 in
set_option maxHeartbeats 4000000 in
theorem l_tr_7 {G : GG} {d c n k : Nat} {Q : Pst} {V : SV} {x : Nat → QIS} {R : RS} {K J i w t r : Nat} {ro : Nat → Nat} {rf : Nat → Nat → Int32} {op : Nat → Bool} (B : PU c V n x R) (hc : c + 4 ≤ 512) (hk : k < 110) (HI : RI k R) (HO : OPI op R) (ht : t < 3) (hr : r < 6) (hw : w < 9) (hd : 40 ≤ d) (hL : slen G < 2 ^ 31) (hi : i + 200 < 2 ^ 31) {h : Hp} {M bc bs : Nat} (C : CLS h V M n x R) (H : LWH h (sNv V) n (RS_rn R) ro rf K J op) (hbc : 150 ≤ bc) (hbs : 1500 + 1100 * czN w t R ≤ bs) (hq : ∀ h' c' R' op', c' ≤ c + 4 → CLS h' V M n x R' → PU c' V n x R' → RI (k + 1) R' → OPI op' R' → flg R' + czN w t R ≤ flg R + 2 → LWH h' (sNv V) n (RS_rn R') ro rf K J op' → Q (oRet (vi (nI 1))) h') (hw2 : w = 7) : WP G m_L_transact d 154 [(7, vi (nI w)), (6, vi (nI r)), (5, vi (nI t)), (0, vr (some (nm 40 0))), (1, vr (some nS)), (2, vi (nI i)), (3, vr (some (nm 70 1))), (4, vr (some (nm 70 2)))] [] h bc bs Q := by
  have h6 : RS_rn R ≤ 6 := B.2.2.2.2.1.1.2.1
  have hmo : RS_mo R ≤ c := B.2.2.2.2.1.1.2.2.2.1
  have hlg : (RS_lg R).length ≤ 6 * c := B.2.2.2.2.1.1.2.2.2.2.2.1
  obtain ⟨zb, ezb⟩ : ∃ z, nI (OT_bk (RS_tt R t)) = z := ⟨_, rfl⟩
  have hbk := (HI.1 t ht).1.1
  have hpk4 := @pkv_lt G (i + 3) 4 (by decide)
  have hcz : czN w t R = cgN (RS_tt R t) (RS_rn R) 0 := if_pos (by omega)
  cases hop : OT_op (RS_tt R t) with
  | false =>
    have hopn : op t = false := (HO t ht).trans hop
    have eo := (rx_shut2 ht hop).1
    have h0 := (HI.1 t ht).2.2 hop
    have h1 := cgN_le (y := RS_tt R t) (RS_rn R) 6 0 h6
    refine wp_aload_n (i := 0) dL_transact_154 rfl rfl ?_
    refine wp_bipush (nI 10) dL_transact_155 (by decide) ?_
    refine wp_iload (i := 5) dL_transact_157 rfl ?_
    refine wp_iconst (nI 0) dL_transact_159 (by decide) ?_
    refine wp_cSH (y' := m_L_ask) [vr (some (nm 40 0)), vi (nI 10), vi (nI t), vi (nI 0)] [] 6 40 dL_transact_160 ml_L_184 st_L_ask okH_L_ask rfl (Nat.le_of_ble_eq_true rfl) rfl (Nat.le_of_ble_eq_true rfl) (d' := d - 1) (by omega) (by omega) (by omega) (q_sentBack (t := t) (by omega) B (by omega) C (by omega) (by omega) (by omega) (fun h1 C1 F1 => cont_ret ?_))
    rw [r_sentBack] at C1
    rw [show dA [-20002] (o_sentBack R (nI t) t) = zb from by rw [rx_sent ht]; exact ezb]
    have H1 := H.fk F1
    refine wp_istore (i := 8) (lv' := [(8, vi zb), (7, vi (nI w)), (6, vi (nI r)), (5, vi (nI t)), (0, vr (some (nm 40 0))), (1, vr (some nS)), (2, vi (nI i)), (3, vr (some (nm 70 1))), (4, vr (some (nm 70 2)))]) dL_transact_163 (by decide) rfl ?_
    refine wp_aload_n (i := 0) dL_transact_165 rfl rfl ?_
    refine wp_cV (y' := m_X11_logged) 12 [] [] 6 40 dL_transact_166 ml_L_217 im_X11_logged se_X11_logged (by decide) C1.hk ok_X11_logged rfl (Nat.le_of_ble_eq_true rfl) rfl (Nat.le_of_ble_eq_true rfl) (d' := d - 1) (by omega) (by omega) (by omega) (g_logged B (by omega) C1 (by omega) (by omega) (by omega) (fun h2 C2 F2 => cont_ret ?_))
    have H2 := H1.fk F2
    refine wp_istore (i := 9) (lv' := [(9, vi (nI ((RS_lg R).length))), (8, vi zb), (7, vi (nI w)), (6, vi (nI r)), (5, vi (nI t)), (0, vr (some (nm 40 0))), (1, vr (some nS)), (2, vi (nI i)), (3, vr (some (nm 70 1))), (4, vr (some (nm 70 2)))]) dL_transact_169 (by decide) rfl ?_
    refine wp_aload_n (i := 0) dL_transact_171 rfl rfl ?_
    refine wp_cV (y' := m_X11_moment) 12 [] [] 6 40 dL_transact_172 ml_L_214 im_X11_moment se_X11_moment (by decide) C2.hk ok_X11_moment rfl (Nat.le_of_ble_eq_true rfl) rfl (Nat.le_of_ble_eq_true rfl) (d' := d - 1) (by omega) (by omega) (by omega) (g_moment B (by omega) C2 (by omega) (by omega) (by omega) (fun h3 C3 F3 => cont_ret ?_))
    have H3 := H2.fk F3
    refine wp_istore (i := 10) (lv' := [(10, vi (nI (RS_mo R))), (9, vi (nI ((RS_lg R).length))), (8, vi zb), (7, vi (nI w)), (6, vi (nI r)), (5, vi (nI t)), (0, vr (some (nm 40 0))), (1, vr (some nS)), (2, vi (nI i)), (3, vr (some (nm 70 1))), (4, vr (some (nm 70 2)))]) dL_transact_175 (by decide) rfl ?_
    refine wp_iload (i := 7) dL_transact_177 rfl ?_
    refine wp_bipush (nI 6) dL_transact_179 (by decide) ?_
    refine wp_icmp_leN 373 dL_transact_181 (by decide) (by omega) (by decide) (fun c_181 => absurd c_181 (by omega)) (fun c_181 => ?_)
    refine wp_iload (i := 7) dL_transact_184 rfl ?_
    refine wp_bipush (nI 7) dL_transact_186 (by decide) ?_
    refine wp_icmp_neN 204 dL_transact_188 (by decide) (by omega) (by decide) (fun c_188 => absurd c_188 (by omega)) (fun c_188 => ?_)
    refine wp_aload_n (i := 0) dL_transact_191 rfl rfl ?_
    refine wp_bipush (nI 22) dL_transact_192 (by decide) ?_
    refine wp_iload (i := 5) dL_transact_194 rfl ?_
    refine wp_iconst (nI 0) dL_transact_196 (by decide) ?_
    refine wp_iconst (nI 0) dL_transact_197 (by decide) ?_
    refine wp_cSH (y' := m_L_deed) [vr (some (nm 40 0)), vi (nI 22), vi (nI t), vi (nI 0), vi (nI 0)] [] 60 (300 + 1100 * cgN (RS_tt R t) (RS_rn R) 0) dL_transact_198 ml_L_191 st_L_deed okH_L_deed rfl (Nat.le_of_ble_eq_true rfl) rfl (Nat.le_of_ble_eq_true rfl) (d' := d - 1) (by omega) (by omega) (by omega) (e_commit (t := t) ht B (by omega) C3 (by omega) (by omega) (by omega) (fun h4 C4 F4 => cont_ret ?_))
    rw [eo] at C4
    rw [show dA [-20002, -20003] (o_commit R (nI t) t) = -20003 from by rw [eo]; rfl]
    have H4 := H3.fk F4
    refine wp_goto 238 dL_transact_201 (by decide) ?_
    refine wp_istore (i := 11) (lv' := [(11, vi (-20003)), (10, vi (nI (RS_mo R))), (9, vi (nI ((RS_lg R).length))), (8, vi zb), (7, vi (nI w)), (6, vi (nI r)), (5, vi (nI t)), (0, vr (some (nm 40 0))), (1, vr (some nS)), (2, vi (nI i)), (3, vr (some (nm 70 1))), (4, vr (some (nm 70 2)))]) dL_transact_238 (by decide) rfl ?_
    refine wp_aload (i := 4) dL_transact_240 rfl ?_
    refine wp_iload (i := 5) dL_transact_242 rfl ?_
    refine wp_zaloadN 3 (bI (op t)) dL_transact_244 H4.2.2.2.2.1.1 H4.2.2.2.2.1.2.1 (by omega) (by decide) (H4.2.2.2.2.1.2.2 t ht) ?_
    refine wp_istore (i := 12) (lv' := [(12, vi (bI (op t))), (11, vi (-20003)), (10, vi (nI (RS_mo R))), (9, vi (nI ((RS_lg R).length))), (8, vi zb), (7, vi (nI w)), (6, vi (nI r)), (5, vi (nI t)), (0, vr (some (nm 40 0))), (1, vr (some nS)), (2, vi (nI i)), (3, vr (some (nm 70 1))), (4, vr (some (nm 70 2)))]) dL_transact_245 (by decide) rfl ?_
    refine wp_aload (i := 4) dL_transact_247 rfl ?_
    refine wp_iload (i := 5) dL_transact_249 rfl ?_
    refine wp_iload (i := 11) dL_transact_251 rfl ?_
    refine wp_bipush (nI 115) dL_transact_253 (by decide) ?_
    refine wp_icmp_ne 262 dL_transact_255 (by decide) (fun c_255 => ?_) (fun c_255 => absurd c_255 (by decide))
    refine wp_iconst (nI 0) dL_transact_262 (by decide) ?_
    refine wp_zastoreN 3 dL_transact_263 H4.2.2.2.2.1.1 H4.2.2.2.2.1.2.1 (by omega) (by decide) (by decide) ?_
    have H5w := H4.wop (t := t) (b := false)
    have C5w := C4.law (fun a ha => ce_w70 (i := 2) (k := t) (z := (nI 0)) (show a ≠ nm 70 2 by unfold nm; omega))
    refine wp_iload (i := 11) dL_transact_264 rfl ?_
    refine wp_bipush (nI 99) dL_transact_266 (by decide) ?_
    refine wp_icmp_ne 284 dL_transact_268 (by decide) (fun c_268 => ?_) (fun c_268 => absurd c_268 (by decide))
    refine wp_iconst (nI 0) dL_transact_284 (by decide) ?_
    refine wp_istore (i := 13) (lv' := [(13, vi (nI 0)), (12, vi (bI (op t))), (11, vi (-20003)), (10, vi (nI (RS_mo R))), (9, vi (nI ((RS_lg R).length))), (8, vi zb), (7, vi (nI w)), (6, vi (nI r)), (5, vi (nI t)), (0, vr (some (nm 40 0))), (1, vr (some nS)), (2, vi (nI i)), (3, vr (some (nm 70 1))), (4, vr (some (nm 70 2)))]) dL_transact_285 (by decide) rfl ?_
    refine wp_iload (i := 11) dL_transact_287 rfl ?_
    refine wp_sipush (-20003) dL_transact_289 (by decide) ?_
    refine wp_icmp_ne 299 dL_transact_292 (by decide) (fun c_292 => absurd c_292 (fun z => z rfl)) (fun c_292 => ?_)
    refine wp_iconst (nI 1) dL_transact_295 (by decide) ?_
    refine wp_goto 300 dL_transact_296 (by decide) ?_
    refine wp_iload (i := 12) dL_transact_300 rfl ?_
    refine wp_if_neB 309 dL_transact_302 (by decide) (fun c_302 => absurd c_302 (by rw [hopn]; decide)) (fun c_302 => ?_)
    refine wp_iconst (nI 1) dL_transact_305 (by decide) ?_
    refine wp_goto 310 dL_transact_306 (by decide) ?_
    refine wp_icmp_neN 371 dL_transact_310 (by decide) (by decide) (by decide) (fun c_310 => absurd c_310 (by decide)) (fun c_310 => ?_)
    refine wp_aload_n (i := 0) dL_transact_313 rfl rfl ?_
    refine wp_cV (y' := m_X11_moment) 12 [] [] 6 40 dL_transact_314 ml_L_214 im_X11_moment se_X11_moment (by decide) C5w.hk ok_X11_moment rfl (Nat.le_of_ble_eq_true rfl) rfl (Nat.le_of_ble_eq_true rfl) (d' := d - 1) (by omega) (by omega) (by omega) (g_moment B (by omega) C5w (by omega) (by omega) (by omega) (fun h6 C6 F6 => cont_ret ?_))
    have H6 := H5w.fk F6
    refine wp_iload (i := 10) dL_transact_317 rfl ?_
    refine wp_iload (i := 13) dL_transact_319 rfl ?_
    refine wp_cS (y' := m_L_told) [vi (bI false)] [vi (nI (RS_mo R)), vi (nI (RS_mo R))] 0 0 dL_transact_321 ml_L_83 st_L_told ok_L_told rfl (Nat.le_of_ble_eq_true rfl) rfl (Nat.le_of_ble_eq_true rfl) (d' := d - 1) (by omega) (Nat.zero_le _) (Nat.zero_le _) (c_L_told (b := false) (cont_ret ?_))
    rw [show bI false = (nI 0) from rfl]
    refine wp_iaddN dL_transact_324 ?_
    refine wp_icmp_neN 371 dL_transact_325 (by decide) (by omega) (by omega) (fun c_325 => absurd c_325 (by omega)) (fun c_325 => ?_)
    refine wp_iload (i := 13) dL_transact_328 rfl ?_
    refine wp_if_neN 342 dL_transact_330 (by decide) (by decide) (fun c_330 => absurd c_330 (by decide)) (fun c_330 => ?_)
    refine wp_aload_n (i := 0) dL_transact_333 rfl rfl ?_
    refine wp_cV (y' := m_X11_logged) 12 [] [] 6 40 dL_transact_334 ml_L_217 im_X11_logged se_X11_logged (by decide) C6.hk ok_X11_logged rfl (Nat.le_of_ble_eq_true rfl) rfl (Nat.le_of_ble_eq_true rfl) (d' := d - 1) (by omega) (by omega) (by omega) (g_logged B (by omega) C6 (by omega) (by omega) (by omega) (fun h7 C7 F7 => cont_ret ?_))
    have H7 := H6.fk F7
    refine wp_iload (i := 9) dL_transact_337 rfl ?_
    refine wp_icmp_neN 371 dL_transact_339 (by decide) (by omega) (by omega) (fun c_339 => absurd c_339 (by omega)) (fun c_339 => ?_)
    refine wp_iload (i := 13) dL_transact_342 rfl ?_
    refine wp_if_eqN 367 dL_transact_344 (by decide) (by decide) (fun c_344 => ?_) (fun c_344 => absurd c_344 (by decide))
    refine wp_iconst (nI 1) dL_transact_367 (by decide) ?_
    refine wp_goto 372 dL_transact_368 (by decide) ?_
    refine wp_zreturn dL_transact_372 rfl (by decide) ?_
    exact hq _ c R _ (by omega) C7 B HI.up (HO.sto (fun _ => rfl) ht hop) (by rw [hcz]; omega) (by exact H7)
  | true =>
    have hopn : op t = true := (HO t ht).trans hop
    have q8 : RB (c + 1) (o_commit R (nI t) t).2.2 := RB_commit B.2.2.2.2.1 (by omega) (ixk (by omega) (by decide))
    obtain ⟨f1, f2, f3⟩ := f_commit (R := R) (v := nI t) ht h6
    have l8 : LFS R (o_commit R (nI t) t).2.2 := ⟨by omega, by omega⟩
    rcases rx_commit ht h6 hop HI with ⟨S', eo, ri, so, sam⟩ | ⟨S', w', hw', eo, ri, sc, srn, hgr⟩
    · skip
      rw [eo] at q8 l8 f2
      have B' : PU (c + 1) V n x S' := B.r q8 l8
      have fl8 : flg S' + cgN (RS_tt R t) (RS_rn R) 0 ≤ flg R := f2 rfl
      refine wp_aload_n (i := 0) dL_transact_154 rfl rfl ?_
      refine wp_bipush (nI 10) dL_transact_155 (by decide) ?_
      refine wp_iload (i := 5) dL_transact_157 rfl ?_
      refine wp_iconst (nI 0) dL_transact_159 (by decide) ?_
      refine wp_cSH (y' := m_L_ask) [vr (some (nm 40 0)), vi (nI 10), vi (nI t), vi (nI 0)] [] 6 40 dL_transact_160 ml_L_184 st_L_ask okH_L_ask rfl (Nat.le_of_ble_eq_true rfl) rfl (Nat.le_of_ble_eq_true rfl) (d' := d - 1) (by omega) (by omega) (by omega) (q_sentBack (t := t) (by omega) B (by omega) C (by omega) (by omega) (by omega) (fun h1 C1 F1 => cont_ret ?_))
      rw [r_sentBack] at C1
      rw [show dA [-20002] (o_sentBack R (nI t) t) = zb from by rw [rx_sent ht]; exact ezb]
      have H1 := H.fk F1
      refine wp_istore (i := 8) (lv' := [(8, vi zb), (7, vi (nI w)), (6, vi (nI r)), (5, vi (nI t)), (0, vr (some (nm 40 0))), (1, vr (some nS)), (2, vi (nI i)), (3, vr (some (nm 70 1))), (4, vr (some (nm 70 2)))]) dL_transact_163 (by decide) rfl ?_
      refine wp_aload_n (i := 0) dL_transact_165 rfl rfl ?_
      refine wp_cV (y' := m_X11_logged) 12 [] [] 6 40 dL_transact_166 ml_L_217 im_X11_logged se_X11_logged (by decide) C1.hk ok_X11_logged rfl (Nat.le_of_ble_eq_true rfl) rfl (Nat.le_of_ble_eq_true rfl) (d' := d - 1) (by omega) (by omega) (by omega) (g_logged B (by omega) C1 (by omega) (by omega) (by omega) (fun h2 C2 F2 => cont_ret ?_))
      have H2 := H1.fk F2
      refine wp_istore (i := 9) (lv' := [(9, vi (nI ((RS_lg R).length))), (8, vi zb), (7, vi (nI w)), (6, vi (nI r)), (5, vi (nI t)), (0, vr (some (nm 40 0))), (1, vr (some nS)), (2, vi (nI i)), (3, vr (some (nm 70 1))), (4, vr (some (nm 70 2)))]) dL_transact_169 (by decide) rfl ?_
      refine wp_aload_n (i := 0) dL_transact_171 rfl rfl ?_
      refine wp_cV (y' := m_X11_moment) 12 [] [] 6 40 dL_transact_172 ml_L_214 im_X11_moment se_X11_moment (by decide) C2.hk ok_X11_moment rfl (Nat.le_of_ble_eq_true rfl) rfl (Nat.le_of_ble_eq_true rfl) (d' := d - 1) (by omega) (by omega) (by omega) (g_moment B (by omega) C2 (by omega) (by omega) (by omega) (fun h3 C3 F3 => cont_ret ?_))
      have H3 := H2.fk F3
      refine wp_istore (i := 10) (lv' := [(10, vi (nI (RS_mo R))), (9, vi (nI ((RS_lg R).length))), (8, vi zb), (7, vi (nI w)), (6, vi (nI r)), (5, vi (nI t)), (0, vr (some (nm 40 0))), (1, vr (some nS)), (2, vi (nI i)), (3, vr (some (nm 70 1))), (4, vr (some (nm 70 2)))]) dL_transact_175 (by decide) rfl ?_
      refine wp_iload (i := 7) dL_transact_177 rfl ?_
      refine wp_bipush (nI 6) dL_transact_179 (by decide) ?_
      refine wp_icmp_leN 373 dL_transact_181 (by decide) (by omega) (by decide) (fun c_181 => absurd c_181 (by omega)) (fun c_181 => ?_)
      refine wp_iload (i := 7) dL_transact_184 rfl ?_
      refine wp_bipush (nI 7) dL_transact_186 (by decide) ?_
      refine wp_icmp_neN 204 dL_transact_188 (by decide) (by omega) (by decide) (fun c_188 => absurd c_188 (by omega)) (fun c_188 => ?_)
      refine wp_aload_n (i := 0) dL_transact_191 rfl rfl ?_
      refine wp_bipush (nI 22) dL_transact_192 (by decide) ?_
      refine wp_iload (i := 5) dL_transact_194 rfl ?_
      refine wp_iconst (nI 0) dL_transact_196 (by decide) ?_
      refine wp_iconst (nI 0) dL_transact_197 (by decide) ?_
      refine wp_cSH (y' := m_L_deed) [vr (some (nm 40 0)), vi (nI 22), vi (nI t), vi (nI 0), vi (nI 0)] [] 60 (300 + 1100 * cgN (RS_tt R t) (RS_rn R) 0) dL_transact_198 ml_L_191 st_L_deed okH_L_deed rfl (Nat.le_of_ble_eq_true rfl) rfl (Nat.le_of_ble_eq_true rfl) (d' := d - 1) (by omega) (by omega) (by omega) (e_commit (t := t) ht B (by omega) C3 (by omega) (by omega) (by omega) (fun h4 C4 F4 => cont_ret ?_))
      rw [eo] at C4
      rw [show dA [-20002, -20003] (o_commit R (nI t) t) = nI 115 from by rw [eo]; rfl]
      have H4 := H3.fk F4
      refine wp_goto 238 dL_transact_201 (by decide) ?_
      refine wp_istore (i := 11) (lv' := [(11, vi (nI 115)), (10, vi (nI (RS_mo R))), (9, vi (nI ((RS_lg R).length))), (8, vi zb), (7, vi (nI w)), (6, vi (nI r)), (5, vi (nI t)), (0, vr (some (nm 40 0))), (1, vr (some nS)), (2, vi (nI i)), (3, vr (some (nm 70 1))), (4, vr (some (nm 70 2)))]) dL_transact_238 (by decide) rfl ?_
      refine wp_aload (i := 4) dL_transact_240 rfl ?_
      refine wp_iload (i := 5) dL_transact_242 rfl ?_
      refine wp_zaloadN 3 (bI (op t)) dL_transact_244 H4.2.2.2.2.1.1 H4.2.2.2.2.1.2.1 (by omega) (by decide) (H4.2.2.2.2.1.2.2 t ht) ?_
      refine wp_istore (i := 12) (lv' := [(12, vi (bI (op t))), (11, vi (nI 115)), (10, vi (nI (RS_mo R))), (9, vi (nI ((RS_lg R).length))), (8, vi zb), (7, vi (nI w)), (6, vi (nI r)), (5, vi (nI t)), (0, vr (some (nm 40 0))), (1, vr (some nS)), (2, vi (nI i)), (3, vr (some (nm 70 1))), (4, vr (some (nm 70 2)))]) dL_transact_245 (by decide) rfl ?_
      refine wp_aload (i := 4) dL_transact_247 rfl ?_
      refine wp_iload (i := 5) dL_transact_249 rfl ?_
      refine wp_iload (i := 11) dL_transact_251 rfl ?_
      refine wp_bipush (nI 115) dL_transact_253 (by decide) ?_
      refine wp_icmp_neN 262 dL_transact_255 (by decide) (by decide) (by decide) (fun c_255 => absurd c_255 (by decide)) (fun c_255 => ?_)
      refine wp_iconst (nI 1) dL_transact_258 (by decide) ?_
      refine wp_goto 263 dL_transact_259 (by decide) ?_
      refine wp_zastoreN 3 dL_transact_263 H4.2.2.2.2.1.1 H4.2.2.2.2.1.2.1 (by omega) (by decide) (by decide) ?_
      have H5w := H4.wop (t := t) (b := true)
      have C5w := C4.law (fun a ha => ce_w70 (i := 2) (k := t) (z := (nI 1)) (show a ≠ nm 70 2 by unfold nm; omega))
      refine wp_iload (i := 11) dL_transact_264 rfl ?_
      refine wp_bipush (nI 99) dL_transact_266 (by decide) ?_
      refine wp_icmp_neN 284 dL_transact_268 (by decide) (by decide) (by decide) (fun c_268 => ?_) (fun c_268 => absurd c_268 (by decide))
      refine wp_iconst (nI 0) dL_transact_284 (by decide) ?_
      refine wp_istore (i := 13) (lv' := [(13, vi (nI 0)), (12, vi (bI (op t))), (11, vi (nI 115)), (10, vi (nI (RS_mo R))), (9, vi (nI ((RS_lg R).length))), (8, vi zb), (7, vi (nI w)), (6, vi (nI r)), (5, vi (nI t)), (0, vr (some (nm 40 0))), (1, vr (some nS)), (2, vi (nI i)), (3, vr (some (nm 70 1))), (4, vr (some (nm 70 2)))]) dL_transact_285 (by decide) rfl ?_
      refine wp_iload (i := 11) dL_transact_287 rfl ?_
      refine wp_sipush (-20003) dL_transact_289 (by decide) ?_
      refine wp_icmp_ne 299 dL_transact_292 (by decide) (fun c_292 => ?_) (fun c_292 => absurd c_292 (nI_ne _ (by omega) _ (by decide)))
      refine wp_iconst (nI 0) dL_transact_299 (by decide) ?_
      refine wp_iload (i := 12) dL_transact_300 rfl ?_
      refine wp_if_neB 309 dL_transact_302 (by decide) (fun c_302 => ?_) (fun c_302 => absurd c_302 (by rw [hopn]; decide))
      refine wp_iconst (nI 0) dL_transact_309 (by decide) ?_
      refine wp_icmp_neN 371 dL_transact_310 (by decide) (by decide) (by decide) (fun c_310 => absurd c_310 (by decide)) (fun c_310 => ?_)
      refine wp_aload_n (i := 0) dL_transact_313 rfl rfl ?_
      refine wp_cV (y' := m_X11_moment) 12 [] [] 6 40 dL_transact_314 ml_L_214 im_X11_moment se_X11_moment (by decide) C5w.hk ok_X11_moment rfl (Nat.le_of_ble_eq_true rfl) rfl (Nat.le_of_ble_eq_true rfl) (d' := d - 1) (by omega) (by omega) (by omega) (g_moment B' (by omega) C5w (by omega) (by omega) (by omega) (fun h6 C6 F6 => cont_ret ?_))
      rw [sam.2.1]
      have H6 := H5w.fk F6
      refine wp_iload (i := 10) dL_transact_317 rfl ?_
      refine wp_iload (i := 13) dL_transact_319 rfl ?_
      refine wp_cS (y' := m_L_told) [vi (bI false)] [vi (nI (RS_mo R)), vi (nI (RS_mo R))] 0 0 dL_transact_321 ml_L_83 st_L_told ok_L_told rfl (Nat.le_of_ble_eq_true rfl) rfl (Nat.le_of_ble_eq_true rfl) (d' := d - 1) (by omega) (Nat.zero_le _) (Nat.zero_le _) (c_L_told (b := false) (cont_ret ?_))
      rw [show bI false = (nI 0) from rfl]
      refine wp_iaddN dL_transact_324 ?_
      refine wp_icmp_neN 371 dL_transact_325 (by decide) (by omega) (by omega) (fun c_325 => absurd c_325 (by omega)) (fun c_325 => ?_)
      refine wp_iload (i := 13) dL_transact_328 rfl ?_
      refine wp_if_neN 342 dL_transact_330 (by decide) (by decide) (fun c_330 => absurd c_330 (by decide)) (fun c_330 => ?_)
      refine wp_aload_n (i := 0) dL_transact_333 rfl rfl ?_
      refine wp_cV (y' := m_X11_logged) 12 [] [] 6 40 dL_transact_334 ml_L_217 im_X11_logged se_X11_logged (by decide) C6.hk ok_X11_logged rfl (Nat.le_of_ble_eq_true rfl) rfl (Nat.le_of_ble_eq_true rfl) (d' := d - 1) (by omega) (by omega) (by omega) (g_logged B' (by omega) C6 (by omega) (by omega) (by omega) (fun h7 C7 F7 => cont_ret ?_))
      rw [sam.1]
      have H7 := H6.fk F7
      refine wp_iload (i := 9) dL_transact_337 rfl ?_
      refine wp_icmp_neN 371 dL_transact_339 (by decide) (by omega) (by omega) (fun c_339 => absurd c_339 (by omega)) (fun c_339 => ?_)
      refine wp_iload (i := 13) dL_transact_342 rfl ?_
      refine wp_if_eqN 367 dL_transact_344 (by decide) (by decide) (fun c_344 => ?_) (fun c_344 => absurd c_344 (by decide))
      refine wp_iconst (nI 1) dL_transact_367 (by decide) ?_
      refine wp_goto 372 dL_transact_368 (by decide) ?_
      refine wp_zreturn dL_transact_372 rfl (by decide) ?_
      exact hq _ (c + 1) S' _ (by omega) C7 B' ri (HO.sto so ht hop) (by show flg S' + czN w t R ≤ flg R + 2; rw [hcz]; omega) (by rw [sam.2.2]; exact H7)
    · skip
      rw [eo] at q8 l8 f2
      have B' : PU (c + 1) V n x S' := B.r q8 l8
      have fl8 : flg S' + cgN (RS_tt R t) (RS_rn R) 0 ≤ flg R := f2 rfl
      rcases hgr with sam | ⟨h99, hl, hm, hlast⟩
      · have sam : SAM R S' := ⟨sam.1, sam.2, srn⟩
        rcases hw' with h9 | h9 <;> subst h9
        · skip
          refine wp_aload_n (i := 0) dL_transact_154 rfl rfl ?_
          refine wp_bipush (nI 10) dL_transact_155 (by decide) ?_
          refine wp_iload (i := 5) dL_transact_157 rfl ?_
          refine wp_iconst (nI 0) dL_transact_159 (by decide) ?_
          refine wp_cSH (y' := m_L_ask) [vr (some (nm 40 0)), vi (nI 10), vi (nI t), vi (nI 0)] [] 6 40 dL_transact_160 ml_L_184 st_L_ask okH_L_ask rfl (Nat.le_of_ble_eq_true rfl) rfl (Nat.le_of_ble_eq_true rfl) (d' := d - 1) (by omega) (by omega) (by omega) (q_sentBack (t := t) (by omega) B (by omega) C (by omega) (by omega) (by omega) (fun h1 C1 F1 => cont_ret ?_))
          rw [r_sentBack] at C1
          rw [show dA [-20002] (o_sentBack R (nI t) t) = zb from by rw [rx_sent ht]; exact ezb]
          have H1 := H.fk F1
          refine wp_istore (i := 8) (lv' := [(8, vi zb), (7, vi (nI w)), (6, vi (nI r)), (5, vi (nI t)), (0, vr (some (nm 40 0))), (1, vr (some nS)), (2, vi (nI i)), (3, vr (some (nm 70 1))), (4, vr (some (nm 70 2)))]) dL_transact_163 (by decide) rfl ?_
          refine wp_aload_n (i := 0) dL_transact_165 rfl rfl ?_
          refine wp_cV (y' := m_X11_logged) 12 [] [] 6 40 dL_transact_166 ml_L_217 im_X11_logged se_X11_logged (by decide) C1.hk ok_X11_logged rfl (Nat.le_of_ble_eq_true rfl) rfl (Nat.le_of_ble_eq_true rfl) (d' := d - 1) (by omega) (by omega) (by omega) (g_logged B (by omega) C1 (by omega) (by omega) (by omega) (fun h2 C2 F2 => cont_ret ?_))
          have H2 := H1.fk F2
          refine wp_istore (i := 9) (lv' := [(9, vi (nI ((RS_lg R).length))), (8, vi zb), (7, vi (nI w)), (6, vi (nI r)), (5, vi (nI t)), (0, vr (some (nm 40 0))), (1, vr (some nS)), (2, vi (nI i)), (3, vr (some (nm 70 1))), (4, vr (some (nm 70 2)))]) dL_transact_169 (by decide) rfl ?_
          refine wp_aload_n (i := 0) dL_transact_171 rfl rfl ?_
          refine wp_cV (y' := m_X11_moment) 12 [] [] 6 40 dL_transact_172 ml_L_214 im_X11_moment se_X11_moment (by decide) C2.hk ok_X11_moment rfl (Nat.le_of_ble_eq_true rfl) rfl (Nat.le_of_ble_eq_true rfl) (d' := d - 1) (by omega) (by omega) (by omega) (g_moment B (by omega) C2 (by omega) (by omega) (by omega) (fun h3 C3 F3 => cont_ret ?_))
          have H3 := H2.fk F3
          refine wp_istore (i := 10) (lv' := [(10, vi (nI (RS_mo R))), (9, vi (nI ((RS_lg R).length))), (8, vi zb), (7, vi (nI w)), (6, vi (nI r)), (5, vi (nI t)), (0, vr (some (nm 40 0))), (1, vr (some nS)), (2, vi (nI i)), (3, vr (some (nm 70 1))), (4, vr (some (nm 70 2)))]) dL_transact_175 (by decide) rfl ?_
          refine wp_iload (i := 7) dL_transact_177 rfl ?_
          refine wp_bipush (nI 6) dL_transact_179 (by decide) ?_
          refine wp_icmp_leN 373 dL_transact_181 (by decide) (by omega) (by decide) (fun c_181 => absurd c_181 (by omega)) (fun c_181 => ?_)
          refine wp_iload (i := 7) dL_transact_184 rfl ?_
          refine wp_bipush (nI 7) dL_transact_186 (by decide) ?_
          refine wp_icmp_neN 204 dL_transact_188 (by decide) (by omega) (by decide) (fun c_188 => absurd c_188 (by omega)) (fun c_188 => ?_)
          refine wp_aload_n (i := 0) dL_transact_191 rfl rfl ?_
          refine wp_bipush (nI 22) dL_transact_192 (by decide) ?_
          refine wp_iload (i := 5) dL_transact_194 rfl ?_
          refine wp_iconst (nI 0) dL_transact_196 (by decide) ?_
          refine wp_iconst (nI 0) dL_transact_197 (by decide) ?_
          refine wp_cSH (y' := m_L_deed) [vr (some (nm 40 0)), vi (nI 22), vi (nI t), vi (nI 0), vi (nI 0)] [] 60 (300 + 1100 * cgN (RS_tt R t) (RS_rn R) 0) dL_transact_198 ml_L_191 st_L_deed okH_L_deed rfl (Nat.le_of_ble_eq_true rfl) rfl (Nat.le_of_ble_eq_true rfl) (d' := d - 1) (by omega) (by omega) (by omega) (e_commit (t := t) ht B (by omega) C3 (by omega) (by omega) (by omega) (fun h4 C4 F4 => cont_ret ?_))
          rw [eo] at C4
          rw [show dA [-20002, -20003] (o_commit R (nI t) t) = nI 98 from by rw [eo]; rfl]
          have H4 := H3.fk F4
          refine wp_goto 238 dL_transact_201 (by decide) ?_
          refine wp_istore (i := 11) (lv' := [(11, vi (nI 98)), (10, vi (nI (RS_mo R))), (9, vi (nI ((RS_lg R).length))), (8, vi zb), (7, vi (nI w)), (6, vi (nI r)), (5, vi (nI t)), (0, vr (some (nm 40 0))), (1, vr (some nS)), (2, vi (nI i)), (3, vr (some (nm 70 1))), (4, vr (some (nm 70 2)))]) dL_transact_238 (by decide) rfl ?_
          refine wp_aload (i := 4) dL_transact_240 rfl ?_
          refine wp_iload (i := 5) dL_transact_242 rfl ?_
          refine wp_zaloadN 3 (bI (op t)) dL_transact_244 H4.2.2.2.2.1.1 H4.2.2.2.2.1.2.1 (by omega) (by decide) (H4.2.2.2.2.1.2.2 t ht) ?_
          refine wp_istore (i := 12) (lv' := [(12, vi (bI (op t))), (11, vi (nI 98)), (10, vi (nI (RS_mo R))), (9, vi (nI ((RS_lg R).length))), (8, vi zb), (7, vi (nI w)), (6, vi (nI r)), (5, vi (nI t)), (0, vr (some (nm 40 0))), (1, vr (some nS)), (2, vi (nI i)), (3, vr (some (nm 70 1))), (4, vr (some (nm 70 2)))]) dL_transact_245 (by decide) rfl ?_
          refine wp_aload (i := 4) dL_transact_247 rfl ?_
          refine wp_iload (i := 5) dL_transact_249 rfl ?_
          refine wp_iload (i := 11) dL_transact_251 rfl ?_
          refine wp_bipush (nI 115) dL_transact_253 (by decide) ?_
          refine wp_icmp_neN 262 dL_transact_255 (by decide) (by decide) (by decide) (fun c_255 => ?_) (fun c_255 => absurd c_255 (by decide))
          refine wp_iconst (nI 0) dL_transact_262 (by decide) ?_
          refine wp_zastoreN 3 dL_transact_263 H4.2.2.2.2.1.1 H4.2.2.2.2.1.2.1 (by omega) (by decide) (by decide) ?_
          have H5w := H4.wop (t := t) (b := false)
          have C5w := C4.law (fun a ha => ce_w70 (i := 2) (k := t) (z := (nI 0)) (show a ≠ nm 70 2 by unfold nm; omega))
          refine wp_iload (i := 11) dL_transact_264 rfl ?_
          refine wp_bipush (nI 99) dL_transact_266 (by decide) ?_
          refine wp_icmp_neN 284 dL_transact_268 (by decide) (by decide) (by decide) (fun c_268 => ?_) (fun c_268 => absurd c_268 (by decide))
          refine wp_iconst (nI 0) dL_transact_284 (by decide) ?_
          refine wp_istore (i := 13) (lv' := [(13, vi (nI 0)), (12, vi (bI (op t))), (11, vi (nI 98)), (10, vi (nI (RS_mo R))), (9, vi (nI ((RS_lg R).length))), (8, vi zb), (7, vi (nI w)), (6, vi (nI r)), (5, vi (nI t)), (0, vr (some (nm 40 0))), (1, vr (some nS)), (2, vi (nI i)), (3, vr (some (nm 70 1))), (4, vr (some (nm 70 2)))]) dL_transact_285 (by decide) rfl ?_
          refine wp_iload (i := 11) dL_transact_287 rfl ?_
          refine wp_sipush (-20003) dL_transact_289 (by decide) ?_
          refine wp_icmp_ne 299 dL_transact_292 (by decide) (fun c_292 => ?_) (fun c_292 => absurd c_292 (nI_ne _ (by omega) _ (by decide)))
          refine wp_iconst (nI 0) dL_transact_299 (by decide) ?_
          refine wp_iload (i := 12) dL_transact_300 rfl ?_
          refine wp_if_neB 309 dL_transact_302 (by decide) (fun c_302 => ?_) (fun c_302 => absurd c_302 (by rw [hopn]; decide))
          refine wp_iconst (nI 0) dL_transact_309 (by decide) ?_
          refine wp_icmp_neN 371 dL_transact_310 (by decide) (by decide) (by decide) (fun c_310 => absurd c_310 (by decide)) (fun c_310 => ?_)
          refine wp_aload_n (i := 0) dL_transact_313 rfl rfl ?_
          refine wp_cV (y' := m_X11_moment) 12 [] [] 6 40 dL_transact_314 ml_L_214 im_X11_moment se_X11_moment (by decide) C5w.hk ok_X11_moment rfl (Nat.le_of_ble_eq_true rfl) rfl (Nat.le_of_ble_eq_true rfl) (d' := d - 1) (by omega) (by omega) (by omega) (g_moment B' (by omega) C5w (by omega) (by omega) (by omega) (fun h6 C6 F6 => cont_ret ?_))
          rw [sam.2.1]
          have H6 := H5w.fk F6
          refine wp_iload (i := 10) dL_transact_317 rfl ?_
          refine wp_iload (i := 13) dL_transact_319 rfl ?_
          refine wp_cS (y' := m_L_told) [vi (bI false)] [vi (nI (RS_mo R)), vi (nI (RS_mo R))] 0 0 dL_transact_321 ml_L_83 st_L_told ok_L_told rfl (Nat.le_of_ble_eq_true rfl) rfl (Nat.le_of_ble_eq_true rfl) (d' := d - 1) (by omega) (Nat.zero_le _) (Nat.zero_le _) (c_L_told (b := false) (cont_ret ?_))
          rw [show bI false = (nI 0) from rfl]
          refine wp_iaddN dL_transact_324 ?_
          refine wp_icmp_neN 371 dL_transact_325 (by decide) (by omega) (by omega) (fun c_325 => absurd c_325 (by omega)) (fun c_325 => ?_)
          refine wp_iload (i := 13) dL_transact_328 rfl ?_
          refine wp_if_neN 342 dL_transact_330 (by decide) (by decide) (fun c_330 => absurd c_330 (by decide)) (fun c_330 => ?_)
          refine wp_aload_n (i := 0) dL_transact_333 rfl rfl ?_
          refine wp_cV (y' := m_X11_logged) 12 [] [] 6 40 dL_transact_334 ml_L_217 im_X11_logged se_X11_logged (by decide) C6.hk ok_X11_logged rfl (Nat.le_of_ble_eq_true rfl) rfl (Nat.le_of_ble_eq_true rfl) (d' := d - 1) (by omega) (by omega) (by omega) (g_logged B' (by omega) C6 (by omega) (by omega) (by omega) (fun h7 C7 F7 => cont_ret ?_))
          rw [sam.1]
          have H7 := H6.fk F7
          refine wp_iload (i := 9) dL_transact_337 rfl ?_
          refine wp_icmp_neN 371 dL_transact_339 (by decide) (by omega) (by omega) (fun c_339 => absurd c_339 (by omega)) (fun c_339 => ?_)
          refine wp_iload (i := 13) dL_transact_342 rfl ?_
          refine wp_if_eqN 367 dL_transact_344 (by decide) (by decide) (fun c_344 => ?_) (fun c_344 => absurd c_344 (by decide))
          refine wp_iconst (nI 1) dL_transact_367 (by decide) ?_
          refine wp_goto 372 dL_transact_368 (by decide) ?_
          refine wp_zreturn dL_transact_372 rfl (by decide) ?_
          exact hq _ (c + 1) S' _ (by omega) C7 B' ri (HO.set sc) (by show flg S' + czN w t R ≤ flg R + 2; rw [hcz]; omega) (by rw [srn]; exact H7)
        · skip
          refine wp_aload_n (i := 0) dL_transact_154 rfl rfl ?_
          refine wp_bipush (nI 10) dL_transact_155 (by decide) ?_
          refine wp_iload (i := 5) dL_transact_157 rfl ?_
          refine wp_iconst (nI 0) dL_transact_159 (by decide) ?_
          refine wp_cSH (y' := m_L_ask) [vr (some (nm 40 0)), vi (nI 10), vi (nI t), vi (nI 0)] [] 6 40 dL_transact_160 ml_L_184 st_L_ask okH_L_ask rfl (Nat.le_of_ble_eq_true rfl) rfl (Nat.le_of_ble_eq_true rfl) (d' := d - 1) (by omega) (by omega) (by omega) (q_sentBack (t := t) (by omega) B (by omega) C (by omega) (by omega) (by omega) (fun h1 C1 F1 => cont_ret ?_))
          rw [r_sentBack] at C1
          rw [show dA [-20002] (o_sentBack R (nI t) t) = zb from by rw [rx_sent ht]; exact ezb]
          have H1 := H.fk F1
          refine wp_istore (i := 8) (lv' := [(8, vi zb), (7, vi (nI w)), (6, vi (nI r)), (5, vi (nI t)), (0, vr (some (nm 40 0))), (1, vr (some nS)), (2, vi (nI i)), (3, vr (some (nm 70 1))), (4, vr (some (nm 70 2)))]) dL_transact_163 (by decide) rfl ?_
          refine wp_aload_n (i := 0) dL_transact_165 rfl rfl ?_
          refine wp_cV (y' := m_X11_logged) 12 [] [] 6 40 dL_transact_166 ml_L_217 im_X11_logged se_X11_logged (by decide) C1.hk ok_X11_logged rfl (Nat.le_of_ble_eq_true rfl) rfl (Nat.le_of_ble_eq_true rfl) (d' := d - 1) (by omega) (by omega) (by omega) (g_logged B (by omega) C1 (by omega) (by omega) (by omega) (fun h2 C2 F2 => cont_ret ?_))
          have H2 := H1.fk F2
          refine wp_istore (i := 9) (lv' := [(9, vi (nI ((RS_lg R).length))), (8, vi zb), (7, vi (nI w)), (6, vi (nI r)), (5, vi (nI t)), (0, vr (some (nm 40 0))), (1, vr (some nS)), (2, vi (nI i)), (3, vr (some (nm 70 1))), (4, vr (some (nm 70 2)))]) dL_transact_169 (by decide) rfl ?_
          refine wp_aload_n (i := 0) dL_transact_171 rfl rfl ?_
          refine wp_cV (y' := m_X11_moment) 12 [] [] 6 40 dL_transact_172 ml_L_214 im_X11_moment se_X11_moment (by decide) C2.hk ok_X11_moment rfl (Nat.le_of_ble_eq_true rfl) rfl (Nat.le_of_ble_eq_true rfl) (d' := d - 1) (by omega) (by omega) (by omega) (g_moment B (by omega) C2 (by omega) (by omega) (by omega) (fun h3 C3 F3 => cont_ret ?_))
          have H3 := H2.fk F3
          refine wp_istore (i := 10) (lv' := [(10, vi (nI (RS_mo R))), (9, vi (nI ((RS_lg R).length))), (8, vi zb), (7, vi (nI w)), (6, vi (nI r)), (5, vi (nI t)), (0, vr (some (nm 40 0))), (1, vr (some nS)), (2, vi (nI i)), (3, vr (some (nm 70 1))), (4, vr (some (nm 70 2)))]) dL_transact_175 (by decide) rfl ?_
          refine wp_iload (i := 7) dL_transact_177 rfl ?_
          refine wp_bipush (nI 6) dL_transact_179 (by decide) ?_
          refine wp_icmp_leN 373 dL_transact_181 (by decide) (by omega) (by decide) (fun c_181 => absurd c_181 (by omega)) (fun c_181 => ?_)
          refine wp_iload (i := 7) dL_transact_184 rfl ?_
          refine wp_bipush (nI 7) dL_transact_186 (by decide) ?_
          refine wp_icmp_neN 204 dL_transact_188 (by decide) (by omega) (by decide) (fun c_188 => absurd c_188 (by omega)) (fun c_188 => ?_)
          refine wp_aload_n (i := 0) dL_transact_191 rfl rfl ?_
          refine wp_bipush (nI 22) dL_transact_192 (by decide) ?_
          refine wp_iload (i := 5) dL_transact_194 rfl ?_
          refine wp_iconst (nI 0) dL_transact_196 (by decide) ?_
          refine wp_iconst (nI 0) dL_transact_197 (by decide) ?_
          refine wp_cSH (y' := m_L_deed) [vr (some (nm 40 0)), vi (nI 22), vi (nI t), vi (nI 0), vi (nI 0)] [] 60 (300 + 1100 * cgN (RS_tt R t) (RS_rn R) 0) dL_transact_198 ml_L_191 st_L_deed okH_L_deed rfl (Nat.le_of_ble_eq_true rfl) rfl (Nat.le_of_ble_eq_true rfl) (d' := d - 1) (by omega) (by omega) (by omega) (e_commit (t := t) ht B (by omega) C3 (by omega) (by omega) (by omega) (fun h4 C4 F4 => cont_ret ?_))
          rw [eo] at C4
          rw [show dA [-20002, -20003] (o_commit R (nI t) t) = nI 99 from by rw [eo]; rfl]
          have H4 := H3.fk F4
          refine wp_goto 238 dL_transact_201 (by decide) ?_
          refine wp_istore (i := 11) (lv' := [(11, vi (nI 99)), (10, vi (nI (RS_mo R))), (9, vi (nI ((RS_lg R).length))), (8, vi zb), (7, vi (nI w)), (6, vi (nI r)), (5, vi (nI t)), (0, vr (some (nm 40 0))), (1, vr (some nS)), (2, vi (nI i)), (3, vr (some (nm 70 1))), (4, vr (some (nm 70 2)))]) dL_transact_238 (by decide) rfl ?_
          refine wp_aload (i := 4) dL_transact_240 rfl ?_
          refine wp_iload (i := 5) dL_transact_242 rfl ?_
          refine wp_zaloadN 3 (bI (op t)) dL_transact_244 H4.2.2.2.2.1.1 H4.2.2.2.2.1.2.1 (by omega) (by decide) (H4.2.2.2.2.1.2.2 t ht) ?_
          refine wp_istore (i := 12) (lv' := [(12, vi (bI (op t))), (11, vi (nI 99)), (10, vi (nI (RS_mo R))), (9, vi (nI ((RS_lg R).length))), (8, vi zb), (7, vi (nI w)), (6, vi (nI r)), (5, vi (nI t)), (0, vr (some (nm 40 0))), (1, vr (some nS)), (2, vi (nI i)), (3, vr (some (nm 70 1))), (4, vr (some (nm 70 2)))]) dL_transact_245 (by decide) rfl ?_
          refine wp_aload (i := 4) dL_transact_247 rfl ?_
          refine wp_iload (i := 5) dL_transact_249 rfl ?_
          refine wp_iload (i := 11) dL_transact_251 rfl ?_
          refine wp_bipush (nI 115) dL_transact_253 (by decide) ?_
          refine wp_icmp_neN 262 dL_transact_255 (by decide) (by decide) (by decide) (fun c_255 => ?_) (fun c_255 => absurd c_255 (by decide))
          refine wp_iconst (nI 0) dL_transact_262 (by decide) ?_
          refine wp_zastoreN 3 dL_transact_263 H4.2.2.2.2.1.1 H4.2.2.2.2.1.2.1 (by omega) (by decide) (by decide) ?_
          have H5w := H4.wop (t := t) (b := false)
          have C5w := C4.law (fun a ha => ce_w70 (i := 2) (k := t) (z := (nI 0)) (show a ≠ nm 70 2 by unfold nm; omega))
          refine wp_iload (i := 11) dL_transact_264 rfl ?_
          refine wp_bipush (nI 99) dL_transact_266 (by decide) ?_
          refine wp_icmp_neN 284 dL_transact_268 (by decide) (by decide) (by decide) (fun c_268 => absurd c_268 (by decide)) (fun c_268 => ?_)
          refine wp_aload_n (i := 0) dL_transact_271 rfl rfl ?_
          refine wp_cV (y' := m_X11_logged) 12 [] [] 6 40 dL_transact_272 ml_L_217 im_X11_logged se_X11_logged (by decide) C5w.hk ok_X11_logged rfl (Nat.le_of_ble_eq_true rfl) rfl (Nat.le_of_ble_eq_true rfl) (d' := d - 1) (by omega) (by omega) (by omega) (g_logged B' (by omega) C5w (by omega) (by omega) (by omega) (fun h6 C6 F6 => cont_ret ?_))
          rw [sam.1]
          have H6 := H5w.fk F6
          refine wp_iload (i := 9) dL_transact_275 rfl ?_
          refine wp_icmp_leN 284 dL_transact_277 (by decide) (by omega) (by omega) (fun c_277 => ?_) (fun c_277 => absurd c_277 (by omega))
          refine wp_iconst (nI 0) dL_transact_284 (by decide) ?_
          refine wp_istore (i := 13) (lv' := [(13, vi (nI 0)), (12, vi (bI (op t))), (11, vi (nI 99)), (10, vi (nI (RS_mo R))), (9, vi (nI ((RS_lg R).length))), (8, vi zb), (7, vi (nI w)), (6, vi (nI r)), (5, vi (nI t)), (0, vr (some (nm 40 0))), (1, vr (some nS)), (2, vi (nI i)), (3, vr (some (nm 70 1))), (4, vr (some (nm 70 2)))]) dL_transact_285 (by decide) rfl ?_
          refine wp_iload (i := 11) dL_transact_287 rfl ?_
          refine wp_sipush (-20003) dL_transact_289 (by decide) ?_
          refine wp_icmp_ne 299 dL_transact_292 (by decide) (fun c_292 => ?_) (fun c_292 => absurd c_292 (nI_ne _ (by omega) _ (by decide)))
          refine wp_iconst (nI 0) dL_transact_299 (by decide) ?_
          refine wp_iload (i := 12) dL_transact_300 rfl ?_
          refine wp_if_neB 309 dL_transact_302 (by decide) (fun c_302 => ?_) (fun c_302 => absurd c_302 (by rw [hopn]; decide))
          refine wp_iconst (nI 0) dL_transact_309 (by decide) ?_
          refine wp_icmp_neN 371 dL_transact_310 (by decide) (by decide) (by decide) (fun c_310 => absurd c_310 (by decide)) (fun c_310 => ?_)
          refine wp_aload_n (i := 0) dL_transact_313 rfl rfl ?_
          refine wp_cV (y' := m_X11_moment) 12 [] [] 6 40 dL_transact_314 ml_L_214 im_X11_moment se_X11_moment (by decide) C6.hk ok_X11_moment rfl (Nat.le_of_ble_eq_true rfl) rfl (Nat.le_of_ble_eq_true rfl) (d' := d - 1) (by omega) (by omega) (by omega) (g_moment B' (by omega) C6 (by omega) (by omega) (by omega) (fun h7 C7 F7 => cont_ret ?_))
          rw [sam.2.1]
          have H7 := H6.fk F7
          refine wp_iload (i := 10) dL_transact_317 rfl ?_
          refine wp_iload (i := 13) dL_transact_319 rfl ?_
          refine wp_cS (y' := m_L_told) [vi (bI false)] [vi (nI (RS_mo R)), vi (nI (RS_mo R))] 0 0 dL_transact_321 ml_L_83 st_L_told ok_L_told rfl (Nat.le_of_ble_eq_true rfl) rfl (Nat.le_of_ble_eq_true rfl) (d' := d - 1) (by omega) (Nat.zero_le _) (Nat.zero_le _) (c_L_told (b := false) (cont_ret ?_))
          rw [show bI false = (nI 0) from rfl]
          refine wp_iaddN dL_transact_324 ?_
          refine wp_icmp_neN 371 dL_transact_325 (by decide) (by omega) (by omega) (fun c_325 => absurd c_325 (by omega)) (fun c_325 => ?_)
          refine wp_iload (i := 13) dL_transact_328 rfl ?_
          refine wp_if_neN 342 dL_transact_330 (by decide) (by decide) (fun c_330 => absurd c_330 (by decide)) (fun c_330 => ?_)
          refine wp_aload_n (i := 0) dL_transact_333 rfl rfl ?_
          refine wp_cV (y' := m_X11_logged) 12 [] [] 6 40 dL_transact_334 ml_L_217 im_X11_logged se_X11_logged (by decide) C7.hk ok_X11_logged rfl (Nat.le_of_ble_eq_true rfl) rfl (Nat.le_of_ble_eq_true rfl) (d' := d - 1) (by omega) (by omega) (by omega) (g_logged B' (by omega) C7 (by omega) (by omega) (by omega) (fun h8 C8 F8 => cont_ret ?_))
          rw [sam.1]
          have H8 := H7.fk F8
          refine wp_iload (i := 9) dL_transact_337 rfl ?_
          refine wp_icmp_neN 371 dL_transact_339 (by decide) (by omega) (by omega) (fun c_339 => absurd c_339 (by omega)) (fun c_339 => ?_)
          refine wp_iload (i := 13) dL_transact_342 rfl ?_
          refine wp_if_eqN 367 dL_transact_344 (by decide) (by decide) (fun c_344 => ?_) (fun c_344 => absurd c_344 (by decide))
          refine wp_iconst (nI 1) dL_transact_367 (by decide) ?_
          refine wp_goto 372 dL_transact_368 (by decide) ?_
          refine wp_zreturn dL_transact_372 rfl (by decide) ?_
          exact hq _ (c + 1) S' _ (by omega) C8 B' ri (HO.set sc) (by show flg S' + czN w t R ≤ flg R + 2; rw [hcz]; omega) (by rw [srn]; exact H8)
      · subst h99
        have hl6 : (RS_lg S').length ≤ 6 * (c + 1) := B'.2.2.2.2.1.1.2.2.2.2.2.1
        have elog : o_logAt S' (nI ((RS_lg S').length - 1)) ((RS_lg S').length - 1) (nI 0) 0 = (nI 0, nI (RS_mo R + 1), S') := by
          unfold o_logAt
          rw [if_neg (by rw [ixB_n1 (by omega) (by omega)]; decide), if_neg (by decide)]
          show (nI 0, logw (RS_lg S') ((RS_lg S').length - 1) 0, S') = _
          unfold logw
          rw [if_pos rfl, hlast]
        refine wp_aload_n (i := 0) dL_transact_154 rfl rfl ?_
        refine wp_bipush (nI 10) dL_transact_155 (by decide) ?_
        refine wp_iload (i := 5) dL_transact_157 rfl ?_
        refine wp_iconst (nI 0) dL_transact_159 (by decide) ?_
        refine wp_cSH (y' := m_L_ask) [vr (some (nm 40 0)), vi (nI 10), vi (nI t), vi (nI 0)] [] 6 40 dL_transact_160 ml_L_184 st_L_ask okH_L_ask rfl (Nat.le_of_ble_eq_true rfl) rfl (Nat.le_of_ble_eq_true rfl) (d' := d - 1) (by omega) (by omega) (by omega) (q_sentBack (t := t) (by omega) B (by omega) C (by omega) (by omega) (by omega) (fun h1 C1 F1 => cont_ret ?_))
        rw [r_sentBack] at C1
        rw [show dA [-20002] (o_sentBack R (nI t) t) = zb from by rw [rx_sent ht]; exact ezb]
        have H1 := H.fk F1
        refine wp_istore (i := 8) (lv' := [(8, vi zb), (7, vi (nI w)), (6, vi (nI r)), (5, vi (nI t)), (0, vr (some (nm 40 0))), (1, vr (some nS)), (2, vi (nI i)), (3, vr (some (nm 70 1))), (4, vr (some (nm 70 2)))]) dL_transact_163 (by decide) rfl ?_
        refine wp_aload_n (i := 0) dL_transact_165 rfl rfl ?_
        refine wp_cV (y' := m_X11_logged) 12 [] [] 6 40 dL_transact_166 ml_L_217 im_X11_logged se_X11_logged (by decide) C1.hk ok_X11_logged rfl (Nat.le_of_ble_eq_true rfl) rfl (Nat.le_of_ble_eq_true rfl) (d' := d - 1) (by omega) (by omega) (by omega) (g_logged B (by omega) C1 (by omega) (by omega) (by omega) (fun h2 C2 F2 => cont_ret ?_))
        have H2 := H1.fk F2
        refine wp_istore (i := 9) (lv' := [(9, vi (nI ((RS_lg R).length))), (8, vi zb), (7, vi (nI w)), (6, vi (nI r)), (5, vi (nI t)), (0, vr (some (nm 40 0))), (1, vr (some nS)), (2, vi (nI i)), (3, vr (some (nm 70 1))), (4, vr (some (nm 70 2)))]) dL_transact_169 (by decide) rfl ?_
        refine wp_aload_n (i := 0) dL_transact_171 rfl rfl ?_
        refine wp_cV (y' := m_X11_moment) 12 [] [] 6 40 dL_transact_172 ml_L_214 im_X11_moment se_X11_moment (by decide) C2.hk ok_X11_moment rfl (Nat.le_of_ble_eq_true rfl) rfl (Nat.le_of_ble_eq_true rfl) (d' := d - 1) (by omega) (by omega) (by omega) (g_moment B (by omega) C2 (by omega) (by omega) (by omega) (fun h3 C3 F3 => cont_ret ?_))
        have H3 := H2.fk F3
        refine wp_istore (i := 10) (lv' := [(10, vi (nI (RS_mo R))), (9, vi (nI ((RS_lg R).length))), (8, vi zb), (7, vi (nI w)), (6, vi (nI r)), (5, vi (nI t)), (0, vr (some (nm 40 0))), (1, vr (some nS)), (2, vi (nI i)), (3, vr (some (nm 70 1))), (4, vr (some (nm 70 2)))]) dL_transact_175 (by decide) rfl ?_
        refine wp_iload (i := 7) dL_transact_177 rfl ?_
        refine wp_bipush (nI 6) dL_transact_179 (by decide) ?_
        refine wp_icmp_leN 373 dL_transact_181 (by decide) (by omega) (by decide) (fun c_181 => absurd c_181 (by omega)) (fun c_181 => ?_)
        refine wp_iload (i := 7) dL_transact_184 rfl ?_
        refine wp_bipush (nI 7) dL_transact_186 (by decide) ?_
        refine wp_icmp_neN 204 dL_transact_188 (by decide) (by omega) (by decide) (fun c_188 => absurd c_188 (by omega)) (fun c_188 => ?_)
        refine wp_aload_n (i := 0) dL_transact_191 rfl rfl ?_
        refine wp_bipush (nI 22) dL_transact_192 (by decide) ?_
        refine wp_iload (i := 5) dL_transact_194 rfl ?_
        refine wp_iconst (nI 0) dL_transact_196 (by decide) ?_
        refine wp_iconst (nI 0) dL_transact_197 (by decide) ?_
        refine wp_cSH (y' := m_L_deed) [vr (some (nm 40 0)), vi (nI 22), vi (nI t), vi (nI 0), vi (nI 0)] [] 60 (300 + 1100 * cgN (RS_tt R t) (RS_rn R) 0) dL_transact_198 ml_L_191 st_L_deed okH_L_deed rfl (Nat.le_of_ble_eq_true rfl) rfl (Nat.le_of_ble_eq_true rfl) (d' := d - 1) (by omega) (by omega) (by omega) (e_commit (t := t) ht B (by omega) C3 (by omega) (by omega) (by omega) (fun h4 C4 F4 => cont_ret ?_))
        rw [eo] at C4
        rw [show dA [-20002, -20003] (o_commit R (nI t) t) = nI 99 from by rw [eo]; rfl]
        have H4 := H3.fk F4
        refine wp_goto 238 dL_transact_201 (by decide) ?_
        refine wp_istore (i := 11) (lv' := [(11, vi (nI 99)), (10, vi (nI (RS_mo R))), (9, vi (nI ((RS_lg R).length))), (8, vi zb), (7, vi (nI w)), (6, vi (nI r)), (5, vi (nI t)), (0, vr (some (nm 40 0))), (1, vr (some nS)), (2, vi (nI i)), (3, vr (some (nm 70 1))), (4, vr (some (nm 70 2)))]) dL_transact_238 (by decide) rfl ?_
        refine wp_aload (i := 4) dL_transact_240 rfl ?_
        refine wp_iload (i := 5) dL_transact_242 rfl ?_
        refine wp_zaloadN 3 (bI (op t)) dL_transact_244 H4.2.2.2.2.1.1 H4.2.2.2.2.1.2.1 (by omega) (by decide) (H4.2.2.2.2.1.2.2 t ht) ?_
        refine wp_istore (i := 12) (lv' := [(12, vi (bI (op t))), (11, vi (nI 99)), (10, vi (nI (RS_mo R))), (9, vi (nI ((RS_lg R).length))), (8, vi zb), (7, vi (nI w)), (6, vi (nI r)), (5, vi (nI t)), (0, vr (some (nm 40 0))), (1, vr (some nS)), (2, vi (nI i)), (3, vr (some (nm 70 1))), (4, vr (some (nm 70 2)))]) dL_transact_245 (by decide) rfl ?_
        refine wp_aload (i := 4) dL_transact_247 rfl ?_
        refine wp_iload (i := 5) dL_transact_249 rfl ?_
        refine wp_iload (i := 11) dL_transact_251 rfl ?_
        refine wp_bipush (nI 115) dL_transact_253 (by decide) ?_
        refine wp_icmp_neN 262 dL_transact_255 (by decide) (by decide) (by decide) (fun c_255 => ?_) (fun c_255 => absurd c_255 (by decide))
        refine wp_iconst (nI 0) dL_transact_262 (by decide) ?_
        refine wp_zastoreN 3 dL_transact_263 H4.2.2.2.2.1.1 H4.2.2.2.2.1.2.1 (by omega) (by decide) (by decide) ?_
        have H5w := H4.wop (t := t) (b := false)
        have C5w := C4.law (fun a ha => ce_w70 (i := 2) (k := t) (z := (nI 0)) (show a ≠ nm 70 2 by unfold nm; omega))
        refine wp_iload (i := 11) dL_transact_264 rfl ?_
        refine wp_bipush (nI 99) dL_transact_266 (by decide) ?_
        refine wp_icmp_neN 284 dL_transact_268 (by decide) (by decide) (by decide) (fun c_268 => absurd c_268 (by decide)) (fun c_268 => ?_)
        refine wp_aload_n (i := 0) dL_transact_271 rfl rfl ?_
        refine wp_cV (y' := m_X11_logged) 12 [] [] 6 40 dL_transact_272 ml_L_217 im_X11_logged se_X11_logged (by decide) C5w.hk ok_X11_logged rfl (Nat.le_of_ble_eq_true rfl) rfl (Nat.le_of_ble_eq_true rfl) (d' := d - 1) (by omega) (by omega) (by omega) (g_logged B' (by omega) C5w (by omega) (by omega) (by omega) (fun h6 C6 F6 => cont_ret ?_))
        have H6 := H5w.fk F6
        refine wp_iload (i := 9) dL_transact_275 rfl ?_
        refine wp_icmp_leN 284 dL_transact_277 (by decide) (by omega) (by omega) (fun c_277 => absurd c_277 (by omega)) (fun c_277 => ?_)
        refine wp_iconst (nI 1) dL_transact_280 (by decide) ?_
        refine wp_goto 285 dL_transact_281 (by decide) ?_
        refine wp_istore (i := 13) (lv' := [(13, vi (nI 1)), (12, vi (bI (op t))), (11, vi (nI 99)), (10, vi (nI (RS_mo R))), (9, vi (nI ((RS_lg R).length))), (8, vi zb), (7, vi (nI w)), (6, vi (nI r)), (5, vi (nI t)), (0, vr (some (nm 40 0))), (1, vr (some nS)), (2, vi (nI i)), (3, vr (some (nm 70 1))), (4, vr (some (nm 70 2)))]) dL_transact_285 (by decide) rfl ?_
        refine wp_iload (i := 11) dL_transact_287 rfl ?_
        refine wp_sipush (-20003) dL_transact_289 (by decide) ?_
        refine wp_icmp_ne 299 dL_transact_292 (by decide) (fun c_292 => ?_) (fun c_292 => absurd c_292 (nI_ne _ (by omega) _ (by decide)))
        refine wp_iconst (nI 0) dL_transact_299 (by decide) ?_
        refine wp_iload (i := 12) dL_transact_300 rfl ?_
        refine wp_if_neB 309 dL_transact_302 (by decide) (fun c_302 => ?_) (fun c_302 => absurd c_302 (by rw [hopn]; decide))
        refine wp_iconst (nI 0) dL_transact_309 (by decide) ?_
        refine wp_icmp_neN 371 dL_transact_310 (by decide) (by decide) (by decide) (fun c_310 => absurd c_310 (by decide)) (fun c_310 => ?_)
        refine wp_aload_n (i := 0) dL_transact_313 rfl rfl ?_
        refine wp_cV (y' := m_X11_moment) 12 [] [] 6 40 dL_transact_314 ml_L_214 im_X11_moment se_X11_moment (by decide) C6.hk ok_X11_moment rfl (Nat.le_of_ble_eq_true rfl) rfl (Nat.le_of_ble_eq_true rfl) (d' := d - 1) (by omega) (by omega) (by omega) (g_moment B' (by omega) C6 (by omega) (by omega) (by omega) (fun h7 C7 F7 => cont_ret ?_))
        rw [hm]
        have H7 := H6.fk F7
        refine wp_iload (i := 10) dL_transact_317 rfl ?_
        refine wp_iload (i := 13) dL_transact_319 rfl ?_
        refine wp_cS (y' := m_L_told) [vi (bI true)] [vi (nI (RS_mo R)), vi (nI (RS_mo R + 1))] 0 0 dL_transact_321 ml_L_83 st_L_told ok_L_told rfl (Nat.le_of_ble_eq_true rfl) rfl (Nat.le_of_ble_eq_true rfl) (d' := d - 1) (by omega) (Nat.zero_le _) (Nat.zero_le _) (c_L_told (b := true) (cont_ret ?_))
        rw [show bI true = (nI 1) from rfl]
        refine wp_iaddN dL_transact_324 ?_
        refine wp_icmp_neN 371 dL_transact_325 (by decide) (by omega) (by omega) (fun c_325 => absurd c_325 (by omega)) (fun c_325 => ?_)
        refine wp_iload (i := 13) dL_transact_328 rfl ?_
        refine wp_if_neN 342 dL_transact_330 (by decide) (by decide) (fun c_330 => ?_) (fun c_330 => absurd c_330 (by decide))
        refine wp_iload (i := 13) dL_transact_342 rfl ?_
        refine wp_if_eqN 367 dL_transact_344 (by decide) (by decide) (fun c_344 => absurd c_344 (by decide)) (fun c_344 => ?_)
        refine wp_aload_n (i := 0) dL_transact_347 rfl rfl ?_
        refine wp_bipush (nI 14) dL_transact_348 (by decide) ?_
        refine wp_aload_n (i := 0) dL_transact_350 rfl rfl ?_
        refine wp_cV (y' := m_X11_logged) 12 [] [vi (nI 14), vr (some (nm 40 0))] 6 40 dL_transact_351 ml_L_217 im_X11_logged se_X11_logged (by decide) C7.hk ok_X11_logged rfl (Nat.le_of_ble_eq_true rfl) rfl (Nat.le_of_ble_eq_true rfl) (d' := d - 1) (by omega) (by omega) (by omega) (g_logged B' (by omega) C7 (by omega) (by omega) (by omega) (fun h8 C8 F8 => cont_ret ?_))
        have H8 := H7.fk F8
        refine wp_iconst (nI 1) dL_transact_354 (by decide) ?_
        refine wp_isubN dL_transact_355 (by omega) ?_
        refine wp_iconst (nI 0) dL_transact_356 (by decide) ?_
        refine wp_cSH (y' := m_L_ask) [vr (some (nm 40 0)), vi (nI 14), vi (nI (((RS_lg S').length) - 1)), vi (nI 0)] [] 6 40 dL_transact_357 ml_L_184 st_L_ask okH_L_ask rfl (Nat.le_of_ble_eq_true rfl) rfl (Nat.le_of_ble_eq_true rfl) (d' := d - 1) (by omega) (by omega) (by omega) (q_logAt (k := (((RS_lg S').length) - 1)) (by omega) (j := 0) (by decide) B' (by omega) C8 (by omega) (by omega) (by omega) (fun h9 C9 F9 => cont_ret ?_))
        rw [r_logAt] at C9
        rw [show dA [-20001, -20002] (o_logAt S' (nI (((RS_lg S').length) - 1)) (((RS_lg S').length) - 1) (nI 0) 0) = nI (RS_mo R + 1) from by rw [elog]; rfl]
        have H9 := H8.fk F9
        refine wp_iload (i := 10) dL_transact_360 rfl ?_
        refine wp_iconst (nI 1) dL_transact_362 (by decide) ?_
        refine wp_iaddN dL_transact_363 ?_
        refine wp_icmp_neN 371 dL_transact_364 (by decide) (by omega) (by omega) (fun c_364 => absurd c_364 (by omega)) (fun c_364 => ?_)
        refine wp_iconst (nI 1) dL_transact_367 (by decide) ?_
        refine wp_goto 372 dL_transact_368 (by decide) ?_
        refine wp_zreturn dL_transact_372 rfl (by decide) ?_
        exact hq _ (c + 1) S' _ (by omega) C9 B' ri (HO.set sc) (by show flg S' + czN w t R ≤ flg R + 2; rw [hcz]; omega) (by rw [srn]; exact H9)
set_option maxRecDepth 100000 in
set_option maxHeartbeats 4000000 in
theorem l_tr_8c {G : GG} {d c n k : Nat} {Q : Pst} {V : SV} {x : Nat → QIS} {R : RS} {K J i w t r : Nat} {ro : Nat → Nat} {rf : Nat → Nat → Int32} {op : Nat → Bool} (B : PU c V n x R) (hc : c + 4 ≤ 512) (hk : k < 110) (HI : RI k R) (HO : OPI op R) (ht : t < 3) (hr : r < 6) (hw : w < 9) (hd : 40 ≤ d) (hL : slen G < 2 ^ 31) (hi : i + 200 < 2 ^ 31) {h : Hp} {M bc bs : Nat} (C : CLS h V M n x R) (H : LWH h (sNv V) n (RS_rn R) ro rf K J op) (hbc : 150 ≤ bc) (hbs : 1500 + 1100 * czN w t R ≤ bs) (hq : ∀ h' c' R' op', c' ≤ c + 4 → CLS h' V M n x R' → PU c' V n x R' → RI (k + 1) R' → OPI op' R' → flg R' + czN w t R ≤ flg R + 2 → LWH h' (sNv V) n (RS_rn R') ro rf K J op' → Q (oRet (vi (nI 1))) h') (hw2 : w = 8) (hp4 : pkV G (i + 3) 4 ≠ 0) : WP G m_L_transact d 154 [(7, vi (nI w)), (6, vi (nI r)), (5, vi (nI t)), (0, vr (some (nm 40 0))), (1, vr (some nS)), (2, vi (nI i)), (3, vr (some (nm 70 1))), (4, vr (some (nm 70 2)))] [] h bc bs Q := by
  have h6 : RS_rn R ≤ 6 := B.2.2.2.2.1.1.2.1
  have hmo : RS_mo R ≤ c := B.2.2.2.2.1.1.2.2.2.1
  have hlg : (RS_lg R).length ≤ 6 * c := B.2.2.2.2.1.1.2.2.2.2.2.1
  obtain ⟨zb, ezb⟩ : ∃ z, nI (OT_bk (RS_tt R t)) = z := ⟨_, rfl⟩
  have hbk := (HI.1 t ht).1.1
  have hpk4 := @pkv_lt G (i + 3) 4 (by decide)
  have hcz : czN w t R = cgN (RS_tt R t) (RS_rn R) 0 := if_pos (by omega)
  cases hop : OT_op (RS_tt R t) with
  | false =>
    have hopn : op t = false := (HO t ht).trans hop
    have eo := (rx_shut2 ht hop).1
    have h0 := (HI.1 t ht).2.2 hop
    have h1 := cgN_le (y := RS_tt R t) (RS_rn R) 6 0 h6
    refine wp_aload_n (i := 0) dL_transact_154 rfl rfl ?_
    refine wp_bipush (nI 10) dL_transact_155 (by decide) ?_
    refine wp_iload (i := 5) dL_transact_157 rfl ?_
    refine wp_iconst (nI 0) dL_transact_159 (by decide) ?_
    refine wp_cSH (y' := m_L_ask) [vr (some (nm 40 0)), vi (nI 10), vi (nI t), vi (nI 0)] [] 6 40 dL_transact_160 ml_L_184 st_L_ask okH_L_ask rfl (Nat.le_of_ble_eq_true rfl) rfl (Nat.le_of_ble_eq_true rfl) (d' := d - 1) (by omega) (by omega) (by omega) (q_sentBack (t := t) (by omega) B (by omega) C (by omega) (by omega) (by omega) (fun h1 C1 F1 => cont_ret ?_))
    rw [r_sentBack] at C1
    rw [show dA [-20002] (o_sentBack R (nI t) t) = zb from by rw [rx_sent ht]; exact ezb]
    have H1 := H.fk F1
    refine wp_istore (i := 8) (lv' := [(8, vi zb), (7, vi (nI w)), (6, vi (nI r)), (5, vi (nI t)), (0, vr (some (nm 40 0))), (1, vr (some nS)), (2, vi (nI i)), (3, vr (some (nm 70 1))), (4, vr (some (nm 70 2)))]) dL_transact_163 (by decide) rfl ?_
    refine wp_aload_n (i := 0) dL_transact_165 rfl rfl ?_
    refine wp_cV (y' := m_X11_logged) 12 [] [] 6 40 dL_transact_166 ml_L_217 im_X11_logged se_X11_logged (by decide) C1.hk ok_X11_logged rfl (Nat.le_of_ble_eq_true rfl) rfl (Nat.le_of_ble_eq_true rfl) (d' := d - 1) (by omega) (by omega) (by omega) (g_logged B (by omega) C1 (by omega) (by omega) (by omega) (fun h2 C2 F2 => cont_ret ?_))
    have H2 := H1.fk F2
    refine wp_istore (i := 9) (lv' := [(9, vi (nI ((RS_lg R).length))), (8, vi zb), (7, vi (nI w)), (6, vi (nI r)), (5, vi (nI t)), (0, vr (some (nm 40 0))), (1, vr (some nS)), (2, vi (nI i)), (3, vr (some (nm 70 1))), (4, vr (some (nm 70 2)))]) dL_transact_169 (by decide) rfl ?_
    refine wp_aload_n (i := 0) dL_transact_171 rfl rfl ?_
    refine wp_cV (y' := m_X11_moment) 12 [] [] 6 40 dL_transact_172 ml_L_214 im_X11_moment se_X11_moment (by decide) C2.hk ok_X11_moment rfl (Nat.le_of_ble_eq_true rfl) rfl (Nat.le_of_ble_eq_true rfl) (d' := d - 1) (by omega) (by omega) (by omega) (g_moment B (by omega) C2 (by omega) (by omega) (by omega) (fun h3 C3 F3 => cont_ret ?_))
    have H3 := H2.fk F3
    refine wp_istore (i := 10) (lv' := [(10, vi (nI (RS_mo R))), (9, vi (nI ((RS_lg R).length))), (8, vi zb), (7, vi (nI w)), (6, vi (nI r)), (5, vi (nI t)), (0, vr (some (nm 40 0))), (1, vr (some nS)), (2, vi (nI i)), (3, vr (some (nm 70 1))), (4, vr (some (nm 70 2)))]) dL_transact_175 (by decide) rfl ?_
    refine wp_iload (i := 7) dL_transact_177 rfl ?_
    refine wp_bipush (nI 6) dL_transact_179 (by decide) ?_
    refine wp_icmp_leN 373 dL_transact_181 (by decide) (by omega) (by decide) (fun c_181 => absurd c_181 (by omega)) (fun c_181 => ?_)
    refine wp_iload (i := 7) dL_transact_184 rfl ?_
    refine wp_bipush (nI 7) dL_transact_186 (by decide) ?_
    refine wp_icmp_neN 204 dL_transact_188 (by decide) (by omega) (by decide) (fun c_188 => ?_) (fun c_188 => absurd c_188 (by omega))
    refine wp_aload_n (i := 1) dL_transact_204 rfl rfl ?_
    refine wp_iload_n (i := 2) dL_transact_205 rfl rfl ?_
    refine wp_iconst (nI 3) dL_transact_206 (by decide) ?_
    refine wp_iaddN dL_transact_207 ?_
    refine wp_iconst (nI 4) dL_transact_208 (by decide) ?_
    refine wp_cS (y' := m_L_pick) [vr (some nS), vi (nI (i + 3)), vi (nI 4)] [] 0 0 dL_transact_209 ml_L_199 st_L_pick ok_L_pick rfl (Nat.le_of_ble_eq_true rfl) rfl (Nat.le_of_ble_eq_true rfl) (d' := d - 1) (by omega) (Nat.zero_le _) (Nat.zero_le _) (c_L_pick (by omega) (by decide) (by omega) hL (by omega) (cont_ret ?_))
    refine wp_if_neN 228 dL_transact_212 (by decide) (by omega) (fun c_212 => ?_) (fun c_212 => absurd c_212 (by omega))
    refine wp_aload_n (i := 0) dL_transact_228 rfl rfl ?_
    refine wp_bipush (nI 22) dL_transact_229 (by decide) ?_
    refine wp_iload (i := 5) dL_transact_231 rfl ?_
    refine wp_iconst (nI 0) dL_transact_233 (by decide) ?_
    refine wp_iconst (nI 0) dL_transact_234 (by decide) ?_
    refine wp_cSH (y' := m_L_deed) [vr (some (nm 40 0)), vi (nI 22), vi (nI t), vi (nI 0), vi (nI 0)] [] 60 (300 + 1100 * cgN (RS_tt R t) (RS_rn R) 0) dL_transact_235 ml_L_191 st_L_deed okH_L_deed rfl (Nat.le_of_ble_eq_true rfl) rfl (Nat.le_of_ble_eq_true rfl) (d' := d - 1) (by omega) (by omega) (by omega) (e_commit (t := t) ht B (by omega) C3 (by omega) (by omega) (by omega) (fun h4 C4 F4 => cont_ret ?_))
    rw [eo] at C4
    rw [show dA [-20002, -20003] (o_commit R (nI t) t) = -20003 from by rw [eo]; rfl]
    have H4 := H3.fk F4
    refine wp_istore (i := 11) (lv' := [(11, vi (-20003)), (10, vi (nI (RS_mo R))), (9, vi (nI ((RS_lg R).length))), (8, vi zb), (7, vi (nI w)), (6, vi (nI r)), (5, vi (nI t)), (0, vr (some (nm 40 0))), (1, vr (some nS)), (2, vi (nI i)), (3, vr (some (nm 70 1))), (4, vr (some (nm 70 2)))]) dL_transact_238 (by decide) rfl ?_
    refine wp_aload (i := 4) dL_transact_240 rfl ?_
    refine wp_iload (i := 5) dL_transact_242 rfl ?_
    refine wp_zaloadN 3 (bI (op t)) dL_transact_244 H4.2.2.2.2.1.1 H4.2.2.2.2.1.2.1 (by omega) (by decide) (H4.2.2.2.2.1.2.2 t ht) ?_
    refine wp_istore (i := 12) (lv' := [(12, vi (bI (op t))), (11, vi (-20003)), (10, vi (nI (RS_mo R))), (9, vi (nI ((RS_lg R).length))), (8, vi zb), (7, vi (nI w)), (6, vi (nI r)), (5, vi (nI t)), (0, vr (some (nm 40 0))), (1, vr (some nS)), (2, vi (nI i)), (3, vr (some (nm 70 1))), (4, vr (some (nm 70 2)))]) dL_transact_245 (by decide) rfl ?_
    refine wp_aload (i := 4) dL_transact_247 rfl ?_
    refine wp_iload (i := 5) dL_transact_249 rfl ?_
    refine wp_iload (i := 11) dL_transact_251 rfl ?_
    refine wp_bipush (nI 115) dL_transact_253 (by decide) ?_
    refine wp_icmp_ne 262 dL_transact_255 (by decide) (fun c_255 => ?_) (fun c_255 => absurd c_255 (by decide))
    refine wp_iconst (nI 0) dL_transact_262 (by decide) ?_
    refine wp_zastoreN 3 dL_transact_263 H4.2.2.2.2.1.1 H4.2.2.2.2.1.2.1 (by omega) (by decide) (by decide) ?_
    have H5w := H4.wop (t := t) (b := false)
    have C5w := C4.law (fun a ha => ce_w70 (i := 2) (k := t) (z := (nI 0)) (show a ≠ nm 70 2 by unfold nm; omega))
    refine wp_iload (i := 11) dL_transact_264 rfl ?_
    refine wp_bipush (nI 99) dL_transact_266 (by decide) ?_
    refine wp_icmp_ne 284 dL_transact_268 (by decide) (fun c_268 => ?_) (fun c_268 => absurd c_268 (by decide))
    refine wp_iconst (nI 0) dL_transact_284 (by decide) ?_
    refine wp_istore (i := 13) (lv' := [(13, vi (nI 0)), (12, vi (bI (op t))), (11, vi (-20003)), (10, vi (nI (RS_mo R))), (9, vi (nI ((RS_lg R).length))), (8, vi zb), (7, vi (nI w)), (6, vi (nI r)), (5, vi (nI t)), (0, vr (some (nm 40 0))), (1, vr (some nS)), (2, vi (nI i)), (3, vr (some (nm 70 1))), (4, vr (some (nm 70 2)))]) dL_transact_285 (by decide) rfl ?_
    refine wp_iload (i := 11) dL_transact_287 rfl ?_
    refine wp_sipush (-20003) dL_transact_289 (by decide) ?_
    refine wp_icmp_ne 299 dL_transact_292 (by decide) (fun c_292 => absurd c_292 (fun z => z rfl)) (fun c_292 => ?_)
    refine wp_iconst (nI 1) dL_transact_295 (by decide) ?_
    refine wp_goto 300 dL_transact_296 (by decide) ?_
    refine wp_iload (i := 12) dL_transact_300 rfl ?_
    refine wp_if_neB 309 dL_transact_302 (by decide) (fun c_302 => absurd c_302 (by rw [hopn]; decide)) (fun c_302 => ?_)
    refine wp_iconst (nI 1) dL_transact_305 (by decide) ?_
    refine wp_goto 310 dL_transact_306 (by decide) ?_
    refine wp_icmp_neN 371 dL_transact_310 (by decide) (by decide) (by decide) (fun c_310 => absurd c_310 (by decide)) (fun c_310 => ?_)
    refine wp_aload_n (i := 0) dL_transact_313 rfl rfl ?_
    refine wp_cV (y' := m_X11_moment) 12 [] [] 6 40 dL_transact_314 ml_L_214 im_X11_moment se_X11_moment (by decide) C5w.hk ok_X11_moment rfl (Nat.le_of_ble_eq_true rfl) rfl (Nat.le_of_ble_eq_true rfl) (d' := d - 1) (by omega) (by omega) (by omega) (g_moment B (by omega) C5w (by omega) (by omega) (by omega) (fun h6 C6 F6 => cont_ret ?_))
    have H6 := H5w.fk F6
    refine wp_iload (i := 10) dL_transact_317 rfl ?_
    refine wp_iload (i := 13) dL_transact_319 rfl ?_
    refine wp_cS (y' := m_L_told) [vi (bI false)] [vi (nI (RS_mo R)), vi (nI (RS_mo R))] 0 0 dL_transact_321 ml_L_83 st_L_told ok_L_told rfl (Nat.le_of_ble_eq_true rfl) rfl (Nat.le_of_ble_eq_true rfl) (d' := d - 1) (by omega) (Nat.zero_le _) (Nat.zero_le _) (c_L_told (b := false) (cont_ret ?_))
    rw [show bI false = (nI 0) from rfl]
    refine wp_iaddN dL_transact_324 ?_
    refine wp_icmp_neN 371 dL_transact_325 (by decide) (by omega) (by omega) (fun c_325 => absurd c_325 (by omega)) (fun c_325 => ?_)
    refine wp_iload (i := 13) dL_transact_328 rfl ?_
    refine wp_if_neN 342 dL_transact_330 (by decide) (by decide) (fun c_330 => absurd c_330 (by decide)) (fun c_330 => ?_)
    refine wp_aload_n (i := 0) dL_transact_333 rfl rfl ?_
    refine wp_cV (y' := m_X11_logged) 12 [] [] 6 40 dL_transact_334 ml_L_217 im_X11_logged se_X11_logged (by decide) C6.hk ok_X11_logged rfl (Nat.le_of_ble_eq_true rfl) rfl (Nat.le_of_ble_eq_true rfl) (d' := d - 1) (by omega) (by omega) (by omega) (g_logged B (by omega) C6 (by omega) (by omega) (by omega) (fun h7 C7 F7 => cont_ret ?_))
    have H7 := H6.fk F7
    refine wp_iload (i := 9) dL_transact_337 rfl ?_
    refine wp_icmp_neN 371 dL_transact_339 (by decide) (by omega) (by omega) (fun c_339 => absurd c_339 (by omega)) (fun c_339 => ?_)
    refine wp_iload (i := 13) dL_transact_342 rfl ?_
    refine wp_if_eqN 367 dL_transact_344 (by decide) (by decide) (fun c_344 => ?_) (fun c_344 => absurd c_344 (by decide))
    refine wp_iconst (nI 1) dL_transact_367 (by decide) ?_
    refine wp_goto 372 dL_transact_368 (by decide) ?_
    refine wp_zreturn dL_transact_372 rfl (by decide) ?_
    exact hq _ c R _ (by omega) C7 B HI.up (HO.sto (fun _ => rfl) ht hop) (by rw [hcz]; omega) (by exact H7)
  | true =>
    have hopn : op t = true := (HO t ht).trans hop
    have q8 : RB (c + 1) (o_commit R (nI t) t).2.2 := RB_commit B.2.2.2.2.1 (by omega) (ixk (by omega) (by decide))
    obtain ⟨f1, f2, f3⟩ := f_commit (R := R) (v := nI t) ht h6
    have l8 : LFS R (o_commit R (nI t) t).2.2 := ⟨by omega, by omega⟩
    rcases rx_commit ht h6 hop HI with ⟨S', eo, ri, so, sam⟩ | ⟨S', w', hw', eo, ri, sc, srn, hgr⟩
    · skip
      rw [eo] at q8 l8 f2
      have B' : PU (c + 1) V n x S' := B.r q8 l8
      have fl8 : flg S' + cgN (RS_tt R t) (RS_rn R) 0 ≤ flg R := f2 rfl
      refine wp_aload_n (i := 0) dL_transact_154 rfl rfl ?_
      refine wp_bipush (nI 10) dL_transact_155 (by decide) ?_
      refine wp_iload (i := 5) dL_transact_157 rfl ?_
      refine wp_iconst (nI 0) dL_transact_159 (by decide) ?_
      refine wp_cSH (y' := m_L_ask) [vr (some (nm 40 0)), vi (nI 10), vi (nI t), vi (nI 0)] [] 6 40 dL_transact_160 ml_L_184 st_L_ask okH_L_ask rfl (Nat.le_of_ble_eq_true rfl) rfl (Nat.le_of_ble_eq_true rfl) (d' := d - 1) (by omega) (by omega) (by omega) (q_sentBack (t := t) (by omega) B (by omega) C (by omega) (by omega) (by omega) (fun h1 C1 F1 => cont_ret ?_))
      rw [r_sentBack] at C1
      rw [show dA [-20002] (o_sentBack R (nI t) t) = zb from by rw [rx_sent ht]; exact ezb]
      have H1 := H.fk F1
      refine wp_istore (i := 8) (lv' := [(8, vi zb), (7, vi (nI w)), (6, vi (nI r)), (5, vi (nI t)), (0, vr (some (nm 40 0))), (1, vr (some nS)), (2, vi (nI i)), (3, vr (some (nm 70 1))), (4, vr (some (nm 70 2)))]) dL_transact_163 (by decide) rfl ?_
      refine wp_aload_n (i := 0) dL_transact_165 rfl rfl ?_
      refine wp_cV (y' := m_X11_logged) 12 [] [] 6 40 dL_transact_166 ml_L_217 im_X11_logged se_X11_logged (by decide) C1.hk ok_X11_logged rfl (Nat.le_of_ble_eq_true rfl) rfl (Nat.le_of_ble_eq_true rfl) (d' := d - 1) (by omega) (by omega) (by omega) (g_logged B (by omega) C1 (by omega) (by omega) (by omega) (fun h2 C2 F2 => cont_ret ?_))
      have H2 := H1.fk F2
      refine wp_istore (i := 9) (lv' := [(9, vi (nI ((RS_lg R).length))), (8, vi zb), (7, vi (nI w)), (6, vi (nI r)), (5, vi (nI t)), (0, vr (some (nm 40 0))), (1, vr (some nS)), (2, vi (nI i)), (3, vr (some (nm 70 1))), (4, vr (some (nm 70 2)))]) dL_transact_169 (by decide) rfl ?_
      refine wp_aload_n (i := 0) dL_transact_171 rfl rfl ?_
      refine wp_cV (y' := m_X11_moment) 12 [] [] 6 40 dL_transact_172 ml_L_214 im_X11_moment se_X11_moment (by decide) C2.hk ok_X11_moment rfl (Nat.le_of_ble_eq_true rfl) rfl (Nat.le_of_ble_eq_true rfl) (d' := d - 1) (by omega) (by omega) (by omega) (g_moment B (by omega) C2 (by omega) (by omega) (by omega) (fun h3 C3 F3 => cont_ret ?_))
      have H3 := H2.fk F3
      refine wp_istore (i := 10) (lv' := [(10, vi (nI (RS_mo R))), (9, vi (nI ((RS_lg R).length))), (8, vi zb), (7, vi (nI w)), (6, vi (nI r)), (5, vi (nI t)), (0, vr (some (nm 40 0))), (1, vr (some nS)), (2, vi (nI i)), (3, vr (some (nm 70 1))), (4, vr (some (nm 70 2)))]) dL_transact_175 (by decide) rfl ?_
      refine wp_iload (i := 7) dL_transact_177 rfl ?_
      refine wp_bipush (nI 6) dL_transact_179 (by decide) ?_
      refine wp_icmp_leN 373 dL_transact_181 (by decide) (by omega) (by decide) (fun c_181 => absurd c_181 (by omega)) (fun c_181 => ?_)
      refine wp_iload (i := 7) dL_transact_184 rfl ?_
      refine wp_bipush (nI 7) dL_transact_186 (by decide) ?_
      refine wp_icmp_neN 204 dL_transact_188 (by decide) (by omega) (by decide) (fun c_188 => ?_) (fun c_188 => absurd c_188 (by omega))
      refine wp_aload_n (i := 1) dL_transact_204 rfl rfl ?_
      refine wp_iload_n (i := 2) dL_transact_205 rfl rfl ?_
      refine wp_iconst (nI 3) dL_transact_206 (by decide) ?_
      refine wp_iaddN dL_transact_207 ?_
      refine wp_iconst (nI 4) dL_transact_208 (by decide) ?_
      refine wp_cS (y' := m_L_pick) [vr (some nS), vi (nI (i + 3)), vi (nI 4)] [] 0 0 dL_transact_209 ml_L_199 st_L_pick ok_L_pick rfl (Nat.le_of_ble_eq_true rfl) rfl (Nat.le_of_ble_eq_true rfl) (d' := d - 1) (by omega) (Nat.zero_le _) (Nat.zero_le _) (c_L_pick (by omega) (by decide) (by omega) hL (by omega) (cont_ret ?_))
      refine wp_if_neN 228 dL_transact_212 (by decide) (by omega) (fun c_212 => ?_) (fun c_212 => absurd c_212 (by omega))
      refine wp_aload_n (i := 0) dL_transact_228 rfl rfl ?_
      refine wp_bipush (nI 22) dL_transact_229 (by decide) ?_
      refine wp_iload (i := 5) dL_transact_231 rfl ?_
      refine wp_iconst (nI 0) dL_transact_233 (by decide) ?_
      refine wp_iconst (nI 0) dL_transact_234 (by decide) ?_
      refine wp_cSH (y' := m_L_deed) [vr (some (nm 40 0)), vi (nI 22), vi (nI t), vi (nI 0), vi (nI 0)] [] 60 (300 + 1100 * cgN (RS_tt R t) (RS_rn R) 0) dL_transact_235 ml_L_191 st_L_deed okH_L_deed rfl (Nat.le_of_ble_eq_true rfl) rfl (Nat.le_of_ble_eq_true rfl) (d' := d - 1) (by omega) (by omega) (by omega) (e_commit (t := t) ht B (by omega) C3 (by omega) (by omega) (by omega) (fun h4 C4 F4 => cont_ret ?_))
      rw [eo] at C4
      rw [show dA [-20002, -20003] (o_commit R (nI t) t) = nI 115 from by rw [eo]; rfl]
      have H4 := H3.fk F4
      refine wp_istore (i := 11) (lv' := [(11, vi (nI 115)), (10, vi (nI (RS_mo R))), (9, vi (nI ((RS_lg R).length))), (8, vi zb), (7, vi (nI w)), (6, vi (nI r)), (5, vi (nI t)), (0, vr (some (nm 40 0))), (1, vr (some nS)), (2, vi (nI i)), (3, vr (some (nm 70 1))), (4, vr (some (nm 70 2)))]) dL_transact_238 (by decide) rfl ?_
      refine wp_aload (i := 4) dL_transact_240 rfl ?_
      refine wp_iload (i := 5) dL_transact_242 rfl ?_
      refine wp_zaloadN 3 (bI (op t)) dL_transact_244 H4.2.2.2.2.1.1 H4.2.2.2.2.1.2.1 (by omega) (by decide) (H4.2.2.2.2.1.2.2 t ht) ?_
      refine wp_istore (i := 12) (lv' := [(12, vi (bI (op t))), (11, vi (nI 115)), (10, vi (nI (RS_mo R))), (9, vi (nI ((RS_lg R).length))), (8, vi zb), (7, vi (nI w)), (6, vi (nI r)), (5, vi (nI t)), (0, vr (some (nm 40 0))), (1, vr (some nS)), (2, vi (nI i)), (3, vr (some (nm 70 1))), (4, vr (some (nm 70 2)))]) dL_transact_245 (by decide) rfl ?_
      refine wp_aload (i := 4) dL_transact_247 rfl ?_
      refine wp_iload (i := 5) dL_transact_249 rfl ?_
      refine wp_iload (i := 11) dL_transact_251 rfl ?_
      refine wp_bipush (nI 115) dL_transact_253 (by decide) ?_
      refine wp_icmp_neN 262 dL_transact_255 (by decide) (by decide) (by decide) (fun c_255 => absurd c_255 (by decide)) (fun c_255 => ?_)
      refine wp_iconst (nI 1) dL_transact_258 (by decide) ?_
      refine wp_goto 263 dL_transact_259 (by decide) ?_
      refine wp_zastoreN 3 dL_transact_263 H4.2.2.2.2.1.1 H4.2.2.2.2.1.2.1 (by omega) (by decide) (by decide) ?_
      have H5w := H4.wop (t := t) (b := true)
      have C5w := C4.law (fun a ha => ce_w70 (i := 2) (k := t) (z := (nI 1)) (show a ≠ nm 70 2 by unfold nm; omega))
      refine wp_iload (i := 11) dL_transact_264 rfl ?_
      refine wp_bipush (nI 99) dL_transact_266 (by decide) ?_
      refine wp_icmp_neN 284 dL_transact_268 (by decide) (by decide) (by decide) (fun c_268 => ?_) (fun c_268 => absurd c_268 (by decide))
      refine wp_iconst (nI 0) dL_transact_284 (by decide) ?_
      refine wp_istore (i := 13) (lv' := [(13, vi (nI 0)), (12, vi (bI (op t))), (11, vi (nI 115)), (10, vi (nI (RS_mo R))), (9, vi (nI ((RS_lg R).length))), (8, vi zb), (7, vi (nI w)), (6, vi (nI r)), (5, vi (nI t)), (0, vr (some (nm 40 0))), (1, vr (some nS)), (2, vi (nI i)), (3, vr (some (nm 70 1))), (4, vr (some (nm 70 2)))]) dL_transact_285 (by decide) rfl ?_
      refine wp_iload (i := 11) dL_transact_287 rfl ?_
      refine wp_sipush (-20003) dL_transact_289 (by decide) ?_
      refine wp_icmp_ne 299 dL_transact_292 (by decide) (fun c_292 => ?_) (fun c_292 => absurd c_292 (nI_ne _ (by omega) _ (by decide)))
      refine wp_iconst (nI 0) dL_transact_299 (by decide) ?_
      refine wp_iload (i := 12) dL_transact_300 rfl ?_
      refine wp_if_neB 309 dL_transact_302 (by decide) (fun c_302 => ?_) (fun c_302 => absurd c_302 (by rw [hopn]; decide))
      refine wp_iconst (nI 0) dL_transact_309 (by decide) ?_
      refine wp_icmp_neN 371 dL_transact_310 (by decide) (by decide) (by decide) (fun c_310 => absurd c_310 (by decide)) (fun c_310 => ?_)
      refine wp_aload_n (i := 0) dL_transact_313 rfl rfl ?_
      refine wp_cV (y' := m_X11_moment) 12 [] [] 6 40 dL_transact_314 ml_L_214 im_X11_moment se_X11_moment (by decide) C5w.hk ok_X11_moment rfl (Nat.le_of_ble_eq_true rfl) rfl (Nat.le_of_ble_eq_true rfl) (d' := d - 1) (by omega) (by omega) (by omega) (g_moment B' (by omega) C5w (by omega) (by omega) (by omega) (fun h6 C6 F6 => cont_ret ?_))
      rw [sam.2.1]
      have H6 := H5w.fk F6
      refine wp_iload (i := 10) dL_transact_317 rfl ?_
      refine wp_iload (i := 13) dL_transact_319 rfl ?_
      refine wp_cS (y' := m_L_told) [vi (bI false)] [vi (nI (RS_mo R)), vi (nI (RS_mo R))] 0 0 dL_transact_321 ml_L_83 st_L_told ok_L_told rfl (Nat.le_of_ble_eq_true rfl) rfl (Nat.le_of_ble_eq_true rfl) (d' := d - 1) (by omega) (Nat.zero_le _) (Nat.zero_le _) (c_L_told (b := false) (cont_ret ?_))
      rw [show bI false = (nI 0) from rfl]
      refine wp_iaddN dL_transact_324 ?_
      refine wp_icmp_neN 371 dL_transact_325 (by decide) (by omega) (by omega) (fun c_325 => absurd c_325 (by omega)) (fun c_325 => ?_)
      refine wp_iload (i := 13) dL_transact_328 rfl ?_
      refine wp_if_neN 342 dL_transact_330 (by decide) (by decide) (fun c_330 => absurd c_330 (by decide)) (fun c_330 => ?_)
      refine wp_aload_n (i := 0) dL_transact_333 rfl rfl ?_
      refine wp_cV (y' := m_X11_logged) 12 [] [] 6 40 dL_transact_334 ml_L_217 im_X11_logged se_X11_logged (by decide) C6.hk ok_X11_logged rfl (Nat.le_of_ble_eq_true rfl) rfl (Nat.le_of_ble_eq_true rfl) (d' := d - 1) (by omega) (by omega) (by omega) (g_logged B' (by omega) C6 (by omega) (by omega) (by omega) (fun h7 C7 F7 => cont_ret ?_))
      rw [sam.1]
      have H7 := H6.fk F7
      refine wp_iload (i := 9) dL_transact_337 rfl ?_
      refine wp_icmp_neN 371 dL_transact_339 (by decide) (by omega) (by omega) (fun c_339 => absurd c_339 (by omega)) (fun c_339 => ?_)
      refine wp_iload (i := 13) dL_transact_342 rfl ?_
      refine wp_if_eqN 367 dL_transact_344 (by decide) (by decide) (fun c_344 => ?_) (fun c_344 => absurd c_344 (by decide))
      refine wp_iconst (nI 1) dL_transact_367 (by decide) ?_
      refine wp_goto 372 dL_transact_368 (by decide) ?_
      refine wp_zreturn dL_transact_372 rfl (by decide) ?_
      exact hq _ (c + 1) S' _ (by omega) C7 B' ri (HO.sto so ht hop) (by show flg S' + czN w t R ≤ flg R + 2; rw [hcz]; omega) (by rw [sam.2.2]; exact H7)
    · skip
      rw [eo] at q8 l8 f2
      have B' : PU (c + 1) V n x S' := B.r q8 l8
      have fl8 : flg S' + cgN (RS_tt R t) (RS_rn R) 0 ≤ flg R := f2 rfl
      rcases hgr with sam | ⟨h99, hl, hm, hlast⟩
      · have sam : SAM R S' := ⟨sam.1, sam.2, srn⟩
        rcases hw' with h9 | h9 <;> subst h9
        · skip
          refine wp_aload_n (i := 0) dL_transact_154 rfl rfl ?_
          refine wp_bipush (nI 10) dL_transact_155 (by decide) ?_
          refine wp_iload (i := 5) dL_transact_157 rfl ?_
          refine wp_iconst (nI 0) dL_transact_159 (by decide) ?_
          refine wp_cSH (y' := m_L_ask) [vr (some (nm 40 0)), vi (nI 10), vi (nI t), vi (nI 0)] [] 6 40 dL_transact_160 ml_L_184 st_L_ask okH_L_ask rfl (Nat.le_of_ble_eq_true rfl) rfl (Nat.le_of_ble_eq_true rfl) (d' := d - 1) (by omega) (by omega) (by omega) (q_sentBack (t := t) (by omega) B (by omega) C (by omega) (by omega) (by omega) (fun h1 C1 F1 => cont_ret ?_))
          rw [r_sentBack] at C1
          rw [show dA [-20002] (o_sentBack R (nI t) t) = zb from by rw [rx_sent ht]; exact ezb]
          have H1 := H.fk F1
          refine wp_istore (i := 8) (lv' := [(8, vi zb), (7, vi (nI w)), (6, vi (nI r)), (5, vi (nI t)), (0, vr (some (nm 40 0))), (1, vr (some nS)), (2, vi (nI i)), (3, vr (some (nm 70 1))), (4, vr (some (nm 70 2)))]) dL_transact_163 (by decide) rfl ?_
          refine wp_aload_n (i := 0) dL_transact_165 rfl rfl ?_
          refine wp_cV (y' := m_X11_logged) 12 [] [] 6 40 dL_transact_166 ml_L_217 im_X11_logged se_X11_logged (by decide) C1.hk ok_X11_logged rfl (Nat.le_of_ble_eq_true rfl) rfl (Nat.le_of_ble_eq_true rfl) (d' := d - 1) (by omega) (by omega) (by omega) (g_logged B (by omega) C1 (by omega) (by omega) (by omega) (fun h2 C2 F2 => cont_ret ?_))
          have H2 := H1.fk F2
          refine wp_istore (i := 9) (lv' := [(9, vi (nI ((RS_lg R).length))), (8, vi zb), (7, vi (nI w)), (6, vi (nI r)), (5, vi (nI t)), (0, vr (some (nm 40 0))), (1, vr (some nS)), (2, vi (nI i)), (3, vr (some (nm 70 1))), (4, vr (some (nm 70 2)))]) dL_transact_169 (by decide) rfl ?_
          refine wp_aload_n (i := 0) dL_transact_171 rfl rfl ?_
          refine wp_cV (y' := m_X11_moment) 12 [] [] 6 40 dL_transact_172 ml_L_214 im_X11_moment se_X11_moment (by decide) C2.hk ok_X11_moment rfl (Nat.le_of_ble_eq_true rfl) rfl (Nat.le_of_ble_eq_true rfl) (d' := d - 1) (by omega) (by omega) (by omega) (g_moment B (by omega) C2 (by omega) (by omega) (by omega) (fun h3 C3 F3 => cont_ret ?_))
          have H3 := H2.fk F3
          refine wp_istore (i := 10) (lv' := [(10, vi (nI (RS_mo R))), (9, vi (nI ((RS_lg R).length))), (8, vi zb), (7, vi (nI w)), (6, vi (nI r)), (5, vi (nI t)), (0, vr (some (nm 40 0))), (1, vr (some nS)), (2, vi (nI i)), (3, vr (some (nm 70 1))), (4, vr (some (nm 70 2)))]) dL_transact_175 (by decide) rfl ?_
          refine wp_iload (i := 7) dL_transact_177 rfl ?_
          refine wp_bipush (nI 6) dL_transact_179 (by decide) ?_
          refine wp_icmp_leN 373 dL_transact_181 (by decide) (by omega) (by decide) (fun c_181 => absurd c_181 (by omega)) (fun c_181 => ?_)
          refine wp_iload (i := 7) dL_transact_184 rfl ?_
          refine wp_bipush (nI 7) dL_transact_186 (by decide) ?_
          refine wp_icmp_neN 204 dL_transact_188 (by decide) (by omega) (by decide) (fun c_188 => ?_) (fun c_188 => absurd c_188 (by omega))
          refine wp_aload_n (i := 1) dL_transact_204 rfl rfl ?_
          refine wp_iload_n (i := 2) dL_transact_205 rfl rfl ?_
          refine wp_iconst (nI 3) dL_transact_206 (by decide) ?_
          refine wp_iaddN dL_transact_207 ?_
          refine wp_iconst (nI 4) dL_transact_208 (by decide) ?_
          refine wp_cS (y' := m_L_pick) [vr (some nS), vi (nI (i + 3)), vi (nI 4)] [] 0 0 dL_transact_209 ml_L_199 st_L_pick ok_L_pick rfl (Nat.le_of_ble_eq_true rfl) rfl (Nat.le_of_ble_eq_true rfl) (d' := d - 1) (by omega) (Nat.zero_le _) (Nat.zero_le _) (c_L_pick (by omega) (by decide) (by omega) hL (by omega) (cont_ret ?_))
          refine wp_if_neN 228 dL_transact_212 (by decide) (by omega) (fun c_212 => ?_) (fun c_212 => absurd c_212 (by omega))
          refine wp_aload_n (i := 0) dL_transact_228 rfl rfl ?_
          refine wp_bipush (nI 22) dL_transact_229 (by decide) ?_
          refine wp_iload (i := 5) dL_transact_231 rfl ?_
          refine wp_iconst (nI 0) dL_transact_233 (by decide) ?_
          refine wp_iconst (nI 0) dL_transact_234 (by decide) ?_
          refine wp_cSH (y' := m_L_deed) [vr (some (nm 40 0)), vi (nI 22), vi (nI t), vi (nI 0), vi (nI 0)] [] 60 (300 + 1100 * cgN (RS_tt R t) (RS_rn R) 0) dL_transact_235 ml_L_191 st_L_deed okH_L_deed rfl (Nat.le_of_ble_eq_true rfl) rfl (Nat.le_of_ble_eq_true rfl) (d' := d - 1) (by omega) (by omega) (by omega) (e_commit (t := t) ht B (by omega) C3 (by omega) (by omega) (by omega) (fun h4 C4 F4 => cont_ret ?_))
          rw [eo] at C4
          rw [show dA [-20002, -20003] (o_commit R (nI t) t) = nI 98 from by rw [eo]; rfl]
          have H4 := H3.fk F4
          refine wp_istore (i := 11) (lv' := [(11, vi (nI 98)), (10, vi (nI (RS_mo R))), (9, vi (nI ((RS_lg R).length))), (8, vi zb), (7, vi (nI w)), (6, vi (nI r)), (5, vi (nI t)), (0, vr (some (nm 40 0))), (1, vr (some nS)), (2, vi (nI i)), (3, vr (some (nm 70 1))), (4, vr (some (nm 70 2)))]) dL_transact_238 (by decide) rfl ?_
          refine wp_aload (i := 4) dL_transact_240 rfl ?_
          refine wp_iload (i := 5) dL_transact_242 rfl ?_
          refine wp_zaloadN 3 (bI (op t)) dL_transact_244 H4.2.2.2.2.1.1 H4.2.2.2.2.1.2.1 (by omega) (by decide) (H4.2.2.2.2.1.2.2 t ht) ?_
          refine wp_istore (i := 12) (lv' := [(12, vi (bI (op t))), (11, vi (nI 98)), (10, vi (nI (RS_mo R))), (9, vi (nI ((RS_lg R).length))), (8, vi zb), (7, vi (nI w)), (6, vi (nI r)), (5, vi (nI t)), (0, vr (some (nm 40 0))), (1, vr (some nS)), (2, vi (nI i)), (3, vr (some (nm 70 1))), (4, vr (some (nm 70 2)))]) dL_transact_245 (by decide) rfl ?_
          refine wp_aload (i := 4) dL_transact_247 rfl ?_
          refine wp_iload (i := 5) dL_transact_249 rfl ?_
          refine wp_iload (i := 11) dL_transact_251 rfl ?_
          refine wp_bipush (nI 115) dL_transact_253 (by decide) ?_
          refine wp_icmp_neN 262 dL_transact_255 (by decide) (by decide) (by decide) (fun c_255 => ?_) (fun c_255 => absurd c_255 (by decide))
          refine wp_iconst (nI 0) dL_transact_262 (by decide) ?_
          refine wp_zastoreN 3 dL_transact_263 H4.2.2.2.2.1.1 H4.2.2.2.2.1.2.1 (by omega) (by decide) (by decide) ?_
          have H5w := H4.wop (t := t) (b := false)
          have C5w := C4.law (fun a ha => ce_w70 (i := 2) (k := t) (z := (nI 0)) (show a ≠ nm 70 2 by unfold nm; omega))
          refine wp_iload (i := 11) dL_transact_264 rfl ?_
          refine wp_bipush (nI 99) dL_transact_266 (by decide) ?_
          refine wp_icmp_neN 284 dL_transact_268 (by decide) (by decide) (by decide) (fun c_268 => ?_) (fun c_268 => absurd c_268 (by decide))
          refine wp_iconst (nI 0) dL_transact_284 (by decide) ?_
          refine wp_istore (i := 13) (lv' := [(13, vi (nI 0)), (12, vi (bI (op t))), (11, vi (nI 98)), (10, vi (nI (RS_mo R))), (9, vi (nI ((RS_lg R).length))), (8, vi zb), (7, vi (nI w)), (6, vi (nI r)), (5, vi (nI t)), (0, vr (some (nm 40 0))), (1, vr (some nS)), (2, vi (nI i)), (3, vr (some (nm 70 1))), (4, vr (some (nm 70 2)))]) dL_transact_285 (by decide) rfl ?_
          refine wp_iload (i := 11) dL_transact_287 rfl ?_
          refine wp_sipush (-20003) dL_transact_289 (by decide) ?_
          refine wp_icmp_ne 299 dL_transact_292 (by decide) (fun c_292 => ?_) (fun c_292 => absurd c_292 (nI_ne _ (by omega) _ (by decide)))
          refine wp_iconst (nI 0) dL_transact_299 (by decide) ?_
          refine wp_iload (i := 12) dL_transact_300 rfl ?_
          refine wp_if_neB 309 dL_transact_302 (by decide) (fun c_302 => ?_) (fun c_302 => absurd c_302 (by rw [hopn]; decide))
          refine wp_iconst (nI 0) dL_transact_309 (by decide) ?_
          refine wp_icmp_neN 371 dL_transact_310 (by decide) (by decide) (by decide) (fun c_310 => absurd c_310 (by decide)) (fun c_310 => ?_)
          refine wp_aload_n (i := 0) dL_transact_313 rfl rfl ?_
          refine wp_cV (y' := m_X11_moment) 12 [] [] 6 40 dL_transact_314 ml_L_214 im_X11_moment se_X11_moment (by decide) C5w.hk ok_X11_moment rfl (Nat.le_of_ble_eq_true rfl) rfl (Nat.le_of_ble_eq_true rfl) (d' := d - 1) (by omega) (by omega) (by omega) (g_moment B' (by omega) C5w (by omega) (by omega) (by omega) (fun h6 C6 F6 => cont_ret ?_))
          rw [sam.2.1]
          have H6 := H5w.fk F6
          refine wp_iload (i := 10) dL_transact_317 rfl ?_
          refine wp_iload (i := 13) dL_transact_319 rfl ?_
          refine wp_cS (y' := m_L_told) [vi (bI false)] [vi (nI (RS_mo R)), vi (nI (RS_mo R))] 0 0 dL_transact_321 ml_L_83 st_L_told ok_L_told rfl (Nat.le_of_ble_eq_true rfl) rfl (Nat.le_of_ble_eq_true rfl) (d' := d - 1) (by omega) (Nat.zero_le _) (Nat.zero_le _) (c_L_told (b := false) (cont_ret ?_))
          rw [show bI false = (nI 0) from rfl]
          refine wp_iaddN dL_transact_324 ?_
          refine wp_icmp_neN 371 dL_transact_325 (by decide) (by omega) (by omega) (fun c_325 => absurd c_325 (by omega)) (fun c_325 => ?_)
          refine wp_iload (i := 13) dL_transact_328 rfl ?_
          refine wp_if_neN 342 dL_transact_330 (by decide) (by decide) (fun c_330 => absurd c_330 (by decide)) (fun c_330 => ?_)
          refine wp_aload_n (i := 0) dL_transact_333 rfl rfl ?_
          refine wp_cV (y' := m_X11_logged) 12 [] [] 6 40 dL_transact_334 ml_L_217 im_X11_logged se_X11_logged (by decide) C6.hk ok_X11_logged rfl (Nat.le_of_ble_eq_true rfl) rfl (Nat.le_of_ble_eq_true rfl) (d' := d - 1) (by omega) (by omega) (by omega) (g_logged B' (by omega) C6 (by omega) (by omega) (by omega) (fun h7 C7 F7 => cont_ret ?_))
          rw [sam.1]
          have H7 := H6.fk F7
          refine wp_iload (i := 9) dL_transact_337 rfl ?_
          refine wp_icmp_neN 371 dL_transact_339 (by decide) (by omega) (by omega) (fun c_339 => absurd c_339 (by omega)) (fun c_339 => ?_)
          refine wp_iload (i := 13) dL_transact_342 rfl ?_
          refine wp_if_eqN 367 dL_transact_344 (by decide) (by decide) (fun c_344 => ?_) (fun c_344 => absurd c_344 (by decide))
          refine wp_iconst (nI 1) dL_transact_367 (by decide) ?_
          refine wp_goto 372 dL_transact_368 (by decide) ?_
          refine wp_zreturn dL_transact_372 rfl (by decide) ?_
          exact hq _ (c + 1) S' _ (by omega) C7 B' ri (HO.set sc) (by show flg S' + czN w t R ≤ flg R + 2; rw [hcz]; omega) (by rw [srn]; exact H7)
        · skip
          refine wp_aload_n (i := 0) dL_transact_154 rfl rfl ?_
          refine wp_bipush (nI 10) dL_transact_155 (by decide) ?_
          refine wp_iload (i := 5) dL_transact_157 rfl ?_
          refine wp_iconst (nI 0) dL_transact_159 (by decide) ?_
          refine wp_cSH (y' := m_L_ask) [vr (some (nm 40 0)), vi (nI 10), vi (nI t), vi (nI 0)] [] 6 40 dL_transact_160 ml_L_184 st_L_ask okH_L_ask rfl (Nat.le_of_ble_eq_true rfl) rfl (Nat.le_of_ble_eq_true rfl) (d' := d - 1) (by omega) (by omega) (by omega) (q_sentBack (t := t) (by omega) B (by omega) C (by omega) (by omega) (by omega) (fun h1 C1 F1 => cont_ret ?_))
          rw [r_sentBack] at C1
          rw [show dA [-20002] (o_sentBack R (nI t) t) = zb from by rw [rx_sent ht]; exact ezb]
          have H1 := H.fk F1
          refine wp_istore (i := 8) (lv' := [(8, vi zb), (7, vi (nI w)), (6, vi (nI r)), (5, vi (nI t)), (0, vr (some (nm 40 0))), (1, vr (some nS)), (2, vi (nI i)), (3, vr (some (nm 70 1))), (4, vr (some (nm 70 2)))]) dL_transact_163 (by decide) rfl ?_
          refine wp_aload_n (i := 0) dL_transact_165 rfl rfl ?_
          refine wp_cV (y' := m_X11_logged) 12 [] [] 6 40 dL_transact_166 ml_L_217 im_X11_logged se_X11_logged (by decide) C1.hk ok_X11_logged rfl (Nat.le_of_ble_eq_true rfl) rfl (Nat.le_of_ble_eq_true rfl) (d' := d - 1) (by omega) (by omega) (by omega) (g_logged B (by omega) C1 (by omega) (by omega) (by omega) (fun h2 C2 F2 => cont_ret ?_))
          have H2 := H1.fk F2
          refine wp_istore (i := 9) (lv' := [(9, vi (nI ((RS_lg R).length))), (8, vi zb), (7, vi (nI w)), (6, vi (nI r)), (5, vi (nI t)), (0, vr (some (nm 40 0))), (1, vr (some nS)), (2, vi (nI i)), (3, vr (some (nm 70 1))), (4, vr (some (nm 70 2)))]) dL_transact_169 (by decide) rfl ?_
          refine wp_aload_n (i := 0) dL_transact_171 rfl rfl ?_
          refine wp_cV (y' := m_X11_moment) 12 [] [] 6 40 dL_transact_172 ml_L_214 im_X11_moment se_X11_moment (by decide) C2.hk ok_X11_moment rfl (Nat.le_of_ble_eq_true rfl) rfl (Nat.le_of_ble_eq_true rfl) (d' := d - 1) (by omega) (by omega) (by omega) (g_moment B (by omega) C2 (by omega) (by omega) (by omega) (fun h3 C3 F3 => cont_ret ?_))
          have H3 := H2.fk F3
          refine wp_istore (i := 10) (lv' := [(10, vi (nI (RS_mo R))), (9, vi (nI ((RS_lg R).length))), (8, vi zb), (7, vi (nI w)), (6, vi (nI r)), (5, vi (nI t)), (0, vr (some (nm 40 0))), (1, vr (some nS)), (2, vi (nI i)), (3, vr (some (nm 70 1))), (4, vr (some (nm 70 2)))]) dL_transact_175 (by decide) rfl ?_
          refine wp_iload (i := 7) dL_transact_177 rfl ?_
          refine wp_bipush (nI 6) dL_transact_179 (by decide) ?_
          refine wp_icmp_leN 373 dL_transact_181 (by decide) (by omega) (by decide) (fun c_181 => absurd c_181 (by omega)) (fun c_181 => ?_)
          refine wp_iload (i := 7) dL_transact_184 rfl ?_
          refine wp_bipush (nI 7) dL_transact_186 (by decide) ?_
          refine wp_icmp_neN 204 dL_transact_188 (by decide) (by omega) (by decide) (fun c_188 => ?_) (fun c_188 => absurd c_188 (by omega))
          refine wp_aload_n (i := 1) dL_transact_204 rfl rfl ?_
          refine wp_iload_n (i := 2) dL_transact_205 rfl rfl ?_
          refine wp_iconst (nI 3) dL_transact_206 (by decide) ?_
          refine wp_iaddN dL_transact_207 ?_
          refine wp_iconst (nI 4) dL_transact_208 (by decide) ?_
          refine wp_cS (y' := m_L_pick) [vr (some nS), vi (nI (i + 3)), vi (nI 4)] [] 0 0 dL_transact_209 ml_L_199 st_L_pick ok_L_pick rfl (Nat.le_of_ble_eq_true rfl) rfl (Nat.le_of_ble_eq_true rfl) (d' := d - 1) (by omega) (Nat.zero_le _) (Nat.zero_le _) (c_L_pick (by omega) (by decide) (by omega) hL (by omega) (cont_ret ?_))
          refine wp_if_neN 228 dL_transact_212 (by decide) (by omega) (fun c_212 => ?_) (fun c_212 => absurd c_212 (by omega))
          refine wp_aload_n (i := 0) dL_transact_228 rfl rfl ?_
          refine wp_bipush (nI 22) dL_transact_229 (by decide) ?_
          refine wp_iload (i := 5) dL_transact_231 rfl ?_
          refine wp_iconst (nI 0) dL_transact_233 (by decide) ?_
          refine wp_iconst (nI 0) dL_transact_234 (by decide) ?_
          refine wp_cSH (y' := m_L_deed) [vr (some (nm 40 0)), vi (nI 22), vi (nI t), vi (nI 0), vi (nI 0)] [] 60 (300 + 1100 * cgN (RS_tt R t) (RS_rn R) 0) dL_transact_235 ml_L_191 st_L_deed okH_L_deed rfl (Nat.le_of_ble_eq_true rfl) rfl (Nat.le_of_ble_eq_true rfl) (d' := d - 1) (by omega) (by omega) (by omega) (e_commit (t := t) ht B (by omega) C3 (by omega) (by omega) (by omega) (fun h4 C4 F4 => cont_ret ?_))
          rw [eo] at C4
          rw [show dA [-20002, -20003] (o_commit R (nI t) t) = nI 99 from by rw [eo]; rfl]
          have H4 := H3.fk F4
          refine wp_istore (i := 11) (lv' := [(11, vi (nI 99)), (10, vi (nI (RS_mo R))), (9, vi (nI ((RS_lg R).length))), (8, vi zb), (7, vi (nI w)), (6, vi (nI r)), (5, vi (nI t)), (0, vr (some (nm 40 0))), (1, vr (some nS)), (2, vi (nI i)), (3, vr (some (nm 70 1))), (4, vr (some (nm 70 2)))]) dL_transact_238 (by decide) rfl ?_
          refine wp_aload (i := 4) dL_transact_240 rfl ?_
          refine wp_iload (i := 5) dL_transact_242 rfl ?_
          refine wp_zaloadN 3 (bI (op t)) dL_transact_244 H4.2.2.2.2.1.1 H4.2.2.2.2.1.2.1 (by omega) (by decide) (H4.2.2.2.2.1.2.2 t ht) ?_
          refine wp_istore (i := 12) (lv' := [(12, vi (bI (op t))), (11, vi (nI 99)), (10, vi (nI (RS_mo R))), (9, vi (nI ((RS_lg R).length))), (8, vi zb), (7, vi (nI w)), (6, vi (nI r)), (5, vi (nI t)), (0, vr (some (nm 40 0))), (1, vr (some nS)), (2, vi (nI i)), (3, vr (some (nm 70 1))), (4, vr (some (nm 70 2)))]) dL_transact_245 (by decide) rfl ?_
          refine wp_aload (i := 4) dL_transact_247 rfl ?_
          refine wp_iload (i := 5) dL_transact_249 rfl ?_
          refine wp_iload (i := 11) dL_transact_251 rfl ?_
          refine wp_bipush (nI 115) dL_transact_253 (by decide) ?_
          refine wp_icmp_neN 262 dL_transact_255 (by decide) (by decide) (by decide) (fun c_255 => ?_) (fun c_255 => absurd c_255 (by decide))
          refine wp_iconst (nI 0) dL_transact_262 (by decide) ?_
          refine wp_zastoreN 3 dL_transact_263 H4.2.2.2.2.1.1 H4.2.2.2.2.1.2.1 (by omega) (by decide) (by decide) ?_
          have H5w := H4.wop (t := t) (b := false)
          have C5w := C4.law (fun a ha => ce_w70 (i := 2) (k := t) (z := (nI 0)) (show a ≠ nm 70 2 by unfold nm; omega))
          refine wp_iload (i := 11) dL_transact_264 rfl ?_
          refine wp_bipush (nI 99) dL_transact_266 (by decide) ?_
          refine wp_icmp_neN 284 dL_transact_268 (by decide) (by decide) (by decide) (fun c_268 => absurd c_268 (by decide)) (fun c_268 => ?_)
          refine wp_aload_n (i := 0) dL_transact_271 rfl rfl ?_
          refine wp_cV (y' := m_X11_logged) 12 [] [] 6 40 dL_transact_272 ml_L_217 im_X11_logged se_X11_logged (by decide) C5w.hk ok_X11_logged rfl (Nat.le_of_ble_eq_true rfl) rfl (Nat.le_of_ble_eq_true rfl) (d' := d - 1) (by omega) (by omega) (by omega) (g_logged B' (by omega) C5w (by omega) (by omega) (by omega) (fun h6 C6 F6 => cont_ret ?_))
          rw [sam.1]
          have H6 := H5w.fk F6
          refine wp_iload (i := 9) dL_transact_275 rfl ?_
          refine wp_icmp_leN 284 dL_transact_277 (by decide) (by omega) (by omega) (fun c_277 => ?_) (fun c_277 => absurd c_277 (by omega))
          refine wp_iconst (nI 0) dL_transact_284 (by decide) ?_
          refine wp_istore (i := 13) (lv' := [(13, vi (nI 0)), (12, vi (bI (op t))), (11, vi (nI 99)), (10, vi (nI (RS_mo R))), (9, vi (nI ((RS_lg R).length))), (8, vi zb), (7, vi (nI w)), (6, vi (nI r)), (5, vi (nI t)), (0, vr (some (nm 40 0))), (1, vr (some nS)), (2, vi (nI i)), (3, vr (some (nm 70 1))), (4, vr (some (nm 70 2)))]) dL_transact_285 (by decide) rfl ?_
          refine wp_iload (i := 11) dL_transact_287 rfl ?_
          refine wp_sipush (-20003) dL_transact_289 (by decide) ?_
          refine wp_icmp_ne 299 dL_transact_292 (by decide) (fun c_292 => ?_) (fun c_292 => absurd c_292 (nI_ne _ (by omega) _ (by decide)))
          refine wp_iconst (nI 0) dL_transact_299 (by decide) ?_
          refine wp_iload (i := 12) dL_transact_300 rfl ?_
          refine wp_if_neB 309 dL_transact_302 (by decide) (fun c_302 => ?_) (fun c_302 => absurd c_302 (by rw [hopn]; decide))
          refine wp_iconst (nI 0) dL_transact_309 (by decide) ?_
          refine wp_icmp_neN 371 dL_transact_310 (by decide) (by decide) (by decide) (fun c_310 => absurd c_310 (by decide)) (fun c_310 => ?_)
          refine wp_aload_n (i := 0) dL_transact_313 rfl rfl ?_
          refine wp_cV (y' := m_X11_moment) 12 [] [] 6 40 dL_transact_314 ml_L_214 im_X11_moment se_X11_moment (by decide) C6.hk ok_X11_moment rfl (Nat.le_of_ble_eq_true rfl) rfl (Nat.le_of_ble_eq_true rfl) (d' := d - 1) (by omega) (by omega) (by omega) (g_moment B' (by omega) C6 (by omega) (by omega) (by omega) (fun h7 C7 F7 => cont_ret ?_))
          rw [sam.2.1]
          have H7 := H6.fk F7
          refine wp_iload (i := 10) dL_transact_317 rfl ?_
          refine wp_iload (i := 13) dL_transact_319 rfl ?_
          refine wp_cS (y' := m_L_told) [vi (bI false)] [vi (nI (RS_mo R)), vi (nI (RS_mo R))] 0 0 dL_transact_321 ml_L_83 st_L_told ok_L_told rfl (Nat.le_of_ble_eq_true rfl) rfl (Nat.le_of_ble_eq_true rfl) (d' := d - 1) (by omega) (Nat.zero_le _) (Nat.zero_le _) (c_L_told (b := false) (cont_ret ?_))
          rw [show bI false = (nI 0) from rfl]
          refine wp_iaddN dL_transact_324 ?_
          refine wp_icmp_neN 371 dL_transact_325 (by decide) (by omega) (by omega) (fun c_325 => absurd c_325 (by omega)) (fun c_325 => ?_)
          refine wp_iload (i := 13) dL_transact_328 rfl ?_
          refine wp_if_neN 342 dL_transact_330 (by decide) (by decide) (fun c_330 => absurd c_330 (by decide)) (fun c_330 => ?_)
          refine wp_aload_n (i := 0) dL_transact_333 rfl rfl ?_
          refine wp_cV (y' := m_X11_logged) 12 [] [] 6 40 dL_transact_334 ml_L_217 im_X11_logged se_X11_logged (by decide) C7.hk ok_X11_logged rfl (Nat.le_of_ble_eq_true rfl) rfl (Nat.le_of_ble_eq_true rfl) (d' := d - 1) (by omega) (by omega) (by omega) (g_logged B' (by omega) C7 (by omega) (by omega) (by omega) (fun h8 C8 F8 => cont_ret ?_))
          rw [sam.1]
          have H8 := H7.fk F8
          refine wp_iload (i := 9) dL_transact_337 rfl ?_
          refine wp_icmp_neN 371 dL_transact_339 (by decide) (by omega) (by omega) (fun c_339 => absurd c_339 (by omega)) (fun c_339 => ?_)
          refine wp_iload (i := 13) dL_transact_342 rfl ?_
          refine wp_if_eqN 367 dL_transact_344 (by decide) (by decide) (fun c_344 => ?_) (fun c_344 => absurd c_344 (by decide))
          refine wp_iconst (nI 1) dL_transact_367 (by decide) ?_
          refine wp_goto 372 dL_transact_368 (by decide) ?_
          refine wp_zreturn dL_transact_372 rfl (by decide) ?_
          exact hq _ (c + 1) S' _ (by omega) C8 B' ri (HO.set sc) (by show flg S' + czN w t R ≤ flg R + 2; rw [hcz]; omega) (by rw [srn]; exact H8)
      · subst h99
        have hl6 : (RS_lg S').length ≤ 6 * (c + 1) := B'.2.2.2.2.1.1.2.2.2.2.2.1
        have elog : o_logAt S' (nI ((RS_lg S').length - 1)) ((RS_lg S').length - 1) (nI 0) 0 = (nI 0, nI (RS_mo R + 1), S') := by
          unfold o_logAt
          rw [if_neg (by rw [ixB_n1 (by omega) (by omega)]; decide), if_neg (by decide)]
          show (nI 0, logw (RS_lg S') ((RS_lg S').length - 1) 0, S') = _
          unfold logw
          rw [if_pos rfl, hlast]
        refine wp_aload_n (i := 0) dL_transact_154 rfl rfl ?_
        refine wp_bipush (nI 10) dL_transact_155 (by decide) ?_
        refine wp_iload (i := 5) dL_transact_157 rfl ?_
        refine wp_iconst (nI 0) dL_transact_159 (by decide) ?_
        refine wp_cSH (y' := m_L_ask) [vr (some (nm 40 0)), vi (nI 10), vi (nI t), vi (nI 0)] [] 6 40 dL_transact_160 ml_L_184 st_L_ask okH_L_ask rfl (Nat.le_of_ble_eq_true rfl) rfl (Nat.le_of_ble_eq_true rfl) (d' := d - 1) (by omega) (by omega) (by omega) (q_sentBack (t := t) (by omega) B (by omega) C (by omega) (by omega) (by omega) (fun h1 C1 F1 => cont_ret ?_))
        rw [r_sentBack] at C1
        rw [show dA [-20002] (o_sentBack R (nI t) t) = zb from by rw [rx_sent ht]; exact ezb]
        have H1 := H.fk F1
        refine wp_istore (i := 8) (lv' := [(8, vi zb), (7, vi (nI w)), (6, vi (nI r)), (5, vi (nI t)), (0, vr (some (nm 40 0))), (1, vr (some nS)), (2, vi (nI i)), (3, vr (some (nm 70 1))), (4, vr (some (nm 70 2)))]) dL_transact_163 (by decide) rfl ?_
        refine wp_aload_n (i := 0) dL_transact_165 rfl rfl ?_
        refine wp_cV (y' := m_X11_logged) 12 [] [] 6 40 dL_transact_166 ml_L_217 im_X11_logged se_X11_logged (by decide) C1.hk ok_X11_logged rfl (Nat.le_of_ble_eq_true rfl) rfl (Nat.le_of_ble_eq_true rfl) (d' := d - 1) (by omega) (by omega) (by omega) (g_logged B (by omega) C1 (by omega) (by omega) (by omega) (fun h2 C2 F2 => cont_ret ?_))
        have H2 := H1.fk F2
        refine wp_istore (i := 9) (lv' := [(9, vi (nI ((RS_lg R).length))), (8, vi zb), (7, vi (nI w)), (6, vi (nI r)), (5, vi (nI t)), (0, vr (some (nm 40 0))), (1, vr (some nS)), (2, vi (nI i)), (3, vr (some (nm 70 1))), (4, vr (some (nm 70 2)))]) dL_transact_169 (by decide) rfl ?_
        refine wp_aload_n (i := 0) dL_transact_171 rfl rfl ?_
        refine wp_cV (y' := m_X11_moment) 12 [] [] 6 40 dL_transact_172 ml_L_214 im_X11_moment se_X11_moment (by decide) C2.hk ok_X11_moment rfl (Nat.le_of_ble_eq_true rfl) rfl (Nat.le_of_ble_eq_true rfl) (d' := d - 1) (by omega) (by omega) (by omega) (g_moment B (by omega) C2 (by omega) (by omega) (by omega) (fun h3 C3 F3 => cont_ret ?_))
        have H3 := H2.fk F3
        refine wp_istore (i := 10) (lv' := [(10, vi (nI (RS_mo R))), (9, vi (nI ((RS_lg R).length))), (8, vi zb), (7, vi (nI w)), (6, vi (nI r)), (5, vi (nI t)), (0, vr (some (nm 40 0))), (1, vr (some nS)), (2, vi (nI i)), (3, vr (some (nm 70 1))), (4, vr (some (nm 70 2)))]) dL_transact_175 (by decide) rfl ?_
        refine wp_iload (i := 7) dL_transact_177 rfl ?_
        refine wp_bipush (nI 6) dL_transact_179 (by decide) ?_
        refine wp_icmp_leN 373 dL_transact_181 (by decide) (by omega) (by decide) (fun c_181 => absurd c_181 (by omega)) (fun c_181 => ?_)
        refine wp_iload (i := 7) dL_transact_184 rfl ?_
        refine wp_bipush (nI 7) dL_transact_186 (by decide) ?_
        refine wp_icmp_neN 204 dL_transact_188 (by decide) (by omega) (by decide) (fun c_188 => ?_) (fun c_188 => absurd c_188 (by omega))
        refine wp_aload_n (i := 1) dL_transact_204 rfl rfl ?_
        refine wp_iload_n (i := 2) dL_transact_205 rfl rfl ?_
        refine wp_iconst (nI 3) dL_transact_206 (by decide) ?_
        refine wp_iaddN dL_transact_207 ?_
        refine wp_iconst (nI 4) dL_transact_208 (by decide) ?_
        refine wp_cS (y' := m_L_pick) [vr (some nS), vi (nI (i + 3)), vi (nI 4)] [] 0 0 dL_transact_209 ml_L_199 st_L_pick ok_L_pick rfl (Nat.le_of_ble_eq_true rfl) rfl (Nat.le_of_ble_eq_true rfl) (d' := d - 1) (by omega) (Nat.zero_le _) (Nat.zero_le _) (c_L_pick (by omega) (by decide) (by omega) hL (by omega) (cont_ret ?_))
        refine wp_if_neN 228 dL_transact_212 (by decide) (by omega) (fun c_212 => ?_) (fun c_212 => absurd c_212 (by omega))
        refine wp_aload_n (i := 0) dL_transact_228 rfl rfl ?_
        refine wp_bipush (nI 22) dL_transact_229 (by decide) ?_
        refine wp_iload (i := 5) dL_transact_231 rfl ?_
        refine wp_iconst (nI 0) dL_transact_233 (by decide) ?_
        refine wp_iconst (nI 0) dL_transact_234 (by decide) ?_
        refine wp_cSH (y' := m_L_deed) [vr (some (nm 40 0)), vi (nI 22), vi (nI t), vi (nI 0), vi (nI 0)] [] 60 (300 + 1100 * cgN (RS_tt R t) (RS_rn R) 0) dL_transact_235 ml_L_191 st_L_deed okH_L_deed rfl (Nat.le_of_ble_eq_true rfl) rfl (Nat.le_of_ble_eq_true rfl) (d' := d - 1) (by omega) (by omega) (by omega) (e_commit (t := t) ht B (by omega) C3 (by omega) (by omega) (by omega) (fun h4 C4 F4 => cont_ret ?_))
        rw [eo] at C4
        rw [show dA [-20002, -20003] (o_commit R (nI t) t) = nI 99 from by rw [eo]; rfl]
        have H4 := H3.fk F4
        refine wp_istore (i := 11) (lv' := [(11, vi (nI 99)), (10, vi (nI (RS_mo R))), (9, vi (nI ((RS_lg R).length))), (8, vi zb), (7, vi (nI w)), (6, vi (nI r)), (5, vi (nI t)), (0, vr (some (nm 40 0))), (1, vr (some nS)), (2, vi (nI i)), (3, vr (some (nm 70 1))), (4, vr (some (nm 70 2)))]) dL_transact_238 (by decide) rfl ?_
        refine wp_aload (i := 4) dL_transact_240 rfl ?_
        refine wp_iload (i := 5) dL_transact_242 rfl ?_
        refine wp_zaloadN 3 (bI (op t)) dL_transact_244 H4.2.2.2.2.1.1 H4.2.2.2.2.1.2.1 (by omega) (by decide) (H4.2.2.2.2.1.2.2 t ht) ?_
        refine wp_istore (i := 12) (lv' := [(12, vi (bI (op t))), (11, vi (nI 99)), (10, vi (nI (RS_mo R))), (9, vi (nI ((RS_lg R).length))), (8, vi zb), (7, vi (nI w)), (6, vi (nI r)), (5, vi (nI t)), (0, vr (some (nm 40 0))), (1, vr (some nS)), (2, vi (nI i)), (3, vr (some (nm 70 1))), (4, vr (some (nm 70 2)))]) dL_transact_245 (by decide) rfl ?_
        refine wp_aload (i := 4) dL_transact_247 rfl ?_
        refine wp_iload (i := 5) dL_transact_249 rfl ?_
        refine wp_iload (i := 11) dL_transact_251 rfl ?_
        refine wp_bipush (nI 115) dL_transact_253 (by decide) ?_
        refine wp_icmp_neN 262 dL_transact_255 (by decide) (by decide) (by decide) (fun c_255 => ?_) (fun c_255 => absurd c_255 (by decide))
        refine wp_iconst (nI 0) dL_transact_262 (by decide) ?_
        refine wp_zastoreN 3 dL_transact_263 H4.2.2.2.2.1.1 H4.2.2.2.2.1.2.1 (by omega) (by decide) (by decide) ?_
        have H5w := H4.wop (t := t) (b := false)
        have C5w := C4.law (fun a ha => ce_w70 (i := 2) (k := t) (z := (nI 0)) (show a ≠ nm 70 2 by unfold nm; omega))
        refine wp_iload (i := 11) dL_transact_264 rfl ?_
        refine wp_bipush (nI 99) dL_transact_266 (by decide) ?_
        refine wp_icmp_neN 284 dL_transact_268 (by decide) (by decide) (by decide) (fun c_268 => absurd c_268 (by decide)) (fun c_268 => ?_)
        refine wp_aload_n (i := 0) dL_transact_271 rfl rfl ?_
        refine wp_cV (y' := m_X11_logged) 12 [] [] 6 40 dL_transact_272 ml_L_217 im_X11_logged se_X11_logged (by decide) C5w.hk ok_X11_logged rfl (Nat.le_of_ble_eq_true rfl) rfl (Nat.le_of_ble_eq_true rfl) (d' := d - 1) (by omega) (by omega) (by omega) (g_logged B' (by omega) C5w (by omega) (by omega) (by omega) (fun h6 C6 F6 => cont_ret ?_))
        have H6 := H5w.fk F6
        refine wp_iload (i := 9) dL_transact_275 rfl ?_
        refine wp_icmp_leN 284 dL_transact_277 (by decide) (by omega) (by omega) (fun c_277 => absurd c_277 (by omega)) (fun c_277 => ?_)
        refine wp_iconst (nI 1) dL_transact_280 (by decide) ?_
        refine wp_goto 285 dL_transact_281 (by decide) ?_
        refine wp_istore (i := 13) (lv' := [(13, vi (nI 1)), (12, vi (bI (op t))), (11, vi (nI 99)), (10, vi (nI (RS_mo R))), (9, vi (nI ((RS_lg R).length))), (8, vi zb), (7, vi (nI w)), (6, vi (nI r)), (5, vi (nI t)), (0, vr (some (nm 40 0))), (1, vr (some nS)), (2, vi (nI i)), (3, vr (some (nm 70 1))), (4, vr (some (nm 70 2)))]) dL_transact_285 (by decide) rfl ?_
        refine wp_iload (i := 11) dL_transact_287 rfl ?_
        refine wp_sipush (-20003) dL_transact_289 (by decide) ?_
        refine wp_icmp_ne 299 dL_transact_292 (by decide) (fun c_292 => ?_) (fun c_292 => absurd c_292 (nI_ne _ (by omega) _ (by decide)))
        refine wp_iconst (nI 0) dL_transact_299 (by decide) ?_
        refine wp_iload (i := 12) dL_transact_300 rfl ?_
        refine wp_if_neB 309 dL_transact_302 (by decide) (fun c_302 => ?_) (fun c_302 => absurd c_302 (by rw [hopn]; decide))
        refine wp_iconst (nI 0) dL_transact_309 (by decide) ?_
        refine wp_icmp_neN 371 dL_transact_310 (by decide) (by decide) (by decide) (fun c_310 => absurd c_310 (by decide)) (fun c_310 => ?_)
        refine wp_aload_n (i := 0) dL_transact_313 rfl rfl ?_
        refine wp_cV (y' := m_X11_moment) 12 [] [] 6 40 dL_transact_314 ml_L_214 im_X11_moment se_X11_moment (by decide) C6.hk ok_X11_moment rfl (Nat.le_of_ble_eq_true rfl) rfl (Nat.le_of_ble_eq_true rfl) (d' := d - 1) (by omega) (by omega) (by omega) (g_moment B' (by omega) C6 (by omega) (by omega) (by omega) (fun h7 C7 F7 => cont_ret ?_))
        rw [hm]
        have H7 := H6.fk F7
        refine wp_iload (i := 10) dL_transact_317 rfl ?_
        refine wp_iload (i := 13) dL_transact_319 rfl ?_
        refine wp_cS (y' := m_L_told) [vi (bI true)] [vi (nI (RS_mo R)), vi (nI (RS_mo R + 1))] 0 0 dL_transact_321 ml_L_83 st_L_told ok_L_told rfl (Nat.le_of_ble_eq_true rfl) rfl (Nat.le_of_ble_eq_true rfl) (d' := d - 1) (by omega) (Nat.zero_le _) (Nat.zero_le _) (c_L_told (b := true) (cont_ret ?_))
        rw [show bI true = (nI 1) from rfl]
        refine wp_iaddN dL_transact_324 ?_
        refine wp_icmp_neN 371 dL_transact_325 (by decide) (by omega) (by omega) (fun c_325 => absurd c_325 (by omega)) (fun c_325 => ?_)
        refine wp_iload (i := 13) dL_transact_328 rfl ?_
        refine wp_if_neN 342 dL_transact_330 (by decide) (by decide) (fun c_330 => ?_) (fun c_330 => absurd c_330 (by decide))
        refine wp_iload (i := 13) dL_transact_342 rfl ?_
        refine wp_if_eqN 367 dL_transact_344 (by decide) (by decide) (fun c_344 => absurd c_344 (by decide)) (fun c_344 => ?_)
        refine wp_aload_n (i := 0) dL_transact_347 rfl rfl ?_
        refine wp_bipush (nI 14) dL_transact_348 (by decide) ?_
        refine wp_aload_n (i := 0) dL_transact_350 rfl rfl ?_
        refine wp_cV (y' := m_X11_logged) 12 [] [vi (nI 14), vr (some (nm 40 0))] 6 40 dL_transact_351 ml_L_217 im_X11_logged se_X11_logged (by decide) C7.hk ok_X11_logged rfl (Nat.le_of_ble_eq_true rfl) rfl (Nat.le_of_ble_eq_true rfl) (d' := d - 1) (by omega) (by omega) (by omega) (g_logged B' (by omega) C7 (by omega) (by omega) (by omega) (fun h8 C8 F8 => cont_ret ?_))
        have H8 := H7.fk F8
        refine wp_iconst (nI 1) dL_transact_354 (by decide) ?_
        refine wp_isubN dL_transact_355 (by omega) ?_
        refine wp_iconst (nI 0) dL_transact_356 (by decide) ?_
        refine wp_cSH (y' := m_L_ask) [vr (some (nm 40 0)), vi (nI 14), vi (nI (((RS_lg S').length) - 1)), vi (nI 0)] [] 6 40 dL_transact_357 ml_L_184 st_L_ask okH_L_ask rfl (Nat.le_of_ble_eq_true rfl) rfl (Nat.le_of_ble_eq_true rfl) (d' := d - 1) (by omega) (by omega) (by omega) (q_logAt (k := (((RS_lg S').length) - 1)) (by omega) (j := 0) (by decide) B' (by omega) C8 (by omega) (by omega) (by omega) (fun h9 C9 F9 => cont_ret ?_))
        rw [r_logAt] at C9
        rw [show dA [-20001, -20002] (o_logAt S' (nI (((RS_lg S').length) - 1)) (((RS_lg S').length) - 1) (nI 0) 0) = nI (RS_mo R + 1) from by rw [elog]; rfl]
        have H9 := H8.fk F9
        refine wp_iload (i := 10) dL_transact_360 rfl ?_
        refine wp_iconst (nI 1) dL_transact_362 (by decide) ?_
        refine wp_iaddN dL_transact_363 ?_
        refine wp_icmp_neN 371 dL_transact_364 (by decide) (by omega) (by omega) (fun c_364 => absurd c_364 (by omega)) (fun c_364 => ?_)
        refine wp_iconst (nI 1) dL_transact_367 (by decide) ?_
        refine wp_goto 372 dL_transact_368 (by decide) ?_
        refine wp_zreturn dL_transact_372 rfl (by decide) ?_
        exact hq _ (c + 1) S' _ (by omega) C9 B' ri (HO.set sc) (by show flg S' + czN w t R ≤ flg R + 2; rw [hcz]; omega) (by rw [srn]; exact H9)
set_option maxRecDepth 100000 in
set_option maxHeartbeats 4000000 in
theorem l_tr_8e {G : GG} {d c n k : Nat} {Q : Pst} {V : SV} {x : Nat → QIS} {R : RS} {K J i w t r : Nat} {ro : Nat → Nat} {rf : Nat → Nat → Int32} {op : Nat → Bool} (B : PU c V n x R) (hc : c + 4 ≤ 512) (hk : k < 110) (HI : RI k R) (HO : OPI op R) (ht : t < 3) (hr : r < 6) (hw : w < 9) (hd : 40 ≤ d) (hL : slen G < 2 ^ 31) (hi : i + 200 < 2 ^ 31) {h : Hp} {M bc bs : Nat} (C : CLS h V M n x R) (H : LWH h (sNv V) n (RS_rn R) ro rf K J op) (hbc : 150 ≤ bc) (hbs : 1500 + 1100 * czN w t R ≤ bs) (hq : ∀ h' c' R' op', c' ≤ c + 4 → CLS h' V M n x R' → PU c' V n x R' → RI (k + 1) R' → OPI op' R' → flg R' + czN w t R ≤ flg R + 2 → LWH h' (sNv V) n (RS_rn R') ro rf K J op' → Q (oRet (vi (nI 1))) h') (hw2 : w = 8) (hp4 : pkV G (i + 3) 4 = 0) : WP G m_L_transact d 154 [(7, vi (nI w)), (6, vi (nI r)), (5, vi (nI t)), (0, vr (some (nm 40 0))), (1, vr (some nS)), (2, vi (nI i)), (3, vr (some (nm 70 1))), (4, vr (some (nm 70 2)))] [] h bc bs Q := by
  have h6 : RS_rn R ≤ 6 := B.2.2.2.2.1.1.2.1
  have hmo : RS_mo R ≤ c := B.2.2.2.2.1.1.2.2.2.1
  have hlg : (RS_lg R).length ≤ 6 * c := B.2.2.2.2.1.1.2.2.2.2.2.1
  obtain ⟨zb, ezb⟩ : ∃ z, nI (OT_bk (RS_tt R t)) = z := ⟨_, rfl⟩
  have hbk := (HI.1 t ht).1.1
  have hpk4 := @pkv_lt G (i + 3) 4 (by decide)
  have hcz : czN w t R = cgN (RS_tt R t) (RS_rn R) 0 := if_pos (by omega)
  cases hop : OT_op (RS_tt R t) with
  | false =>
    have hopn : op t = false := (HO t ht).trans hop
    have eo := (rx_shut2 ht hop).2
    have h0 := (HI.1 t ht).2.2 hop
    have h1 := cgN_le (y := RS_tt R t) (RS_rn R) 6 0 h6
    refine wp_aload_n (i := 0) dL_transact_154 rfl rfl ?_
    refine wp_bipush (nI 10) dL_transact_155 (by decide) ?_
    refine wp_iload (i := 5) dL_transact_157 rfl ?_
    refine wp_iconst (nI 0) dL_transact_159 (by decide) ?_
    refine wp_cSH (y' := m_L_ask) [vr (some (nm 40 0)), vi (nI 10), vi (nI t), vi (nI 0)] [] 6 40 dL_transact_160 ml_L_184 st_L_ask okH_L_ask rfl (Nat.le_of_ble_eq_true rfl) rfl (Nat.le_of_ble_eq_true rfl) (d' := d - 1) (by omega) (by omega) (by omega) (q_sentBack (t := t) (by omega) B (by omega) C (by omega) (by omega) (by omega) (fun h1 C1 F1 => cont_ret ?_))
    rw [r_sentBack] at C1
    rw [show dA [-20002] (o_sentBack R (nI t) t) = zb from by rw [rx_sent ht]; exact ezb]
    have H1 := H.fk F1
    refine wp_istore (i := 8) (lv' := [(8, vi zb), (7, vi (nI w)), (6, vi (nI r)), (5, vi (nI t)), (0, vr (some (nm 40 0))), (1, vr (some nS)), (2, vi (nI i)), (3, vr (some (nm 70 1))), (4, vr (some (nm 70 2)))]) dL_transact_163 (by decide) rfl ?_
    refine wp_aload_n (i := 0) dL_transact_165 rfl rfl ?_
    refine wp_cV (y' := m_X11_logged) 12 [] [] 6 40 dL_transact_166 ml_L_217 im_X11_logged se_X11_logged (by decide) C1.hk ok_X11_logged rfl (Nat.le_of_ble_eq_true rfl) rfl (Nat.le_of_ble_eq_true rfl) (d' := d - 1) (by omega) (by omega) (by omega) (g_logged B (by omega) C1 (by omega) (by omega) (by omega) (fun h2 C2 F2 => cont_ret ?_))
    have H2 := H1.fk F2
    refine wp_istore (i := 9) (lv' := [(9, vi (nI ((RS_lg R).length))), (8, vi zb), (7, vi (nI w)), (6, vi (nI r)), (5, vi (nI t)), (0, vr (some (nm 40 0))), (1, vr (some nS)), (2, vi (nI i)), (3, vr (some (nm 70 1))), (4, vr (some (nm 70 2)))]) dL_transact_169 (by decide) rfl ?_
    refine wp_aload_n (i := 0) dL_transact_171 rfl rfl ?_
    refine wp_cV (y' := m_X11_moment) 12 [] [] 6 40 dL_transact_172 ml_L_214 im_X11_moment se_X11_moment (by decide) C2.hk ok_X11_moment rfl (Nat.le_of_ble_eq_true rfl) rfl (Nat.le_of_ble_eq_true rfl) (d' := d - 1) (by omega) (by omega) (by omega) (g_moment B (by omega) C2 (by omega) (by omega) (by omega) (fun h3 C3 F3 => cont_ret ?_))
    have H3 := H2.fk F3
    refine wp_istore (i := 10) (lv' := [(10, vi (nI (RS_mo R))), (9, vi (nI ((RS_lg R).length))), (8, vi zb), (7, vi (nI w)), (6, vi (nI r)), (5, vi (nI t)), (0, vr (some (nm 40 0))), (1, vr (some nS)), (2, vi (nI i)), (3, vr (some (nm 70 1))), (4, vr (some (nm 70 2)))]) dL_transact_175 (by decide) rfl ?_
    refine wp_iload (i := 7) dL_transact_177 rfl ?_
    refine wp_bipush (nI 6) dL_transact_179 (by decide) ?_
    refine wp_icmp_leN 373 dL_transact_181 (by decide) (by omega) (by decide) (fun c_181 => absurd c_181 (by omega)) (fun c_181 => ?_)
    refine wp_iload (i := 7) dL_transact_184 rfl ?_
    refine wp_bipush (nI 7) dL_transact_186 (by decide) ?_
    refine wp_icmp_neN 204 dL_transact_188 (by decide) (by omega) (by decide) (fun c_188 => ?_) (fun c_188 => absurd c_188 (by omega))
    refine wp_aload_n (i := 1) dL_transact_204 rfl rfl ?_
    refine wp_iload_n (i := 2) dL_transact_205 rfl rfl ?_
    refine wp_iconst (nI 3) dL_transact_206 (by decide) ?_
    refine wp_iaddN dL_transact_207 ?_
    refine wp_iconst (nI 4) dL_transact_208 (by decide) ?_
    refine wp_cS (y' := m_L_pick) [vr (some nS), vi (nI (i + 3)), vi (nI 4)] [] 0 0 dL_transact_209 ml_L_199 st_L_pick ok_L_pick rfl (Nat.le_of_ble_eq_true rfl) rfl (Nat.le_of_ble_eq_true rfl) (d' := d - 1) (by omega) (Nat.zero_le _) (Nat.zero_le _) (c_L_pick (by omega) (by decide) (by omega) hL (by omega) (cont_ret ?_))
    refine wp_if_neN 228 dL_transact_212 (by decide) (by omega) (fun c_212 => absurd c_212 (by omega)) (fun c_212 => ?_)
    refine wp_aload_n (i := 0) dL_transact_215 rfl rfl ?_
    refine wp_bipush (nI 23) dL_transact_216 (by decide) ?_
    refine wp_iload (i := 5) dL_transact_218 rfl ?_
    refine wp_iconst (nI 0) dL_transact_220 (by decide) ?_
    refine wp_iconst (nI 0) dL_transact_221 (by decide) ?_
    refine wp_cSH (y' := m_L_deed) [vr (some (nm 40 0)), vi (nI 23), vi (nI t), vi (nI 0), vi (nI 0)] [] 6 40 dL_transact_222 ml_L_191 st_L_deed okH_L_deed rfl (Nat.le_of_ble_eq_true rfl) rfl (Nat.le_of_ble_eq_true rfl) (d' := d - 1) (by omega) (by omega) (by omega) (e_end (t := t) (by omega) B (by omega) C3 (by omega) (by omega) (by omega) (fun h4 C4 F4 => cont_ret ?_))
    rw [eo] at C4
    rw [show dA [-20002, -20003] (o_end R (nI t) t) = -20003 from by rw [eo]; rfl]
    have H4 := H3.fk F4
    refine wp_goto 238 dL_transact_225 (by decide) ?_
    refine wp_istore (i := 11) (lv' := [(11, vi (-20003)), (10, vi (nI (RS_mo R))), (9, vi (nI ((RS_lg R).length))), (8, vi zb), (7, vi (nI w)), (6, vi (nI r)), (5, vi (nI t)), (0, vr (some (nm 40 0))), (1, vr (some nS)), (2, vi (nI i)), (3, vr (some (nm 70 1))), (4, vr (some (nm 70 2)))]) dL_transact_238 (by decide) rfl ?_
    refine wp_aload (i := 4) dL_transact_240 rfl ?_
    refine wp_iload (i := 5) dL_transact_242 rfl ?_
    refine wp_zaloadN 3 (bI (op t)) dL_transact_244 H4.2.2.2.2.1.1 H4.2.2.2.2.1.2.1 (by omega) (by decide) (H4.2.2.2.2.1.2.2 t ht) ?_
    refine wp_istore (i := 12) (lv' := [(12, vi (bI (op t))), (11, vi (-20003)), (10, vi (nI (RS_mo R))), (9, vi (nI ((RS_lg R).length))), (8, vi zb), (7, vi (nI w)), (6, vi (nI r)), (5, vi (nI t)), (0, vr (some (nm 40 0))), (1, vr (some nS)), (2, vi (nI i)), (3, vr (some (nm 70 1))), (4, vr (some (nm 70 2)))]) dL_transact_245 (by decide) rfl ?_
    refine wp_aload (i := 4) dL_transact_247 rfl ?_
    refine wp_iload (i := 5) dL_transact_249 rfl ?_
    refine wp_iload (i := 11) dL_transact_251 rfl ?_
    refine wp_bipush (nI 115) dL_transact_253 (by decide) ?_
    refine wp_icmp_ne 262 dL_transact_255 (by decide) (fun c_255 => ?_) (fun c_255 => absurd c_255 (by decide))
    refine wp_iconst (nI 0) dL_transact_262 (by decide) ?_
    refine wp_zastoreN 3 dL_transact_263 H4.2.2.2.2.1.1 H4.2.2.2.2.1.2.1 (by omega) (by decide) (by decide) ?_
    have H5w := H4.wop (t := t) (b := false)
    have C5w := C4.law (fun a ha => ce_w70 (i := 2) (k := t) (z := (nI 0)) (show a ≠ nm 70 2 by unfold nm; omega))
    refine wp_iload (i := 11) dL_transact_264 rfl ?_
    refine wp_bipush (nI 99) dL_transact_266 (by decide) ?_
    refine wp_icmp_ne 284 dL_transact_268 (by decide) (fun c_268 => ?_) (fun c_268 => absurd c_268 (by decide))
    refine wp_iconst (nI 0) dL_transact_284 (by decide) ?_
    refine wp_istore (i := 13) (lv' := [(13, vi (nI 0)), (12, vi (bI (op t))), (11, vi (-20003)), (10, vi (nI (RS_mo R))), (9, vi (nI ((RS_lg R).length))), (8, vi zb), (7, vi (nI w)), (6, vi (nI r)), (5, vi (nI t)), (0, vr (some (nm 40 0))), (1, vr (some nS)), (2, vi (nI i)), (3, vr (some (nm 70 1))), (4, vr (some (nm 70 2)))]) dL_transact_285 (by decide) rfl ?_
    refine wp_iload (i := 11) dL_transact_287 rfl ?_
    refine wp_sipush (-20003) dL_transact_289 (by decide) ?_
    refine wp_icmp_ne 299 dL_transact_292 (by decide) (fun c_292 => absurd c_292 (fun z => z rfl)) (fun c_292 => ?_)
    refine wp_iconst (nI 1) dL_transact_295 (by decide) ?_
    refine wp_goto 300 dL_transact_296 (by decide) ?_
    refine wp_iload (i := 12) dL_transact_300 rfl ?_
    refine wp_if_neB 309 dL_transact_302 (by decide) (fun c_302 => absurd c_302 (by rw [hopn]; decide)) (fun c_302 => ?_)
    refine wp_iconst (nI 1) dL_transact_305 (by decide) ?_
    refine wp_goto 310 dL_transact_306 (by decide) ?_
    refine wp_icmp_neN 371 dL_transact_310 (by decide) (by decide) (by decide) (fun c_310 => absurd c_310 (by decide)) (fun c_310 => ?_)
    refine wp_aload_n (i := 0) dL_transact_313 rfl rfl ?_
    refine wp_cV (y' := m_X11_moment) 12 [] [] 6 40 dL_transact_314 ml_L_214 im_X11_moment se_X11_moment (by decide) C5w.hk ok_X11_moment rfl (Nat.le_of_ble_eq_true rfl) rfl (Nat.le_of_ble_eq_true rfl) (d' := d - 1) (by omega) (by omega) (by omega) (g_moment B (by omega) C5w (by omega) (by omega) (by omega) (fun h6 C6 F6 => cont_ret ?_))
    have H6 := H5w.fk F6
    refine wp_iload (i := 10) dL_transact_317 rfl ?_
    refine wp_iload (i := 13) dL_transact_319 rfl ?_
    refine wp_cS (y' := m_L_told) [vi (bI false)] [vi (nI (RS_mo R)), vi (nI (RS_mo R))] 0 0 dL_transact_321 ml_L_83 st_L_told ok_L_told rfl (Nat.le_of_ble_eq_true rfl) rfl (Nat.le_of_ble_eq_true rfl) (d' := d - 1) (by omega) (Nat.zero_le _) (Nat.zero_le _) (c_L_told (b := false) (cont_ret ?_))
    rw [show bI false = (nI 0) from rfl]
    refine wp_iaddN dL_transact_324 ?_
    refine wp_icmp_neN 371 dL_transact_325 (by decide) (by omega) (by omega) (fun c_325 => absurd c_325 (by omega)) (fun c_325 => ?_)
    refine wp_iload (i := 13) dL_transact_328 rfl ?_
    refine wp_if_neN 342 dL_transact_330 (by decide) (by decide) (fun c_330 => absurd c_330 (by decide)) (fun c_330 => ?_)
    refine wp_aload_n (i := 0) dL_transact_333 rfl rfl ?_
    refine wp_cV (y' := m_X11_logged) 12 [] [] 6 40 dL_transact_334 ml_L_217 im_X11_logged se_X11_logged (by decide) C6.hk ok_X11_logged rfl (Nat.le_of_ble_eq_true rfl) rfl (Nat.le_of_ble_eq_true rfl) (d' := d - 1) (by omega) (by omega) (by omega) (g_logged B (by omega) C6 (by omega) (by omega) (by omega) (fun h7 C7 F7 => cont_ret ?_))
    have H7 := H6.fk F7
    refine wp_iload (i := 9) dL_transact_337 rfl ?_
    refine wp_icmp_neN 371 dL_transact_339 (by decide) (by omega) (by omega) (fun c_339 => absurd c_339 (by omega)) (fun c_339 => ?_)
    refine wp_iload (i := 13) dL_transact_342 rfl ?_
    refine wp_if_eqN 367 dL_transact_344 (by decide) (by decide) (fun c_344 => ?_) (fun c_344 => absurd c_344 (by decide))
    refine wp_iconst (nI 1) dL_transact_367 (by decide) ?_
    refine wp_goto 372 dL_transact_368 (by decide) ?_
    refine wp_zreturn dL_transact_372 rfl (by decide) ?_
    exact hq _ c R _ (by omega) C7 B HI.up (HO.sto (fun _ => rfl) ht hop) (by rw [hcz]; omega) (by exact H7)
  | true =>
    have hopn : op t = true := (HO t ht).trans hop
    obtain ⟨S', eo, ri, sc, sam⟩ := rx_end ht hop HI
    have q9 : RB (c + 1) (o_end R (nI t) t).2.2 := RB_end B.2.2.2.2.1 (by omega) (ixk (by omega) (by decide))
    have l9 : LFS R (o_end R (nI t) t).2.2 := f_end
    rw [eo] at q9 l9
    have B' : PU (c + 1) V n x S' := B.r q9 l9
    have fl9 : flg S' ≤ flg R + 1 := l9.2
    have fl8 := flg_end ht h6 hop
    rw [eo] at fl8
    have fl8 : flg S' + cgN (RS_tt R t) (RS_rn R) 0 ≤ flg R := fl8
    by_cases h99 : OT_bk (RS_tt R t) = 99
    · skip
      refine wp_aload_n (i := 0) dL_transact_154 rfl rfl ?_
      refine wp_bipush (nI 10) dL_transact_155 (by decide) ?_
      refine wp_iload (i := 5) dL_transact_157 rfl ?_
      refine wp_iconst (nI 0) dL_transact_159 (by decide) ?_
      refine wp_cSH (y' := m_L_ask) [vr (some (nm 40 0)), vi (nI 10), vi (nI t), vi (nI 0)] [] 6 40 dL_transact_160 ml_L_184 st_L_ask okH_L_ask rfl (Nat.le_of_ble_eq_true rfl) rfl (Nat.le_of_ble_eq_true rfl) (d' := d - 1) (by omega) (by omega) (by omega) (q_sentBack (t := t) (by omega) B (by omega) C (by omega) (by omega) (by omega) (fun h1 C1 F1 => cont_ret ?_))
      rw [r_sentBack] at C1
      rw [show dA [-20002] (o_sentBack R (nI t) t) = zb from by rw [rx_sent ht]; exact ezb]
      have H1 := H.fk F1
      refine wp_istore (i := 8) (lv' := [(8, vi zb), (7, vi (nI w)), (6, vi (nI r)), (5, vi (nI t)), (0, vr (some (nm 40 0))), (1, vr (some nS)), (2, vi (nI i)), (3, vr (some (nm 70 1))), (4, vr (some (nm 70 2)))]) dL_transact_163 (by decide) rfl ?_
      refine wp_aload_n (i := 0) dL_transact_165 rfl rfl ?_
      refine wp_cV (y' := m_X11_logged) 12 [] [] 6 40 dL_transact_166 ml_L_217 im_X11_logged se_X11_logged (by decide) C1.hk ok_X11_logged rfl (Nat.le_of_ble_eq_true rfl) rfl (Nat.le_of_ble_eq_true rfl) (d' := d - 1) (by omega) (by omega) (by omega) (g_logged B (by omega) C1 (by omega) (by omega) (by omega) (fun h2 C2 F2 => cont_ret ?_))
      have H2 := H1.fk F2
      refine wp_istore (i := 9) (lv' := [(9, vi (nI ((RS_lg R).length))), (8, vi zb), (7, vi (nI w)), (6, vi (nI r)), (5, vi (nI t)), (0, vr (some (nm 40 0))), (1, vr (some nS)), (2, vi (nI i)), (3, vr (some (nm 70 1))), (4, vr (some (nm 70 2)))]) dL_transact_169 (by decide) rfl ?_
      refine wp_aload_n (i := 0) dL_transact_171 rfl rfl ?_
      refine wp_cV (y' := m_X11_moment) 12 [] [] 6 40 dL_transact_172 ml_L_214 im_X11_moment se_X11_moment (by decide) C2.hk ok_X11_moment rfl (Nat.le_of_ble_eq_true rfl) rfl (Nat.le_of_ble_eq_true rfl) (d' := d - 1) (by omega) (by omega) (by omega) (g_moment B (by omega) C2 (by omega) (by omega) (by omega) (fun h3 C3 F3 => cont_ret ?_))
      have H3 := H2.fk F3
      refine wp_istore (i := 10) (lv' := [(10, vi (nI (RS_mo R))), (9, vi (nI ((RS_lg R).length))), (8, vi zb), (7, vi (nI w)), (6, vi (nI r)), (5, vi (nI t)), (0, vr (some (nm 40 0))), (1, vr (some nS)), (2, vi (nI i)), (3, vr (some (nm 70 1))), (4, vr (some (nm 70 2)))]) dL_transact_175 (by decide) rfl ?_
      refine wp_iload (i := 7) dL_transact_177 rfl ?_
      refine wp_bipush (nI 6) dL_transact_179 (by decide) ?_
      refine wp_icmp_leN 373 dL_transact_181 (by decide) (by omega) (by decide) (fun c_181 => absurd c_181 (by omega)) (fun c_181 => ?_)
      refine wp_iload (i := 7) dL_transact_184 rfl ?_
      refine wp_bipush (nI 7) dL_transact_186 (by decide) ?_
      refine wp_icmp_neN 204 dL_transact_188 (by decide) (by omega) (by decide) (fun c_188 => ?_) (fun c_188 => absurd c_188 (by omega))
      refine wp_aload_n (i := 1) dL_transact_204 rfl rfl ?_
      refine wp_iload_n (i := 2) dL_transact_205 rfl rfl ?_
      refine wp_iconst (nI 3) dL_transact_206 (by decide) ?_
      refine wp_iaddN dL_transact_207 ?_
      refine wp_iconst (nI 4) dL_transact_208 (by decide) ?_
      refine wp_cS (y' := m_L_pick) [vr (some nS), vi (nI (i + 3)), vi (nI 4)] [] 0 0 dL_transact_209 ml_L_199 st_L_pick ok_L_pick rfl (Nat.le_of_ble_eq_true rfl) rfl (Nat.le_of_ble_eq_true rfl) (d' := d - 1) (by omega) (Nat.zero_le _) (Nat.zero_le _) (c_L_pick (by omega) (by decide) (by omega) hL (by omega) (cont_ret ?_))
      refine wp_if_neN 228 dL_transact_212 (by decide) (by omega) (fun c_212 => absurd c_212 (by omega)) (fun c_212 => ?_)
      refine wp_aload_n (i := 0) dL_transact_215 rfl rfl ?_
      refine wp_bipush (nI 23) dL_transact_216 (by decide) ?_
      refine wp_iload (i := 5) dL_transact_218 rfl ?_
      refine wp_iconst (nI 0) dL_transact_220 (by decide) ?_
      refine wp_iconst (nI 0) dL_transact_221 (by decide) ?_
      refine wp_cSH (y' := m_L_deed) [vr (some (nm 40 0)), vi (nI 23), vi (nI t), vi (nI 0), vi (nI 0)] [] 6 40 dL_transact_222 ml_L_191 st_L_deed okH_L_deed rfl (Nat.le_of_ble_eq_true rfl) rfl (Nat.le_of_ble_eq_true rfl) (d' := d - 1) (by omega) (by omega) (by omega) (e_end (t := t) (by omega) B (by omega) C3 (by omega) (by omega) (by omega) (fun h4 C4 F4 => cont_ret ?_))
      rw [eo] at C4
      rw [show dA [-20002, -20003] (o_end R (nI t) t) = nI (OT_bk (RS_tt R t)) from by rw [eo]; rfl]
      have H4 := H3.fk F4
      refine wp_goto 238 dL_transact_225 (by decide) ?_
      refine wp_istore (i := 11) (lv' := [(11, vi (nI (OT_bk (RS_tt R t)))), (10, vi (nI (RS_mo R))), (9, vi (nI ((RS_lg R).length))), (8, vi zb), (7, vi (nI w)), (6, vi (nI r)), (5, vi (nI t)), (0, vr (some (nm 40 0))), (1, vr (some nS)), (2, vi (nI i)), (3, vr (some (nm 70 1))), (4, vr (some (nm 70 2)))]) dL_transact_238 (by decide) rfl ?_
      refine wp_aload (i := 4) dL_transact_240 rfl ?_
      refine wp_iload (i := 5) dL_transact_242 rfl ?_
      refine wp_zaloadN 3 (bI (op t)) dL_transact_244 H4.2.2.2.2.1.1 H4.2.2.2.2.1.2.1 (by omega) (by decide) (H4.2.2.2.2.1.2.2 t ht) ?_
      refine wp_istore (i := 12) (lv' := [(12, vi (bI (op t))), (11, vi (nI (OT_bk (RS_tt R t)))), (10, vi (nI (RS_mo R))), (9, vi (nI ((RS_lg R).length))), (8, vi zb), (7, vi (nI w)), (6, vi (nI r)), (5, vi (nI t)), (0, vr (some (nm 40 0))), (1, vr (some nS)), (2, vi (nI i)), (3, vr (some (nm 70 1))), (4, vr (some (nm 70 2)))]) dL_transact_245 (by decide) rfl ?_
      refine wp_aload (i := 4) dL_transact_247 rfl ?_
      refine wp_iload (i := 5) dL_transact_249 rfl ?_
      refine wp_iload (i := 11) dL_transact_251 rfl ?_
      refine wp_bipush (nI 115) dL_transact_253 (by decide) ?_
      refine wp_icmp_neN 262 dL_transact_255 (by decide) (by omega) (by decide) (fun c_255 => ?_) (fun c_255 => absurd c_255 (by omega))
      refine wp_iconst (nI 0) dL_transact_262 (by decide) ?_
      refine wp_zastoreN 3 dL_transact_263 H4.2.2.2.2.1.1 H4.2.2.2.2.1.2.1 (by omega) (by decide) (by decide) ?_
      have H5w := H4.wop (t := t) (b := false)
      have C5w := C4.law (fun a ha => ce_w70 (i := 2) (k := t) (z := (nI 0)) (show a ≠ nm 70 2 by unfold nm; omega))
      refine wp_iload (i := 11) dL_transact_264 rfl ?_
      refine wp_bipush (nI 99) dL_transact_266 (by decide) ?_
      refine wp_icmp_neN 284 dL_transact_268 (by decide) (by omega) (by decide) (fun c_268 => absurd c_268 (by omega)) (fun c_268 => ?_)
      refine wp_aload_n (i := 0) dL_transact_271 rfl rfl ?_
      refine wp_cV (y' := m_X11_logged) 12 [] [] 6 40 dL_transact_272 ml_L_217 im_X11_logged se_X11_logged (by decide) C5w.hk ok_X11_logged rfl (Nat.le_of_ble_eq_true rfl) rfl (Nat.le_of_ble_eq_true rfl) (d' := d - 1) (by omega) (by omega) (by omega) (g_logged B' (by omega) C5w (by omega) (by omega) (by omega) (fun h6 C6 F6 => cont_ret ?_))
      rw [sam.1]
      have H6 := H5w.fk F6
      refine wp_iload (i := 9) dL_transact_275 rfl ?_
      refine wp_icmp_leN 284 dL_transact_277 (by decide) (by omega) (by omega) (fun c_277 => ?_) (fun c_277 => absurd c_277 (by omega))
      refine wp_iconst (nI 0) dL_transact_284 (by decide) ?_
      refine wp_istore (i := 13) (lv' := [(13, vi (nI 0)), (12, vi (bI (op t))), (11, vi (nI (OT_bk (RS_tt R t)))), (10, vi (nI (RS_mo R))), (9, vi (nI ((RS_lg R).length))), (8, vi zb), (7, vi (nI w)), (6, vi (nI r)), (5, vi (nI t)), (0, vr (some (nm 40 0))), (1, vr (some nS)), (2, vi (nI i)), (3, vr (some (nm 70 1))), (4, vr (some (nm 70 2)))]) dL_transact_285 (by decide) rfl ?_
      refine wp_iload (i := 11) dL_transact_287 rfl ?_
      refine wp_sipush (-20003) dL_transact_289 (by decide) ?_
      refine wp_icmp_ne 299 dL_transact_292 (by decide) (fun c_292 => ?_) (fun c_292 => absurd c_292 (nI_ne _ (by omega) _ (by decide)))
      refine wp_iconst (nI 0) dL_transact_299 (by decide) ?_
      refine wp_iload (i := 12) dL_transact_300 rfl ?_
      refine wp_if_neB 309 dL_transact_302 (by decide) (fun c_302 => ?_) (fun c_302 => absurd c_302 (by rw [hopn]; decide))
      refine wp_iconst (nI 0) dL_transact_309 (by decide) ?_
      refine wp_icmp_neN 371 dL_transact_310 (by decide) (by decide) (by decide) (fun c_310 => absurd c_310 (by decide)) (fun c_310 => ?_)
      refine wp_aload_n (i := 0) dL_transact_313 rfl rfl ?_
      refine wp_cV (y' := m_X11_moment) 12 [] [] 6 40 dL_transact_314 ml_L_214 im_X11_moment se_X11_moment (by decide) C6.hk ok_X11_moment rfl (Nat.le_of_ble_eq_true rfl) rfl (Nat.le_of_ble_eq_true rfl) (d' := d - 1) (by omega) (by omega) (by omega) (g_moment B' (by omega) C6 (by omega) (by omega) (by omega) (fun h7 C7 F7 => cont_ret ?_))
      rw [sam.2.1]
      have H7 := H6.fk F7
      refine wp_iload (i := 10) dL_transact_317 rfl ?_
      refine wp_iload (i := 13) dL_transact_319 rfl ?_
      refine wp_cS (y' := m_L_told) [vi (bI false)] [vi (nI (RS_mo R)), vi (nI (RS_mo R))] 0 0 dL_transact_321 ml_L_83 st_L_told ok_L_told rfl (Nat.le_of_ble_eq_true rfl) rfl (Nat.le_of_ble_eq_true rfl) (d' := d - 1) (by omega) (Nat.zero_le _) (Nat.zero_le _) (c_L_told (b := false) (cont_ret ?_))
      rw [show bI false = (nI 0) from rfl]
      refine wp_iaddN dL_transact_324 ?_
      refine wp_icmp_neN 371 dL_transact_325 (by decide) (by omega) (by omega) (fun c_325 => absurd c_325 (by omega)) (fun c_325 => ?_)
      refine wp_iload (i := 13) dL_transact_328 rfl ?_
      refine wp_if_neN 342 dL_transact_330 (by decide) (by decide) (fun c_330 => absurd c_330 (by decide)) (fun c_330 => ?_)
      refine wp_aload_n (i := 0) dL_transact_333 rfl rfl ?_
      refine wp_cV (y' := m_X11_logged) 12 [] [] 6 40 dL_transact_334 ml_L_217 im_X11_logged se_X11_logged (by decide) C7.hk ok_X11_logged rfl (Nat.le_of_ble_eq_true rfl) rfl (Nat.le_of_ble_eq_true rfl) (d' := d - 1) (by omega) (by omega) (by omega) (g_logged B' (by omega) C7 (by omega) (by omega) (by omega) (fun h8 C8 F8 => cont_ret ?_))
      rw [sam.1]
      have H8 := H7.fk F8
      refine wp_iload (i := 9) dL_transact_337 rfl ?_
      refine wp_icmp_neN 371 dL_transact_339 (by decide) (by omega) (by omega) (fun c_339 => absurd c_339 (by omega)) (fun c_339 => ?_)
      refine wp_iload (i := 13) dL_transact_342 rfl ?_
      refine wp_if_eqN 367 dL_transact_344 (by decide) (by decide) (fun c_344 => ?_) (fun c_344 => absurd c_344 (by decide))
      refine wp_iconst (nI 1) dL_transact_367 (by decide) ?_
      refine wp_goto 372 dL_transact_368 (by decide) ?_
      refine wp_zreturn dL_transact_372 rfl (by decide) ?_
      exact hq _ (c + 1) S' _ (by omega) C8 B' ri (HO.set sc) (by show flg S' + czN w t R ≤ flg R + 2; rw [hcz]; omega) (by rw [sam.2.2]; exact H8)
    · skip
      refine wp_aload_n (i := 0) dL_transact_154 rfl rfl ?_
      refine wp_bipush (nI 10) dL_transact_155 (by decide) ?_
      refine wp_iload (i := 5) dL_transact_157 rfl ?_
      refine wp_iconst (nI 0) dL_transact_159 (by decide) ?_
      refine wp_cSH (y' := m_L_ask) [vr (some (nm 40 0)), vi (nI 10), vi (nI t), vi (nI 0)] [] 6 40 dL_transact_160 ml_L_184 st_L_ask okH_L_ask rfl (Nat.le_of_ble_eq_true rfl) rfl (Nat.le_of_ble_eq_true rfl) (d' := d - 1) (by omega) (by omega) (by omega) (q_sentBack (t := t) (by omega) B (by omega) C (by omega) (by omega) (by omega) (fun h1 C1 F1 => cont_ret ?_))
      rw [r_sentBack] at C1
      rw [show dA [-20002] (o_sentBack R (nI t) t) = zb from by rw [rx_sent ht]; exact ezb]
      have H1 := H.fk F1
      refine wp_istore (i := 8) (lv' := [(8, vi zb), (7, vi (nI w)), (6, vi (nI r)), (5, vi (nI t)), (0, vr (some (nm 40 0))), (1, vr (some nS)), (2, vi (nI i)), (3, vr (some (nm 70 1))), (4, vr (some (nm 70 2)))]) dL_transact_163 (by decide) rfl ?_
      refine wp_aload_n (i := 0) dL_transact_165 rfl rfl ?_
      refine wp_cV (y' := m_X11_logged) 12 [] [] 6 40 dL_transact_166 ml_L_217 im_X11_logged se_X11_logged (by decide) C1.hk ok_X11_logged rfl (Nat.le_of_ble_eq_true rfl) rfl (Nat.le_of_ble_eq_true rfl) (d' := d - 1) (by omega) (by omega) (by omega) (g_logged B (by omega) C1 (by omega) (by omega) (by omega) (fun h2 C2 F2 => cont_ret ?_))
      have H2 := H1.fk F2
      refine wp_istore (i := 9) (lv' := [(9, vi (nI ((RS_lg R).length))), (8, vi zb), (7, vi (nI w)), (6, vi (nI r)), (5, vi (nI t)), (0, vr (some (nm 40 0))), (1, vr (some nS)), (2, vi (nI i)), (3, vr (some (nm 70 1))), (4, vr (some (nm 70 2)))]) dL_transact_169 (by decide) rfl ?_
      refine wp_aload_n (i := 0) dL_transact_171 rfl rfl ?_
      refine wp_cV (y' := m_X11_moment) 12 [] [] 6 40 dL_transact_172 ml_L_214 im_X11_moment se_X11_moment (by decide) C2.hk ok_X11_moment rfl (Nat.le_of_ble_eq_true rfl) rfl (Nat.le_of_ble_eq_true rfl) (d' := d - 1) (by omega) (by omega) (by omega) (g_moment B (by omega) C2 (by omega) (by omega) (by omega) (fun h3 C3 F3 => cont_ret ?_))
      have H3 := H2.fk F3
      refine wp_istore (i := 10) (lv' := [(10, vi (nI (RS_mo R))), (9, vi (nI ((RS_lg R).length))), (8, vi zb), (7, vi (nI w)), (6, vi (nI r)), (5, vi (nI t)), (0, vr (some (nm 40 0))), (1, vr (some nS)), (2, vi (nI i)), (3, vr (some (nm 70 1))), (4, vr (some (nm 70 2)))]) dL_transact_175 (by decide) rfl ?_
      refine wp_iload (i := 7) dL_transact_177 rfl ?_
      refine wp_bipush (nI 6) dL_transact_179 (by decide) ?_
      refine wp_icmp_leN 373 dL_transact_181 (by decide) (by omega) (by decide) (fun c_181 => absurd c_181 (by omega)) (fun c_181 => ?_)
      refine wp_iload (i := 7) dL_transact_184 rfl ?_
      refine wp_bipush (nI 7) dL_transact_186 (by decide) ?_
      refine wp_icmp_neN 204 dL_transact_188 (by decide) (by omega) (by decide) (fun c_188 => ?_) (fun c_188 => absurd c_188 (by omega))
      refine wp_aload_n (i := 1) dL_transact_204 rfl rfl ?_
      refine wp_iload_n (i := 2) dL_transact_205 rfl rfl ?_
      refine wp_iconst (nI 3) dL_transact_206 (by decide) ?_
      refine wp_iaddN dL_transact_207 ?_
      refine wp_iconst (nI 4) dL_transact_208 (by decide) ?_
      refine wp_cS (y' := m_L_pick) [vr (some nS), vi (nI (i + 3)), vi (nI 4)] [] 0 0 dL_transact_209 ml_L_199 st_L_pick ok_L_pick rfl (Nat.le_of_ble_eq_true rfl) rfl (Nat.le_of_ble_eq_true rfl) (d' := d - 1) (by omega) (Nat.zero_le _) (Nat.zero_le _) (c_L_pick (by omega) (by decide) (by omega) hL (by omega) (cont_ret ?_))
      refine wp_if_neN 228 dL_transact_212 (by decide) (by omega) (fun c_212 => absurd c_212 (by omega)) (fun c_212 => ?_)
      refine wp_aload_n (i := 0) dL_transact_215 rfl rfl ?_
      refine wp_bipush (nI 23) dL_transact_216 (by decide) ?_
      refine wp_iload (i := 5) dL_transact_218 rfl ?_
      refine wp_iconst (nI 0) dL_transact_220 (by decide) ?_
      refine wp_iconst (nI 0) dL_transact_221 (by decide) ?_
      refine wp_cSH (y' := m_L_deed) [vr (some (nm 40 0)), vi (nI 23), vi (nI t), vi (nI 0), vi (nI 0)] [] 6 40 dL_transact_222 ml_L_191 st_L_deed okH_L_deed rfl (Nat.le_of_ble_eq_true rfl) rfl (Nat.le_of_ble_eq_true rfl) (d' := d - 1) (by omega) (by omega) (by omega) (e_end (t := t) (by omega) B (by omega) C3 (by omega) (by omega) (by omega) (fun h4 C4 F4 => cont_ret ?_))
      rw [eo] at C4
      rw [show dA [-20002, -20003] (o_end R (nI t) t) = nI (OT_bk (RS_tt R t)) from by rw [eo]; rfl]
      have H4 := H3.fk F4
      refine wp_goto 238 dL_transact_225 (by decide) ?_
      refine wp_istore (i := 11) (lv' := [(11, vi (nI (OT_bk (RS_tt R t)))), (10, vi (nI (RS_mo R))), (9, vi (nI ((RS_lg R).length))), (8, vi zb), (7, vi (nI w)), (6, vi (nI r)), (5, vi (nI t)), (0, vr (some (nm 40 0))), (1, vr (some nS)), (2, vi (nI i)), (3, vr (some (nm 70 1))), (4, vr (some (nm 70 2)))]) dL_transact_238 (by decide) rfl ?_
      refine wp_aload (i := 4) dL_transact_240 rfl ?_
      refine wp_iload (i := 5) dL_transact_242 rfl ?_
      refine wp_zaloadN 3 (bI (op t)) dL_transact_244 H4.2.2.2.2.1.1 H4.2.2.2.2.1.2.1 (by omega) (by decide) (H4.2.2.2.2.1.2.2 t ht) ?_
      refine wp_istore (i := 12) (lv' := [(12, vi (bI (op t))), (11, vi (nI (OT_bk (RS_tt R t)))), (10, vi (nI (RS_mo R))), (9, vi (nI ((RS_lg R).length))), (8, vi zb), (7, vi (nI w)), (6, vi (nI r)), (5, vi (nI t)), (0, vr (some (nm 40 0))), (1, vr (some nS)), (2, vi (nI i)), (3, vr (some (nm 70 1))), (4, vr (some (nm 70 2)))]) dL_transact_245 (by decide) rfl ?_
      refine wp_aload (i := 4) dL_transact_247 rfl ?_
      refine wp_iload (i := 5) dL_transact_249 rfl ?_
      refine wp_iload (i := 11) dL_transact_251 rfl ?_
      refine wp_bipush (nI 115) dL_transact_253 (by decide) ?_
      refine wp_icmp_neN 262 dL_transact_255 (by decide) (by omega) (by decide) (fun c_255 => ?_) (fun c_255 => absurd c_255 (by omega))
      refine wp_iconst (nI 0) dL_transact_262 (by decide) ?_
      refine wp_zastoreN 3 dL_transact_263 H4.2.2.2.2.1.1 H4.2.2.2.2.1.2.1 (by omega) (by decide) (by decide) ?_
      have H5w := H4.wop (t := t) (b := false)
      have C5w := C4.law (fun a ha => ce_w70 (i := 2) (k := t) (z := (nI 0)) (show a ≠ nm 70 2 by unfold nm; omega))
      refine wp_iload (i := 11) dL_transact_264 rfl ?_
      refine wp_bipush (nI 99) dL_transact_266 (by decide) ?_
      refine wp_icmp_neN 284 dL_transact_268 (by decide) (by omega) (by decide) (fun c_268 => ?_) (fun c_268 => absurd c_268 (by omega))
      refine wp_iconst (nI 0) dL_transact_284 (by decide) ?_
      refine wp_istore (i := 13) (lv' := [(13, vi (nI 0)), (12, vi (bI (op t))), (11, vi (nI (OT_bk (RS_tt R t)))), (10, vi (nI (RS_mo R))), (9, vi (nI ((RS_lg R).length))), (8, vi zb), (7, vi (nI w)), (6, vi (nI r)), (5, vi (nI t)), (0, vr (some (nm 40 0))), (1, vr (some nS)), (2, vi (nI i)), (3, vr (some (nm 70 1))), (4, vr (some (nm 70 2)))]) dL_transact_285 (by decide) rfl ?_
      refine wp_iload (i := 11) dL_transact_287 rfl ?_
      refine wp_sipush (-20003) dL_transact_289 (by decide) ?_
      refine wp_icmp_ne 299 dL_transact_292 (by decide) (fun c_292 => ?_) (fun c_292 => absurd c_292 (nI_ne _ (by omega) _ (by decide)))
      refine wp_iconst (nI 0) dL_transact_299 (by decide) ?_
      refine wp_iload (i := 12) dL_transact_300 rfl ?_
      refine wp_if_neB 309 dL_transact_302 (by decide) (fun c_302 => ?_) (fun c_302 => absurd c_302 (by rw [hopn]; decide))
      refine wp_iconst (nI 0) dL_transact_309 (by decide) ?_
      refine wp_icmp_neN 371 dL_transact_310 (by decide) (by decide) (by decide) (fun c_310 => absurd c_310 (by decide)) (fun c_310 => ?_)
      refine wp_aload_n (i := 0) dL_transact_313 rfl rfl ?_
      refine wp_cV (y' := m_X11_moment) 12 [] [] 6 40 dL_transact_314 ml_L_214 im_X11_moment se_X11_moment (by decide) C5w.hk ok_X11_moment rfl (Nat.le_of_ble_eq_true rfl) rfl (Nat.le_of_ble_eq_true rfl) (d' := d - 1) (by omega) (by omega) (by omega) (g_moment B' (by omega) C5w (by omega) (by omega) (by omega) (fun h6 C6 F6 => cont_ret ?_))
      rw [sam.2.1]
      have H6 := H5w.fk F6
      refine wp_iload (i := 10) dL_transact_317 rfl ?_
      refine wp_iload (i := 13) dL_transact_319 rfl ?_
      refine wp_cS (y' := m_L_told) [vi (bI false)] [vi (nI (RS_mo R)), vi (nI (RS_mo R))] 0 0 dL_transact_321 ml_L_83 st_L_told ok_L_told rfl (Nat.le_of_ble_eq_true rfl) rfl (Nat.le_of_ble_eq_true rfl) (d' := d - 1) (by omega) (Nat.zero_le _) (Nat.zero_le _) (c_L_told (b := false) (cont_ret ?_))
      rw [show bI false = (nI 0) from rfl]
      refine wp_iaddN dL_transact_324 ?_
      refine wp_icmp_neN 371 dL_transact_325 (by decide) (by omega) (by omega) (fun c_325 => absurd c_325 (by omega)) (fun c_325 => ?_)
      refine wp_iload (i := 13) dL_transact_328 rfl ?_
      refine wp_if_neN 342 dL_transact_330 (by decide) (by decide) (fun c_330 => absurd c_330 (by decide)) (fun c_330 => ?_)
      refine wp_aload_n (i := 0) dL_transact_333 rfl rfl ?_
      refine wp_cV (y' := m_X11_logged) 12 [] [] 6 40 dL_transact_334 ml_L_217 im_X11_logged se_X11_logged (by decide) C6.hk ok_X11_logged rfl (Nat.le_of_ble_eq_true rfl) rfl (Nat.le_of_ble_eq_true rfl) (d' := d - 1) (by omega) (by omega) (by omega) (g_logged B' (by omega) C6 (by omega) (by omega) (by omega) (fun h7 C7 F7 => cont_ret ?_))
      rw [sam.1]
      have H7 := H6.fk F7
      refine wp_iload (i := 9) dL_transact_337 rfl ?_
      refine wp_icmp_neN 371 dL_transact_339 (by decide) (by omega) (by omega) (fun c_339 => absurd c_339 (by omega)) (fun c_339 => ?_)
      refine wp_iload (i := 13) dL_transact_342 rfl ?_
      refine wp_if_eqN 367 dL_transact_344 (by decide) (by decide) (fun c_344 => ?_) (fun c_344 => absurd c_344 (by decide))
      refine wp_iconst (nI 1) dL_transact_367 (by decide) ?_
      refine wp_goto 372 dL_transact_368 (by decide) ?_
      refine wp_zreturn dL_transact_372 rfl (by decide) ?_
      exact hq _ (c + 1) S' _ (by omega) C7 B' ri (HO.set sc) (by show flg S' + czN w t R ≤ flg R + 2; rw [hcz]; omega) (by rw [sam.2.2]; exact H7)
