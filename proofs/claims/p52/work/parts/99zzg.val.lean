/-! value: its roads. -/
set_option maxRecDepth 100000 in
set_option maxHeartbeats 4000000 in
theorem l_val_app {G : GG} {d c n : Nat} {Q : Pst} {V : SV} {x : Nat → QIS} {R : RS} {k K J : Nat} {ro : Nat → Nat} {rf : Nat → Nat → Int32} {op : Nat → Bool} (B : PU c V n x R) (hc : c + 4 ≤ 512) (h60 : sNv V < 60) (hP : ∀ v, v < sNv V → RowP (vp V v) (rf v)) (hI0 : IN0 V) (hd : 40 ≤ d) (hL : slen G < 2 ^ 31) {h : Hp} {M bc bs : Nat} (hk : k < sNv V) (ht : sTy V k = 118) (C : CLS h V M n x R) (hM : M + 30 < 900000) (H : LWH h (sNv V) n (RS_rn R) ro rf (K + 1) J op) (hKn : ∀ v, v < sNv V → ro v ≠ K) (W : RWl h (nm 71 K) (rf k)) {e : Int32} (he : smE e) {pl : Nat} (hpl : pl < 20) {w i : Nat} (hw : w < 16) (hi : i + 100 < 2 ^ 31) (hbc : 120 ≤ bc) (hbs : 3000 ≤ bs) (hq : ∀ h' M' V' c' ro' rf', c' ≤ c + 4 → PU c' V' n x R → CLS h' V' M' n x R → M ≤ M' → M' ≤ M + 16 → LWH h' (sNv V') n (RS_rn R) ro' rf' (K + 1) J op → (∀ v, v < sNv V' → RowP (vp V' v) (rf' v)) → IN0 V' → Q (oRet (vi (nI 1))) h') (hw7 : w < 7) (hs : sSz V k < 64) : WP G m_L_value d 290 [(13, vi (nI pl)), (12, vi (nI (sSz V k))), (11, vr (some (nm 71 K))), (10, vi (nI (sNv V))), (8, vl (nI (sMd V)).toInt64), (7, vi e), (6, vi (nI w)), (5, vi (nI k)), (4, vr (some (nm 70 1))), (3, vr (some (nm 70 0))), (2, vi (nI i)), (1, vr (some nS)), (0, vr (some (nm 40 0)))] [] h bc bs Q := by
  have hn60 := B.1.1
  have hk1 : k < 2 ^ 31 := by omega
  have hz : sSz V k ≤ 64 := (B.1.2.1 k hk).2.1
  have hPk := hP k hk
  have f0 : rf k 0 = nI 118 := hPk.1.trans (congrArg nI ht)
  have f1 : rf k 1 = nI (sSz V k) := hPk.2.1
  have hmd := B.2.2.1
  have hm25 : sMd V + 25 ≤ 1000000 := by omega
  refine wp_aload (i := 11) dL_value_290 rfl ?_
  refine wp_iconst (nI 0) dL_value_292 (by decide) ?_
  refine wp_ialoadN 70 (nI 118) dL_value_293 W.1 W.2.1 (by decide) (by decide) ((W.2.2 0 (by decide)).trans (f0)) ?_
  refine wp_bipush (nI 118) dL_value_294 (by decide) ?_
  refine wp_icmp_neN 535 dL_value_296 (by decide) (by decide) (by decide) (fun c_296 => absurd c_296 (by decide)) (fun c_296 => ?_)
  refine wp_iload (i := 6) dL_value_299 rfl ?_
  refine wp_bipush (nI 10) dL_value_301 (by decide) ?_
  refine wp_icmp_geN 535 dL_value_303 (by decide) (by omega) (by decide) (fun c_303 => absurd c_303 (by omega)) (fun c_303 => ?_)
  refine wp_iload (i := 6) dL_value_306 rfl ?_
  refine wp_bipush (nI 7) dL_value_308 (by decide) ?_
  refine wp_icmp_geN 394 dL_value_310 (by decide) (by omega) (by decide) (fun c_310 => absurd c_310 (by omega)) (fun c_310 => ?_)
  refine wp_aload_n (i := 0) dL_value_313 rfl rfl ?_
  refine wp_iconst (nI 1) dL_value_314 (by decide) ?_
  refine wp_iload (i := 5) dL_value_315 rfl ?_
  refine wp_iload (i := 7) dL_value_317 rfl ?_
  refine wp_iconst (nI 0) dL_value_319 (by decide) ?_
  refine wp_cSH (y' := m_L_deed) [vr (some (nm 40 0)), vi (nI 1), vi (nI k), vi e, vi (nI 0)] [] 20 400 dL_value_320 ml_L_191 st_L_deed okH_L_deed rfl (Nat.le_of_ble_eq_true rfl) rfl (Nat.le_of_ble_eq_true rfl) (d' := d - 1) (by omega) (by omega) (by omega) (e_append (k := k) hk1 B (by omega) C (by omega) (by omega) (by omega) (fun h1 M1 ma1 mb1 C1 F1 => cont_ret ?_))
  obtain ⟨V', eo, mo, mk9, rp⟩ := pv_append B.1 hk ht hs h60 he hPk
  have k9 : VK V (o_append V (nI k) k e).2.2 := k_append B.1 (ixk hk1 (by omega))
  have b9 : WB (o_append V (nI k) k e).2.2 := b_append B.2.1 hm25
  rw [eo] at k9 b9
  have B' : PU (c + 1) V' n x R := B.v k9 b9 (by omega)
  rw [eo] at C1
  rw [show dA [-20001, -20002, -20004, -20003] (o_append V (nI k) k e) = nI (sNv V) from by rw [eo]; rfl]
  have H1 := H.fk F1
  have W1 := RWl.fk W F1 (by unfold nm; omega)
  refine wp_istore (i := 14) (lv' := [(14, vi (nI (sNv V))), (13, vi (nI pl)), (12, vi (nI (sSz V k))), (11, vr (some (nm 71 K))), (10, vi (nI (sNv V))), (8, vl (nI (sMd V)).toInt64), (7, vi e), (6, vi (nI w)), (5, vi (nI k)), (4, vr (some (nm 70 1))), (3, vr (some (nm 70 0))), (2, vi (nI i)), (1, vr (some nS)), (0, vr (some (nm 40 0)))]) dL_value_323 (by decide) rfl ?_
  refine wp_iload (i := 12) dL_value_325 rfl ?_
  refine wp_bipush (nI 64) dL_value_327 (by decide) ?_
  refine wp_icmp_geN 336 dL_value_329 (by decide) (by omega) (by decide) (fun c_329 => absurd c_329 (by omega)) (fun c_329 => ?_)
  refine wp_iconst (nI 1) dL_value_332 (by decide) ?_
  refine wp_goto 337 dL_value_333 (by decide) ?_
  refine wp_istore (i := 15) (lv' := [(15, vi (nI 1)), (14, vi (nI (sNv V))), (13, vi (nI pl)), (12, vi (nI (sSz V k))), (11, vr (some (nm 71 K))), (10, vi (nI (sNv V))), (8, vl (nI (sMd V)).toInt64), (7, vi e), (6, vi (nI w)), (5, vi (nI k)), (4, vr (some (nm 70 1))), (3, vr (some (nm 70 0))), (2, vi (nI i)), (1, vr (some nS)), (0, vr (some (nm 40 0)))]) dL_value_337 (by decide) rfl ?_
  refine wp_aload (i := 11) dL_value_339 rfl ?_
  refine wp_iconst (nI 2) dL_value_341 (by decide) ?_
  refine wp_bipush (nI 63) dL_value_342 (by decide) ?_
  refine wp_iload (i := 12) dL_value_344 rfl ?_
  refine wp_minN dL_value_346 ml_L_194 st_J9_min_7cf53 co_J9_min (by omega) (Nat.le_of_ble_eq_true rfl) (by omega) (by omega) ?_
  rw [show min 63 (sSz V k) = (sSz V k) by omega]
  refine wp_iaddN dL_value_349 ?_
  refine wp_iload (i := 7) dL_value_350 rfl ?_
  refine wp_iastoreN 70 dL_value_352 W1.1 W1.2.1 (by omega) (by decide) ?_
  have W2w := RWn.w (n := 70) (k := 2 + (sSz V k)) (z := e) W1
  have H2w := H1.wr (k := 2 + (sSz V k)) (z := e) hKn (by omega)
  have C2w := C1.law (fun a ha => ce_w71 (h := _) (k := 2 + (sSz V k)) (z := e) (show a ≠ nm 71 K by unfold nm; omega))
  refine wp_aload (i := 11) dL_value_353 rfl ?_
  refine wp_iconst (nI 1) dL_value_355 (by decide) ?_
  refine wp_dup2 dL_value_356 ?_
  refine wp_ialoadN 70 (nI (sSz V k)) dL_value_357 W2w.1 W2w.2.1 (by decide) (by decide) ((W2w.2.2 1 (by decide)).trans (by rw [el_up, if_neg (by omega)]; exact f1)) ?_
  refine wp_iload (i := 15) dL_value_358 rfl ?_
  refine wp_if_eqN 367 dL_value_360 (by decide) (by decide) (fun c_360 => absurd c_360 (by decide)) (fun c_360 => ?_)
  refine wp_iconst (nI 1) dL_value_363 (by decide) ?_
  refine wp_goto 368 dL_value_364 (by decide) ?_
  refine wp_iaddN dL_value_368 ?_
  refine wp_iastoreN 70 dL_value_369 W2w.1 W2w.2.1 (by decide) (by decide) ?_
  have W3w := RWn.w (n := 70) (k := 1) (z := (nI ((sSz V k) + 1))) W2w
  have H3w := H2w.wr (k := 1) (z := (nI ((sSz V k) + 1))) hKn (by omega)
  have C3w := C2w.law (fun a ha => ce_w71 (h := _) (k := 1) (z := (nI ((sSz V k) + 1))) (show a ≠ nm 71 K by unfold nm; omega))
  refine wp_iload (i := 15) dL_value_370 rfl ?_
  refine wp_if_neN 383 dL_value_372 (by decide) (by decide) (fun c_372 => ?_) (fun c_372 => absurd c_372 (by decide))
  refine wp_iload (i := 14) dL_value_383 rfl ?_
  refine wp_goto 389 dL_value_385 (by decide) ?_
  refine wp_istore (i := 14) (lv' := [(14, vi (nI (sNv V))), (15, vi (nI 1)), (13, vi (nI pl)), (12, vi (nI (sSz V k))), (11, vr (some (nm 71 K))), (10, vi (nI (sNv V))), (8, vl (nI (sMd V)).toInt64), (7, vi e), (6, vi (nI w)), (5, vi (nI k)), (4, vr (some (nm 70 1))), (3, vr (some (nm 70 0))), (2, vi (nI i)), (1, vr (some nS)), (0, vr (some (nm 40 0)))]) dL_value_389 (by decide) rfl ?_
  refine wp_goto 1072 dL_value_391 (by decide) ?_
  refine wp_sub [(15, vi (nI 1)), (14, vi (nI (sNv V))), (11, vr (some (nm 71 K))), (10, vi (nI (sNv V))), (8, vl (nI (sMd V)).toInt64), (5, vi (nI k)), (4, vr (some (nm 70 1))), (3, vr (some (nm 70 0))), (0, vr (some (nm 40 0)))] (sb_cons (.tail _ (.head _)) (sb_cons (.head _) (sb_cons (.tail _ (.tail _ (.tail _ (.tail _ (.head _))))) (sb_cons (.tail _ (.tail _ (.tail _ (.tail _ (.tail _ (.head _)))))) (sb_cons (.tail _ (.tail _ (.tail _ (.tail _ (.tail _ (.tail _ (.head _))))))) (sb_cons (.tail _ (.tail _ (.tail _ (.tail _ (.tail _ (.tail _ (.tail _ (.tail _ (.tail _ (.head _)))))))))) (sb_cons (.tail _ (.tail _ (.tail _ (.tail _ (.tail _ (.tail _ (.tail _ (.tail _ (.tail _ (.tail _ (.head _))))))))))) (sb_cons (.tail _ (.tail _ (.tail _ (.tail _ (.tail _ (.tail _ (.tail _ (.tail _ (.tail _ (.tail _ (.tail _ (.head _)))))))))))) (sb_cons (.tail _ (.tail _ (.tail _ (.tail _ (.tail _ (.tail _ (.tail _ (.tail _ (.tail _ (.tail _ (.tail _ (.tail _ (.tail _ (.tail _ (.head _))))))))))))))) sb_nil))))))))) ?_
  exact l_val_keep B hc h60 hP hI0 hd hL hk (c' := c + 1) (by omega) B' mo mk9 rp C3w (by omega) H3w hKn W3w (by omega) (by omega) (fun h9 M9 V9 c9 r9 f9 a b e m1 m2 g1 g2 g3 => hq h9 M9 V9 c9 r9 f9 a b e (by omega) (by omega) g1 g2 g3)
set_option maxRecDepth 100000 in
set_option maxHeartbeats 4000000 in
theorem l_val_appN {G : GG} {d c n : Nat} {Q : Pst} {V : SV} {x : Nat → QIS} {R : RS} {k K J : Nat} {ro : Nat → Nat} {rf : Nat → Nat → Int32} {op : Nat → Bool} (B : PU c V n x R) (hc : c + 4 ≤ 512) (h60 : sNv V < 60) (hP : ∀ v, v < sNv V → RowP (vp V v) (rf v)) (hI0 : IN0 V) (hd : 40 ≤ d) (hL : slen G < 2 ^ 31) {h : Hp} {M bc bs : Nat} (hk : k < sNv V) (ht : sTy V k = 118) (C : CLS h V M n x R) (hM : M + 30 < 900000) (H : LWH h (sNv V) n (RS_rn R) ro rf (K + 1) J op) (hKn : ∀ v, v < sNv V → ro v ≠ K) (W : RWl h (nm 71 K) (rf k)) {e : Int32} (he : smE e) {pl : Nat} (hpl : pl < 20) {w i : Nat} (hw : w < 16) (hi : i + 100 < 2 ^ 31) (hbc : 120 ≤ bc) (hbs : 3000 ≤ bs) (hq : ∀ h' M' V' c' ro' rf', c' ≤ c + 4 → PU c' V' n x R → CLS h' V' M' n x R → M ≤ M' → M' ≤ M + 16 → LWH h' (sNv V') n (RS_rn R) ro' rf' (K + 1) J op → (∀ v, v < sNv V' → RowP (vp V' v) (rf' v)) → IN0 V' → Q (oRet (vi (nI 1))) h') (hw7 : w < 7) (hs : sSz V k = 64) : WP G m_L_value d 290 [(13, vi (nI pl)), (12, vi (nI (sSz V k))), (11, vr (some (nm 71 K))), (10, vi (nI (sNv V))), (8, vl (nI (sMd V)).toInt64), (7, vi e), (6, vi (nI w)), (5, vi (nI k)), (4, vr (some (nm 70 1))), (3, vr (some (nm 70 0))), (2, vi (nI i)), (1, vr (some nS)), (0, vr (some (nm 40 0)))] [] h bc bs Q := by
  have hn60 := B.1.1
  have hk1 : k < 2 ^ 31 := by omega
  have hz : sSz V k ≤ 64 := (B.1.2.1 k hk).2.1
  have hPk := hP k hk
  have f0 : rf k 0 = nI 118 := hPk.1.trans (congrArg nI ht)
  have f1 : rf k 1 = nI (sSz V k) := hPk.2.1
  have hmd := B.2.2.1
  have hm25 : sMd V + 25 ≤ 1000000 := by omega
  refine wp_aload (i := 11) dL_value_290 rfl ?_
  refine wp_iconst (nI 0) dL_value_292 (by decide) ?_
  refine wp_ialoadN 70 (nI 118) dL_value_293 W.1 W.2.1 (by decide) (by decide) ((W.2.2 0 (by decide)).trans (f0)) ?_
  refine wp_bipush (nI 118) dL_value_294 (by decide) ?_
  refine wp_icmp_neN 535 dL_value_296 (by decide) (by decide) (by decide) (fun c_296 => absurd c_296 (by decide)) (fun c_296 => ?_)
  refine wp_iload (i := 6) dL_value_299 rfl ?_
  refine wp_bipush (nI 10) dL_value_301 (by decide) ?_
  refine wp_icmp_geN 535 dL_value_303 (by decide) (by omega) (by decide) (fun c_303 => absurd c_303 (by omega)) (fun c_303 => ?_)
  refine wp_iload (i := 6) dL_value_306 rfl ?_
  refine wp_bipush (nI 7) dL_value_308 (by decide) ?_
  refine wp_icmp_geN 394 dL_value_310 (by decide) (by omega) (by decide) (fun c_310 => absurd c_310 (by omega)) (fun c_310 => ?_)
  refine wp_aload_n (i := 0) dL_value_313 rfl rfl ?_
  refine wp_iconst (nI 1) dL_value_314 (by decide) ?_
  refine wp_iload (i := 5) dL_value_315 rfl ?_
  refine wp_iload (i := 7) dL_value_317 rfl ?_
  refine wp_iconst (nI 0) dL_value_319 (by decide) ?_
  refine wp_cSH (y' := m_L_deed) [vr (some (nm 40 0)), vi (nI 1), vi (nI k), vi e, vi (nI 0)] [] 20 400 dL_value_320 ml_L_191 st_L_deed okH_L_deed rfl (Nat.le_of_ble_eq_true rfl) rfl (Nat.le_of_ble_eq_true rfl) (d' := d - 1) (by omega) (by omega) (by omega) (e_append (k := k) hk1 B (by omega) C (by omega) (by omega) (by omega) (fun h1 M1 ma1 mb1 C1 F1 => cont_ret ?_))
  rw [pv_appendN hk (by omega) hs he] at C1
  rw [show dA [-20001, -20002, -20004, -20003] (o_append V (nI k) k e) = -20004 from by rw [pv_appendN hk (by omega) hs he]; rfl]
  have H1 := H.fk F1
  have W1 := RWl.fk W F1 (by unfold nm; omega)
  refine wp_istore (i := 14) (lv' := [(14, vi (-20004)), (13, vi (nI pl)), (12, vi (nI (sSz V k))), (11, vr (some (nm 71 K))), (10, vi (nI (sNv V))), (8, vl (nI (sMd V)).toInt64), (7, vi e), (6, vi (nI w)), (5, vi (nI k)), (4, vr (some (nm 70 1))), (3, vr (some (nm 70 0))), (2, vi (nI i)), (1, vr (some nS)), (0, vr (some (nm 40 0)))]) dL_value_323 (by decide) rfl ?_
  refine wp_iload (i := 12) dL_value_325 rfl ?_
  refine wp_bipush (nI 64) dL_value_327 (by decide) ?_
  refine wp_icmp_geN 336 dL_value_329 (by decide) (by omega) (by decide) (fun c_329 => ?_) (fun c_329 => absurd c_329 (by omega))
  refine wp_iconst (nI 0) dL_value_336 (by decide) ?_
  refine wp_istore (i := 15) (lv' := [(15, vi (nI 0)), (14, vi (-20004)), (13, vi (nI pl)), (12, vi (nI (sSz V k))), (11, vr (some (nm 71 K))), (10, vi (nI (sNv V))), (8, vl (nI (sMd V)).toInt64), (7, vi e), (6, vi (nI w)), (5, vi (nI k)), (4, vr (some (nm 70 1))), (3, vr (some (nm 70 0))), (2, vi (nI i)), (1, vr (some nS)), (0, vr (some (nm 40 0)))]) dL_value_337 (by decide) rfl ?_
  refine wp_aload (i := 11) dL_value_339 rfl ?_
  refine wp_iconst (nI 2) dL_value_341 (by decide) ?_
  refine wp_bipush (nI 63) dL_value_342 (by decide) ?_
  refine wp_iload (i := 12) dL_value_344 rfl ?_
  refine wp_minN dL_value_346 ml_L_194 st_J9_min_7cf53 co_J9_min (by omega) (Nat.le_of_ble_eq_true rfl) (by omega) (by omega) ?_
  rw [show min 63 (sSz V k) = 63 by omega]
  refine wp_iaddN dL_value_349 ?_
  refine wp_iload (i := 7) dL_value_350 rfl ?_
  refine wp_iastoreN 70 dL_value_352 W1.1 W1.2.1 (by omega) (by decide) ?_
  have W2w := RWn.w (n := 70) (k := 2 + 63) (z := e) W1
  have H2w := H1.wr (k := 2 + 63) (z := e) hKn (by omega)
  have C2w := C1.law (fun a ha => ce_w71 (h := _) (k := 2 + 63) (z := e) (show a ≠ nm 71 K by unfold nm; omega))
  refine wp_aload (i := 11) dL_value_353 rfl ?_
  refine wp_iconst (nI 1) dL_value_355 (by decide) ?_
  refine wp_dup2 dL_value_356 ?_
  refine wp_ialoadN 70 (nI (sSz V k)) dL_value_357 W2w.1 W2w.2.1 (by decide) (by decide) ((W2w.2.2 1 (by decide)).trans (by rw [el_up, if_neg (by omega)]; exact f1)) ?_
  refine wp_iload (i := 15) dL_value_358 rfl ?_
  refine wp_if_eqN 367 dL_value_360 (by decide) (by decide) (fun c_360 => ?_) (fun c_360 => absurd c_360 (by decide))
  refine wp_iconst (nI 0) dL_value_367 (by decide) ?_
  refine wp_iaddN dL_value_368 ?_
  refine wp_iastoreN 70 dL_value_369 W2w.1 W2w.2.1 (by decide) (by decide) ?_
  have W3w := RWn.w (n := 70) (k := 1) (z := (nI ((sSz V k) + 0))) W2w
  have H3w := H2w.wr (k := 1) (z := (nI ((sSz V k) + 0))) hKn (by omega)
  have C3w := C2w.law (fun a ha => ce_w71 (h := _) (k := 1) (z := (nI ((sSz V k) + 0))) (show a ≠ nm 71 K by unfold nm; omega))
  refine wp_iload (i := 15) dL_value_370 rfl ?_
  refine wp_if_neN 383 dL_value_372 (by decide) (by decide) (fun c_372 => absurd c_372 (by decide)) (fun c_372 => ?_)
  refine wp_iload (i := 14) dL_value_375 rfl ?_
  refine wp_sipush (-20004) dL_value_377 (by decide) ?_
  refine wp_icmp_eq 388 dL_value_380 (by decide) (fun c_380 => ?_) (fun c_380 => absurd c_380 (fun z => z rfl))
  refine wp_iconst (-1) dL_value_388 (by decide) ?_
  refine wp_istore (i := 14) (lv' := [(14, vi (-1)), (15, vi (nI 0)), (13, vi (nI pl)), (12, vi (nI (sSz V k))), (11, vr (some (nm 71 K))), (10, vi (nI (sNv V))), (8, vl (nI (sMd V)).toInt64), (7, vi e), (6, vi (nI w)), (5, vi (nI k)), (4, vr (some (nm 70 1))), (3, vr (some (nm 70 0))), (2, vi (nI i)), (1, vr (some nS)), (0, vr (some (nm 40 0)))]) dL_value_389 (by decide) rfl ?_
  refine wp_goto 1072 dL_value_391 (by decide) ?_
  refine wp_sub [(15, vi (nI 0)), (14, vi (-1)), (11, vr (some (nm 71 K))), (10, vi (nI (sNv V))), (8, vl (nI (sMd V)).toInt64), (5, vi (nI k)), (4, vr (some (nm 70 1))), (3, vr (some (nm 70 0))), (0, vr (some (nm 40 0)))] (sb_cons (.tail _ (.head _)) (sb_cons (.head _) (sb_cons (.tail _ (.tail _ (.tail _ (.tail _ (.head _))))) (sb_cons (.tail _ (.tail _ (.tail _ (.tail _ (.tail _ (.head _)))))) (sb_cons (.tail _ (.tail _ (.tail _ (.tail _ (.tail _ (.tail _ (.head _))))))) (sb_cons (.tail _ (.tail _ (.tail _ (.tail _ (.tail _ (.tail _ (.tail _ (.tail _ (.tail _ (.head _)))))))))) (sb_cons (.tail _ (.tail _ (.tail _ (.tail _ (.tail _ (.tail _ (.tail _ (.tail _ (.tail _ (.tail _ (.head _))))))))))) (sb_cons (.tail _ (.tail _ (.tail _ (.tail _ (.tail _ (.tail _ (.tail _ (.tail _ (.tail _ (.tail _ (.tail _ (.head _)))))))))))) (sb_cons (.tail _ (.tail _ (.tail _ (.tail _ (.tail _ (.tail _ (.tail _ (.tail _ (.tail _ (.tail _ (.tail _ (.tail _ (.tail _ (.tail _ (.head _))))))))))))))) sb_nil))))))))) ?_
  exact l_val_no B hc h60 hP hI0 hd hL C3w H3w hKn (fun h9 M9 V9 c9 r9 f9 a b e m1 m2 g1 g2 g3 => hq h9 M9 V9 c9 r9 f9 a b e (by omega) (by omega) g1 g2 g3)
set_option maxRecDepth 100000 in
set_option maxHeartbeats 4000000 in
theorem l_val_set {G : GG} {d c n : Nat} {Q : Pst} {V : SV} {x : Nat → QIS} {R : RS} {k K J : Nat} {ro : Nat → Nat} {rf : Nat → Nat → Int32} {op : Nat → Bool} (B : PU c V n x R) (hc : c + 4 ≤ 512) (h60 : sNv V < 60) (hP : ∀ v, v < sNv V → RowP (vp V v) (rf v)) (hI0 : IN0 V) (hd : 40 ≤ d) (hL : slen G < 2 ^ 31) {h : Hp} {M bc bs : Nat} (hk : k < sNv V) (ht : sTy V k = 118) (C : CLS h V M n x R) (hM : M + 30 < 900000) (H : LWH h (sNv V) n (RS_rn R) ro rf (K + 1) J op) (hKn : ∀ v, v < sNv V → ro v ≠ K) (W : RWl h (nm 71 K) (rf k)) {e : Int32} (he : smE e) {pl : Nat} (hpl : pl < 20) {w i : Nat} (hw : w < 16) (hi : i + 100 < 2 ^ 31) (hbc : 120 ≤ bc) (hbs : 3000 ≤ bs) (hq : ∀ h' M' V' c' ro' rf', c' ≤ c + 4 → PU c' V' n x R → CLS h' V' M' n x R → M ≤ M' → M' ≤ M + 16 → LWH h' (sNv V') n (RS_rn R) ro' rf' (K + 1) J op → (∀ v, v < sNv V' → RowP (vp V' v) (rf' v)) → IN0 V' → Q (oRet (vi (nI 1))) h') (hw7 : 7 ≤ w) (hw9 : w < 9) (hs : pl < sSz V k) : WP G m_L_value d 290 [(13, vi (nI pl)), (12, vi (nI (sSz V k))), (11, vr (some (nm 71 K))), (10, vi (nI (sNv V))), (8, vl (nI (sMd V)).toInt64), (7, vi e), (6, vi (nI w)), (5, vi (nI k)), (4, vr (some (nm 70 1))), (3, vr (some (nm 70 0))), (2, vi (nI i)), (1, vr (some nS)), (0, vr (some (nm 40 0)))] [] h bc bs Q := by
  have hn60 := B.1.1
  have hk1 : k < 2 ^ 31 := by omega
  have hz : sSz V k ≤ 64 := (B.1.2.1 k hk).2.1
  have hPk := hP k hk
  have f0 : rf k 0 = nI 118 := hPk.1.trans (congrArg nI ht)
  have f1 : rf k 1 = nI (sSz V k) := hPk.2.1
  have hmd := B.2.2.1
  have hm25 : sMd V + 25 ≤ 1000000 := by omega
  refine wp_aload (i := 11) dL_value_290 rfl ?_
  refine wp_iconst (nI 0) dL_value_292 (by decide) ?_
  refine wp_ialoadN 70 (nI 118) dL_value_293 W.1 W.2.1 (by decide) (by decide) ((W.2.2 0 (by decide)).trans (f0)) ?_
  refine wp_bipush (nI 118) dL_value_294 (by decide) ?_
  refine wp_icmp_neN 535 dL_value_296 (by decide) (by decide) (by decide) (fun c_296 => absurd c_296 (by decide)) (fun c_296 => ?_)
  refine wp_iload (i := 6) dL_value_299 rfl ?_
  refine wp_bipush (nI 10) dL_value_301 (by decide) ?_
  refine wp_icmp_geN 535 dL_value_303 (by decide) (by omega) (by decide) (fun c_303 => absurd c_303 (by omega)) (fun c_303 => ?_)
  refine wp_iload (i := 6) dL_value_306 rfl ?_
  refine wp_bipush (nI 7) dL_value_308 (by decide) ?_
  refine wp_icmp_geN 394 dL_value_310 (by decide) (by omega) (by decide) (fun c_310 => ?_) (fun c_310 => absurd c_310 (by omega))
  refine wp_iload (i := 6) dL_value_394 rfl ?_
  refine wp_bipush (nI 9) dL_value_396 (by decide) ?_
  refine wp_icmp_geN 471 dL_value_398 (by decide) (by omega) (by decide) (fun c_398 => absurd c_398 (by omega)) (fun c_398 => ?_)
  refine wp_aload_n (i := 0) dL_value_401 rfl rfl ?_
  refine wp_iconst (nI 2) dL_value_402 (by decide) ?_
  refine wp_iload (i := 5) dL_value_403 rfl ?_
  refine wp_iload (i := 13) dL_value_405 rfl ?_
  refine wp_iload (i := 7) dL_value_407 rfl ?_
  refine wp_cSH (y' := m_L_deed) [vr (some (nm 40 0)), vi (nI 2), vi (nI k), vi (nI pl), vi e] [] 20 400 dL_value_409 ml_L_191 st_L_deed okH_L_deed rfl (Nat.le_of_ble_eq_true rfl) rfl (Nat.le_of_ble_eq_true rfl) (d' := d - 1) (by omega) (by omega) (by omega) (e_set (k := k) hk1 (j := pl) (by omega) B (by omega) C (by omega) (by omega) (by omega) (fun h1 M1 ma1 mb1 C1 F1 => cont_ret ?_))
  obtain ⟨V', eo, mo, mk9, rp⟩ := pv_set B.1 hk ht hs h60 he hPk
  have k9 : VK V (o_set V (nI k) k (nI pl) pl e).2.2 := k_set B.1 (ixk hk1 (by omega)) (fun z => ixk (by omega) (by omega) z)
  have b9 : WB (o_set V (nI k) k (nI pl) pl e).2.2 := b_set B.2.1 hm25
  rw [eo] at k9 b9
  have B' : PU (c + 1) V' n x R := B.v k9 b9 (by omega)
  rw [eo] at C1
  rw [show dA [-20001, -20002, -20004, -20005, -20003] (o_set V (nI k) k (nI pl) pl e) = nI (sNv V) from by rw [eo]; rfl]
  have H1 := H.fk F1
  have W1 := RWl.fk W F1 (by unfold nm; omega)
  refine wp_istore (i := 14) (lv' := [(14, vi (nI (sNv V))), (13, vi (nI pl)), (12, vi (nI (sSz V k))), (11, vr (some (nm 71 K))), (10, vi (nI (sNv V))), (8, vl (nI (sMd V)).toInt64), (7, vi e), (6, vi (nI w)), (5, vi (nI k)), (4, vr (some (nm 70 1))), (3, vr (some (nm 70 0))), (2, vi (nI i)), (1, vr (some nS)), (0, vr (some (nm 40 0)))]) dL_value_412 (by decide) rfl ?_
  refine wp_iload (i := 13) dL_value_414 rfl ?_
  refine wp_iload (i := 12) dL_value_416 rfl ?_
  refine wp_icmp_geN 425 dL_value_418 (by decide) (by omega) (by omega) (fun c_418 => absurd c_418 (by omega)) (fun c_418 => ?_)
  refine wp_iconst (nI 1) dL_value_421 (by decide) ?_
  refine wp_goto 426 dL_value_422 (by decide) ?_
  refine wp_istore (i := 15) (lv' := [(15, vi (nI 1)), (14, vi (nI (sNv V))), (13, vi (nI pl)), (12, vi (nI (sSz V k))), (11, vr (some (nm 71 K))), (10, vi (nI (sNv V))), (8, vl (nI (sMd V)).toInt64), (7, vi e), (6, vi (nI w)), (5, vi (nI k)), (4, vr (some (nm 70 1))), (3, vr (some (nm 70 0))), (2, vi (nI i)), (1, vr (some nS)), (0, vr (some (nm 40 0)))]) dL_value_426 (by decide) rfl ?_
  refine wp_aload (i := 11) dL_value_428 rfl ?_
  refine wp_iconst (nI 2) dL_value_430 (by decide) ?_
  refine wp_iload (i := 15) dL_value_431 rfl ?_
  refine wp_if_eqN 441 dL_value_433 (by decide) (by decide) (fun c_433 => absurd c_433 (by decide)) (fun c_433 => ?_)
  refine wp_iload (i := 13) dL_value_436 rfl ?_
  refine wp_goto 443 dL_value_438 (by decide) ?_
  refine wp_iaddN dL_value_443 ?_
  refine wp_iload (i := 7) dL_value_444 rfl ?_
  refine wp_iastoreN 70 dL_value_446 W1.1 W1.2.1 (by omega) (by decide) ?_
  have W2w := RWn.w (n := 70) (k := 2 + pl) (z := e) W1
  have H2w := H1.wr (k := 2 + pl) (z := e) hKn (by omega)
  have C2w := C1.law (fun a ha => ce_w71 (h := _) (k := 2 + pl) (z := e) (show a ≠ nm 71 K by unfold nm; omega))
  refine wp_iload (i := 15) dL_value_447 rfl ?_
  refine wp_if_neN 460 dL_value_449 (by decide) (by decide) (fun c_449 => ?_) (fun c_449 => absurd c_449 (by decide))
  refine wp_iload (i := 14) dL_value_460 rfl ?_
  refine wp_goto 466 dL_value_462 (by decide) ?_
  refine wp_istore (i := 14) (lv' := [(14, vi (nI (sNv V))), (15, vi (nI 1)), (13, vi (nI pl)), (12, vi (nI (sSz V k))), (11, vr (some (nm 71 K))), (10, vi (nI (sNv V))), (8, vl (nI (sMd V)).toInt64), (7, vi e), (6, vi (nI w)), (5, vi (nI k)), (4, vr (some (nm 70 1))), (3, vr (some (nm 70 0))), (2, vi (nI i)), (1, vr (some nS)), (0, vr (some (nm 40 0)))]) dL_value_466 (by decide) rfl ?_
  refine wp_goto 1072 dL_value_468 (by decide) ?_
  refine wp_sub [(15, vi (nI 1)), (14, vi (nI (sNv V))), (11, vr (some (nm 71 K))), (10, vi (nI (sNv V))), (8, vl (nI (sMd V)).toInt64), (5, vi (nI k)), (4, vr (some (nm 70 1))), (3, vr (some (nm 70 0))), (0, vr (some (nm 40 0)))] (sb_cons (.tail _ (.head _)) (sb_cons (.head _) (sb_cons (.tail _ (.tail _ (.tail _ (.tail _ (.head _))))) (sb_cons (.tail _ (.tail _ (.tail _ (.tail _ (.tail _ (.head _)))))) (sb_cons (.tail _ (.tail _ (.tail _ (.tail _ (.tail _ (.tail _ (.head _))))))) (sb_cons (.tail _ (.tail _ (.tail _ (.tail _ (.tail _ (.tail _ (.tail _ (.tail _ (.tail _ (.head _)))))))))) (sb_cons (.tail _ (.tail _ (.tail _ (.tail _ (.tail _ (.tail _ (.tail _ (.tail _ (.tail _ (.tail _ (.head _))))))))))) (sb_cons (.tail _ (.tail _ (.tail _ (.tail _ (.tail _ (.tail _ (.tail _ (.tail _ (.tail _ (.tail _ (.tail _ (.head _)))))))))))) (sb_cons (.tail _ (.tail _ (.tail _ (.tail _ (.tail _ (.tail _ (.tail _ (.tail _ (.tail _ (.tail _ (.tail _ (.tail _ (.tail _ (.tail _ (.head _))))))))))))))) sb_nil))))))))) ?_
  exact l_val_keep B hc h60 hP hI0 hd hL hk (c' := c + 1) (by omega) B' mo mk9 rp C2w (by omega) H2w hKn W2w (by omega) (by omega) (fun h9 M9 V9 c9 r9 f9 a b e m1 m2 g1 g2 g3 => hq h9 M9 V9 c9 r9 f9 a b e (by omega) (by omega) g1 g2 g3)
set_option maxRecDepth 100000 in
set_option maxHeartbeats 4000000 in
theorem l_val_setN {G : GG} {d c n : Nat} {Q : Pst} {V : SV} {x : Nat → QIS} {R : RS} {k K J : Nat} {ro : Nat → Nat} {rf : Nat → Nat → Int32} {op : Nat → Bool} (B : PU c V n x R) (hc : c + 4 ≤ 512) (h60 : sNv V < 60) (hP : ∀ v, v < sNv V → RowP (vp V v) (rf v)) (hI0 : IN0 V) (hd : 40 ≤ d) (hL : slen G < 2 ^ 31) {h : Hp} {M bc bs : Nat} (hk : k < sNv V) (ht : sTy V k = 118) (C : CLS h V M n x R) (hM : M + 30 < 900000) (H : LWH h (sNv V) n (RS_rn R) ro rf (K + 1) J op) (hKn : ∀ v, v < sNv V → ro v ≠ K) (W : RWl h (nm 71 K) (rf k)) {e : Int32} (he : smE e) {pl : Nat} (hpl : pl < 20) {w i : Nat} (hw : w < 16) (hi : i + 100 < 2 ^ 31) (hbc : 120 ≤ bc) (hbs : 3000 ≤ bs) (hq : ∀ h' M' V' c' ro' rf', c' ≤ c + 4 → PU c' V' n x R → CLS h' V' M' n x R → M ≤ M' → M' ≤ M + 16 → LWH h' (sNv V') n (RS_rn R) ro' rf' (K + 1) J op → (∀ v, v < sNv V' → RowP (vp V' v) (rf' v)) → IN0 V' → Q (oRet (vi (nI 1))) h') (hw7 : 7 ≤ w) (hw9 : w < 9) (hs : sSz V k ≤ pl) : WP G m_L_value d 290 [(13, vi (nI pl)), (12, vi (nI (sSz V k))), (11, vr (some (nm 71 K))), (10, vi (nI (sNv V))), (8, vl (nI (sMd V)).toInt64), (7, vi e), (6, vi (nI w)), (5, vi (nI k)), (4, vr (some (nm 70 1))), (3, vr (some (nm 70 0))), (2, vi (nI i)), (1, vr (some nS)), (0, vr (some (nm 40 0)))] [] h bc bs Q := by
  have hn60 := B.1.1
  have hk1 : k < 2 ^ 31 := by omega
  have hz : sSz V k ≤ 64 := (B.1.2.1 k hk).2.1
  have hPk := hP k hk
  have f0 : rf k 0 = nI 118 := hPk.1.trans (congrArg nI ht)
  have f1 : rf k 1 = nI (sSz V k) := hPk.2.1
  have hmd := B.2.2.1
  have hm25 : sMd V + 25 ≤ 1000000 := by omega
  refine wp_aload (i := 11) dL_value_290 rfl ?_
  refine wp_iconst (nI 0) dL_value_292 (by decide) ?_
  refine wp_ialoadN 70 (nI 118) dL_value_293 W.1 W.2.1 (by decide) (by decide) ((W.2.2 0 (by decide)).trans (f0)) ?_
  refine wp_bipush (nI 118) dL_value_294 (by decide) ?_
  refine wp_icmp_neN 535 dL_value_296 (by decide) (by decide) (by decide) (fun c_296 => absurd c_296 (by decide)) (fun c_296 => ?_)
  refine wp_iload (i := 6) dL_value_299 rfl ?_
  refine wp_bipush (nI 10) dL_value_301 (by decide) ?_
  refine wp_icmp_geN 535 dL_value_303 (by decide) (by omega) (by decide) (fun c_303 => absurd c_303 (by omega)) (fun c_303 => ?_)
  refine wp_iload (i := 6) dL_value_306 rfl ?_
  refine wp_bipush (nI 7) dL_value_308 (by decide) ?_
  refine wp_icmp_geN 394 dL_value_310 (by decide) (by omega) (by decide) (fun c_310 => ?_) (fun c_310 => absurd c_310 (by omega))
  refine wp_iload (i := 6) dL_value_394 rfl ?_
  refine wp_bipush (nI 9) dL_value_396 (by decide) ?_
  refine wp_icmp_geN 471 dL_value_398 (by decide) (by omega) (by decide) (fun c_398 => absurd c_398 (by omega)) (fun c_398 => ?_)
  refine wp_aload_n (i := 0) dL_value_401 rfl rfl ?_
  refine wp_iconst (nI 2) dL_value_402 (by decide) ?_
  refine wp_iload (i := 5) dL_value_403 rfl ?_
  refine wp_iload (i := 13) dL_value_405 rfl ?_
  refine wp_iload (i := 7) dL_value_407 rfl ?_
  refine wp_cSH (y' := m_L_deed) [vr (some (nm 40 0)), vi (nI 2), vi (nI k), vi (nI pl), vi e] [] 20 400 dL_value_409 ml_L_191 st_L_deed okH_L_deed rfl (Nat.le_of_ble_eq_true rfl) rfl (Nat.le_of_ble_eq_true rfl) (d' := d - 1) (by omega) (by omega) (by omega) (e_set (k := k) hk1 (j := pl) (by omega) B (by omega) C (by omega) (by omega) (by omega) (fun h1 M1 ma1 mb1 C1 F1 => cont_ret ?_))
  rw [pv_setN hk (by omega) ht hs (by omega) he] at C1
  rw [show dA [-20001, -20002, -20004, -20005, -20003] (o_set V (nI k) k (nI pl) pl e) = -20005 from by rw [pv_setN hk (by omega) ht hs (by omega) he]; rfl]
  have H1 := H.fk F1
  have W1 := RWl.fk W F1 (by unfold nm; omega)
  refine wp_istore (i := 14) (lv' := [(14, vi (-20005)), (13, vi (nI pl)), (12, vi (nI (sSz V k))), (11, vr (some (nm 71 K))), (10, vi (nI (sNv V))), (8, vl (nI (sMd V)).toInt64), (7, vi e), (6, vi (nI w)), (5, vi (nI k)), (4, vr (some (nm 70 1))), (3, vr (some (nm 70 0))), (2, vi (nI i)), (1, vr (some nS)), (0, vr (some (nm 40 0)))]) dL_value_412 (by decide) rfl ?_
  refine wp_iload (i := 13) dL_value_414 rfl ?_
  refine wp_iload (i := 12) dL_value_416 rfl ?_
  refine wp_icmp_geN 425 dL_value_418 (by decide) (by omega) (by omega) (fun c_418 => ?_) (fun c_418 => absurd c_418 (by omega))
  refine wp_iconst (nI 0) dL_value_425 (by decide) ?_
  refine wp_istore (i := 15) (lv' := [(15, vi (nI 0)), (14, vi (-20005)), (13, vi (nI pl)), (12, vi (nI (sSz V k))), (11, vr (some (nm 71 K))), (10, vi (nI (sNv V))), (8, vl (nI (sMd V)).toInt64), (7, vi e), (6, vi (nI w)), (5, vi (nI k)), (4, vr (some (nm 70 1))), (3, vr (some (nm 70 0))), (2, vi (nI i)), (1, vr (some nS)), (0, vr (some (nm 40 0)))]) dL_value_426 (by decide) rfl ?_
  refine wp_aload (i := 11) dL_value_428 rfl ?_
  refine wp_iconst (nI 2) dL_value_430 (by decide) ?_
  refine wp_iload (i := 15) dL_value_431 rfl ?_
  refine wp_if_eqN 441 dL_value_433 (by decide) (by decide) (fun c_433 => ?_) (fun c_433 => absurd c_433 (by decide))
  refine wp_bipush (nI 65) dL_value_441 (by decide) ?_
  refine wp_iaddN dL_value_443 ?_
  refine wp_iload (i := 7) dL_value_444 rfl ?_
  refine wp_iastoreN 70 dL_value_446 W1.1 W1.2.1 (by omega) (by decide) ?_
  have W2w := RWn.w (n := 70) (k := 2 + 65) (z := e) W1
  have H2w := H1.wr (k := 2 + 65) (z := e) hKn (by omega)
  have C2w := C1.law (fun a ha => ce_w71 (h := _) (k := 2 + 65) (z := e) (show a ≠ nm 71 K by unfold nm; omega))
  refine wp_iload (i := 15) dL_value_447 rfl ?_
  refine wp_if_neN 460 dL_value_449 (by decide) (by decide) (fun c_449 => absurd c_449 (by decide)) (fun c_449 => ?_)
  refine wp_iload (i := 14) dL_value_452 rfl ?_
  refine wp_sipush (-20005) dL_value_454 (by decide) ?_
  refine wp_icmp_eq 465 dL_value_457 (by decide) (fun c_457 => ?_) (fun c_457 => absurd c_457 (fun z => z rfl))
  refine wp_iconst (-1) dL_value_465 (by decide) ?_
  refine wp_istore (i := 14) (lv' := [(14, vi (-1)), (15, vi (nI 0)), (13, vi (nI pl)), (12, vi (nI (sSz V k))), (11, vr (some (nm 71 K))), (10, vi (nI (sNv V))), (8, vl (nI (sMd V)).toInt64), (7, vi e), (6, vi (nI w)), (5, vi (nI k)), (4, vr (some (nm 70 1))), (3, vr (some (nm 70 0))), (2, vi (nI i)), (1, vr (some nS)), (0, vr (some (nm 40 0)))]) dL_value_466 (by decide) rfl ?_
  refine wp_goto 1072 dL_value_468 (by decide) ?_
  refine wp_sub [(15, vi (nI 0)), (14, vi (-1)), (11, vr (some (nm 71 K))), (10, vi (nI (sNv V))), (8, vl (nI (sMd V)).toInt64), (5, vi (nI k)), (4, vr (some (nm 70 1))), (3, vr (some (nm 70 0))), (0, vr (some (nm 40 0)))] (sb_cons (.tail _ (.head _)) (sb_cons (.head _) (sb_cons (.tail _ (.tail _ (.tail _ (.tail _ (.head _))))) (sb_cons (.tail _ (.tail _ (.tail _ (.tail _ (.tail _ (.head _)))))) (sb_cons (.tail _ (.tail _ (.tail _ (.tail _ (.tail _ (.tail _ (.head _))))))) (sb_cons (.tail _ (.tail _ (.tail _ (.tail _ (.tail _ (.tail _ (.tail _ (.tail _ (.tail _ (.head _)))))))))) (sb_cons (.tail _ (.tail _ (.tail _ (.tail _ (.tail _ (.tail _ (.tail _ (.tail _ (.tail _ (.tail _ (.head _))))))))))) (sb_cons (.tail _ (.tail _ (.tail _ (.tail _ (.tail _ (.tail _ (.tail _ (.tail _ (.tail _ (.tail _ (.tail _ (.head _)))))))))))) (sb_cons (.tail _ (.tail _ (.tail _ (.tail _ (.tail _ (.tail _ (.tail _ (.tail _ (.tail _ (.tail _ (.tail _ (.tail _ (.tail _ (.tail _ (.head _))))))))))))))) sb_nil))))))))) ?_
  exact l_val_no B hc h60 hP hI0 hd hL C2w H2w hKn (fun h9 M9 V9 c9 r9 f9 a b e m1 m2 g1 g2 g3 => hq h9 M9 V9 c9 r9 f9 a b e (by omega) (by omega) g1 g2 g3)
set_option maxRecDepth 100000 in
set_option maxHeartbeats 4000000 in
theorem l_val_cut {G : GG} {d c n : Nat} {Q : Pst} {V : SV} {x : Nat → QIS} {R : RS} {k K J : Nat} {ro : Nat → Nat} {rf : Nat → Nat → Int32} {op : Nat → Bool} (B : PU c V n x R) (hc : c + 4 ≤ 512) (h60 : sNv V < 60) (hP : ∀ v, v < sNv V → RowP (vp V v) (rf v)) (hI0 : IN0 V) (hd : 40 ≤ d) (hL : slen G < 2 ^ 31) {h : Hp} {M bc bs : Nat} (hk : k < sNv V) (ht : sTy V k = 118) (C : CLS h V M n x R) (hM : M + 30 < 900000) (H : LWH h (sNv V) n (RS_rn R) ro rf (K + 1) J op) (hKn : ∀ v, v < sNv V → ro v ≠ K) (W : RWl h (nm 71 K) (rf k)) {e : Int32} (he : smE e) {pl : Nat} (hpl : pl < 20) {w i : Nat} (hw : w < 16) (hi : i + 100 < 2 ^ 31) (hbc : 120 ≤ bc) (hbs : 3000 ≤ bs) (hq : ∀ h' M' V' c' ro' rf', c' ≤ c + 4 → PU c' V' n x R → CLS h' V' M' n x R → M ≤ M' → M' ≤ M + 16 → LWH h' (sNv V') n (RS_rn R) ro' rf' (K + 1) J op → (∀ v, v < sNv V' → RowP (vp V' v) (rf' v)) → IN0 V' → Q (oRet (vi (nI 1))) h') (hw9 : w = 9) (hs : 0 < sSz V k) : WP G m_L_value d 290 [(13, vi (nI pl)), (12, vi (nI (sSz V k))), (11, vr (some (nm 71 K))), (10, vi (nI (sNv V))), (8, vl (nI (sMd V)).toInt64), (7, vi e), (6, vi (nI w)), (5, vi (nI k)), (4, vr (some (nm 70 1))), (3, vr (some (nm 70 0))), (2, vi (nI i)), (1, vr (some nS)), (0, vr (some (nm 40 0)))] [] h bc bs Q := by
  have hn60 := B.1.1
  have hk1 : k < 2 ^ 31 := by omega
  have hz : sSz V k ≤ 64 := (B.1.2.1 k hk).2.1
  have hPk := hP k hk
  have f0 : rf k 0 = nI 118 := hPk.1.trans (congrArg nI ht)
  have f1 : rf k 1 = nI (sSz V k) := hPk.2.1
  have hmd := B.2.2.1
  have hm25 : sMd V + 25 ≤ 1000000 := by omega
  refine wp_aload (i := 11) dL_value_290 rfl ?_
  refine wp_iconst (nI 0) dL_value_292 (by decide) ?_
  refine wp_ialoadN 70 (nI 118) dL_value_293 W.1 W.2.1 (by decide) (by decide) ((W.2.2 0 (by decide)).trans (f0)) ?_
  refine wp_bipush (nI 118) dL_value_294 (by decide) ?_
  refine wp_icmp_neN 535 dL_value_296 (by decide) (by decide) (by decide) (fun c_296 => absurd c_296 (by decide)) (fun c_296 => ?_)
  refine wp_iload (i := 6) dL_value_299 rfl ?_
  refine wp_bipush (nI 10) dL_value_301 (by decide) ?_
  refine wp_icmp_geN 535 dL_value_303 (by decide) (by omega) (by decide) (fun c_303 => absurd c_303 (by omega)) (fun c_303 => ?_)
  refine wp_iload (i := 6) dL_value_306 rfl ?_
  refine wp_bipush (nI 7) dL_value_308 (by decide) ?_
  refine wp_icmp_geN 394 dL_value_310 (by decide) (by omega) (by decide) (fun c_310 => ?_) (fun c_310 => absurd c_310 (by omega))
  refine wp_iload (i := 6) dL_value_394 rfl ?_
  refine wp_bipush (nI 9) dL_value_396 (by decide) ?_
  refine wp_icmp_geN 471 dL_value_398 (by decide) (by omega) (by decide) (fun c_398 => ?_) (fun c_398 => absurd c_398 (by omega))
  refine wp_aload_n (i := 0) dL_value_471 rfl rfl ?_
  refine wp_iconst (nI 3) dL_value_472 (by decide) ?_
  refine wp_iload (i := 5) dL_value_473 rfl ?_
  refine wp_iconst (nI 0) dL_value_475 (by decide) ?_
  refine wp_iconst (nI 0) dL_value_476 (by decide) ?_
  refine wp_cSH (y' := m_L_deed) [vr (some (nm 40 0)), vi (nI 3), vi (nI k), vi (nI 0), vi (nI 0)] [] 20 400 dL_value_477 ml_L_191 st_L_deed okH_L_deed rfl (Nat.le_of_ble_eq_true rfl) rfl (Nat.le_of_ble_eq_true rfl) (d' := d - 1) (by omega) (by omega) (by omega) (e_cut (k := k) hk1 B (by omega) C (by omega) (by omega) (by omega) (fun h1 M1 ma1 mb1 C1 F1 => cont_ret ?_))
  obtain ⟨V', eo, mo, mk9, rp⟩ := pv_cut (pl := sSz V k - 1) B.1 hk ht (by omega) h60 hPk
  have k9 : VK V (o_cut V (nI k) k).2.2 := k_cut B.1 (ixk hk1 (by omega))
  have b9 : WB (o_cut V (nI k) k).2.2 := b_cut B.2.1 hm25
  rw [eo] at k9 b9
  have B' : PU (c + 1) V' n x R := B.v k9 b9 (by omega)
  rw [eo] at C1
  rw [show dA [-20001, -20004, -20005, -20003] (o_cut V (nI k) k) = nI (sNv V) from by rw [eo]; rfl]
  have H1 := H.fk F1
  have W1 := RWl.fk W F1 (by unfold nm; omega)
  refine wp_istore (i := 14) (lv' := [(14, vi (nI (sNv V))), (13, vi (nI pl)), (12, vi (nI (sSz V k))), (11, vr (some (nm 71 K))), (10, vi (nI (sNv V))), (8, vl (nI (sMd V)).toInt64), (7, vi e), (6, vi (nI w)), (5, vi (nI k)), (4, vr (some (nm 70 1))), (3, vr (some (nm 70 0))), (2, vi (nI i)), (1, vr (some nS)), (0, vr (some (nm 40 0)))]) dL_value_480 (by decide) rfl ?_
  refine wp_iload (i := 12) dL_value_482 rfl ?_
  refine wp_if_leN 491 dL_value_484 (by decide) (by omega) (fun c_484 => absurd c_484 (by omega)) (fun c_484 => ?_)
  refine wp_iconst (nI 1) dL_value_487 (by decide) ?_
  refine wp_goto 492 dL_value_488 (by decide) ?_
  refine wp_istore (i := 15) (lv' := [(15, vi (nI 1)), (14, vi (nI (sNv V))), (13, vi (nI pl)), (12, vi (nI (sSz V k))), (11, vr (some (nm 71 K))), (10, vi (nI (sNv V))), (8, vl (nI (sMd V)).toInt64), (7, vi e), (6, vi (nI w)), (5, vi (nI k)), (4, vr (some (nm 70 1))), (3, vr (some (nm 70 0))), (2, vi (nI i)), (1, vr (some nS)), (0, vr (some (nm 40 0)))]) dL_value_492 (by decide) rfl ?_
  refine wp_aload (i := 11) dL_value_494 rfl ?_
  refine wp_iconst (nI 1) dL_value_496 (by decide) ?_
  refine wp_dup2 dL_value_497 ?_
  refine wp_ialoadN 70 (nI (sSz V k)) dL_value_498 W1.1 W1.2.1 (by decide) (by decide) ((W1.2.2 1 (by decide)).trans (f1)) ?_
  refine wp_iload (i := 15) dL_value_499 rfl ?_
  refine wp_if_eqN 508 dL_value_501 (by decide) (by decide) (fun c_501 => absurd c_501 (by decide)) (fun c_501 => ?_)
  refine wp_iconst (nI 1) dL_value_504 (by decide) ?_
  refine wp_goto 509 dL_value_505 (by decide) ?_
  refine wp_isubN dL_value_509 (by omega) ?_
  refine wp_iastoreN 70 dL_value_510 W1.1 W1.2.1 (by decide) (by decide) ?_
  have W2w := RWn.w (n := 70) (k := 1) (z := (nI ((sSz V k) - 1))) W1
  have H2w := H1.wr (k := 1) (z := (nI ((sSz V k) - 1))) hKn (by omega)
  have C2w := C1.law (fun a ha => ce_w71 (h := _) (k := 1) (z := (nI ((sSz V k) - 1))) (show a ≠ nm 71 K by unfold nm; omega))
  refine wp_iload (i := 15) dL_value_511 rfl ?_
  refine wp_if_neN 524 dL_value_513 (by decide) (by decide) (fun c_513 => ?_) (fun c_513 => absurd c_513 (by decide))
  refine wp_iload (i := 14) dL_value_524 rfl ?_
  refine wp_goto 530 dL_value_526 (by decide) ?_
  refine wp_istore (i := 14) (lv' := [(14, vi (nI (sNv V))), (15, vi (nI 1)), (13, vi (nI pl)), (12, vi (nI (sSz V k))), (11, vr (some (nm 71 K))), (10, vi (nI (sNv V))), (8, vl (nI (sMd V)).toInt64), (7, vi e), (6, vi (nI w)), (5, vi (nI k)), (4, vr (some (nm 70 1))), (3, vr (some (nm 70 0))), (2, vi (nI i)), (1, vr (some nS)), (0, vr (some (nm 40 0)))]) dL_value_530 (by decide) rfl ?_
  refine wp_goto 1072 dL_value_532 (by decide) ?_
  refine wp_sub [(15, vi (nI 1)), (14, vi (nI (sNv V))), (11, vr (some (nm 71 K))), (10, vi (nI (sNv V))), (8, vl (nI (sMd V)).toInt64), (5, vi (nI k)), (4, vr (some (nm 70 1))), (3, vr (some (nm 70 0))), (0, vr (some (nm 40 0)))] (sb_cons (.tail _ (.head _)) (sb_cons (.head _) (sb_cons (.tail _ (.tail _ (.tail _ (.tail _ (.head _))))) (sb_cons (.tail _ (.tail _ (.tail _ (.tail _ (.tail _ (.head _)))))) (sb_cons (.tail _ (.tail _ (.tail _ (.tail _ (.tail _ (.tail _ (.head _))))))) (sb_cons (.tail _ (.tail _ (.tail _ (.tail _ (.tail _ (.tail _ (.tail _ (.tail _ (.tail _ (.head _)))))))))) (sb_cons (.tail _ (.tail _ (.tail _ (.tail _ (.tail _ (.tail _ (.tail _ (.tail _ (.tail _ (.tail _ (.head _))))))))))) (sb_cons (.tail _ (.tail _ (.tail _ (.tail _ (.tail _ (.tail _ (.tail _ (.tail _ (.tail _ (.tail _ (.tail _ (.head _)))))))))))) (sb_cons (.tail _ (.tail _ (.tail _ (.tail _ (.tail _ (.tail _ (.tail _ (.tail _ (.tail _ (.tail _ (.tail _ (.tail _ (.tail _ (.tail _ (.head _))))))))))))))) sb_nil))))))))) ?_
  exact l_val_keep B hc h60 hP hI0 hd hL hk (c' := c + 1) (by omega) B' mo mk9 rp C2w (by omega) H2w hKn W2w (by omega) (by omega) (fun h9 M9 V9 c9 r9 f9 a b e m1 m2 g1 g2 g3 => hq h9 M9 V9 c9 r9 f9 a b e (by omega) (by omega) g1 g2 g3)
set_option maxRecDepth 100000 in
set_option maxHeartbeats 4000000 in
theorem l_val_cutN {G : GG} {d c n : Nat} {Q : Pst} {V : SV} {x : Nat → QIS} {R : RS} {k K J : Nat} {ro : Nat → Nat} {rf : Nat → Nat → Int32} {op : Nat → Bool} (B : PU c V n x R) (hc : c + 4 ≤ 512) (h60 : sNv V < 60) (hP : ∀ v, v < sNv V → RowP (vp V v) (rf v)) (hI0 : IN0 V) (hd : 40 ≤ d) (hL : slen G < 2 ^ 31) {h : Hp} {M bc bs : Nat} (hk : k < sNv V) (ht : sTy V k = 118) (C : CLS h V M n x R) (hM : M + 30 < 900000) (H : LWH h (sNv V) n (RS_rn R) ro rf (K + 1) J op) (hKn : ∀ v, v < sNv V → ro v ≠ K) (W : RWl h (nm 71 K) (rf k)) {e : Int32} (he : smE e) {pl : Nat} (hpl : pl < 20) {w i : Nat} (hw : w < 16) (hi : i + 100 < 2 ^ 31) (hbc : 120 ≤ bc) (hbs : 3000 ≤ bs) (hq : ∀ h' M' V' c' ro' rf', c' ≤ c + 4 → PU c' V' n x R → CLS h' V' M' n x R → M ≤ M' → M' ≤ M + 16 → LWH h' (sNv V') n (RS_rn R) ro' rf' (K + 1) J op → (∀ v, v < sNv V' → RowP (vp V' v) (rf' v)) → IN0 V' → Q (oRet (vi (nI 1))) h') (hw9 : w = 9) (hs : sSz V k = 0) : WP G m_L_value d 290 [(13, vi (nI pl)), (12, vi (nI (sSz V k))), (11, vr (some (nm 71 K))), (10, vi (nI (sNv V))), (8, vl (nI (sMd V)).toInt64), (7, vi e), (6, vi (nI w)), (5, vi (nI k)), (4, vr (some (nm 70 1))), (3, vr (some (nm 70 0))), (2, vi (nI i)), (1, vr (some nS)), (0, vr (some (nm 40 0)))] [] h bc bs Q := by
  have hn60 := B.1.1
  have hk1 : k < 2 ^ 31 := by omega
  have hz : sSz V k ≤ 64 := (B.1.2.1 k hk).2.1
  have hPk := hP k hk
  have f0 : rf k 0 = nI 118 := hPk.1.trans (congrArg nI ht)
  have f1 : rf k 1 = nI (sSz V k) := hPk.2.1
  have hmd := B.2.2.1
  have hm25 : sMd V + 25 ≤ 1000000 := by omega
  refine wp_aload (i := 11) dL_value_290 rfl ?_
  refine wp_iconst (nI 0) dL_value_292 (by decide) ?_
  refine wp_ialoadN 70 (nI 118) dL_value_293 W.1 W.2.1 (by decide) (by decide) ((W.2.2 0 (by decide)).trans (f0)) ?_
  refine wp_bipush (nI 118) dL_value_294 (by decide) ?_
  refine wp_icmp_neN 535 dL_value_296 (by decide) (by decide) (by decide) (fun c_296 => absurd c_296 (by decide)) (fun c_296 => ?_)
  refine wp_iload (i := 6) dL_value_299 rfl ?_
  refine wp_bipush (nI 10) dL_value_301 (by decide) ?_
  refine wp_icmp_geN 535 dL_value_303 (by decide) (by omega) (by decide) (fun c_303 => absurd c_303 (by omega)) (fun c_303 => ?_)
  refine wp_iload (i := 6) dL_value_306 rfl ?_
  refine wp_bipush (nI 7) dL_value_308 (by decide) ?_
  refine wp_icmp_geN 394 dL_value_310 (by decide) (by omega) (by decide) (fun c_310 => ?_) (fun c_310 => absurd c_310 (by omega))
  refine wp_iload (i := 6) dL_value_394 rfl ?_
  refine wp_bipush (nI 9) dL_value_396 (by decide) ?_
  refine wp_icmp_geN 471 dL_value_398 (by decide) (by omega) (by decide) (fun c_398 => ?_) (fun c_398 => absurd c_398 (by omega))
  refine wp_aload_n (i := 0) dL_value_471 rfl rfl ?_
  refine wp_iconst (nI 3) dL_value_472 (by decide) ?_
  refine wp_iload (i := 5) dL_value_473 rfl ?_
  refine wp_iconst (nI 0) dL_value_475 (by decide) ?_
  refine wp_iconst (nI 0) dL_value_476 (by decide) ?_
  refine wp_cSH (y' := m_L_deed) [vr (some (nm 40 0)), vi (nI 3), vi (nI k), vi (nI 0), vi (nI 0)] [] 20 400 dL_value_477 ml_L_191 st_L_deed okH_L_deed rfl (Nat.le_of_ble_eq_true rfl) rfl (Nat.le_of_ble_eq_true rfl) (d' := d - 1) (by omega) (by omega) (by omega) (e_cut (k := k) hk1 B (by omega) C (by omega) (by omega) (by omega) (fun h1 M1 ma1 mb1 C1 F1 => cont_ret ?_))
  rw [pv_cutN hk (by omega) ht hs] at C1
  rw [show dA [-20001, -20004, -20005, -20003] (o_cut V (nI k) k) = -20005 from by rw [pv_cutN hk (by omega) ht hs]; rfl]
  have H1 := H.fk F1
  have W1 := RWl.fk W F1 (by unfold nm; omega)
  refine wp_istore (i := 14) (lv' := [(14, vi (-20005)), (13, vi (nI pl)), (12, vi (nI (sSz V k))), (11, vr (some (nm 71 K))), (10, vi (nI (sNv V))), (8, vl (nI (sMd V)).toInt64), (7, vi e), (6, vi (nI w)), (5, vi (nI k)), (4, vr (some (nm 70 1))), (3, vr (some (nm 70 0))), (2, vi (nI i)), (1, vr (some nS)), (0, vr (some (nm 40 0)))]) dL_value_480 (by decide) rfl ?_
  refine wp_iload (i := 12) dL_value_482 rfl ?_
  refine wp_if_leN 491 dL_value_484 (by decide) (by omega) (fun c_484 => ?_) (fun c_484 => absurd c_484 (by omega))
  refine wp_iconst (nI 0) dL_value_491 (by decide) ?_
  refine wp_istore (i := 15) (lv' := [(15, vi (nI 0)), (14, vi (-20005)), (13, vi (nI pl)), (12, vi (nI (sSz V k))), (11, vr (some (nm 71 K))), (10, vi (nI (sNv V))), (8, vl (nI (sMd V)).toInt64), (7, vi e), (6, vi (nI w)), (5, vi (nI k)), (4, vr (some (nm 70 1))), (3, vr (some (nm 70 0))), (2, vi (nI i)), (1, vr (some nS)), (0, vr (some (nm 40 0)))]) dL_value_492 (by decide) rfl ?_
  refine wp_aload (i := 11) dL_value_494 rfl ?_
  refine wp_iconst (nI 1) dL_value_496 (by decide) ?_
  refine wp_dup2 dL_value_497 ?_
  refine wp_ialoadN 70 (nI (sSz V k)) dL_value_498 W1.1 W1.2.1 (by decide) (by decide) ((W1.2.2 1 (by decide)).trans (f1)) ?_
  refine wp_iload (i := 15) dL_value_499 rfl ?_
  refine wp_if_eqN 508 dL_value_501 (by decide) (by decide) (fun c_501 => ?_) (fun c_501 => absurd c_501 (by decide))
  refine wp_iconst (nI 0) dL_value_508 (by decide) ?_
  refine wp_isubN dL_value_509 (by omega) ?_
  refine wp_iastoreN 70 dL_value_510 W1.1 W1.2.1 (by decide) (by decide) ?_
  have W2w := RWn.w (n := 70) (k := 1) (z := (nI ((sSz V k) - 0))) W1
  have H2w := H1.wr (k := 1) (z := (nI ((sSz V k) - 0))) hKn (by omega)
  have C2w := C1.law (fun a ha => ce_w71 (h := _) (k := 1) (z := (nI ((sSz V k) - 0))) (show a ≠ nm 71 K by unfold nm; omega))
  refine wp_iload (i := 15) dL_value_511 rfl ?_
  refine wp_if_neN 524 dL_value_513 (by decide) (by decide) (fun c_513 => absurd c_513 (by decide)) (fun c_513 => ?_)
  refine wp_iload (i := 14) dL_value_516 rfl ?_
  refine wp_sipush (-20005) dL_value_518 (by decide) ?_
  refine wp_icmp_eq 529 dL_value_521 (by decide) (fun c_521 => ?_) (fun c_521 => absurd c_521 (fun z => z rfl))
  refine wp_iconst (-1) dL_value_529 (by decide) ?_
  refine wp_istore (i := 14) (lv' := [(14, vi (-1)), (15, vi (nI 0)), (13, vi (nI pl)), (12, vi (nI (sSz V k))), (11, vr (some (nm 71 K))), (10, vi (nI (sNv V))), (8, vl (nI (sMd V)).toInt64), (7, vi e), (6, vi (nI w)), (5, vi (nI k)), (4, vr (some (nm 70 1))), (3, vr (some (nm 70 0))), (2, vi (nI i)), (1, vr (some nS)), (0, vr (some (nm 40 0)))]) dL_value_530 (by decide) rfl ?_
  refine wp_goto 1072 dL_value_532 (by decide) ?_
  refine wp_sub [(15, vi (nI 0)), (14, vi (-1)), (11, vr (some (nm 71 K))), (10, vi (nI (sNv V))), (8, vl (nI (sMd V)).toInt64), (5, vi (nI k)), (4, vr (some (nm 70 1))), (3, vr (some (nm 70 0))), (0, vr (some (nm 40 0)))] (sb_cons (.tail _ (.head _)) (sb_cons (.head _) (sb_cons (.tail _ (.tail _ (.tail _ (.tail _ (.head _))))) (sb_cons (.tail _ (.tail _ (.tail _ (.tail _ (.tail _ (.head _)))))) (sb_cons (.tail _ (.tail _ (.tail _ (.tail _ (.tail _ (.tail _ (.head _))))))) (sb_cons (.tail _ (.tail _ (.tail _ (.tail _ (.tail _ (.tail _ (.tail _ (.tail _ (.tail _ (.head _)))))))))) (sb_cons (.tail _ (.tail _ (.tail _ (.tail _ (.tail _ (.tail _ (.tail _ (.tail _ (.tail _ (.tail _ (.head _))))))))))) (sb_cons (.tail _ (.tail _ (.tail _ (.tail _ (.tail _ (.tail _ (.tail _ (.tail _ (.tail _ (.tail _ (.tail _ (.head _)))))))))))) (sb_cons (.tail _ (.tail _ (.tail _ (.tail _ (.tail _ (.tail _ (.tail _ (.tail _ (.tail _ (.tail _ (.tail _ (.tail _ (.tail _ (.tail _ (.head _))))))))))))))) sb_nil))))))))) ?_
  exact l_val_no B hc h60 hP hI0 hd hL C2w H2w hKn (fun h9 M9 V9 c9 r9 f9 a b e m1 m2 g1 g2 g3 => hq h9 M9 V9 c9 r9 f9 a b e (by omega) (by omega) g1 g2 g3)
set_option maxRecDepth 100000 in
set_option maxHeartbeats 4000000 in
theorem l_val_open {G : GG} {d c n : Nat} {Q : Pst} {V : SV} {x : Nat → QIS} {R : RS} {k K J : Nat} {ro : Nat → Nat} {rf : Nat → Nat → Int32} {op : Nat → Bool} (B : PU c V n x R) (hc : c + 4 ≤ 512) (h60 : sNv V < 60) (hP : ∀ v, v < sNv V → RowP (vp V v) (rf v)) (hI0 : IN0 V) (hd : 40 ≤ d) (hL : slen G < 2 ^ 31) {h : Hp} {M bc bs : Nat} (hk : k < sNv V) (ht : sTy V k = 118) (C : CLS h V M n x R) (hM : M + 30 < 900000) (H : LWH h (sNv V) n (RS_rn R) ro rf (K + 1) J op) (hKn : ∀ v, v < sNv V → ro v ≠ K) (W : RWl h (nm 71 K) (rf k)) {e : Int32} (he : smE e) {pl : Nat} (hpl : pl < 20) {w i : Nat} (hw : w < 16) (hi : i + 100 < 2 ^ 31) (hbc : 120 ≤ bc) (hbs : 3000 ≤ bs) (hq : ∀ h' M' V' c' ro' rf', c' ≤ c + 4 → PU c' V' n x R → CLS h' V' M' n x R → M ≤ M' → M' ≤ M + 16 → LWH h' (sNv V') n (RS_rn R) ro' rf' (K + 1) J op → (∀ v, v < sNv V' → RowP (vp V' v) (rf' v)) → IN0 V' → Q (oRet (vi (nI 1))) h') (hw10 : 10 ≤ w) : WP G m_L_value d 290 [(13, vi (nI pl)), (12, vi (nI (sSz V k))), (11, vr (some (nm 71 K))), (10, vi (nI (sNv V))), (8, vl (nI (sMd V)).toInt64), (7, vi e), (6, vi (nI w)), (5, vi (nI k)), (4, vr (some (nm 70 1))), (3, vr (some (nm 70 0))), (2, vi (nI i)), (1, vr (some nS)), (0, vr (some (nm 40 0)))] [] h bc bs Q := by
  have hn60 := B.1.1
  have hk1 : k < 2 ^ 31 := by omega
  have hz : sSz V k ≤ 64 := (B.1.2.1 k hk).2.1
  have hPk := hP k hk
  have f0 : rf k 0 = nI 118 := hPk.1.trans (congrArg nI ht)
  have f1 : rf k 1 = nI (sSz V k) := hPk.2.1
  have hmd := B.2.2.1
  have hm25 : sMd V + 25 ≤ 1000000 := by omega
  refine wp_aload (i := 11) dL_value_290 rfl ?_
  refine wp_iconst (nI 0) dL_value_292 (by decide) ?_
  refine wp_ialoadN 70 (nI 118) dL_value_293 W.1 W.2.1 (by decide) (by decide) ((W.2.2 0 (by decide)).trans (f0)) ?_
  refine wp_bipush (nI 118) dL_value_294 (by decide) ?_
  refine wp_icmp_neN 535 dL_value_296 (by decide) (by decide) (by decide) (fun c_296 => absurd c_296 (by decide)) (fun c_296 => ?_)
  refine wp_iload (i := 6) dL_value_299 rfl ?_
  refine wp_bipush (nI 10) dL_value_301 (by decide) ?_
  refine wp_icmp_geN 535 dL_value_303 (by decide) (by omega) (by decide) (fun c_303 => ?_) (fun c_303 => absurd c_303 (by omega))
  refine wp_aload (i := 11) dL_value_535 rfl ?_
  refine wp_iconst (nI 0) dL_value_537 (by decide) ?_
  refine wp_ialoadN 70 (nI 118) dL_value_538 W.1 W.2.1 (by decide) (by decide) ((W.2.2 0 (by decide)).trans (f0)) ?_
  refine wp_bipush (nI 118) dL_value_539 (by decide) ?_
  refine wp_icmp_neN 583 dL_value_541 (by decide) (by decide) (by decide) (fun c_541 => absurd c_541 (by decide)) (fun c_541 => ?_)
  refine wp_aload_n (i := 0) dL_value_544 rfl rfl ?_
  refine wp_iconst (nI 4) dL_value_545 (by decide) ?_
  refine wp_iload (i := 5) dL_value_546 rfl ?_
  refine wp_iconst (nI 0) dL_value_548 (by decide) ?_
  refine wp_iconst (nI 0) dL_value_549 (by decide) ?_
  refine wp_cSH (y' := m_L_deed) [vr (some (nm 40 0)), vi (nI 4), vi (nI k), vi (nI 0), vi (nI 0)] [] 20 400 dL_value_550 ml_L_191 st_L_deed okH_L_deed rfl (Nat.le_of_ble_eq_true rfl) rfl (Nat.le_of_ble_eq_true rfl) (d' := d - 1) (by omega) (by omega) (by omega) (e_open (k := k) hk1 B (by omega) C (by omega) (by omega) (by omega) (fun h1 M1 ma1 mb1 C1 F1 => cont_ret ?_))
  obtain ⟨V', eo, mo, mk9, rp, em⟩ := pv_open B.1 hk ht h60 hPk
  have k9 : VK V (o_open V (nI k) k).2.2 := k_open B.1 (ixk hk1 (by omega))
  have b9 : WB (o_open V (nI k) k).2.2 := b_open B.2.1 hm25
  rw [eo] at k9 b9
  have B' : PU (c + 1) V' n x R := B.v k9 b9 (by omega)
  rw [eo] at C1
  rw [show dA [-20001, -20004, -20003] (o_open V (nI k) k) = nI (sNv V) from by rw [eo]; rfl]
  have H1 := H.fk F1
  have W1 := RWl.fk W F1 (by unfold nm; omega)
  refine wp_istore (i := 14) (lv' := [(14, vi (nI (sNv V))), (13, vi (nI pl)), (12, vi (nI (sSz V k))), (11, vr (some (nm 71 K))), (10, vi (nI (sNv V))), (8, vl (nI (sMd V)).toInt64), (7, vi e), (6, vi (nI w)), (5, vi (nI k)), (4, vr (some (nm 70 1))), (3, vr (some (nm 70 0))), (2, vi (nI i)), (1, vr (some nS)), (0, vr (some (nm 40 0)))]) dL_value_553 (by decide) rfl ?_
  refine wp_iconst (nI 1) dL_value_555 (by decide) ?_
  refine wp_istore (i := 15) (lv' := [(15, vi (nI 1)), (14, vi (nI (sNv V))), (13, vi (nI pl)), (12, vi (nI (sSz V k))), (11, vr (some (nm 71 K))), (10, vi (nI (sNv V))), (8, vl (nI (sMd V)).toInt64), (7, vi e), (6, vi (nI w)), (5, vi (nI k)), (4, vr (some (nm 70 1))), (3, vr (some (nm 70 0))), (2, vi (nI i)), (1, vr (some nS)), (0, vr (some (nm 40 0)))]) dL_value_556 (by decide) rfl ?_
  refine wp_aload (i := 11) dL_value_558 rfl ?_
  refine wp_iconst (nI 0) dL_value_560 (by decide) ?_
  refine wp_bipush (nI 111) dL_value_561 (by decide) ?_
  refine wp_iastoreN 70 dL_value_563 W1.1 W1.2.1 (by decide) (by decide) ?_
  have W2w := RWn.w (n := 70) (k := 0) (z := (nI 111)) W1
  have H2w := H1.wr (k := 0) (z := (nI 111)) hKn (by omega)
  have C2w := C1.law (fun a ha => ce_w71 (h := _) (k := 0) (z := (nI 111)) (show a ≠ nm 71 K by unfold nm; omega))
  refine wp_iload (i := 14) dL_value_564 rfl ?_
  refine wp_iload (i := 10) dL_value_566 rfl ?_
  refine wp_icmp_neN 1072 dL_value_568 (by decide) (by omega) (by omega) (fun c_568 => absurd c_568 (by omega)) (fun c_568 => ?_)
  refine wp_aload_n (i := 0) dL_value_571 rfl rfl ?_
  refine wp_cV (y' := m_X11_made) 12 [] [] 0 0 dL_value_572 ml_L_187 im_X11_made se_X11_made (by decide) C2w.hk ok_X11_made rfl (Nat.le_of_ble_eq_true rfl) rfl (Nat.le_of_ble_eq_true rfl) (d' := d - 1) (by omega) (Nat.zero_le _) (Nat.zero_le _) (c_X11_made C2w.2.2 (cont_ret ?_))
  refine wp_lload (i := 8) dL_value_575 rfl ?_
  rw [em]
  refine wp_lcmp dL_value_577 ?_
  rw [lg_same]
  refine wp_if_eq 1072 dL_value_578 (by decide) (fun c_578 => ?_) (fun c_578 => absurd c_578 (fun z => z rfl))
  refine wp_sub [(15, vi (nI 1)), (14, vi (nI (sNv V))), (11, vr (some (nm 71 K))), (10, vi (nI (sNv V))), (8, vl (nI (sMd V)).toInt64), (5, vi (nI k)), (4, vr (some (nm 70 1))), (3, vr (some (nm 70 0))), (0, vr (some (nm 40 0)))] (sb_cons (.head _) (sb_cons (.tail _ (.head _)) (sb_cons (.tail _ (.tail _ (.tail _ (.tail _ (.head _))))) (sb_cons (.tail _ (.tail _ (.tail _ (.tail _ (.tail _ (.head _)))))) (sb_cons (.tail _ (.tail _ (.tail _ (.tail _ (.tail _ (.tail _ (.head _))))))) (sb_cons (.tail _ (.tail _ (.tail _ (.tail _ (.tail _ (.tail _ (.tail _ (.tail _ (.tail _ (.head _)))))))))) (sb_cons (.tail _ (.tail _ (.tail _ (.tail _ (.tail _ (.tail _ (.tail _ (.tail _ (.tail _ (.tail _ (.head _))))))))))) (sb_cons (.tail _ (.tail _ (.tail _ (.tail _ (.tail _ (.tail _ (.tail _ (.tail _ (.tail _ (.tail _ (.tail _ (.head _)))))))))))) (sb_cons (.tail _ (.tail _ (.tail _ (.tail _ (.tail _ (.tail _ (.tail _ (.tail _ (.tail _ (.tail _ (.tail _ (.tail _ (.tail _ (.tail _ (.head _))))))))))))))) sb_nil))))))))) ?_
  exact l_val_keep B hc h60 hP hI0 hd hL hk (c' := c + 1) (by omega) B' mo mk9 rp C2w (by omega) H2w hKn W2w (by omega) (by omega) (fun h9 M9 V9 c9 r9 f9 a b e m1 m2 g1 g2 g3 => hq h9 M9 V9 c9 r9 f9 a b e (by omega) (by omega) g1 g2 g3)
