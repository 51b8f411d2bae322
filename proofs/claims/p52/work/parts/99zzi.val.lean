/-! value, from its beginning. -/
theorem LWH.up {h : Hp} {nV n nR K K' J : Nat} {ro : Nat → Nat} {rf : Nat → Nat → Int32} {op : Nat → Bool} (H : LWH h nV n nR ro rf K J op) (hk : K ≤ K') : LWH h nV n nR ro rf K' J op :=
  ⟨H.1, fun v hv => ⟨(H.2.1 v hv).1, Nat.lt_of_lt_of_le (H.2.1 v hv).2.1 hk, (H.2.1 v hv).2.2⟩, H.2.2.1, H.2.2.2.1, H.2.2.2.2.1, fun i hi => H.2.2.2.2.2.1 i (by omega), H.2.2.2.2.2.2⟩
theorem gf_up {g : Nat → Int32} {t : Nat} {z : Int32} {f : Nat → Int32} (o : Nat) (gf : ∀ j, j < t → g (o + j) = f j) (hz : z = f t) : ∀ j, j < t + 1 → va_up g (o + t) z (o + j) = f j := fun j hj => by
  rw [va_up_app]
  by_cases e : j = t
  · rw [e, if_pos rfl]; exact hz
  · rw [if_neg (by omega)]; exact gf j (by omega)
set_option maxRecDepth 100000 in
set_option maxHeartbeats 4000000 in
theorem l_val_fill {G : GG} {d n : Nat} {Q : Pst} {V : SV} {x : Nat → QIS} {R : RS} {k K J i : Nat} {e : Int32} {ro : Nat → Nat} {rf : Nat → Nat → Int32} {op : Nat → Bool} (h60 : sNv V < 60) (hKn : ∀ v, v < sNv V → ro v ≠ K) {M bc bs : Nat} (hK : ∀ h' g', LWH h' (sNv V) n (RS_rn R) ro rf (K + 1) J op → CLS h' V M n x R → RWl h' (nm 71 K) g' → g' 0 = nI 109 → g' 1 = nI 0 → (∀ j, j < 40 → g' (2 + j) = nI 2000) → WP G m_L_value d 190 [(12, vi (nI 40)), (11, vr (some (nm 71 K))), (10, vi (nI (sNv V))), (8, vl (nI (sMd V)).toInt64), (7, vi e), (6, vi (nI 1)), (5, vi (nI k)), (4, vr (some (nm 70 1))), (3, vr (some (nm 70 0))), (2, vi (nI i)), (1, vr (some nS)), (0, vr (some (nm 40 0)))] [] h' bc bs Q) : ∀ m t h g, m + t = 40 → LWH h (sNv V) n (RS_rn R) ro rf (K + 1) J op → CLS h V M n x R → RWl h (nm 71 K) g → g 0 = nI 109 → g 1 = nI 0 → (∀ j, j < t → g (2 + j) = nI 2000) → WP G m_L_value d 161 [(12, vi (nI t)), (11, vr (some (nm 71 K))), (10, vi (nI (sNv V))), (8, vl (nI (sMd V)).toInt64), (7, vi e), (6, vi (nI 1)), (5, vi (nI k)), (4, vr (some (nm 70 1))), (3, vr (some (nm 70 0))), (2, vi (nI i)), (1, vr (some nS)), (0, vr (some (nm 40 0)))] [] h bc bs Q := by
  intro m
  induction m with
  | zero =>
    intro t h g hm H C W g0 g1 gf
    have ht : t = 40 := by omega
    subst ht
    refine wp_iload (i := 12) dL_value_161 rfl ?_
    refine wp_bipush (nI 40) dL_value_163 (by decide) ?_
    refine wp_icmp_geN 190 dL_value_165 (by decide) (by decide) (by decide) (fun c_165 => ?_) (fun c_165 => absurd c_165 (by decide))
    exact hK _ _ H C W g0 g1 gf
  | succ m ih =>
    intro t h g hm H C W g0 g1 gf
    have ht : t < 40 := by omega
    refine wp_iload (i := 12) dL_value_161 rfl ?_
    refine wp_bipush (nI 40) dL_value_163 (by decide) ?_
    refine wp_icmp_geN 190 dL_value_165 (by decide) (by omega) (by decide) (fun c_165 => absurd c_165 (by omega)) (fun c_165 => ?_)
    refine wp_iload (i := 6) dL_value_168 rfl ?_
    refine wp_iconst (nI 1) dL_value_170 (by decide) ?_
    refine wp_icmp_neN 190 dL_value_171 (by decide) (by decide) (by decide) (fun c_171 => absurd c_171 (by decide)) (fun c_171 => ?_)
    refine wp_aload (i := 11) dL_value_174 rfl ?_
    refine wp_iconst (nI 2) dL_value_176 (by decide) ?_
    refine wp_iload (i := 12) dL_value_177 rfl ?_
    refine wp_iaddN dL_value_179 ?_
    refine wp_sipush (nI 2000) dL_value_180 (by decide) ?_
    refine wp_iastoreN 70 dL_value_183 W.1 W.2.1 (by omega) (by decide) ?_
    have W1w := RWn.w (n := 70) (k := 2 + t) (z := (nI 2000)) W
    have H1w := H.wr (k := 2 + t) (z := (nI 2000)) hKn (by omega)
    have C1w := C.law (fun a ha => ce_w71 (h := _) (k := 2 + t) (z := (nI 2000)) (show a ≠ nm 71 K by unfold nm; omega))
    refine wp_iincN (a := t) (lv' := [(12, vi (nI (t + 1))), (11, vr (some (nm 71 K))), (10, vi (nI (sNv V))), (8, vl (nI (sMd V)).toInt64), (7, vi e), (6, vi (nI 1)), (5, vi (nI k)), (4, vr (some (nm 70 1))), (3, vr (some (nm 70 0))), (2, vi (nI i)), (1, vr (some nS)), (0, vr (some (nm 40 0)))]) 1 dL_value_184 rfl (by decide) (by decide) rfl ?_
    refine wp_goto 161 dL_value_187 (by decide) ?_
    exact ih (t + 1) _ _ (by omega) H1w C1w W1w (by rw [el_up, if_neg (by omega)]; exact g0) (by rw [el_up, if_neg (by omega)]; exact g1) (gf_up 2 gf rfl)
set_option maxRecDepth 100000 in
set_option maxHeartbeats 4000000 in
theorem l_val_new0 {G : GG} {d c n : Nat} {Q : Pst} {V : SV} {x : Nat → QIS} {R : RS} {k K J i : Nat} {e : Int32} {ro : Nat → Nat} {rf : Nat → Nat → Int32} {op : Nat → Bool} (h60 : sNv V < 60) (hKn : ∀ v, v < sNv V → ro v ≠ K) (hP : ∀ v, v < sNv V → RowP (vp V v) (rf v)) (hI0 : IN0 V) (B : PU c V n x R) (hc : c + 4 ≤ 512) (hd : 40 ≤ d) {h : Hp} {M bc bs : Nat} {g : Nat → Int32} (hM : M + 30 < 900000) (hbc : 24 ≤ bc) (hbs : 500 ≤ bs) (H : LWH h (sNv V) n (RS_rn R) ro rf (K + 1) J op) (C : CLS h V M n x R) (W : RWl h (nm 71 K) g) (g0 : g 0 = nI 118) (g1 : g 1 = nI 0) (hq : ∀ h' M' V' c' ro' rf', c' ≤ c + 4 → PU c' V' n x R → CLS h' V' M' n x R → M ≤ M' → M' ≤ M + 16 → LWH h' (sNv V') n (RS_rn R) ro' rf' (K + 1) J op → (∀ v, v < sNv V' → RowP (vp V' v) (rf' v)) → IN0 V' → Q (oRet (vi (nI 1))) h') : WP G m_L_value d 190 [(12, vi (nI 0)), (11, vr (some (nm 71 K))), (10, vi (nI (sNv V))), (8, vl (nI (sMd V)).toInt64), (7, vi e), (6, vi (nI 0)), (5, vi (nI k)), (4, vr (some (nm 70 1))), (3, vr (some (nm 70 0))), (2, vi (nI i)), (1, vr (some nS)), (0, vr (some (nm 40 0)))] [] h bc bs Q := by
  have hmd := B.2.2.1
  refine wp_aload_n (i := 3) dL_value_190 rfl rfl ?_
  refine wp_iload (i := 10) dL_value_191 rfl ?_
  refine wp_aload (i := 11) dL_value_193 rfl ?_
  refine wp_aastoreAN 60 dL_value_195 H.1.1 H.1.2 (by omega) (by decide) (W.1) ?_
  have H1p := H.put (r := some (nm 71 K))
  have C1p := C.law (fun a ha => ce_wR (k := sNv V) (r := some (nm 71 K)) (show a ≠ nm 70 0 by unfold nm; omega))
  have W1p := RWn.ce (n := 70) W (ce_wR (k := sNv V) (r := some (nm 71 K)) (show nm 71 K ≠ nm 70 0 by unfold nm; omega))
  refine wp_aload (i := 4) dL_value_196 rfl ?_
  refine wp_iconst (nI 0) dL_value_198 (by decide) ?_
  refine wp_dup2 dL_value_199 ?_
  refine wp_ialoadN 3 (nI (sNv V)) dL_value_200 H1p.2.2.2.1.1 H1p.2.2.2.1.2.1 (by decide) (by decide) (H1p.2.2.2.1.2.2.1) ?_
  refine wp_iconst (nI 1) dL_value_201 (by decide) ?_
  refine wp_iaddN dL_value_202 ?_
  refine wp_iastoreN 3 dL_value_203 H1p.2.2.2.1.1 H1p.2.2.2.1.2.1 (by decide) (by decide) ?_
  have H2w := H1p.inc (i := K) hKn (by omega) put_at W1p
  have C2w := C1p.law (fun a ha => ce_w70 (i := 1) (k := 0) (z := (nI ((sNv V) + 1))) (show a ≠ nm 70 1 by unfold nm; omega))
  have W2w := RWn.ce (n := 70) W1p (ce_w70 (i := 1) (k := 0) (z := (nI ((sNv V) + 1))) (show nm 71 K ≠ nm 70 1 by unfold nm; omega))
  refine wp_aload_n (i := 0) dL_value_204 rfl rfl ?_
  refine wp_iload (i := 6) dL_value_205 rfl ?_
  refine wp_if_neN 214 dL_value_207 (by decide) (by decide) (fun c_207 => absurd c_207 (by decide)) (fun c_207 => ?_)
  refine wp_iconst (nI 0) dL_value_210 (by decide) ?_
  refine wp_goto 216 dL_value_211 (by decide) ?_
  refine wp_iconst (nI 0) dL_value_216 (by decide) ?_
  refine wp_iconst (nI 0) dL_value_217 (by decide) ?_
  refine wp_iconst (nI 0) dL_value_218 (by decide) ?_
  refine wp_cSH (y' := m_L_deed) [vr (some (nm 40 0)), vi (nI 0), vi (nI 0), vi (nI 0), vi (nI 0)] [] 20 400 dL_value_219 ml_L_191 st_L_deed okH_L_deed rfl (Nat.le_of_ble_eq_true rfl) rfl (Nat.le_of_ble_eq_true rfl) (d' := d - 1) (by omega) (by omega) (by omega) (e_vector B (by omega) C2w (by omega) (by omega) (by omega) (fun h3 M3 ma3 mb3 C3 F3 => cont_ret ?_))
  obtain ⟨V', eo, mo, em, rp⟩ := pv_vector (V := V) (f := g) h60 g0 g1
  have k9 : VK V (o_vector V).2.2 := k_vector B.1
  have b9 : WB (o_vector V).2.2 := b_vector B.2.1 (by omega)
  rw [eo] at k9 b9
  have B' : PU (c + 1) V' n x R := B.v k9 b9 (by omega)
  rw [eo] at C3
  rw [show dA [-20003] (o_vector V) = nI (sNv V) from by rw [eo]; rfl]
  have H3 := H2w.fk F3
  have W3 := RWl.fk W2w F3 (by unfold nm; omega)
  refine wp_iload (i := 10) dL_value_222 rfl ?_
  refine wp_icmp_neN 243 dL_value_224 (by decide) (by omega) (by omega) (fun c_224 => absurd c_224 (fun z => z rfl)) (fun c_224 => ?_)
  refine wp_aload_n (i := 0) dL_value_227 rfl rfl ?_
  refine wp_cV (y' := m_X11_made) 12 [] [] 0 0 dL_value_228 ml_L_187 im_X11_made se_X11_made (by decide) C3.hk ok_X11_made rfl (Nat.le_of_ble_eq_true rfl) rfl (Nat.le_of_ble_eq_true rfl) (d' := d - 1) (by omega) (Nat.zero_le _) (Nat.zero_le _) (c_X11_made C3.2.2 (cont_ret ?_))
  refine wp_lload (i := 8) dL_value_231 rfl ?_
  refine wp_lconst (1) dL_value_233 (by decide) ?_
  refine wp_ladd dL_value_234 ?_
  rw [l64_one (by omega), em]
  refine wp_lcmp dL_value_235 ?_
  rw [lg_same]
  refine wp_if_ne 243 dL_value_236 (by decide) (fun c_236 => absurd c_236 (fun z => z rfl)) (fun c_236 => ?_)
  refine wp_iconst (nI 1) dL_value_239 (by decide) ?_
  refine wp_goto 244 dL_value_240 (by decide) ?_
  refine wp_zreturn dL_value_244 rfl (by decide) ?_
  refine hq _ _ V' (c + 1) (va_up ro (sNv V) K) (va_up rf (sNv V) g) (by omega) B' C3 (by omega) (by omega) (by rw [mo.1]; exact H3) (fun v hv => ?_) (IN0.new ⟨by decide, by decide⟩ hI0 mo (g0.symm.trans rp.1))
  rw [va_up_app]
  by_cases e9 : v = sNv V
  · rw [if_pos e9, e9]; exact rp
  · have := mo.1
    rw [if_neg e9, mo.2 v (by omega)]; exact hP v (by omega)
set_option maxRecDepth 100000 in
set_option maxHeartbeats 4000000 in
theorem l_val_new1 {G : GG} {d c n : Nat} {Q : Pst} {V : SV} {x : Nat → QIS} {R : RS} {k K J i : Nat} {e : Int32} {ro : Nat → Nat} {rf : Nat → Nat → Int32} {op : Nat → Bool} (h60 : sNv V < 60) (hKn : ∀ v, v < sNv V → ro v ≠ K) (hP : ∀ v, v < sNv V → RowP (vp V v) (rf v)) (hI0 : IN0 V) (B : PU c V n x R) (hc : c + 4 ≤ 512) (hd : 40 ≤ d) {h : Hp} {M bc bs : Nat} {g : Nat → Int32} (hM : M + 30 < 900000) (hbc : 24 ≤ bc) (hbs : 500 ≤ bs) (H : LWH h (sNv V) n (RS_rn R) ro rf (K + 1) J op) (C : CLS h V M n x R) (W : RWl h (nm 71 K) g) (g0 : g 0 = nI 109) (g1 : g 1 = nI 0) (gf : ∀ j, j < 40 → g (2 + j) = nI 2000) (hq : ∀ h' M' V' c' ro' rf', c' ≤ c + 4 → PU c' V' n x R → CLS h' V' M' n x R → M ≤ M' → M' ≤ M + 16 → LWH h' (sNv V') n (RS_rn R) ro' rf' (K + 1) J op → (∀ v, v < sNv V' → RowP (vp V' v) (rf' v)) → IN0 V' → Q (oRet (vi (nI 1))) h') : WP G m_L_value d 190 [(12, vi (nI 40)), (11, vr (some (nm 71 K))), (10, vi (nI (sNv V))), (8, vl (nI (sMd V)).toInt64), (7, vi e), (6, vi (nI 1)), (5, vi (nI k)), (4, vr (some (nm 70 1))), (3, vr (some (nm 70 0))), (2, vi (nI i)), (1, vr (some nS)), (0, vr (some (nm 40 0)))] [] h bc bs Q := by
  have hmd := B.2.2.1
  refine wp_aload_n (i := 3) dL_value_190 rfl rfl ?_
  refine wp_iload (i := 10) dL_value_191 rfl ?_
  refine wp_aload (i := 11) dL_value_193 rfl ?_
  refine wp_aastoreAN 60 dL_value_195 H.1.1 H.1.2 (by omega) (by decide) (W.1) ?_
  have H1p := H.put (r := some (nm 71 K))
  have C1p := C.law (fun a ha => ce_wR (k := sNv V) (r := some (nm 71 K)) (show a ≠ nm 70 0 by unfold nm; omega))
  have W1p := RWn.ce (n := 70) W (ce_wR (k := sNv V) (r := some (nm 71 K)) (show nm 71 K ≠ nm 70 0 by unfold nm; omega))
  refine wp_aload (i := 4) dL_value_196 rfl ?_
  refine wp_iconst (nI 0) dL_value_198 (by decide) ?_
  refine wp_dup2 dL_value_199 ?_
  refine wp_ialoadN 3 (nI (sNv V)) dL_value_200 H1p.2.2.2.1.1 H1p.2.2.2.1.2.1 (by decide) (by decide) (H1p.2.2.2.1.2.2.1) ?_
  refine wp_iconst (nI 1) dL_value_201 (by decide) ?_
  refine wp_iaddN dL_value_202 ?_
  refine wp_iastoreN 3 dL_value_203 H1p.2.2.2.1.1 H1p.2.2.2.1.2.1 (by decide) (by decide) ?_
  have H2w := H1p.inc (i := K) hKn (by omega) put_at W1p
  have C2w := C1p.law (fun a ha => ce_w70 (i := 1) (k := 0) (z := (nI ((sNv V) + 1))) (show a ≠ nm 70 1 by unfold nm; omega))
  have W2w := RWn.ce (n := 70) W1p (ce_w70 (i := 1) (k := 0) (z := (nI ((sNv V) + 1))) (show nm 71 K ≠ nm 70 1 by unfold nm; omega))
  refine wp_aload_n (i := 0) dL_value_204 rfl rfl ?_
  refine wp_iload (i := 6) dL_value_205 rfl ?_
  refine wp_if_neN 214 dL_value_207 (by decide) (by decide) (fun c_207 => ?_) (fun c_207 => absurd c_207 (by decide))
  refine wp_bipush (nI 8) dL_value_214 (by decide) ?_
  refine wp_iconst (nI 0) dL_value_216 (by decide) ?_
  refine wp_iconst (nI 0) dL_value_217 (by decide) ?_
  refine wp_iconst (nI 0) dL_value_218 (by decide) ?_
  refine wp_cSH (y' := m_L_deed) [vr (some (nm 40 0)), vi (nI 8), vi (nI 0), vi (nI 0), vi (nI 0)] [] 20 400 dL_value_219 ml_L_191 st_L_deed okH_L_deed rfl (Nat.le_of_ble_eq_true rfl) rfl (Nat.le_of_ble_eq_true rfl) (d' := d - 1) (by omega) (by omega) (by omega) (e_map B (by omega) C2w (by omega) (by omega) (by omega) (fun h3 M3 ma3 mb3 C3 F3 => cont_ret ?_))
  obtain ⟨V', eo, mo, em, rp⟩ := pv_map (V := V) (f := g) h60 g0 g1 gf
  have k9 : VK V (o_map V).2.2 := k_map B.1
  have b9 : WB (o_map V).2.2 := b_map B.2.1 (by omega)
  rw [eo] at k9 b9
  have B' : PU (c + 1) V' n x R := B.v k9 b9 (by omega)
  rw [eo] at C3
  rw [show dA [-20003] (o_map V) = nI (sNv V) from by rw [eo]; rfl]
  have H3 := H2w.fk F3
  have W3 := RWl.fk W2w F3 (by unfold nm; omega)
  refine wp_iload (i := 10) dL_value_222 rfl ?_
  refine wp_icmp_neN 243 dL_value_224 (by decide) (by omega) (by omega) (fun c_224 => absurd c_224 (fun z => z rfl)) (fun c_224 => ?_)
  refine wp_aload_n (i := 0) dL_value_227 rfl rfl ?_
  refine wp_cV (y' := m_X11_made) 12 [] [] 0 0 dL_value_228 ml_L_187 im_X11_made se_X11_made (by decide) C3.hk ok_X11_made rfl (Nat.le_of_ble_eq_true rfl) rfl (Nat.le_of_ble_eq_true rfl) (d' := d - 1) (by omega) (Nat.zero_le _) (Nat.zero_le _) (c_X11_made C3.2.2 (cont_ret ?_))
  refine wp_lload (i := 8) dL_value_231 rfl ?_
  refine wp_lconst (1) dL_value_233 (by decide) ?_
  refine wp_ladd dL_value_234 ?_
  rw [l64_one (by omega), em]
  refine wp_lcmp dL_value_235 ?_
  rw [lg_same]
  refine wp_if_ne 243 dL_value_236 (by decide) (fun c_236 => absurd c_236 (fun z => z rfl)) (fun c_236 => ?_)
  refine wp_iconst (nI 1) dL_value_239 (by decide) ?_
  refine wp_goto 244 dL_value_240 (by decide) ?_
  refine wp_zreturn dL_value_244 rfl (by decide) ?_
  refine hq _ _ V' (c + 1) (va_up ro (sNv V) K) (va_up rf (sNv V) g) (by omega) B' C3 (by omega) (by omega) (by rw [mo.1]; exact H3) (fun v hv => ?_) (IN0.new ⟨by decide, by decide⟩ hI0 mo (g0.symm.trans rp.1))
  rw [va_up_app]
  by_cases e9 : v = sNv V
  · rw [if_pos e9, e9]; exact rp
  · have := mo.1
    rw [if_neg e9, mo.2 v (by omega)]; exact hP v (by omega)
set_option maxRecDepth 100000 in
set_option maxHeartbeats 4000000 in
theorem l_val_new {G : GG} {d c n : Nat} {Q : Pst} {V : SV} {x : Nat → QIS} {R : RS} {k K J i : Nat} {e : Int32} {ro : Nat → Nat} {rf : Nat → Nat → Int32} {op : Nat → Bool} (h60 : sNv V < 60) (hKn : ∀ v, v < sNv V → ro v ≠ K) (hP : ∀ v, v < sNv V → RowP (vp V v) (rf v)) (hI0 : IN0 V) (B : PU c V n x R) (hc : c + 4 ≤ 512) (hd : 40 ≤ d) {h : Hp} {M bc bs w : Nat} (hw : w < 2) (hM : M + 30 < 900000) (hbc : 24 ≤ bc) (hbs : 500 ≤ bs) (H : LWH h (sNv V) n (RS_rn R) ro rf (K + 1) J op) (C : CLS h V M n x R) (W : RWl h (nm 71 K) (fun _ => 0)) (hq : ∀ h' M' V' c' ro' rf', c' ≤ c + 4 → PU c' V' n x R → CLS h' V' M' n x R → M ≤ M' → M' ≤ M + 16 → LWH h' (sNv V') n (RS_rn R) ro' rf' (K + 1) J op → (∀ v, v < sNv V' → RowP (vp V' v) (rf' v)) → IN0 V' → Q (oRet (vi (nI 1))) h') : WP G m_L_value d 136 [(11, vr (some (nm 71 K))), (10, vi (nI (sNv V))), (8, vl (nI (sMd V)).toInt64), (7, vi e), (6, vi (nI w)), (5, vi (nI k)), (4, vr (some (nm 70 1))), (3, vr (some (nm 70 0))), (2, vi (nI i)), (1, vr (some nS)), (0, vr (some (nm 40 0)))] [] h bc bs Q := by
  rcases (show w = 0 ∨ w = 1 by omega) with rfl | rfl
  · skip
    refine wp_iload (i := 6) dL_value_136 rfl ?_
    refine wp_iconst (nI 2) dL_value_138 (by decide) ?_
    refine wp_icmp_geN 245 dL_value_139 (by decide) (by decide) (by decide) (fun c_139 => absurd c_139 (by decide)) (fun c_139 => ?_)
    refine wp_aload (i := 11) dL_value_142 rfl ?_
    refine wp_iconst (nI 0) dL_value_144 (by decide) ?_
    refine wp_iload (i := 6) dL_value_145 rfl ?_
    refine wp_if_neN 155 dL_value_147 (by decide) (by decide) (fun c_147 => absurd c_147 (by decide)) (fun c_147 => ?_)
    refine wp_bipush (nI 118) dL_value_150 (by decide) ?_
    refine wp_goto 157 dL_value_152 (by decide) ?_
    refine wp_iastoreN 70 dL_value_157 W.1 W.2.1 (by decide) (by decide) ?_
    have W1w := RWn.w (n := 70) (k := 0) (z := (nI 118)) W
    have H1w := H.wr (k := 0) (z := (nI 118)) hKn (by omega)
    have C1w := C.law (fun a ha => ce_w71 (h := _) (k := 0) (z := (nI 118)) (show a ≠ nm 71 K by unfold nm; omega))
    refine wp_iconst (nI 0) dL_value_158 (by decide) ?_
    refine wp_istore (i := 12) (lv' := [(12, vi (nI 0)), (11, vr (some (nm 71 K))), (10, vi (nI (sNv V))), (8, vl (nI (sMd V)).toInt64), (7, vi e), (6, vi (nI 0)), (5, vi (nI k)), (4, vr (some (nm 70 1))), (3, vr (some (nm 70 0))), (2, vi (nI i)), (1, vr (some nS)), (0, vr (some (nm 40 0)))]) dL_value_159 (by decide) rfl ?_
    refine wp_iload (i := 12) dL_value_161 rfl ?_
    refine wp_bipush (nI 40) dL_value_163 (by decide) ?_
    refine wp_icmp_geN 190 dL_value_165 (by decide) (by decide) (by decide) (fun c_165 => absurd c_165 (by decide)) (fun c_165 => ?_)
    refine wp_iload (i := 6) dL_value_168 rfl ?_
    refine wp_iconst (nI 1) dL_value_170 (by decide) ?_
    refine wp_icmp_neN 190 dL_value_171 (by decide) (by decide) (by decide) (fun c_171 => ?_) (fun c_171 => absurd c_171 (by decide))
    refine wp_sub [(12, vi (nI 0)), (11, vr (some (nm 71 K))), (10, vi (nI (sNv V))), (8, vl (nI (sMd V)).toInt64), (7, vi e), (6, vi (nI 0)), (5, vi (nI k)), (4, vr (some (nm 70 1))), (3, vr (some (nm 70 0))), (2, vi (nI i)), (1, vr (some nS)), (0, vr (some (nm 40 0)))] (sb_cons (.head _) (sb_cons (.tail _ (.head _)) (sb_cons (.tail _ (.tail _ (.head _))) (sb_cons (.tail _ (.tail _ (.tail _ (.head _)))) (sb_cons (.tail _ (.tail _ (.tail _ (.tail _ (.head _))))) (sb_cons (.tail _ (.tail _ (.tail _ (.tail _ (.tail _ (.head _)))))) (sb_cons (.tail _ (.tail _ (.tail _ (.tail _ (.tail _ (.tail _ (.head _))))))) (sb_cons (.tail _ (.tail _ (.tail _ (.tail _ (.tail _ (.tail _ (.tail _ (.head _)))))))) (sb_cons (.tail _ (.tail _ (.tail _ (.tail _ (.tail _ (.tail _ (.tail _ (.tail _ (.head _))))))))) (sb_cons (.tail _ (.tail _ (.tail _ (.tail _ (.tail _ (.tail _ (.tail _ (.tail _ (.tail _ (.head _)))))))))) (sb_cons (.tail _ (.tail _ (.tail _ (.tail _ (.tail _ (.tail _ (.tail _ (.tail _ (.tail _ (.tail _ (.head _))))))))))) (sb_cons (.tail _ (.tail _ (.tail _ (.tail _ (.tail _ (.tail _ (.tail _ (.tail _ (.tail _ (.tail _ (.tail _ (.head _)))))))))))) sb_nil)))))))))))) ?_
    exact l_val_new0 h60 hKn hP hI0 B hc hd hM hbc hbs H1w C1w W1w rfl rfl hq
  · skip
    refine wp_iload (i := 6) dL_value_136 rfl ?_
    refine wp_iconst (nI 2) dL_value_138 (by decide) ?_
    refine wp_icmp_geN 245 dL_value_139 (by decide) (by decide) (by decide) (fun c_139 => absurd c_139 (by decide)) (fun c_139 => ?_)
    refine wp_aload (i := 11) dL_value_142 rfl ?_
    refine wp_iconst (nI 0) dL_value_144 (by decide) ?_
    refine wp_iload (i := 6) dL_value_145 rfl ?_
    refine wp_if_neN 155 dL_value_147 (by decide) (by decide) (fun c_147 => ?_) (fun c_147 => absurd c_147 (by decide))
    refine wp_bipush (nI 109) dL_value_155 (by decide) ?_
    refine wp_iastoreN 70 dL_value_157 W.1 W.2.1 (by decide) (by decide) ?_
    have W1w := RWn.w (n := 70) (k := 0) (z := (nI 109)) W
    have H1w := H.wr (k := 0) (z := (nI 109)) hKn (by omega)
    have C1w := C.law (fun a ha => ce_w71 (h := _) (k := 0) (z := (nI 109)) (show a ≠ nm 71 K by unfold nm; omega))
    refine wp_iconst (nI 0) dL_value_158 (by decide) ?_
    refine wp_istore (i := 12) (lv' := [(12, vi (nI 0)), (11, vr (some (nm 71 K))), (10, vi (nI (sNv V))), (8, vl (nI (sMd V)).toInt64), (7, vi e), (6, vi (nI 1)), (5, vi (nI k)), (4, vr (some (nm 70 1))), (3, vr (some (nm 70 0))), (2, vi (nI i)), (1, vr (some nS)), (0, vr (some (nm 40 0)))]) dL_value_159 (by decide) rfl ?_
    refine wp_sub [(12, vi (nI 0)), (11, vr (some (nm 71 K))), (10, vi (nI (sNv V))), (8, vl (nI (sMd V)).toInt64), (7, vi e), (6, vi (nI 1)), (5, vi (nI k)), (4, vr (some (nm 70 1))), (3, vr (some (nm 70 0))), (2, vi (nI i)), (1, vr (some nS)), (0, vr (some (nm 40 0)))] (sb_cons (.head _) (sb_cons (.tail _ (.head _)) (sb_cons (.tail _ (.tail _ (.head _))) (sb_cons (.tail _ (.tail _ (.tail _ (.head _)))) (sb_cons (.tail _ (.tail _ (.tail _ (.tail _ (.head _))))) (sb_cons (.tail _ (.tail _ (.tail _ (.tail _ (.tail _ (.head _)))))) (sb_cons (.tail _ (.tail _ (.tail _ (.tail _ (.tail _ (.tail _ (.head _))))))) (sb_cons (.tail _ (.tail _ (.tail _ (.tail _ (.tail _ (.tail _ (.tail _ (.head _)))))))) (sb_cons (.tail _ (.tail _ (.tail _ (.tail _ (.tail _ (.tail _ (.tail _ (.tail _ (.head _))))))))) (sb_cons (.tail _ (.tail _ (.tail _ (.tail _ (.tail _ (.tail _ (.tail _ (.tail _ (.tail _ (.head _)))))))))) (sb_cons (.tail _ (.tail _ (.tail _ (.tail _ (.tail _ (.tail _ (.tail _ (.tail _ (.tail _ (.tail _ (.head _))))))))))) (sb_cons (.tail _ (.tail _ (.tail _ (.tail _ (.tail _ (.tail _ (.tail _ (.tail _ (.tail _ (.tail _ (.tail _ (.head _)))))))))))) sb_nil)))))))))))) ?_
    exact l_val_fill h60 hKn (fun h9 g9 H9 C9 W9 a0 a1 af => l_val_new1 h60 hKn hP hI0 B hc hd hM hbc hbs H9 C9 W9 a0 a1 af hq) 40 0 _ _ rfl H1w C1w W1w rfl rfl (fun j hj => absurd hj (Nat.not_lt_zero _))
set_option maxRecDepth 100000 in
set_option maxHeartbeats 4000000 in
theorem l_val_copy {G : GG} {d n : Nat} {Q : Pst} {V : SV} {x : Nat → QIS} {R : RS} {k K J i : Nat} {e : Int32} {ro : Nat → Nat} {rf : Nat → Nat → Int32} {op : Nat → Bool} (h60 : sNv V < 60) (hKn : ∀ v, v < sNv V → ro v ≠ K) (hk : k < sNv V) {M bc bs w : Nat} (hK : ∀ h', LWH h' (sNv V) n (RS_rn R) ro rf (K + 1) J op → CLS h' V M n x R → RWl h' (nm 71 K) (rf k) → WP G m_L_value d 273 [(12, vi (nI 70)), (11, vr (some (nm 71 K))), (10, vi (nI (sNv V))), (8, vl (nI (sMd V)).toInt64), (7, vi e), (6, vi (nI w)), (5, vi (nI k)), (4, vr (some (nm 70 1))), (3, vr (some (nm 70 0))), (2, vi (nI i)), (1, vr (some nS)), (0, vr (some (nm 40 0)))] [] h' bc bs Q) : ∀ m t h g, m + t = 70 → LWH h (sNv V) n (RS_rn R) ro rf (K + 1) J op → CLS h V M n x R → RWl h (nm 71 K) g → (∀ j, j < t → g (0 + j) = rf k j) → WP G m_L_value d 248 [(12, vi (nI t)), (11, vr (some (nm 71 K))), (10, vi (nI (sNv V))), (8, vl (nI (sMd V)).toInt64), (7, vi e), (6, vi (nI w)), (5, vi (nI k)), (4, vr (some (nm 70 1))), (3, vr (some (nm 70 0))), (2, vi (nI i)), (1, vr (some nS)), (0, vr (some (nm 40 0)))] [] h bc bs Q := by
  intro m
  induction m with
  | zero =>
    intro t h g hm H C W gf
    have ht : t = 70 := by omega
    subst ht
    refine wp_iload (i := 12) dL_value_248 rfl ?_
    refine wp_bipush (nI 70) dL_value_250 (by decide) ?_
    refine wp_icmp_geN 273 dL_value_252 (by decide) (by decide) (by decide) (fun c_252 => ?_) (fun c_252 => absurd c_252 (by decide))
    exact hK _ H C ⟨W.1, W.2.1, fun j hj => (W.2.2 j hj).trans (by have := gf j hj; rw [Nat.zero_add] at this; exact this)⟩
  | succ m ih =>
    intro t h g hm H C W gf
    have ht : t < 70 := by omega
    refine wp_iload (i := 12) dL_value_248 rfl ?_
    refine wp_bipush (nI 70) dL_value_250 (by decide) ?_
    refine wp_icmp_geN 273 dL_value_252 (by decide) (by omega) (by decide) (fun c_252 => absurd c_252 (by omega)) (fun c_252 => ?_)
    refine wp_aload (i := 11) dL_value_255 rfl ?_
    refine wp_iload (i := 12) dL_value_257 rfl ?_
    refine wp_aload_n (i := 3) dL_value_259 rfl rfl ?_
    refine wp_iload (i := 5) dL_value_260 rfl ?_
    refine wp_aaloadAN 60 (some (nm 71 (ro k))) dL_value_262 H.1.1 H.1.2 (by omega) (by decide) ((H.2.1 k hk).1) ?_
    refine wp_iload (i := 12) dL_value_263 rfl ?_
    refine wp_ialoadN 70 (rf k t) dL_value_265 (H.2.1 k hk).2.2.1 (H.2.1 k hk).2.2.2.1 (by omega) (by decide) (((H.2.1 k hk).2.2.2.2 t (by omega)).trans (rfl)) ?_
    refine wp_iastoreN 70 dL_value_266 W.1 W.2.1 (by omega) (by decide) ?_
    have W1w := RWn.w (n := 70) (k := t) (z := (rf k t)) W
    have H1w := H.wr (k := t) (z := (rf k t)) hKn (by omega)
    have C1w := C.law (fun a ha => ce_w71 (h := _) (k := t) (z := (rf k t)) (show a ≠ nm 71 K by unfold nm; omega))
    refine wp_iincN (a := t) (lv' := [(12, vi (nI (t + 1))), (11, vr (some (nm 71 K))), (10, vi (nI (sNv V))), (8, vl (nI (sMd V)).toInt64), (7, vi e), (6, vi (nI w)), (5, vi (nI k)), (4, vr (some (nm 70 1))), (3, vr (some (nm 70 0))), (2, vi (nI i)), (1, vr (some nS)), (0, vr (some (nm 40 0)))]) 1 dL_value_267 rfl (by decide) (by decide) rfl ?_
    refine wp_goto 248 dL_value_270 (by decide) ?_
    exact ih (t + 1) _ _ (by omega) H1w C1w W1w (by have := gf_up 0 gf (z := rf k t) rfl; rw [Nat.zero_add] at this; exact this)
theorem l_val_disp {G : GG} {d c n : Nat} {Q : Pst} {V : SV} {x : Nat → QIS} {R : RS} {k K J : Nat} {ro : Nat → Nat} {rf : Nat → Nat → Int32} {op : Nat → Bool} (B : PU c V n x R) (hc : c + 4 ≤ 512) (h60 : sNv V < 60) (hP : ∀ v, v < sNv V → RowP (vp V v) (rf v)) (hI0 : IN0 V) (hd : 40 ≤ d) (hL : slen G < 2 ^ 31) {h : Hp} {M bc bs : Nat} (hk : k < sNv V) (C : CLS h V M n x R) (hM : M + 30 < 900000) (H : LWH h (sNv V) n (RS_rn R) ro rf (K + 1) J op) (hKn : ∀ v, v < sNv V → ro v ≠ K) (W : RWl h (nm 71 K) (rf k)) {e : Int32} (he : smE e) {pl : Nat} (hpl : pl < 20) {w i : Nat} (hw : w < 16) (hi : i + 100 < 2 ^ 31) (hbc : 120 ≤ bc) (hbs : 3000 ≤ bs) (hq : ∀ h' M' V' c' ro' rf', c' ≤ c + 4 → PU c' V' n x R → CLS h' V' M' n x R → M ≤ M' → M' ≤ M + 16 → LWH h' (sNv V') n (RS_rn R) ro' rf' (K + 1) J op → (∀ v, v < sNv V' → RowP (vp V' v) (rf' v)) → IN0 V' → Q (oRet (vi (nI 1))) h') : WP G m_L_value d 290 [(13, vi (nI pl)), (12, vi (nI (sSz V k))), (11, vr (some (nm 71 K))), (10, vi (nI (sNv V))), (8, vl (nI (sMd V)).toInt64), (7, vi e), (6, vi (nI w)), (5, vi (nI k)), (4, vr (some (nm 70 1))), (3, vr (some (nm 70 0))), (2, vi (nI i)), (1, vr (some nS)), (0, vr (some (nm 40 0)))] [] h bc bs Q := by
  have hz : sSz V k ≤ 64 := (B.1.2.1 k hk).2.1
  rcases (B.1.2.1 k hk).1 with t | t | t | t
  · by_cases a : w < 7
    · by_cases b : sSz V k < 64
      · exact l_val_app B hc h60 hP hI0 hd hL hk t C hM H hKn W he hpl hw hi hbc hbs hq a b
      · exact l_val_appN B hc h60 hP hI0 hd hL hk t C hM H hKn W he hpl hw hi hbc hbs hq a (by omega)
    · by_cases b : w < 9
      · by_cases e1 : pl < sSz V k
        · exact l_val_set B hc h60 hP hI0 hd hL hk t C hM H hKn W he hpl hw hi hbc hbs hq (by omega) b e1
        · exact l_val_setN B hc h60 hP hI0 hd hL hk t C hM H hKn W he hpl hw hi hbc hbs hq (by omega) b (by omega)
      · by_cases b2 : w = 9
        · by_cases e1 : 0 < sSz V k
          · exact l_val_cut B hc h60 hP hI0 hd hL hk t C hM H hKn W he hpl hw hi hbc hbs hq b2 e1
          · exact l_val_cutN B hc h60 hP hI0 hd hL hk t C hM H hKn W he hpl hw hi hbc hbs hq b2 (by omega)
        · exact l_val_open B hc h60 hP hI0 hd hL hk t C hM H hKn W he hpl hw hi hbc hbs hq (by omega)
  · by_cases a : 12 < w
    · exact l_val_last B hc h60 hP hI0 hd hL hk t C hM H hKn W he hpl hw hi hbc hbs hq a
    · by_cases b : w < 8
      · by_cases e1 : sSz V k < 64
        · exact l_val_appO1 B hc h60 hP hI0 hd hL hk t C hM H hKn W he hpl hw hi hbc hbs hq (by omega) b e1
        · exact l_val_appON B hc h60 hP hI0 hd hL hk t C hM H hKn W he hpl hw hi hbc hbs hq (by omega) b (by omega)
      · by_cases e1 : sSz V k = 0
        · exact l_val_appO2 B hc h60 hP hI0 hd hL hk t C hM H hKn W he hpl hw hi hbc hbs hq (by omega) (by omega) e1 (by omega)
        · exact l_val_setO B hc h60 hP hI0 hd hL hk t C hM H hKn W he hpl hw hi hbc hbs hq (by omega) (by omega) (by omega)
  · have hj : pkV G (i + 3) 40 < 40 := pkv_lt (by decide)
    cases hh : hsv V k (25 * pkV G (i + 3) 40) with
    | true =>
      by_cases a : w < 11
      · exact l_val_putT B hc h60 hP hI0 hd hL hk t C hM H hKn W he hpl hw hi hbc hbs hq rfl hj hh a
      · exact l_val_wout B hc h60 hP hI0 hd hL hk t C hM H hKn W he hpl hw hi hbc hbs hq rfl hj hh (by omega)
    | false =>
      by_cases a : w < 11
      · exact l_val_putF1 B hc h60 hP hI0 hd hL hk t C hM H hKn W he hpl hw hi hbc hbs hq rfl hj hh a
      · exact l_val_putF2 B hc h60 hP hI0 hd hL hk t C hM H hKn W he hpl hw hi hbc hbs hq rfl hj hh (by omega)
  · exact l_val_away B hc h60 hP hI0 hd hL hk t C hM H hKn W he hpl hw hi hbc hbs hq
set_option maxRecDepth 100000 in
set_option maxHeartbeats 4000000 in
theorem l_val_old {G : GG} {d c n : Nat} {Q : Pst} {V : SV} {x : Nat → QIS} {R : RS} {k K J : Nat} {ro : Nat → Nat} {rf : Nat → Nat → Int32} {op : Nat → Bool} (B : PU c V n x R) (hc : c + 4 ≤ 512) (h60 : sNv V < 60) (hP : ∀ v, v < sNv V → RowP (vp V v) (rf v)) (hI0 : IN0 V) (hd : 40 ≤ d) (hL : slen G < 2 ^ 31) {h : Hp} {M bc bs : Nat} (hk : k < sNv V) (C : CLS h V M n x R) (hM : M + 30 < 900000) (H : LWH h (sNv V) n (RS_rn R) ro rf (K + 1) J op) (hKn : ∀ v, v < sNv V → ro v ≠ K) (W : RWl h (nm 71 K) (rf k)) {e : Int32} (he : smE e) {w i : Nat} (hw : w < 16) (hi : i + 100 < 2 ^ 31) (hbc : 120 ≤ bc) (hbs : 3000 ≤ bs) (hq : ∀ h' M' V' c' ro' rf', c' ≤ c + 4 → PU c' V' n x R → CLS h' V' M' n x R → M ≤ M' → M' ≤ M + 16 → LWH h' (sNv V') n (RS_rn R) ro' rf' (K + 1) J op → (∀ v, v < sNv V' → RowP (vp V' v) (rf' v)) → IN0 V' → Q (oRet (vi (nI 1))) h') (hw2 : 2 ≤ w) : WP G m_L_value d 273 [(12, vi (nI 70)), (11, vr (some (nm 71 K))), (10, vi (nI (sNv V))), (8, vl (nI (sMd V)).toInt64), (7, vi e), (6, vi (nI w)), (5, vi (nI k)), (4, vr (some (nm 70 1))), (3, vr (some (nm 70 0))), (2, vi (nI i)), (1, vr (some nS)), (0, vr (some (nm 40 0)))] [] h bc bs Q := by
  have f1 : rf k 1 = nI (sSz V k) := (hP k hk).2.1
  refine wp_aload (i := 11) dL_value_273 rfl ?_
  refine wp_iconst (nI 1) dL_value_275 (by decide) ?_
  refine wp_ialoadN 70 (nI (sSz V k)) dL_value_276 W.1 W.2.1 (by decide) (by decide) ((W.2.2 1 (by decide)).trans (f1)) ?_
  refine wp_istore (i := 12) (lv' := [(12, vi (nI (sSz V k))), (11, vr (some (nm 71 K))), (10, vi (nI (sNv V))), (8, vl (nI (sMd V)).toInt64), (7, vi e), (6, vi (nI w)), (5, vi (nI k)), (4, vr (some (nm 70 1))), (3, vr (some (nm 70 0))), (2, vi (nI i)), (1, vr (some nS)), (0, vr (some (nm 40 0)))]) dL_value_277 (by decide) rfl ?_
  refine wp_aload_n (i := 1) dL_value_279 rfl rfl ?_
  refine wp_iload_n (i := 2) dL_value_280 rfl rfl ?_
  refine wp_iconst (nI 3) dL_value_281 (by decide) ?_
  refine wp_iaddN dL_value_282 ?_
  refine wp_bipush (nI 20) dL_value_283 (by decide) ?_
  refine wp_cS (y' := m_L_pick) [vr (some nS), vi (nI (i + 3)), vi (nI 20)] [] 0 0 dL_value_285 ml_L_199 st_L_pick ok_L_pick rfl (Nat.le_of_ble_eq_true rfl) rfl (Nat.le_of_ble_eq_true rfl) (d' := d - 1) (by omega) (Nat.zero_le _) (Nat.zero_le _) (c_L_pick (by omega) (by decide) (by omega) hL (by omega) (cont_ret ?_))
  refine wp_istore (i := 13) (lv' := [(13, vi (nI (pkV G (i + 3) 20))), (12, vi (nI (sSz V k))), (11, vr (some (nm 71 K))), (10, vi (nI (sNv V))), (8, vl (nI (sMd V)).toInt64), (7, vi e), (6, vi (nI w)), (5, vi (nI k)), (4, vr (some (nm 70 1))), (3, vr (some (nm 70 0))), (2, vi (nI i)), (1, vr (some nS)), (0, vr (some (nm 40 0)))]) dL_value_288 (by decide) rfl ?_
  refine wp_sub [(13, vi (nI (pkV G (i + 3) 20))), (12, vi (nI (sSz V k))), (11, vr (some (nm 71 K))), (10, vi (nI (sNv V))), (8, vl (nI (sMd V)).toInt64), (7, vi e), (6, vi (nI w)), (5, vi (nI k)), (4, vr (some (nm 70 1))), (3, vr (some (nm 70 0))), (2, vi (nI i)), (1, vr (some nS)), (0, vr (some (nm 40 0)))] (sb_cons (.head _) (sb_cons (.tail _ (.head _)) (sb_cons (.tail _ (.tail _ (.head _))) (sb_cons (.tail _ (.tail _ (.tail _ (.head _)))) (sb_cons (.tail _ (.tail _ (.tail _ (.tail _ (.head _))))) (sb_cons (.tail _ (.tail _ (.tail _ (.tail _ (.tail _ (.head _)))))) (sb_cons (.tail _ (.tail _ (.tail _ (.tail _ (.tail _ (.tail _ (.head _))))))) (sb_cons (.tail _ (.tail _ (.tail _ (.tail _ (.tail _ (.tail _ (.tail _ (.head _)))))))) (sb_cons (.tail _ (.tail _ (.tail _ (.tail _ (.tail _ (.tail _ (.tail _ (.tail _ (.head _))))))))) (sb_cons (.tail _ (.tail _ (.tail _ (.tail _ (.tail _ (.tail _ (.tail _ (.tail _ (.tail _ (.head _)))))))))) (sb_cons (.tail _ (.tail _ (.tail _ (.tail _ (.tail _ (.tail _ (.tail _ (.tail _ (.tail _ (.tail _ (.head _))))))))))) (sb_cons (.tail _ (.tail _ (.tail _ (.tail _ (.tail _ (.tail _ (.tail _ (.tail _ (.tail _ (.tail _ (.tail _ (.head _)))))))))))) (sb_cons (.tail _ (.tail _ (.tail _ (.tail _ (.tail _ (.tail _ (.tail _ (.tail _ (.tail _ (.tail _ (.tail _ (.tail _ (.head _))))))))))))) sb_nil))))))))))))) ?_
  exact l_val_disp B hc h60 hP hI0 hd hL hk C hM H hKn W he (pkv_lt (by decide)) hw hi hbc hbs hq
set_option maxRecDepth 100000 in
set_option maxHeartbeats 4000000 in
theorem l_val_full {G : GG} {d c n : Nat} {Q : Pst} {V : SV} {x : Nat → QIS} {R : RS} {K J i : Nat} {ro : Nat → Nat} {rf : Nat → Nat → Int32} {op : Nat → Bool} (B : PU c V n x R) (hc : c + 4 ≤ 512) (hP : ∀ v, v < sNv V → RowP (vp V v) (rf v)) (hI0 : IN0 V) (hd : 40 ≤ d) (hL : slen G < 2 ^ 31) (hi : i + 200 < 2 ^ 31) {h : Hp} {M bc bs : Nat} (C : CLS h V M n x R) (hM : M + 30 < 900000) (H : LWH h (sNv V) n (RS_rn R) ro rf K J op) (hbc : 130 ≤ bc) (hbs : 3100 ≤ bs) (hq : ∀ h' M' V' c' ro' rf', c' ≤ c + 4 → PU c' V' n x R → CLS h' V' M' n x R → M ≤ M' → M' ≤ M + 16 → LWH h' (sNv V') n (RS_rn R) ro' rf' (K + 1) J op → (∀ v, v < sNv V' → RowP (vp V' v) (rf' v)) → IN0 V' → Q (oRet (vi (nI 1))) h') (h60 : sNv V = 60) : WP G m_L_value d 0 [(0, vr (some (nm 40 0))), (1, vr (some nS)), (2, vi (nI i)), (3, vr (some (nm 70 0))), (4, vr (some (nm 70 1)))] [] h bc bs Q := by
  refine wp_aload (i := 4) dL_value_0 rfl ?_
  refine wp_iconst (nI 0) dL_value_2 (by decide) ?_
  refine wp_ialoadN 3 (nI (sNv V)) dL_value_3 H.2.2.2.1.1 H.2.2.2.1.2.1 (by decide) (by decide) (H.2.2.2.1.2.2.1) ?_
  refine wp_bipush (nI 60) dL_value_4 (by decide) ?_
  refine wp_icmp_neN 44 dL_value_6 (by decide) (by omega) (by decide) (fun c_6 => absurd c_6 (by omega)) (fun c_6 => ?_)
  refine wp_aload_n (i := 0) dL_value_9 rfl rfl ?_
  refine wp_iconst (nI 0) dL_value_10 (by decide) ?_
  refine wp_iconst (nI 0) dL_value_11 (by decide) ?_
  refine wp_iconst (nI 0) dL_value_12 (by decide) ?_
  refine wp_iconst (nI 0) dL_value_13 (by decide) ?_
  refine wp_cSH (y' := m_L_deed) [vr (some (nm 40 0)), vi (nI 0), vi (nI 0), vi (nI 0), vi (nI 0)] [] 20 400 dL_value_14 ml_L_191 st_L_deed okH_L_deed rfl (Nat.le_of_ble_eq_true rfl) rfl (Nat.le_of_ble_eq_true rfl) (d' := d - 1) (by omega) (by omega) (by omega) (e_vector B (by omega) C (by omega) (by omega) (by omega) (fun h1 M1 ma1 mb1 C1 F1 => cont_ret ?_))
  rw [(pv_full h60).1] at C1
  rw [show dA [-20003] (o_vector V) = -20003 from by rw [(pv_full h60).1]; rfl]
  have H1 := H.fk F1
  refine wp_sipush (-20003) dL_value_17 (by decide) ?_
  refine wp_icmp_ne 42 dL_value_20 (by decide) (fun c_20 => absurd c_20 (fun z => z rfl)) (fun c_20 => ?_)
  refine wp_aload_n (i := 0) dL_value_23 rfl rfl ?_
  refine wp_bipush (nI 8) dL_value_24 (by decide) ?_
  refine wp_iconst (nI 0) dL_value_26 (by decide) ?_
  refine wp_iconst (nI 0) dL_value_27 (by decide) ?_
  refine wp_iconst (nI 0) dL_value_28 (by decide) ?_
  refine wp_cSH (y' := m_L_deed) [vr (some (nm 40 0)), vi (nI 8), vi (nI 0), vi (nI 0), vi (nI 0)] [] 20 400 dL_value_29 ml_L_191 st_L_deed okH_L_deed rfl (Nat.le_of_ble_eq_true rfl) rfl (Nat.le_of_ble_eq_true rfl) (d' := d - 1) (by omega) (by omega) (by omega) (e_map B (by omega) C1 (by omega) (by omega) (by omega) (fun h2 M2 ma2 mb2 C2 F2 => cont_ret ?_))
  rw [(pv_full h60).2] at C2
  rw [show dA [-20003] (o_map V) = -20003 from by rw [(pv_full h60).2]; rfl]
  have H2 := H1.fk F2
  refine wp_sipush (-20003) dL_value_32 (by decide) ?_
  refine wp_icmp_ne 42 dL_value_35 (by decide) (fun c_35 => absurd c_35 (fun z => z rfl)) (fun c_35 => ?_)
  refine wp_iconst (nI 1) dL_value_38 (by decide) ?_
  refine wp_goto 43 dL_value_39 (by decide) ?_
  refine wp_zreturn dL_value_43 rfl (by decide) ?_
  exact hq _ _ V c ro rf (by omega) B C2 (by omega) (by omega) (H2.up (by omega)) hP hI0
set_option maxRecDepth 100000 in
set_option maxHeartbeats 4000000 in
theorem l_val_go0 {G : GG} {d c n : Nat} {Q : Pst} {V : SV} {x : Nat → QIS} {R : RS} {K J i : Nat} {ro : Nat → Nat} {rf : Nat → Nat → Int32} {op : Nat → Bool} (B : PU c V n x R) (hc : c + 4 ≤ 512) (hP : ∀ v, v < sNv V → RowP (vp V v) (rf v)) (hI0 : IN0 V) (hd : 40 ≤ d) (hL : slen G < 2 ^ 31) (hi : i + 200 < 2 ^ 31) {h : Hp} {M bc bs : Nat} (C : CLS h V M n x R) (hM : M + 30 < 900000) (H : LWH h (sNv V) n (RS_rn R) ro rf K J op) (hbc : 130 ≤ bc) (hbs : 3100 ≤ bs) (hq : ∀ h' M' V' c' ro' rf', c' ≤ c + 4 → PU c' V' n x R → CLS h' V' M' n x R → M ≤ M' → M' ≤ M + 16 → LWH h' (sNv V') n (RS_rn R) ro' rf' (K + 1) J op → (∀ v, v < sNv V' → RowP (vp V' v) (rf' v)) → IN0 V' → Q (oRet (vi (nI 1))) h') (h60 : sNv V < 60) (hz : sNv V = 0) : WP G m_L_value d 0 [(0, vr (some (nm 40 0))), (1, vr (some nS)), (2, vi (nI i)), (3, vr (some (nm 70 0))), (4, vr (some (nm 70 1)))] [] h bc bs Q := by
  have hKn : ∀ v, v < sNv V → ro v ≠ K := fun v hv => Nat.ne_of_lt (H.2.1 v hv).2.1
  refine wp_aload (i := 4) dL_value_0 rfl ?_
  refine wp_iconst (nI 0) dL_value_2 (by decide) ?_
  refine wp_ialoadN 3 (nI (sNv V)) dL_value_3 H.2.2.2.1.1 H.2.2.2.1.2.1 (by decide) (by decide) (H.2.2.2.1.2.2.1) ?_
  refine wp_bipush (nI 60) dL_value_4 (by decide) ?_
  refine wp_icmp_neN 44 dL_value_6 (by decide) (by omega) (by decide) (fun c_6 => ?_) (fun c_6 => absurd c_6 (by omega))
  refine wp_aload (i := 4) dL_value_44 rfl ?_
  refine wp_iconst (nI 0) dL_value_46 (by decide) ?_
  refine wp_ialoadN 3 (nI (sNv V)) dL_value_47 H.2.2.2.1.1 H.2.2.2.1.2.1 (by decide) (by decide) (H.2.2.2.1.2.2.1) ?_
  refine wp_if_neN 55 dL_value_48 (by decide) (by omega) (fun c_48 => absurd c_48 (by omega)) (fun c_48 => ?_)
  refine wp_iconst (nI 0) dL_value_51 (by decide) ?_
  refine wp_goto 78 dL_value_52 (by decide) ?_
  refine wp_istore (i := 5) (lv' := [(5, vi (nI 0)), (0, vr (some (nm 40 0))), (1, vr (some nS)), (2, vi (nI i)), (3, vr (some (nm 70 0))), (4, vr (some (nm 70 1)))]) dL_value_78 (by decide) rfl ?_
  refine wp_aload (i := 4) dL_value_80 rfl ?_
  refine wp_iconst (nI 0) dL_value_82 (by decide) ?_
  refine wp_ialoadN 3 (nI (sNv V)) dL_value_83 H.2.2.2.1.1 H.2.2.2.1.2.1 (by decide) (by decide) (H.2.2.2.1.2.2.1) ?_
  refine wp_if_neN 96 dL_value_84 (by decide) (by omega) (fun c_84 => absurd c_84 (by omega)) (fun c_84 => ?_)
  refine wp_aload_n (i := 1) dL_value_87 rfl rfl ?_
  refine wp_iload_n (i := 2) dL_value_88 rfl rfl ?_
  refine wp_iconst (nI 2) dL_value_89 (by decide) ?_
  refine wp_cS (y' := m_L_pick) [vr (some nS), vi (nI i), vi (nI 2)] [] 0 0 dL_value_90 ml_L_199 st_L_pick ok_L_pick rfl (Nat.le_of_ble_eq_true rfl) rfl (Nat.le_of_ble_eq_true rfl) (d' := d - 1) (by omega) (Nat.zero_le _) (Nat.zero_le _) (c_L_pick (by omega) (by decide) (by omega) hL (by omega) (cont_ret ?_))
  refine wp_goto 103 dL_value_93 (by decide) ?_
  refine wp_istore (i := 6) (lv' := [(6, vi (nI (pkV G i 2))), (5, vi (nI 0)), (0, vr (some (nm 40 0))), (1, vr (some nS)), (2, vi (nI i)), (3, vr (some (nm 70 0))), (4, vr (some (nm 70 1)))]) dL_value_103 (by decide) rfl ?_
  refine wp_aload_n (i := 1) dL_value_105 rfl rfl ?_
  refine wp_iload_n (i := 2) dL_value_106 rfl rfl ?_
  refine wp_iconst (nI 2) dL_value_107 (by decide) ?_
  refine wp_iaddN dL_value_108 ?_
  refine wp_bipush (nI 9) dL_value_109 (by decide) ?_
  refine wp_cS (y' := m_L_pick) [vr (some nS), vi (nI (i + 2)), vi (nI 9)] [] 0 0 dL_value_111 ml_L_199 st_L_pick ok_L_pick rfl (Nat.le_of_ble_eq_true rfl) rfl (Nat.le_of_ble_eq_true rfl) (d' := d - 1) (by omega) (Nat.zero_le _) (Nat.zero_le _) (c_L_pick (by omega) (by decide) (by omega) hL (by omega) (cont_ret ?_))
  refine wp_iconst (nI 4) dL_value_114 (by decide) ?_
  refine wp_isub dL_value_115 ?_
  refine wp_topi (fun x_116 e_116 => ?_)
  refine wp_istore (i := 7) (lv' := [(7, vi x_116), (6, vi (nI (pkV G i 2))), (5, vi (nI 0)), (0, vr (some (nm 40 0))), (1, vr (some nS)), (2, vi (nI i)), (3, vr (some (nm 70 0))), (4, vr (some (nm 70 1)))]) dL_value_116 (by decide) rfl ?_
  refine wp_aload_n (i := 0) dL_value_118 rfl rfl ?_
  refine wp_cV (y' := m_X11_made) 12 [] [] 0 0 dL_value_119 ml_L_187 im_X11_made se_X11_made (by decide) C.hk ok_X11_made rfl (Nat.le_of_ble_eq_true rfl) rfl (Nat.le_of_ble_eq_true rfl) (d' := d - 1) (by omega) (Nat.zero_le _) (Nat.zero_le _) (c_X11_made C.2.2 (cont_ret ?_))
  refine wp_lstore (i := 8) (lv' := [(8, vl (nI (sMd V)).toInt64), (7, vi x_116), (6, vi (nI (pkV G i 2))), (5, vi (nI 0)), (0, vr (some (nm 40 0))), (1, vr (some nS)), (2, vi (nI i)), (3, vr (some (nm 70 0))), (4, vr (some (nm 70 1)))]) dL_value_122 (by decide) rfl ?_
  refine wp_aload (i := 4) dL_value_124 rfl ?_
  refine wp_iconst (nI 0) dL_value_126 (by decide) ?_
  refine wp_ialoadN 3 (nI (sNv V)) dL_value_127 H.2.2.2.1.1 H.2.2.2.1.2.1 (by decide) (by decide) (H.2.2.2.1.2.2.1) ?_
  refine wp_istore (i := 10) (lv' := [(10, vi (nI (sNv V))), (8, vl (nI (sMd V)).toInt64), (7, vi x_116), (6, vi (nI (pkV G i 2))), (5, vi (nI 0)), (0, vr (some (nm 40 0))), (1, vr (some nS)), (2, vi (nI i)), (3, vr (some (nm 70 0))), (4, vr (some (nm 70 1)))]) dL_value_128 (by decide) rfl ?_
  refine wp_bipush (nI 70) dL_value_130 (by decide) ?_
  refine wp_newarray 101 70 .int dL_value_132 rfl rfl aw_int (nI_nn (by omega)) (nI_clamp (by omega)) (by omega) (by decide) pl_int (by omega) (by omega) (nm 71 K) (H.2.2.2.2.2.1 K (Nat.le_refl _)) ?_
  obtain ⟨Hn, Wn⟩ := LWH.new H
  have Cn := C.law (fun a ha => ce_mk (kd := 101) (n := 70) (show a ≠ nm 71 K by unfold nm; omega))
  refine wp_astore (i := 11) (lv' := [(11, vr (some (nm 71 K))), (10, vi (nI (sNv V))), (8, vl (nI (sMd V)).toInt64), (7, vi x_116), (6, vi (nI (pkV G i 2))), (5, vi (nI 0)), (0, vr (some (nm 40 0))), (1, vr (some nS)), (2, vi (nI i)), (3, vr (some (nm 70 0))), (4, vr (some (nm 70 1)))]) dL_value_134 (by decide) rfl ?_
  refine wp_sub [(11, vr (some (nm 71 K))), (10, vi (nI (sNv V))), (8, vl (nI (sMd V)).toInt64), (7, vi x_116), (6, vi (nI (pkV G i 2))), (5, vi (nI 0)), (4, vr (some (nm 70 1))), (3, vr (some (nm 70 0))), (2, vi (nI i)), (1, vr (some nS)), (0, vr (some (nm 40 0)))] (sb_cons (.head _) (sb_cons (.tail _ (.head _)) (sb_cons (.tail _ (.tail _ (.head _))) (sb_cons (.tail _ (.tail _ (.tail _ (.head _)))) (sb_cons (.tail _ (.tail _ (.tail _ (.tail _ (.head _))))) (sb_cons (.tail _ (.tail _ (.tail _ (.tail _ (.tail _ (.head _)))))) (sb_cons (.tail _ (.tail _ (.tail _ (.tail _ (.tail _ (.tail _ (.tail _ (.tail _ (.tail _ (.tail _ (.head _))))))))))) (sb_cons (.tail _ (.tail _ (.tail _ (.tail _ (.tail _ (.tail _ (.tail _ (.tail _ (.tail _ (.head _)))))))))) (sb_cons (.tail _ (.tail _ (.tail _ (.tail _ (.tail _ (.tail _ (.tail _ (.tail _ (.head _))))))))) (sb_cons (.tail _ (.tail _ (.tail _ (.tail _ (.tail _ (.tail _ (.tail _ (.head _)))))))) (sb_cons (.tail _ (.tail _ (.tail _ (.tail _ (.tail _ (.tail _ (.head _))))))) sb_nil))))))))))) ?_
  have he : smE x_116 := ⟨_, pkv_lt (by decide), e_116⟩
  exact l_val_new h60 hKn hP hI0 B hc hd (pkv_lt (by decide)) hM (by omega) (by omega) Hn Cn Wn hq
set_option maxRecDepth 100000 in
set_option maxHeartbeats 4000000 in
theorem l_val_mid {G : GG} {d n : Nat} {Q : Pst} {V : SV} {x : Nat → QIS} {R : RS} {k K J i : Nat} {e : Int32} {ro : Nat → Nat} {rf : Nat → Nat → Int32} {op : Nat → Bool} (h60 : sNv V < 60) (hKn : ∀ v, v < sNv V → ro v ≠ K) (hk : k < sNv V) {M bc bs w : Nat} (hw2 : 2 ≤ w) (hw3 : w < 16) (hK : ∀ h', LWH h' (sNv V) n (RS_rn R) ro rf (K + 1) J op → CLS h' V M n x R → RWl h' (nm 71 K) (rf k) → WP G m_L_value d 273 [(12, vi (nI 70)), (11, vr (some (nm 71 K))), (10, vi (nI (sNv V))), (8, vl (nI (sMd V)).toInt64), (7, vi e), (6, vi (nI w)), (5, vi (nI k)), (4, vr (some (nm 70 1))), (3, vr (some (nm 70 0))), (2, vi (nI i)), (1, vr (some nS)), (0, vr (some (nm 40 0)))] [] h' bc bs Q) {h : Hp} {g : Nat → Int32} (H : LWH h (sNv V) n (RS_rn R) ro rf (K + 1) J op) (C : CLS h V M n x R) (W : RWl h (nm 71 K) g) : WP G m_L_value d 136 [(11, vr (some (nm 71 K))), (10, vi (nI (sNv V))), (8, vl (nI (sMd V)).toInt64), (7, vi e), (6, vi (nI w)), (5, vi (nI k)), (4, vr (some (nm 70 1))), (3, vr (some (nm 70 0))), (2, vi (nI i)), (1, vr (some nS)), (0, vr (some (nm 40 0)))] [] h bc bs Q := by
  refine wp_iload (i := 6) dL_value_136 rfl ?_
  refine wp_iconst (nI 2) dL_value_138 (by decide) ?_
  refine wp_icmp_geN 245 dL_value_139 (by decide) (by omega) (by decide) (fun c_139 => ?_) (fun c_139 => absurd c_139 (by omega))
  refine wp_iconst (nI 0) dL_value_245 (by decide) ?_
  refine wp_istore (i := 12) (lv' := [(12, vi (nI 0)), (11, vr (some (nm 71 K))), (10, vi (nI (sNv V))), (8, vl (nI (sMd V)).toInt64), (7, vi e), (6, vi (nI w)), (5, vi (nI k)), (4, vr (some (nm 70 1))), (3, vr (some (nm 70 0))), (2, vi (nI i)), (1, vr (some nS)), (0, vr (some (nm 40 0)))]) dL_value_246 (by decide) rfl ?_
  refine wp_sub [(12, vi (nI 0)), (11, vr (some (nm 71 K))), (10, vi (nI (sNv V))), (8, vl (nI (sMd V)).toInt64), (7, vi e), (6, vi (nI w)), (5, vi (nI k)), (4, vr (some (nm 70 1))), (3, vr (some (nm 70 0))), (2, vi (nI i)), (1, vr (some nS)), (0, vr (some (nm 40 0)))] (sb_cons (.head _) (sb_cons (.tail _ (.head _)) (sb_cons (.tail _ (.tail _ (.head _))) (sb_cons (.tail _ (.tail _ (.tail _ (.head _)))) (sb_cons (.tail _ (.tail _ (.tail _ (.tail _ (.head _))))) (sb_cons (.tail _ (.tail _ (.tail _ (.tail _ (.tail _ (.head _)))))) (sb_cons (.tail _ (.tail _ (.tail _ (.tail _ (.tail _ (.tail _ (.head _))))))) (sb_cons (.tail _ (.tail _ (.tail _ (.tail _ (.tail _ (.tail _ (.tail _ (.head _)))))))) (sb_cons (.tail _ (.tail _ (.tail _ (.tail _ (.tail _ (.tail _ (.tail _ (.tail _ (.head _))))))))) (sb_cons (.tail _ (.tail _ (.tail _ (.tail _ (.tail _ (.tail _ (.tail _ (.tail _ (.tail _ (.head _)))))))))) (sb_cons (.tail _ (.tail _ (.tail _ (.tail _ (.tail _ (.tail _ (.tail _ (.tail _ (.tail _ (.tail _ (.head _))))))))))) (sb_cons (.tail _ (.tail _ (.tail _ (.tail _ (.tail _ (.tail _ (.tail _ (.tail _ (.tail _ (.tail _ (.tail _ (.head _)))))))))))) sb_nil)))))))))))) ?_
  exact l_val_copy h60 hKn hk hK 70 0 _ _ rfl H C W (fun j hj => absurd hj (Nat.not_lt_zero _))
set_option maxRecDepth 100000 in
set_option maxHeartbeats 4000000 in
theorem l_val_go1 {G : GG} {d c n : Nat} {Q : Pst} {V : SV} {x : Nat → QIS} {R : RS} {K J i : Nat} {ro : Nat → Nat} {rf : Nat → Nat → Int32} {op : Nat → Bool} (B : PU c V n x R) (hc : c + 4 ≤ 512) (hP : ∀ v, v < sNv V → RowP (vp V v) (rf v)) (hI0 : IN0 V) (hd : 40 ≤ d) (hL : slen G < 2 ^ 31) (hi : i + 200 < 2 ^ 31) {h : Hp} {M bc bs : Nat} (C : CLS h V M n x R) (hM : M + 30 < 900000) (H : LWH h (sNv V) n (RS_rn R) ro rf K J op) (hbc : 130 ≤ bc) (hbs : 3100 ≤ bs) (hq : ∀ h' M' V' c' ro' rf', c' ≤ c + 4 → PU c' V' n x R → CLS h' V' M' n x R → M ≤ M' → M' ≤ M + 16 → LWH h' (sNv V') n (RS_rn R) ro' rf' (K + 1) J op → (∀ v, v < sNv V' → RowP (vp V' v) (rf' v)) → IN0 V' → Q (oRet (vi (nI 1))) h') (h60 : sNv V < 60) (hz : 0 < sNv V) : WP G m_L_value d 0 [(0, vr (some (nm 40 0))), (1, vr (some nS)), (2, vi (nI i)), (3, vr (some (nm 70 0))), (4, vr (some (nm 70 1)))] [] h bc bs Q := by
  have hKn : ∀ v, v < sNv V → ro v ≠ K := fun v hv => Nat.ne_of_lt (H.2.1 v hv).2.1
  have hp := @pkv_lt G (i + 1) (min 6 (sNv V)) (by omega)
  refine wp_aload (i := 4) dL_value_0 rfl ?_
  refine wp_iconst (nI 0) dL_value_2 (by decide) ?_
  refine wp_ialoadN 3 (nI (sNv V)) dL_value_3 H.2.2.2.1.1 H.2.2.2.1.2.1 (by decide) (by decide) (H.2.2.2.1.2.2.1) ?_
  refine wp_bipush (nI 60) dL_value_4 (by decide) ?_
  refine wp_icmp_neN 44 dL_value_6 (by decide) (by omega) (by decide) (fun c_6 => ?_) (fun c_6 => absurd c_6 (by omega))
  refine wp_aload (i := 4) dL_value_44 rfl ?_
  refine wp_iconst (nI 0) dL_value_46 (by decide) ?_
  refine wp_ialoadN 3 (nI (sNv V)) dL_value_47 H.2.2.2.1.1 H.2.2.2.1.2.1 (by decide) (by decide) (H.2.2.2.1.2.2.1) ?_
  refine wp_if_neN 55 dL_value_48 (by decide) (by omega) (fun c_48 => ?_) (fun c_48 => absurd c_48 (by omega))
  refine wp_aload (i := 4) dL_value_55 rfl ?_
  refine wp_iconst (nI 0) dL_value_57 (by decide) ?_
  refine wp_ialoadN 3 (nI (sNv V)) dL_value_58 H.2.2.2.1.1 H.2.2.2.1.2.1 (by decide) (by decide) (H.2.2.2.1.2.2.1) ?_
  refine wp_iconst (nI 1) dL_value_59 (by decide) ?_
  refine wp_isubN dL_value_60 (by omega) ?_
  refine wp_aload_n (i := 1) dL_value_61 rfl rfl ?_
  refine wp_iload_n (i := 2) dL_value_62 rfl rfl ?_
  refine wp_iconst (nI 1) dL_value_63 (by decide) ?_
  refine wp_iaddN dL_value_64 ?_
  refine wp_bipush (nI 6) dL_value_65 (by decide) ?_
  refine wp_aload (i := 4) dL_value_67 rfl ?_
  refine wp_iconst (nI 0) dL_value_69 (by decide) ?_
  refine wp_ialoadN 3 (nI (sNv V)) dL_value_70 H.2.2.2.1.1 H.2.2.2.1.2.1 (by decide) (by decide) (H.2.2.2.1.2.2.1) ?_
  refine wp_minN dL_value_71 ml_L_194 st_J9_min_7cf53 co_J9_min (by omega) (Nat.le_of_ble_eq_true rfl) (by omega) (by omega) ?_
  refine wp_cS (y' := m_L_pick) [vr (some nS), vi (nI (i + 1)), vi (nI (min 6 (sNv V)))] [vi (nI ((sNv V) - 1))] 0 0 dL_value_74 ml_L_199 st_L_pick ok_L_pick rfl (Nat.le_of_ble_eq_true rfl) rfl (Nat.le_of_ble_eq_true rfl) (d' := d - 1) (by omega) (Nat.zero_le _) (Nat.zero_le _) (c_L_pick (by omega) (by omega) (by omega) hL (by omega) (cont_ret ?_))
  refine wp_isubN dL_value_77 (by omega) ?_
  refine wp_istore (i := 5) (lv' := [(5, vi (nI (((sNv V) - 1) - (pkV G (i + 1) (min 6 (sNv V)))))), (0, vr (some (nm 40 0))), (1, vr (some nS)), (2, vi (nI i)), (3, vr (some (nm 70 0))), (4, vr (some (nm 70 1)))]) dL_value_78 (by decide) rfl ?_
  refine wp_aload (i := 4) dL_value_80 rfl ?_
  refine wp_iconst (nI 0) dL_value_82 (by decide) ?_
  refine wp_ialoadN 3 (nI (sNv V)) dL_value_83 H.2.2.2.1.1 H.2.2.2.1.2.1 (by decide) (by decide) (H.2.2.2.1.2.2.1) ?_
  refine wp_if_neN 96 dL_value_84 (by decide) (by omega) (fun c_84 => ?_) (fun c_84 => absurd c_84 (by omega))
  refine wp_aload_n (i := 1) dL_value_96 rfl rfl ?_
  refine wp_iload_n (i := 2) dL_value_97 rfl rfl ?_
  refine wp_bipush (nI 16) dL_value_98 (by decide) ?_
  refine wp_cS (y' := m_L_pick) [vr (some nS), vi (nI i), vi (nI 16)] [] 0 0 dL_value_100 ml_L_199 st_L_pick ok_L_pick rfl (Nat.le_of_ble_eq_true rfl) rfl (Nat.le_of_ble_eq_true rfl) (d' := d - 1) (by omega) (Nat.zero_le _) (Nat.zero_le _) (c_L_pick (by omega) (by decide) (by omega) hL (by omega) (cont_ret ?_))
  refine wp_istore (i := 6) (lv' := [(6, vi (nI (pkV G i 16))), (5, vi (nI (((sNv V) - 1) - (pkV G (i + 1) (min 6 (sNv V)))))), (0, vr (some (nm 40 0))), (1, vr (some nS)), (2, vi (nI i)), (3, vr (some (nm 70 0))), (4, vr (some (nm 70 1)))]) dL_value_103 (by decide) rfl ?_
  refine wp_aload_n (i := 1) dL_value_105 rfl rfl ?_
  refine wp_iload_n (i := 2) dL_value_106 rfl rfl ?_
  refine wp_iconst (nI 2) dL_value_107 (by decide) ?_
  refine wp_iaddN dL_value_108 ?_
  refine wp_bipush (nI 9) dL_value_109 (by decide) ?_
  refine wp_cS (y' := m_L_pick) [vr (some nS), vi (nI (i + 2)), vi (nI 9)] [] 0 0 dL_value_111 ml_L_199 st_L_pick ok_L_pick rfl (Nat.le_of_ble_eq_true rfl) rfl (Nat.le_of_ble_eq_true rfl) (d' := d - 1) (by omega) (Nat.zero_le _) (Nat.zero_le _) (c_L_pick (by omega) (by decide) (by omega) hL (by omega) (cont_ret ?_))
  refine wp_iconst (nI 4) dL_value_114 (by decide) ?_
  refine wp_isub dL_value_115 ?_
  refine wp_topi (fun x_116 e_116 => ?_)
  refine wp_istore (i := 7) (lv' := [(7, vi x_116), (6, vi (nI (pkV G i 16))), (5, vi (nI (((sNv V) - 1) - (pkV G (i + 1) (min 6 (sNv V)))))), (0, vr (some (nm 40 0))), (1, vr (some nS)), (2, vi (nI i)), (3, vr (some (nm 70 0))), (4, vr (some (nm 70 1)))]) dL_value_116 (by decide) rfl ?_
  refine wp_aload_n (i := 0) dL_value_118 rfl rfl ?_
  refine wp_cV (y' := m_X11_made) 12 [] [] 0 0 dL_value_119 ml_L_187 im_X11_made se_X11_made (by decide) C.hk ok_X11_made rfl (Nat.le_of_ble_eq_true rfl) rfl (Nat.le_of_ble_eq_true rfl) (d' := d - 1) (by omega) (Nat.zero_le _) (Nat.zero_le _) (c_X11_made C.2.2 (cont_ret ?_))
  refine wp_lstore (i := 8) (lv' := [(8, vl (nI (sMd V)).toInt64), (7, vi x_116), (6, vi (nI (pkV G i 16))), (5, vi (nI (((sNv V) - 1) - (pkV G (i + 1) (min 6 (sNv V)))))), (0, vr (some (nm 40 0))), (1, vr (some nS)), (2, vi (nI i)), (3, vr (some (nm 70 0))), (4, vr (some (nm 70 1)))]) dL_value_122 (by decide) rfl ?_
  refine wp_aload (i := 4) dL_value_124 rfl ?_
  refine wp_iconst (nI 0) dL_value_126 (by decide) ?_
  refine wp_ialoadN 3 (nI (sNv V)) dL_value_127 H.2.2.2.1.1 H.2.2.2.1.2.1 (by decide) (by decide) (H.2.2.2.1.2.2.1) ?_
  refine wp_istore (i := 10) (lv' := [(10, vi (nI (sNv V))), (8, vl (nI (sMd V)).toInt64), (7, vi x_116), (6, vi (nI (pkV G i 16))), (5, vi (nI (((sNv V) - 1) - (pkV G (i + 1) (min 6 (sNv V)))))), (0, vr (some (nm 40 0))), (1, vr (some nS)), (2, vi (nI i)), (3, vr (some (nm 70 0))), (4, vr (some (nm 70 1)))]) dL_value_128 (by decide) rfl ?_
  refine wp_bipush (nI 70) dL_value_130 (by decide) ?_
  refine wp_newarray 101 70 .int dL_value_132 rfl rfl aw_int (nI_nn (by omega)) (nI_clamp (by omega)) (by omega) (by decide) pl_int (by omega) (by omega) (nm 71 K) (H.2.2.2.2.2.1 K (Nat.le_refl _)) ?_
  obtain ⟨Hn, Wn⟩ := LWH.new H
  have Cn := C.law (fun a ha => ce_mk (kd := 101) (n := 70) (show a ≠ nm 71 K by unfold nm; omega))
  refine wp_astore (i := 11) (lv' := [(11, vr (some (nm 71 K))), (10, vi (nI (sNv V))), (8, vl (nI (sMd V)).toInt64), (7, vi x_116), (6, vi (nI (pkV G i 16))), (5, vi (nI (((sNv V) - 1) - (pkV G (i + 1) (min 6 (sNv V)))))), (0, vr (some (nm 40 0))), (1, vr (some nS)), (2, vi (nI i)), (3, vr (some (nm 70 0))), (4, vr (some (nm 70 1)))]) dL_value_134 (by decide) rfl ?_
  refine wp_sub [(11, vr (some (nm 71 K))), (10, vi (nI (sNv V))), (8, vl (nI (sMd V)).toInt64), (7, vi x_116), (6, vi (nI (pkV G i 16))), (5, vi (nI (((sNv V) - 1) - (pkV G (i + 1) (min 6 (sNv V)))))), (4, vr (some (nm 70 1))), (3, vr (some (nm 70 0))), (2, vi (nI i)), (1, vr (some nS)), (0, vr (some (nm 40 0)))] (sb_cons (.head _) (sb_cons (.tail _ (.head _)) (sb_cons (.tail _ (.tail _ (.head _))) (sb_cons (.tail _ (.tail _ (.tail _ (.head _)))) (sb_cons (.tail _ (.tail _ (.tail _ (.tail _ (.head _))))) (sb_cons (.tail _ (.tail _ (.tail _ (.tail _ (.tail _ (.head _)))))) (sb_cons (.tail _ (.tail _ (.tail _ (.tail _ (.tail _ (.tail _ (.tail _ (.tail _ (.tail _ (.tail _ (.head _))))))))))) (sb_cons (.tail _ (.tail _ (.tail _ (.tail _ (.tail _ (.tail _ (.tail _ (.tail _ (.tail _ (.head _)))))))))) (sb_cons (.tail _ (.tail _ (.tail _ (.tail _ (.tail _ (.tail _ (.tail _ (.tail _ (.head _))))))))) (sb_cons (.tail _ (.tail _ (.tail _ (.tail _ (.tail _ (.tail _ (.tail _ (.head _)))))))) (sb_cons (.tail _ (.tail _ (.tail _ (.tail _ (.tail _ (.tail _ (.head _))))))) sb_nil))))))))))) ?_
  have he : smE x_116 := ⟨_, pkv_lt (by decide), e_116⟩
  have hw : pkV G i 16 < 16 := pkv_lt (by decide)
  by_cases w2 : pkV G i 16 < 2
  · exact l_val_new h60 hKn hP hI0 B hc hd w2 hM (by omega) (by omega) Hn Cn Wn hq
  · refine l_val_mid h60 hKn (by omega) (by omega) hw (fun h9 H9 C9 W9 => ?_) Hn Cn Wn
    exact l_val_old B hc h60 hP hI0 hd hL (by omega) C9 hM H9 hKn W9 he hw (by omega) (by omega) (by omega) hq (by omega)
theorem c_L_value {G : GG} {d c n : Nat} {Q : Pst} {V : SV} {x : Nat → QIS} {R : RS} {K J i : Nat} {ro : Nat → Nat} {rf : Nat → Nat → Int32} {op : Nat → Bool} (B : PU c V n x R) (hc : c + 4 ≤ 512) (hP : ∀ v, v < sNv V → RowP (vp V v) (rf v)) (hI0 : IN0 V) (hd : 40 ≤ d) (hL : slen G < 2 ^ 31) (hi : i + 200 < 2 ^ 31) {h : Hp} {M bc bs : Nat} (C : CLS h V M n x R) (hM : M + 30 < 900000) (H : LWH h (sNv V) n (RS_rn R) ro rf K J op) (hbc : 130 ≤ bc) (hbs : 3100 ≤ bs) (hq : ∀ h' M' V' c' ro' rf', c' ≤ c + 4 → PU c' V' n x R → CLS h' V' M' n x R → M ≤ M' → M' ≤ M + 16 → LWH h' (sNv V') n (RS_rn R) ro' rf' (K + 1) J op → (∀ v, v < sNv V' → RowP (vp V' v) (rf' v)) → IN0 V' → Q (oRet (vi (nI 1))) h') : WP G m_L_value d 0 (aargs 0 [vr (some (nm 40 0)), vr (some nS), vi (nI i), vr (some (nm 70 0)), vr (some (nm 70 1))]) [] h bc bs Q := by
  refine wp_sub [(0, vr (some (nm 40 0))), (1, vr (some nS)), (2, vi (nI i)), (3, vr (some (nm 70 0))), (4, vr (some (nm 70 1)))] (fun _ hz => hz) ?_
  have hn := B.1.1
  by_cases e : sNv V = 60
  · exact l_val_full B hc hP hI0 hd hL hi C hM H hbc hbs hq e
  · by_cases z : sNv V = 0
    · exact l_val_go0 B hc hP hI0 hd hL hi C hM H hbc hbs hq (by omega) z
    · exact l_val_go1 B hc hP hI0 hd hL hi C hM H hbc hbs hq (by omega) (by omega)
