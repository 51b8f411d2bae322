/-! A value is as its row says. -/
/-- a row of the law -/
def RWl (h : Hp) (a : Nat) (f : Nat → Int32) : Prop := h_k h a = 101 ∧ h_n h a = 70 ∧ ∀ j, j < 70 → h_I h a j = f j
theorem RWl.fk {h h' : Hp} {a : Nat} {f : Nat → Int32} (H : RWl h a f) (F : FK h h') (ha : 70 ≤ a % 128) : RWl h' a f := by
  have e := F a (by omega)
  exact ⟨(ce_k e).trans H.1, (ce_n e).trans H.2.1, fun j hj => by rw [ce_I e]; exact H.2.2 j hj⟩
theorem vecB_v {V : SV} {k : Nat} (h : sTy V k = 118 ∨ sTy V k = 111) : vecB V k = true := by
  unfold vecB
  rcases h with h | h <;> rw [h] <;> rfl
theorem vecB_n {V : SV} {k : Nat} (h : sTy V k = 109 ∨ sTy V k = 120) : vecB V k = false := by
  unfold vecB
  rcases h with h | h <;> rw [h] <;> rfl
theorem dO_ne {n : Nat} : ¬ nI (dOf n) = -20004 := nI_ne _ (by have := @dOf_le3 n; omega) _ (by decide)
theorem ns_ne0 {V : SV} {k : Nat} (h : 0 < nsN V k) : ¬ nI (nsN V k) ≤ 0 := fun e => by
  have := (nI_leI (b := 0) (by have := @ns_le V k; omega) (by decide)).mp e
  omega
theorem lv_ne {V : SV} {k j : Nat} : ¬ nI (lvF V k j 4 0) = -20005 := nI_ne _ (by have := @lvF_leL V k j 4 0; omega) _ (by decide)
set_option maxRecDepth 100000 in
set_option maxHeartbeats 4000000 in
theorem l_likeE_118 {G : GG} {d c n : Nat} {Q : Pst} {V : SV} {x : Nat → QIS} {R : RS} {k r : Nat} {f : Nat → Int32} (B : PU c V n x R) (hc : c ≤ 512) (hk : k < sNv V) (hP : RowP (vp V k) f) (ht : sTy V k = 118) (hd : 30 ≤ d) {h : Hp} {M bc bs : Nat} (C : CLS h V M n x R) (hM : M + 10 < 900000) (W : RWl h (nm 71 r) f) (hbc : 24 ≤ bc) (hbs : 160 ≤ bs) (hq : ∀ h' M', M ≤ M' → M' ≤ M + 4 → CLS h' V M' n x R → FK h h' → Q (oRet (vi (nI 1))) h') : WP G m_L_isLike d 275 [(4, vi (nI 1)), (3, vi (nI 0)), (0, vr (some (nm 40 0))), (1, vi (nI k)), (2, vr (some (nm 71 r)))] [] h bc bs Q := by
  have hn60 := B.1.1
  have hns := @ns_le V k
  have hn : sNv V < 2 ^ 31 := by omega
  have hk1 : k < 2 ^ 31 := by omega
  have hz : sSz V k ≤ 64 := (B.1.2.1 k hk).2.1
  have f0 : f 0 = nI 118 := hP.1.trans (congrArg nI ht)
  have f1 : f 1 = nI (sSz V k) := hP.2.1
  refine wp_iload (i := 4) dL_isLike_275 rfl ?_
  refine wp_if_eqN 338 dL_isLike_277 (by decide) (by decide) (fun c_277 => absurd c_277 (by decide)) (fun c_277 => ?_)
  refine wp_aload_n (i := 0) dL_isLike_280 rfl rfl ?_
  refine wp_iconst (nI 1) dL_isLike_281 (by decide) ?_
  refine wp_iload_n (i := 1) dL_isLike_282 rfl rfl ?_
  refine wp_iload_n (i := 3) dL_isLike_283 rfl rfl ?_
  refine wp_if_eqN 291 dL_isLike_284 (by decide) (by decide) (fun c_284 => ?_) (fun c_284 => absurd c_284 (by decide))
  refine wp_aload_n (i := 2) dL_isLike_291 rfl rfl ?_
  refine wp_iconst (nI 1) dL_isLike_292 (by decide) ?_
  refine wp_ialoadN 70 (nI (sSz V k)) dL_isLike_293 W.1 W.2.1 (by decide) (by decide) ((W.2.2 1 (by decide)).trans (f1)) ?_
  refine wp_cSH (y' := m_L_ask) [vr (some (nm 40 0)), vi (nI 1), vi (nI k), vi (nI (sSz V k))] [] 6 40 dL_isLike_294 ml_L_184 st_L_ask okH_L_ask rfl (Nat.le_of_ble_eq_true rfl) rfl (Nat.le_of_ble_eq_true rfl) (d' := d - 1) (by omega) (by omega) (by omega) (q_get (k := k) hk1 (j := (sSz V k)) (hwn (by omega)) B hc C (by omega) (by omega) (by omega) (fun h1 M1 ma1 mb1 C1 F1 => cont_ret ?_))
  rw [r_get] at C1
  rw [an_get hk hn, if_neg (by rw [hasN_v (by omega) (ixB_n0 (Nat.le_refl _) (by omega))]; decide)]
  have W1_0 := W.fk F1 (by unfold nm; omega)
  refine wp_sipush (-20005) dL_isLike_297 (by decide) ?_
  refine wp_icmp_ne 338 dL_isLike_300 (by decide) (fun c_300 => absurd c_300 (fun z => z rfl)) (fun c_300 => ?_)
  refine wp_aload_n (i := 0) dL_isLike_303 rfl rfl ?_
  refine wp_iconst (nI 2) dL_isLike_304 (by decide) ?_
  refine wp_iload_n (i := 1) dL_isLike_305 rfl rfl ?_
  refine wp_iconst (-1) dL_isLike_306 (by decide) ?_
  refine wp_cSH (y' := m_L_ask) [vr (some (nm 40 0)), vi (nI 2), vi (nI k), vi (-1)] [] 6 40 dL_isLike_307 ml_L_184 st_L_ask okH_L_ask rfl (Nat.le_of_ble_eq_true rfl) rfl (Nat.le_of_ble_eq_true rfl) (d' := d - 1) (by omega) (by omega) (by omega) (q_getPlain (k := k) hk1 (w := -1) (j := 0) hwm B hc C1 (by omega) (by omega) (by omega) (fun h2 M2 ma2 mb2 C2 F2 => cont_ret ?_))
  rw [r_get] at C2
  rw [an_get hk hn, if_neg (by rw [hasN_v (by omega) (ixm (by omega))]; decide)]
  have W2_0 := W1_0.fk F2 (by unfold nm; omega)
  have G2 := F1.tr F2
  refine wp_sipush (-20005) dL_isLike_310 (by decide) ?_
  refine wp_icmp_ne 338 dL_isLike_313 (by decide) (fun c_313 => absurd c_313 (fun z => z rfl)) (fun c_313 => ?_)
  refine wp_aload_n (i := 0) dL_isLike_316 rfl rfl ?_
  refine wp_bipush (nI 6) dL_isLike_317 (by decide) ?_
  refine wp_iload_n (i := 1) dL_isLike_319 rfl rfl ?_
  refine wp_iload_n (i := 1) dL_isLike_320 rfl rfl ?_
  refine wp_cSH (y' := m_L_ask) [vr (some (nm 40 0)), vi (nI 6), vi (nI k), vi (nI k)] [] 6 40 dL_isLike_321 ml_L_184 st_L_ask okH_L_ask rfl (Nat.le_of_ble_eq_true rfl) rfl (Nat.le_of_ble_eq_true rfl) (d' := d - 1) (by omega) (by omega) (by omega) (q_shared (k := k) hk1 (k2 := k) hk1 B hc C2 (by omega) (by omega) (by omega) (by omega) (fun h3 M3 ma3 mb3 C3 F3 => cont_ret ?_))
  rw [r_shared] at C3
  rw [an_shared hk hk hn, sh_self]
  have W3_0 := W2_0.fk F3 (by unfold nm; omega)
  have G3 := G2.tr F3
  refine wp_aload_n (i := 0) dL_isLike_324 rfl rfl ?_
  refine wp_iconst (nI 5) dL_isLike_325 (by decide) ?_
  refine wp_iload_n (i := 1) dL_isLike_326 rfl rfl ?_
  refine wp_iconst (nI 0) dL_isLike_327 (by decide) ?_
  refine wp_cSH (y' := m_L_ask) [vr (some (nm 40 0)), vi (nI 5), vi (nI k), vi (nI 0)] [vi (nI (nsN V k))] 6 40 dL_isLike_328 ml_L_184 st_L_ask okH_L_ask rfl (Nat.le_of_ble_eq_true rfl) rfl (Nat.le_of_ble_eq_true rfl) (d' := d - 1) (by omega) (by omega) (by omega) (q_nodes (k := k) hk1 B hc C3 (by omega) (by omega) (by omega) (fun h4 M4 ma4 mb4 C4 F4 => cont_ret ?_))
  rw [r_nodes] at C4
  rw [an_nodes hk hn]
  have W4_0 := W3_0.fk F4 (by unfold nm; omega)
  have G4 := G3.tr F4
  refine wp_icmp_neN 338 dL_isLike_331 (by decide) (by omega) (by omega) (fun c_331 => absurd c_331 (by omega)) (fun c_331 => ?_)
  refine wp_iconst (nI 1) dL_isLike_334 (by decide) ?_
  refine wp_goto 339 dL_isLike_335 (by decide) ?_
  refine wp_zreturn dL_isLike_339 rfl (by decide) ?_
  exact hq _ _ (by omega) (by omega) C4 G4
set_option maxRecDepth 100000 in
set_option maxHeartbeats 4000000 in
theorem l_likeL_118 {G : GG} {d c n : Nat} {Q : Pst} {V : SV} {x : Nat → QIS} {R : RS} {k r : Nat} {f : Nat → Int32} (B : PU c V n x R) (hc : c ≤ 512) (hk : k < sNv V) (hP : RowP (vp V k) f) (ht : sTy V k = 118) (hd : 30 ≤ d) {h0 : Hp} {M0 : Nat} (hM : M0 + 210 < 900000) (hq : ∀ h' M', M0 ≤ M' → M' ≤ M0 + 196 → CLS h' V M' n x R → FK h0 h' → Q (oRet (vi (nI 1))) h') : ∀ m j h M bc bs, m + j = sSz V k → CLS h V M n x R → M0 ≤ M → M ≤ M0 + 3 * j → FK h0 h → RWl h (nm 71 r) f → 18 * m + 24 ≤ bc → 120 * m + 160 ≤ bs → WP G m_L_isLike d 133 [(5, vi (nI j)), (4, vi (nI 1)), (3, vi (nI 0)), (0, vr (some (nm 40 0))), (1, vi (nI k)), (2, vr (some (nm 71 r)))] [] h bc bs Q := by
  have hn60 := B.1.1
  have hns := @ns_le V k
  have hn : sNv V < 2 ^ 31 := by omega
  have hk1 : k < 2 ^ 31 := by omega
  have hz : sSz V k ≤ 64 := (B.1.2.1 k hk).2.1
  have f0 : f 0 = nI 118 := hP.1.trans (congrArg nI ht)
  have f1 : f 1 = nI (sSz V k) := hP.2.1
  intro m
  induction m with
  | zero =>
    intro j h M bc bs hj C m1 m2 F W hbc hbs
    refine wp_iload (i := 5) dL_isLike_133 rfl ?_
    refine wp_iload_n (i := 3) dL_isLike_135 rfl rfl ?_
    refine wp_if_eqN 144 dL_isLike_136 (by decide) (by decide) (fun c_136 => ?_) (fun c_136 => absurd c_136 (by decide))
    refine wp_aload_n (i := 2) dL_isLike_144 rfl rfl ?_
    refine wp_iconst (nI 1) dL_isLike_145 (by decide) ?_
    refine wp_ialoadN 70 (nI (sSz V k)) dL_isLike_146 W.1 W.2.1 (by decide) (by decide) ((W.2.2 1 (by decide)).trans (f1)) ?_
    refine wp_icmp_geN 275 dL_isLike_147 (by decide) (by omega) (by omega) (fun c_147 => ?_) (fun c_147 => absurd c_147 (by omega))
    refine wp_sub [(4, vi (nI 1)), (3, vi (nI 0)), (0, vr (some (nm 40 0))), (1, vi (nI k)), (2, vr (some (nm 71 r)))] (sb_cons (.tail _ (.head _)) (sb_cons (.tail _ (.tail _ (.head _))) (sb_cons (.tail _ (.tail _ (.tail _ (.head _)))) (sb_cons (.tail _ (.tail _ (.tail _ (.tail _ (.head _))))) (sb_cons (.tail _ (.tail _ (.tail _ (.tail _ (.tail _ (.head _)))))) sb_nil))))) ?_
    exact l_likeE_118 B hc hk hP ht hd C (by omega) W (by omega) (by omega) (fun h9 M9 a b c e => hq h9 M9 (by omega) (by omega) c (F.tr e))
  | succ m ih =>
    intro j h M bc bs hj0 C m1 m2 F W hbc hbs
    have hj : j < sSz V k := by omega
    have fj := hP.2.2.1 (Or.inl ht) j hj
    have sn := smE_ne fj.2
    refine wp_iload (i := 5) dL_isLike_133 rfl ?_
    refine wp_iload_n (i := 3) dL_isLike_135 rfl rfl ?_
    refine wp_if_eqN 144 dL_isLike_136 (by decide) (by decide) (fun c_136 => ?_) (fun c_136 => absurd c_136 (by decide))
    refine wp_aload_n (i := 2) dL_isLike_144 rfl rfl ?_
    refine wp_iconst (nI 1) dL_isLike_145 (by decide) ?_
    refine wp_ialoadN 70 (nI (sSz V k)) dL_isLike_146 W.1 W.2.1 (by decide) (by decide) ((W.2.2 1 (by decide)).trans (f1)) ?_
    refine wp_icmp_geN 275 dL_isLike_147 (by decide) (by omega) (by omega) (fun c_147 => absurd c_147 (by omega)) (fun c_147 => ?_)
    refine wp_iload (i := 4) dL_isLike_150 rfl ?_
    refine wp_if_eqN 275 dL_isLike_152 (by decide) (by decide) (fun c_152 => absurd c_152 (by decide)) (fun c_152 => ?_)
    refine wp_iload_n (i := 3) dL_isLike_155 rfl rfl ?_
    refine wp_if_eqN 167 dL_isLike_156 (by decide) (by decide) (fun c_156 => ?_) (fun c_156 => absurd c_156 (by decide))
    refine wp_iload (i := 5) dL_isLike_167 rfl ?_
    refine wp_istore (i := 6) (lv' := [(6, vi (nI j)), (5, vi (nI j)), (4, vi (nI 1)), (3, vi (nI 0)), (0, vr (some (nm 40 0))), (1, vi (nI k)), (2, vr (some (nm 71 r)))]) dL_isLike_169 (by decide) rfl ?_
    refine wp_aload_n (i := 0) dL_isLike_171 rfl rfl ?_
    refine wp_iconst (nI 1) dL_isLike_172 (by decide) ?_
    refine wp_iload_n (i := 1) dL_isLike_173 rfl rfl ?_
    refine wp_iload (i := 6) dL_isLike_174 rfl ?_
    refine wp_cSH (y' := m_L_ask) [vr (some (nm 40 0)), vi (nI 1), vi (nI k), vi (nI j)] [] 6 40 dL_isLike_176 ml_L_184 st_L_ask okH_L_ask rfl (Nat.le_of_ble_eq_true rfl) rfl (Nat.le_of_ble_eq_true rfl) (d' := d - 1) (by omega) (by omega) (by omega) (q_get (k := k) hk1 (j := j) (hwn (by omega)) B hc C (by omega) (by omega) (by omega) (fun h1 M1 ma1 mb1 C1 F1 => cont_ret ?_))
    rw [r_get] at C1
    rw [an_get hk hn, if_pos (has_v (by omega) hj hz).1, (has_v (by omega) hj hz).2]
    have W1_0 := W.fk F1 (by unfold nm; omega)
    refine wp_istore (i := 7) (lv' := [(7, vi (elv V k j)), (6, vi (nI j)), (5, vi (nI j)), (4, vi (nI 1)), (3, vi (nI 0)), (0, vr (some (nm 40 0))), (1, vi (nI k)), (2, vr (some (nm 71 r)))]) dL_isLike_179 (by decide) rfl ?_
    refine wp_iload (i := 7) dL_isLike_181 rfl ?_
    refine wp_aload_n (i := 2) dL_isLike_183 rfl rfl ?_
    refine wp_iconst (nI 2) dL_isLike_184 (by decide) ?_
    refine wp_iload (i := 5) dL_isLike_185 rfl ?_
    refine wp_iaddN dL_isLike_187 ?_
    refine wp_ialoadN 70 (elv V k j) dL_isLike_188 W1_0.1 W1_0.2.1 (by omega) (by decide) ((W1_0.2.2 (2 + j) (by omega)).trans (fj.1)) ?_
    refine wp_sipush (nI 2000) dL_isLike_189 (by decide) ?_
    refine wp_icmp_ne 201 dL_isLike_192 (by decide) (fun c_192 => ?_) (fun c_192 => absurd c_192 (sn.1))
    refine wp_aload_n (i := 2) dL_isLike_201 rfl rfl ?_
    refine wp_iconst (nI 2) dL_isLike_202 (by decide) ?_
    refine wp_iload (i := 5) dL_isLike_203 rfl ?_
    refine wp_iaddN dL_isLike_205 ?_
    refine wp_ialoadN 70 (elv V k j) dL_isLike_206 W1_0.1 W1_0.2.1 (by omega) (by decide) ((W1_0.2.2 (2 + j) (by omega)).trans (fj.1)) ?_
    refine wp_icmp_ne 266 dL_isLike_207 (by decide) (fun c_207 => absurd c_207 (fun z => z rfl)) (fun c_207 => ?_)
    refine wp_aload_n (i := 0) dL_isLike_210 rfl rfl ?_
    refine wp_iconst (nI 2) dL_isLike_211 (by decide) ?_
    refine wp_iload_n (i := 1) dL_isLike_212 rfl rfl ?_
    refine wp_iload (i := 6) dL_isLike_213 rfl ?_
    refine wp_cSH (y' := m_L_ask) [vr (some (nm 40 0)), vi (nI 2), vi (nI k), vi (nI j)] [] 6 40 dL_isLike_215 ml_L_184 st_L_ask okH_L_ask rfl (Nat.le_of_ble_eq_true rfl) rfl (Nat.le_of_ble_eq_true rfl) (d' := d - 1) (by omega) (by omega) (by omega) (q_getPlain (k := k) hk1 (j := j) (hwn (by omega)) B hc C1 (by omega) (by omega) (by omega) (fun h2 M2 ma2 mb2 C2 F2 => cont_ret ?_))
    rw [r_get] at C2
    rw [an_get hk hn, if_pos (has_v (by omega) hj hz).1, (has_v (by omega) hj hz).2]
    have W2_0 := W1_0.fk F2 (by unfold nm; omega)
    have G2 := F1.tr F2
    refine wp_iload (i := 7) dL_isLike_218 rfl ?_
    refine wp_icmp_ne 266 dL_isLike_220 (by decide) (fun c_220 => absurd c_220 (fun z => z rfl)) (fun c_220 => ?_)
    refine wp_iload_n (i := 3) dL_isLike_223 rfl rfl ?_
    refine wp_if_eqN 262 dL_isLike_224 (by decide) (by decide) (fun c_224 => ?_) (fun c_224 => absurd c_224 (by decide))
    refine wp_iconst (nI 1) dL_isLike_262 (by decide) ?_
    refine wp_goto 267 dL_isLike_263 (by decide) ?_
    refine wp_istore (i := 4) (lv' := [(4, vi (nI 1)), (7, vi (elv V k j)), (6, vi (nI j)), (5, vi (nI j)), (3, vi (nI 0)), (0, vr (some (nm 40 0))), (1, vi (nI k)), (2, vr (some (nm 71 r)))]) dL_isLike_267 (by decide) rfl ?_
    refine wp_iincN (a := j) (lv' := [(5, vi (nI (j + 1))), (4, vi (nI 1)), (7, vi (elv V k j)), (6, vi (nI j)), (3, vi (nI 0)), (0, vr (some (nm 40 0))), (1, vi (nI k)), (2, vr (some (nm 71 r)))]) 1 dL_isLike_269 rfl (by decide) (by decide) rfl ?_
    refine wp_goto 133 dL_isLike_272 (by decide) ?_
    refine wp_sub [(5, vi (nI (j + 1))), (4, vi (nI 1)), (3, vi (nI 0)), (0, vr (some (nm 40 0))), (1, vi (nI k)), (2, vr (some (nm 71 r)))] (sb_cons (.head _) (sb_cons (.tail _ (.head _)) (sb_cons (.tail _ (.tail _ (.tail _ (.tail _ (.head _))))) (sb_cons (.tail _ (.tail _ (.tail _ (.tail _ (.tail _ (.head _)))))) (sb_cons (.tail _ (.tail _ (.tail _ (.tail _ (.tail _ (.tail _ (.head _))))))) (sb_cons (.tail _ (.tail _ (.tail _ (.tail _ (.tail _ (.tail _ (.tail _ (.head _)))))))) sb_nil)))))) ?_
    exact ih (j + 1) _ _ _ _ (by omega) C2 (by omega) (by omega) (F.tr G2) W2_0 (by omega) (by omega)
set_option maxRecDepth 100000 in
set_option maxHeartbeats 4000000 in
theorem c_like_118 {G : GG} {d c n : Nat} {Q : Pst} {V : SV} {x : Nat → QIS} {R : RS} {k r : Nat} {f : Nat → Int32} (B : PU c V n x R) (hc : c ≤ 512) (hk : k < sNv V) (hP : RowP (vp V k) f) (ht : sTy V k = 118) (hd : 30 ≤ d) {h : Hp} {M bc bs : Nat} (C : CLS h V M n x R) (hM : M + 220 < 900000) (W : RWl h (nm 71 r) f) (hbc : 1250 ≤ bc) (hbs : 8200 ≤ bs) (hq : ∀ h' M', M ≤ M' → M' ≤ M + 210 → CLS h' V M' n x R → FK h h' → Q (oRet (vi (nI 1))) h') : WP G m_L_isLike d 0 (aargs 0 [vr (some (nm 40 0)), vi (nI k), vr (some (nm 71 r))]) [] h bc bs Q := by
  have hn60 := B.1.1
  have hns := @ns_le V k
  have hn : sNv V < 2 ^ 31 := by omega
  have hk1 : k < 2 ^ 31 := by omega
  have hz : sSz V k ≤ 64 := (B.1.2.1 k hk).2.1
  have f0 : f 0 = nI 118 := hP.1.trans (congrArg nI ht)
  have f1 : f 1 = nI (sSz V k) := hP.2.1
  have hp0 := ns_pos B.1 hk (by omega)
  refine wp_sub [(0, vr (some (nm 40 0))), (1, vi (nI k)), (2, vr (some (nm 71 r)))] (fun _ hz => hz) ?_
  refine wp_aload_n (i := 2) dL_isLike_0 rfl rfl ?_
  refine wp_iconst (nI 0) dL_isLike_1 (by decide) ?_
  refine wp_ialoadN 70 (nI 118) dL_isLike_2 W.1 W.2.1 (by decide) (by decide) ((W.2.2 0 (by decide)).trans (f0)) ?_
  refine wp_bipush (nI 109) dL_isLike_3 (by decide) ?_
  refine wp_icmp_neN 12 dL_isLike_5 (by decide) (by decide) (by decide) (fun c_5 => ?_) (fun c_5 => absurd c_5 (by decide))
  refine wp_iconst (nI 0) dL_isLike_12 (by decide) ?_
  refine wp_istore_n (i := 3) (lv' := [(3, vi (nI 0)), (0, vr (some (nm 40 0))), (1, vi (nI k)), (2, vr (some (nm 71 r)))]) dL_isLike_13 rfl (by decide) rfl ?_
  refine wp_aload_n (i := 0) dL_isLike_14 rfl rfl ?_
  refine wp_iconst (nI 4) dL_isLike_15 (by decide) ?_
  refine wp_iload_n (i := 1) dL_isLike_16 rfl rfl ?_
  refine wp_iconst (nI 0) dL_isLike_17 (by decide) ?_
  refine wp_cSH (y' := m_L_ask) [vr (some (nm 40 0)), vi (nI 4), vi (nI k), vi (nI 0)] [] 6 40 dL_isLike_18 ml_L_184 st_L_ask okH_L_ask rfl (Nat.le_of_ble_eq_true rfl) rfl (Nat.le_of_ble_eq_true rfl) (d' := d - 1) (by omega) (by omega) (by omega) (q_size (k := k) hk1 B hc C (by omega) (by omega) (by omega) (fun h1 M1 ma1 mb1 C1 F1 => cont_ret ?_))
  rw [r_size] at C1
  rw [an_size hk hn]
  have W1_0 := W.fk F1 (by unfold nm; omega)
  refine wp_aload_n (i := 2) dL_isLike_21 rfl rfl ?_
  refine wp_iconst (nI 1) dL_isLike_22 (by decide) ?_
  refine wp_ialoadN 70 (nI (sSz V k)) dL_isLike_23 W1_0.1 W1_0.2.1 (by decide) (by decide) ((W1_0.2.2 1 (by decide)).trans (f1)) ?_
  refine wp_icmp_neN 127 dL_isLike_24 (by decide) (by omega) (by omega) (fun c_24 => absurd c_24 (by omega)) (fun c_24 => ?_)
  refine wp_aload_n (i := 0) dL_isLike_27 rfl rfl ?_
  refine wp_bipush (nI 16) dL_isLike_28 (by decide) ?_
  refine wp_iload_n (i := 1) dL_isLike_30 rfl rfl ?_
  refine wp_iconst (nI 0) dL_isLike_31 (by decide) ?_
  refine wp_cSH (y' := m_L_ask) [vr (some (nm 40 0)), vi (nI 16), vi (nI k), vi (nI 0)] [] 6 40 dL_isLike_32 ml_L_184 st_L_ask okH_L_ask rfl (Nat.le_of_ble_eq_true rfl) rfl (Nat.le_of_ble_eq_true rfl) (d' := d - 1) (by omega) (by omega) (by omega) (q_isOpen (k := k) hk1 B hc C1 (by omega) (by omega) (by omega) (fun h2 M2 ma2 mb2 C2 F2 => cont_ret ?_))
  rw [r_isOpen] at C2
  rw [an_isOpen hk hn, ht]
  rw [show bI (decide (118 = 111)) = nI 0 from rfl]
  have W2_0 := W1_0.fk F2 (by unfold nm; omega)
  have G2 := F1.tr F2
  refine wp_aload_n (i := 2) dL_isLike_35 rfl rfl ?_
  refine wp_iconst (nI 0) dL_isLike_36 (by decide) ?_
  refine wp_ialoadN 70 (nI 118) dL_isLike_37 W2_0.1 W2_0.2.1 (by decide) (by decide) ((W2_0.2.2 0 (by decide)).trans (f0)) ?_
  refine wp_bipush (nI 111) dL_isLike_38 (by decide) ?_
  refine wp_icmp_neN 47 dL_isLike_40 (by decide) (by decide) (by decide) (fun c_40 => ?_) (fun c_40 => absurd c_40 (by decide))
  refine wp_iconst (nI 0) dL_isLike_47 (by decide) ?_
  refine wp_cS (y' := m_L_told) [vi (bI false)] [vi (nI 0)] 0 0 dL_isLike_48 ml_L_83 st_L_told ok_L_told rfl (Nat.le_of_ble_eq_true rfl) rfl (Nat.le_of_ble_eq_true rfl) (d' := d - 1) (by omega) (Nat.zero_le _) (Nat.zero_le _) (c_L_told (b := false) (cont_ret ?_))
  refine wp_icmp_neN 127 dL_isLike_51 (by decide) (by decide) (by decide) (fun c_51 => absurd c_51 (by decide)) (fun c_51 => ?_)
  refine wp_aload_n (i := 0) dL_isLike_54 rfl rfl ?_
  refine wp_iconst (nI 0) dL_isLike_55 (by decide) ?_
  refine wp_iload_n (i := 1) dL_isLike_56 rfl rfl ?_
  refine wp_iconst (nI 0) dL_isLike_57 (by decide) ?_
  refine wp_cSH (y' := m_L_ask) [vr (some (nm 40 0)), vi (nI 0), vi (nI k), vi (nI 0)] [] 6 40 dL_isLike_58 ml_L_184 st_L_ask okH_L_ask rfl (Nat.le_of_ble_eq_true rfl) rfl (Nat.le_of_ble_eq_true rfl) (d' := d - 1) (by omega) (by omega) (by omega) (q_depth (k := k) hk1 B hc C2 (by omega) (by omega) (by omega) (fun h3 M3 ma3 mb3 C3 F3 => cont_ret ?_))
  rw [r_depth] at C3
  rw [an_depth hk hn, vecB_v (by omega), if_pos rfl]
  have W3_0 := W2_0.fk F3 (by unfold nm; omega)
  have G3 := G2.tr F3
  refine wp_sipush (-20004) dL_isLike_61 (by decide) ?_
  refine wp_icmp_ne 71 dL_isLike_64 (by decide) (fun c_64 => ?_) (fun c_64 => absurd c_64 (dO_ne))
  refine wp_iconst (nI 0) dL_isLike_71 (by decide) ?_
  refine wp_iload_n (i := 3) dL_isLike_72 rfl rfl ?_
  refine wp_if_neN 84 dL_isLike_73 (by decide) (by decide) (fun c_73 => absurd c_73 (by decide)) (fun c_73 => ?_)
  refine wp_aload_n (i := 2) dL_isLike_76 rfl rfl ?_
  refine wp_iconst (nI 0) dL_isLike_77 (by decide) ?_
  refine wp_ialoadN 70 (nI 118) dL_isLike_78 W3_0.1 W3_0.2.1 (by decide) (by decide) ((W3_0.2.2 0 (by decide)).trans (f0)) ?_
  refine wp_bipush (nI 120) dL_isLike_79 (by decide) ?_
  refine wp_icmp_neN 88 dL_isLike_81 (by decide) (by decide) (by decide) (fun c_81 => ?_) (fun c_81 => absurd c_81 (by decide))
  refine wp_iconst (nI 0) dL_isLike_88 (by decide) ?_
  refine wp_icmp_neN 127 dL_isLike_89 (by decide) (by decide) (by decide) (fun c_89 => absurd c_89 (by decide)) (fun c_89 => ?_)
  refine wp_aload_n (i := 0) dL_isLike_92 rfl rfl ?_
  refine wp_iconst (nI 5) dL_isLike_93 (by decide) ?_
  refine wp_iload_n (i := 1) dL_isLike_94 rfl rfl ?_
  refine wp_iconst (nI 0) dL_isLike_95 (by decide) ?_
  refine wp_cSH (y' := m_L_ask) [vr (some (nm 40 0)), vi (nI 5), vi (nI k), vi (nI 0)] [] 6 40 dL_isLike_96 ml_L_184 st_L_ask okH_L_ask rfl (Nat.le_of_ble_eq_true rfl) rfl (Nat.le_of_ble_eq_true rfl) (d' := d - 1) (by omega) (by omega) (by omega) (q_nodes (k := k) hk1 B hc C3 (by omega) (by omega) (by omega) (fun h4 M4 ma4 mb4 C4 F4 => cont_ret ?_))
  rw [r_nodes] at C4
  rw [an_nodes hk hn]
  have W4_0 := W3_0.fk F4 (by unfold nm; omega)
  have G4 := G3.tr F4
  refine wp_if_leN 106 dL_isLike_99 (by decide) (by omega) (fun c_99 => absurd c_99 (by omega)) (fun c_99 => ?_)
  refine wp_iconst (nI 1) dL_isLike_102 (by decide) ?_
  refine wp_goto 107 dL_isLike_103 (by decide) ?_
  refine wp_aload_n (i := 2) dL_isLike_107 rfl rfl ?_
  refine wp_iconst (nI 0) dL_isLike_108 (by decide) ?_
  refine wp_ialoadN 70 (nI 118) dL_isLike_109 W4_0.1 W4_0.2.1 (by decide) (by decide) ((W4_0.2.2 0 (by decide)).trans (f0)) ?_
  refine wp_bipush (nI 120) dL_isLike_110 (by decide) ?_
  refine wp_icmp_eqN 119 dL_isLike_112 (by decide) (by decide) (by decide) (fun c_112 => absurd c_112 (by decide)) (fun c_112 => ?_)
  refine wp_iconst (nI 1) dL_isLike_115 (by decide) ?_
  refine wp_goto 120 dL_isLike_116 (by decide) ?_
  refine wp_icmp_neN 127 dL_isLike_120 (by decide) (by decide) (by decide) (fun c_120 => absurd c_120 (by decide)) (fun c_120 => ?_)
  refine wp_iconst (nI 1) dL_isLike_123 (by decide) ?_
  refine wp_goto 128 dL_isLike_124 (by decide) ?_
  refine wp_istore (i := 4) (lv' := [(4, vi (nI 1)), (3, vi (nI 0)), (0, vr (some (nm 40 0))), (1, vi (nI k)), (2, vr (some (nm 71 r)))]) dL_isLike_128 (by decide) rfl ?_
  refine wp_iconst (nI 0) dL_isLike_130 (by decide) ?_
  refine wp_istore (i := 5) (lv' := [(5, vi (nI 0)), (4, vi (nI 1)), (3, vi (nI 0)), (0, vr (some (nm 40 0))), (1, vi (nI k)), (2, vr (some (nm 71 r)))]) dL_isLike_131 (by decide) rfl ?_
  refine wp_sub [(5, vi (nI 0)), (4, vi (nI 1)), (3, vi (nI 0)), (0, vr (some (nm 40 0))), (1, vi (nI k)), (2, vr (some (nm 71 r)))] (sb_cons (.head _) (sb_cons (.tail _ (.head _)) (sb_cons (.tail _ (.tail _ (.head _))) (sb_cons (.tail _ (.tail _ (.tail _ (.head _)))) (sb_cons (.tail _ (.tail _ (.tail _ (.tail _ (.head _))))) (sb_cons (.tail _ (.tail _ (.tail _ (.tail _ (.tail _ (.head _)))))) sb_nil)))))) ?_
  exact l_likeL_118 B hc hk hP ht hd (M0 := M4) (by omega) (fun h9 M9 a b c e => hq h9 M9 (by omega) (by omega) c (G4.tr e)) (sSz V k) 0 _ _ _ _ (by omega) C4 (Nat.le_refl _) (by omega) FK.rf W4_0 (by omega) (by omega)
set_option maxRecDepth 100000 in
set_option maxHeartbeats 4000000 in
theorem l_likeE_111 {G : GG} {d c n : Nat} {Q : Pst} {V : SV} {x : Nat → QIS} {R : RS} {k r : Nat} {f : Nat → Int32} (B : PU c V n x R) (hc : c ≤ 512) (hk : k < sNv V) (hP : RowP (vp V k) f) (ht : sTy V k = 111) (hd : 30 ≤ d) {h : Hp} {M bc bs : Nat} (C : CLS h V M n x R) (hM : M + 10 < 900000) (W : RWl h (nm 71 r) f) (hbc : 24 ≤ bc) (hbs : 160 ≤ bs) (hq : ∀ h' M', M ≤ M' → M' ≤ M + 4 → CLS h' V M' n x R → FK h h' → Q (oRet (vi (nI 1))) h') : WP G m_L_isLike d 275 [(4, vi (nI 1)), (3, vi (nI 0)), (0, vr (some (nm 40 0))), (1, vi (nI k)), (2, vr (some (nm 71 r)))] [] h bc bs Q := by
  have hn60 := B.1.1
  have hns := @ns_le V k
  have hn : sNv V < 2 ^ 31 := by omega
  have hk1 : k < 2 ^ 31 := by omega
  have hz : sSz V k ≤ 64 := (B.1.2.1 k hk).2.1
  have f0 : f 0 = nI 111 := hP.1.trans (congrArg nI ht)
  have f1 : f 1 = nI (sSz V k) := hP.2.1
  refine wp_iload (i := 4) dL_isLike_275 rfl ?_
  refine wp_if_eqN 338 dL_isLike_277 (by decide) (by decide) (fun c_277 => absurd c_277 (by decide)) (fun c_277 => ?_)
  refine wp_aload_n (i := 0) dL_isLike_280 rfl rfl ?_
  refine wp_iconst (nI 1) dL_isLike_281 (by decide) ?_
  refine wp_iload_n (i := 1) dL_isLike_282 rfl rfl ?_
  refine wp_iload_n (i := 3) dL_isLike_283 rfl rfl ?_
  refine wp_if_eqN 291 dL_isLike_284 (by decide) (by decide) (fun c_284 => ?_) (fun c_284 => absurd c_284 (by decide))
  refine wp_aload_n (i := 2) dL_isLike_291 rfl rfl ?_
  refine wp_iconst (nI 1) dL_isLike_292 (by decide) ?_
  refine wp_ialoadN 70 (nI (sSz V k)) dL_isLike_293 W.1 W.2.1 (by decide) (by decide) ((W.2.2 1 (by decide)).trans (f1)) ?_
  refine wp_cSH (y' := m_L_ask) [vr (some (nm 40 0)), vi (nI 1), vi (nI k), vi (nI (sSz V k))] [] 6 40 dL_isLike_294 ml_L_184 st_L_ask okH_L_ask rfl (Nat.le_of_ble_eq_true rfl) rfl (Nat.le_of_ble_eq_true rfl) (d' := d - 1) (by omega) (by omega) (by omega) (q_get (k := k) hk1 (j := (sSz V k)) (hwn (by omega)) B hc C (by omega) (by omega) (by omega) (fun h1 M1 ma1 mb1 C1 F1 => cont_ret ?_))
  rw [r_get] at C1
  rw [an_get hk hn, if_neg (by rw [hasN_v (by omega) (ixB_n0 (Nat.le_refl _) (by omega))]; decide)]
  have W1_0 := W.fk F1 (by unfold nm; omega)
  refine wp_sipush (-20005) dL_isLike_297 (by decide) ?_
  refine wp_icmp_ne 338 dL_isLike_300 (by decide) (fun c_300 => absurd c_300 (fun z => z rfl)) (fun c_300 => ?_)
  refine wp_aload_n (i := 0) dL_isLike_303 rfl rfl ?_
  refine wp_iconst (nI 2) dL_isLike_304 (by decide) ?_
  refine wp_iload_n (i := 1) dL_isLike_305 rfl rfl ?_
  refine wp_iconst (-1) dL_isLike_306 (by decide) ?_
  refine wp_cSH (y' := m_L_ask) [vr (some (nm 40 0)), vi (nI 2), vi (nI k), vi (-1)] [] 6 40 dL_isLike_307 ml_L_184 st_L_ask okH_L_ask rfl (Nat.le_of_ble_eq_true rfl) rfl (Nat.le_of_ble_eq_true rfl) (d' := d - 1) (by omega) (by omega) (by omega) (q_getPlain (k := k) hk1 (w := -1) (j := 0) hwm B hc C1 (by omega) (by omega) (by omega) (fun h2 M2 ma2 mb2 C2 F2 => cont_ret ?_))
  rw [r_get] at C2
  rw [an_get hk hn, if_neg (by rw [hasN_v (by omega) (ixm (by omega))]; decide)]
  have W2_0 := W1_0.fk F2 (by unfold nm; omega)
  have G2 := F1.tr F2
  refine wp_sipush (-20005) dL_isLike_310 (by decide) ?_
  refine wp_icmp_ne 338 dL_isLike_313 (by decide) (fun c_313 => absurd c_313 (fun z => z rfl)) (fun c_313 => ?_)
  refine wp_aload_n (i := 0) dL_isLike_316 rfl rfl ?_
  refine wp_bipush (nI 6) dL_isLike_317 (by decide) ?_
  refine wp_iload_n (i := 1) dL_isLike_319 rfl rfl ?_
  refine wp_iload_n (i := 1) dL_isLike_320 rfl rfl ?_
  refine wp_cSH (y' := m_L_ask) [vr (some (nm 40 0)), vi (nI 6), vi (nI k), vi (nI k)] [] 6 40 dL_isLike_321 ml_L_184 st_L_ask okH_L_ask rfl (Nat.le_of_ble_eq_true rfl) rfl (Nat.le_of_ble_eq_true rfl) (d' := d - 1) (by omega) (by omega) (by omega) (q_shared (k := k) hk1 (k2 := k) hk1 B hc C2 (by omega) (by omega) (by omega) (by omega) (fun h3 M3 ma3 mb3 C3 F3 => cont_ret ?_))
  rw [r_shared] at C3
  rw [an_shared hk hk hn, sh_self]
  have W3_0 := W2_0.fk F3 (by unfold nm; omega)
  have G3 := G2.tr F3
  refine wp_aload_n (i := 0) dL_isLike_324 rfl rfl ?_
  refine wp_iconst (nI 5) dL_isLike_325 (by decide) ?_
  refine wp_iload_n (i := 1) dL_isLike_326 rfl rfl ?_
  refine wp_iconst (nI 0) dL_isLike_327 (by decide) ?_
  refine wp_cSH (y' := m_L_ask) [vr (some (nm 40 0)), vi (nI 5), vi (nI k), vi (nI 0)] [vi (nI (nsN V k))] 6 40 dL_isLike_328 ml_L_184 st_L_ask okH_L_ask rfl (Nat.le_of_ble_eq_true rfl) rfl (Nat.le_of_ble_eq_true rfl) (d' := d - 1) (by omega) (by omega) (by omega) (q_nodes (k := k) hk1 B hc C3 (by omega) (by omega) (by omega) (fun h4 M4 ma4 mb4 C4 F4 => cont_ret ?_))
  rw [r_nodes] at C4
  rw [an_nodes hk hn]
  have W4_0 := W3_0.fk F4 (by unfold nm; omega)
  have G4 := G3.tr F4
  refine wp_icmp_neN 338 dL_isLike_331 (by decide) (by omega) (by omega) (fun c_331 => absurd c_331 (by omega)) (fun c_331 => ?_)
  refine wp_iconst (nI 1) dL_isLike_334 (by decide) ?_
  refine wp_goto 339 dL_isLike_335 (by decide) ?_
  refine wp_zreturn dL_isLike_339 rfl (by decide) ?_
  exact hq _ _ (by omega) (by omega) C4 G4
set_option maxRecDepth 100000 in
set_option maxHeartbeats 4000000 in
theorem l_likeL_111 {G : GG} {d c n : Nat} {Q : Pst} {V : SV} {x : Nat → QIS} {R : RS} {k r : Nat} {f : Nat → Int32} (B : PU c V n x R) (hc : c ≤ 512) (hk : k < sNv V) (hP : RowP (vp V k) f) (ht : sTy V k = 111) (hd : 30 ≤ d) {h0 : Hp} {M0 : Nat} (hM : M0 + 210 < 900000) (hq : ∀ h' M', M0 ≤ M' → M' ≤ M0 + 196 → CLS h' V M' n x R → FK h0 h' → Q (oRet (vi (nI 1))) h') : ∀ m j h M bc bs, m + j = sSz V k → CLS h V M n x R → M0 ≤ M → M ≤ M0 + 3 * j → FK h0 h → RWl h (nm 71 r) f → 18 * m + 24 ≤ bc → 120 * m + 160 ≤ bs → WP G m_L_isLike d 133 [(5, vi (nI j)), (4, vi (nI 1)), (3, vi (nI 0)), (0, vr (some (nm 40 0))), (1, vi (nI k)), (2, vr (some (nm 71 r)))] [] h bc bs Q := by
  have hn60 := B.1.1
  have hns := @ns_le V k
  have hn : sNv V < 2 ^ 31 := by omega
  have hk1 : k < 2 ^ 31 := by omega
  have hz : sSz V k ≤ 64 := (B.1.2.1 k hk).2.1
  have f0 : f 0 = nI 111 := hP.1.trans (congrArg nI ht)
  have f1 : f 1 = nI (sSz V k) := hP.2.1
  intro m
  induction m with
  | zero =>
    intro j h M bc bs hj C m1 m2 F W hbc hbs
    refine wp_iload (i := 5) dL_isLike_133 rfl ?_
    refine wp_iload_n (i := 3) dL_isLike_135 rfl rfl ?_
    refine wp_if_eqN 144 dL_isLike_136 (by decide) (by decide) (fun c_136 => ?_) (fun c_136 => absurd c_136 (by decide))
    refine wp_aload_n (i := 2) dL_isLike_144 rfl rfl ?_
    refine wp_iconst (nI 1) dL_isLike_145 (by decide) ?_
    refine wp_ialoadN 70 (nI (sSz V k)) dL_isLike_146 W.1 W.2.1 (by decide) (by decide) ((W.2.2 1 (by decide)).trans (f1)) ?_
    refine wp_icmp_geN 275 dL_isLike_147 (by decide) (by omega) (by omega) (fun c_147 => ?_) (fun c_147 => absurd c_147 (by omega))
    refine wp_sub [(4, vi (nI 1)), (3, vi (nI 0)), (0, vr (some (nm 40 0))), (1, vi (nI k)), (2, vr (some (nm 71 r)))] (sb_cons (.tail _ (.head _)) (sb_cons (.tail _ (.tail _ (.head _))) (sb_cons (.tail _ (.tail _ (.tail _ (.head _)))) (sb_cons (.tail _ (.tail _ (.tail _ (.tail _ (.head _))))) (sb_cons (.tail _ (.tail _ (.tail _ (.tail _ (.tail _ (.head _)))))) sb_nil))))) ?_
    exact l_likeE_111 B hc hk hP ht hd C (by omega) W (by omega) (by omega) (fun h9 M9 a b c e => hq h9 M9 (by omega) (by omega) c (F.tr e))
  | succ m ih =>
    intro j h M bc bs hj0 C m1 m2 F W hbc hbs
    have hj : j < sSz V k := by omega
    have fj := hP.2.2.1 (Or.inr ht) j hj
    have sn := smE_ne fj.2
    refine wp_iload (i := 5) dL_isLike_133 rfl ?_
    refine wp_iload_n (i := 3) dL_isLike_135 rfl rfl ?_
    refine wp_if_eqN 144 dL_isLike_136 (by decide) (by decide) (fun c_136 => ?_) (fun c_136 => absurd c_136 (by decide))
    refine wp_aload_n (i := 2) dL_isLike_144 rfl rfl ?_
    refine wp_iconst (nI 1) dL_isLike_145 (by decide) ?_
    refine wp_ialoadN 70 (nI (sSz V k)) dL_isLike_146 W.1 W.2.1 (by decide) (by decide) ((W.2.2 1 (by decide)).trans (f1)) ?_
    refine wp_icmp_geN 275 dL_isLike_147 (by decide) (by omega) (by omega) (fun c_147 => absurd c_147 (by omega)) (fun c_147 => ?_)
    refine wp_iload (i := 4) dL_isLike_150 rfl ?_
    refine wp_if_eqN 275 dL_isLike_152 (by decide) (by decide) (fun c_152 => absurd c_152 (by decide)) (fun c_152 => ?_)
    refine wp_iload_n (i := 3) dL_isLike_155 rfl rfl ?_
    refine wp_if_eqN 167 dL_isLike_156 (by decide) (by decide) (fun c_156 => ?_) (fun c_156 => absurd c_156 (by decide))
    refine wp_iload (i := 5) dL_isLike_167 rfl ?_
    refine wp_istore (i := 6) (lv' := [(6, vi (nI j)), (5, vi (nI j)), (4, vi (nI 1)), (3, vi (nI 0)), (0, vr (some (nm 40 0))), (1, vi (nI k)), (2, vr (some (nm 71 r)))]) dL_isLike_169 (by decide) rfl ?_
    refine wp_aload_n (i := 0) dL_isLike_171 rfl rfl ?_
    refine wp_iconst (nI 1) dL_isLike_172 (by decide) ?_
    refine wp_iload_n (i := 1) dL_isLike_173 rfl rfl ?_
    refine wp_iload (i := 6) dL_isLike_174 rfl ?_
    refine wp_cSH (y' := m_L_ask) [vr (some (nm 40 0)), vi (nI 1), vi (nI k), vi (nI j)] [] 6 40 dL_isLike_176 ml_L_184 st_L_ask okH_L_ask rfl (Nat.le_of_ble_eq_true rfl) rfl (Nat.le_of_ble_eq_true rfl) (d' := d - 1) (by omega) (by omega) (by omega) (q_get (k := k) hk1 (j := j) (hwn (by omega)) B hc C (by omega) (by omega) (by omega) (fun h1 M1 ma1 mb1 C1 F1 => cont_ret ?_))
    rw [r_get] at C1
    rw [an_get hk hn, if_pos (has_v (by omega) hj hz).1, (has_v (by omega) hj hz).2]
    have W1_0 := W.fk F1 (by unfold nm; omega)
    refine wp_istore (i := 7) (lv' := [(7, vi (elv V k j)), (6, vi (nI j)), (5, vi (nI j)), (4, vi (nI 1)), (3, vi (nI 0)), (0, vr (some (nm 40 0))), (1, vi (nI k)), (2, vr (some (nm 71 r)))]) dL_isLike_179 (by decide) rfl ?_
    refine wp_iload (i := 7) dL_isLike_181 rfl ?_
    refine wp_aload_n (i := 2) dL_isLike_183 rfl rfl ?_
    refine wp_iconst (nI 2) dL_isLike_184 (by decide) ?_
    refine wp_iload (i := 5) dL_isLike_185 rfl ?_
    refine wp_iaddN dL_isLike_187 ?_
    refine wp_ialoadN 70 (elv V k j) dL_isLike_188 W1_0.1 W1_0.2.1 (by omega) (by decide) ((W1_0.2.2 (2 + j) (by omega)).trans (fj.1)) ?_
    refine wp_sipush (nI 2000) dL_isLike_189 (by decide) ?_
    refine wp_icmp_ne 201 dL_isLike_192 (by decide) (fun c_192 => ?_) (fun c_192 => absurd c_192 (sn.1))
    refine wp_aload_n (i := 2) dL_isLike_201 rfl rfl ?_
    refine wp_iconst (nI 2) dL_isLike_202 (by decide) ?_
    refine wp_iload (i := 5) dL_isLike_203 rfl ?_
    refine wp_iaddN dL_isLike_205 ?_
    refine wp_ialoadN 70 (elv V k j) dL_isLike_206 W1_0.1 W1_0.2.1 (by omega) (by decide) ((W1_0.2.2 (2 + j) (by omega)).trans (fj.1)) ?_
    refine wp_icmp_ne 266 dL_isLike_207 (by decide) (fun c_207 => absurd c_207 (fun z => z rfl)) (fun c_207 => ?_)
    refine wp_aload_n (i := 0) dL_isLike_210 rfl rfl ?_
    refine wp_iconst (nI 2) dL_isLike_211 (by decide) ?_
    refine wp_iload_n (i := 1) dL_isLike_212 rfl rfl ?_
    refine wp_iload (i := 6) dL_isLike_213 rfl ?_
    refine wp_cSH (y' := m_L_ask) [vr (some (nm 40 0)), vi (nI 2), vi (nI k), vi (nI j)] [] 6 40 dL_isLike_215 ml_L_184 st_L_ask okH_L_ask rfl (Nat.le_of_ble_eq_true rfl) rfl (Nat.le_of_ble_eq_true rfl) (d' := d - 1) (by omega) (by omega) (by omega) (q_getPlain (k := k) hk1 (j := j) (hwn (by omega)) B hc C1 (by omega) (by omega) (by omega) (fun h2 M2 ma2 mb2 C2 F2 => cont_ret ?_))
    rw [r_get] at C2
    rw [an_get hk hn, if_pos (has_v (by omega) hj hz).1, (has_v (by omega) hj hz).2]
    have W2_0 := W1_0.fk F2 (by unfold nm; omega)
    have G2 := F1.tr F2
    refine wp_iload (i := 7) dL_isLike_218 rfl ?_
    refine wp_icmp_ne 266 dL_isLike_220 (by decide) (fun c_220 => absurd c_220 (fun z => z rfl)) (fun c_220 => ?_)
    refine wp_iload_n (i := 3) dL_isLike_223 rfl rfl ?_
    refine wp_if_eqN 262 dL_isLike_224 (by decide) (by decide) (fun c_224 => ?_) (fun c_224 => absurd c_224 (by decide))
    refine wp_iconst (nI 1) dL_isLike_262 (by decide) ?_
    refine wp_goto 267 dL_isLike_263 (by decide) ?_
    refine wp_istore (i := 4) (lv' := [(4, vi (nI 1)), (7, vi (elv V k j)), (6, vi (nI j)), (5, vi (nI j)), (3, vi (nI 0)), (0, vr (some (nm 40 0))), (1, vi (nI k)), (2, vr (some (nm 71 r)))]) dL_isLike_267 (by decide) rfl ?_
    refine wp_iincN (a := j) (lv' := [(5, vi (nI (j + 1))), (4, vi (nI 1)), (7, vi (elv V k j)), (6, vi (nI j)), (3, vi (nI 0)), (0, vr (some (nm 40 0))), (1, vi (nI k)), (2, vr (some (nm 71 r)))]) 1 dL_isLike_269 rfl (by decide) (by decide) rfl ?_
    refine wp_goto 133 dL_isLike_272 (by decide) ?_
    refine wp_sub [(5, vi (nI (j + 1))), (4, vi (nI 1)), (3, vi (nI 0)), (0, vr (some (nm 40 0))), (1, vi (nI k)), (2, vr (some (nm 71 r)))] (sb_cons (.head _) (sb_cons (.tail _ (.head _)) (sb_cons (.tail _ (.tail _ (.tail _ (.tail _ (.head _))))) (sb_cons (.tail _ (.tail _ (.tail _ (.tail _ (.tail _ (.head _)))))) (sb_cons (.tail _ (.tail _ (.tail _ (.tail _ (.tail _ (.tail _ (.head _))))))) (sb_cons (.tail _ (.tail _ (.tail _ (.tail _ (.tail _ (.tail _ (.tail _ (.head _)))))))) sb_nil)))))) ?_
    exact ih (j + 1) _ _ _ _ (by omega) C2 (by omega) (by omega) (F.tr G2) W2_0 (by omega) (by omega)
set_option maxRecDepth 100000 in
set_option maxHeartbeats 4000000 in
theorem c_like_111 {G : GG} {d c n : Nat} {Q : Pst} {V : SV} {x : Nat → QIS} {R : RS} {k r : Nat} {f : Nat → Int32} (B : PU c V n x R) (hc : c ≤ 512) (hk : k < sNv V) (hP : RowP (vp V k) f) (ht : sTy V k = 111) (hd : 30 ≤ d) {h : Hp} {M bc bs : Nat} (C : CLS h V M n x R) (hM : M + 220 < 900000) (W : RWl h (nm 71 r) f) (hbc : 1250 ≤ bc) (hbs : 8200 ≤ bs) (hq : ∀ h' M', M ≤ M' → M' ≤ M + 210 → CLS h' V M' n x R → FK h h' → Q (oRet (vi (nI 1))) h') : WP G m_L_isLike d 0 (aargs 0 [vr (some (nm 40 0)), vi (nI k), vr (some (nm 71 r))]) [] h bc bs Q := by
  have hn60 := B.1.1
  have hns := @ns_le V k
  have hn : sNv V < 2 ^ 31 := by omega
  have hk1 : k < 2 ^ 31 := by omega
  have hz : sSz V k ≤ 64 := (B.1.2.1 k hk).2.1
  have f0 : f 0 = nI 111 := hP.1.trans (congrArg nI ht)
  have f1 : f 1 = nI (sSz V k) := hP.2.1
  have hp0 := ns_pos B.1 hk (by omega)
  refine wp_sub [(0, vr (some (nm 40 0))), (1, vi (nI k)), (2, vr (some (nm 71 r)))] (fun _ hz => hz) ?_
  refine wp_aload_n (i := 2) dL_isLike_0 rfl rfl ?_
  refine wp_iconst (nI 0) dL_isLike_1 (by decide) ?_
  refine wp_ialoadN 70 (nI 111) dL_isLike_2 W.1 W.2.1 (by decide) (by decide) ((W.2.2 0 (by decide)).trans (f0)) ?_
  refine wp_bipush (nI 109) dL_isLike_3 (by decide) ?_
  refine wp_icmp_neN 12 dL_isLike_5 (by decide) (by decide) (by decide) (fun c_5 => ?_) (fun c_5 => absurd c_5 (by decide))
  refine wp_iconst (nI 0) dL_isLike_12 (by decide) ?_
  refine wp_istore_n (i := 3) (lv' := [(3, vi (nI 0)), (0, vr (some (nm 40 0))), (1, vi (nI k)), (2, vr (some (nm 71 r)))]) dL_isLike_13 rfl (by decide) rfl ?_
  refine wp_aload_n (i := 0) dL_isLike_14 rfl rfl ?_
  refine wp_iconst (nI 4) dL_isLike_15 (by decide) ?_
  refine wp_iload_n (i := 1) dL_isLike_16 rfl rfl ?_
  refine wp_iconst (nI 0) dL_isLike_17 (by decide) ?_
  refine wp_cSH (y' := m_L_ask) [vr (some (nm 40 0)), vi (nI 4), vi (nI k), vi (nI 0)] [] 6 40 dL_isLike_18 ml_L_184 st_L_ask okH_L_ask rfl (Nat.le_of_ble_eq_true rfl) rfl (Nat.le_of_ble_eq_true rfl) (d' := d - 1) (by omega) (by omega) (by omega) (q_size (k := k) hk1 B hc C (by omega) (by omega) (by omega) (fun h1 M1 ma1 mb1 C1 F1 => cont_ret ?_))
  rw [r_size] at C1
  rw [an_size hk hn]
  have W1_0 := W.fk F1 (by unfold nm; omega)
  refine wp_aload_n (i := 2) dL_isLike_21 rfl rfl ?_
  refine wp_iconst (nI 1) dL_isLike_22 (by decide) ?_
  refine wp_ialoadN 70 (nI (sSz V k)) dL_isLike_23 W1_0.1 W1_0.2.1 (by decide) (by decide) ((W1_0.2.2 1 (by decide)).trans (f1)) ?_
  refine wp_icmp_neN 127 dL_isLike_24 (by decide) (by omega) (by omega) (fun c_24 => absurd c_24 (by omega)) (fun c_24 => ?_)
  refine wp_aload_n (i := 0) dL_isLike_27 rfl rfl ?_
  refine wp_bipush (nI 16) dL_isLike_28 (by decide) ?_
  refine wp_iload_n (i := 1) dL_isLike_30 rfl rfl ?_
  refine wp_iconst (nI 0) dL_isLike_31 (by decide) ?_
  refine wp_cSH (y' := m_L_ask) [vr (some (nm 40 0)), vi (nI 16), vi (nI k), vi (nI 0)] [] 6 40 dL_isLike_32 ml_L_184 st_L_ask okH_L_ask rfl (Nat.le_of_ble_eq_true rfl) rfl (Nat.le_of_ble_eq_true rfl) (d' := d - 1) (by omega) (by omega) (by omega) (q_isOpen (k := k) hk1 B hc C1 (by omega) (by omega) (by omega) (fun h2 M2 ma2 mb2 C2 F2 => cont_ret ?_))
  rw [r_isOpen] at C2
  rw [an_isOpen hk hn, ht]
  rw [show bI (decide (111 = 111)) = nI 1 from rfl]
  have W2_0 := W1_0.fk F2 (by unfold nm; omega)
  have G2 := F1.tr F2
  refine wp_aload_n (i := 2) dL_isLike_35 rfl rfl ?_
  refine wp_iconst (nI 0) dL_isLike_36 (by decide) ?_
  refine wp_ialoadN 70 (nI 111) dL_isLike_37 W2_0.1 W2_0.2.1 (by decide) (by decide) ((W2_0.2.2 0 (by decide)).trans (f0)) ?_
  refine wp_bipush (nI 111) dL_isLike_38 (by decide) ?_
  refine wp_icmp_neN 47 dL_isLike_40 (by decide) (by decide) (by decide) (fun c_40 => absurd c_40 (by decide)) (fun c_40 => ?_)
  refine wp_iconst (nI 1) dL_isLike_43 (by decide) ?_
  refine wp_goto 48 dL_isLike_44 (by decide) ?_
  refine wp_cS (y' := m_L_told) [vi (bI true)] [vi (nI 1)] 0 0 dL_isLike_48 ml_L_83 st_L_told ok_L_told rfl (Nat.le_of_ble_eq_true rfl) rfl (Nat.le_of_ble_eq_true rfl) (d' := d - 1) (by omega) (Nat.zero_le _) (Nat.zero_le _) (c_L_told (b := true) (cont_ret ?_))
  refine wp_icmp_neN 127 dL_isLike_51 (by decide) (by decide) (by decide) (fun c_51 => absurd c_51 (by decide)) (fun c_51 => ?_)
  refine wp_aload_n (i := 0) dL_isLike_54 rfl rfl ?_
  refine wp_iconst (nI 0) dL_isLike_55 (by decide) ?_
  refine wp_iload_n (i := 1) dL_isLike_56 rfl rfl ?_
  refine wp_iconst (nI 0) dL_isLike_57 (by decide) ?_
  refine wp_cSH (y' := m_L_ask) [vr (some (nm 40 0)), vi (nI 0), vi (nI k), vi (nI 0)] [] 6 40 dL_isLike_58 ml_L_184 st_L_ask okH_L_ask rfl (Nat.le_of_ble_eq_true rfl) rfl (Nat.le_of_ble_eq_true rfl) (d' := d - 1) (by omega) (by omega) (by omega) (q_depth (k := k) hk1 B hc C2 (by omega) (by omega) (by omega) (fun h3 M3 ma3 mb3 C3 F3 => cont_ret ?_))
  rw [r_depth] at C3
  rw [an_depth hk hn, vecB_v (by omega), if_pos rfl]
  have W3_0 := W2_0.fk F3 (by unfold nm; omega)
  have G3 := G2.tr F3
  refine wp_sipush (-20004) dL_isLike_61 (by decide) ?_
  refine wp_icmp_ne 71 dL_isLike_64 (by decide) (fun c_64 => ?_) (fun c_64 => absurd c_64 (dO_ne))
  refine wp_iconst (nI 0) dL_isLike_71 (by decide) ?_
  refine wp_iload_n (i := 3) dL_isLike_72 rfl rfl ?_
  refine wp_if_neN 84 dL_isLike_73 (by decide) (by decide) (fun c_73 => absurd c_73 (by decide)) (fun c_73 => ?_)
  refine wp_aload_n (i := 2) dL_isLike_76 rfl rfl ?_
  refine wp_iconst (nI 0) dL_isLike_77 (by decide) ?_
  refine wp_ialoadN 70 (nI 111) dL_isLike_78 W3_0.1 W3_0.2.1 (by decide) (by decide) ((W3_0.2.2 0 (by decide)).trans (f0)) ?_
  refine wp_bipush (nI 120) dL_isLike_79 (by decide) ?_
  refine wp_icmp_neN 88 dL_isLike_81 (by decide) (by decide) (by decide) (fun c_81 => ?_) (fun c_81 => absurd c_81 (by decide))
  refine wp_iconst (nI 0) dL_isLike_88 (by decide) ?_
  refine wp_icmp_neN 127 dL_isLike_89 (by decide) (by decide) (by decide) (fun c_89 => absurd c_89 (by decide)) (fun c_89 => ?_)
  refine wp_aload_n (i := 0) dL_isLike_92 rfl rfl ?_
  refine wp_iconst (nI 5) dL_isLike_93 (by decide) ?_
  refine wp_iload_n (i := 1) dL_isLike_94 rfl rfl ?_
  refine wp_iconst (nI 0) dL_isLike_95 (by decide) ?_
  refine wp_cSH (y' := m_L_ask) [vr (some (nm 40 0)), vi (nI 5), vi (nI k), vi (nI 0)] [] 6 40 dL_isLike_96 ml_L_184 st_L_ask okH_L_ask rfl (Nat.le_of_ble_eq_true rfl) rfl (Nat.le_of_ble_eq_true rfl) (d' := d - 1) (by omega) (by omega) (by omega) (q_nodes (k := k) hk1 B hc C3 (by omega) (by omega) (by omega) (fun h4 M4 ma4 mb4 C4 F4 => cont_ret ?_))
  rw [r_nodes] at C4
  rw [an_nodes hk hn]
  have W4_0 := W3_0.fk F4 (by unfold nm; omega)
  have G4 := G3.tr F4
  refine wp_if_leN 106 dL_isLike_99 (by decide) (by omega) (fun c_99 => absurd c_99 (by omega)) (fun c_99 => ?_)
  refine wp_iconst (nI 1) dL_isLike_102 (by decide) ?_
  refine wp_goto 107 dL_isLike_103 (by decide) ?_
  refine wp_aload_n (i := 2) dL_isLike_107 rfl rfl ?_
  refine wp_iconst (nI 0) dL_isLike_108 (by decide) ?_
  refine wp_ialoadN 70 (nI 111) dL_isLike_109 W4_0.1 W4_0.2.1 (by decide) (by decide) ((W4_0.2.2 0 (by decide)).trans (f0)) ?_
  refine wp_bipush (nI 120) dL_isLike_110 (by decide) ?_
  refine wp_icmp_eqN 119 dL_isLike_112 (by decide) (by decide) (by decide) (fun c_112 => absurd c_112 (by decide)) (fun c_112 => ?_)
  refine wp_iconst (nI 1) dL_isLike_115 (by decide) ?_
  refine wp_goto 120 dL_isLike_116 (by decide) ?_
  refine wp_icmp_neN 127 dL_isLike_120 (by decide) (by decide) (by decide) (fun c_120 => absurd c_120 (by decide)) (fun c_120 => ?_)
  refine wp_iconst (nI 1) dL_isLike_123 (by decide) ?_
  refine wp_goto 128 dL_isLike_124 (by decide) ?_
  refine wp_istore (i := 4) (lv' := [(4, vi (nI 1)), (3, vi (nI 0)), (0, vr (some (nm 40 0))), (1, vi (nI k)), (2, vr (some (nm 71 r)))]) dL_isLike_128 (by decide) rfl ?_
  refine wp_iconst (nI 0) dL_isLike_130 (by decide) ?_
  refine wp_istore (i := 5) (lv' := [(5, vi (nI 0)), (4, vi (nI 1)), (3, vi (nI 0)), (0, vr (some (nm 40 0))), (1, vi (nI k)), (2, vr (some (nm 71 r)))]) dL_isLike_131 (by decide) rfl ?_
  refine wp_sub [(5, vi (nI 0)), (4, vi (nI 1)), (3, vi (nI 0)), (0, vr (some (nm 40 0))), (1, vi (nI k)), (2, vr (some (nm 71 r)))] (sb_cons (.head _) (sb_cons (.tail _ (.head _)) (sb_cons (.tail _ (.tail _ (.head _))) (sb_cons (.tail _ (.tail _ (.tail _ (.head _)))) (sb_cons (.tail _ (.tail _ (.tail _ (.tail _ (.head _))))) (sb_cons (.tail _ (.tail _ (.tail _ (.tail _ (.tail _ (.head _)))))) sb_nil)))))) ?_
  exact l_likeL_111 B hc hk hP ht hd (M0 := M4) (by omega) (fun h9 M9 a b c e => hq h9 M9 (by omega) (by omega) c (G4.tr e)) (sSz V k) 0 _ _ _ _ (by omega) C4 (Nat.le_refl _) (by omega) FK.rf W4_0 (by omega) (by omega)
set_option maxRecDepth 100000 in
set_option maxHeartbeats 4000000 in
theorem l_likeE_109 {G : GG} {d c n : Nat} {Q : Pst} {V : SV} {x : Nat → QIS} {R : RS} {k r : Nat} {f : Nat → Int32} (B : PU c V n x R) (hc : c ≤ 512) (hk : k < sNv V) (hP : RowP (vp V k) f) (ht : sTy V k = 109) (hd : 30 ≤ d) {h : Hp} {M bc bs : Nat} (C : CLS h V M n x R) (hM : M + 10 < 900000) (W : RWl h (nm 71 r) f) (hbc : 24 ≤ bc) (hbs : 160 ≤ bs) (hq : ∀ h' M', M ≤ M' → M' ≤ M + 4 → CLS h' V M' n x R → FK h h' → Q (oRet (vi (nI 1))) h') : WP G m_L_isLike d 275 [(4, vi (nI 1)), (3, vi (nI 1)), (0, vr (some (nm 40 0))), (1, vi (nI k)), (2, vr (some (nm 71 r)))] [] h bc bs Q := by
  have hn60 := B.1.1
  have hns := @ns_le V k
  have hn : sNv V < 2 ^ 31 := by omega
  have hk1 : k < 2 ^ 31 := by omega
  have hz : sSz V k ≤ 64 := (B.1.2.1 k hk).2.1
  have f0 : f 0 = nI 109 := hP.1.trans (congrArg nI ht)
  have f1 : f 1 = nI (sSz V k) := hP.2.1
  refine wp_iload (i := 4) dL_isLike_275 rfl ?_
  refine wp_if_eqN 338 dL_isLike_277 (by decide) (by decide) (fun c_277 => absurd c_277 (by decide)) (fun c_277 => ?_)
  refine wp_aload_n (i := 0) dL_isLike_280 rfl rfl ?_
  refine wp_iconst (nI 1) dL_isLike_281 (by decide) ?_
  refine wp_iload_n (i := 1) dL_isLike_282 rfl rfl ?_
  refine wp_iload_n (i := 3) dL_isLike_283 rfl rfl ?_
  refine wp_if_eqN 291 dL_isLike_284 (by decide) (by decide) (fun c_284 => absurd c_284 (by decide)) (fun c_284 => ?_)
  refine wp_iconst (nI 1) dL_isLike_287 (by decide) ?_
  refine wp_goto 294 dL_isLike_288 (by decide) ?_
  refine wp_cSH (y' := m_L_ask) [vr (some (nm 40 0)), vi (nI 1), vi (nI k), vi (nI 1)] [] 6 40 dL_isLike_294 ml_L_184 st_L_ask okH_L_ask rfl (Nat.le_of_ble_eq_true rfl) rfl (Nat.le_of_ble_eq_true rfl) (d' := d - 1) (by omega) (by omega) (by omega) (q_get (k := k) hk1 (j := 1) (hwn (by omega)) B hc C (by omega) (by omega) (by omega) (fun h1 M1 ma1 mb1 C1 F1 => cont_ret ?_))
  rw [r_get] at C1
  rw [an_get hk hn, if_neg (by rw [(has_m ht (by decide)).1, show hsv V k 1 = false from (hP.2.2.2 ht).2.1 1 (by decide)]; decide)]
  have W1_0 := W.fk F1 (by unfold nm; omega)
  refine wp_sipush (-20005) dL_isLike_297 (by decide) ?_
  refine wp_icmp_ne 338 dL_isLike_300 (by decide) (fun c_300 => absurd c_300 (fun z => z rfl)) (fun c_300 => ?_)
  refine wp_aload_n (i := 0) dL_isLike_303 rfl rfl ?_
  refine wp_iconst (nI 2) dL_isLike_304 (by decide) ?_
  refine wp_iload_n (i := 1) dL_isLike_305 rfl rfl ?_
  refine wp_iconst (-1) dL_isLike_306 (by decide) ?_
  refine wp_cSH (y' := m_L_ask) [vr (some (nm 40 0)), vi (nI 2), vi (nI k), vi (-1)] [] 6 40 dL_isLike_307 ml_L_184 st_L_ask okH_L_ask rfl (Nat.le_of_ble_eq_true rfl) rfl (Nat.le_of_ble_eq_true rfl) (d' := d - 1) (by omega) (by omega) (by omega) (q_getPlain (k := k) hk1 (w := -1) (j := 0) hwm B hc C1 (by omega) (by omega) (by omega) (fun h2 M2 ma2 mb2 C2 F2 => cont_ret ?_))
  rw [r_get] at C2
  rw [an_get hk hn, if_neg (by rw [hasN_m ht (ixm (by decide))]; decide)]
  have W2_0 := W1_0.fk F2 (by unfold nm; omega)
  have G2 := F1.tr F2
  refine wp_sipush (-20005) dL_isLike_310 (by decide) ?_
  refine wp_icmp_ne 338 dL_isLike_313 (by decide) (fun c_313 => absurd c_313 (fun z => z rfl)) (fun c_313 => ?_)
  refine wp_aload_n (i := 0) dL_isLike_316 rfl rfl ?_
  refine wp_bipush (nI 6) dL_isLike_317 (by decide) ?_
  refine wp_iload_n (i := 1) dL_isLike_319 rfl rfl ?_
  refine wp_iload_n (i := 1) dL_isLike_320 rfl rfl ?_
  refine wp_cSH (y' := m_L_ask) [vr (some (nm 40 0)), vi (nI 6), vi (nI k), vi (nI k)] [] 6 40 dL_isLike_321 ml_L_184 st_L_ask okH_L_ask rfl (Nat.le_of_ble_eq_true rfl) rfl (Nat.le_of_ble_eq_true rfl) (d' := d - 1) (by omega) (by omega) (by omega) (q_shared (k := k) hk1 (k2 := k) hk1 B hc C2 (by omega) (by omega) (by omega) (by omega) (fun h3 M3 ma3 mb3 C3 F3 => cont_ret ?_))
  rw [r_shared] at C3
  rw [an_shared hk hk hn, sh_self]
  have W3_0 := W2_0.fk F3 (by unfold nm; omega)
  have G3 := G2.tr F3
  refine wp_aload_n (i := 0) dL_isLike_324 rfl rfl ?_
  refine wp_iconst (nI 5) dL_isLike_325 (by decide) ?_
  refine wp_iload_n (i := 1) dL_isLike_326 rfl rfl ?_
  refine wp_iconst (nI 0) dL_isLike_327 (by decide) ?_
  refine wp_cSH (y' := m_L_ask) [vr (some (nm 40 0)), vi (nI 5), vi (nI k), vi (nI 0)] [vi (nI (nsN V k))] 6 40 dL_isLike_328 ml_L_184 st_L_ask okH_L_ask rfl (Nat.le_of_ble_eq_true rfl) rfl (Nat.le_of_ble_eq_true rfl) (d' := d - 1) (by omega) (by omega) (by omega) (q_nodes (k := k) hk1 B hc C3 (by omega) (by omega) (by omega) (fun h4 M4 ma4 mb4 C4 F4 => cont_ret ?_))
  rw [r_nodes] at C4
  rw [an_nodes hk hn]
  have W4_0 := W3_0.fk F4 (by unfold nm; omega)
  have G4 := G3.tr F4
  refine wp_icmp_neN 338 dL_isLike_331 (by decide) (by omega) (by omega) (fun c_331 => absurd c_331 (by omega)) (fun c_331 => ?_)
  refine wp_iconst (nI 1) dL_isLike_334 (by decide) ?_
  refine wp_goto 339 dL_isLike_335 (by decide) ?_
  refine wp_zreturn dL_isLike_339 rfl (by decide) ?_
  exact hq _ _ (by omega) (by omega) C4 G4
set_option maxRecDepth 100000 in
set_option maxHeartbeats 4000000 in
theorem l_likeL_109 {G : GG} {d c n : Nat} {Q : Pst} {V : SV} {x : Nat → QIS} {R : RS} {k r : Nat} {f : Nat → Int32} (B : PU c V n x R) (hc : c ≤ 512) (hk : k < sNv V) (hP : RowP (vp V k) f) (ht : sTy V k = 109) (hd : 30 ≤ d) {h0 : Hp} {M0 : Nat} (hM : M0 + 210 < 900000) (hq : ∀ h' M', M0 ≤ M' → M' ≤ M0 + 196 → CLS h' V M' n x R → FK h0 h' → Q (oRet (vi (nI 1))) h') : ∀ m j h M bc bs, m + j = 40 → CLS h V M n x R → M0 ≤ M → M ≤ M0 + 3 * j → FK h0 h → RWl h (nm 71 r) f → 18 * m + 24 ≤ bc → 120 * m + 160 ≤ bs → WP G m_L_isLike d 133 [(5, vi (nI j)), (4, vi (nI 1)), (3, vi (nI 1)), (0, vr (some (nm 40 0))), (1, vi (nI k)), (2, vr (some (nm 71 r)))] [] h bc bs Q := by
  have hn60 := B.1.1
  have hns := @ns_le V k
  have hn : sNv V < 2 ^ 31 := by omega
  have hk1 : k < 2 ^ 31 := by omega
  have hz : sSz V k ≤ 64 := (B.1.2.1 k hk).2.1
  have f0 : f 0 = nI 109 := hP.1.trans (congrArg nI ht)
  have f1 : f 1 = nI (sSz V k) := hP.2.1
  intro m
  induction m with
  | zero =>
    intro j h M bc bs hj C m1 m2 F W hbc hbs
    refine wp_iload (i := 5) dL_isLike_133 rfl ?_
    refine wp_iload_n (i := 3) dL_isLike_135 rfl rfl ?_
    refine wp_if_eqN 144 dL_isLike_136 (by decide) (by decide) (fun c_136 => absurd c_136 (by decide)) (fun c_136 => ?_)
    refine wp_bipush (nI 40) dL_isLike_139 (by decide) ?_
    refine wp_goto 147 dL_isLike_141 (by decide) ?_
    refine wp_icmp_geN 275 dL_isLike_147 (by decide) (by omega) (by decide) (fun c_147 => ?_) (fun c_147 => absurd c_147 (by omega))
    refine wp_sub [(4, vi (nI 1)), (3, vi (nI 1)), (0, vr (some (nm 40 0))), (1, vi (nI k)), (2, vr (some (nm 71 r)))] (sb_cons (.tail _ (.head _)) (sb_cons (.tail _ (.tail _ (.head _))) (sb_cons (.tail _ (.tail _ (.tail _ (.head _)))) (sb_cons (.tail _ (.tail _ (.tail _ (.tail _ (.head _))))) (sb_cons (.tail _ (.tail _ (.tail _ (.tail _ (.tail _ (.head _)))))) sb_nil))))) ?_
    exact l_likeE_109 B hc hk hP ht hd C (by omega) W (by omega) (by omega) (fun h9 M9 a b c e => hq h9 M9 (by omega) (by omega) c (F.tr e))
  | succ m ih =>
    intro j h M bc bs hj0 C m1 m2 F W hbc hbs
    have hj : j < 40 := by omega
    have hmm := hP.2.2.2 ht
    have fj0 := hmm.1 j hj
    have hz40 : sSz V k ≤ 64 := hz
    by_cases hh : hsv V k (25 * j) = true
    · have fj : f (2 + j) = ofv V k (25 * j) := fj0.trans (if_pos hh)
      have sn := smE_ne (hmm.2.2 _ hh)
      refine wp_iload (i := 5) dL_isLike_133 rfl ?_
      refine wp_iload_n (i := 3) dL_isLike_135 rfl rfl ?_
      refine wp_if_eqN 144 dL_isLike_136 (by decide) (by decide) (fun c_136 => absurd c_136 (by decide)) (fun c_136 => ?_)
      refine wp_bipush (nI 40) dL_isLike_139 (by decide) ?_
      refine wp_goto 147 dL_isLike_141 (by decide) ?_
      refine wp_icmp_geN 275 dL_isLike_147 (by decide) (by omega) (by decide) (fun c_147 => absurd c_147 (by omega)) (fun c_147 => ?_)
      refine wp_iload (i := 4) dL_isLike_150 rfl ?_
      refine wp_if_eqN 275 dL_isLike_152 (by decide) (by decide) (fun c_152 => absurd c_152 (by decide)) (fun c_152 => ?_)
      refine wp_iload_n (i := 3) dL_isLike_155 rfl rfl ?_
      refine wp_if_eqN 167 dL_isLike_156 (by decide) (by decide) (fun c_156 => absurd c_156 (by decide)) (fun c_156 => ?_)
      refine wp_bipush (nI 25) dL_isLike_159 (by decide) ?_
      refine wp_iload (i := 5) dL_isLike_161 rfl ?_
      refine wp_imulN dL_isLike_163 ?_
      refine wp_goto 169 dL_isLike_164 (by decide) ?_
      refine wp_istore (i := 6) (lv' := [(6, vi (nI (25 * j))), (5, vi (nI j)), (4, vi (nI 1)), (3, vi (nI 1)), (0, vr (some (nm 40 0))), (1, vi (nI k)), (2, vr (some (nm 71 r)))]) dL_isLike_169 (by decide) rfl ?_
      refine wp_aload_n (i := 0) dL_isLike_171 rfl rfl ?_
      refine wp_iconst (nI 1) dL_isLike_172 (by decide) ?_
      refine wp_iload_n (i := 1) dL_isLike_173 rfl rfl ?_
      refine wp_iload (i := 6) dL_isLike_174 rfl ?_
      refine wp_cSH (y' := m_L_ask) [vr (some (nm 40 0)), vi (nI 1), vi (nI k), vi (nI (25 * j))] [] 6 40 dL_isLike_176 ml_L_184 st_L_ask okH_L_ask rfl (Nat.le_of_ble_eq_true rfl) rfl (Nat.le_of_ble_eq_true rfl) (d' := d - 1) (by omega) (by omega) (by omega) (q_get (k := k) hk1 (j := (25 * j)) (hwn (by omega)) B hc C (by omega) (by omega) (by omega) (fun h1 M1 ma1 mb1 C1 F1 => cont_ret ?_))
      rw [r_get] at C1
      rw [an_get hk hn, if_pos (by rw [(has_m ht (by omega)).1]; exact hh), (has_m ht (by omega)).2]
      have W1_0 := W.fk F1 (by unfold nm; omega)
      refine wp_istore (i := 7) (lv' := [(7, vi (ofv V k (25 * j))), (6, vi (nI (25 * j))), (5, vi (nI j)), (4, vi (nI 1)), (3, vi (nI 1)), (0, vr (some (nm 40 0))), (1, vi (nI k)), (2, vr (some (nm 71 r)))]) dL_isLike_179 (by decide) rfl ?_
      refine wp_iload (i := 7) dL_isLike_181 rfl ?_
      refine wp_aload_n (i := 2) dL_isLike_183 rfl rfl ?_
      refine wp_iconst (nI 2) dL_isLike_184 (by decide) ?_
      refine wp_iload (i := 5) dL_isLike_185 rfl ?_
      refine wp_iaddN dL_isLike_187 ?_
      refine wp_ialoadN 70 (ofv V k (25 * j)) dL_isLike_188 W1_0.1 W1_0.2.1 (by omega) (by decide) ((W1_0.2.2 (2 + j) (by omega)).trans (fj)) ?_
      refine wp_sipush (nI 2000) dL_isLike_189 (by decide) ?_
      refine wp_icmp_ne 201 dL_isLike_192 (by decide) (fun c_192 => ?_) (fun c_192 => absurd c_192 (sn.1))
      refine wp_aload_n (i := 2) dL_isLike_201 rfl rfl ?_
      refine wp_iconst (nI 2) dL_isLike_202 (by decide) ?_
      refine wp_iload (i := 5) dL_isLike_203 rfl ?_
      refine wp_iaddN dL_isLike_205 ?_
      refine wp_ialoadN 70 (ofv V k (25 * j)) dL_isLike_206 W1_0.1 W1_0.2.1 (by omega) (by decide) ((W1_0.2.2 (2 + j) (by omega)).trans (fj)) ?_
      refine wp_icmp_ne 266 dL_isLike_207 (by decide) (fun c_207 => absurd c_207 (fun z => z rfl)) (fun c_207 => ?_)
      refine wp_aload_n (i := 0) dL_isLike_210 rfl rfl ?_
      refine wp_iconst (nI 2) dL_isLike_211 (by decide) ?_
      refine wp_iload_n (i := 1) dL_isLike_212 rfl rfl ?_
      refine wp_iload (i := 6) dL_isLike_213 rfl ?_
      refine wp_cSH (y' := m_L_ask) [vr (some (nm 40 0)), vi (nI 2), vi (nI k), vi (nI (25 * j))] [] 6 40 dL_isLike_215 ml_L_184 st_L_ask okH_L_ask rfl (Nat.le_of_ble_eq_true rfl) rfl (Nat.le_of_ble_eq_true rfl) (d' := d - 1) (by omega) (by omega) (by omega) (q_getPlain (k := k) hk1 (j := (25 * j)) (hwn (by omega)) B hc C1 (by omega) (by omega) (by omega) (fun h2 M2 ma2 mb2 C2 F2 => cont_ret ?_))
      rw [r_get] at C2
      rw [an_get hk hn, if_pos (by rw [(has_m ht (by omega)).1]; exact hh), (has_m ht (by omega)).2]
      have W2_0 := W1_0.fk F2 (by unfold nm; omega)
      have G2 := F1.tr F2
      refine wp_iload (i := 7) dL_isLike_218 rfl ?_
      refine wp_icmp_ne 266 dL_isLike_220 (by decide) (fun c_220 => absurd c_220 (fun z => z rfl)) (fun c_220 => ?_)
      refine wp_iload_n (i := 3) dL_isLike_223 rfl rfl ?_
      refine wp_if_eqN 262 dL_isLike_224 (by decide) (by decide) (fun c_224 => absurd c_224 (by decide)) (fun c_224 => ?_)
      refine wp_aload_n (i := 0) dL_isLike_227 rfl rfl ?_
      refine wp_iconst (nI 3) dL_isLike_228 (by decide) ?_
      refine wp_iload_n (i := 1) dL_isLike_229 rfl rfl ?_
      refine wp_iload (i := 6) dL_isLike_230 rfl ?_
      refine wp_cSH (y' := m_L_ask) [vr (some (nm 40 0)), vi (nI 3), vi (nI k), vi (nI (25 * j))] [] 6 40 dL_isLike_232 ml_L_184 st_L_ask okH_L_ask rfl (Nat.le_of_ble_eq_true rfl) rfl (Nat.le_of_ble_eq_true rfl) (d' := d - 1) (by omega) (by omega) (by omega) (q_levelOf (k := k) hk1 (j := 25 * j) (hwn (by omega)) B hc C2 (by omega) (by omega) (by omega) (fun h3 M3 ma3 mb3 C3 F3 => cont_ret ?_))
      rw [r_levelOf] at C3
      rw [an_level hk hn ht, if_pos (by rw [(has_m ht (by omega)).1]; exact hh)]
      have W3_0 := W2_0.fk F3 (by unfold nm; omega)
      have G3 := G2.tr F3
      refine wp_sipush (-20005) dL_isLike_235 (by decide) ?_
      refine wp_icmp_ne 245 dL_isLike_238 (by decide) (fun c_238 => ?_) (fun c_238 => absurd c_238 (lv_ne))
      refine wp_iconst (nI 0) dL_isLike_245 (by decide) ?_
      refine wp_iload (i := 7) dL_isLike_246 rfl ?_
      refine wp_sipush (-20005) dL_isLike_248 (by decide) ?_
      refine wp_icmp_ne 258 dL_isLike_251 (by decide) (fun c_251 => ?_) (fun c_251 => absurd c_251 (sn.2))
      refine wp_iconst (nI 0) dL_isLike_258 (by decide) ?_
      refine wp_icmp_neN 266 dL_isLike_259 (by decide) (by decide) (by decide) (fun c_259 => absurd c_259 (by decide)) (fun c_259 => ?_)
      refine wp_iconst (nI 1) dL_isLike_262 (by decide) ?_
      refine wp_goto 267 dL_isLike_263 (by decide) ?_
      refine wp_istore (i := 4) (lv' := [(4, vi (nI 1)), (7, vi (ofv V k (25 * j))), (6, vi (nI (25 * j))), (5, vi (nI j)), (3, vi (nI 1)), (0, vr (some (nm 40 0))), (1, vi (nI k)), (2, vr (some (nm 71 r)))]) dL_isLike_267 (by decide) rfl ?_
      refine wp_iincN (a := j) (lv' := [(5, vi (nI (j + 1))), (4, vi (nI 1)), (7, vi (ofv V k (25 * j))), (6, vi (nI (25 * j))), (3, vi (nI 1)), (0, vr (some (nm 40 0))), (1, vi (nI k)), (2, vr (some (nm 71 r)))]) 1 dL_isLike_269 rfl (by decide) (by decide) rfl ?_
      refine wp_goto 133 dL_isLike_272 (by decide) ?_
      refine wp_sub [(5, vi (nI (j + 1))), (4, vi (nI 1)), (3, vi (nI 1)), (0, vr (some (nm 40 0))), (1, vi (nI k)), (2, vr (some (nm 71 r)))] (sb_cons (.head _) (sb_cons (.tail _ (.head _)) (sb_cons (.tail _ (.tail _ (.tail _ (.tail _ (.head _))))) (sb_cons (.tail _ (.tail _ (.tail _ (.tail _ (.tail _ (.head _)))))) (sb_cons (.tail _ (.tail _ (.tail _ (.tail _ (.tail _ (.tail _ (.head _))))))) (sb_cons (.tail _ (.tail _ (.tail _ (.tail _ (.tail _ (.tail _ (.tail _ (.head _)))))))) sb_nil)))))) ?_
      exact ih (j + 1) _ _ _ _ (by omega) C3 (by omega) (by omega) (F.tr G3) W3_0 (by omega) (by omega)
    · have hh : hsv V k (25 * j) = false := by
        cases e : hsv V k (25 * j) with
        | false => rfl
        | true => exact absurd e hh
      have fj : f (2 + j) = nI 2000 := fj0.trans (if_neg (by show ¬ hsv V k (25 * j) = true; rw [hh]; decide))
      refine wp_iload (i := 5) dL_isLike_133 rfl ?_
      refine wp_iload_n (i := 3) dL_isLike_135 rfl rfl ?_
      refine wp_if_eqN 144 dL_isLike_136 (by decide) (by decide) (fun c_136 => absurd c_136 (by decide)) (fun c_136 => ?_)
      refine wp_bipush (nI 40) dL_isLike_139 (by decide) ?_
      refine wp_goto 147 dL_isLike_141 (by decide) ?_
      refine wp_icmp_geN 275 dL_isLike_147 (by decide) (by omega) (by decide) (fun c_147 => absurd c_147 (by omega)) (fun c_147 => ?_)
      refine wp_iload (i := 4) dL_isLike_150 rfl ?_
      refine wp_if_eqN 275 dL_isLike_152 (by decide) (by decide) (fun c_152 => absurd c_152 (by decide)) (fun c_152 => ?_)
      refine wp_iload_n (i := 3) dL_isLike_155 rfl rfl ?_
      refine wp_if_eqN 167 dL_isLike_156 (by decide) (by decide) (fun c_156 => absurd c_156 (by decide)) (fun c_156 => ?_)
      refine wp_bipush (nI 25) dL_isLike_159 (by decide) ?_
      refine wp_iload (i := 5) dL_isLike_161 rfl ?_
      refine wp_imulN dL_isLike_163 ?_
      refine wp_goto 169 dL_isLike_164 (by decide) ?_
      refine wp_istore (i := 6) (lv' := [(6, vi (nI (25 * j))), (5, vi (nI j)), (4, vi (nI 1)), (3, vi (nI 1)), (0, vr (some (nm 40 0))), (1, vi (nI k)), (2, vr (some (nm 71 r)))]) dL_isLike_169 (by decide) rfl ?_
      refine wp_aload_n (i := 0) dL_isLike_171 rfl rfl ?_
      refine wp_iconst (nI 1) dL_isLike_172 (by decide) ?_
      refine wp_iload_n (i := 1) dL_isLike_173 rfl rfl ?_
      refine wp_iload (i := 6) dL_isLike_174 rfl ?_
      refine wp_cSH (y' := m_L_ask) [vr (some (nm 40 0)), vi (nI 1), vi (nI k), vi (nI (25 * j))] [] 6 40 dL_isLike_176 ml_L_184 st_L_ask okH_L_ask rfl (Nat.le_of_ble_eq_true rfl) rfl (Nat.le_of_ble_eq_true rfl) (d' := d - 1) (by omega) (by omega) (by omega) (q_get (k := k) hk1 (j := (25 * j)) (hwn (by omega)) B hc C (by omega) (by omega) (by omega) (fun h1 M1 ma1 mb1 C1 F1 => cont_ret ?_))
      rw [r_get] at C1
      rw [an_get hk hn, if_neg (by rw [(has_m ht (by omega)).1, hh]; decide)]
      have W1_0 := W.fk F1 (by unfold nm; omega)
      refine wp_istore (i := 7) (lv' := [(7, vi (-20005)), (6, vi (nI (25 * j))), (5, vi (nI j)), (4, vi (nI 1)), (3, vi (nI 1)), (0, vr (some (nm 40 0))), (1, vi (nI k)), (2, vr (some (nm 71 r)))]) dL_isLike_179 (by decide) rfl ?_
      refine wp_iload (i := 7) dL_isLike_181 rfl ?_
      refine wp_aload_n (i := 2) dL_isLike_183 rfl rfl ?_
      refine wp_iconst (nI 2) dL_isLike_184 (by decide) ?_
      refine wp_iload (i := 5) dL_isLike_185 rfl ?_
      refine wp_iaddN dL_isLike_187 ?_
      refine wp_ialoadN 70 (nI 2000) dL_isLike_188 W1_0.1 W1_0.2.1 (by omega) (by decide) ((W1_0.2.2 (2 + j) (by omega)).trans (fj)) ?_
      refine wp_sipush (nI 2000) dL_isLike_189 (by decide) ?_
      refine wp_icmp_neN 201 dL_isLike_192 (by decide) (by decide) (by decide) (fun c_192 => absurd c_192 (by decide)) (fun c_192 => ?_)
      refine wp_sipush (-20005) dL_isLike_195 (by decide) ?_
      refine wp_goto 207 dL_isLike_198 (by decide) ?_
      refine wp_icmp_ne 266 dL_isLike_207 (by decide) (fun c_207 => absurd c_207 (fun z => z rfl)) (fun c_207 => ?_)
      refine wp_aload_n (i := 0) dL_isLike_210 rfl rfl ?_
      refine wp_iconst (nI 2) dL_isLike_211 (by decide) ?_
      refine wp_iload_n (i := 1) dL_isLike_212 rfl rfl ?_
      refine wp_iload (i := 6) dL_isLike_213 rfl ?_
      refine wp_cSH (y' := m_L_ask) [vr (some (nm 40 0)), vi (nI 2), vi (nI k), vi (nI (25 * j))] [] 6 40 dL_isLike_215 ml_L_184 st_L_ask okH_L_ask rfl (Nat.le_of_ble_eq_true rfl) rfl (Nat.le_of_ble_eq_true rfl) (d' := d - 1) (by omega) (by omega) (by omega) (q_getPlain (k := k) hk1 (j := (25 * j)) (hwn (by omega)) B hc C1 (by omega) (by omega) (by omega) (fun h2 M2 ma2 mb2 C2 F2 => cont_ret ?_))
      rw [r_get] at C2
      rw [an_get hk hn, if_neg (by rw [(has_m ht (by omega)).1, hh]; decide)]
      have W2_0 := W1_0.fk F2 (by unfold nm; omega)
      have G2 := F1.tr F2
      refine wp_iload (i := 7) dL_isLike_218 rfl ?_
      refine wp_icmp_ne 266 dL_isLike_220 (by decide) (fun c_220 => absurd c_220 (fun z => z rfl)) (fun c_220 => ?_)
      refine wp_iload_n (i := 3) dL_isLike_223 rfl rfl ?_
      refine wp_if_eqN 262 dL_isLike_224 (by decide) (by decide) (fun c_224 => absurd c_224 (by decide)) (fun c_224 => ?_)
      refine wp_aload_n (i := 0) dL_isLike_227 rfl rfl ?_
      refine wp_iconst (nI 3) dL_isLike_228 (by decide) ?_
      refine wp_iload_n (i := 1) dL_isLike_229 rfl rfl ?_
      refine wp_iload (i := 6) dL_isLike_230 rfl ?_
      refine wp_cSH (y' := m_L_ask) [vr (some (nm 40 0)), vi (nI 3), vi (nI k), vi (nI (25 * j))] [] 6 40 dL_isLike_232 ml_L_184 st_L_ask okH_L_ask rfl (Nat.le_of_ble_eq_true rfl) rfl (Nat.le_of_ble_eq_true rfl) (d' := d - 1) (by omega) (by omega) (by omega) (q_levelOf (k := k) hk1 (j := 25 * j) (hwn (by omega)) B hc C2 (by omega) (by omega) (by omega) (fun h3 M3 ma3 mb3 C3 F3 => cont_ret ?_))
      rw [r_levelOf] at C3
      rw [an_level hk hn ht, if_neg (by rw [(has_m ht (by omega)).1, hh]; decide)]
      have W3_0 := W2_0.fk F3 (by unfold nm; omega)
      have G3 := G2.tr F3
      refine wp_sipush (-20005) dL_isLike_235 (by decide) ?_
      refine wp_icmp_ne 245 dL_isLike_238 (by decide) (fun c_238 => absurd c_238 (fun z => z rfl)) (fun c_238 => ?_)
      refine wp_iconst (nI 1) dL_isLike_241 (by decide) ?_
      refine wp_goto 246 dL_isLike_242 (by decide) ?_
      refine wp_iload (i := 7) dL_isLike_246 rfl ?_
      refine wp_sipush (-20005) dL_isLike_248 (by decide) ?_
      refine wp_icmp_ne 258 dL_isLike_251 (by decide) (fun c_251 => absurd c_251 (fun z => z rfl)) (fun c_251 => ?_)
      refine wp_iconst (nI 1) dL_isLike_254 (by decide) ?_
      refine wp_goto 259 dL_isLike_255 (by decide) ?_
      refine wp_icmp_neN 266 dL_isLike_259 (by decide) (by decide) (by decide) (fun c_259 => absurd c_259 (by decide)) (fun c_259 => ?_)
      refine wp_iconst (nI 1) dL_isLike_262 (by decide) ?_
      refine wp_goto 267 dL_isLike_263 (by decide) ?_
      refine wp_istore (i := 4) (lv' := [(4, vi (nI 1)), (7, vi (-20005)), (6, vi (nI (25 * j))), (5, vi (nI j)), (3, vi (nI 1)), (0, vr (some (nm 40 0))), (1, vi (nI k)), (2, vr (some (nm 71 r)))]) dL_isLike_267 (by decide) rfl ?_
      refine wp_iincN (a := j) (lv' := [(5, vi (nI (j + 1))), (4, vi (nI 1)), (7, vi (-20005)), (6, vi (nI (25 * j))), (3, vi (nI 1)), (0, vr (some (nm 40 0))), (1, vi (nI k)), (2, vr (some (nm 71 r)))]) 1 dL_isLike_269 rfl (by decide) (by decide) rfl ?_
      refine wp_goto 133 dL_isLike_272 (by decide) ?_
      refine wp_sub [(5, vi (nI (j + 1))), (4, vi (nI 1)), (3, vi (nI 1)), (0, vr (some (nm 40 0))), (1, vi (nI k)), (2, vr (some (nm 71 r)))] (sb_cons (.head _) (sb_cons (.tail _ (.head _)) (sb_cons (.tail _ (.tail _ (.tail _ (.tail _ (.head _))))) (sb_cons (.tail _ (.tail _ (.tail _ (.tail _ (.tail _ (.head _)))))) (sb_cons (.tail _ (.tail _ (.tail _ (.tail _ (.tail _ (.tail _ (.head _))))))) (sb_cons (.tail _ (.tail _ (.tail _ (.tail _ (.tail _ (.tail _ (.tail _ (.head _)))))))) sb_nil)))))) ?_
      exact ih (j + 1) _ _ _ _ (by omega) C3 (by omega) (by omega) (F.tr G3) W3_0 (by omega) (by omega)
set_option maxRecDepth 100000 in
set_option maxHeartbeats 4000000 in
theorem c_like_109 {G : GG} {d c n : Nat} {Q : Pst} {V : SV} {x : Nat → QIS} {R : RS} {k r : Nat} {f : Nat → Int32} (B : PU c V n x R) (hc : c ≤ 512) (hk : k < sNv V) (hP : RowP (vp V k) f) (ht : sTy V k = 109) (hd : 30 ≤ d) {h : Hp} {M bc bs : Nat} (C : CLS h V M n x R) (hM : M + 220 < 900000) (W : RWl h (nm 71 r) f) (hbc : 1250 ≤ bc) (hbs : 8200 ≤ bs) (hq : ∀ h' M', M ≤ M' → M' ≤ M + 210 → CLS h' V M' n x R → FK h h' → Q (oRet (vi (nI 1))) h') : WP G m_L_isLike d 0 (aargs 0 [vr (some (nm 40 0)), vi (nI k), vr (some (nm 71 r))]) [] h bc bs Q := by
  have hn60 := B.1.1
  have hns := @ns_le V k
  have hn : sNv V < 2 ^ 31 := by omega
  have hk1 : k < 2 ^ 31 := by omega
  have hz : sSz V k ≤ 64 := (B.1.2.1 k hk).2.1
  have f0 : f 0 = nI 109 := hP.1.trans (congrArg nI ht)
  have f1 : f 1 = nI (sSz V k) := hP.2.1
  have hp0 := ns_pos B.1 hk (by omega)
  refine wp_sub [(0, vr (some (nm 40 0))), (1, vi (nI k)), (2, vr (some (nm 71 r)))] (fun _ hz => hz) ?_
  refine wp_aload_n (i := 2) dL_isLike_0 rfl rfl ?_
  refine wp_iconst (nI 0) dL_isLike_1 (by decide) ?_
  refine wp_ialoadN 70 (nI 109) dL_isLike_2 W.1 W.2.1 (by decide) (by decide) ((W.2.2 0 (by decide)).trans (f0)) ?_
  refine wp_bipush (nI 109) dL_isLike_3 (by decide) ?_
  refine wp_icmp_neN 12 dL_isLike_5 (by decide) (by decide) (by decide) (fun c_5 => absurd c_5 (by decide)) (fun c_5 => ?_)
  refine wp_iconst (nI 1) dL_isLike_8 (by decide) ?_
  refine wp_goto 13 dL_isLike_9 (by decide) ?_
  refine wp_istore_n (i := 3) (lv' := [(3, vi (nI 1)), (0, vr (some (nm 40 0))), (1, vi (nI k)), (2, vr (some (nm 71 r)))]) dL_isLike_13 rfl (by decide) rfl ?_
  refine wp_aload_n (i := 0) dL_isLike_14 rfl rfl ?_
  refine wp_iconst (nI 4) dL_isLike_15 (by decide) ?_
  refine wp_iload_n (i := 1) dL_isLike_16 rfl rfl ?_
  refine wp_iconst (nI 0) dL_isLike_17 (by decide) ?_
  refine wp_cSH (y' := m_L_ask) [vr (some (nm 40 0)), vi (nI 4), vi (nI k), vi (nI 0)] [] 6 40 dL_isLike_18 ml_L_184 st_L_ask okH_L_ask rfl (Nat.le_of_ble_eq_true rfl) rfl (Nat.le_of_ble_eq_true rfl) (d' := d - 1) (by omega) (by omega) (by omega) (q_size (k := k) hk1 B hc C (by omega) (by omega) (by omega) (fun h1 M1 ma1 mb1 C1 F1 => cont_ret ?_))
  rw [r_size] at C1
  rw [an_size hk hn]
  have W1_0 := W.fk F1 (by unfold nm; omega)
  refine wp_aload_n (i := 2) dL_isLike_21 rfl rfl ?_
  refine wp_iconst (nI 1) dL_isLike_22 (by decide) ?_
  refine wp_ialoadN 70 (nI (sSz V k)) dL_isLike_23 W1_0.1 W1_0.2.1 (by decide) (by decide) ((W1_0.2.2 1 (by decide)).trans (f1)) ?_
  refine wp_icmp_neN 127 dL_isLike_24 (by decide) (by omega) (by omega) (fun c_24 => absurd c_24 (by omega)) (fun c_24 => ?_)
  refine wp_aload_n (i := 0) dL_isLike_27 rfl rfl ?_
  refine wp_bipush (nI 16) dL_isLike_28 (by decide) ?_
  refine wp_iload_n (i := 1) dL_isLike_30 rfl rfl ?_
  refine wp_iconst (nI 0) dL_isLike_31 (by decide) ?_
  refine wp_cSH (y' := m_L_ask) [vr (some (nm 40 0)), vi (nI 16), vi (nI k), vi (nI 0)] [] 6 40 dL_isLike_32 ml_L_184 st_L_ask okH_L_ask rfl (Nat.le_of_ble_eq_true rfl) rfl (Nat.le_of_ble_eq_true rfl) (d' := d - 1) (by omega) (by omega) (by omega) (q_isOpen (k := k) hk1 B hc C1 (by omega) (by omega) (by omega) (fun h2 M2 ma2 mb2 C2 F2 => cont_ret ?_))
  rw [r_isOpen] at C2
  rw [an_isOpen hk hn, ht]
  rw [show bI (decide (109 = 111)) = nI 0 from rfl]
  have W2_0 := W1_0.fk F2 (by unfold nm; omega)
  have G2 := F1.tr F2
  refine wp_aload_n (i := 2) dL_isLike_35 rfl rfl ?_
  refine wp_iconst (nI 0) dL_isLike_36 (by decide) ?_
  refine wp_ialoadN 70 (nI 109) dL_isLike_37 W2_0.1 W2_0.2.1 (by decide) (by decide) ((W2_0.2.2 0 (by decide)).trans (f0)) ?_
  refine wp_bipush (nI 111) dL_isLike_38 (by decide) ?_
  refine wp_icmp_neN 47 dL_isLike_40 (by decide) (by decide) (by decide) (fun c_40 => ?_) (fun c_40 => absurd c_40 (by decide))
  refine wp_iconst (nI 0) dL_isLike_47 (by decide) ?_
  refine wp_cS (y' := m_L_told) [vi (bI false)] [vi (nI 0)] 0 0 dL_isLike_48 ml_L_83 st_L_told ok_L_told rfl (Nat.le_of_ble_eq_true rfl) rfl (Nat.le_of_ble_eq_true rfl) (d' := d - 1) (by omega) (Nat.zero_le _) (Nat.zero_le _) (c_L_told (b := false) (cont_ret ?_))
  refine wp_icmp_neN 127 dL_isLike_51 (by decide) (by decide) (by decide) (fun c_51 => absurd c_51 (by decide)) (fun c_51 => ?_)
  refine wp_aload_n (i := 0) dL_isLike_54 rfl rfl ?_
  refine wp_iconst (nI 0) dL_isLike_55 (by decide) ?_
  refine wp_iload_n (i := 1) dL_isLike_56 rfl rfl ?_
  refine wp_iconst (nI 0) dL_isLike_57 (by decide) ?_
  refine wp_cSH (y' := m_L_ask) [vr (some (nm 40 0)), vi (nI 0), vi (nI k), vi (nI 0)] [] 6 40 dL_isLike_58 ml_L_184 st_L_ask okH_L_ask rfl (Nat.le_of_ble_eq_true rfl) rfl (Nat.le_of_ble_eq_true rfl) (d' := d - 1) (by omega) (by omega) (by omega) (q_depth (k := k) hk1 B hc C2 (by omega) (by omega) (by omega) (fun h3 M3 ma3 mb3 C3 F3 => cont_ret ?_))
  rw [r_depth] at C3
  rw [an_depth hk hn, vecB_n (by omega), if_neg (by decide)]
  have W3_0 := W2_0.fk F3 (by unfold nm; omega)
  have G3 := G2.tr F3
  refine wp_sipush (-20004) dL_isLike_61 (by decide) ?_
  refine wp_icmp_ne 71 dL_isLike_64 (by decide) (fun c_64 => absurd c_64 (fun z => z rfl)) (fun c_64 => ?_)
  refine wp_iconst (nI 1) dL_isLike_67 (by decide) ?_
  refine wp_goto 72 dL_isLike_68 (by decide) ?_
  refine wp_iload_n (i := 3) dL_isLike_72 rfl rfl ?_
  refine wp_if_neN 84 dL_isLike_73 (by decide) (by decide) (fun c_73 => ?_) (fun c_73 => absurd c_73 (by decide))
  refine wp_iconst (nI 1) dL_isLike_84 (by decide) ?_
  refine wp_goto 89 dL_isLike_85 (by decide) ?_
  refine wp_icmp_neN 127 dL_isLike_89 (by decide) (by decide) (by decide) (fun c_89 => absurd c_89 (by decide)) (fun c_89 => ?_)
  refine wp_aload_n (i := 0) dL_isLike_92 rfl rfl ?_
  refine wp_iconst (nI 5) dL_isLike_93 (by decide) ?_
  refine wp_iload_n (i := 1) dL_isLike_94 rfl rfl ?_
  refine wp_iconst (nI 0) dL_isLike_95 (by decide) ?_
  refine wp_cSH (y' := m_L_ask) [vr (some (nm 40 0)), vi (nI 5), vi (nI k), vi (nI 0)] [] 6 40 dL_isLike_96 ml_L_184 st_L_ask okH_L_ask rfl (Nat.le_of_ble_eq_true rfl) rfl (Nat.le_of_ble_eq_true rfl) (d' := d - 1) (by omega) (by omega) (by omega) (q_nodes (k := k) hk1 B hc C3 (by omega) (by omega) (by omega) (fun h4 M4 ma4 mb4 C4 F4 => cont_ret ?_))
  rw [r_nodes] at C4
  rw [an_nodes hk hn]
  have W4_0 := W3_0.fk F4 (by unfold nm; omega)
  have G4 := G3.tr F4
  refine wp_if_leN 106 dL_isLike_99 (by decide) (by omega) (fun c_99 => absurd c_99 (by omega)) (fun c_99 => ?_)
  refine wp_iconst (nI 1) dL_isLike_102 (by decide) ?_
  refine wp_goto 107 dL_isLike_103 (by decide) ?_
  refine wp_aload_n (i := 2) dL_isLike_107 rfl rfl ?_
  refine wp_iconst (nI 0) dL_isLike_108 (by decide) ?_
  refine wp_ialoadN 70 (nI 109) dL_isLike_109 W4_0.1 W4_0.2.1 (by decide) (by decide) ((W4_0.2.2 0 (by decide)).trans (f0)) ?_
  refine wp_bipush (nI 120) dL_isLike_110 (by decide) ?_
  refine wp_icmp_eqN 119 dL_isLike_112 (by decide) (by decide) (by decide) (fun c_112 => absurd c_112 (by decide)) (fun c_112 => ?_)
  refine wp_iconst (nI 1) dL_isLike_115 (by decide) ?_
  refine wp_goto 120 dL_isLike_116 (by decide) ?_
  refine wp_icmp_neN 127 dL_isLike_120 (by decide) (by decide) (by decide) (fun c_120 => absurd c_120 (by decide)) (fun c_120 => ?_)
  refine wp_iconst (nI 1) dL_isLike_123 (by decide) ?_
  refine wp_goto 128 dL_isLike_124 (by decide) ?_
  refine wp_istore (i := 4) (lv' := [(4, vi (nI 1)), (3, vi (nI 1)), (0, vr (some (nm 40 0))), (1, vi (nI k)), (2, vr (some (nm 71 r)))]) dL_isLike_128 (by decide) rfl ?_
  refine wp_iconst (nI 0) dL_isLike_130 (by decide) ?_
  refine wp_istore (i := 5) (lv' := [(5, vi (nI 0)), (4, vi (nI 1)), (3, vi (nI 1)), (0, vr (some (nm 40 0))), (1, vi (nI k)), (2, vr (some (nm 71 r)))]) dL_isLike_131 (by decide) rfl ?_
  refine wp_sub [(5, vi (nI 0)), (4, vi (nI 1)), (3, vi (nI 1)), (0, vr (some (nm 40 0))), (1, vi (nI k)), (2, vr (some (nm 71 r)))] (sb_cons (.head _) (sb_cons (.tail _ (.head _)) (sb_cons (.tail _ (.tail _ (.head _))) (sb_cons (.tail _ (.tail _ (.tail _ (.head _)))) (sb_cons (.tail _ (.tail _ (.tail _ (.tail _ (.head _))))) (sb_cons (.tail _ (.tail _ (.tail _ (.tail _ (.tail _ (.head _)))))) sb_nil)))))) ?_
  exact l_likeL_109 B hc hk hP ht hd (M0 := M4) (by omega) (fun h9 M9 a b c e => hq h9 M9 (by omega) (by omega) c (G4.tr e)) 40 0 _ _ _ _ (by omega) C4 (Nat.le_refl _) (by omega) FK.rf W4_0 (by omega) (by omega)
set_option maxRecDepth 100000 in
set_option maxHeartbeats 4000000 in
theorem l_likeE_120 {G : GG} {d c n : Nat} {Q : Pst} {V : SV} {x : Nat → QIS} {R : RS} {k r : Nat} {f : Nat → Int32} (B : PU c V n x R) (hc : c ≤ 512) (hk : k < sNv V) (hP : RowP (vp V k) f) (ht : sTy V k = 120) (hd : 30 ≤ d) {h : Hp} {M bc bs : Nat} (C : CLS h V M n x R) (hM : M + 10 < 900000) (W : RWl h (nm 71 r) f) (hbc : 24 ≤ bc) (hbs : 160 ≤ bs) (hq : ∀ h' M', M ≤ M' → M' ≤ M + 4 → CLS h' V M' n x R → FK h h' → Q (oRet (vi (nI 1))) h') : WP G m_L_isLike d 275 [(4, vi (nI 1)), (3, vi (nI 0)), (0, vr (some (nm 40 0))), (1, vi (nI k)), (2, vr (some (nm 71 r)))] [] h bc bs Q := by
  have hn60 := B.1.1
  have hns := @ns_le V k
  have hn : sNv V < 2 ^ 31 := by omega
  have hk1 : k < 2 ^ 31 := by omega
  have hz : sSz V k ≤ 64 := (B.1.2.1 k hk).2.1
  have f0 : f 0 = nI 120 := hP.1.trans (congrArg nI ht)
  have sz0 : sSz V k = 0 := (B.1.2.1 k hk).2.2.1 ht
  have f1 : f 1 = nI 0 := hP.2.1.trans (congrArg nI sz0)
  refine wp_iload (i := 4) dL_isLike_275 rfl ?_
  refine wp_if_eqN 338 dL_isLike_277 (by decide) (by decide) (fun c_277 => absurd c_277 (by decide)) (fun c_277 => ?_)
  refine wp_aload_n (i := 0) dL_isLike_280 rfl rfl ?_
  refine wp_iconst (nI 1) dL_isLike_281 (by decide) ?_
  refine wp_iload_n (i := 1) dL_isLike_282 rfl rfl ?_
  refine wp_iload_n (i := 3) dL_isLike_283 rfl rfl ?_
  refine wp_if_eqN 291 dL_isLike_284 (by decide) (by decide) (fun c_284 => ?_) (fun c_284 => absurd c_284 (by decide))
  refine wp_aload_n (i := 2) dL_isLike_291 rfl rfl ?_
  refine wp_iconst (nI 1) dL_isLike_292 (by decide) ?_
  refine wp_ialoadN 70 (nI 0) dL_isLike_293 W.1 W.2.1 (by decide) (by decide) ((W.2.2 1 (by decide)).trans (f1)) ?_
  refine wp_cSH (y' := m_L_ask) [vr (some (nm 40 0)), vi (nI 1), vi (nI k), vi (nI 0)] [] 6 40 dL_isLike_294 ml_L_184 st_L_ask okH_L_ask rfl (Nat.le_of_ble_eq_true rfl) rfl (Nat.le_of_ble_eq_true rfl) (d' := d - 1) (by omega) (by omega) (by omega) (q_get (k := k) hk1 (j := 0) (hwn (by omega)) B hc C (by omega) (by omega) (by omega) (fun h1 M1 ma1 mb1 C1 F1 => cont_ret ?_))
  rw [r_get] at C1
  rw [an_get hk hn, if_neg (by rw [hasN_v (by omega) (ixB_n0 (by rw [sz0]; exact Nat.le_refl _) (by omega))]; decide)]
  have W1_0 := W.fk F1 (by unfold nm; omega)
  refine wp_sipush (-20005) dL_isLike_297 (by decide) ?_
  refine wp_icmp_ne 338 dL_isLike_300 (by decide) (fun c_300 => absurd c_300 (fun z => z rfl)) (fun c_300 => ?_)
  refine wp_aload_n (i := 0) dL_isLike_303 rfl rfl ?_
  refine wp_iconst (nI 2) dL_isLike_304 (by decide) ?_
  refine wp_iload_n (i := 1) dL_isLike_305 rfl rfl ?_
  refine wp_iconst (-1) dL_isLike_306 (by decide) ?_
  refine wp_cSH (y' := m_L_ask) [vr (some (nm 40 0)), vi (nI 2), vi (nI k), vi (-1)] [] 6 40 dL_isLike_307 ml_L_184 st_L_ask okH_L_ask rfl (Nat.le_of_ble_eq_true rfl) rfl (Nat.le_of_ble_eq_true rfl) (d' := d - 1) (by omega) (by omega) (by omega) (q_getPlain (k := k) hk1 (w := -1) (j := 0) hwm B hc C1 (by omega) (by omega) (by omega) (fun h2 M2 ma2 mb2 C2 F2 => cont_ret ?_))
  rw [r_get] at C2
  rw [an_get hk hn, if_neg (by rw [hasN_v (by omega) (ixm (by omega))]; decide)]
  have W2_0 := W1_0.fk F2 (by unfold nm; omega)
  have G2 := F1.tr F2
  refine wp_sipush (-20005) dL_isLike_310 (by decide) ?_
  refine wp_icmp_ne 338 dL_isLike_313 (by decide) (fun c_313 => absurd c_313 (fun z => z rfl)) (fun c_313 => ?_)
  refine wp_aload_n (i := 0) dL_isLike_316 rfl rfl ?_
  refine wp_bipush (nI 6) dL_isLike_317 (by decide) ?_
  refine wp_iload_n (i := 1) dL_isLike_319 rfl rfl ?_
  refine wp_iload_n (i := 1) dL_isLike_320 rfl rfl ?_
  refine wp_cSH (y' := m_L_ask) [vr (some (nm 40 0)), vi (nI 6), vi (nI k), vi (nI k)] [] 6 40 dL_isLike_321 ml_L_184 st_L_ask okH_L_ask rfl (Nat.le_of_ble_eq_true rfl) rfl (Nat.le_of_ble_eq_true rfl) (d' := d - 1) (by omega) (by omega) (by omega) (q_shared (k := k) hk1 (k2 := k) hk1 B hc C2 (by omega) (by omega) (by omega) (by omega) (fun h3 M3 ma3 mb3 C3 F3 => cont_ret ?_))
  rw [r_shared] at C3
  rw [an_shared hk hk hn, sh_self]
  have W3_0 := W2_0.fk F3 (by unfold nm; omega)
  have G3 := G2.tr F3
  refine wp_aload_n (i := 0) dL_isLike_324 rfl rfl ?_
  refine wp_iconst (nI 5) dL_isLike_325 (by decide) ?_
  refine wp_iload_n (i := 1) dL_isLike_326 rfl rfl ?_
  refine wp_iconst (nI 0) dL_isLike_327 (by decide) ?_
  refine wp_cSH (y' := m_L_ask) [vr (some (nm 40 0)), vi (nI 5), vi (nI k), vi (nI 0)] [vi (nI (nsN V k))] 6 40 dL_isLike_328 ml_L_184 st_L_ask okH_L_ask rfl (Nat.le_of_ble_eq_true rfl) rfl (Nat.le_of_ble_eq_true rfl) (d' := d - 1) (by omega) (by omega) (by omega) (q_nodes (k := k) hk1 B hc C3 (by omega) (by omega) (by omega) (fun h4 M4 ma4 mb4 C4 F4 => cont_ret ?_))
  rw [r_nodes] at C4
  rw [an_nodes hk hn]
  have W4_0 := W3_0.fk F4 (by unfold nm; omega)
  have G4 := G3.tr F4
  refine wp_icmp_neN 338 dL_isLike_331 (by decide) (by omega) (by omega) (fun c_331 => absurd c_331 (by omega)) (fun c_331 => ?_)
  refine wp_iconst (nI 1) dL_isLike_334 (by decide) ?_
  refine wp_goto 339 dL_isLike_335 (by decide) ?_
  refine wp_zreturn dL_isLike_339 rfl (by decide) ?_
  exact hq _ _ (by omega) (by omega) C4 G4
set_option maxRecDepth 100000 in
set_option maxHeartbeats 4000000 in
theorem c_like_120 {G : GG} {d c n : Nat} {Q : Pst} {V : SV} {x : Nat → QIS} {R : RS} {k r : Nat} {f : Nat → Int32} (B : PU c V n x R) (hc : c ≤ 512) (hk : k < sNv V) (hP : RowP (vp V k) f) (ht : sTy V k = 120) (hd : 30 ≤ d) {h : Hp} {M bc bs : Nat} (C : CLS h V M n x R) (hM : M + 220 < 900000) (W : RWl h (nm 71 r) f) (hbc : 1250 ≤ bc) (hbs : 8200 ≤ bs) (hq : ∀ h' M', M ≤ M' → M' ≤ M + 210 → CLS h' V M' n x R → FK h h' → Q (oRet (vi (nI 1))) h') : WP G m_L_isLike d 0 (aargs 0 [vr (some (nm 40 0)), vi (nI k), vr (some (nm 71 r))]) [] h bc bs Q := by
  have hn60 := B.1.1
  have hns := @ns_le V k
  have hn : sNv V < 2 ^ 31 := by omega
  have hk1 : k < 2 ^ 31 := by omega
  have hz : sSz V k ≤ 64 := (B.1.2.1 k hk).2.1
  have f0 : f 0 = nI 120 := hP.1.trans (congrArg nI ht)
  have sz0 : sSz V k = 0 := (B.1.2.1 k hk).2.2.1 ht
  have f1 : f 1 = nI 0 := hP.2.1.trans (congrArg nI sz0)
  have hp0 := ns_x ht
  refine wp_sub [(0, vr (some (nm 40 0))), (1, vi (nI k)), (2, vr (some (nm 71 r)))] (fun _ hz => hz) ?_
  refine wp_aload_n (i := 2) dL_isLike_0 rfl rfl ?_
  refine wp_iconst (nI 0) dL_isLike_1 (by decide) ?_
  refine wp_ialoadN 70 (nI 120) dL_isLike_2 W.1 W.2.1 (by decide) (by decide) ((W.2.2 0 (by decide)).trans (f0)) ?_
  refine wp_bipush (nI 109) dL_isLike_3 (by decide) ?_
  refine wp_icmp_neN 12 dL_isLike_5 (by decide) (by decide) (by decide) (fun c_5 => ?_) (fun c_5 => absurd c_5 (by decide))
  refine wp_iconst (nI 0) dL_isLike_12 (by decide) ?_
  refine wp_istore_n (i := 3) (lv' := [(3, vi (nI 0)), (0, vr (some (nm 40 0))), (1, vi (nI k)), (2, vr (some (nm 71 r)))]) dL_isLike_13 rfl (by decide) rfl ?_
  refine wp_aload_n (i := 0) dL_isLike_14 rfl rfl ?_
  refine wp_iconst (nI 4) dL_isLike_15 (by decide) ?_
  refine wp_iload_n (i := 1) dL_isLike_16 rfl rfl ?_
  refine wp_iconst (nI 0) dL_isLike_17 (by decide) ?_
  refine wp_cSH (y' := m_L_ask) [vr (some (nm 40 0)), vi (nI 4), vi (nI k), vi (nI 0)] [] 6 40 dL_isLike_18 ml_L_184 st_L_ask okH_L_ask rfl (Nat.le_of_ble_eq_true rfl) rfl (Nat.le_of_ble_eq_true rfl) (d' := d - 1) (by omega) (by omega) (by omega) (q_size (k := k) hk1 B hc C (by omega) (by omega) (by omega) (fun h1 M1 ma1 mb1 C1 F1 => cont_ret ?_))
  rw [r_size] at C1
  rw [an_size hk hn]
  rw [sz0]
  have W1_0 := W.fk F1 (by unfold nm; omega)
  refine wp_aload_n (i := 2) dL_isLike_21 rfl rfl ?_
  refine wp_iconst (nI 1) dL_isLike_22 (by decide) ?_
  refine wp_ialoadN 70 (nI 0) dL_isLike_23 W1_0.1 W1_0.2.1 (by decide) (by decide) ((W1_0.2.2 1 (by decide)).trans (f1)) ?_
  refine wp_icmp_neN 127 dL_isLike_24 (by decide) (by decide) (by decide) (fun c_24 => absurd c_24 (by decide)) (fun c_24 => ?_)
  refine wp_aload_n (i := 0) dL_isLike_27 rfl rfl ?_
  refine wp_bipush (nI 16) dL_isLike_28 (by decide) ?_
  refine wp_iload_n (i := 1) dL_isLike_30 rfl rfl ?_
  refine wp_iconst (nI 0) dL_isLike_31 (by decide) ?_
  refine wp_cSH (y' := m_L_ask) [vr (some (nm 40 0)), vi (nI 16), vi (nI k), vi (nI 0)] [] 6 40 dL_isLike_32 ml_L_184 st_L_ask okH_L_ask rfl (Nat.le_of_ble_eq_true rfl) rfl (Nat.le_of_ble_eq_true rfl) (d' := d - 1) (by omega) (by omega) (by omega) (q_isOpen (k := k) hk1 B hc C1 (by omega) (by omega) (by omega) (fun h2 M2 ma2 mb2 C2 F2 => cont_ret ?_))
  rw [r_isOpen] at C2
  rw [an_isOpen hk hn, ht]
  rw [show bI (decide (120 = 111)) = nI 0 from rfl]
  have W2_0 := W1_0.fk F2 (by unfold nm; omega)
  have G2 := F1.tr F2
  refine wp_aload_n (i := 2) dL_isLike_35 rfl rfl ?_
  refine wp_iconst (nI 0) dL_isLike_36 (by decide) ?_
  refine wp_ialoadN 70 (nI 120) dL_isLike_37 W2_0.1 W2_0.2.1 (by decide) (by decide) ((W2_0.2.2 0 (by decide)).trans (f0)) ?_
  refine wp_bipush (nI 111) dL_isLike_38 (by decide) ?_
  refine wp_icmp_neN 47 dL_isLike_40 (by decide) (by decide) (by decide) (fun c_40 => ?_) (fun c_40 => absurd c_40 (by decide))
  refine wp_iconst (nI 0) dL_isLike_47 (by decide) ?_
  refine wp_cS (y' := m_L_told) [vi (bI false)] [vi (nI 0)] 0 0 dL_isLike_48 ml_L_83 st_L_told ok_L_told rfl (Nat.le_of_ble_eq_true rfl) rfl (Nat.le_of_ble_eq_true rfl) (d' := d - 1) (by omega) (Nat.zero_le _) (Nat.zero_le _) (c_L_told (b := false) (cont_ret ?_))
  refine wp_icmp_neN 127 dL_isLike_51 (by decide) (by decide) (by decide) (fun c_51 => absurd c_51 (by decide)) (fun c_51 => ?_)
  refine wp_aload_n (i := 0) dL_isLike_54 rfl rfl ?_
  refine wp_iconst (nI 0) dL_isLike_55 (by decide) ?_
  refine wp_iload_n (i := 1) dL_isLike_56 rfl rfl ?_
  refine wp_iconst (nI 0) dL_isLike_57 (by decide) ?_
  refine wp_cSH (y' := m_L_ask) [vr (some (nm 40 0)), vi (nI 0), vi (nI k), vi (nI 0)] [] 6 40 dL_isLike_58 ml_L_184 st_L_ask okH_L_ask rfl (Nat.le_of_ble_eq_true rfl) rfl (Nat.le_of_ble_eq_true rfl) (d' := d - 1) (by omega) (by omega) (by omega) (q_depth (k := k) hk1 B hc C2 (by omega) (by omega) (by omega) (fun h3 M3 ma3 mb3 C3 F3 => cont_ret ?_))
  rw [r_depth] at C3
  rw [an_depth hk hn, vecB_n (by omega), if_neg (by decide)]
  have W3_0 := W2_0.fk F3 (by unfold nm; omega)
  have G3 := G2.tr F3
  refine wp_sipush (-20004) dL_isLike_61 (by decide) ?_
  refine wp_icmp_ne 71 dL_isLike_64 (by decide) (fun c_64 => absurd c_64 (fun z => z rfl)) (fun c_64 => ?_)
  refine wp_iconst (nI 1) dL_isLike_67 (by decide) ?_
  refine wp_goto 72 dL_isLike_68 (by decide) ?_
  refine wp_iload_n (i := 3) dL_isLike_72 rfl rfl ?_
  refine wp_if_neN 84 dL_isLike_73 (by decide) (by decide) (fun c_73 => absurd c_73 (by decide)) (fun c_73 => ?_)
  refine wp_aload_n (i := 2) dL_isLike_76 rfl rfl ?_
  refine wp_iconst (nI 0) dL_isLike_77 (by decide) ?_
  refine wp_ialoadN 70 (nI 120) dL_isLike_78 W3_0.1 W3_0.2.1 (by decide) (by decide) ((W3_0.2.2 0 (by decide)).trans (f0)) ?_
  refine wp_bipush (nI 120) dL_isLike_79 (by decide) ?_
  refine wp_icmp_neN 88 dL_isLike_81 (by decide) (by decide) (by decide) (fun c_81 => absurd c_81 (by decide)) (fun c_81 => ?_)
  refine wp_iconst (nI 1) dL_isLike_84 (by decide) ?_
  refine wp_goto 89 dL_isLike_85 (by decide) ?_
  refine wp_icmp_neN 127 dL_isLike_89 (by decide) (by decide) (by decide) (fun c_89 => absurd c_89 (by decide)) (fun c_89 => ?_)
  refine wp_aload_n (i := 0) dL_isLike_92 rfl rfl ?_
  refine wp_iconst (nI 5) dL_isLike_93 (by decide) ?_
  refine wp_iload_n (i := 1) dL_isLike_94 rfl rfl ?_
  refine wp_iconst (nI 0) dL_isLike_95 (by decide) ?_
  refine wp_cSH (y' := m_L_ask) [vr (some (nm 40 0)), vi (nI 5), vi (nI k), vi (nI 0)] [] 6 40 dL_isLike_96 ml_L_184 st_L_ask okH_L_ask rfl (Nat.le_of_ble_eq_true rfl) rfl (Nat.le_of_ble_eq_true rfl) (d' := d - 1) (by omega) (by omega) (by omega) (q_nodes (k := k) hk1 B hc C3 (by omega) (by omega) (by omega) (fun h4 M4 ma4 mb4 C4 F4 => cont_ret ?_))
  rw [r_nodes] at C4
  rw [an_nodes hk hn]
  have W4_0 := W3_0.fk F4 (by unfold nm; omega)
  have G4 := G3.tr F4
  refine wp_if_leN 106 dL_isLike_99 (by decide) (by omega) (fun c_99 => ?_) (fun c_99 => absurd c_99 (by omega))
  refine wp_iconst (nI 0) dL_isLike_106 (by decide) ?_
  refine wp_aload_n (i := 2) dL_isLike_107 rfl rfl ?_
  refine wp_iconst (nI 0) dL_isLike_108 (by decide) ?_
  refine wp_ialoadN 70 (nI 120) dL_isLike_109 W4_0.1 W4_0.2.1 (by decide) (by decide) ((W4_0.2.2 0 (by decide)).trans (f0)) ?_
  refine wp_bipush (nI 120) dL_isLike_110 (by decide) ?_
  refine wp_icmp_eqN 119 dL_isLike_112 (by decide) (by decide) (by decide) (fun c_112 => ?_) (fun c_112 => absurd c_112 (by decide))
  refine wp_iconst (nI 0) dL_isLike_119 (by decide) ?_
  refine wp_icmp_neN 127 dL_isLike_120 (by decide) (by decide) (by decide) (fun c_120 => absurd c_120 (by decide)) (fun c_120 => ?_)
  refine wp_iconst (nI 1) dL_isLike_123 (by decide) ?_
  refine wp_goto 128 dL_isLike_124 (by decide) ?_
  refine wp_istore (i := 4) (lv' := [(4, vi (nI 1)), (3, vi (nI 0)), (0, vr (some (nm 40 0))), (1, vi (nI k)), (2, vr (some (nm 71 r)))]) dL_isLike_128 (by decide) rfl ?_
  refine wp_iconst (nI 0) dL_isLike_130 (by decide) ?_
  refine wp_istore (i := 5) (lv' := [(5, vi (nI 0)), (4, vi (nI 1)), (3, vi (nI 0)), (0, vr (some (nm 40 0))), (1, vi (nI k)), (2, vr (some (nm 71 r)))]) dL_isLike_131 (by decide) rfl ?_
  refine wp_iload (i := 5) dL_isLike_133 rfl ?_
  refine wp_iload_n (i := 3) dL_isLike_135 rfl rfl ?_
  refine wp_if_eqN 144 dL_isLike_136 (by decide) (by decide) (fun c_136 => ?_) (fun c_136 => absurd c_136 (by decide))
  refine wp_aload_n (i := 2) dL_isLike_144 rfl rfl ?_
  refine wp_iconst (nI 1) dL_isLike_145 (by decide) ?_
  refine wp_ialoadN 70 (nI 0) dL_isLike_146 W4_0.1 W4_0.2.1 (by decide) (by decide) ((W4_0.2.2 1 (by decide)).trans (f1)) ?_
  refine wp_icmp_geN 275 dL_isLike_147 (by decide) (by decide) (by decide) (fun c_147 => ?_) (fun c_147 => absurd c_147 (by decide))
  refine wp_sub [(4, vi (nI 1)), (3, vi (nI 0)), (0, vr (some (nm 40 0))), (1, vi (nI k)), (2, vr (some (nm 71 r)))] (sb_cons (.tail _ (.head _)) (sb_cons (.tail _ (.tail _ (.head _))) (sb_cons (.tail _ (.tail _ (.tail _ (.head _)))) (sb_cons (.tail _ (.tail _ (.tail _ (.tail _ (.head _))))) (sb_cons (.tail _ (.tail _ (.tail _ (.tail _ (.tail _ (.head _)))))) sb_nil))))) ?_
  exact l_likeE_120 B hc hk hP ht hd C4 (by omega) W4_0 (by omega) (by omega) (fun h9 M9 a b c e => hq h9 M9 (by omega) (by omega) c (G4.tr e))
theorem c_L_isLike {G : GG} {d c n : Nat} {Q : Pst} {V : SV} {x : Nat → QIS} {R : RS} {k r : Nat} {f : Nat → Int32} (B : PU c V n x R) (hc : c ≤ 512) (hk : k < sNv V) (hP : RowP (vp V k) f) (hd : 30 ≤ d) {h : Hp} {M bc bs : Nat} (C : CLS h V M n x R) (hM : M + 220 < 900000) (W : RWl h (nm 71 r) f) (hbc : 1250 ≤ bc) (hbs : 8200 ≤ bs) (hq : ∀ h' M', M ≤ M' → M' ≤ M + 210 → CLS h' V M' n x R → FK h h' → Q (oRet (vi (nI 1))) h') : WP G m_L_isLike d 0 (aargs 0 [vr (some (nm 40 0)), vi (nI k), vr (some (nm 71 r))]) [] h bc bs Q := by
  rcases (B.1.2.1 k hk).1 with t | t | t | t
  · exact c_like_118 B hc hk hP t hd C hM W hbc hbs hq
  · exact c_like_111 B hc hk hP t hd C hM W hbc hbs hq
  · exact c_like_109 B hc hk hP t hd C hM W hbc hbs hq
  · exact c_like_120 B hc hk hP t hd C hM W hbc hbs hq
