/-! The class: a new vector, a lasting one; a value changed. -/
theorem ith_0 {s : Nat} : ith s 0 = true ↔ s = 0 := by
  rw [ith_iff]
  constructor
  · rintro ⟨h1, h2 | h2⟩
    · exact absurd h2 (Nat.not_lt_zero _)
    · exact h2
  · rintro rfl; exact ⟨by decide, Or.inr rfl⟩
abbrev s_vec (S : SV) : SV := nfS (s_new S 118) (sNv S) (fun _ => false) (fun _ => 0) 21
theorem vec_f {S : SV} : sTy (s_vec S) (sNv S) = 118 ∧ sSz (s_vec S) (sNv S) = 0 ∧ (∀ v, v < sNv S → vp (s_vec S) v = vp S v) ∧ ndv (s_vec S) (sNv S) 0 = sMd S + 1 ∧ sMd (s_vec S) = sMd S + 1 ∧ ∀ s, owv (s_vec S) (sNv S) s = false := by
  have z : sSz (s_new S 118) (sNv S) = 0 := va_up_self _ _ _
  refine ⟨va_up_self _ _ _, z, fun v hv => (vp_nf (by omega)).trans (vp_new (by omega)), ?_, ?_, fun s => by rw [owv_nf]⟩
  · rw [ndv_nf (by decide), z, if_pos (ith_0.mpr rfl), if_neg (by decide)]; rfl
  · show nfM (s_new S 118) (sNv S) (fun _ => false) 21 = _
    rw [nfM_sum, z, show sumN (fun s => if (ith s 0 && !false) = true then 1 else 0) 21 = 1 from ?_]
    · rfl
    · rw [show (fun s => if (ith s 0 && !false) = true then 1 else 0) = (fun s => if s = 0 then 1 else 0) from funext fun s => by
        by_cases e : s = 0
        · rw [if_pos e, if_pos (by rw [ith_0.mpr e]; rfl)]
        · rw [if_neg e, if_neg (fun q => e (ith_0.mp (by revert q; cases ith s 0 <;> simp)))]]
      exact sum_pt 21
theorem VT.one {h : Hp} {M k : Nat} {nd : Nat → Nat} {el : Nat → Int32} {ow : Nat → Bool} {x : KNS} (hk : nd 0 = k) (K : KN h k x) (L : LFx k (-1) (fun _ => nI 0) x) (hm : KN_mk x = nI 0) : VT h M 0 nd el ow (-1) := fun s _ hi => by
  have e := ith_0.mp hi
  subst e
  rw [hk]
  refine ⟨x, K, ⟨⟨0, Nat.zero_le _, hm⟩, ?_⟩, Or.inl rfl⟩
  rw [if_pos (by decide), L.2.1]
  exact L.of (fun p _ => if_neg (Nat.not_lt_zero _))
theorem lst_lt {l b : Nat} (hl : l ≤ 4) (hb : b < 2 ^ (2 * l)) : lst l + b < 341 := by
  have h : l = 0 ∨ l = 1 ∨ l = 2 ∨ l = 3 ∨ l = 4 := by omega
  rcases h with rfl | rfl | rfl | rfl | rfl
  · have : b < 1 := hb; show 0 + b < 341; omega
  · have : b < 4 := hb; show 1 + b < 341; omega
  · have : b < 16 := hb; show 5 + b < 341; omega
  · have : b < 64 := hb; show 21 + b < 341; omega
  · have : b < 256 := hb; show 85 + b < 341; omega
theorem NG_v {P : VPr} (hv : pvec P) {s : Nat} (hs : s < 21) (hi : ith s (p_sz P) = true) : NG P s = p_nd P s := by
  unfold NG; rw [if_pos (show p_ty P = 118 ∨ p_ty P = 111 from hv), if_pos ⟨hs, hi⟩]
theorem NG_m {P : VPr} (hm : p_ty P = 109) {l b : Nat} (hl : l ≤ 4) (hb : b < 2 ^ (2 * l)) : NG P (21 + (lst l + b)) = p_mn P (lst l + b) := by
  have := lst_lt hl hb
  unfold NG; rw [if_neg (by rw [hm]; decide), if_pos hm, if_pos (by omega), Nat.add_sub_cancel_left]
/-- one value is changed -/
def UW9 (S S' : SV) (k : Nat) (own : Nat → Prop) (b : Nat) : Prop := b = nm 40 2 ∨ b = nm 42 k ∨ b = nm 44 k ∨ (45 ≤ b % 128 ∧ b % 128 ≤ 48 ∧ ((sMd S < b / 128 ∧ b / 128 ≤ sMd S') ∨ own (b / 128)))
theorem CV.upd {h h' : Hp} {S S' : SV} {M k : Nat} {own : Nat → Prop} (H : CV h S M) (hn : sNv S' = sNv S) (hc : sMd S ≤ sMd S') (hv : ∀ v, v < sNv S → v ≠ k → vp S' v = vp S v) (C : CVh h' (sNv S) M) (hM : MKR h' (sMd S')) (A : VAP h' k (vp S' k)) (T : TRP h' M (sNv S) k (vp S' k)) (hk : k < sNv S) (hF : Fr h h' (UW9 S S' k own)) (hown : ∀ j, own j → j ≤ sMd S ∧ ∀ w, w < sNv S → w ≠ k → ∀ σ, NG (vp S w) σ ≠ j) : CV h' S' M := by
  have e43 : ∀ a, ce h' (nm 43 a) = ce h (nm 43 a) := fun a => hF _ (by unfold UW9 nm; omega)
  obtain ⟨-, -, hV, f1, f2, f3, K, f4⟩ := H
  refine ⟨by rw [hn]; exact C, hM, fun v hv2 => ?_, by rw [hn]; exact fun i hi => (ce_k (hF _ (by unfold UW9 nm; omega))).trans (f1 i hi), by rw [hn]; exact fun i hi => (ce_k (hF _ (by unfold UW9 nm; omega))).trans (f2 i hi), fun j hj => (f3 j (by omega)).frm (fun r r1 r2 => hF _ (fun z => ?_)), K, fun i hi => (ce_k (e43 i)).trans (f4 i hi)⟩
  · rw [hn] at hv2 ⊢
    by_cases z : v = k
    · subst z; exact ⟨A, T⟩
    · rw [hv v hv2 z]
      refine ⟨(hV v hv2).1.frm (hF _ (by unfold UW9 nm; omega)) (hF _ (by unfold UW9 nm; omega)) (fun a _ => e43 a), ?_⟩
      have T0 := (hV v hv2).2
      have key : ∀ σ r j, NG (vp S v) σ = j → j ≤ sMd S → 45 ≤ r → r ≤ 48 → ce h' (nm r j) = ce h (nm r j) := fun σ r j e1 e2 r1 r2 => hF _ (fun y => by
        have y2 : (sMd S < j ∧ j ≤ sMd S') ∨ own j := by
          unfold UW9 nm at y
          have q : (128 * j + r) / 128 = j := by omega
          rw [q] at y
          rcases y with y | y | y | y
          · omega
          · omega
          · omega
          · exact y.2.2
        rcases y2 with y2 | y2
        · omega
        · exact (hown j y2).2 v hv2 z σ e1)
      have kle : ∀ j, h_k h (nm 45 j) = 6 → j ≤ sMd S := fun j hj => by
        by_cases y : sMd S < j
        · have := (f3 j y).1
          rw [hj] at this; cases this
        · omega
      refine ⟨fun hv => ⟨(T0.1 hv).1.frm (fun s r s1 s2 r1 r2 => key s r _ (NG_v hv s1 s2) (kle _ (VNk.k (T0.1 hv).1 s1 s2)) r1 r2), fun s s1 s2 => ?_⟩, fun hm => (T0.2 hm).frm (fun l b r h1 h2 h3 r1 r2 => key _ r _ (NG_m hm h1 h2) (kle _ ((T0.2 hm l b h1 h2 h3).elim fun _ z => z.1.k0)) r1 r2)⟩
      rw [ce_I (key s 45 _ (NG_v hv s1 s2) (kle _ (VNk.k (T0.1 hv).1 s1 s2)) (by decide) (by decide))]
      exact (T0.1 hv).2 s s1 s2
  · unfold UW9 nm at z
    have q : (128 * j + r) / 128 = j := by omega
    rw [q] at z
    rcases z with z | z | z | ⟨-, -, z | z⟩
    · omega
    · omega
    · omega
    · omega
    · have := (hown j z).1; omega
set_option maxRecDepth 100000 in
set_option maxHeartbeats 4000000 in
theorem c_X11_vector {G : GG} {d bc bs : Nat} {h : Hp} {Q : Pst} {S : SV} {M : Nat} (hS : SVI S) (hC : CV h S M) (hr : sMd S < 700000) (hd : 10 ≤ d) (hbc : 20 ≤ bc) (hbs : 400 ≤ bs) (hq : KOV Q h ["java/lang/IllegalStateException"] M (o_vector S)) : WP G m_X11_vector d 0 (aargs 0 [vr (some (nm 40 0))]) [] h bc bs Q := by
  have q8 : clN 10 = 5 := rfl
  have hn60 := hS.1
  obtain ⟨K, fK⟩ := hC.2.2.2.2.2.2
  refine wp_sub [(0, vr (some (nm 40 0)))] (fun _ hz => hz) ?_
  refine wp_aload_n (i := 0) dX11_vector_0 rfl rfl ?_
  refine wp_cV (y' := m_X11_refuseMoreValues) 12 [] [] 1 6 dX11_vector_1 ml_X11_76 im_X11_refuseMoreValues se_X11_refuseMoreValues (by decide) hC.1.1.1 ok_X11_refuseMoreValues rfl (Nat.le_of_ble_eq_true rfl) rfl (Nat.le_of_ble_eq_true rfl) (d' := d - 1) (by omega) (by omega) (by omega) (c_X11_refuseMoreValues hC.1 (by omega) (by omega) (by omega) (by omega) (fun g_m => cont_thr rfl ?_) (fun b_m => cont_void ?_))
  · rw [show o_vector S = (nI 1, nI 0, S) from by unfold o_vector; rw [if_pos (by omega)]] at hq
    exact (hq h M (Nat.le_refl _) (by omega) hC FRV.rf).1 0 _ rfl rfl
  · skip
    refine wp_aload_n (i := 0) dX11_vector_4 rfl rfl ?_
    refine wp_aload_n (i := 0) dX11_vector_5 rfl rfl ?_
    refine wp_get 12 2 (vr (some (nm 40 2))) dX11_vector_6 hC.1.1.1 (by decide) (by decide) fl_X11_22 (congrArg (fun z => toV (vr z)) (hC.1.1.2.2.2.1)) ?_
    refine wp_iconst (-1) dX11_vector_9 (by decide) ?_
    refine wp_cV (y' := m_X4_freshLeaf) 6 [vi (-1)] [vr (some (nm 40 0))] 2 11 dX11_vector_10 ml_X11_79 im_X4_freshLeaf se_X4_freshLeaf (by decide) hC.2.1.1 ok_X4_freshLeaf rfl (Nat.le_of_ble_eq_true rfl) rfl (Nat.le_of_ble_eq_true rfl) (d' := d - 1) (by omega) (by omega) (by omega) (c_X4_freshLeaf (k := sMd S + 1) hC.2.1 (by omega) (hC.2.2.2.2.2.1 _ (Nat.lt_succ_self _)).1 (hC.2.2.2.2.2.1 _ (Nat.lt_succ_self _)).2.2.1 (by omega) (by omega) (by omega) (fun h1 x K1 L1 m1 M1 F1 => cont_ret ?_))
    have g1 : ∀ r i, 40 ≤ r → r ≤ 44 → (r ≠ 40 ∨ i ≠ 2) → ce h1 (nm r i) = ce h (nm r i) := fun r i r1 r2 r3 => F1 _ (by unfold W1 CNo nm; omega)
    refine wp_iconst (nI 0) dX11_vector_13 (by decide) ?_
    refine wp_iconst (nI 0) dX11_vector_14 (by decide) ?_
    refine wp_newarray 101 0 .int dX11_vector_15 rfl rfl aw_int (nI_nn (by omega)) (nI_clamp (by omega)) (by omega) (by decide) pl_int (by omega) (by omega) (nm 43 K) ((ce_k (g1 _ _ (by decide) (by decide) (Or.inl (by decide)))).trans (fK K (Nat.le_refl _))) ?_
    have G2 : ∀ b, b ≠ nm 43 K → ce (mk h1 (nm 43 K) 101 0) b = ce h1 b := fun b hb => ce_mk hb
    have k2 : h_k (mk h1 (nm 43 K) 101 0) (nm 43 K) = 101 := by rw [gk_mk, if_pos rfl]
    have n2 : h_n (mk h1 (nm 43 K) 101 0) (nm 43 K) = 0 := by rw [gn_mk, if_pos rfl]
    generalize (mk h1 (nm 43 K) 101 0) = h2 at G2 k2 n2 ⊢
    have g2 : ∀ r i, r ≠ 43 → r < 128 → ce h2 (nm r i) = ce h1 (nm r i) := fun r i r1 r2 => G2 _ (by unfold nm; omega)
    have C2 : CVh h2 (sNv S) M := hC.1.frm ((g2 _ _ (by decide) (by decide)).trans (g1 _ _ (by decide) (by decide) (by decide))) ((g2 _ _ (by decide) (by decide)).trans (g1 _ _ (by decide) (by decide) (by decide)))
    have E := vec_f (S := S)
    have K2 := K1.frm (g2 _ _ (by decide) (by decide)) (g2 _ _ (by decide) (by decide)) (g2 _ _ (by decide) (by decide)) (g2 _ _ (by decide) (by decide))
    refine wp_cV (y' := m_X11_keepVector) 12 [vr (some (nm 45 (sMd S + 1))), vi (nI 0), vr (some (nm 43 K))] [] 1 5 dX11_vector_17 ml_X11_83 im_X11_keepVector se_X11_keepVector (by decide) (C2.1.1) ok_X11_keepVector rfl (Nat.le_of_ble_eq_true rfl) rfl (Nat.le_of_ble_eq_true rfl) (d' := d - 1) (by omega) (by omega) (by omega) (c_X11_keepVector C2 (by omega) (by omega) ((ce_k ((g2 _ _ (by decide) (by decide)).trans (g1 _ _ (by decide) (by decide) (Or.inl (by decide))))).trans (hC.2.2.2.1 _ (Nat.le_refl _))) (by omega) (by omega) (by omega) (fun h4 C4 K4 G4 V4 => cont_ret ?_))
    have F9 : Fr h h2 (VX K (sMd S) (sMd (s_vec S))) := fun b hb => (G2 b (fun z => hb (Or.inr (Or.inl z)))).trans (F1 b (fun z => hb (Or.inl (by rw [E.2.2.2.2.1]; unfold W1 CNo at z; unfold VN; omega))))
    have E9 := hC.vecEnd (S' := s_vec S) (a := K) (el' := elv (s_vec S) (sNv S)) (ow := fun _ => true) rfl E.1 E.2.1 rfl E.2.2.1 (by rw [E.2.2.2.2.1]; omega) fK F9 ⟨k2, n2, fun j hj => absurd hj (Nat.not_lt_zero _)⟩ (VT.one E.2.2.2.1 K2 L1 m1) (fun s _ hi => Or.inl (by rw [ith_0.mp hi, E.2.2.2.1, K2.f_own]; exact L1.2.1)) (by rw [E.2.2.2.2.1]; exact M1.frm (g2 _ _ (by decide) (by decide))) C4 (by rw [show rtS 0 = 0 from rfl, E.2.2.2.1]; exact K4) G4 V4
    refine wp_ireturn dX11_vector_20 rfl ?_
    rw [show o_vector S = (nI 0, nI (sNv S), s_vec S) from by unfold o_vector; rw [if_neg (by omega)]] at hq
    exact (hq h4 M (Nat.le_refl _) (by omega) E9.1 E9.2).2 rfl
set_option maxRecDepth 100000 in
set_option maxHeartbeats 4000000 in
theorem c_X11_makeLasting {G : GG} {d bc bs : Nat} {h : Hp} {Q : Pst} {S : SV} {M : Nat} (hS : SVI S) (hC : CV h S M) (hr : sMd S < 700000) {u : Int32} {k : Nat} (hu : ixB u (sNv S) = true → u = nI k ∧ k < sNv S) (hd : 10 ≤ d) (hbc : 20 ≤ bc) (hbs : 400 ≤ bs) (hq : KOV Q h ["java/lang/IndexOutOfBoundsException", "java/lang/UnsupportedOperationException", "java/lang/IllegalStateException"] M (o_lasting S u k)) : WP G m_X11_makeLasting d 0 (aargs 0 [vr (some (nm 40 0)), vi u]) [] h bc bs Q := by
  have q8 : clN 10 = 5 := rfl
  have hn60 := hS.1
  obtain ⟨K, fK⟩ := hC.2.2.2.2.2.2
  refine wp_sub [(0, vr (some (nm 40 0))), (1, vi u)] (fun _ hz => hz) ?_
  refine wp_aload_n (i := 0) dX11_makeLasting_0 rfl rfl ?_
  refine wp_iload_n (i := 1) dX11_makeLasting_1 rfl rfl ?_
  refine wp_cV (y' := m_X11_valueNumbered) 12 [vi u] [] 1 6 dX11_makeLasting_2 ml_X11_87 im_X11_valueNumbered se_X11_valueNumbered (by decide) hC.1.1.1 ok_X11_valueNumbered rfl (Nat.le_of_ble_eq_true rfl) rfl (Nat.le_of_ble_eq_true rfl) (d' := d - 1) (by omega) (by omega) (by omega) (c_X11_valueNumbered hC.1 (by omega) (v := u) (t := k) hu (by omega) (by omega) (by omega) (fun g_s => cont_thr rfl ?_) (fun b_s eu hk => cont_ret ?_))
  · rw [show o_lasting S u k = (nI 1, nI 0, S) from by unfold o_lasting; rw [if_pos (by rw [g_s]; rfl)]] at hq
    exact (hq h M (Nat.le_refl _) (by omega) hC FRV.rf).1 0 _ rfl rfl
  · subst eu
    obtain ⟨⟨x, hO, hsz, hx⟩, hT⟩ := hC.2.2.1 k hk
    have hP := hS.2.1 k hk
    have hkd := VAP.kd hx
    have hk4 : KU_kd x < 4 := by rw [hkd]; exact (kdN_v hP.1).2.2.2.2.1
    have hz64 : sSz S k ≤ 64 := hP.2.1
    have hzs : KU_sz x = sSz S k := hsz
    refine wp_astore_n (i := 2) (lv' := [(2, vr (some (nm 42 k))), (0, vr (some (nm 40 0))), (1, vi (nI k))]) dX11_makeLasting_5 rfl (by decide) rfl ?_
    refine wp_aload_n (i := 2) dX11_makeLasting_6 rfl rfl ?_
    refine wp_iconst (nI 1) dX11_makeLasting_7 (by decide) ?_
    refine wp_cS (y' := m_X11_refuseUnless) [vr (some (nm 42 k)), vi (nI 1)] [] 1 6 dX11_makeLasting_8 ml_X11_95 st_X11_refuseUnless ok_X11_refuseUnless rfl (Nat.le_of_ble_eq_true rfl) rfl (Nat.le_of_ble_eq_true rfl) (d' := d - 1) (by omega) (by omega) (by omega) (c_X11_refuseUnless hO (k := 1) hk4 (by decide) (by omega) (by omega) (by omega) (fun g_k => cont_thr rfl ?_) (fun b_k => cont_void ?_))
    · have g_t : sTy S k ≠ 111 := fun z => g_k (hkd.trans ((kdN_v hP.1).2.1.mpr z))
      rw [show o_lasting S (nI k) k = (nI 2, nI 0, S) from by unfold o_lasting; rw [if_neg (by rw [b_s]; decide), if_pos g_t]] at hq
      exact (hq h M (Nat.le_refl _) (by omega) hC FRV.rf).1 1 _ rfl rfl
    · have ht : sTy S k = 111 := (kdN_v hP.1).2.1.mp (hkd.symm.trans b_k)
      obtain ⟨-, -, v1, v2, v3, v4, v5, v6⟩ := VAP.o hx ht
      have hv9 : pvec (vp S k) := Or.inr ht
      refine wp_aload_n (i := 0) dX11_makeLasting_11 rfl rfl ?_
      refine wp_cV (y' := m_X11_refuseMoreValues) 12 [] [] 1 6 dX11_makeLasting_12 ml_X11_76 im_X11_refuseMoreValues se_X11_refuseMoreValues (by decide) hC.1.1.1 ok_X11_refuseMoreValues rfl (Nat.le_of_ble_eq_true rfl) rfl (Nat.le_of_ble_eq_true rfl) (d' := d - 1) (by omega) (by omega) (by omega) (c_X11_refuseMoreValues hC.1 (by omega) (by omega) (by omega) (by omega) (fun g_m => cont_thr rfl ?_) (fun b_m => cont_void ?_))
      · rw [show o_lasting S (nI k) k = (nI 3, nI 0, S) from by unfold o_lasting; rw [if_neg (by rw [b_s]; decide), if_neg (fun z => z ht), if_pos (by omega)]] at hq
        exact (hq h M (Nat.le_refl _) (by omega) hC FRV.rf).1 2 _ rfl rfl
      · skip
        refine wp_aload_n (i := 0) dX11_makeLasting_15 rfl rfl ?_
        refine wp_aload_n (i := 2) dX11_makeLasting_16 rfl rfl ?_
        refine wp_get 10 1 (vr (some (nm 45 (ndv S k (rtS (sSz S k)))))) dX11_makeLasting_17 hO.k0 (by decide) (by decide) fl_X11_116 (congrArg (fun z => toV (vr z)) (hO.o_tp.trans v1)) ?_
        refine wp_aload_n (i := 2) dX11_makeLasting_20 rfl rfl ?_
        refine wp_get 10 2 (vi (nI (sSz S k))) dX11_makeLasting_21 hO.k0 (by decide) (by decide) fl_X11_103 (congrArg (fun z => toV (vi z)) (hO.f_sz.trans (congrArg nI hsz))) ?_
        refine wp_aload_n (i := 2) dX11_makeLasting_24 rfl rfl ?_
        refine wp_get 10 4 (vr (some (nm 44 k))) dX11_makeLasting_25 hO.k0 (by decide) (by decide) fl_X11_106 (congrArg (fun z => toV (vr z)) (hO.o_pe.trans v3)) ?_
        refine wp_aload_n (i := 2) dX11_makeLasting_28 rfl rfl ?_
        refine wp_get 10 2 (vi (nI (sSz S k))) dX11_makeLasting_29 hO.k0 (by decide) (by decide) fl_X11_103 (congrArg (fun z => toV (vi z)) (hO.f_sz.trans (congrArg nI hsz))) ?_
        refine wp_cS (y' := m_J7_copyOf_59c91) [vr (some (nm 44 k)), vi (nI (sSz S k))] [vi (nI (sSz S k)), vr (some (nm 45 (ndv S k (rtS (sSz S k))))), vr (some (nm 40 0))] 1 70 dX11_makeLasting_32 ml_X11_110 st_J7_copyOf_59c91 ok_J7_copyOf_59c91 rfl (Nat.le_of_ble_eq_true rfl) rfl (Nat.le_of_ble_eq_true rfl) (d' := d - 1) (by omega) (by omega) (by omega) (c_J7_copyI (q := nm 43 K) v4 (by rw [v5]; omega) (by omega) (fK K (Nat.le_refl _)) (by omega) (by omega) (by omega) (fun h1 k1 n1 e1 e2 F1 => cont_ret ?_))
        have R1 : PRr h1 (nm 43 K) (sSz S k) (elv S k) := ⟨k1, n1, fun j hj => by rw [e1 j (by rw [v5]; omega)]; exact v6 j hj⟩
        have g1 : ∀ r i, r ≠ 43 → r < 128 → ce h1 (nm r i) = ce h (nm r i) := fun r i r1 r2 => F1 _ (by unfold nm; omega)
        have C1 : CVh h1 (sNv S) M := hC.1.frm (g1 _ _ (by decide) (by decide)) (g1 _ _ (by decide) (by decide))
        refine wp_cV (y' := m_X11_keepVector) 12 [vr (some (nm 45 (ndv S k (rtS (sSz S k))))), vi (nI (sSz S k)), vr (some (nm 43 K))] [] 1 5 dX11_makeLasting_35 ml_X11_83 im_X11_keepVector se_X11_keepVector (by decide) (C1.1.1) ok_X11_keepVector rfl (Nat.le_of_ble_eq_true rfl) rfl (Nat.le_of_ble_eq_true rfl) (d' := d - 1) (by omega) (by omega) (by omega) (c_X11_keepVector C1 (by omega) (by omega) ((ce_k (g1 _ _ (by decide) (by decide))).trans (hC.2.2.2.1 _ (Nat.le_refl _))) (by omega) (by omega) (by omega) (fun h4 C4 K4 G4 V4 => cont_ret ?_))
        have N := NVS.dup (c := 118) hk
        generalize hS9 : s_nf (s_dup S 118 k) (sNv S) k = S9 at N
        have E9 := hC.sameEnd hk hv9 N (fun _ _ => rfl) fK F1 R1 C4 K4 G4 V4
        have hO4 := hO.frm ((G4 (nm 42 k) (by unfold nm; omega) (by unfold nm; omega) (by unfold nm; omega)).trans (g1 42 k (by decide) (by decide)))
        refine wp_istore_n (i := 3) (lv' := [(3, vi (nI (sNv S))), (2, vr (some (nm 42 k))), (0, vr (some (nm 40 0))), (1, vi (nI k))]) dX11_makeLasting_38 rfl (by decide) rfl ?_
        refine wp_aload_n (i := 2) dX11_makeLasting_39 rfl rfl ?_
        refine wp_cV (y' := m_X8_spend) 10 [] [] 0 0 dX11_makeLasting_40 ml_X11_176 im_X8_spend se_X8_spend (by decide) (hO4.k0) ok_X8_spend rfl (Nat.le_of_ble_eq_true rfl) rfl (Nat.le_of_ble_eq_true rfl) (d' := d - 1) (by omega) (Nat.zero_le _) (Nat.zero_le _) (c_X8_spend hO4 (fun h5 K5 F5 => cont_void ?_))
        have en : sNv S9 = sNv S + 1 := N.1.1
        have g5 : ∀ b, b ≠ nm 42 k → ce h5 b = ce h4 b := F5
        have ty : sTy (s_4 (s_3 S9 k 120) k 0) k = 120 := va_up_self _ _ _
        have sz : sSz (s_4 (s_3 S9 k 120) k 0) k = 0 := va_up_self _ _ _
        have U9 : CV h5 (s_4 (s_3 S9 k 120) k 0) M := E9.1.upd (S' := s_4 (s_3 S9 k 120) k 0) (k := k) (own := fun _ => False) rfl (Nat.le_refl _) (fun v _ hv => (vp_4 hv).trans (vp_3 hv)) (by rw [en]; exact C4.frm (g5 _ (by unfold nm; omega)) (g5 _ (by unfold nm; omega))) (E9.1.2.1.frm (g5 _ (by unfold nm; omega))) ⟨_, K5, sz.symm, Or.inr (Or.inr (Or.inl ⟨ty, rfl, rfl, v2, sz⟩))⟩ ⟨fun z => absurd z (by unfold pvec; rw [show p_ty (vp (s_4 (s_3 S9 k 120) k 0) k) = 120 from ty]; decide), fun z => absurd z (by rw [show p_ty (vp (s_4 (s_3 S9 k 120) k 0) k) = 120 from ty]; decide)⟩ (by omega) (fun b hb => F5 b (fun z => hb (Or.inr (Or.inl z)))) (fun j hj => hj.elim)
        refine wp_iload_n (i := 3) dX11_makeLasting_43 rfl rfl ?_
        refine wp_ireturn dX11_makeLasting_44 rfl ?_
        rw [show o_lasting S (nI k) k = (nI 0, nI (sNv S), s_4 (s_3 (s_nf (s_dup S 118 k) (sNv S) k) k 120) k 0) from by unfold o_lasting; rw [if_neg (by rw [b_s]; decide), if_neg (fun z => z ht), if_neg (by omega)]] at hq
        rw [hS9] at hq
        exact (hq h5 M (Nat.le_refl _) (by omega) U9 (E9.2.tr (FRV.of F5 (fun a ha => Or.inr (Or.inr (by unfold nm at ha; omega)))))).2 rfl
