/-! The class: a vector with one element less. -/
/-- what may change when the last element is cut off -/
def WLt (nd' : Nat → Nat) (pl : Nat) : Nat → Prop := fun a => a = nm 40 2 ∨ ∃ i, 1 ≤ i ∧ i ≤ 3 ∧ ith (psl pl i) pl = true ∧ CNo (nd' (psl pl i)) a
theorem rtS_e {n m : Nat} (h : dOf n = dOf m) : rtS n = rtS m := by unfold rtS; rw [h]
theorem dOf_m (n : Nat) : dOf n ≤ dOf (n + 1) := by unfold dOf; (repeat' split) <;> omega
theorem crL_3 {pl : Nat} (hp : pl < 64) : crL pl pl 3 = crL pl pl (dOf pl) := by
  have hd := dOf_b pl
  have h : ∀ i, dOf pl < i → 1 ≤ i → i ≤ 3 → ¬ ith (psl pl i) pl = true := fun i i1 i2 i3 z => by
    rw [ith_iff, psl_h hp i2 i3] at z; omega
  have : dOf pl = 1 ∨ dOf pl = 2 ∨ dOf pl = 3 := by omega
  rcases this with e | e | e
  · rw [e]; show crL pl pl 1 + _ + _ = _; rw [if_neg (h 2 (by omega) (by decide) (by decide)), if_neg (h 3 (by omega) (by decide) (by decide))]; rfl
  · rw [e]; show crL pl pl 2 + _ = _; rw [if_neg (h 3 (by omega) (by decide) (by decide))]; rfl
  · rw [e]
theorem shrink {pl : Nat} (hp : pl < 64) (h : dOf pl < dOf (pl + 1)) : (∀ i, 1 ≤ i → i ≤ 3 → ¬ ith (psl pl i) pl = true) ∧ chs (rtS (pl + 1)) 0 = rtS pl ∧ ¬ rtS (pl + 1) < 16 := by
  have h4 : pl = 4 ∨ pl = 16 := by
    unfold dOf at h
    by_cases a : pl ≤ 4
    · rw [if_pos a] at h
      by_cases b : pl + 1 ≤ 4
      · rw [if_pos b] at h; omega
      · omega
    · rw [if_neg a, if_neg (show ¬ pl + 1 ≤ 4 by omega)] at h
      by_cases b : pl ≤ 16
      · rw [if_pos b] at h
        by_cases c : pl + 1 ≤ 16
        · rw [if_pos c] at h; omega
        · omega
      · rw [if_neg b, if_neg (show ¬ pl + 1 ≤ 16 by omega)] at h; omega
  refine ⟨fun i i1 i3 => ?_, ?_⟩
  · have hi : i = 1 ∨ i = 2 ∨ i = 3 := by omega
    rcases h4 with e | e <;> subst e <;> rcases hi with e | e | e <;> subst e <;> decide
  · rcases h4 with e | e <;> subst e <;> decide
theorem VT.fl {h h2 : Hp} {M pl : Nat} {nd nd' : Nat → Nat} {el : Nat → Int32} {ow ow' : Nat → Bool} (V : VT h M (pl + 1) nd el ow (-1)) (hp64 : pl < 64) (hoff : ∀ t, t < 21 → ith t pl = true → (∀ i, 1 ≤ i → i ≤ 3 → t ≠ psl pl i) → nd' t = nd t) (hF : ∀ i, 1 ≤ i → i ≤ 3 → ith (psl pl i) pl = true → FrN h (nd' (psl pl i))) (hdst : ∀ i j, 1 ≤ i → i < j → j ≤ dOf pl → ith (psl pl i) pl = true → nd' (psl pl i) ≠ nd' (psl pl j)) (F : Fr h h2 (WLt nd' pl)) (Z : ∀ i, 1 ≤ i → i ≤ 3 → ith (psl pl i) pl = true → ∃ x, KN h2 (nd' (psl pl i)) x ∧ VNk M (nd' (psl pl i)) pl nd' el (psl pl i) (-1) x) : VT h2 M pl nd' el ow' (-1) := by
  intro s hs hi
  by_cases hp : ∃ i, 1 ≤ i ∧ i ≤ 3 ∧ s = psl pl i
  · obtain ⟨i, i1, i3, rfl⟩ := hp
    obtain ⟨x, hO, hx⟩ := Z i i1 i3 hi
    exact ⟨x, hO, by rw [hx.ow]; exact hx, Or.inl rfl⟩
  · have ho : ∀ i, 1 ≤ i → i ≤ 3 → s ≠ psl pl i := fun i i1 i3 z => hp ⟨i, i1, i3, z⟩
    have hi2 : ith s (pl + 1) = true := by rw [← ith_dn hs hp64 ho]; exact hi
    obtain ⟨x, hO, hx, -⟩ := V s hs hi2
    have f : ∀ r, 45 ≤ r → r ≤ 48 → ce h2 (nm r (nd s)) = ce h (nm r (nd s)) := fun r r1 r2 => F _ (fun z => z.elim (fun z => by unfold nm at z; omega) (fun ⟨j, j1, j2, j3, j4⟩ => CNo_n (fun y => by
      have q := (hF j j1 j2 j3).1
      rw [← y.2.2, hO.k0] at q; cases q) (by omega) j4))
    rw [hoff s hs hi ho]
    refine ⟨x, hO.frm (f 45 (by decide) (by decide)) (f 46 (by decide) (by decide)) (f 47 (by decide) (by decide)) (f 48 (by decide) (by decide)), hx.tr (fun h16 q hq => ?_) (fun h16 q hq => ?_), Or.inl rfl⟩
    · have z1 := ho 1 (by decide) (by decide)
      rw [psl_1] at z1
      unfold elV
      by_cases c : 4 * s + q < pl
      · rw [if_pos c, if_pos (show 4 * s + q < pl + 1 by omega)]
      · rw [if_neg c, if_neg (show ¬ 4 * s + q < pl + 1 by omega)]
    · have z2 := chs_off2 hp64 h16 hs hq ho
      have zl := (chs_lt h16 hs hq).1
      unfold chV
      rw [ith_dn zl hp64 z2]
      by_cases c : ith (chs s q) (pl + 1) = true
      · rw [if_pos c, if_pos c, hoff _ zl (by rw [ith_dn zl hp64 z2]; exact c) z2]
      · rw [if_neg c, if_neg c]
set_option maxRecDepth 100000 in
set_option maxHeartbeats 4000000 in
theorem c_X9_withOneLess {G : GG} {d bc bs : Nat} {h : Hp} {Q : Pst} {M pl c : Nat} {nd nd' : Nat → Nat} {el : Nat → Int32} {ow ow' : Nat → Bool} (V : VT h M (pl + 1) nd el ow (-1)) (hp64 : pl < 64) (hoff : ∀ t, t < 21 → ith t pl = true → (∀ i, 1 ≤ i → i ≤ 3 → t ≠ psl pl i) → nd' t = nd t) (hF : ∀ i, 1 ≤ i → i ≤ 3 → ith (psl pl i) pl = true → FrN h (nd' (psl pl i))) (hdst : ∀ i j, 1 ≤ i → i < j → j ≤ dOf pl → ith (psl pl i) pl = true → nd' (psl pl i) ≠ nd' (psl pl j)) (hM : MKR h c) (hc : c < 700000) (hd : 8 ≤ d) (hbc : 12 ≤ bc) (hbs : 273 ≤ bs) (hq : ∀ h', VT h' M pl nd' el ow' (-1) → (∀ i, 1 ≤ i → i ≤ 3 → ith (psl pl i) pl = true → h_I h' (nm 45 (nd' (psl pl i))) 1 = -1) → MKR h' (c + crL pl pl 3) → Fr h h' (WLt nd' pl) → Q (oRet (vr (some (nm 45 (nd' (rtS pl)))))) h') : WP G m_X9_withOneLess d 0 (aargs 0 [vr (some (nm 40 2)), vr (some (nm 45 (nd (rtS (pl + 1))))), vi (nI (pl + 1))]) [] h bc bs Q := by
  have hd3 := dOf_b pl
  have hd4 := dOf_b (pl + 1)
  have hmo := dOf_m pl
  obtain ⟨xj, hJ, hxj, -⟩ := V _ rtS_lt rtS_i
  refine wp_sub [(0, vr (some (nm 40 2))), (1, vr (some (nm 45 (nd (rtS (pl + 1)))))), (2, vi (nI (pl + 1)))] (fun _ hz => hz) ?_
  refine wp_iload_n (i := 2) dX9_withOneLess_0 rfl rfl ?_
  refine wp_iconst (nI 1) dX9_withOneLess_1 (by decide) ?_
  refine wp_isubN dX9_withOneLess_2 (by omega) ?_
  show WP _ _ _ _ _ [vi (nI pl)] _ _ _ _
  refine wp_istore_n (i := 3) (lv' := [(3, vi (nI pl)), (0, vr (some (nm 40 2))), (1, vr (some (nm 45 (nd (rtS (pl + 1)))))), (2, vi (nI (pl + 1)))]) dX9_withOneLess_3 rfl (by decide) rfl ?_
  refine wp_iload_n (i := 3) dX9_withOneLess_4 rfl rfl ?_
  refine wp_cS (y' := m_X9_depthFor) [vi (nI pl)] [] 0 0 dX9_withOneLess_5 ml_X9_9 st_X9_depthFor ok_X9_depthFor rfl (Nat.le_of_ble_eq_true rfl) rfl (Nat.le_of_ble_eq_true rfl) (d' := d - 1) (by omega) (Nat.zero_le _) (Nat.zero_le _) (c_X9_depthFor (by omega) (cont_ret ?_))
  refine wp_iload_n (i := 2) dX9_withOneLess_8 rfl rfl ?_
  refine wp_cS (y' := m_X9_depthFor) [vi (nI (pl + 1))] [vi (nI (dOf pl))] 0 0 dX9_withOneLess_9 ml_X9_9 st_X9_depthFor ok_X9_depthFor rfl (Nat.le_of_ble_eq_true rfl) rfl (Nat.le_of_ble_eq_true rfl) (d' := d - 1) (by omega) (Nat.zero_le _) (Nat.zero_le _) (c_X9_depthFor (by omega) (cont_ret ?_))
  refine wp_icmp_geN 21 dX9_withOneLess_12 (by decide) (by omega) (by omega) (fun c_12 => ?_) (fun c_12 => ?_)
  · skip
    refine wp_aload_n (i := 0) dX9_withOneLess_21 rfl rfl ?_
    refine wp_aload_n (i := 1) dX9_withOneLess_22 rfl rfl ?_
    refine wp_iconst (-1) dX9_withOneLess_23 (by decide) ?_
    have hde : dOf pl = dOf (pl + 1) := by omega
    have hrt : psl pl (dOf pl) = rtS (pl + 1) := by rw [hde]; exact rtS_p (Nat.lt_succ_self pl)
    have hrp : psl pl (dOf pl) = rtS pl := by rw [hrt]; exact rtS_e hde.symm
    have hip : ith (psl pl (dOf pl)) pl = true := by rw [hrp]; exact rtS_i
    have hfk := hF (dOf pl) hd3.1 hd3.2 hip
    have hjk : nd (rtS (pl + 1)) ≠ nd' (psl pl (dOf pl)) := fun e => by
      have q := hfk.1
      rw [← e, hJ.k0] at q; cases q
    have hcj : ∀ p v, chAq xj p = some v → h_k h v = 6 ∧ ¬ CNo (nd' (psl pl (dOf pl))) v := fun p v hv => by
      obtain ⟨z1, z2, z3, z4⟩ := hxj.ch hv
      obtain ⟨z5, z6⟩ := chs_lt z1 rtS_lt z2
      obtain ⟨y, hy, -⟩ := V _ z5 z3
      subst z4
      refine ⟨hy.k0, CNo_n (fun q => ?_) (by decide)⟩
      have q2 := hfk.1
      rw [← q.2.2, hy.k0] at q2; cases q2
    refine wp_cV (y' := m_X4_copyOf) 6 [vr (some (nm 45 (nd (rtS (pl + 1))))), vi (-1)] [] 4 91 dX9_withOneLess_24 ml_X9_45 im_X4_copyOf se_X4_copyOf (by decide) hM.1 ok_X4_copyOf rfl (Nat.le_of_ble_eq_true rfl) rfl (Nat.le_of_ble_eq_true rfl) (d' := d - 1) (by omega) (by omega) (by omega) (c_X4_copyOf (k := nd' (psl pl (dOf pl))) hJ hxj.wf hM (by omega) hjk hfk hcj (by omega) (by omega) (by omega) (fun h1 x1 K1 C1 M1 F1 => cont_ret ?_))
    refine wp_astore (i := 4) (lv' := [(4, vr (some (nm 45 (nd' (psl pl (dOf pl)))))), (3, vi (nI pl)), (0, vr (some (nm 40 2))), (1, vr (some (nm 45 (nd (rtS (pl + 1)))))), (2, vi (nI (pl + 1)))]) dX9_withOneLess_27 (by decide) rfl ?_
    refine wp_aload (i := 4) dX9_withOneLess_29 rfl ?_
    refine wp_astore (i := 5) (lv' := [(5, vr (some (nm 45 (nd' (psl pl (dOf pl)))))), (4, vr (some (nm 45 (nd' (psl pl (dOf pl)))))), (3, vi (nI pl)), (0, vr (some (nm 40 2))), (1, vr (some (nm 45 (nd (rtS (pl + 1)))))), (2, vi (nI (pl + 1)))]) dX9_withOneLess_31 (by decide) rfl ?_
    refine wp_iload_n (i := 2) dX9_withOneLess_33 rfl rfl ?_
    refine wp_cS (y' := m_X9_depthFor) [vi (nI (pl + 1))] [] 0 0 dX9_withOneLess_34 ml_X9_9 st_X9_depthFor ok_X9_depthFor rfl (Nat.le_of_ble_eq_true rfl) rfl (Nat.le_of_ble_eq_true rfl) (d' := d - 1) (by omega) (Nat.zero_le _) (Nat.zero_le _) (c_X9_depthFor (by omega) (cont_ret ?_))
    refine wp_istore (i := 6) (lv' := [(6, vi (nI (dOf (pl + 1)))), (5, vr (some (nm 45 (nd' (psl pl (dOf pl)))))), (4, vr (some (nm 45 (nd' (psl pl (dOf pl)))))), (3, vi (nI pl)), (0, vr (some (nm 40 2))), (1, vr (some (nm 45 (nd (rtS (pl + 1)))))), (2, vi (nI (pl + 1)))]) dX9_withOneLess_37 (by decide) rfl ?_
    rw [← hde]
    refine wp_sub [(6, vi (nI (dOf pl))), (5, vr (some (nm 45 (nd' (psl pl (dOf pl)))))), (4, vr (some (nm 45 (nd' (psl pl (dOf pl)))))), (3, vi (nI pl)), (0, vr (some (nm 40 2)))] (sb_cons (.head _) (sb_cons (.tail _ (.head _)) (sb_cons (.tail _ (.tail _ (.head _))) (sb_cons (.tail _ (.tail _ (.tail _ (.head _)))) (sb_cons (.tail _ (.tail _ (.tail _ (.tail _ (.head _))))) sb_nil))))) ?_
    have hf1 : ∀ r i, 45 ≤ r → r ≤ 48 → i ≠ nd' (psl pl (dOf pl)) → ce h1 (nm r i) = ce h (nm r i) := fun r i r1 r2 i1 => F1 _ (W1_n (fun z => i1 z.2.2) (by omega) (by omega))
    have hS : ∀ s, s < 21 → hOf s < dOf pl → ith s (pl + 1) = true → nd s ≠ nd' (psl pl (dOf pl)) := fun s s1 s2 s3 z => by
      obtain ⟨y, hy, -⟩ := V s s1 s3
      have q := hfk.1
      rw [← z, hy.k0] at q; cases q
    skip
    refine l_X9_less hp64 hoff hdst (by omega) (dOf pl) hd3.1 (Nat.le_refl _) h1 _ _ _ x1 (fun i i1 i2 i3 => (hF i i1 (by omega) i3).frm (fun q q1 q2 => hf1 q _ q1 q2 (hdst i _ i1 i2 (Nat.le_refl _) i3))) (V.b.frm (fun s r s1 s2 s3 r1 r2 => hf1 r _ r1 r2 (hS s s1 (by omega) s3))) K1 ?_ hS M1 (by omega) (by omega) (by omega) (fun h6 Z6 M6 F6 => ?_)
    · have z := hxj.cp C1; rw [← hrt] at z; exact z
    · have F8 : Fr h h6 (WLt nd' pl) := fun a ha => (F6 a (fun z => ha (z.elim Or.inl (fun ⟨j, j1, j2, j3, j4⟩ => Or.inr ⟨j, j1, by omega, j3.elim (fun e => by rw [e]; exact hip) id, j4⟩)))).trans (F1 a (fun z => ha (z.elim (fun z => Or.inr ⟨_, hd3.1, hd3.2, hip, z⟩) Or.inl)))
      have e9 : crL pl pl 3 = crL pl pl (dOf pl - 1) + 1 := by
        rw [crL_3 hp64]
        obtain ⟨J, eJ⟩ : ∃ J, dOf pl = J + 1 := ⟨dOf pl - 1, by omega⟩
        rw [eJ] at hip ⊢
        rw [crL, if_pos hip]; rfl
      have z := hq h6 (V.fl hp64 hoff hF hdst F8 (fun i i1 i3 hi => Z6 i i1 (by rw [ith_iff, psl_h hp64 i1 i3] at hi; exact hi.1) hi)) (fun i i1 i3 hi => (Z6 i i1 (by rw [ith_iff, psl_h hp64 i1 i3] at hi; exact hi.1) hi).elim fun _ z => z.1.f_own.trans z.2.ow) (by rw [e9, Nat.add_comm (crL pl pl (dOf pl - 1)), ← Nat.add_assoc]; exact M6) F8
      rw [← hrp] at z; exact z
  · skip
    refine wp_aload_n (i := 1) dX9_withOneLess_15 rfl rfl ?_
    refine wp_iconst (nI 0) dX9_withOneLess_16 (by decide) ?_
    refine wp_cV (y' := m_X3_childAt) 5 [vi (nI 0)] [] 0 0 dX9_withOneLess_17 ml_X9_19 im_X3_childAt se_X3_childAt (by decide) hJ.k0 ok_X3_childAt rfl (Nat.le_of_ble_eq_true rfl) rfl (Nat.le_of_ble_eq_true rfl) (d' := d - 1) (by omega) (Nat.zero_le _) (Nat.zero_le _) (c_X3_childAt hJ hxj.wf.2.2.1 (p := 0) (by decide) (cont_ret ?_))
    have hs := shrink hp64 c_12
    rw [hxj.rch hs.2.2 (by decide), show chV (pl + 1) nd (rtS (pl + 1)) 0 = some (nm 45 (nd' (rtS pl))) from by unfold chV; rw [hs.2.1, if_pos (by rw [ith_iff]; have q := rtS_i (n := pl); rw [ith_iff] at q; exact ⟨by omega, by omega⟩), hoff _ rtS_lt rtS_i (fun i i1 i3 z => hs.1 i i1 i3 (z ▸ rtS_i))]]
    refine wp_areturn dX9_withOneLess_20 rfl (Or.inl ⟨_, rfl⟩) ?_
    have hs := shrink hp64 c_12
    exact hq h (V.fl hp64 hoff hF hdst Fr.rf (fun i i1 i3 z => absurd z (hs.1 i i1 i3))) (fun i i1 i3 z => absurd z (hs.1 i i1 i3)) (by rw [crL_0 hs.1]; exact hM) Fr.rf
