/-! The class: vectors with one element more, or another. -/
/-- the nodes of a whole path -/
def NDq (h : Hp) (n : Nat) (nd nd' : Nat → Nat) (ru : Nat → Bool) (pl D : Nat) : Prop := (∀ i, 1 ≤ i → i ≤ D → (ru (psl pl i) = true → nd' (psl pl i) = nd (psl pl i)) ∧ (ru (psl pl i) = false → FrN h (nd' (psl pl i)))) ∧ ∀ i j, 1 ≤ i → i < j → j ≤ D → nd' (psl pl i) ≠ nd' (psl pl j)
theorem VNk.ow {M k n s : Nat} {nd : Nat → Nat} {el : Nat → Int32} {o : Int32} {x : KNS} (H : VNk M k n nd el s o x) : KN_own x = o := by
  have h := H.2
  split at h
  · exact h.2.1
  · exact h.2.1
/-- the nodes of the vector stand apart from the new ones -/
theorem nd_ne {M n pl : Nat} {nd nd' : Nat → Nat} {el : Nat → Int32} {ow ru : Nat → Bool} {o : Int32} {h : Hp} {D : Nat} (V : VT h M n nd el ow o) (hru : ∀ t, ru t = (ith t n && (!decide (o = -1) && ow t))) (hinj : ∀ s t, s < 21 → t < 21 → ith s n = true → ith t n = true → nd s = nd t → s = t) (hp : pl < 64) (hN : NDq h n nd nd' ru pl D) {s i : Nat} (hs : s < 21) (hi : ith s n = true) (i1 : 1 ≤ i) (i2 : i ≤ D) (hne : s ≠ psl pl i) : nd s ≠ nd' (psl pl i) := fun z => by
  cases hr : ru (psl pl i) with
  | true =>
    have hi2 : ith (psl pl i) n = true := by rw [hru, Bool.and_eq_true] at hr; exact hr.1
    rw [(hN.1 i i1 i2).1 hr] at z
    exact hne (hinj _ _ hs (psl_lt hp) hi hi2 z)
  | false =>
    obtain ⟨y, hy, -⟩ := V s hs hi
    have := ((hN.1 i i1 i2).2 hr).1
    rw [← z, hy.k0] at this; cases this
theorem VT.fin {M n n' pl : Nat} {nd nd' : Nat → Nat} {el : Nat → Int32} {ow ru : Nat → Bool} {o : Int32} {h h2 : Hp} {ow' : Nat → Bool} {e : Int32} (V : VT h M n nd el ow o) (hn : (n' = n ∧ pl < n) ∨ (n' = n + 1 ∧ pl = n)) (hn4 : n' ≤ 64) (hru : ∀ t, ru t = (ith t n && (!decide (o = -1) && ow t))) (hinj : ∀ s t, s < 21 → t < 21 → ith s n = true → ith t n = true → nd s = nd t → s = t) (hoff : ∀ t, t < 21 → ith t n' = true → (∀ i, 1 ≤ i → i ≤ 3 → t ≠ psl pl i) → nd' t = nd t) (hN : NDq h n nd nd' ru pl (dOf n')) (F : Fr h h2 (WPt nd' pl (dOf n'))) (Z : ∀ i, 1 ≤ i → i ≤ dOf n' → ∃ x, KN h2 (nd' (psl pl i)) x ∧ VNk M (nd' (psl pl i)) n' nd' (va_up el pl e) (psl pl i) o x) (o1 : ∀ i, 1 ≤ i → i ≤ dOf n' → ow' (psl pl i) = true) (o2 : ∀ t, (∀ i, 1 ≤ i → i ≤ 3 → t ≠ psl pl i) → ow' t = ow t) : VT h2 M n' nd' (va_up el pl e) ow' o := by
  have hp64 : pl < 64 := by omega
  have hd3 := dOf_b n'
  intro s hs hi
  by_cases hp : ∃ i, 1 ≤ i ∧ i ≤ 3 ∧ s = psl pl i
  · obtain ⟨i, i1, i3, rfl⟩ := hp
    have hiD : i ≤ dOf n' := by rw [ith_iff, psl_h hp64 i1 i3] at hi; exact hi.1
    obtain ⟨x, hO, hx⟩ := Z i i1 hiD
    exact ⟨x, hO, by rw [hx.ow]; exact hx, Or.inr ⟨fun _ => o1 i i1 hiD, fun _ => hx.ow⟩⟩
  · have hoffp : ∀ i, 1 ≤ i → i ≤ 3 → s ≠ psl pl i := fun i i1 i3 z => hp ⟨i, i1, i3, z⟩
    have hio := ith_offN hs hn hn4 hoffp
    obtain ⟨x, hO, hx, how⟩ := V s hs (by rw [← hio]; exact hi)
    have hnd := hoff s hs hi hoffp
    have f : ∀ r, 45 ≤ r → r ≤ 48 → ce h2 (nm r (nd s)) = ce h (nm r (nd s)) := fun r r1 r2 => F _ (WPt_n (fun j j1 j2 => nd_ne V hru hinj hp64 hN hs (by rw [← hio]; exact hi) j1 j2 (hoffp j j1 (by omega))) (by omega) (by omega))
    rw [hnd]
    refine ⟨x, hO.frm (f 45 (by decide) (by decide)) (f 46 (by decide) (by decide)) (f 47 (by decide) (by decide)) (f 48 (by decide) (by decide)), hx.tr (fun h16 q hq => ?_) (fun h16 q hq => ?_), how.imp id (fun z => by rw [o2 s hoffp]; exact z)⟩
    · have z1 := hoffp 1 (by decide) (by decide)
      rw [psl_1] at z1
      unfold elV
      rw [va_up_app, if_neg (show ¬ 4 * s + q = pl by omega)]
      by_cases c : 4 * s + q < n
      · rw [if_pos c, if_pos (show 4 * s + q < n' by omega)]
      · rw [if_neg c, if_neg (show ¬ 4 * s + q < n' by omega)]
    · have z2 := chs_off2 hp64 h16 hs hq hoffp
      have zl := (chs_lt h16 hs hq).1
      unfold chV
      rw [ith_offN zl hn hn4 z2]
      by_cases c : ith (chs s q) n = true
      · rw [if_pos c, if_pos c, hoff _ zl (by rw [ith_offN zl hn hn4 z2]; exact c) z2]
      · rw [if_neg c, if_neg c]
theorem NDq.p {h : Hp} {n pl D : Nat} {nd nd' : Nat → Nat} {ru : Nat → Bool} (H : NDq h n nd nd' ru pl D) (h1 : 1 ≤ D) : NDp h n nd nd' ru pl (D - 1) := ⟨fun i i1 i2 => H.1 i i1 (by omega), fun i j i1 i2 i3 => H.2 i j i1 i2 (by omega)⟩
theorem VT.b {h : Hp} {M n : Nat} {nd : Nat → Nat} {el : Nat → Int32} {ow : Nat → Bool} {o : Int32} (V : VT h M n nd el ow o) {H : Nat} : VTb h M n nd el ow o H := fun s h1 _ h3 => V s h1 h3
set_option maxRecDepth 100000 in
set_option maxHeartbeats 4000000 in
theorem c_X9_withOther {G : GG} {d bc bs : Nat} {h : Hp} {Q : Pst} {M n pl : Nat} {nd nd' : Nat → Nat} {el : Nat → Int32} {ow ru : Nat → Bool} {o : Int32} {e : Int32} {c : Nat} {ow' : Nat → Bool} (V : VT h M n nd el ow o) (hpn : pl < n) (hn4 : n ≤ 64) (hru : ∀ t, ru t = (ith t n && (!decide (o = -1) && ow t))) (hinj : ∀ s t, s < 21 → t < 21 → ith s n = true → ith t n = true → nd s = nd t → s = t) (hoff : ∀ t, t < 21 → ith t n = true → (∀ i, 1 ≤ i → i ≤ 3 → t ≠ psl pl i) → nd' t = nd t) (hN : NDq h n nd nd' ru pl (dOf n)) (hM : MKR h c) (hc : c < 700000) (o1 : ∀ i, 1 ≤ i → i ≤ dOf n → ow' (psl pl i) = true) (o2 : ∀ t, (∀ i, 1 ≤ i → i ≤ 3 → t ≠ psl pl i) → ow' t = ow t) (hd : 8 ≤ d) (hbc : 12 ≤ bc) (hbs : 273 ≤ bs) (hq : ∀ h', VT h' M n nd' (va_up el pl e) ow' o → (∀ i, 1 ≤ i → i ≤ dOf n → h_I h' (nm 45 (nd' (psl pl i))) 1 = o) → MKR h' (c + crN ru pl (dOf n + 1)) → Fr h h' (WPt nd' pl (dOf n)) → Q (oRet (vr (some (nm 45 (nd' (psl pl (dOf n))))))) h') : WP G m_X9_withOther d 0 (aargs 0 [vr (some (nm 40 2)), vr (some (nm 45 (nd (psl pl (dOf n))))), vi (nI n), vi (nI pl), vi e, vi o]) [] h bc bs Q := by
  have hn : (n = n ∧ pl < n) ∨ (n = n + 1 ∧ pl = n) := Or.inl ⟨rfl, hpn⟩
  have hp64 : pl < 64 := by omega
  have hd3 := dOf_b n
  have hrl : psl pl (dOf n) < 21 := psl_lt hp64
  have hS : ∀ s, s < 21 → hOf s < dOf n → ith s n = true → nd s ≠ nd' (psl pl (dOf n)) := fun s s1 s2 s3 => nd_ne V hru hinj hp64 hN s1 s3 hd3.1 (Nat.le_refl _) (fun z => by rw [z, psl_h hp64 hd3.1 hd3.2] at s2; omega)
  have hne : ∀ i, 1 ≤ i → i < dOf n → nd' (psl pl i) ≠ nd' (psl pl (dOf n)) := fun i i1 i2 => hN.2 i _ i1 i2 (Nat.le_refl _)
  have ht := psl_i hpn hn4 (dOf_b n).1 (Nat.le_refl _)
  obtain ⟨xj, hJ, hxj, hoj⟩ := V _ hrl ht
  have hru2 : (¬ o = -1 ∧ KN_own xj = o) ↔ ru (psl pl (dOf n)) = true := by
    rw [hru, ht, Bool.true_and, Bool.and_eq_true, Bool.not_eq_true', decide_eq_false_iff_not]
    exact ⟨fun z => ⟨z.1, (hoj.resolve_left z.1).mp z.2⟩, fun z => ⟨z.1, (hoj.resolve_left z.1).mpr z.2⟩⟩
  have hno : ¬ (¬ o = -1 ∧ KN_own xj = o) → ru (psl pl (dOf n)) = false := fun z => by
    cases e : ru (psl pl (dOf n)) with
    | false => rfl
    | true => exact absurd (hru2.mpr e) z
  have hfj : ¬ (¬ o = -1 ∧ KN_own xj = o) → FrN h (nd' (psl pl (dOf n))) := fun z => (hN.1 _ hd3.1 (Nat.le_refl _)).2 (hno z)
  have hjk : ¬ (¬ o = -1 ∧ KN_own xj = o) → nd (psl pl (dOf n)) ≠ nd' (psl pl (dOf n)) := fun z e => by
    have := (hfj z).1
    rw [← e, hJ.k0] at this; cases this
  have hcj : ¬ (¬ o = -1 ∧ KN_own xj = o) → ∀ p v, chAq xj p = some v → h_k h v = 6 ∧ ¬ CNo (nd' (psl pl (dOf n))) v := fun z p v hv => by
    obtain ⟨z1, z2, z3, z4⟩ := hxj.ch hv
    obtain ⟨z5, z6⟩ := chs_lt z1 hrl z2
    obtain ⟨y, hy, -⟩ := V _ z5 z3
    subst z4
    refine ⟨hy.k0, CNo_n (fun q => ?_) (by decide)⟩
    have := (hfj z).1
    rw [← q.2.2, hy.k0] at this; cases this
  refine wp_sub [(0, vr (some (nm 40 2))), (1, vr (some (nm 45 (nd (psl pl (dOf n)))))), (2, vi (nI n)), (3, vi (nI pl)), (4, vi e), (5, vi o)] (fun _ hz => hz) ?_
  refine wp_aload_n (i := 0) dX9_withOther_0 rfl rfl ?_
  refine wp_aload_n (i := 1) dX9_withOther_1 rfl rfl ?_
  refine wp_iload (i := 5) dX9_withOther_2 rfl ?_
  refine wp_cV (y' := m_X4_ownOrCopy) 6 [vr (some (nm 45 (nd (psl pl (dOf n))))), vi o] [] 4 91 dX9_withOther_4 ml_X9_37 im_X4_ownOrCopy se_X4_ownOrCopy (by decide) hM.1 ok_X4_ownOrCopy rfl (Nat.le_of_ble_eq_true rfl) rfl (Nat.le_of_ble_eq_true rfl) (d' := d - 1) (by omega) (by omega) (by omega) (c_X4_ownOrCopy (k := nd' (psl pl (dOf n))) hJ hxj.wf hM (by omega) hjk hfj hcj (by omega) (by omega) (by omega) (fun hr => cont_ret ?_) (fun hr h1 x1 K1 C1 M1 F1 => cont_ret ?_))
  · have hnn : nd (psl pl (dOf n)) = nd' (psl pl (dOf n)) := ((hN.1 _ hd3.1 (Nat.le_refl _)).1 (hru2.mp hr)).symm
    have hJ9 : KN h (nd' (psl pl (dOf n))) xj := by rw [← hnn]; exact hJ
    rw [hnn]
    refine wp_astore (i := 6) (lv' := [(6, vr (some (nm 45 (nd' (psl pl (dOf n)))))), (0, vr (some (nm 40 2))), (1, vr (some (nm 45 (nd' (psl pl (dOf n)))))), (2, vi (nI n)), (3, vi (nI pl)), (4, vi e), (5, vi o)]) dX9_withOther_7 (by decide) rfl ?_
    refine wp_aload_n (i := 0) dX9_withOther_9 rfl rfl ?_
    refine wp_aload (i := 6) dX9_withOther_10 rfl ?_
    refine wp_iload_n (i := 2) dX9_withOther_12 rfl rfl ?_
    refine wp_cS (y' := m_X9_depthFor) [vi (nI n)] [vr (some (nm 45 (nd' (psl pl (dOf n))))), vr (some (nm 40 2))] 0 0 dX9_withOther_13 ml_X9_9 st_X9_depthFor ok_X9_depthFor rfl (Nat.le_of_ble_eq_true rfl) rfl (Nat.le_of_ble_eq_true rfl) (d' := d - 1) (by omega) (Nat.zero_le _) (Nat.zero_le _) (c_X9_depthFor (by omega) (cont_ret ?_))
    refine wp_iload_n (i := 3) dX9_withOther_16 rfl rfl ?_
    refine wp_iload (i := 4) dX9_withOther_17 rfl ?_
    refine wp_iload (i := 5) dX9_withOther_19 rfl ?_
    refine wp_cS (y' := m_X9_putIn) [vr (some (nm 40 2)), vr (some (nm 45 (nd' (psl pl (dOf n))))), vi (nI (dOf n)), vi (nI pl), vi e, vi o] [] 8 182 dX9_withOther_21 ml_X9_41 st_X9_putIn ok_X9_putIn rfl (Nat.le_of_ble_eq_true rfl) rfl (Nat.le_of_ble_eq_true rfl) (d' := d - 1) (by omega) (by omega) (by omega) (c_X9_putIn (e := e) hn hn4 hru hinj hoff (by omega) (hN.p hd3.1) V.b hS hJ9 ((by have z9 := hxj; rw [hnn, hr.2] at z9; exact z9)) hM (by omega) (by omega) (by omega) (fun h9 Z9 M9 F9 => cont_void ?_))
    have F8 : Fr h h9 (WPt nd' pl (dOf n)) := F9
    have V9 := V.fin (ow' := ow') (e := e) hn hn4 hru hinj hoff hN F8 Z9 o1 o2
    refine wp_aload (i := 6) dX9_withOther_24 rfl ?_
    refine wp_areturn dX9_withOther_26 rfl (Or.inl ⟨_, rfl⟩) ?_
    refine hq _ V9 (fun i i1 i2 => (Z9 i i1 i2).elim fun _ z => z.1.f_own.trans z.2.ow) ?_ F8
    rw [crN_s hd3.1, if_pos (hru2.mp hr), Nat.add_zero]; exact M9
  · skip
    refine wp_astore (i := 6) (lv' := [(6, vr (some (nm 45 (nd' (psl pl (dOf n)))))), (0, vr (some (nm 40 2))), (1, vr (some (nm 45 (nd (psl pl (dOf n)))))), (2, vi (nI n)), (3, vi (nI pl)), (4, vi e), (5, vi o)]) dX9_withOther_7 (by decide) rfl ?_
    refine wp_aload_n (i := 0) dX9_withOther_9 rfl rfl ?_
    refine wp_aload (i := 6) dX9_withOther_10 rfl ?_
    refine wp_iload_n (i := 2) dX9_withOther_12 rfl rfl ?_
    refine wp_cS (y' := m_X9_depthFor) [vi (nI n)] [vr (some (nm 45 (nd' (psl pl (dOf n))))), vr (some (nm 40 2))] 0 0 dX9_withOther_13 ml_X9_9 st_X9_depthFor ok_X9_depthFor rfl (Nat.le_of_ble_eq_true rfl) rfl (Nat.le_of_ble_eq_true rfl) (d' := d - 1) (by omega) (Nat.zero_le _) (Nat.zero_le _) (c_X9_depthFor (by omega) (cont_ret ?_))
    refine wp_iload_n (i := 3) dX9_withOther_16 rfl rfl ?_
    refine wp_iload (i := 4) dX9_withOther_17 rfl ?_
    refine wp_iload (i := 5) dX9_withOther_19 rfl ?_
    refine wp_cS (y' := m_X9_putIn) [vr (some (nm 40 2)), vr (some (nm 45 (nd' (psl pl (dOf n))))), vi (nI (dOf n)), vi (nI pl), vi e, vi o] [] 8 182 dX9_withOther_21 ml_X9_41 st_X9_putIn ok_X9_putIn rfl (Nat.le_of_ble_eq_true rfl) rfl (Nat.le_of_ble_eq_true rfl) (d' := d - 1) (by omega) (by omega) (by omega) (c_X9_putIn (e := e) hn hn4 hru hinj hoff (by omega) ⟨fun i i1 i2 => ⟨(hN.1 i i1 (by omega)).1, fun r => ((hN.1 i i1 (by omega)).2 r).frm (fun q q1 q2 => F1 _ (W1_n (fun z => hne i i1 (by omega) z.2.2) (by omega) (by omega)))⟩, fun i j i1 i2 i3 => hN.2 i j i1 i2 (by omega)⟩ (V.b.frm (fun s r s1 s2 s3 r1 r2 => F1 _ (W1_n (fun z => hS s s1 (by omega) s3 z.2.2) (by omega) (by omega)))) hS K1 (hxj.cp C1) M1 (by omega) (by omega) (by omega) (fun h9 Z9 M9 F9 => cont_void ?_))
    have F8 : Fr h h9 (WPt nd' pl (dOf n)) := (fun a ha => (F9 a ha).trans (F1 a (fun z => ha (z.elim (fun z => Or.inr ⟨dOf n, hd3.1, Nat.le_refl _, z⟩) Or.inl))))
    have V9 := V.fin (ow' := ow') (e := e) hn hn4 hru hinj hoff hN F8 Z9 o1 o2
    refine wp_aload (i := 6) dX9_withOther_24 rfl ?_
    refine wp_areturn dX9_withOther_26 rfl (Or.inl ⟨_, rfl⟩) ?_
    refine hq _ V9 (fun i i1 i2 => (Z9 i i1 i2).elim fun _ z => z.1.f_own.trans z.2.ow) ?_ F8
    rw [crN_s hd3.1, if_neg (by rw [hno hr]; decide), ← Nat.add_assoc, Nat.add_right_comm]; exact M9
set_option maxRecDepth 100000 in
set_option maxHeartbeats 4000000 in
theorem c_X9_withOneMore {G : GG} {d bc bs : Nat} {h : Hp} {Q : Pst} {M n : Nat} {nd nd' : Nat → Nat} {el : Nat → Int32} {ow ru : Nat → Bool} {o : Int32} {e : Int32} {c : Nat} {ow' : Nat → Bool} (V : VT h M n nd el ow o)  (hn4 : (n + 1) ≤ 64) (hru : ∀ t, ru t = (ith t n && (!decide (o = -1) && ow t))) (hinj : ∀ s t, s < 21 → t < 21 → ith s n = true → ith t n = true → nd s = nd t → s = t) (hoff : ∀ t, t < 21 → ith t (n + 1) = true → (∀ i, 1 ≤ i → i ≤ 3 → t ≠ psl n i) → nd' t = nd t) (hN : NDq h n nd nd' ru n (dOf (n + 1))) (hM : MKR h c) (hc : c < 700000) (o1 : ∀ i, 1 ≤ i → i ≤ dOf (n + 1) → ow' (psl n i) = true) (o2 : ∀ t, (∀ i, 1 ≤ i → i ≤ 3 → t ≠ psl n i) → ow' t = ow t) (hd : 8 ≤ d) (hbc : 12 ≤ bc) (hbs : 273 ≤ bs) (hq : ∀ h', VT h' M (n + 1) nd' (va_up el n e) ow' o → (∀ i, 1 ≤ i → i ≤ dOf (n + 1) → h_I h' (nm 45 (nd' (psl n i))) 1 = o) → MKR h' (c + crN ru n (dOf (n + 1) + 1)) → Fr h h' (WPt nd' n (dOf (n + 1))) → Q (oRet (vr (some (nm 45 (nd' (psl n (dOf (n + 1)))))))) h') : WP G m_X9_withOneMore d 0 (aargs 0 [vr (some (nm 40 2)), vr (some (nm 45 (nd (rtS n)))), vi (nI n), vi e, vi o]) [] h bc bs Q := by
  have hn : ((n + 1) = n ∧ n < n) ∨ ((n + 1) = n + 1 ∧ n = n) := Or.inr ⟨rfl, rfl⟩
  have hp64 : n < 64 := by omega
  have hd3 := dOf_b (n + 1)
  have hrl : psl n (dOf (n + 1)) < 21 := psl_lt hp64
  have hS : ∀ s, s < 21 → hOf s < dOf (n + 1) → ith s n = true → nd s ≠ nd' (psl n (dOf (n + 1))) := fun s s1 s2 s3 => nd_ne V hru hinj hp64 hN s1 s3 hd3.1 (Nat.le_refl _) (fun z => by rw [z, psl_h hp64 hd3.1 hd3.2] at s2; omega)
  have hne : ∀ i, 1 ≤ i → i < dOf (n + 1) → nd' (psl n i) ≠ nd' (psl n (dOf (n + 1))) := fun i i1 i2 => hN.2 i _ i1 i2 (Nat.le_refl _)
  have hd3n := dOf_b n
  refine wp_sub [(0, vr (some (nm 40 2))), (1, vr (some (nm 45 (nd (rtS n))))), (2, vi (nI n)), (3, vi e), (4, vi o)] (fun _ hz => hz) ?_
  refine wp_iload_n (i := 2) dX9_withOneMore_0 rfl rfl ?_
  refine wp_iconst (nI 1) dX9_withOneMore_1 (by decide) ?_
  refine wp_iaddN dX9_withOneMore_2 ?_
  refine wp_cS (y' := m_X9_depthFor) [vi (nI (n + 1))] [] 0 0 dX9_withOneMore_3 ml_X9_9 st_X9_depthFor ok_X9_depthFor rfl (Nat.le_of_ble_eq_true rfl) rfl (Nat.le_of_ble_eq_true rfl) (d' := d - 1) (by omega) (Nat.zero_le _) (Nat.zero_le _) (c_X9_depthFor (by omega) (cont_ret ?_))
  refine wp_istore (i := 5) (lv' := [(5, vi (nI (dOf (n + 1)))), (0, vr (some (nm 40 2))), (1, vr (some (nm 45 (nd (rtS n))))), (2, vi (nI n)), (3, vi e), (4, vi o)]) dX9_withOneMore_6 (by decide) rfl ?_
  refine wp_iload (i := 5) dX9_withOneMore_8 rfl ?_
  refine wp_iload_n (i := 2) dX9_withOneMore_10 rfl rfl ?_
  refine wp_cS (y' := m_X9_depthFor) [vi (nI n)] [vi (nI (dOf (n + 1)))] 0 0 dX9_withOneMore_11 ml_X9_9 st_X9_depthFor ok_X9_depthFor rfl (Nat.le_of_ble_eq_true rfl) rfl (Nat.le_of_ble_eq_true rfl) (d' := d - 1) (by omega) (Nat.zero_le _) (Nat.zero_le _) (c_X9_depthFor (by omega) (cont_ret ?_))
  refine wp_icmp_leN 35 dX9_withOneMore_14 (by decide) (by omega) (by omega) (fun c_14 => ?_) (fun c_14 => ?_)
  · have hmon : dOf n ≤ dOf (n + 1) := by unfold dOf; (repeat' split) <;> omega
    have hde : dOf (n + 1) = dOf n := by omega
    have hrt : rtS n = psl n (dOf (n + 1)) := by rw [rtS_p (show n < n + 1 by omega)]; unfold rtS; rw [hde]
    have ht : ith (psl n (dOf (n + 1))) n = true := by rw [← hrt]; exact rtS_i
    rw [hrt]
    obtain ⟨xj, hJ, hxj, hoj⟩ := V _ hrl ht
    have hru2 : (¬ o = -1 ∧ KN_own xj = o) ↔ ru (psl n (dOf (n + 1))) = true := by
      rw [hru, ht, Bool.true_and, Bool.and_eq_true, Bool.not_eq_true', decide_eq_false_iff_not]
      exact ⟨fun z => ⟨z.1, (hoj.resolve_left z.1).mp z.2⟩, fun z => ⟨z.1, (hoj.resolve_left z.1).mpr z.2⟩⟩
    have hno : ¬ (¬ o = -1 ∧ KN_own xj = o) → ru (psl n (dOf (n + 1))) = false := fun z => by
      cases e : ru (psl n (dOf (n + 1))) with
      | false => rfl
      | true => exact absurd (hru2.mpr e) z
    have hfj : ¬ (¬ o = -1 ∧ KN_own xj = o) → FrN h (nd' (psl n (dOf (n + 1)))) := fun z => (hN.1 _ hd3.1 (Nat.le_refl _)).2 (hno z)
    have hjk : ¬ (¬ o = -1 ∧ KN_own xj = o) → nd (psl n (dOf (n + 1))) ≠ nd' (psl n (dOf (n + 1))) := fun z e => by
      have := (hfj z).1
      rw [← e, hJ.k0] at this; cases this
    have hcj : ¬ (¬ o = -1 ∧ KN_own xj = o) → ∀ p v, chAq xj p = some v → h_k h v = 6 ∧ ¬ CNo (nd' (psl n (dOf (n + 1)))) v := fun z p v hv => by
      obtain ⟨z1, z2, z3, z4⟩ := hxj.ch hv
      obtain ⟨z5, z6⟩ := chs_lt z1 hrl z2
      obtain ⟨y, hy, -⟩ := V _ z5 z3
      subst z4
      refine ⟨hy.k0, CNo_n (fun q => ?_) (by decide)⟩
      have := (hfj z).1
      rw [← q.2.2, hy.k0] at this; cases this
    refine wp_aload_n (i := 0) dX9_withOneMore_35 rfl rfl ?_
    refine wp_aload_n (i := 1) dX9_withOneMore_36 rfl rfl ?_
    refine wp_iload (i := 4) dX9_withOneMore_37 rfl ?_
    refine wp_cV (y' := m_X4_ownOrCopy) 6 [vr (some (nm 45 (nd (psl n (dOf (n + 1)))))), vi o] [] 4 91 dX9_withOneMore_39 ml_X9_37 im_X4_ownOrCopy se_X4_ownOrCopy (by decide) hM.1 ok_X4_ownOrCopy rfl (Nat.le_of_ble_eq_true rfl) rfl (Nat.le_of_ble_eq_true rfl) (d' := d - 1) (by omega) (by omega) (by omega) (c_X4_ownOrCopy (k := nd' (psl n (dOf (n + 1)))) hJ hxj.wf hM (by omega) hjk hfj hcj (by omega) (by omega) (by omega) (fun hr => cont_ret ?_) (fun hr h1 x1 K1 C1 M1 F1 => cont_ret ?_))
    · have hnn : nd (psl n (dOf (n + 1))) = nd' (psl n (dOf (n + 1))) := ((hN.1 _ hd3.1 (Nat.le_refl _)).1 (hru2.mp hr)).symm
      have hJ9 : KN h (nd' (psl n (dOf (n + 1)))) xj := by rw [← hnn]; exact hJ
      rw [hnn]
      refine wp_astore (i := 6) (lv' := [(6, vr (some (nm 45 (nd' (psl n (dOf (n + 1))))))), (5, vi (nI (dOf (n + 1)))), (0, vr (some (nm 40 2))), (1, vr (some (nm 45 (nd' (psl n (dOf (n + 1))))))), (2, vi (nI n)), (3, vi e), (4, vi o)]) dX9_withOneMore_42 (by decide) rfl ?_
      refine wp_aload_n (i := 0) dX9_withOneMore_44 rfl rfl ?_
      refine wp_aload (i := 6) dX9_withOneMore_45 rfl ?_
      refine wp_iload (i := 5) dX9_withOneMore_47 rfl ?_
      refine wp_iload_n (i := 2) dX9_withOneMore_49 rfl rfl ?_
      refine wp_iload_n (i := 3) dX9_withOneMore_50 rfl rfl ?_
      refine wp_iload (i := 4) dX9_withOneMore_51 rfl ?_
      refine wp_cS (y' := m_X9_putIn) [vr (some (nm 40 2)), vr (some (nm 45 (nd' (psl n (dOf (n + 1)))))), vi (nI (dOf (n + 1))), vi (nI n), vi e, vi o] [] 8 182 dX9_withOneMore_53 ml_X9_41 st_X9_putIn ok_X9_putIn rfl (Nat.le_of_ble_eq_true rfl) rfl (Nat.le_of_ble_eq_true rfl) (d' := d - 1) (by omega) (by omega) (by omega) (c_X9_putIn (e := e) hn hn4 hru hinj hoff (by omega) (hN.p hd3.1) V.b hS hJ9 ((by have z9 := hxj; rw [hnn, hr.2] at z9; exact z9)) hM (by omega) (by omega) (by omega) (fun h9 Z9 M9 F9 => cont_void ?_))
      have F8 : Fr h h9 (WPt nd' n (dOf (n + 1))) := F9
      have V9 := V.fin (ow' := ow') (e := e) hn hn4 hru hinj hoff hN F8 Z9 o1 o2
      refine wp_aload (i := 6) dX9_withOneMore_56 rfl ?_
      refine wp_areturn dX9_withOneMore_58 rfl (Or.inl ⟨_, rfl⟩) ?_
      refine hq _ V9 (fun i i1 i2 => (Z9 i i1 i2).elim fun _ z => z.1.f_own.trans z.2.ow) ?_ F8
      rw [crN_s hd3.1, if_pos (hru2.mp hr), Nat.add_zero]; exact M9
    · skip
      refine wp_astore (i := 6) (lv' := [(6, vr (some (nm 45 (nd' (psl n (dOf (n + 1))))))), (5, vi (nI (dOf (n + 1)))), (0, vr (some (nm 40 2))), (1, vr (some (nm 45 (nd (psl n (dOf (n + 1))))))), (2, vi (nI n)), (3, vi e), (4, vi o)]) dX9_withOneMore_42 (by decide) rfl ?_
      refine wp_aload_n (i := 0) dX9_withOneMore_44 rfl rfl ?_
      refine wp_aload (i := 6) dX9_withOneMore_45 rfl ?_
      refine wp_iload (i := 5) dX9_withOneMore_47 rfl ?_
      refine wp_iload_n (i := 2) dX9_withOneMore_49 rfl rfl ?_
      refine wp_iload_n (i := 3) dX9_withOneMore_50 rfl rfl ?_
      refine wp_iload (i := 4) dX9_withOneMore_51 rfl ?_
      refine wp_cS (y' := m_X9_putIn) [vr (some (nm 40 2)), vr (some (nm 45 (nd' (psl n (dOf (n + 1)))))), vi (nI (dOf (n + 1))), vi (nI n), vi e, vi o] [] 8 182 dX9_withOneMore_53 ml_X9_41 st_X9_putIn ok_X9_putIn rfl (Nat.le_of_ble_eq_true rfl) rfl (Nat.le_of_ble_eq_true rfl) (d' := d - 1) (by omega) (by omega) (by omega) (c_X9_putIn (e := e) hn hn4 hru hinj hoff (by omega) ⟨fun i i1 i2 => ⟨(hN.1 i i1 (by omega)).1, fun r => ((hN.1 i i1 (by omega)).2 r).frm (fun q q1 q2 => F1 _ (W1_n (fun z => hne i i1 (by omega) z.2.2) (by omega) (by omega)))⟩, fun i j i1 i2 i3 => hN.2 i j i1 i2 (by omega)⟩ (V.b.frm (fun s r s1 s2 s3 r1 r2 => F1 _ (W1_n (fun z => hS s s1 (by omega) s3 z.2.2) (by omega) (by omega)))) hS K1 (hxj.cp C1) M1 (by omega) (by omega) (by omega) (fun h9 Z9 M9 F9 => cont_void ?_))
      have F8 : Fr h h9 (WPt nd' n (dOf (n + 1))) := (fun a ha => (F9 a ha).trans (F1 a (fun z => ha (z.elim (fun z => Or.inr ⟨dOf (n + 1), hd3.1, Nat.le_refl _, z⟩) Or.inl))))
      have V9 := V.fin (ow' := ow') (e := e) hn hn4 hru hinj hoff hN F8 Z9 o1 o2
      refine wp_aload (i := 6) dX9_withOneMore_56 rfl ?_
      refine wp_areturn dX9_withOneMore_58 rfl (Or.inl ⟨_, rfl⟩) ?_
      refine hq _ V9 (fun i i1 i2 => (Z9 i i1 i2).elim fun _ z => z.1.f_own.trans z.2.ow) ?_ F8
      rw [crN_s hd3.1, if_neg (by rw [hno hr]; decide), ← Nat.add_assoc, Nat.add_right_comm]; exact M9
  · have hgr : dOf n < dOf (n + 1) := by omega
    have hrn : rtS n ≠ psl n (dOf (n + 1)) := fun z => by
      have q := rtS_i (n := n)
      rw [ith_iff, z, psl_h hp64 hd3.1 hd3.2] at q; omega
    refine wp_aload_n (i := 0) dX9_withOneMore_17 rfl rfl ?_
    refine wp_iload (i := 4) dX9_withOneMore_18 rfl ?_
    have hg := grow_c (n := n) (p := 0) (by omega) hgr (by decide)
    have hr : ru (psl n (dOf (n + 1))) = false := by
      rw [hru]
      cases e9 : ith (psl n (dOf (n + 1))) n with
      | false => rfl
      | true => rw [ith_iff, psl_h hp64 hd3.1 hd3.2] at e9; omega
    have hfk := (hN.1 _ hd3.1 (Nat.le_refl _)).2 hr
    refine wp_cV (y' := m_X4_freshInner) 6 [vi o] [] 2 11 dX9_withOneMore_20 ml_X9_28 im_X4_freshInner se_X4_freshInner (by decide) hM.1 ok_X4_freshInner rfl (Nat.le_of_ble_eq_true rfl) rfl (Nat.le_of_ble_eq_true rfl) (d' := d - 1) (by omega) (by omega) (by omega) (c_X4_freshInner (k := nd' (psl n (dOf (n + 1)))) hM (by omega) hfk.1 hfk.2.2.2 (by omega) (by omega) (by omega) (fun h1 x1 K1 L1 m1 M1 F1 => cont_ret ?_))
    skip
    refine wp_astore (i := 6) (lv' := [(6, vr (some (nm 45 (nd' (psl n (dOf (n + 1))))))), (5, vi (nI (dOf (n + 1)))), (0, vr (some (nm 40 2))), (1, vr (some (nm 45 (nd (rtS n))))), (2, vi (nI n)), (3, vi e), (4, vi o)]) dX9_withOneMore_23 (by decide) rfl ?_
    refine wp_aload (i := 6) dX9_withOneMore_25 rfl ?_
    refine wp_iconst (nI 0) dX9_withOneMore_27 (by decide) ?_
    refine wp_aload_n (i := 1) dX9_withOneMore_28 rfl rfl ?_
    refine wp_cV (y' := m_X3_putChild) 5 [vi (nI 0), vr (some (nm 45 (nd (rtS n))))] [] 0 0 dX9_withOneMore_29 ml_X9_33 im_X3_putChild se_X3_putChild (by decide) K1.k0 ok_X3_putChild rfl (Nat.le_of_ble_eq_true rfl) rfl (Nat.le_of_ble_eq_true rfl) (d' := d - 1) (by omega) (Nat.zero_le _) (Nat.zero_le _) (c_X3_putChild K1 L1.w.2.2.1 (by decide) (fun v hv => by cases hv; exact (ce_k (F1 _ (W1_n (fun z => nd_ne V hru hinj hp64 hN rtS_lt rtS_i hd3.1 (Nat.le_refl _) hrn z.2.2) (by omega) (by decide)))).trans (V _ rtS_lt rtS_i).choose_spec.1.k0) (fun h2 O2 F2a => cont_void ?_))
    have F2 : Fr h h2 (W1 (nd' (psl n (dOf (n + 1))))) := F1.tr F2a.o1
    have M2 : MKR h2 (c + 1) := M1.frm (F2a _ (CNo_n (by omega) (by decide)))
    have VX2 : VNk M (nd' (psl n (dOf (n + 1)))) n nd el (psl n (dOf (n + 1))) o (puC x1 0 (some (nm 45 (nd (rtS n))))) := by
      rw [show puC x1 0 (some (nm 45 (nd (rtS n)))) = KN_ubl x1 0 (some (nm 45 (nd (rtS n)))) from if_neg (by rw [L1.2.2.2.2.1]; exact fun z => nomatch z)]
      refine ⟨⟨0, Nat.zero_le _, m1⟩, ?_⟩
      rw [if_neg hg.2.2]
      obtain ⟨a1, a2, a3, a4, a5, a6, a7, a8, a9⟩ := L1
      refine ⟨a1, a2, a3, a4, a5, a6, a7, fun q hq => ?_, a9⟩
      show va_up (KN_bl x1) 0 (some (nm 45 (nd (rtS n)))) q = _
      rw [va_up_app]
      unfold chV
      by_cases z : q = 0
      · rw [if_pos z, z, hg.1, if_pos rtS_i]
      · rw [if_neg z, if_neg ((grow_c (n := n) (p := q) (by omega) hgr hq).2.1 z)]; exact a8 q hq
    refine wp_goto 44 dX9_withOneMore_32 (by decide) ?_
    refine wp_aload_n (i := 0) dX9_withOneMore_44 rfl rfl ?_
    refine wp_aload (i := 6) dX9_withOneMore_45 rfl ?_
    refine wp_iload (i := 5) dX9_withOneMore_47 rfl ?_
    refine wp_iload_n (i := 2) dX9_withOneMore_49 rfl rfl ?_
    refine wp_iload_n (i := 3) dX9_withOneMore_50 rfl rfl ?_
    refine wp_iload (i := 4) dX9_withOneMore_51 rfl ?_
    refine wp_cS (y' := m_X9_putIn) [vr (some (nm 40 2)), vr (some (nm 45 (nd' (psl n (dOf (n + 1)))))), vi (nI (dOf (n + 1))), vi (nI n), vi e, vi o] [] 8 182 dX9_withOneMore_53 ml_X9_41 st_X9_putIn ok_X9_putIn rfl (Nat.le_of_ble_eq_true rfl) rfl (Nat.le_of_ble_eq_true rfl) (d' := d - 1) (by omega) (by omega) (by omega) (c_X9_putIn (e := e) hn hn4 hru hinj hoff (by omega) ⟨fun i i1 i2 => ⟨(hN.1 i i1 (by omega)).1, fun r => ((hN.1 i i1 (by omega)).2 r).frm (fun q q1 q2 => F2 _ (W1_n (fun z => hne i i1 (by omega) z.2.2) (by omega) (by omega)))⟩, fun i j i1 i2 i3 => hN.2 i j i1 i2 (by omega)⟩ (V.b.frm (fun s r s1 s2 s3 r1 r2 => F2 _ (W1_n (fun z => hS s s1 (by omega) s3 z.2.2) (by omega) (by omega)))) hS O2 (VX2) M2 (by omega) (by omega) (by omega) (fun h9 Z9 M9 F9 => cont_void ?_))
    have F8 : Fr h h9 (WPt nd' n (dOf (n + 1))) := (fun a ha => (F9 a ha).trans (F2 a (fun z => ha (z.elim (fun z => Or.inr ⟨dOf (n + 1), hd3.1, Nat.le_refl _, z⟩) Or.inl))))
    have V9 := V.fin (ow' := ow') (e := e) hn hn4 hru hinj hoff hN F8 Z9 o1 o2
    refine wp_aload (i := 6) dX9_withOneMore_56 rfl ?_
    refine wp_areturn dX9_withOneMore_58 rfl (Or.inl ⟨_, rfl⟩) ?_
    refine hq _ V9 (fun i i1 i2 => (Z9 i i1 i2).elim fun _ z => z.1.f_own.trans z.2.ow) ?_ F8
    rw [crN_s hd3.1, if_neg (by rw [hr]; decide), ← Nat.add_assoc, Nat.add_right_comm]; exact M9
