/-! The class: a path of a vector is written. -/
/-- how many nodes are made below the height H of a path; ru: whether a node is used again -/
def crN (ru : Nat → Bool) (pl : Nat) : Nat → Nat
  | 0 => 0
  | 1 => 0
  | H + 2 => crN ru pl (H + 1) + if ru (psl pl (H + 1)) = true then 0 else 1
theorem crN_s {ru : Nat → Bool} {pl H : Nat} (h : 1 ≤ H) : crN ru pl (H + 1) = crN ru pl H + if ru (psl pl H) = true then 0 else 1 := by
  obtain ⟨H, rfl⟩ : ∃ k, H = k + 1 := ⟨H - 1, by omega⟩
  rfl
/-- what may change when the nodes up to the height H of a path are written -/
def WPt (nd' : Nat → Nat) (pl H : Nat) : Nat → Prop := fun a => a = nm 40 2 ∨ ∃ i, 1 ≤ i ∧ i ≤ H ∧ CNo (nd' (psl pl i)) a
theorem WPt.up {nd' : Nat → Nat} {pl H : Nat} {a : Nat} (h : WPt nd' pl H a) : WPt nd' pl (H + 1) a := h.elim Or.inl (fun z => z.elim fun i q => Or.inr ⟨i, q.1, by omega, q.2.2⟩)
/-- the nodes of a path: used again or new; the new ones are free; no two are one -/
def NDp (h : Hp) (n : Nat) (nd nd' : Nat → Nat) (ru : Nat → Bool) (pl H : Nat) : Prop := (∀ i, 1 ≤ i → i ≤ H → (ru (psl pl i) = true → nd' (psl pl i) = nd (psl pl i)) ∧ (ru (psl pl i) = false → FrN h (nd' (psl pl i)))) ∧ ∀ i j, 1 ≤ i → i < j → j ≤ H + 1 → nd' (psl pl i) ≠ nd' (psl pl j)
/-- the nodes below the height H are as they were -/
def VTb (h : Hp) (M n : Nat) (nd : Nat → Nat) (el : Nat → Int32) (ow : Nat → Bool) (o : Int32) (H : Nat) : Prop := ∀ s, s < 21 → hOf s ≤ H → ith s n = true → ∃ x, KN h (nd s) x ∧ VNk M (nd s) n nd el s (KN_own x) x ∧ (o = -1 ∨ (KN_own x = o ↔ ow s = true))
theorem VTb.frm {h h' : Hp} {M n : Nat} {nd : Nat → Nat} {el : Nat → Int32} {ow : Nat → Bool} {o : Int32} {H : Nat} (V : VTb h M n nd el ow o H) (e : ∀ s r, s < 21 → hOf s ≤ H → ith s n = true → 45 ≤ r → r ≤ 48 → ce h' (nm r (nd s)) = ce h (nm r (nd s))) : VTb h' M n nd el ow o H := fun s h1 h2 h3 => by
  obtain ⟨x, hO, hx⟩ := V s h1 h2 h3
  exact ⟨x, hO.frm (e s 45 h1 h2 h3 (by decide) (by decide)) (e s 46 h1 h2 h3 (by decide) (by decide)) (e s 47 h1 h2 h3 (by decide) (by decide)) (e s 48 h1 h2 h3 (by decide) (by decide)), hx⟩
theorem VTb.lo {h : Hp} {M n : Nat} {nd : Nat → Nat} {el : Nat → Int32} {ow : Nat → Bool} {o : Int32} {H H' : Nat} (V : VTb h M n nd el ow o H) (e : H' ≤ H) : VTb h M n nd el ow o H' := fun s h1 h2 h3 => V s h1 (by omega) h3
/-- one child of a node of a path is put in -/
theorem VNk.up {M k n n' s p0 k1 : Nat} {nd nd' : Nat → Nat} {el el' : Nat → Int32} {o : Int32} {x : KNS} (H : VNk M k n nd el s o x) (hs : ¬ s < 16) (hi : ith (chs s p0) n' = true) (hk : nd' (chs s p0) = k1) (he : ∀ p, p < 4 → p ≠ p0 → chV n' nd' s p = chV n nd s p) : VNk M k n' nd' el' s o (puC x p0 (some (nm 45 k1))) := by
  obtain ⟨hm, h⟩ := H
  rw [if_neg hs] at h
  obtain ⟨a1, a2, a3, a4, a5, a6, a7, a8, a9⟩ := h
  rw [show puC x p0 (some (nm 45 k1)) = KN_ubl x p0 (some (nm 45 k1)) from if_neg (by rw [a5]; exact fun z => nomatch z)]
  refine ⟨hm, ?_⟩
  rw [if_neg hs]
  refine ⟨a1, a2, a3, a4, a5, a6, a7, fun p hp => ?_, a9⟩
  show va_up (KN_bl x) p0 (some (nm 45 k1)) p = _
  rw [va_up_app]
  by_cases e : p = p0
  · rw [if_pos e, e]
    unfold chV
    rw [if_pos hi, hk]
  · rw [if_neg e, he p hp e]; exact a8 p hp
/-- an element of a leaf is put in -/
theorem VNk.ue {M k n n' s p0 : Nat} {nd nd' : Nat → Nat} {el : Nat → Int32} {o e : Int32} {x : KNS} (H : VNk M k n nd el s o x) (hs : s < 16) (hn : (n' = n ∧ 4 * s + p0 < n) ∨ (n' = n + 1 ∧ 4 * s + p0 = n)) : VNk M k n' nd' (va_up el (4 * s + p0) e) s o (KN_uel x p0 e) := by
  obtain ⟨hm, h⟩ := H
  rw [if_pos hs] at h
  obtain ⟨a1, a2, a3, a4, a5, a6, a7, a8, a9⟩ := h
  refine ⟨hm, ?_⟩
  rw [if_pos hs]
  refine ⟨a1, a2, a3, a4, a5, a6, a7, fun p hp => ?_, a9⟩
  show va_up (KN_el x) p0 e p = elV n' (va_up el (4 * s + p0) e) s p
  unfold elV
  rw [va_up_app, va_up_app]
  by_cases q : p = p0
  · rw [if_pos q, if_pos (by omega), if_pos (by omega)]
  · rw [if_neg q, a8 p hp]
    unfold elV
    by_cases z : 4 * s + p < n
    · rw [if_pos z, if_pos (show 4 * s + p < n' by omega), if_neg (show ¬ 4 * s + p = 4 * s + p0 by omega)]
    · rw [if_neg z, if_neg (show ¬ 4 * s + p < n' by omega)]
theorem LFx.of {k : Nat} {o : Int32} {f g : Nat → Int32} {x : KNS} (H : LFx k o f x) (e : ∀ p, p < 4 → g p = f p) : LFx k o g x := ⟨H.1, H.2.1, H.2.2.1, H.2.2.2.1, H.2.2.2.2.1, H.2.2.2.2.2.1, H.2.2.2.2.2.2.1, fun p hp => (H.2.2.2.2.2.2.2.1 p hp).trans (e p hp).symm, H.2.2.2.2.2.2.2.2⟩
theorem INx.of {k : Nat} {o : Int32} {f g : Nat → Option Nat} {x : KNS} (H : INx k o f x) (e : ∀ p, p < 4 → g p = f p) : INx k o g x := ⟨H.1, H.2.1, H.2.2.1, H.2.2.2.1, H.2.2.2.2.1, H.2.2.2.2.2.1, H.2.2.2.2.2.2.1, fun p hp => (H.2.2.2.2.2.2.2.1 p hp).trans (e p hp).symm, H.2.2.2.2.2.2.2.2⟩
theorem abs_ch {n n' pl H p : Nat} (hn : (n' = n ∧ pl < n) ∨ (n' = n + 1 ∧ pl = n)) (hn4 : n' ≤ 64) (hH : H = 2) (hD : 3 ≤ dOf n') (ht : ¬ ith (psl pl H) n = true) (hp : p < 4) : ¬ ith (chs (psl pl H) p) n = true := by
  subst hH
  rw [ith_iff] at ht ⊢
  rw [psl_2] at *
  have d3 : 17 ≤ n' := by
    unfold dOf at hD
    split at hD
    · omega
    · split at hD <;> omega
  have d2 : 2 ≤ dOf n := by
    unfold dOf
    (repeat' split) <;> omega
  have e1 : hOf (16 + pl / 16) = 2 := by unfold hOf; rw [if_neg (by omega), if_pos (by omega)]
  have e2 : frm (16 + pl / 16) = 16 * (pl / 16) := by unfold frm; rw [if_neg (by omega), if_pos (by omega)]; omega
  have e3 : chs (16 + pl / 16) p = 4 * (pl / 16) + p := by unfold chs; rw [if_pos (by omega)]; omega
  have e4 : frm (4 * (pl / 16) + p) = 4 * (4 * (pl / 16) + p) := by unfold frm; rw [if_pos (by omega)]
  rw [e1, e2] at ht
  rw [e3, e4]
  omega
theorem ith_offN {t n n' pl : Nat} (ht : t < 21) (hn : (n' = n ∧ pl < n) ∨ (n' = n + 1 ∧ pl = n)) (hn4 : n' ≤ 64) (hp : ∀ h, 1 ≤ h → h ≤ 3 → t ≠ psl pl h) : ith t n' = ith t n := ith_off ht hn hn4 (fun h h1 h2 => hp h h1 (by have := dOf_b n'; omega))
set_option maxRecDepth 100000 in
set_option maxHeartbeats 4000000 in
theorem c_X9_chgG {G : GG} {d bc bs : Nat} {h : Hp} {Q : Pst} {M n n' pl c : Nat} {nd nd' : Nat → Nat} {el : Nat → Int32} {ow ru : Nat → Bool} {o : Int32} (hp64 : pl < 64) (hru : ∀ t, ru t = (ith t n && (!decide (o = -1) && ow t))) {H : Nat} (h1 : 1 ≤ H) (h2 : H ≤ 2) (hi1 : ith (psl pl H) n' = true) (hch : ∀ p, p < 4 → p ≠ pla (H + 1) pl → chV n' nd' (psl pl (H + 1)) p = chV n nd (psl pl (H + 1)) p) (hab : ¬ ith (psl pl H) n = true → (H = 1 → ∀ p, p < 4 → elV n el (psl pl H) p = nI 0) ∧ (2 ≤ H → ∀ p, p < 4 → chV n nd (psl pl H) p = none)) (hD1 : (ru (psl pl H) = true → nd' (psl pl H) = nd (psl pl H)) ∧ (ru (psl pl H) = false → FrN h (nd' (psl pl H)))) (hne : nd' (psl pl H) ≠ nd' (psl pl (H + 1))) (hT : VTb h M n nd el ow o H) {x0 : KNS} (hO : KN h (nd' (psl pl (H + 1))) x0) (hx0 : VNk M (nd' (psl pl (H + 1))) n nd el (psl pl (H + 1)) o x0) (hM : MKR h c) (hc : c < 900000) (hd : 6 ≤ d) (hbc : 4 ≤ bc) (hbs : 91 ≤ bs) (hq : ∀ h' x1 x2, KN h' (nd' (psl pl (H + 1))) x1 → (∀ el', VNk M (nd' (psl pl (H + 1))) n' nd' el' (psl pl (H + 1)) o x1) → KN h' (nd' (psl pl H)) x2 → VNk M (nd' (psl pl H)) n nd el (psl pl H) o x2 → MKR h' (c + if ru (psl pl H) = true then 0 else 1) → Fr h h' (fun a => a = nm 40 2 ∨ CNo (nd' (psl pl (H + 1))) a ∨ CNo (nd' (psl pl H)) a) → Q (oRet (vr (some (nm 45 (nd' (psl pl H)))))) h') : WP G m_X9_changeableChild d 0 (aargs 0 [vr (some (nm 40 2)), vr (some (nm 45 (nd' (psl pl (H + 1))))), vi (nI (H + 1)), vi (nI pl), vi o]) [] h bc bs Q := by
  have p4 := pla_lt (h := H + 1) (pl := pl)
  have ec := psl_c hp64 h1 h2
  have hs0 : ¬ psl pl (H + 1) < 16 := psl_16 (by omega)
  have hup : ∀ el' (x : KNS), VNk M (nd' (psl pl (H + 1))) n nd el (psl pl (H + 1)) o x → VNk M (nd' (psl pl (H + 1))) n' nd' el' (psl pl (H + 1)) o (puC x (pla (H + 1) pl) (some (nm 45 (nd' (psl pl H))))) := fun el' x hx => hx.up hs0 (by rw [ec]; exact hi1) (by rw [ec]) hch
  have hwb := hx0.wf.2.2.1
  refine wp_sub [(0, vr (some (nm 40 2))), (1, vr (some (nm 45 (nd' (psl pl (H + 1)))))), (2, vi (nI (H + 1))), (3, vi (nI pl)), (4, vi o)] (fun _ hz => hz) ?_
  by_cases ht : ith (psl pl H) n = true
  · obtain ⟨xj, hJ, hxj, hoj⟩ := hT _ (psl_lt hp64) (by rw [psl_h hp64 h1 (by omega)]; exact Nat.le_refl _) ht
    have hru2 : (¬ o = -1 ∧ KN_own xj = o) ↔ ru (psl pl H) = true := by
      rw [hru, ht, Bool.true_and, Bool.and_eq_true, Bool.not_eq_true', decide_eq_false_iff_not]
      exact ⟨fun z => ⟨z.1, (hoj.resolve_left z.1).mp z.2⟩, fun z => ⟨z.1, (hoj.resolve_left z.1).mpr z.2⟩⟩
    have hno : ¬ (¬ o = -1 ∧ KN_own xj = o) → ru (psl pl H) = false := fun z => by
      cases e : ru (psl pl H) with
      | false => rfl
      | true => exact absurd (hru2.mpr e) z
    have hfj : ¬ (¬ o = -1 ∧ KN_own xj = o) → FrN h (nd' (psl pl H)) := fun z => hD1.2 (hno z)
    have hjk : ¬ (¬ o = -1 ∧ KN_own xj = o) → nd (psl pl H) ≠ nd' (psl pl H) := fun z e => by
      have := (hfj z).1
      rw [← e, hJ.k0] at this; cases this
    have hcj : ¬ (¬ o = -1 ∧ KN_own xj = o) → ∀ p v, chAq xj p = some v → h_k h v = 6 ∧ ¬ CNo (nd' (psl pl H)) v := fun z p v hv => by
      obtain ⟨z1, z2, z3, z4⟩ := hxj.ch hv
      obtain ⟨z5, z6⟩ := chs_lt z1 (psl_lt hp64) z2
      obtain ⟨y, hy, -⟩ := hT _ z5 (by rw [psl_h hp64 h1 (by omega)] at z6; omega) z3
      subst z4
      refine ⟨hy.k0, CNo_n (fun q => ?_) (by decide)⟩
      have := (hfj z).1
      rw [← q.2.2, hy.k0] at this; cases this
    refine wp_aload_n (i := 1) dX9_changeableChild_0 rfl rfl ?_
    refine wp_iload_n (i := 2) dX9_changeableChild_1 rfl rfl ?_
    refine wp_iload_n (i := 3) dX9_changeableChild_2 rfl rfl ?_
    refine wp_cS (y' := m_X9_placeAt) [vi (nI (H + 1)), vi (nI pl)] [vr (some (nm 45 (nd' (psl pl (H + 1)))))] 0 0 dX9_changeableChild_3 ml_X9_15 st_X9_placeAt ok_X9_placeAt rfl (Nat.le_of_ble_eq_true rfl) rfl (Nat.le_of_ble_eq_true rfl) (d' := d - 1) (by omega) (Nat.zero_le _) (Nat.zero_le _) (c_X9_placeAt (by omega) (by omega) (by omega) (cont_ret ?_))
    refine wp_cV (y' := m_X3_childAt) 5 [vi (nI (pla (H + 1) pl))] [] 0 0 dX9_changeableChild_6 ml_X9_19 im_X3_childAt se_X3_childAt (by decide) hO.k0 ok_X3_childAt rfl (Nat.le_of_ble_eq_true rfl) rfl (Nat.le_of_ble_eq_true rfl) (d' := d - 1) (by omega) (Nat.zero_le _) (Nat.zero_le _) (c_X3_childAt hO hwb (p := pla (H + 1) pl) (by omega) (cont_ret ?_))
    rw [hx0.rch hs0 p4, show chV n nd (psl pl (H + 1)) (pla (H + 1) pl) = some (nm 45 (nd (psl pl H))) from by unfold chV; rw [ec, if_pos ht]]
    refine wp_astore (i := 5) (lv' := [(5, vr (some (nm 45 (nd (psl pl H))))), (0, vr (some (nm 40 2))), (1, vr (some (nm 45 (nd' (psl pl (H + 1)))))), (2, vi (nI (H + 1))), (3, vi (nI pl)), (4, vi o)]) dX9_changeableChild_9 (by decide) rfl ?_
    refine wp_aload (i := 5) dX9_changeableChild_11 rfl ?_
    refine wp_ifnull 29 dX9_changeableChild_13 (by decide) (fun c_13 => absurd c_13 (fun z => nomatch z)) (fun a_13 c_13 => ?_)
    refine wp_aload_n (i := 0) dX9_changeableChild_16 rfl rfl ?_
    refine wp_aload (i := 5) dX9_changeableChild_17 rfl ?_
    refine wp_iload (i := 4) dX9_changeableChild_19 rfl ?_
    refine wp_cV (y' := m_X4_ownOrCopy) 6 [vr (some (nm 45 (nd (psl pl H)))), vi o] [] 4 91 dX9_changeableChild_21 ml_X9_37 im_X4_ownOrCopy se_X4_ownOrCopy (by decide) hM.1 ok_X4_ownOrCopy rfl (Nat.le_of_ble_eq_true rfl) rfl (Nat.le_of_ble_eq_true rfl) (d' := d - 1) (by omega) (by omega) (by omega) (c_X4_ownOrCopy (k := nd' (psl pl H)) hJ hxj.wf hM (by omega) hjk hfj hcj (by omega) (by omega) (by omega) (fun hr => cont_ret ?_) (fun hr h1 x1 K1 C1 M1 F1 => cont_ret ?_))
    · have hnn : nd (psl pl H) = nd' (psl pl H) := (hD1.1 (hru2.mp hr)).symm
      have hJ9 : KN h (nd' (psl pl H)) xj := by rw [← hnn]; exact hJ
      rw [hnn]
      refine wp_astore (i := 6) (lv' := [(6, vr (some (nm 45 (nd' (psl pl H))))), (5, vr (some (nm 45 (nd' (psl pl H))))), (0, vr (some (nm 40 2))), (1, vr (some (nm 45 (nd' (psl pl (H + 1)))))), (2, vi (nI (H + 1))), (3, vi (nI pl)), (4, vi o)]) dX9_changeableChild_24 (by decide) rfl ?_
      refine wp_goto 51 dX9_changeableChild_26 (by decide) ?_
      refine wp_aload_n (i := 1) dX9_changeableChild_51 rfl rfl ?_
      refine wp_iload_n (i := 2) dX9_changeableChild_52 rfl rfl ?_
      refine wp_iload_n (i := 3) dX9_changeableChild_53 rfl rfl ?_
      refine wp_cS (y' := m_X9_placeAt) [vi (nI (H + 1)), vi (nI pl)] [vr (some (nm 45 (nd' (psl pl (H + 1)))))] 0 0 dX9_changeableChild_54 ml_X9_15 st_X9_placeAt ok_X9_placeAt rfl (Nat.le_of_ble_eq_true rfl) rfl (Nat.le_of_ble_eq_true rfl) (d' := d - 1) (by omega) (Nat.zero_le _) (Nat.zero_le _) (c_X9_placeAt (by omega) (by omega) (by omega) (cont_ret ?_))
      refine wp_aload (i := 6) dX9_changeableChild_57 rfl ?_
      refine wp_cV (y' := m_X3_putChild) 5 [vi (nI (pla (H + 1) pl)), vr (some (nm 45 (nd' (psl pl H))))] [] 0 0 dX9_changeableChild_59 ml_X9_33 im_X3_putChild se_X3_putChild (by decide) hO.k0 ok_X3_putChild rfl (Nat.le_of_ble_eq_true rfl) rfl (Nat.le_of_ble_eq_true rfl) (d' := d - 1) (by omega) (Nat.zero_le _) (Nat.zero_le _) (c_X3_putChild hO hwb p4 (fun v hv => by cases hv; exact hJ9.k0) (fun h9 O9 F9 => cont_void ?_))
      have q9 : ∀ r, 45 ≤ r → r ≤ 48 → ce h9 (nm r (nd' (psl pl H))) = ce h (nm r (nd' (psl pl H))) := fun r h1 h2 => F9 _ (CNo_n (by omega) (by omega))
      refine wp_aload (i := 6) dX9_changeableChild_62 rfl ?_
      refine wp_areturn dX9_changeableChild_64 rfl (Or.inl ⟨_, rfl⟩) ?_
      refine hq _ _ xj O9 (fun el' => hup el' _ hx0) (hJ9.frm (q9 45 (by decide) (by decide)) (q9 46 (by decide) (by decide)) (q9 47 (by decide) (by decide)) (q9 48 (by decide) (by decide))) ?_ ?_ (fun a ha => F9 a (fun z => ha (Or.inr (Or.inl z))))
      · have z9 := hxj; rw [hnn, hr.2] at z9; exact z9
      · rw [if_pos (hru2.mp hr)]; exact hM.frm (F9 _ (CNo_n (by omega) (by decide)))
    · have O3 := hO.frm (F1 _ (W1_n (by omega) (by omega) (by decide))) (F1 _ (W1_n (by omega) (by omega) (by decide))) (F1 _ (W1_n (by omega) (by omega) (by decide))) (F1 _ (W1_n (by omega) (by omega) (by decide)))
      refine wp_astore (i := 6) (lv' := [(6, vr (some (nm 45 (nd' (psl pl H))))), (5, vr (some (nm 45 (nd (psl pl H))))), (0, vr (some (nm 40 2))), (1, vr (some (nm 45 (nd' (psl pl (H + 1)))))), (2, vi (nI (H + 1))), (3, vi (nI pl)), (4, vi o)]) dX9_changeableChild_24 (by decide) rfl ?_
      refine wp_goto 51 dX9_changeableChild_26 (by decide) ?_
      refine wp_aload_n (i := 1) dX9_changeableChild_51 rfl rfl ?_
      refine wp_iload_n (i := 2) dX9_changeableChild_52 rfl rfl ?_
      refine wp_iload_n (i := 3) dX9_changeableChild_53 rfl rfl ?_
      refine wp_cS (y' := m_X9_placeAt) [vi (nI (H + 1)), vi (nI pl)] [vr (some (nm 45 (nd' (psl pl (H + 1)))))] 0 0 dX9_changeableChild_54 ml_X9_15 st_X9_placeAt ok_X9_placeAt rfl (Nat.le_of_ble_eq_true rfl) rfl (Nat.le_of_ble_eq_true rfl) (d' := d - 1) (by omega) (Nat.zero_le _) (Nat.zero_le _) (c_X9_placeAt (by omega) (by omega) (by omega) (cont_ret ?_))
      refine wp_aload (i := 6) dX9_changeableChild_57 rfl ?_
      refine wp_cV (y' := m_X3_putChild) 5 [vi (nI (pla (H + 1) pl)), vr (some (nm 45 (nd' (psl pl H))))] [] 0 0 dX9_changeableChild_59 ml_X9_33 im_X3_putChild se_X3_putChild (by decide) O3.k0 ok_X3_putChild rfl (Nat.le_of_ble_eq_true rfl) rfl (Nat.le_of_ble_eq_true rfl) (d' := d - 1) (by omega) (Nat.zero_le _) (Nat.zero_le _) (c_X3_putChild O3 hwb p4 (fun v hv => by cases hv; exact K1.k0) (fun h9 O9 F9 => cont_void ?_))
      have q9 : ∀ r, 45 ≤ r → r ≤ 48 → ce h9 (nm r (nd' (psl pl H))) = ce h1 (nm r (nd' (psl pl H))) := fun r h1 h2 => F9 _ (CNo_n (by omega) (by omega))
      refine wp_aload (i := 6) dX9_changeableChild_62 rfl ?_
      refine wp_areturn dX9_changeableChild_64 rfl (Or.inl ⟨_, rfl⟩) ?_
      refine hq _ _ x1 O9 (fun el' => hup el' _ hx0) (K1.frm (q9 45 (by decide) (by decide)) (q9 46 (by decide) (by decide)) (q9 47 (by decide) (by decide)) (q9 48 (by decide) (by decide))) (hxj.cp C1) ?_ (fun a ha => (F9 a (fun z => ha (Or.inr (Or.inl z)))).trans (F1 a (fun z => z.elim (fun y => ha (Or.inr (Or.inr y))) (fun y => ha (Or.inl y)))))
      rw [if_neg (by rw [hno hr]; decide)]; exact M1.frm (F9 _ (CNo_n (by omega) (by decide)))
  · have hr : ru (psl pl H) = false := by rw [hru]; cases e : ith (psl pl H) n with
      | false => rfl
      | true => exact absurd e ht
    have hfk := hD1.2 hr
    have hrN : (if ru (psl pl H) = true then 0 else 1) = 1 := if_neg (by rw [hr]; decide)
    obtain ⟨hel, hbl⟩ := hab ht
    refine wp_aload_n (i := 1) dX9_changeableChild_0 rfl rfl ?_
    refine wp_iload_n (i := 2) dX9_changeableChild_1 rfl rfl ?_
    refine wp_iload_n (i := 3) dX9_changeableChild_2 rfl rfl ?_
    refine wp_cS (y' := m_X9_placeAt) [vi (nI (H + 1)), vi (nI pl)] [vr (some (nm 45 (nd' (psl pl (H + 1)))))] 0 0 dX9_changeableChild_3 ml_X9_15 st_X9_placeAt ok_X9_placeAt rfl (Nat.le_of_ble_eq_true rfl) rfl (Nat.le_of_ble_eq_true rfl) (d' := d - 1) (by omega) (Nat.zero_le _) (Nat.zero_le _) (c_X9_placeAt (by omega) (by omega) (by omega) (cont_ret ?_))
    refine wp_cV (y' := m_X3_childAt) 5 [vi (nI (pla (H + 1) pl))] [] 0 0 dX9_changeableChild_6 ml_X9_19 im_X3_childAt se_X3_childAt (by decide) hO.k0 ok_X3_childAt rfl (Nat.le_of_ble_eq_true rfl) rfl (Nat.le_of_ble_eq_true rfl) (d' := d - 1) (by omega) (Nat.zero_le _) (Nat.zero_le _) (c_X3_childAt hO hwb (p := pla (H + 1) pl) (by omega) (cont_ret ?_))
    rw [hx0.rch hs0 p4, show chV n nd (psl pl (H + 1)) (pla (H + 1) pl) = none from by unfold chV; rw [ec, if_neg ht]]
    refine wp_astore (i := 5) (lv' := [(5, vr none), (0, vr (some (nm 40 2))), (1, vr (some (nm 45 (nd' (psl pl (H + 1)))))), (2, vi (nI (H + 1))), (3, vi (nI pl)), (4, vi o)]) dX9_changeableChild_9 (by decide) rfl ?_
    refine wp_aload (i := 5) dX9_changeableChild_11 rfl ?_
    refine wp_ifnull 29 dX9_changeableChild_13 (by decide) (fun c_13 => ?_) (fun a_13 c_13 => absurd c_13 (fun z => nomatch z))
    refine wp_iload_n (i := 2) dX9_changeableChild_29 rfl rfl ?_
    refine wp_iconst (nI 2) dX9_changeableChild_30 (by decide) ?_
    refine wp_icmp_neN 43 dX9_changeableChild_31 (by decide) (by omega) (by decide) (fun c_31 => ?_) (fun c_31 => ?_)
    · skip
      refine wp_aload_n (i := 0) dX9_changeableChild_43 rfl rfl ?_
      refine wp_iload (i := 4) dX9_changeableChild_44 rfl ?_
      refine wp_cV (y' := m_X4_freshInner) 6 [vi o] [] 2 11 dX9_changeableChild_46 ml_X9_28 im_X4_freshInner se_X4_freshInner (by decide) hM.1 ok_X4_freshInner rfl (Nat.le_of_ble_eq_true rfl) rfl (Nat.le_of_ble_eq_true rfl) (d' := d - 1) (by omega) (by omega) (by omega) (c_X4_freshInner (k := nd' (psl pl H)) hM (by omega) hfk.1 hfk.2.2.2 (by omega) (by omega) (by omega) (fun h1 x1 K1 L1 m1 M1 F1 => cont_ret ?_))
      have O3 := hO.frm (F1 _ (W1_n (by omega) (by omega) (by decide))) (F1 _ (W1_n (by omega) (by omega) (by decide))) (F1 _ (W1_n (by omega) (by omega) (by decide))) (F1 _ (W1_n (by omega) (by omega) (by decide)))
      refine wp_astore (i := 6) (lv' := [(6, vr (some (nm 45 (nd' (psl pl H))))), (5, vr none), (0, vr (some (nm 40 2))), (1, vr (some (nm 45 (nd' (psl pl (H + 1)))))), (2, vi (nI (H + 1))), (3, vi (nI pl)), (4, vi o)]) dX9_changeableChild_49 (by decide) rfl ?_
      refine wp_aload_n (i := 1) dX9_changeableChild_51 rfl rfl ?_
      refine wp_iload_n (i := 2) dX9_changeableChild_52 rfl rfl ?_
      refine wp_iload_n (i := 3) dX9_changeableChild_53 rfl rfl ?_
      refine wp_cS (y' := m_X9_placeAt) [vi (nI (H + 1)), vi (nI pl)] [vr (some (nm 45 (nd' (psl pl (H + 1)))))] 0 0 dX9_changeableChild_54 ml_X9_15 st_X9_placeAt ok_X9_placeAt rfl (Nat.le_of_ble_eq_true rfl) rfl (Nat.le_of_ble_eq_true rfl) (d' := d - 1) (by omega) (Nat.zero_le _) (Nat.zero_le _) (c_X9_placeAt (by omega) (by omega) (by omega) (cont_ret ?_))
      refine wp_aload (i := 6) dX9_changeableChild_57 rfl ?_
      refine wp_cV (y' := m_X3_putChild) 5 [vi (nI (pla (H + 1) pl)), vr (some (nm 45 (nd' (psl pl H))))] [] 0 0 dX9_changeableChild_59 ml_X9_33 im_X3_putChild se_X3_putChild (by decide) O3.k0 ok_X3_putChild rfl (Nat.le_of_ble_eq_true rfl) rfl (Nat.le_of_ble_eq_true rfl) (d' := d - 1) (by omega) (Nat.zero_le _) (Nat.zero_le _) (c_X3_putChild O3 hwb p4 (fun v hv => by cases hv; exact K1.k0) (fun h9 O9 F9 => cont_void ?_))
      have q9 : ∀ r, 45 ≤ r → r ≤ 48 → ce h9 (nm r (nd' (psl pl H))) = ce h1 (nm r (nd' (psl pl H))) := fun r h1 h2 => F9 _ (CNo_n (by omega) (by omega))
      refine wp_aload (i := 6) dX9_changeableChild_62 rfl ?_
      refine wp_areturn dX9_changeableChild_64 rfl (Or.inl ⟨_, rfl⟩) ?_
      refine hq _ _ x1 O9 (fun el' => hup el' _ hx0) (K1.frm (q9 45 (by decide) (by decide)) (q9 46 (by decide) (by decide)) (q9 47 (by decide) (by decide)) (q9 48 (by decide) (by decide))) ⟨⟨0, Nat.zero_le _, m1⟩, ?_⟩ ?_ (fun a ha => (F9 a (fun z => ha (Or.inr (Or.inl z)))).trans (F1 a (fun z => z.elim (fun y => ha (Or.inr (Or.inr y))) (fun y => ha (Or.inl y)))))
      · rw [if_neg (psl_16 (by omega))]; exact L1.of (hbl (by omega))
      · rw [hrN]; exact M1.frm (F9 _ (CNo_n (by omega) (by decide)))
    · skip
      refine wp_aload_n (i := 0) dX9_changeableChild_34 rfl rfl ?_
      refine wp_iload (i := 4) dX9_changeableChild_35 rfl ?_
      refine wp_cV (y' := m_X4_freshLeaf) 6 [vi o] [] 2 11 dX9_changeableChild_37 ml_X9_56 im_X4_freshLeaf se_X4_freshLeaf (by decide) hM.1 ok_X4_freshLeaf rfl (Nat.le_of_ble_eq_true rfl) rfl (Nat.le_of_ble_eq_true rfl) (d' := d - 1) (by omega) (by omega) (by omega) (c_X4_freshLeaf (k := nd' (psl pl H)) hM (by omega) hfk.1 hfk.2.2.1 (by omega) (by omega) (by omega) (fun h1 x1 K1 L1 m1 M1 F1 => cont_ret ?_))
      have O3 := hO.frm (F1 _ (W1_n (by omega) (by omega) (by decide))) (F1 _ (W1_n (by omega) (by omega) (by decide))) (F1 _ (W1_n (by omega) (by omega) (by decide))) (F1 _ (W1_n (by omega) (by omega) (by decide)))
      refine wp_goto 49 dX9_changeableChild_40 (by decide) ?_
      refine wp_astore (i := 6) (lv' := [(6, vr (some (nm 45 (nd' (psl pl H))))), (5, vr none), (0, vr (some (nm 40 2))), (1, vr (some (nm 45 (nd' (psl pl (H + 1)))))), (2, vi (nI (H + 1))), (3, vi (nI pl)), (4, vi o)]) dX9_changeableChild_49 (by decide) rfl ?_
      refine wp_aload_n (i := 1) dX9_changeableChild_51 rfl rfl ?_
      refine wp_iload_n (i := 2) dX9_changeableChild_52 rfl rfl ?_
      refine wp_iload_n (i := 3) dX9_changeableChild_53 rfl rfl ?_
      refine wp_cS (y' := m_X9_placeAt) [vi (nI (H + 1)), vi (nI pl)] [vr (some (nm 45 (nd' (psl pl (H + 1)))))] 0 0 dX9_changeableChild_54 ml_X9_15 st_X9_placeAt ok_X9_placeAt rfl (Nat.le_of_ble_eq_true rfl) rfl (Nat.le_of_ble_eq_true rfl) (d' := d - 1) (by omega) (Nat.zero_le _) (Nat.zero_le _) (c_X9_placeAt (by omega) (by omega) (by omega) (cont_ret ?_))
      refine wp_aload (i := 6) dX9_changeableChild_57 rfl ?_
      refine wp_cV (y' := m_X3_putChild) 5 [vi (nI (pla (H + 1) pl)), vr (some (nm 45 (nd' (psl pl H))))] [] 0 0 dX9_changeableChild_59 ml_X9_33 im_X3_putChild se_X3_putChild (by decide) O3.k0 ok_X3_putChild rfl (Nat.le_of_ble_eq_true rfl) rfl (Nat.le_of_ble_eq_true rfl) (d' := d - 1) (by omega) (Nat.zero_le _) (Nat.zero_le _) (c_X3_putChild O3 hwb p4 (fun v hv => by cases hv; exact K1.k0) (fun h9 O9 F9 => cont_void ?_))
      have q9 : ∀ r, 45 ≤ r → r ≤ 48 → ce h9 (nm r (nd' (psl pl H))) = ce h1 (nm r (nd' (psl pl H))) := fun r h1 h2 => F9 _ (CNo_n (by omega) (by omega))
      refine wp_aload (i := 6) dX9_changeableChild_62 rfl ?_
      refine wp_areturn dX9_changeableChild_64 rfl (Or.inl ⟨_, rfl⟩) ?_
      refine hq _ _ x1 O9 (fun el' => hup el' _ hx0) (K1.frm (q9 45 (by decide) (by decide)) (q9 46 (by decide) (by decide)) (q9 47 (by decide) (by decide)) (q9 48 (by decide) (by decide))) ⟨⟨0, Nat.zero_le _, m1⟩, ?_⟩ ?_ (fun a ha => (F9 a (fun z => ha (Or.inr (Or.inl z)))).trans (F1 a (fun z => z.elim (fun y => ha (Or.inr (Or.inr y))) (fun y => ha (Or.inl y)))))
      · rw [if_pos (show psl pl H < 16 by rw [show H = 1 by omega]; exact psl_l hp64)]; exact L1.of (hel (by omega))
      · rw [hrN]; exact M1.frm (F9 _ (CNo_n (by omega) (by decide)))
theorem c_X9_changeableChild {G : GG} {d bc bs : Nat} {h : Hp} {Q : Pst} {M n n' pl c : Nat} {nd nd' : Nat → Nat} {el : Nat → Int32} {ow ru : Nat → Bool} {o : Int32} (hn : (n' = n ∧ pl < n) ∨ (n' = n + 1 ∧ pl = n)) (hn4 : n' ≤ 64) (hru : ∀ t, ru t = (ith t n && (!decide (o = -1) && ow t))) (hinj : ∀ s t, s < 21 → t < 21 → ith s n = true → ith t n = true → nd s = nd t → s = t) (hoff : ∀ t, t < 21 → ith t n' = true → (∀ i, 1 ≤ i → i ≤ 3 → t ≠ psl pl i) → nd' t = nd t) {H : Nat} (h1 : 1 ≤ H) (h2 : H ≤ 2) (hHD : H + 1 ≤ dOf n') (hD : NDp h n nd nd' ru pl H) (hT : VTb h M n nd el ow o H) {x0 : KNS} (hO : KN h (nd' (psl pl (H + 1))) x0) (hx0 : VNk M (nd' (psl pl (H + 1))) n nd el (psl pl (H + 1)) o x0) (hM : MKR h c) (hc : c < 900000) (hd : 6 ≤ d) (hbc : 4 ≤ bc) (hbs : 91 ≤ bs) (hq : ∀ h' x1 x2, KN h' (nd' (psl pl (H + 1))) x1 → (∀ el', VNk M (nd' (psl pl (H + 1))) n' nd' el' (psl pl (H + 1)) o x1) → KN h' (nd' (psl pl H)) x2 → VNk M (nd' (psl pl H)) n nd el (psl pl H) o x2 → MKR h' (c + if ru (psl pl H) = true then 0 else 1) → Fr h h' (fun a => a = nm 40 2 ∨ CNo (nd' (psl pl (H + 1))) a ∨ CNo (nd' (psl pl H)) a) → Q (oRet (vr (some (nm 45 (nd' (psl pl H)))))) h') : WP G m_X9_changeableChild d 0 (aargs 0 [vr (some (nm 40 2)), vr (some (nm 45 (nd' (psl pl (H + 1))))), vi (nI (H + 1)), vi (nI pl), vi o]) [] h bc bs Q := by
  have hp64 : pl < 64 := by omega
  have hs0 : ¬ psl pl (H + 1) < 16 := psl_16 (by omega)
  refine c_X9_chgG hp64 hru h1 h2 (psl_i (by omega) hn4 h1 (by omega)) (fun p hp hpe => ?_) (fun ht => ⟨fun e p hp => ?_, fun e p hp => ?_⟩) (hD.1 H h1 (Nat.le_refl _)) (hD.2 H (H + 1) h1 (by omega) (by omega)) hT hO hx0 hM hc hd hbc hbs hq
  · have z := chs_off hp64 h1 h2 hp hpe
    have zl := (chs_lt hs0 (psl_lt hp64) hp).1
    unfold chV
    rw [ith_offN zl hn hn4 z]
    by_cases q : ith (chs (psl pl (H + 1)) p) n = true
    · rw [if_pos q, if_pos q, hoff _ zl (by rw [ith_offN zl hn hn4 z]; exact q) z]
    · rw [if_neg q, if_neg q]
  · subst e
    have z : ¬ frm (psl pl 1) < n := fun q => ht (ith_iff.mpr ⟨by rw [psl_h hp64 (by decide) (by decide)]; exact (dOf_b n).1, Or.inl q⟩)
    unfold elV
    rw [if_neg (by unfold frm at z; rw [if_pos (psl_l hp64)] at z; omega)]
  · unfold chV
    exact if_neg (abs_ch hn hn4 (show H = 2 by omega) (by omega) ht hp)
