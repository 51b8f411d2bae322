/-! The class: elements put into vectors. -/
theorem WPt_n {nd' : Nat → Nat} {pl H r i : Nat} (h : ∀ j, 1 ≤ j → j ≤ H → i ≠ nd' (psl pl j)) (h2 : ¬ (r = 40 ∧ i = 2)) (hr : r < 128) : ¬ WPt nd' pl H (nm r i) := fun z => z.elim (fun z => by unfold nm at z; omega) (fun z => z.elim fun j q => by
  have := h j q.1 q.2.1
  have q2 := q.2.2
  unfold CNo nm at q2
  omega)
/-- a child of what is not on the path isn't either -/
theorem chs_off2 {pl s p : Nat} (hp : pl < 64) (h1 : ¬ s < 16) (h2 : s < 21) (hp4 : p < 4) (ho : ∀ i, 1 ≤ i → i ≤ 3 → s ≠ psl pl i) : ∀ i, 1 ≤ i → i ≤ 3 → chs s p ≠ psl pl i := by
  intro i i1 i3
  have hi : i = 1 ∨ i = 2 ∨ i = 3 := by omega
  have o2 := ho 2 (by decide) (by decide)
  have o3 := ho 3 (by decide) (by decide)
  rw [psl_2] at o2; rw [psl_3] at o3
  unfold chs
  rw [if_pos (by omega)]
  rcases hi with e | e | e <;> subst e
  · rw [psl_1]; omega
  · rw [psl_2]; omega
  · rw [psl_3]; omega
/-- the root -/
def rtS (n : Nat) : Nat := if dOf n = 1 then 0 else if dOf n = 2 then 16 else 20
theorem rtS_p {n pl : Nat} (hp : pl < n) : psl pl (dOf n) = rtS n := by
  unfold rtS psl dOf
  (repeat' split) <;> omega
theorem rtS_i {n : Nat} : ith (rtS n) n = true := by
  rw [ith_iff]
  unfold rtS hOf frm
  have := dOf_b n
  by_cases a : dOf n = 1
  · rw [if_pos a]; exact ⟨this.1, Or.inr rfl⟩
  · rw [if_neg a]
    have a2 : ¬ n ≤ 4 := fun z => a (if_pos z)
    by_cases b : dOf n = 2
    · rw [if_pos b]; exact ⟨by rw [b]; decide, Or.inl (by show 16 * (16 - 16) < n; omega)⟩
    · rw [if_neg b]; exact ⟨by show 3 ≤ dOf n; omega, Or.inl (by show 0 < n; omega)⟩
theorem rtS_lt {n : Nat} : rtS n < 21 := by unfold rtS; (repeat' split) <;> omega
/-- a vector grows by a level -/
theorem grow_c {n p : Nat} (hn : n < 64) (hg : dOf n < dOf (n + 1)) (hp : p < 4) : chs (psl n (dOf (n + 1))) 0 = rtS n ∧ (p ≠ 0 → ¬ ith (chs (psl n (dOf (n + 1))) p) n = true) ∧ ¬ psl n (dOf (n + 1)) < 16 := by
  have h : n = 4 ∨ n = 16 := by
    unfold dOf at hg
    by_cases a : n ≤ 4
    · rw [if_pos a] at hg
      by_cases b : n + 1 ≤ 4
      · rw [if_pos b] at hg; omega
      · omega
    · rw [if_neg a, if_neg (show ¬ n + 1 ≤ 4 by omega)] at hg
      by_cases b : n ≤ 16
      · rw [if_pos b] at hg
        by_cases c : n + 1 ≤ 16
        · rw [if_pos c] at hg; omega
        · omega
      · rw [if_neg b, if_neg (show ¬ n + 1 ≤ 16 by omega)] at hg; omega
  have hp' : p = 0 ∨ p = 1 ∨ p = 2 ∨ p = 3 := by omega
  rcases h with e | e <;> subst e <;> rcases hp' with e | e | e | e <;> subst e <;> decide
theorem VNk.tr {M k n n' s : Nat} {nd nd' : Nat → Nat} {el el' : Nat → Int32} {o : Int32} {x : KNS} (H : VNk M k n nd el s o x) (h1 : s < 16 → ∀ p, p < 4 → elV n' el' s p = elV n el s p) (h2 : ¬ s < 16 → ∀ p, p < 4 → chV n' nd' s p = chV n nd s p) : VNk M k n' nd' el' s o x := by
  refine ⟨H.1, ?_⟩
  have h := H.2
  by_cases e : s < 16
  · rw [if_pos e] at h ⊢; exact h.of (h1 e)
  · rw [if_neg e] at h ⊢; exact h.of (h2 e)
set_option maxRecDepth 100000 in
set_option maxHeartbeats 4000000 in
theorem l_X9_putIn {G : GG} {d : Nat} {Q : Pst} {M n n' pl : Nat} {nd nd' : Nat → Nat} {el : Nat → Int32} {ow ru : Nat → Bool} {o : Int32} {e : Int32} (hn : (n' = n ∧ pl < n) ∨ (n' = n + 1 ∧ pl = n)) (hn4 : n' ≤ 64) (hru : ∀ t, ru t = (ith t n && (!decide (o = -1) && ow t))) (hinj : ∀ s t, s < 21 → t < 21 → ith s n = true → ith t n = true → nd s = nd t → s = t) (hoff : ∀ t, t < 21 → ith t n' = true → (∀ i, 1 ≤ i → i ≤ 3 → t ≠ psl pl i) → nd' t = nd t) (hd : 7 ≤ d) : ∀ H, 1 ≤ H → H ≤ dOf n' → ∀ (h : Hp) (c bc bs : Nat) (x0 : KNS), NDp h n nd nd' ru pl (H - 1) → VTb h M n nd el ow o (H - 1) → (∀ s, s < 21 → hOf s < H → ith s n = true → nd s ≠ nd' (psl pl H)) → KN h (nd' (psl pl H)) x0 → VNk M (nd' (psl pl H)) n nd el (psl pl H) o x0 → MKR h c → c + H < 900000 → 4 * (H - 1) ≤ bc → 91 * (H - 1) ≤ bs → (∀ h', (∀ i, 1 ≤ i → i ≤ H → ∃ x, KN h' (nd' (psl pl i)) x ∧ VNk M (nd' (psl pl i)) n' nd' (va_up el pl e) (psl pl i) o x) → MKR h' (c + crN ru pl H) → Fr h h' (WPt nd' pl H) → Q oVoid h') → WP G m_X9_putIn d 6 [(7, vi (nI H)), (6, vr (some (nm 45 (nd' (psl pl H))))), (0, vr (some (nm 40 2))), (3, vi (nI pl)), (4, vi e), (5, vi o)] [] h bc bs Q := by
  have hp64 : pl < 64 := by omega
  have hd3 := dOf_b n'
  intro H
  induction H with
  | zero => intro h1; exact absurd h1 (by decide)
  | succ H ih =>
    intro h1 h3 h c bc bs x0 hD hT hS hO hx hM hc hbc hbs hq
    by_cases e1 : H = 0
    · subst e1
      have hn16 : psl pl (0 + 1) < 16 := psl_l hp64
      have epl : 4 * psl pl (0 + 1) + pla 1 pl = pl := by rw [show psl pl (0 + 1) = pl / 4 from rfl, pla_1]; omega
      have p4 := pla_lt (h := 1) (pl := pl)
      have hL := hx.2
      rw [if_pos hn16] at hL
      refine wp_iload (i := 7) dX9_putIn_6 rfl ?_
      refine wp_iconst (nI 1) dX9_putIn_8 (by decide) ?_
      refine wp_icmp_leN 31 dX9_putIn_9 (by decide) (by omega) (by decide) (fun c_9 => ?_) (fun c_9 => absurd c_9 (by omega))
      refine wp_aload (i := 6) dX9_putIn_31 rfl ?_
      refine wp_iconst (nI 1) dX9_putIn_33 (by decide) ?_
      refine wp_iload_n (i := 3) dX9_putIn_34 rfl rfl ?_
      refine wp_cS (y' := m_X9_placeAt) [vi (nI 1), vi (nI pl)] [vr (some (nm 45 (nd' (psl pl (0 + 1)))))] 0 0 dX9_putIn_35 ml_X9_15 st_X9_placeAt ok_X9_placeAt rfl (Nat.le_of_ble_eq_true rfl) rfl (Nat.le_of_ble_eq_true rfl) (d' := d - 1) (by omega) (Nat.zero_le _) (Nat.zero_le _) (c_X9_placeAt (by omega) (by omega) (by omega) (cont_ret ?_))
      refine wp_iload (i := 4) dX9_putIn_38 rfl ?_
      refine wp_cV (y' := m_X3_putElement) 5 [vi (nI (pla 1 pl)), vi e] [] 0 0 dX9_putIn_40 ml_X9_52 im_X3_putElement se_X3_putElement (by decide) hO.k0 ok_X3_putElement rfl (Nat.le_of_ble_eq_true rfl) rfl (Nat.le_of_ble_eq_true rfl) (d' := d - 1) (by omega) (Nat.zero_le _) (Nat.zero_le _) (c_X3_putElement hO hL.2.2.2.1 hL.2.2.2.2.2.1 (by rw [hL.2.2.2.2.2.2.1]; decide) (by rw [hL.2.2.2.2.2.2.1]; exact p4) (fun h1 O1 F1 => cont_void ?_))
      refine wp_return dX9_putIn_43 rfl ?_
      refine hq _ (fun i i1 i2 => ?_) (hM.frm (F1 _ (CNo_n (by omega) (by decide)))) (fun a ha => F1 a (fun z => ha (Or.inr ⟨1, by decide, by decide, z⟩)))
      have ei : i = 0 + 1 := by omega
      subst ei
      have z := hx.ue (nd' := nd') (n' := n') (p0 := pla 1 pl) (e := e) hn16 (by rw [epl]; exact hn)
      rw [epl] at z
      exact ⟨_, O1, z⟩
    · have h1' : 1 ≤ H := by omega
      have h2' : H ≤ 2 := by omega
      have hne : ∀ i, 1 ≤ i → i ≤ H → nd' (psl pl i) ≠ nd' (psl pl (H + 1)) := fun i i1 i2 => hD.2 i (H + 1) i1 (by omega) (by omega)
      refine wp_iload (i := 7) dX9_putIn_6 rfl ?_
      refine wp_iconst (nI 1) dX9_putIn_8 (by decide) ?_
      refine wp_icmp_leN 31 dX9_putIn_9 (by decide) (by omega) (by decide) (fun c_9 => absurd c_9 (by omega)) (fun c_9 => ?_)
      refine wp_aload_n (i := 0) dX9_putIn_12 rfl rfl ?_
      refine wp_aload (i := 6) dX9_putIn_13 rfl ?_
      refine wp_iload (i := 7) dX9_putIn_15 rfl ?_
      refine wp_iload_n (i := 3) dX9_putIn_17 rfl rfl ?_
      refine wp_iload (i := 5) dX9_putIn_18 rfl ?_
      refine wp_cS (y' := m_X9_changeableChild) [vr (some (nm 40 2)), vr (some (nm 45 (nd' (psl pl (H + 1))))), vi (nI (H + 1)), vi (nI pl), vi o] [] 4 91 dX9_putIn_20 ml_X9_48 st_X9_changeableChild ok_X9_changeableChild rfl (Nat.le_of_ble_eq_true rfl) rfl (Nat.le_of_ble_eq_true rfl) (d' := d - 1) (by omega) (by omega) (by omega) (c_X9_changeableChild (H := H) hn hn4 hru hinj hoff h1' h2' h3 hD hT hO hx hM (by omega) (by omega) (by omega) (by omega) (fun h5 x1 x2 K1 V1 K2 V2 M2 F2 => cont_ret ?_))
      refine wp_astore (i := 6) (lv' := [(6, vr (some (nm 45 (nd' (psl pl H))))), (7, vi (nI (H + 1))), (0, vr (some (nm 40 2))), (3, vi (nI pl)), (4, vi e), (5, vi o)]) dX9_putIn_23 (by decide) rfl ?_
      obtain ⟨x_25, e_25⟩ : ∃ z : Int32, z = (nI (H + 1)) + Int32.ofInt (-1) := ⟨_, rfl⟩
      refine wp_iinc (lv' := [(7, vi x_25), (6, vr (some (nm 45 (nd' (psl pl H))))), (0, vr (some (nm 40 2))), (3, vi (nI pl)), (4, vi e), (5, vi o)]) x_25 dX9_putIn_25 rfl e_25.symm (by decide) rfl ?_
      refine wp_goto 6 dX9_putIn_28 (by decide) ?_
      rw [nI_dec (by omega), bfK_s] at e_25
      subst e_25
      refine wp_sub [(7, vi (nI H)), (6, vr (some (nm 45 (nd' (psl pl H))))), (0, vr (some (nm 40 2))), (3, vi (nI pl)), (4, vi e), (5, vi o)] (sb_cons (.head _) (sb_cons (.tail _ (.head _)) (sb_cons (.tail _ (.tail _ (.head _))) (sb_cons (.tail _ (.tail _ (.tail _ (.head _)))) (sb_cons (.tail _ (.tail _ (.tail _ (.tail _ (.head _))))) (sb_cons (.tail _ (.tail _ (.tail _ (.tail _ (.tail _ (.head _)))))) sb_nil)))))) ?_
      have f2 : ∀ r i, 45 ≤ r → r ≤ 48 → i ≠ nd' (psl pl (H + 1)) → i ≠ nd' (psl pl H) → ce h5 (nm r i) = ce h (nm r i) := fun r i r1 r2 i1 i2 => F2 _ (fun z => z.elim (fun z => by unfold nm at z; omega) (fun z => z.elim (CNo_n (by omega) (by omega)) (CNo_n (by omega) (by omega))))
      have hS2 : ∀ s, s < 21 → hOf s < H → ith s n = true → nd s ≠ nd' (psl pl H) := fun s s1 s2 s3 z => by
        cases hr : ru (psl pl H) with
        | true =>
          have hi2 : ith (psl pl H) n = true := by rw [hru, Bool.and_eq_true] at hr; exact hr.1
          rw [(hD.1 H h1' (Nat.le_refl _)).1 hr] at z
          have := hinj _ _ s1 (psl_lt hp64) s3 hi2 z
          rw [this, psl_h hp64 h1' (by omega)] at s2; omega
        | false =>
          obtain ⟨y, hy, -⟩ := hT s s1 (by show hOf s ≤ H; omega) s3
          have := ((hD.1 H h1' (Nat.le_refl _)).2 hr).1
          rw [← z, hy.k0] at this; cases this
      refine ih h1' (by omega) h5 _ _ _ x2 ⟨fun i i1 i2 => ⟨(hD.1 i i1 (by omega)).1, fun r => ((hD.1 i i1 (by omega)).2 r).frm (fun q q1 q2 => f2 q _ q1 q2 (hne i i1 (by omega)) (hD.2 i H i1 (by omega) (by omega)))⟩, fun i j i1 i2 i3 => hD.2 i j i1 i2 (by omega)⟩ ((hT.lo (by omega)).frm (fun s r s1 s2 s3 r1 r2 => f2 r _ r1 r2 (hS s s1 (by omega) s3) (hS2 s s1 (by omega) s3))) hS2 K2 V2 M2 (by split <;> omega) (by omega) (by omega) (fun h6 Z6 M6 F6 => ?_)
      have f6 : ∀ r, 45 ≤ r → r ≤ 48 → ce h6 (nm r (nd' (psl pl (H + 1)))) = ce h5 (nm r (nd' (psl pl (H + 1)))) := fun r r1 r2 => F6 _ (WPt_n (fun j j1 j2 => fun z => hne j j1 j2 z.symm) (by omega) (by omega))
      refine hq h6 (fun i i1 i2 => ?_) ?_ (fun a ha => (F6 a (fun z => ha z.up)).trans (F2 a (fun z => ha (z.elim Or.inl (fun z => z.elim (fun z => Or.inr ⟨H + 1, by omega, Nat.le_refl _, z⟩) (fun z => Or.inr ⟨H, h1', by omega, z⟩))))))
      · by_cases ei : i = H + 1
        · subst ei; exact ⟨x1, K1.frm (f6 45 (by decide) (by decide)) (f6 46 (by decide) (by decide)) (f6 47 (by decide) (by decide)) (f6 48 (by decide) (by decide)), V1 _⟩
        · exact Z6 i i1 (by omega)
      · rw [crN_s h1', Nat.add_comm (crN ru pl H), ← Nat.add_assoc]; exact M6
set_option maxRecDepth 100000 in
set_option maxHeartbeats 4000000 in
theorem c_X9_putIn {G : GG} {d bc bs : Nat} {h : Hp} {Q : Pst} {M n n' pl : Nat} {nd nd' : Nat → Nat} {el : Nat → Int32} {ow ru : Nat → Bool} {o : Int32} {e : Int32} (hn : (n' = n ∧ pl < n) ∨ (n' = n + 1 ∧ pl = n)) (hn4 : n' ≤ 64) (hru : ∀ t, ru t = (ith t n && (!decide (o = -1) && ow t))) (hinj : ∀ s t, s < 21 → t < 21 → ith s n = true → ith t n = true → nd s = nd t → s = t) (hoff : ∀ t, t < 21 → ith t n' = true → (∀ i, 1 ≤ i → i ≤ 3 → t ≠ psl pl i) → nd' t = nd t) (hd : 7 ≤ d) {c : Nat} {x0 : KNS} (hD : NDp h n nd nd' ru pl (dOf n' - 1)) (hT : VTb h M n nd el ow o (dOf n' - 1)) (hS : ∀ s, s < 21 → hOf s < dOf n' → ith s n = true → nd s ≠ nd' (psl pl (dOf n'))) (hO : KN h (nd' (psl pl (dOf n'))) x0) (hx : VNk M (nd' (psl pl (dOf n'))) n nd el (psl pl (dOf n')) o x0) (hM : MKR h c) (hc : c < 800000) (hbc : 8 ≤ bc) (hbs : 182 ≤ bs) (hq : ∀ h', (∀ i, 1 ≤ i → i ≤ dOf n' → ∃ x, KN h' (nd' (psl pl i)) x ∧ VNk M (nd' (psl pl i)) n' nd' (va_up el pl e) (psl pl i) o x) → MKR h' (c + crN ru pl (dOf n')) → Fr h h' (WPt nd' pl (dOf n')) → Q oVoid h') : WP G m_X9_putIn d 0 (aargs 0 [vr (some (nm 40 2)), vr (some (nm 45 (nd' (psl pl (dOf n'))))), vi (nI (dOf n')), vi (nI pl), vi e, vi o]) [] h bc bs Q := by
  have hd3 := dOf_b n'
  refine wp_sub [(0, vr (some (nm 40 2))), (1, vr (some (nm 45 (nd' (psl pl (dOf n')))))), (2, vi (nI (dOf n'))), (3, vi (nI pl)), (4, vi e), (5, vi o)] (fun _ hz => hz) ?_
  refine wp_aload_n (i := 1) dX9_putIn_0 rfl rfl ?_
  refine wp_astore (i := 6) (lv' := [(6, vr (some (nm 45 (nd' (psl pl (dOf n')))))), (0, vr (some (nm 40 2))), (1, vr (some (nm 45 (nd' (psl pl (dOf n')))))), (2, vi (nI (dOf n'))), (3, vi (nI pl)), (4, vi e), (5, vi o)]) dX9_putIn_1 (by decide) rfl ?_
  refine wp_iload_n (i := 2) dX9_putIn_3 rfl rfl ?_
  refine wp_istore (i := 7) (lv' := [(7, vi (nI (dOf n'))), (6, vr (some (nm 45 (nd' (psl pl (dOf n')))))), (0, vr (some (nm 40 2))), (1, vr (some (nm 45 (nd' (psl pl (dOf n')))))), (2, vi (nI (dOf n'))), (3, vi (nI pl)), (4, vi e), (5, vi o)]) dX9_putIn_4 (by decide) rfl ?_
  refine wp_sub [(7, vi (nI (dOf n'))), (6, vr (some (nm 45 (nd' (psl pl (dOf n')))))), (0, vr (some (nm 40 2))), (3, vi (nI pl)), (4, vi e), (5, vi o)] (sb_cons (.head _) (sb_cons (.tail _ (.head _)) (sb_cons (.tail _ (.tail _ (.head _))) (sb_cons (.tail _ (.tail _ (.tail _ (.tail _ (.tail _ (.head _)))))) (sb_cons (.tail _ (.tail _ (.tail _ (.tail _ (.tail _ (.tail _ (.head _))))))) (sb_cons (.tail _ (.tail _ (.tail _ (.tail _ (.tail _ (.tail _ (.tail _ (.head _)))))))) sb_nil)))))) ?_
  exact l_X9_putIn hn hn4 hru hinj hoff hd _ hd3.1 (Nat.le_refl _) h c bc bs x0 hD hT hS hO hx hM (by omega) (by omega) (by omega) hq
