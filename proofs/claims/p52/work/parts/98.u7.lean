/-! The class: vectors with one element less. -/
/-- how many nodes of a path are there, up to the height H -/
def crL (n pl : Nat) : Nat → Nat
  | 0 => 0
  | H + 1 => crL n pl H + if ith (psl pl (H + 1)) n = true then 1 else 0
theorem dOf_5 {n : Nat} (h : 2 ≤ dOf n) : 5 ≤ n := by
  unfold dOf at h
  split at h
  · omega
  · omega
theorem frm_p1 {pl : Nat} (hp : pl < 64) : frm (psl pl 1) = 4 * (pl / 4) := by rw [psl_1]; unfold frm; rw [if_pos (by omega)]
theorem frm_p2 {pl : Nat} (hp : pl < 64) : frm (psl pl 2) = 16 * (pl / 16) := by rw [psl_2]; unfold frm; rw [if_neg (by omega), if_pos (by omega)]; omega
theorem less_i {pl i : Nat} (hp : pl < 64) (h1 : 1 ≤ i) (h2 : i + 1 ≤ dOf pl) : ith (psl pl i) pl = true ↔ ¬ (pl &&& (1 * 2 ^ (2 * (i + 1 - 1)) - 1)) = 0 := by
  have hd := dOf_b pl
  have h5 := dOf_5 (n := pl) (by omega)
  have hi : i = 1 ∨ i = 2 := by omega
  rw [ith_iff, psl_h hp h1 (by omega)]
  rcases hi with e | e <;> subst e
  · rw [frm_p1 hp, show (1 * 2 ^ (2 * (1 + 1 - 1)) - 1 : Nat) = 2 ^ 2 - 1 from rfl, Nat.and_two_pow_sub_one_eq_mod, psl_1]
    omega
  · rw [frm_p2 hp, show (1 * 2 ^ (2 * (2 + 1 - 1)) - 1 : Nat) = 2 ^ 4 - 1 from rfl, Nat.and_two_pow_sub_one_eq_mod, psl_2]
    omega
theorem VNk.dn {M k n' s p0 : Nat} {nd nd' : Nat → Nat} {el : Nat → Int32} {o : Int32} {x : KNS} (H : VNk M k (n' + 1) nd el s o x) (hs : s < 16) (hn : 4 * s + p0 = n') : VNk M k n' nd' el s o (KN_uel x p0 (nI 0)) := by
  obtain ⟨hm, h⟩ := H
  rw [if_pos hs] at h
  obtain ⟨a1, a2, a3, a4, a5, a6, a7, a8, a9⟩ := h
  refine ⟨hm, ?_⟩
  rw [if_pos hs]
  refine ⟨a1, a2, a3, a4, a5, a6, a7, fun p hp => ?_, a9⟩
  show va_up (KN_el x) p0 (nI 0) p = elV n' el s p
  rw [va_up_app]
  by_cases q : p = p0
  · rw [if_pos q]
    unfold elV
    rw [if_neg (by omega)]
  · rw [if_neg q, a8 p hp]
    unfold elV
    by_cases z : 4 * s + p < n' + 1
    · rw [if_pos z, if_pos (by omega)]
    · rw [if_neg z, if_neg (by omega)]
theorem VNk.upn {M k n n' s p0 : Nat} {nd nd' : Nat → Nat} {el el' : Nat → Int32} {o : Int32} {x : KNS} (H : VNk M k n nd el s o x) (hs : ¬ s < 16) (hi : ¬ ith (chs s p0) n' = true) (he : ∀ p, p < 4 → p ≠ p0 → chV n' nd' s p = chV n nd s p) : VNk M k n' nd' el' s o (puC x p0 none) := by
  obtain ⟨hm, h⟩ := H
  rw [if_neg hs] at h
  obtain ⟨a1, a2, a3, a4, a5, a6, a7, a8, a9⟩ := h
  rw [show puC x p0 none = KN_ubl x p0 none from if_neg (by rw [a5]; exact fun z => nomatch z)]
  refine ⟨hm, ?_⟩
  rw [if_neg hs]
  refine ⟨a1, a2, a3, a4, a5, a6, a7, fun p hp => ?_, a9⟩
  show va_up (KN_bl x) p0 none p = _
  rw [va_up_app]
  by_cases e : p = p0
  · rw [if_pos e, e]
    unfold chV
    rw [if_neg hi]
  · rw [if_neg e, he p hp e]; exact a8 p hp
/-- below the height of a node that goes, none stays -/
theorem less_no {pl i : Nat} (hp : pl < 64) (h1 : 1 ≤ i) (h2 : i + 1 ≤ dOf pl) (h : ¬ ith (psl pl i) pl = true) : ∀ j, 1 ≤ j → j ≤ i → ¬ ith (psl pl j) pl = true := by
  intro j j1 j2 z
  have hd := dOf_b pl
  have h5 := dOf_5 (n := pl) (by omega)
  have hj : j = 1 ∨ j = 2 := by omega
  have hi : i = 1 ∨ i = 2 := by omega
  rw [ith_iff, psl_h hp j1 (by omega)] at z
  rw [ith_iff, psl_h hp h1 (by omega)] at h
  rcases hj with e | e <;> rcases hi with q | q <;> subst e <;> subst q <;> (first | (rw [frm_p1 hp, psl_1] at z) | (rw [frm_p2 hp, psl_2] at z)) <;> (first | (rw [frm_p1 hp, psl_1] at h) | (rw [frm_p2 hp, psl_2] at h)) <;> omega
theorem crL_0 {n pl H : Nat} (h : ∀ j, 1 ≤ j → j ≤ H → ¬ ith (psl pl j) n = true) : crL n pl H = 0 := by
  induction H with
  | zero => rfl
  | succ H ih => rw [crL, ih (fun j j1 j2 => h j j1 (by omega)), if_neg (h (H + 1) (by omega) (Nat.le_refl _))]
theorem ith_dn {t pl : Nat} (ht : t < 21) (hp : pl < 64) (ho : ∀ h, 1 ≤ h → h ≤ 3 → t ≠ psl pl h) : ith t pl = ith t (pl + 1) := (ith_offN ht (Or.inr ⟨rfl, rfl⟩) (by omega) ho).symm
theorem chV_dn {nd nd' : Nat → Nat} {pl H p : Nat} (hp64 : pl < 64) (h1 : 1 ≤ H) (h2 : H ≤ 2) (hoff : ∀ t, t < 21 → ith t pl = true → (∀ i, 1 ≤ i → i ≤ 3 → t ≠ psl pl i) → nd' t = nd t) (hp : p < 4) (hpe : p ≠ pla (H + 1) pl) : chV pl nd' (psl pl (H + 1)) p = chV (pl + 1) nd (psl pl (H + 1)) p := by
  have z := chs_off hp64 h1 h2 hp hpe
  have zl := (chs_lt (psl_16 (pl := pl) (h := H + 1) (by omega)) (psl_lt hp64) hp).1
  unfold chV
  rw [ith_dn zl hp64 z]
  by_cases q : ith (chs (psl pl (H + 1)) p) (pl + 1) = true
  · rw [if_pos q, if_pos q, hoff _ zl (by rw [ith_dn zl hp64 z]; exact q) z]
  · rw [if_neg q, if_neg q]
set_option maxRecDepth 100000 in
set_option maxHeartbeats 4000000 in
theorem l_X9_less {G : GG} {d : Nat} {Q : Pst} {M pl : Nat} {nd nd' : Nat → Nat} {el : Nat → Int32} {ow : Nat → Bool} (hp64 : pl < 64) (hoff : ∀ t, t < 21 → ith t pl = true → (∀ i, 1 ≤ i → i ≤ 3 → t ≠ psl pl i) → nd' t = nd t) (hdst : ∀ i j, 1 ≤ i → i < j → j ≤ dOf pl → ith (psl pl i) pl = true → nd' (psl pl i) ≠ nd' (psl pl j)) {k4 : Nat} (hd : 7 ≤ d) : ∀ H, 1 ≤ H → H ≤ dOf pl → ∀ (h : Hp) (c bc bs : Nat) (x0 : KNS), (∀ i, 1 ≤ i → i < H → ith (psl pl i) pl = true → FrN h (nd' (psl pl i))) → VTb h M (pl + 1) nd el ow (-1) (H - 1) → KN h (nd' (psl pl H)) x0 → VNk M (nd' (psl pl H)) (pl + 1) nd el (psl pl H) (-1) x0 → (∀ s, s < 21 → hOf s < H → ith s (pl + 1) = true → nd s ≠ nd' (psl pl H)) → MKR h c → c + H < 900000 → 4 * (H - 1) ≤ bc → 91 * (H - 1) ≤ bs → (∀ h', (∀ i, 1 ≤ i → i ≤ H → ith (psl pl i) pl = true → ∃ x, KN h' (nd' (psl pl i)) x ∧ VNk M (nd' (psl pl i)) pl nd' el (psl pl i) (-1) x) → MKR h' (c + crL pl pl (H - 1)) → Fr h h' (fun a => a = nm 40 2 ∨ ∃ i, 1 ≤ i ∧ i ≤ H ∧ (i = H ∨ ith (psl pl i) pl = true) ∧ CNo (nd' (psl pl i)) a) → Q (oRet (vr (some k4))) h') → WP G m_X9_withOneLess d 39 [(6, vi (nI H)), (5, vr (some (nm 45 (nd' (psl pl H))))), (4, vr (some k4)), (3, vi (nI pl)), (0, vr (some (nm 40 2)))] [] h bc bs Q := by
  have hd3 := dOf_b pl
  intro H
  induction H with
  | zero => intro h1; exact absurd h1 (by decide)
  | succ H ih =>
    intro h1 h3 h c bc bs x0 hD hT hO hx hS hM hc hbc hbs hq
    by_cases e1 : H = 0
    · subst e1
      have hn16 : psl pl (0 + 1) < 16 := psl_l hp64
      have epl : 4 * psl pl (0 + 1) + pla 1 pl = pl := by rw [show psl pl (0 + 1) = pl / 4 from rfl, pla_1]; omega
      have p4 := pla_lt (h := 1) (pl := pl)
      have hL := hx.2
      rw [if_pos hn16] at hL
      refine wp_iload (i := 6) dX9_withOneLess_39 rfl ?_
      refine wp_iconst (nI 1) dX9_withOneLess_41 (by decide) ?_
      refine wp_icmp_leN 97 dX9_withOneLess_42 (by decide) (by omega) (by decide) (fun c_42 => ?_) (fun c_42 => absurd c_42 (by omega))
      refine wp_aload (i := 5) dX9_withOneLess_97 rfl ?_
      refine wp_iconst (nI 1) dX9_withOneLess_99 (by decide) ?_
      refine wp_iload_n (i := 3) dX9_withOneLess_100 rfl rfl ?_
      refine wp_cS (y' := m_X9_placeAt) [vi (nI 1), vi (nI pl)] [vr (some (nm 45 (nd' (psl pl (0 + 1)))))] 0 0 dX9_withOneLess_101 ml_X9_15 st_X9_placeAt ok_X9_placeAt rfl (Nat.le_of_ble_eq_true rfl) rfl (Nat.le_of_ble_eq_true rfl) (d' := d - 1) (by omega) (Nat.zero_le _) (Nat.zero_le _) (c_X9_placeAt (by omega) (by omega) (by omega) (cont_ret ?_))
      refine wp_iconst (nI 0) dX9_withOneLess_104 (by decide) ?_
      refine wp_cV (y' := m_X3_putElement) 5 [vi (nI (pla 1 pl)), vi (nI 0)] [] 0 0 dX9_withOneLess_105 ml_X9_52 im_X3_putElement se_X3_putElement (by decide) hO.k0 ok_X3_putElement rfl (Nat.le_of_ble_eq_true rfl) rfl (Nat.le_of_ble_eq_true rfl) (d' := d - 1) (by omega) (Nat.zero_le _) (Nat.zero_le _) (c_X3_putElement hO hL.2.2.2.1 hL.2.2.2.2.2.1 (by rw [hL.2.2.2.2.2.2.1]; decide) (by rw [hL.2.2.2.2.2.2.1]; exact p4) (fun h1 O1 F1 => cont_void ?_))
      refine wp_aload (i := 4) dX9_withOneLess_108 rfl ?_
      refine wp_areturn dX9_withOneLess_110 rfl (Or.inl ⟨_, rfl⟩) ?_
      refine hq _ (fun i i1 i2 _ => ?_) (hM.frm (F1 _ (CNo_n (by omega) (by decide)))) (fun a ha => F1 a (fun z => ha (Or.inr ⟨1, by decide, by decide, Or.inl rfl, z⟩)))
      have ei : i = 0 + 1 := by omega
      subst ei
      exact ⟨_, O1, hx.dn (nd' := nd') hn16 epl⟩
    · have h1' : 1 ≤ H := by omega
      have h2' : H ≤ 2 := by omega
      have hli := less_i hp64 h1' (show H + 1 ≤ dOf pl by omega)
      have p4 := pla_lt (h := H + 1) (pl := pl)
      have ec := psl_c hp64 h1' h2'
      have hs0 : ¬ psl pl (H + 1) < 16 := psl_16 (by omega)
      have hpow : 1 ≤ 1 * 2 ^ (2 * (H + 1 - 1)) := by rw [Nat.one_mul]; exact Nat.one_le_two_pow
      have hpw2 : 2 * (H + 1 - 1) ≤ 4 := by omega
      have hpw : 1 * 2 ^ (2 * (H + 1 - 1)) ≤ 16 := by rw [Nat.one_mul]; exact Nat.pow_le_pow_right (by decide) hpw2
      have hand : pl &&& (1 * 2 ^ (2 * (H + 1 - 1)) - 1) ≤ pl := Nat.and_le_left
      refine wp_iload (i := 6) dX9_withOneLess_39 rfl ?_
      refine wp_iconst (nI 1) dX9_withOneLess_41 (by decide) ?_
      refine wp_icmp_leN 97 dX9_withOneLess_42 (by decide) (by omega) (by decide) (fun c_42 => absurd c_42 (by omega)) (fun c_42 => ?_)
      refine wp_iconst (nI 1) dX9_withOneLess_45 (by decide) ?_
      refine wp_iconst (nI 2) dX9_withOneLess_46 (by decide) ?_
      refine wp_iload (i := 6) dX9_withOneLess_47 rfl ?_
      refine wp_iconst (nI 1) dX9_withOneLess_49 (by decide) ?_
      refine wp_isubN dX9_withOneLess_50 (by omega) ?_
      refine wp_imulN dX9_withOneLess_51 ?_
      refine wp_ishl dX9_withOneLess_52 ?_
      rw [nI_shl (by omega)]
      refine wp_istore (i := 7) (lv' := [(7, vi (nI (1 * 2 ^ (2 * ((H + 1) - 1))))), (6, vi (nI (H + 1))), (5, vr (some (nm 45 (nd' (psl pl (H + 1)))))), (4, vr (some k4)), (3, vi (nI pl)), (0, vr (some (nm 40 2)))]) dX9_withOneLess_53 (by decide) rfl ?_
      refine wp_iload_n (i := 3) dX9_withOneLess_55 rfl rfl ?_
      refine wp_iload (i := 7) dX9_withOneLess_56 rfl ?_
      refine wp_iconst (nI 1) dX9_withOneLess_58 (by decide) ?_
      refine wp_isubN dX9_withOneLess_59 (by omega) ?_
      refine wp_iand dX9_withOneLess_60 ?_
      rw [nx_and]
      refine wp_if_neN 79 dX9_withOneLess_61 (by decide) (by omega) (fun c_61 => ?_) (fun c_61 => ?_)
      · skip
        refine wp_aload_n (i := 0) dX9_withOneLess_79 rfl rfl ?_
        refine wp_aload (i := 5) dX9_withOneLess_80 rfl ?_
        refine wp_iload (i := 6) dX9_withOneLess_82 rfl ?_
        refine wp_iload_n (i := 3) dX9_withOneLess_84 rfl rfl ?_
        refine wp_iconst (-1) dX9_withOneLess_85 (by decide) ?_
        have hi1 : ith (psl pl H) pl = true := hli.mpr (by omega)
        have hne : nd' (psl pl H) ≠ nd' (psl pl (H + 1)) := hdst H (H + 1) h1' (by omega) h3 hi1
        have hm : dOf pl ≤ dOf (pl + 1) := by unfold dOf; (repeat' split) <;> omega
        have hio : ith (psl pl H) (pl + 1) = true := by
          rw [ith_iff] at hi1 ⊢
          exact ⟨by omega, by omega⟩
        refine wp_cS (y' := m_X9_changeableChild) [vr (some (nm 40 2)), vr (some (nm 45 (nd' (psl pl (H + 1))))), vi (nI (H + 1)), vi (nI pl), vi (-1)] [] 4 91 dX9_withOneLess_86 ml_X9_48 st_X9_changeableChild ok_X9_changeableChild rfl (Nat.le_of_ble_eq_true rfl) rfl (Nat.le_of_ble_eq_true rfl) (d' := d - 1) (by omega) (by omega) (by omega) (c_X9_chgG (n := pl + 1) (n' := pl) (el := el) (ow := ow) (ru := fun _ => false) (o := -1) hp64 (fun t => by rw [decide_eq_true rfl, Bool.not_true, Bool.false_and, Bool.and_false]) h1' h2' hi1 (fun q hq hqe => chV_dn hp64 h1' h2' hoff hq hqe) (fun z => absurd hio z) ⟨fun z => (nomatch z), fun _ => hD H h1' (by omega) hi1⟩ hne hT hO hx hM (by omega) (by omega) (by omega) (by omega) (fun h5 x1 x2 K1 V1 K2 V2 M2 F2 => cont_ret ?_))
        refine wp_astore (i := 5) (lv' := [(5, vr (some (nm 45 (nd' (psl pl H))))), (7, vi (nI (1 * 2 ^ (2 * ((H + 1) - 1))))), (6, vi (nI (H + 1))), (4, vr (some k4)), (3, vi (nI pl)), (0, vr (some (nm 40 2)))]) dX9_withOneLess_89 (by decide) rfl ?_
        obtain ⟨x_91, e_91⟩ : ∃ z : Int32, z = (nI (H + 1)) + Int32.ofInt (-1) := ⟨_, rfl⟩
        refine wp_iinc (lv' := [(6, vi x_91), (5, vr (some (nm 45 (nd' (psl pl H))))), (7, vi (nI (1 * 2 ^ (2 * ((H + 1) - 1))))), (4, vr (some k4)), (3, vi (nI pl)), (0, vr (some (nm 40 2)))]) x_91 dX9_withOneLess_91 rfl e_91.symm (by decide) rfl ?_
        refine wp_goto 39 dX9_withOneLess_94 (by decide) ?_
        rw [nI_dec (by omega), bfK_s] at e_91
        subst e_91
        refine wp_sub [(6, vi (nI H)), (5, vr (some (nm 45 (nd' (psl pl H))))), (4, vr (some k4)), (3, vi (nI pl)), (0, vr (some (nm 40 2)))] (sb_cons (.head _) (sb_cons (.tail _ (.head _)) (sb_cons (.tail _ (.tail _ (.tail _ (.head _)))) (sb_cons (.tail _ (.tail _ (.tail _ (.tail _ (.head _))))) (sb_cons (.tail _ (.tail _ (.tail _ (.tail _ (.tail _ (.head _)))))) sb_nil))))) ?_
        have f2 : ∀ r i, 45 ≤ r → r ≤ 48 → i ≠ nd' (psl pl (H + 1)) → i ≠ nd' (psl pl H) → ce h5 (nm r i) = ce h (nm r i) := fun r i r1 r2 i1 i2 => F2 _ (fun z => z.elim (fun z => by unfold nm at z; omega) (fun z => z.elim (CNo_n (by omega) (by omega)) (CNo_n (by omega) (by omega))))
        have hS2 : ∀ s, s < 21 → hOf s < H → ith s (pl + 1) = true → nd s ≠ nd' (psl pl H) := fun s s1 s2 s3 z => by
          obtain ⟨y, hy, -⟩ := hT s s1 (by show hOf s ≤ H; omega) s3
          have := (hD H h1' (by omega) hi1).1
          rw [← z, hy.k0] at this; cases this
        refine ih h1' (by omega) h5 _ _ _ x2 (fun i i1 i2 i3 => (hD i i1 (by omega) i3).frm (fun q q1 q2 => f2 q _ q1 q2 (hdst i (H + 1) i1 (by omega) h3 i3) (hdst i H i1 (by omega) (by omega) i3))) ((hT.lo (by omega)).frm (fun s r s1 s2 s3 r1 r2 => f2 r _ r1 r2 (hS s s1 (by omega) s3) (hS2 s s1 (by omega) s3))) K2 V2 hS2 M2 (by split <;> omega) (by omega) (by omega) (fun h6 Z6 M6 F6 => ?_)
        have f6 : ∀ r, 45 ≤ r → r ≤ 48 → ce h6 (nm r (nd' (psl pl (H + 1)))) = ce h5 (nm r (nd' (psl pl (H + 1)))) := fun r r1 r2 => F6 _ (fun z => z.elim (fun z => by unfold nm at z; omega) (fun ⟨j, j1, j2, j3, j4⟩ => CNo_n (fun y => (hdst j (H + 1) j1 (by omega) h3 (j3.elim (fun e => by rw [e]; exact hi1) id)) y.2.2.symm) (by omega) j4))
        refine hq h6 (fun i i1 i2 i3 => ?_) ?_ (fun a ha => (F6 a (fun z => ha (z.elim Or.inl (fun ⟨j, j1, j2, j3, j4⟩ => Or.inr ⟨j, j1, by omega, Or.inr (j3.elim (fun e => by rw [e]; exact hi1) id), j4⟩)))).trans (F2 a (fun z => ha (z.elim Or.inl (fun z => z.elim (fun z => Or.inr ⟨H + 1, by omega, Nat.le_refl _, Or.inl rfl, z⟩) (fun z => Or.inr ⟨H, h1', by omega, Or.inr hi1, z⟩))))))
        · by_cases ei : i = H + 1
          · subst ei; exact ⟨x1, K1.frm (f6 45 (by decide) (by decide)) (f6 46 (by decide) (by decide)) (f6 47 (by decide) (by decide)) (f6 48 (by decide) (by decide)), V1 _⟩
          · exact Z6 i i1 (by omega) i3
        · obtain ⟨J, eJ⟩ : ∃ J, H = J + 1 := ⟨H - 1, by omega⟩
          rw [show crL pl pl (H + 1 - 1) = crL pl pl (H - 1) + 1 from by rw [eJ]; show crL pl pl (J + 1) = _; rw [crL, if_pos (by rw [← eJ]; exact hi1)]; rfl, Nat.add_comm (crL pl pl (H - 1)), ← Nat.add_assoc]; exact M6
      · skip
        refine wp_aload (i := 5) dX9_withOneLess_64 rfl ?_
        refine wp_iload (i := 6) dX9_withOneLess_66 rfl ?_
        refine wp_iload_n (i := 3) dX9_withOneLess_68 rfl rfl ?_
        refine wp_cS (y' := m_X9_placeAt) [vi (nI (H + 1)), vi (nI pl)] [vr (some (nm 45 (nd' (psl pl (H + 1)))))] 0 0 dX9_withOneLess_69 ml_X9_15 st_X9_placeAt ok_X9_placeAt rfl (Nat.le_of_ble_eq_true rfl) rfl (Nat.le_of_ble_eq_true rfl) (d' := d - 1) (by omega) (Nat.zero_le _) (Nat.zero_le _) (c_X9_placeAt (by omega) (by omega) (by omega) (cont_ret ?_))
        refine wp_null dX9_withOneLess_72 ?_
        refine wp_cV (y' := m_X3_putChild) 5 [vi (nI (pla (H + 1) pl)), vr none] [] 0 0 dX9_withOneLess_73 ml_X9_33 im_X3_putChild se_X3_putChild (by decide) hO.k0 ok_X3_putChild rfl (Nat.le_of_ble_eq_true rfl) rfl (Nat.le_of_ble_eq_true rfl) (d' := d - 1) (by omega) (Nat.zero_le _) (Nat.zero_le _) (c_X3_putChild hO hx.wf.2.2.1 p4 (fun v hv => nomatch hv) (fun h5 O5 F5 => cont_void ?_))
        refine wp_aload (i := 4) dX9_withOneLess_76 rfl ?_
        refine wp_areturn dX9_withOneLess_78 rfl (Or.inl ⟨_, rfl⟩) ?_
        have hno : ¬ ith (psl pl H) pl = true := fun z => hli.mp z (by omega)
        have hnn := less_no hp64 h1' h3 hno
        refine hq _ (fun i i1 i2 hi => ?_) (by rw [show crL pl pl (H + 1 - 1) = 0 from crL_0 hnn]; exact hM.frm (F5 _ (CNo_n (by omega) (by decide)))) (fun a ha => F5 a (fun z => ha (Or.inr ⟨H + 1, by omega, Nat.le_refl _, Or.inl rfl, z⟩)))
        by_cases ei : i = H + 1
        · subst ei
          exact ⟨_, O5, hx.upn hs0 (by rw [ec]; exact hno) (fun q hq hqe => chV_dn hp64 h1' h2' hoff hq hqe)⟩
        · exact absurd hi (hnn i i1 (by omega))
