/-! The class: nodes copied; places of keys. -/
/-- the place of a key at a level -/
def plN (k l : Nat) : Nat := (cdN k / 2 ^ (2 * l)) &&& 3
theorem plN_lt {k l : Nat} : plN k l < 4 := by
  have : plN k l ≤ 3 := Nat.and_le_right
  omega
/-- what putChild of all children makes -/
def cpL (x : KNS) : Nat → Nat → KNS → KNS
  | 0, _, y => y
  | n + 1, i, y => cpL x n (i + 1) (puC y i (chAq x i))
theorem cpL_n {x : KNS} : ∀ n i y, KN_kb y = none → cpL x n i y = y := by
  intro n
  induction n with
  | zero => intro i y _; rfl
  | succ n ih => intro i y h; rw [cpL, show puC y i (chAq x i) = y from if_pos h]; exact ih _ _ h
theorem cpL_s {x : KNS} : ∀ n i y, ¬ KN_kb y = none → cpL x n i y = (KN_lev y, KN_own y, KN_kk y, KN_ke y, KN_kb y, KN_kc y, KN_mk y, KN_a6 y, KN_n6 y, KN_a7 y, KN_n7 y, KN_a8 y, KN_n8 y, KN_ky y, KN_el y, fun p => if i ≤ p ∧ p < i + n then chAq x p else KN_bl y p) := by
  intro n
  induction n with
  | zero =>
    intro i y _
    have : (fun p => if i ≤ p ∧ p < i + 0 then chAq x p else KN_bl y p) = KN_bl y := funext fun p => if_neg (by omega)
    rw [this]; rfl
  | succ n ih =>
    intro i y h
    rw [cpL, show puC y i (chAq x i) = KN_ubl y i (chAq x i) from if_neg h, ih _ (KN_ubl y i (chAq x i)) h]
    have : (fun p => if i + 1 ≤ p ∧ p < i + 1 + n then chAq x p else va_up (KN_bl y) i (chAq x i) p) = fun p => if i ≤ p ∧ p < i + (n + 1) then chAq x p else KN_bl y p := funext fun p => by
      rw [va_up_app]
      by_cases e : p = i
      · rw [if_neg (by omega), if_pos e, if_pos (by omega), e]
      · rw [if_neg e]
        by_cases e2 : i + 1 ≤ p ∧ p < i + 1 + n
        · rw [if_pos e2, if_pos (by omega)]
        · rw [if_neg e2, if_neg (by omega)]
    show (_, _, _, _, _, _, _, _, _, _, _, _, _, _, _, fun p => if i + 1 ≤ p ∧ p < i + 1 + n then chAq x p else va_up (KN_bl y) i (chAq x i) p) = _
    rw [this]
/-- x' is a copy of x, of the owner o -/
def CPx (k : Nat) (o : Int32) (x x' : KNS) : Prop := KN_lev x' = KN_lev x ∧ KN_own x' = o ∧ KN_kc x' = KN_kc x ∧ KN_mk x' = nI 0 ∧
  (KN_kk x = none → KN_kk x' = none) ∧ (¬ KN_kk x = none → KN_kk x' = some (nm 46 k) ∧ KN_a6 x' = 101 ∧ KN_n6 x' = KN_n6 x ∧ ∀ i, i < KN_n6 x → KN_ky x' i = KN_ky x i) ∧
  (KN_ke x = none → KN_ke x' = none) ∧ (¬ KN_ke x = none → KN_ke x' = some (nm 47 k) ∧ KN_a7 x' = 101 ∧ KN_n7 x' = KN_n7 x ∧ ∀ i, i < KN_n7 x → KN_el x' i = KN_el x i) ∧
  (KN_kb x = none → KN_kb x' = none) ∧ (¬ KN_kb x = none → KN_kb x' = some (nm 48 k) ∧ KN_a8 x' = 116 ∧ KN_n8 x' = 4 ∧ ∀ p, p < 4 → KN_bl x' p = KN_bl x p)
theorem LFx.cp {j k : Nat} {o o' : Int32} {el : Nat → Int32} {x x' : KNS} (H : LFx j o el x) (C : CPx k o' x x') : LFx k o' el x' := by
  obtain ⟨a1, a2, a3, a4, a5, a6, a7, a8, a9⟩ := H
  obtain ⟨c1, c2, c3, c4, c5, c6, c7, c8, c9, c10⟩ := C
  obtain ⟨d1, d2, d3, d4⟩ := c8 (by rw [a4]; exact fun z => nomatch z)
  exact ⟨c1.trans a1, c2, c5 a3, d1, c9 a5, d2, d3.trans a7, fun p hp => (d4 p (by rw [a7]; exact hp)).trans (a8 p hp), c3.trans a9⟩
theorem INx.cp {j k : Nat} {o o' : Int32} {bl : Nat → Option Nat} {x x' : KNS} (H : INx j o bl x) (C : CPx k o' x x') : INx k o' bl x' := by
  obtain ⟨a1, a2, a3, a4, a5, a6, a7, a8, a9⟩ := H
  obtain ⟨c1, c2, c3, c4, c5, c6, c7, c8, c9, c10⟩ := C
  obtain ⟨d1, d2, d3, d4⟩ := c10 (by rw [a5]; exact fun z => nomatch z)
  exact ⟨c1.trans a1, c2, c5 a3, c7 a4, d1, d2, d3, fun p hp => (d4 p hp).trans (a8 p hp), c3.trans a9⟩
/-- a node of a map, above its last level; a row of the last level -/
def MPx (k lev kc : Nat) (ky el : Nat → Int32) (bl : Nat → Option Nat) (x : KNS) : Prop := KN_lev x = lev ∧ KN_own x = -1 ∧ KN_kc x = kc ∧ (KN_kk x = some (nm 46 k) ∧ KN_a6 x = 101 ∧ KN_n6 x = 4) ∧ (KN_ke x = some (nm 47 k) ∧ KN_a7 x = 101 ∧ KN_n7 x = 4) ∧ (KN_kb x = some (nm 48 k) ∧ KN_a8 x = 116 ∧ KN_n8 x = 4) ∧ ∀ p, p < 4 → KN_ky x p = ky p ∧ KN_el x p = el p ∧ KN_bl x p = bl p
def RWx (k kc : Nat) (ky el : Nat → Int32) (x : KNS) : Prop := KN_lev x = 4 ∧ KN_own x = -1 ∧ KN_kc x = kc ∧ (KN_kk x = some (nm 46 k) ∧ KN_a6 x = 101 ∧ KN_n6 x = 40) ∧ (KN_ke x = some (nm 47 k) ∧ KN_a7 x = 101 ∧ KN_n7 x = 40) ∧ KN_kb x = none ∧ ∀ p, p < 40 → KN_ky x p = ky p ∧ KN_el x p = el p
theorem MPx.w {k lev kc : Nat} {ky el : Nat → Int32} {bl : Nat → Option Nat} {x : KNS} (H : MPx k lev kc ky el bl x) (hl : lev ≤ 4) (hk : kc ≤ 1000) : WFN k x := by
  obtain ⟨a1, a2, a3, ⟨a4, a5, a6⟩, ⟨b4, b5, b6⟩, c, e⟩ := H
  exact ⟨Or.inr ⟨a4, a5, by omega⟩, Or.inr ⟨b4, b5, by omega⟩, Or.inr c, by omega, by omega⟩
theorem RWx.w {k kc : Nat} {ky el : Nat → Int32} {x : KNS} (H : RWx k kc ky el x) (hk : kc ≤ 1000) : WFN k x := by
  obtain ⟨a1, a2, a3, ⟨a4, a5, a6⟩, ⟨b4, b5, b6⟩, c, e⟩ := H
  exact ⟨Or.inr ⟨a4, a5, by omega⟩, Or.inr ⟨b4, b5, by omega⟩, Or.inl c, by omega, by omega⟩
theorem MPx.cp {j k lev kc : Nat} {ky el : Nat → Int32} {bl : Nat → Option Nat} {x x' : KNS} (H : MPx j lev kc ky el bl x) (C : CPx k (-1) x x') : MPx k lev kc ky el bl x' := by
  obtain ⟨a1, a2, a3, ⟨a4, a5, a6⟩, ⟨b4, b5, b6⟩, ⟨e4, e5, e6⟩, e⟩ := H
  obtain ⟨c1, c2, c3, c4, c5, c6, c7, c8, c9, c10⟩ := C
  obtain ⟨d1, d2, d3, d4⟩ := c6 (by rw [a4]; exact fun z => nomatch z)
  obtain ⟨f1, f2, f3, f4⟩ := c8 (by rw [b4]; exact fun z => nomatch z)
  obtain ⟨g1, g2, g3, g4⟩ := c10 (by rw [e4]; exact fun z => nomatch z)
  exact ⟨c1.trans a1, c2, c3.trans a3, ⟨d1, d2, d3.trans a6⟩, ⟨f1, f2, f3.trans b6⟩, ⟨g1, g2, g3⟩, fun p hp => ⟨(d4 p (by omega)).trans (e p hp).1, (f4 p (by omega)).trans (e p hp).2.1, (g4 p hp).trans (e p hp).2.2⟩⟩
theorem RWx.cp {j k kc : Nat} {ky el : Nat → Int32} {x x' : KNS} (H : RWx j kc ky el x) (C : CPx k (-1) x x') : RWx k kc ky el x' := by
  obtain ⟨a1, a2, a3, ⟨a4, a5, a6⟩, ⟨b4, b5, b6⟩, e4, e⟩ := H
  obtain ⟨c1, c2, c3, c4, c5, c6, c7, c8, c9, c10⟩ := C
  obtain ⟨d1, d2, d3, d4⟩ := c6 (by rw [a4]; exact fun z => nomatch z)
  obtain ⟨f1, f2, f3, f4⟩ := c8 (by rw [b4]; exact fun z => nomatch z)
  exact ⟨c1.trans a1, c2, c3.trans a3, ⟨d1, d2, d3.trans a6⟩, ⟨f1, f2, f3.trans b6⟩, c9 e4, fun p hp => ⟨(d4 p (by omega)).trans (e p hp).1, (f4 p (by omega)).trans (e p hp).2⟩⟩
set_option maxRecDepth 100000 in
set_option maxHeartbeats 4000000 in
theorem c_X2_placeOf {G : GG} {d bc bs : Nat} {h : Hp} {Q : Pst} {k l : Nat} (hk : k ≤ 999) (hl : l ≤ 4) (hq : Q (oRet (vi (nI (plN k l)))) h) : WP G m_X2_placeOf d 0 (aargs 0 [vi (nI k), vi (nI l)]) [] h bc bs Q := by
  have h255 : ((37 * k) ^^^ (k / 8)) &&& 255 ≤ 255 := Nat.and_le_right
  refine wp_sub [(0, vi (nI k)), (1, vi (nI l))] (fun _ hz => hz) ?_
  refine wp_bipush (nI 37) dX2_placeOf_0 (by decide) ?_
  refine wp_iload_n (i := 0) dX2_placeOf_2 rfl rfl ?_
  refine wp_imulN dX2_placeOf_3 ?_
  refine wp_iload_n (i := 0) dX2_placeOf_4 rfl rfl ?_
  refine wp_bipush (nI 8) dX2_placeOf_5 (by decide) ?_
  refine wp_idivN dX2_placeOf_7 (by omega) (by omega) (by omega) ?_
  refine wp_ixor dX2_placeOf_8 ?_
  rw [nx_xor]
  refine wp_sipush (nI 255) dX2_placeOf_9 (by decide) ?_
  refine wp_iand dX2_placeOf_12 ?_
  rw [nx_and]
  refine wp_istore_n (i := 2) (lv' := [(2, vi (nI (((37 * k) ^^^ (k / 8)) &&& 255))), (0, vi (nI k)), (1, vi (nI l))]) dX2_placeOf_13 rfl (by decide) rfl ?_
  refine wp_iload_n (i := 2) dX2_placeOf_14 rfl rfl ?_
  refine wp_iconst (nI 2) dX2_placeOf_15 (by decide) ?_
  refine wp_iload_n (i := 1) dX2_placeOf_16 rfl rfl ?_
  refine wp_imulN dX2_placeOf_17 ?_
  refine wp_ishr dX2_placeOf_18 ?_
  rw [nI_shr (by omega) (by omega)]
  refine wp_iconst (nI 3) dX2_placeOf_19 (by decide) ?_
  refine wp_iand dX2_placeOf_20 ?_
  rw [nx_and]
  refine wp_ireturn dX2_placeOf_21 rfl ?_
  exact hq
/-- the slot of a key -/
def slR (x : KNS) (key : Nat) : Nat → Nat → Int32
  | 0, _ => -1
  | n + 1, i => if kyA x i = nI key then nI i else slR x key n (i + 1)
def slO (x : KNS) (key : Nat) : Int32 := if KN_lev x < 4 then (if kyA x (plN key (KN_lev x)) = nI key then nI (plN key (KN_lev x)) else -1) else slR x key (KN_kc x) 0
set_option maxRecDepth 100000 in
set_option maxHeartbeats 4000000 in
theorem l_X3_slotOf {G : GG} {d bc bs : Nat} {h : Hp} {Q : Pst} {k : Nat} {x : KNS} (hO : KN h k x) (hw : WFN k x) {key : Nat} (hk9 : key ≤ 999) (hd : 2 ≤ d) : ∀ n i, i + n = KN_kc x → Q (oRet (vi (slR x key n i))) h → WP G m_X3_slotOf d 34 [(2, vi (nI i)), (0, vr (some (nm 45 k))), (1, vi (nI key))] [] h bc bs Q := by
  have hF : Fr h h (CNo k) := Fr.rf
  have hkc := hw.2.2.2.2
  intro n
  induction n with
  | zero =>
    intro i hi hq
    refine wp_iload_n (i := 2) dX3_slotOf_34 rfl rfl ?_
    refine wp_aload_n (i := 0) dX3_slotOf_35 rfl rfl ?_
    refine wp_get 5 5 (vi (nI (KN_kc x))) dX3_slotOf_36 hO.k0 (by decide) (by decide) fl_X3_9 (congrArg (fun z => toV (vi z)) (hO.f_kc)) ?_
    refine wp_icmp_geN 59 dX3_slotOf_39 (by decide) (by omega) (by omega) (fun c_39 => ?_) (fun c_39 => absurd c_39 (by omega))
    refine wp_iconst (-1) dX3_slotOf_59 (by decide) ?_
    refine wp_ireturn dX3_slotOf_60 rfl ?_
    exact hq
  | succ n ih =>
    intro i hi hq
    refine wp_iload_n (i := 2) dX3_slotOf_34 rfl rfl ?_
    refine wp_aload_n (i := 0) dX3_slotOf_35 rfl rfl ?_
    refine wp_get 5 5 (vi (nI (KN_kc x))) dX3_slotOf_36 hO.k0 (by decide) (by decide) fl_X3_9 (congrArg (fun z => toV (vi z)) (hO.f_kc)) ?_
    refine wp_icmp_geN 59 dX3_slotOf_39 (by decide) (by omega) (by omega) (fun c_39 => absurd c_39 (by omega)) (fun c_39 => ?_)
    refine wp_aload_n (i := 0) dX3_slotOf_42 rfl rfl ?_
    refine wp_iload_n (i := 2) dX3_slotOf_43 rfl rfl ?_
    refine wp_cV (y' := m_X3_keyAt) 5 [vi (nI i)] [] 0 0 dX3_slotOf_44 ml_X3_45 im_X3_keyAt se_X3_keyAt (by decide) hO.k0 ok_X3_keyAt rfl (Nat.le_of_ble_eq_true rfl) rfl (Nat.le_of_ble_eq_true rfl) (d' := d - 1) (by omega) (Nat.zero_le _) (Nat.zero_le _) (c_X3_keyAt hO hw.1 (p := i) (by omega) (cont_ret ?_))
    refine wp_iload_n (i := 1) dX3_slotOf_47 rfl rfl ?_
    refine wp_icmp_ne 53 dX3_slotOf_48 (by decide) (fun c_48 => ?_) (fun c_48 => ?_)
    · skip
      refine wp_iincN (a := i) (lv' := [(2, vi (nI (i + 1))), (0, vr (some (nm 45 k))), (1, vi (nI key))]) 1 dX3_slotOf_53 rfl (by decide) (by decide) rfl ?_
      refine wp_goto 34 dX3_slotOf_56 (by decide) ?_
      refine wp_sub [(2, vi (nI (i + 1))), (0, vr (some (nm 45 k))), (1, vi (nI key))] (sb_cons (.head _) (sb_cons (.tail _ (.head _)) (sb_cons (.tail _ (.tail _ (.head _))) sb_nil))) ?_
      rw [show slR x key (n + 1) i = slR x key n (i + 1) from if_neg c_48] at hq
      exact ih (i + 1) (by omega) hq
    · skip
      refine wp_iload_n (i := 2) dX3_slotOf_51 rfl rfl ?_
      refine wp_ireturn dX3_slotOf_52 rfl ?_
      rw [show slR x key (n + 1) i = nI i from if_pos c_48] at hq
      exact hq
set_option maxRecDepth 100000 in
set_option maxHeartbeats 4000000 in
theorem c_X3_slotOf {G : GG} {d bc bs : Nat} {h : Hp} {Q : Pst} {k : Nat} {x : KNS} (hO : KN h k x) (hw : WFN k x) {key : Nat} (hk9 : key ≤ 999) (hd : 3 ≤ d) (hq : Q (oRet (vi (slO x key))) h) : WP G m_X3_slotOf d 0 (aargs 0 [vr (some (nm 45 k)), vi (nI key)]) [] h bc bs Q := by
  have hF : Fr h h (CNo k) := Fr.rf
  have hl4 := hw.2.2.2.1
  refine wp_sub [(0, vr (some (nm 45 k))), (1, vi (nI key))] (fun _ hz => hz) ?_
  refine wp_aload_n (i := 0) dX3_slotOf_0 rfl rfl ?_
  refine wp_get 5 0 (vi (nI (KN_lev x))) dX3_slotOf_1 hO.k0 (by decide) (by decide) fl_X3_18 (congrArg (fun z => toV (vi z)) (hO.f_lev)) ?_
  refine wp_iconst (nI 4) dX3_slotOf_4 (by decide) ?_
  refine wp_icmp_geN 32 dX3_slotOf_5 (by decide) (by omega) (by decide) (fun c_5 => ?_) (fun c_5 => ?_)
  · skip
    refine wp_iconst (nI 0) dX3_slotOf_32 (by decide) ?_
    refine wp_istore_n (i := 2) (lv' := [(2, vi (nI 0)), (0, vr (some (nm 45 k))), (1, vi (nI key))]) dX3_slotOf_33 rfl (by decide) rfl ?_
    refine wp_sub [(2, vi (nI 0)), (0, vr (some (nm 45 k))), (1, vi (nI key))] (sb_cons (.head _) (sb_cons (.tail _ (.head _)) (sb_cons (.tail _ (.tail _ (.head _))) sb_nil))) ?_
    rw [show slO x key = slR x key (KN_kc x) 0 from if_neg (by omega)] at hq
    exact l_X3_slotOf hO hw hk9 (by omega) _ 0 (by omega) hq
  · skip
    refine wp_iload_n (i := 1) dX3_slotOf_8 rfl rfl ?_
    refine wp_aload_n (i := 0) dX3_slotOf_9 rfl rfl ?_
    refine wp_get 5 0 (vi (nI (KN_lev x))) dX3_slotOf_10 hO.k0 (by decide) (by decide) fl_X3_18 (congrArg (fun z => toV (vi z)) (hO.f_lev)) ?_
    have hp4 := plN_lt (k := key) (l := KN_lev x)
    refine wp_cS (y' := m_X2_placeOf) [vi (nI key), vi (nI (KN_lev x))] [] 0 0 dX3_slotOf_13 ml_X3_39 st_X2_placeOf ok_X2_placeOf rfl (Nat.le_of_ble_eq_true rfl) rfl (Nat.le_of_ble_eq_true rfl) (d' := d - 1) (by omega) (Nat.zero_le _) (Nat.zero_le _) (c_X2_placeOf hk9 (by omega) (cont_ret ?_))
    refine wp_istore_n (i := 2) (lv' := [(2, vi (nI (plN key (KN_lev x)))), (0, vr (some (nm 45 k))), (1, vi (nI key))]) dX3_slotOf_16 rfl (by decide) rfl ?_
    refine wp_aload_n (i := 0) dX3_slotOf_17 rfl rfl ?_
    refine wp_iload_n (i := 2) dX3_slotOf_18 rfl rfl ?_
    refine wp_cV (y' := m_X3_keyAt) 5 [vi (nI (plN key (KN_lev x)))] [] 0 0 dX3_slotOf_19 ml_X3_45 im_X3_keyAt se_X3_keyAt (by decide) hO.k0 ok_X3_keyAt rfl (Nat.le_of_ble_eq_true rfl) rfl (Nat.le_of_ble_eq_true rfl) (d' := d - 1) (by omega) (Nat.zero_le _) (Nat.zero_le _) (c_X3_keyAt hO hw.1 (p := plN key (KN_lev x)) (by omega) (cont_ret ?_))
    refine wp_iload_n (i := 1) dX3_slotOf_22 rfl rfl ?_
    refine wp_icmp_ne 30 dX3_slotOf_23 (by decide) (fun c_23 => ?_) (fun c_23 => ?_)
    · skip
      refine wp_iconst (-1) dX3_slotOf_30 (by decide) ?_
      refine wp_ireturn dX3_slotOf_31 rfl ?_
      rw [show slO x key = -1 from by unfold slO; rw [if_pos (by omega), if_neg c_23]] at hq
      exact hq
    · skip
      refine wp_iload_n (i := 2) dX3_slotOf_26 rfl rfl ?_
      refine wp_goto 31 dX3_slotOf_27 (by decide) ?_
      refine wp_ireturn dX3_slotOf_31 rfl ?_
      rw [show slO x key = nI (plN key (KN_lev x)) from by unfold slO; rw [if_pos (by omega), if_pos c_23]] at hq
      exact hq
set_option maxRecDepth 100000 in
set_option maxHeartbeats 4000000 in
theorem l_X4_cp1 {G : GG} {d bc bs : Nat} {h : Hp} {Q : Pst} {j k : Nat} {x : KNS} (hJ : KN h j x) (hw : WFN j x) (fk : h_k h (nm 46 k) = 0) {o : Int32} (hd : 3 ≤ d) (hbc : 1 ≤ bc) (hbs : 40 ≤ bs) (hK : ∀ H r bc' bs', (KN_kk x = none → r = none) → (¬ KN_kk x = none → r = some (nm 46 k) ∧ h_k H (nm 46 k) = 101 ∧ h_n H (nm 46 k) = KN_n6 x ∧ ∀ i, i < KN_n6 x → h_I H (nm 46 k) i = KN_ky x i) → (∀ b, b ≠ nm 46 k → ce H b = ce h b) → bc ≤ bc' + 1 → bs ≤ bs' + 40 → WP G m_X4_copyOf d 34 [(3, vr r), (0, vr (some (nm 40 2))), (1, vr (some (nm 45 j))), (2, vi o)] [] H bc' bs' Q) : WP G m_X4_copyOf d 10 [(0, vr (some (nm 40 2))), (1, vr (some (nm 45 j))), (2, vi o)] [] h bc bs Q := by
  rcases hw.1 with hn | ⟨h1, h2, h3⟩
  · refine wp_aload_n (i := 1) dX4_copyOf_10 rfl rfl ?_
    refine wp_get 5 2 (vr none) dX4_copyOf_11 hJ.k0 (by decide) (by decide) fl_X4_26 (congrArg (fun z => toV (vr z)) ((hJ.o_kk).trans hn)) ?_
    refine wp_ifnonnull 21 dX4_copyOf_14 (by decide) (fun a_14 c_14 => absurd c_14 (fun z => nomatch z)) (fun c_14 => ?_)
    refine wp_null dX4_copyOf_17 ?_
    refine wp_goto 33 dX4_copyOf_18 (by decide) ?_
    refine wp_astore_n (i := 3) (lv' := [(3, vr none), (0, vr (some (nm 40 2))), (1, vr (some (nm 45 j))), (2, vi o)]) dX4_copyOf_33 rfl (by decide) rfl ?_
    refine wp_sub [(3, vr none), (0, vr (some (nm 40 2))), (1, vr (some (nm 45 j))), (2, vi o)] (sb_cons (.head _) (sb_cons (.tail _ (.head _)) (sb_cons (.tail _ (.tail _ (.head _))) (sb_cons (.tail _ (.tail _ (.tail _ (.head _)))) sb_nil)))) ?_
    exact hK _ none _ _ (fun _ => rfl) (fun z => absurd hn z) (fun _ _ => rfl) (by omega) (by omega)
  · refine wp_aload_n (i := 1) dX4_copyOf_10 rfl rfl ?_
    refine wp_get 5 2 (vr (some (nm 46 j))) dX4_copyOf_11 hJ.k0 (by decide) (by decide) fl_X4_26 (congrArg (fun z => toV (vr z)) ((hJ.o_kk).trans h1)) ?_
    refine wp_ifnonnull 21 dX4_copyOf_14 (by decide) (fun a_14 c_14 => ?_) (fun c_14 => absurd c_14 (fun z => nomatch z))
    refine wp_aload_n (i := 1) dX4_copyOf_21 rfl rfl ?_
    refine wp_get 5 2 (vr (some (nm 46 j))) dX4_copyOf_22 hJ.k0 (by decide) (by decide) fl_X4_26 (congrArg (fun z => toV (vr z)) ((hJ.o_kk).trans h1)) ?_
    refine wp_aload_n (i := 1) dX4_copyOf_25 rfl rfl ?_
    refine wp_get 5 2 (vr (some (nm 46 j))) dX4_copyOf_26 hJ.k0 (by decide) (by decide) fl_X4_26 (congrArg (fun z => toV (vr z)) ((hJ.o_kk).trans h1)) ?_
    refine wp_alen dX4_copyOf_29 (arTy_101 (hJ.k8.trans h2)) ?_
    rw [hJ.n8]
    refine wp_cS (y' := m_J7_copyOf_59c91) [vr (some (nm 46 j)), vi (nI (KN_n6 x))] [] 1 40 dX4_copyOf_30 ml_X4_30 st_J7_copyOf_59c91 ok_J7_copyOf_59c91 rfl (Nat.le_of_ble_eq_true rfl) rfl (Nat.le_of_ble_eq_true rfl) (d' := d - 1) (by omega) (by omega) (by omega) (c_J7_copyI (hJ.k8.trans h2) (by rw [hJ.n8]; omega) (by omega) fk (by omega) (by omega) (by omega) (fun H1 k1 n1 e1 e2 F1 => cont_ret ?_))
    refine wp_astore_n (i := 3) (lv' := [(3, vr (some (nm 46 k))), (0, vr (some (nm 40 2))), (1, vr (some (nm 45 j))), (2, vi o)]) dX4_copyOf_33 rfl (by decide) rfl ?_
    refine wp_sub [(3, vr (some (nm 46 k))), (0, vr (some (nm 40 2))), (1, vr (some (nm 45 j))), (2, vi o)] (sb_cons (.head _) (sb_cons (.tail _ (.head _)) (sb_cons (.tail _ (.tail _ (.head _))) (sb_cons (.tail _ (.tail _ (.tail _ (.head _)))) sb_nil)))) ?_
    exact hK _ _ _ _ (fun z => by rw [h1] at z; cases z) (fun _ => ⟨rfl, k1, n1, fun i hi => (e1 i (by rw [hJ.n8]; omega)).trans (hJ.a_ky i)⟩) F1 (by omega) (by omega)
set_option maxRecDepth 100000 in
set_option maxHeartbeats 4000000 in
theorem l_X4_cp2 {G : GG} {d bc bs : Nat} {h : Hp} {Q : Pst} {j k : Nat} {x : KNS} (hJ : KN h j x) (hw : WFN j x) {r3 : Option Nat} (fk : h_k h (nm 47 k) = 0) {o : Int32} (hd : 3 ≤ d) (hbc : 1 ≤ bc) (hbs : 40 ≤ bs) (hK : ∀ H r bc' bs', (KN_ke x = none → r = none) → (¬ KN_ke x = none → r = some (nm 47 k) ∧ h_k H (nm 47 k) = 101 ∧ h_n H (nm 47 k) = KN_n7 x ∧ ∀ i, i < KN_n7 x → h_I H (nm 47 k) i = KN_el x i) → (∀ b, b ≠ nm 47 k → ce H b = ce h b) → bc ≤ bc' + 1 → bs ≤ bs' + 40 → WP G m_X4_copyOf d 59 [(4, vr r), (3, vr r3), (0, vr (some (nm 40 2))), (1, vr (some (nm 45 j))), (2, vi o)] [] H bc' bs' Q) : WP G m_X4_copyOf d 34 [(3, vr r3), (0, vr (some (nm 40 2))), (1, vr (some (nm 45 j))), (2, vi o)] [] h bc bs Q := by
  rcases hw.2.1 with hn | ⟨h1, h2, h3⟩
  · refine wp_aload_n (i := 1) dX4_copyOf_34 rfl rfl ?_
    refine wp_get 5 3 (vr none) dX4_copyOf_35 hJ.k0 (by decide) (by decide) fl_X4_34 (congrArg (fun z => toV (vr z)) ((hJ.o_ke).trans hn)) ?_
    refine wp_ifnonnull 45 dX4_copyOf_38 (by decide) (fun a_38 c_38 => absurd c_38 (fun z => nomatch z)) (fun c_38 => ?_)
    refine wp_null dX4_copyOf_41 ?_
    refine wp_goto 57 dX4_copyOf_42 (by decide) ?_
    refine wp_astore (i := 4) (lv' := [(4, vr none), (3, vr r3), (0, vr (some (nm 40 2))), (1, vr (some (nm 45 j))), (2, vi o)]) dX4_copyOf_57 (by decide) rfl ?_
    refine wp_sub [(4, vr none), (3, vr r3), (0, vr (some (nm 40 2))), (1, vr (some (nm 45 j))), (2, vi o)] (sb_cons (.head _) (sb_cons (.tail _ (.head _)) (sb_cons (.tail _ (.tail _ (.head _))) (sb_cons (.tail _ (.tail _ (.tail _ (.head _)))) (sb_cons (.tail _ (.tail _ (.tail _ (.tail _ (.head _))))) sb_nil))))) ?_
    exact hK _ none _ _ (fun _ => rfl) (fun z => absurd hn z) (fun _ _ => rfl) (by omega) (by omega)
  · refine wp_aload_n (i := 1) dX4_copyOf_34 rfl rfl ?_
    refine wp_get 5 3 (vr (some (nm 47 j))) dX4_copyOf_35 hJ.k0 (by decide) (by decide) fl_X4_34 (congrArg (fun z => toV (vr z)) ((hJ.o_ke).trans h1)) ?_
    refine wp_ifnonnull 45 dX4_copyOf_38 (by decide) (fun a_38 c_38 => ?_) (fun c_38 => absurd c_38 (fun z => nomatch z))
    refine wp_aload_n (i := 1) dX4_copyOf_45 rfl rfl ?_
    refine wp_get 5 3 (vr (some (nm 47 j))) dX4_copyOf_46 hJ.k0 (by decide) (by decide) fl_X4_34 (congrArg (fun z => toV (vr z)) ((hJ.o_ke).trans h1)) ?_
    refine wp_aload_n (i := 1) dX4_copyOf_49 rfl rfl ?_
    refine wp_get 5 3 (vr (some (nm 47 j))) dX4_copyOf_50 hJ.k0 (by decide) (by decide) fl_X4_34 (congrArg (fun z => toV (vr z)) ((hJ.o_ke).trans h1)) ?_
    refine wp_alen dX4_copyOf_53 (arTy_101 (hJ.k9.trans h2)) ?_
    rw [hJ.n9]
    refine wp_cS (y' := m_J7_copyOf_59c91) [vr (some (nm 47 j)), vi (nI (KN_n7 x))] [] 1 40 dX4_copyOf_54 ml_X4_30 st_J7_copyOf_59c91 ok_J7_copyOf_59c91 rfl (Nat.le_of_ble_eq_true rfl) rfl (Nat.le_of_ble_eq_true rfl) (d' := d - 1) (by omega) (by omega) (by omega) (c_J7_copyI (hJ.k9.trans h2) (by rw [hJ.n9]; omega) (by omega) fk (by omega) (by omega) (by omega) (fun H1 k1 n1 e1 e2 F1 => cont_ret ?_))
    refine wp_astore (i := 4) (lv' := [(4, vr (some (nm 47 k))), (3, vr r3), (0, vr (some (nm 40 2))), (1, vr (some (nm 45 j))), (2, vi o)]) dX4_copyOf_57 (by decide) rfl ?_
    refine wp_sub [(4, vr (some (nm 47 k))), (3, vr r3), (0, vr (some (nm 40 2))), (1, vr (some (nm 45 j))), (2, vi o)] (sb_cons (.head _) (sb_cons (.tail _ (.head _)) (sb_cons (.tail _ (.tail _ (.head _))) (sb_cons (.tail _ (.tail _ (.tail _ (.head _)))) (sb_cons (.tail _ (.tail _ (.tail _ (.tail _ (.head _))))) sb_nil))))) ?_
    exact hK _ _ _ _ (fun z => by rw [h1] at z; cases z) (fun _ => ⟨rfl, k1, n1, fun i hi => (e1 i (by rw [hJ.n9]; omega)).trans (hJ.a_el i)⟩) F1 (by omega) (by omega)
set_option maxRecDepth 100000 in
set_option maxHeartbeats 4000000 in
theorem l_X4_cp3 {G : GG} {d bc bs : Nat} {h : Hp} {Q : Pst} {j k : Nat} {x : KNS} (hJ : KN h j x) (hw : WFN j x) {r3 r4 : Option Nat} (fk : h_k h (nm 48 k) = 0) {o : Int32} (hd : 3 ≤ d) (hbc : 1 ≤ bc) (hbs : 4 ≤ bs) (hK : ∀ H r bc' bs', (KN_kb x = none → r = none) → (¬ KN_kb x = none → r = some (nm 48 k) ∧ h_k H (nm 48 k) = 116 ∧ h_n H (nm 48 k) = 4) → (∀ b, b ≠ nm 48 k → ce H b = ce h b) → bc ≤ bc' + 1 → bs ≤ bs' + 4 → WP G m_X4_copyOf d 76 [(5, vr r), (4, vr r4), (3, vr r3), (0, vr (some (nm 40 2))), (1, vr (some (nm 45 j))), (2, vi o)] [] H bc' bs' Q) : WP G m_X4_copyOf d 59 [(4, vr r4), (3, vr r3), (0, vr (some (nm 40 2))), (1, vr (some (nm 45 j))), (2, vi o)] [] h bc bs Q := by
  rcases hw.2.2.1 with hn | ⟨h1, h2, h3⟩
  · refine wp_aload_n (i := 1) dX4_copyOf_59 rfl rfl ?_
    refine wp_get 5 4 (vr none) dX4_copyOf_60 hJ.k0 (by decide) (by decide) fl_X4_37 (congrArg (fun z => toV (vr z)) ((hJ.o_kb).trans hn)) ?_
    refine wp_ifnonnull 70 dX4_copyOf_63 (by decide) (fun a_63 c_63 => absurd c_63 (fun z => nomatch z)) (fun c_63 => ?_)
    refine wp_null dX4_copyOf_66 ?_
    refine wp_goto 74 dX4_copyOf_67 (by decide) ?_
    refine wp_astore (i := 5) (lv' := [(5, vr none), (4, vr r4), (3, vr r3), (0, vr (some (nm 40 2))), (1, vr (some (nm 45 j))), (2, vi o)]) dX4_copyOf_74 (by decide) rfl ?_
    refine wp_sub [(5, vr none), (4, vr r4), (3, vr r3), (0, vr (some (nm 40 2))), (1, vr (some (nm 45 j))), (2, vi o)] (sb_cons (.head _) (sb_cons (.tail _ (.head _)) (sb_cons (.tail _ (.tail _ (.head _))) (sb_cons (.tail _ (.tail _ (.tail _ (.head _)))) (sb_cons (.tail _ (.tail _ (.tail _ (.tail _ (.head _))))) (sb_cons (.tail _ (.tail _ (.tail _ (.tail _ (.tail _ (.head _)))))) sb_nil)))))) ?_
    exact hK _ none _ _ (fun _ => rfl) (fun z => absurd hn z) (fun _ _ => rfl) (by omega) (by omega)
  · refine wp_aload_n (i := 1) dX4_copyOf_59 rfl rfl ?_
    refine wp_get 5 4 (vr (some (nm 48 j))) dX4_copyOf_60 hJ.k0 (by decide) (by decide) fl_X4_37 (congrArg (fun z => toV (vr z)) ((hJ.o_kb).trans h1)) ?_
    refine wp_ifnonnull 70 dX4_copyOf_63 (by decide) (fun a_63 c_63 => ?_) (fun c_63 => absurd c_63 (fun z => nomatch z))
    refine wp_iconst (nI 4) dX4_copyOf_70 (by decide) ?_
    refine wp_anewarray 116 4 dX4_copyOf_71 rfl (by decide) kl_X4_15 (nI_nn (by omega)) (nI_clamp (by omega)) (by omega) (by omega) (by omega) (nm 48 k) fk ?_
    refine wp_astore (i := 5) (lv' := [(5, vr (some (nm 48 k))), (4, vr r4), (3, vr r3), (0, vr (some (nm 40 2))), (1, vr (some (nm 45 j))), (2, vi o)]) dX4_copyOf_74 (by decide) rfl ?_
    refine wp_sub [(5, vr (some (nm 48 k))), (4, vr r4), (3, vr r3), (0, vr (some (nm 40 2))), (1, vr (some (nm 45 j))), (2, vi o)] (sb_cons (.head _) (sb_cons (.tail _ (.head _)) (sb_cons (.tail _ (.tail _ (.head _))) (sb_cons (.tail _ (.tail _ (.tail _ (.head _)))) (sb_cons (.tail _ (.tail _ (.tail _ (.tail _ (.head _))))) (sb_cons (.tail _ (.tail _ (.tail _ (.tail _ (.tail _ (.head _)))))) sb_nil)))))) ?_
    exact hK _ _ _ _ (fun z => by rw [h1] at z; cases z) (fun _ => ⟨rfl, by rw [gk_mk, if_pos rfl], by rw [gn_mk, if_pos rfl]⟩) (fun b hb => ce_mk hb) (by omega) (by omega)
set_option maxRecDepth 100000 in
set_option maxHeartbeats 4000000 in
theorem l_X4_cp4 {G : GG} {d bc bs : Nat} {Q : Pst} {h0 : Hp} {j k : Nat} {x : KNS} (hJ0 : KN h0 j x) (hw : WFN j x) (hjk : j ≠ k) (hd : 3 ≤ d) (hch : ∀ p v, chAq x p = some v → h_k h0 v = 6 ∧ ¬ CNo k v) {y0 : KNS} (hq : ∀ h', KN h' k (KN_ukc (cpL x 4 0 y0) (KN_kc x)) → Fr h0 h' (CNo k) → Q (oRet (vr (some (nm 45 k)))) h') : ∀ n i H y, i + n = 4 → cpL x n i y = cpL x 4 0 y0 → WKb k y → KN H k y → Fr h0 H (CNo k) → WP G m_X4_copyOf d 98 [(7, vi (nI i)), (1, vr (some (nm 45 j))), (6, vr (some (nm 45 k)))] [] H bc bs Q := by
  have hkc := hw.2.2.2.2
  intro n
  induction n with
  | zero =>
    intro i H y hi hc hb hO hF
    have hc : y = cpL x 4 0 y0 := hc
    refine wp_iload (i := 7) dX4_copyOf_98 rfl ?_
    refine wp_iconst (nI 4) dX4_copyOf_100 (by decide) ?_
    refine wp_icmp_geN 123 dX4_copyOf_101 (by decide) (by omega) (by decide) (fun c_101 => ?_) (fun c_101 => absurd c_101 (by omega))
    refine wp_aload (i := 6) dX4_copyOf_123 rfl ?_
    refine wp_aload_n (i := 1) dX4_copyOf_125 rfl rfl ?_
    refine wp_get 5 5 (vi (nI (KN_kc x))) dX4_copyOf_126 ((ce_k (hF (nm 45 j) (CNo_n (by omega) (by decide)))).trans hJ0.k0) (by decide) (by decide) fl_X4_53 (congrArg (fun z => toV (vi z)) ((congrFun (ce_I (hF (nm 45 j) (CNo_n (by omega) (by decide)))) 5).trans (hJ0.f_kc))) ?_
    refine wp_putI 5 5 dX4_copyOf_129 hO.k0 (by decide) (by decide) (by decide) fl_X4_53 rfl (fun _ _ => rfl) rfl rfl ?_
    have hO1 := hO.wkc (v := (KN_kc x))
    have hF2 := hF.wI (b := nm 45 k) (k := 5) (x := nI ((KN_kc x))) (by unfold CNo nm; omega)
    refine wp_aload (i := 6) dX4_copyOf_132 rfl ?_
    refine wp_areturn dX4_copyOf_134 rfl (Or.inl ⟨_, rfl⟩) ?_
    rw [← hc] at hq
    exact hq _ hO1 hF2
  | succ n ih =>
    intro i H y hi hc hb hO hF
    have hJ := hJ0.frm (hF _ (CNo_n (by omega) (by decide))) (hF _ (CNo_n (by omega) (by decide))) (hF _ (CNo_n (by omega) (by decide))) (hF _ (CNo_n (by omega) (by decide)))
    refine wp_iload (i := 7) dX4_copyOf_98 rfl ?_
    refine wp_iconst (nI 4) dX4_copyOf_100 (by decide) ?_
    refine wp_icmp_geN 123 dX4_copyOf_101 (by decide) (by omega) (by decide) (fun c_101 => absurd c_101 (by omega)) (fun c_101 => ?_)
    refine wp_aload (i := 6) dX4_copyOf_104 rfl ?_
    refine wp_iload (i := 7) dX4_copyOf_106 rfl ?_
    refine wp_aload_n (i := 1) dX4_copyOf_108 rfl rfl ?_
    refine wp_iload (i := 7) dX4_copyOf_109 rfl ?_
    refine wp_cV (y' := m_X3_childAt) 5 [vi (nI i)] [vi (nI i), vr (some (nm 45 k))] 0 0 dX4_copyOf_111 ml_X4_45 im_X3_childAt se_X3_childAt (by decide) ((ce_k (hF (nm 45 j) (CNo_n (by omega) (by decide)))).trans hJ0.k0) ok_X3_childAt rfl (Nat.le_of_ble_eq_true rfl) rfl (Nat.le_of_ble_eq_true rfl) (d' := d - 1) (by omega) (Nat.zero_le _) (Nat.zero_le _) (c_X3_childAt hJ hw.2.2.1 (by omega) (cont_ret ?_))
    refine wp_cV (y' := m_X3_putChild) 5 [vi (nI i), vr (chAq x i)] [] 0 0 dX4_copyOf_114 ml_X4_49 im_X3_putChild se_X3_putChild (by decide) hO.k0 ok_X3_putChild rfl (Nat.le_of_ble_eq_true rfl) rfl (Nat.le_of_ble_eq_true rfl) (d' := d - 1) (by omega) (Nat.zero_le _) (Nat.zero_le _) (c_X3_putChild hO hb (by omega) (fun v hv => (ce_k (hF v (hch i v hv).2)).trans (hch i v hv).1) (fun h1 O1 F1 => cont_void ?_))
    refine wp_iincN (a := i) (lv' := [(7, vi (nI (i + 1))), (1, vr (some (nm 45 j))), (6, vr (some (nm 45 k)))]) 1 dX4_copyOf_117 rfl (by decide) (by decide) rfl ?_
    refine wp_goto 98 dX4_copyOf_120 (by decide) ?_
    refine wp_sub [(7, vi (nI (i + 1))), (1, vr (some (nm 45 j))), (6, vr (some (nm 45 k)))] (sb_cons (.head _) (sb_cons (.tail _ (.head _)) (sb_cons (.tail _ (.tail _ (.head _))) sb_nil))) ?_
    exact ih (i + 1) _ _ (by omega) hc (by unfold puC; split <;> exact hb) O1 (hF.tr F1)
theorem CPx.of {H : Hp} {j k : Nat} {x : KNS} {o : Int32} {r3 r4 r5 : Option Nat} (hw : WFN j x)
    (k1 : KN_kk x = none → r3 = none) (k2 : ¬ KN_kk x = none → r3 = some (nm 46 k) ∧ h_k H (nm 46 k) = 101 ∧ h_n H (nm 46 k) = KN_n6 x ∧ ∀ i, i < KN_n6 x → h_I H (nm 46 k) i = KN_ky x i)
    (k3 : KN_ke x = none → r4 = none) (k4 : ¬ KN_ke x = none → r4 = some (nm 47 k) ∧ h_k H (nm 47 k) = 101 ∧ h_n H (nm 47 k) = KN_n7 x ∧ ∀ i, i < KN_n7 x → h_I H (nm 47 k) i = KN_el x i)
    (k5 : KN_kb x = none → r5 = none) (k6 : ¬ KN_kb x = none → r5 = some (nm 48 k) ∧ h_k H (nm 48 k) = 116 ∧ h_n H (nm 48 k) = 4) :
    CPx k o x (KN_ukc (cpL x 4 0 (knx H k (KN_lev x) o r3 r4 r5)) (KN_kc x)) := by
  by_cases hb : KN_kb x = none
  · have e5 := k5 hb
    rw [cpL_n 4 0 _ (show KN_kb (knx H k (KN_lev x) o r3 r4 r5) = none from e5)]
    exact ⟨rfl, rfl, rfl, rfl, k1, k2, k3, k4, fun _ => e5, fun z => absurd hb z⟩
  · obtain ⟨e5, e6, e7⟩ := k6 hb
    rw [cpL_s 4 0 _ (show ¬ KN_kb (knx H k (KN_lev x) o r3 r4 r5) = none by show ¬ r5 = none; rw [e5]; exact fun z => nomatch z)]
    refine ⟨rfl, rfl, rfl, rfl, k1, k2, k3, k4, fun z => absurd z hb, fun _ => ⟨e5, e6, e7, fun p hp => ?_⟩⟩
    show (if 0 ≤ p ∧ p < 0 + 4 then chAq x p else _) = _
    rw [if_pos (by omega)]
    unfold chAq
    rw [if_neg hb, if_pos hp]
set_option maxRecDepth 100000 in
set_option maxHeartbeats 4000000 in
theorem l_X4_cp5 {G : GG} {d bc bs : Nat} {h : Hp} {Q : Pst} {j k : Nat} {x : KNS} (hJ : KN h j x) (hw : WFN j x) (hjk : j ≠ k) {r3 r4 r5 : Option Nat} {o : Int32} (fk : h_k h (nm 45 k) = 0) (hd : 3 ≤ d) (hbc : 1 ≤ bc) (hbs : 7 ≤ bs) (hch : ∀ p v, chAq x p = some v → h_k h v = 6 ∧ ¬ CNo k v) (h5 : r5 = none ∨ (r5 = some (nm 48 k) ∧ h_k h (nm 48 k) = 116 ∧ h_n h (nm 48 k) = 4)) (hq : ∀ h', KN h' k (KN_ukc (cpL x 4 0 (knx h k (KN_lev x) o r3 r4 r5)) (KN_kc x)) → Fr h h' (CNo k) → Q (oRet (vr (some (nm 45 k)))) h') : WP G m_X4_copyOf d 76 [(5, vr r5), (4, vr r4), (3, vr r3), (1, vr (some (nm 45 j))), (2, vi o)] [] h bc bs Q := by
  have hl4 := hw.2.2.2.1
  refine wp_new 5 dX4_copyOf_76 (by decide) kl_X4_15 ins_X3 ini_X3 (by omega) (by show 7 ≤ _; omega) (nm 45 k) fk ?_
  refine wp_dup dX4_copyOf_79 ?_
  refine wp_aload_n (i := 1) dX4_copyOf_80 rfl rfl ?_
  refine wp_get 5 0 (vi (nI (KN_lev x))) dX4_copyOf_81 (hJ.frm (ce_mk (nm_nei hjk)) (ce_mk (nm_ne (by decide) (by decide) (by decide))) (ce_mk (nm_ne (by decide) (by decide) (by decide))) (ce_mk (nm_ne (by decide) (by decide) (by decide)))).k0 (by decide) (by decide) fl_X4_41 (congrArg (fun z => toV (vi z)) ((hJ.frm (ce_mk (nm_nei hjk)) (ce_mk (nm_ne (by decide) (by decide) (by decide))) (ce_mk (nm_ne (by decide) (by decide) (by decide))) (ce_mk (nm_ne (by decide) (by decide) (by decide)))).f_lev)) ?_
  refine wp_iload_n (i := 2) dX4_copyOf_84 rfl rfl ?_
  refine wp_aload_n (i := 3) dX4_copyOf_85 rfl rfl ?_
  refine wp_aload (i := 4) dX4_copyOf_86 rfl ?_
  refine wp_aload (i := 5) dX4_copyOf_88 rfl ?_
  refine wp_cI (y' := m_X3_init) [vi (nI (KN_lev x)), vi o, vr r3, vr r4, vr r5] [vr (some (nm 45 k))] 0 0 dX4_copyOf_90 ml_X4_17 im_X3_init rfl rfl ok_X3_init rfl (Nat.le_of_ble_eq_true rfl) rfl (Nat.le_of_ble_eq_true rfl) (d' := d - 1) (by omega) (Nat.zero_le _) (Nat.zero_le _) (c_X3_init (k := k) (lev := KN_lev x) (by rw [gk_mk, if_pos rfl]) (by omega) (fun h3 K3 F3 => cont_void ?_))
  refine wp_astore (i := 6) (lv' := [(6, vr (some (nm 45 k))), (5, vr r5), (4, vr r4), (3, vr r3), (1, vr (some (nm 45 j))), (2, vi o)]) dX4_copyOf_93 (by decide) rfl ?_
  refine wp_iconst (nI 0) dX4_copyOf_95 (by decide) ?_
  refine wp_istore (i := 7) (lv' := [(7, vi (nI 0)), (6, vr (some (nm 45 k))), (5, vr r5), (4, vr r4), (3, vr r3), (1, vr (some (nm 45 j))), (2, vi o)]) dX4_copyOf_96 (by decide) rfl ?_
  refine wp_sub [(7, vi (nI 0)), (1, vr (some (nm 45 j))), (6, vr (some (nm 45 k)))] (sb_cons (.head _) (sb_cons (.tail _ (.tail _ (.tail _ (.tail _ (.tail _ (.head _)))))) (sb_cons (.tail _ (.head _)) sb_nil))) ?_
  have e9 : knx (mk h (nm 45 k) 6 0) k (KN_lev x) o r3 r4 r5 = knx h k (KN_lev x) o r3 r4 r5 := by unfold knx; rw [gk_mk, gk_mk, gk_mk, gn_mk, gn_mk, gn_mk, if_neg (nm_ne (by decide) (by decide) (by decide)), if_neg (nm_ne (by decide) (by decide) (by decide)), if_neg (nm_ne (by decide) (by decide) (by decide)), if_neg (nm_ne (by decide) (by decide) (by decide)), if_neg (nm_ne (by decide) (by decide) (by decide)), if_neg (nm_ne (by decide) (by decide) (by decide))]; rw [show h_I (mk h (nm 45 k) 6 0) (nm 46 k) = h_I h (nm 46 k) from ce_I (ce_mk (nm_ne (by decide) (by decide) (by decide))), show h_I (mk h (nm 45 k) 6 0) (nm 47 k) = h_I h (nm 47 k) from ce_I (ce_mk (nm_ne (by decide) (by decide) (by decide))), show h_R (mk h (nm 45 k) 6 0) (nm 48 k) = h_R h (nm 48 k) from ce_R (ce_mk (nm_ne (by decide) (by decide) (by decide)))]
  rw [e9] at K3
  have F4 : Fr h h3 (CNo k) := fun a ha => (F3 a (fun e => ha (by rw [e]; unfold CNo nm; omega))).trans (ce_mk (fun e => ha (by rw [e]; unfold CNo nm; omega)))
  exact l_X4_cp4 hJ hw hjk hd hch hq 4 0 _ _ rfl rfl (h5.elim (fun z => Or.inl z) (fun z => Or.inr z)) K3 F4
/-- free for a node -/
def FrN (h : Hp) (k : Nat) : Prop := h_k h (nm 45 k) = 0 ∧ h_k h (nm 46 k) = 0 ∧ h_k h (nm 47 k) = 0 ∧ h_k h (nm 48 k) = 0
theorem FrN.frm {h h' : Hp} {k : Nat} (H : FrN h k) (e : ∀ r, 45 ≤ r → r ≤ 48 → ce h' (nm r k) = ce h (nm r k)) : FrN h' k := ⟨(ce_k (e 45 (by decide) (by decide))).trans H.1, (ce_k (e 46 (by decide) (by decide))).trans H.2.1, (ce_k (e 47 (by decide) (by decide))).trans H.2.2.1, (ce_k (e 48 (by decide) (by decide))).trans H.2.2.2⟩
set_option maxRecDepth 100000 in
set_option maxHeartbeats 4000000 in
theorem c_X4_copyOf {G : GG} {d bc bs : Nat} {h : Hp} {Q : Pst} {j k : Nat} {x : KNS} (hJ : KN h j x) (hw : WFN j x) {c : Nat} {o : Int32} (hM : MKR h c) (hc : c < 1000000) (hjk : j ≠ k) (hf : FrN h k) (hch : ∀ p v, chAq x p = some v → h_k h v = 6 ∧ ¬ CNo k v) (hd : 4 ≤ d) (hbc : 4 ≤ bc) (hbs : 91 ≤ bs) (hq : ∀ h' x', KN h' k x' → CPx k o x x' → MKR h' (c + 1) → Fr h h' (W1 k) → Q (oRet (vr (some (nm 45 k)))) h') : WP G m_X4_copyOf d 0 (aargs 0 [vr (some (nm 40 2)), vr (some (nm 45 j)), vi o]) [] h bc bs Q := by
  refine wp_sub [(0, vr (some (nm 40 2))), (1, vr (some (nm 45 j))), (2, vi o)] (fun _ hz => hz) ?_
  refine wp_aload_n (i := 0) dX4_copyOf_0 rfl rfl ?_
  refine wp_dup dX4_copyOf_1 ?_
  refine wp_get 6 0 (vl ((nI c).toInt64)) dX4_copyOf_2 hM.1 (by decide) (by decide) fl_X4_9 (congrArg (fun z => toV (vl z)) (hM.2)) ?_
  refine wp_lconst (1) dX4_copyOf_5 (by decide) ?_
  refine wp_ladd dX4_copyOf_6 ?_
  refine wp_putL 6 0 dX4_copyOf_7 hM.1 (by decide) (by decide) (by decide) fl_X4_9 rfl (fun _ _ => rfl) rfl rfl ?_
  have q0 : ∀ b, b ≠ nm 40 2 → ce (wL h (nm 40 2) 0 ((nI c).toInt64 + 1)) b = ce h b := fun b hb => ce_wL hb
  have J0 := hJ.frm (q0 _ (nm_ne (by decide) (by decide) (by decide))) (q0 _ (nm_ne (by decide) (by decide) (by decide))) (q0 _ (nm_ne (by decide) (by decide) (by decide))) (q0 _ (nm_ne (by decide) (by decide) (by decide)))
  have M0 := hM.s (by omega)
  refine wp_sub [(0, vr (some (nm 40 2))), (1, vr (some (nm 45 j))), (2, vi o)] (sb_cons (.head _) (sb_cons (.tail _ (.head _)) (sb_cons (.tail _ (.tail _ (.head _))) sb_nil))) ?_
  refine l_X4_cp1 (k := k) J0 hw hf.2.1 (by omega) (by omega) (by omega) (fun H1 r3 b1 s1 x1 y1 q1 hb1 hs1 => ?_)
  have J1 := J0.frm (q1 _ (nm_ne (by decide) (by decide) (by decide))) (q1 _ (nm_nei hjk)) (q1 _ (nm_ne (by decide) (by decide) (by decide))) (q1 _ (nm_ne (by decide) (by decide) (by decide)))
  refine l_X4_cp2 (k := k) J1 hw ((ce_k (q1 _ (nm_ne (by decide) (by decide) (by decide)))).trans hf.2.2.1) (by omega) (by omega) (by omega) (fun H2 r4 b2 s2 x2 y2 q2 hb2 hs2 => ?_)
  have J2 := J1.frm (q2 _ (nm_ne (by decide) (by decide) (by decide))) (q2 _ (nm_ne (by decide) (by decide) (by decide))) (q2 _ (nm_nei hjk)) (q2 _ (nm_ne (by decide) (by decide) (by decide)))
  refine l_X4_cp3 (k := k) J2 hw ((ce_k (q2 _ (nm_ne (by decide) (by decide) (by decide)))).trans ((ce_k (q1 _ (nm_ne (by decide) (by decide) (by decide)))).trans hf.2.2.2)) (by omega) (by omega) (by omega) (fun H3 r5 b3 s3 x3 y3 q3 hb3 hs3 => ?_)
  have J3 := J2.frm (q3 _ (nm_ne (by decide) (by decide) (by decide))) (q3 _ (nm_ne (by decide) (by decide) (by decide))) (q3 _ (nm_ne (by decide) (by decide) (by decide))) (q3 _ (nm_nei hjk))
  have qa : ∀ b, b ≠ nm 40 2 → b ≠ nm 46 k → b ≠ nm 47 k → b ≠ nm 48 k → ce H3 b = ce h b := fun b h0 h1 h2 h3 => (q3 b h3).trans ((q2 b h2).trans ((q1 b h1).trans (q0 b h0)))
  refine wp_sub [(5, vr r5), (4, vr r4), (3, vr r3), (1, vr (some (nm 45 j))), (2, vi o)] (sb_cons (.head _) (sb_cons (.tail _ (.head _)) (sb_cons (.tail _ (.tail _ (.head _))) (sb_cons (.tail _ (.tail _ (.tail _ (.tail _ (.head _))))) (sb_cons (.tail _ (.tail _ (.tail _ (.tail _ (.tail _ (.head _)))))) sb_nil))))) ?_
  refine l_X4_cp5 J3 hw hjk ((ce_k (qa _ (nm_ne (by decide) (by decide) (by decide)) (nm_ne (by decide) (by decide) (by decide)) (nm_ne (by decide) (by decide) (by decide)) (nm_ne (by decide) (by decide) (by decide)))).trans hf.1) (by omega) (by omega) (by omega) (fun p v hv => ?_) ?_ (fun H4 K4 F4 => ?_)
  · obtain ⟨z1, z2⟩ := hch p v hv
    refine ⟨(ce_k (qa v (fun e => by rw [e, hM.1] at z1; cases z1) (fun e => z2 (by rw [e]; unfold CNo nm; omega)) (fun e => z2 (by rw [e]; unfold CNo nm; omega)) (fun e => z2 (by rw [e]; unfold CNo nm; omega)))).trans z1, z2⟩
  · by_cases e : KN_kb x = none
    · exact Or.inl (x3 e)
    · exact Or.inr (y3 e)
  · have z6 : ∀ f, r3 = f → r3 = f := fun _ z => z
    have w3 : ce H3 (nm 46 k) = ce H1 (nm 46 k) := (q3 _ (nm_ne (by decide) (by decide) (by decide))).trans (q2 _ (nm_ne (by decide) (by decide) (by decide)))
    have w4 : ce H3 (nm 47 k) = ce H2 (nm 47 k) := q3 _ (nm_ne (by decide) (by decide) (by decide))
    have C := CPx.of (H := H3) (k := k) (o := o) hw x1 (fun z => ⟨(y1 z).1, (ce_k w3).trans (y1 z).2.1, (ce_n w3).trans (y1 z).2.2.1, fun i hi => by rw [ce_I w3]; exact (y1 z).2.2.2 i hi⟩) x2 (fun z => ⟨(y2 z).1, (ce_k w4).trans (y2 z).2.1, (ce_n w4).trans (y2 z).2.2.1, fun i hi => by rw [ce_I w4]; exact (y2 z).2.2.2 i hi⟩) x3 y3
    have em : ce H4 (nm 40 2) = ce (wL h (nm 40 2) 0 ((nI c).toInt64 + 1)) (nm 40 2) := (F4 _ (CNo_n (by omega) (by decide))).trans ((q3 _ (nm_ne (by decide) (by decide) (by decide))).trans ((q2 _ (nm_ne (by decide) (by decide) (by decide))).trans (q1 _ (nm_ne (by decide) (by decide) (by decide)))))
    exact hq _ _ K4 C (M0.frm em) (fun a ha => (F4 a (fun z => ha (Or.inl z))).trans (qa a (fun z => ha (Or.inr z)) (fun z => ha (Or.inl (by rw [z]; unfold CNo nm; omega))) (fun z => ha (Or.inl (by rw [z]; unfold CNo nm; omega))) (fun z => ha (Or.inl (by rw [z]; unfold CNo nm; omega)))))
set_option maxRecDepth 100000 in
set_option maxHeartbeats 4000000 in
theorem c_X4_ownOrCopy {G : GG} {d bc bs : Nat} {h : Hp} {Q : Pst} {j k : Nat} {x : KNS} (hJ : KN h j x) (hw : WFN j x) {c : Nat} {o : Int32} (hM : MKR h c) (hc : c < 1000000) (hjk : ¬ (¬ o = -1 ∧ KN_own x = o) → j ≠ k) (hf : ¬ (¬ o = -1 ∧ KN_own x = o) → FrN h k) (hch : ¬ (¬ o = -1 ∧ KN_own x = o) → ∀ p v, chAq x p = some v → h_k h v = 6 ∧ ¬ CNo k v) (hd : 5 ≤ d) (hbc : 4 ≤ bc) (hbs : 91 ≤ bs) (hqo : ¬ o = -1 ∧ KN_own x = o → Q (oRet (vr (some (nm 45 j)))) h) (hq : ¬ (¬ o = -1 ∧ KN_own x = o) → ∀ h' x', KN h' k x' → CPx k o x x' → MKR h' (c + 1) → Fr h h' (W1 k) → Q (oRet (vr (some (nm 45 k)))) h') : WP G m_X4_ownOrCopy d 0 (aargs 0 [vr (some (nm 40 2)), vr (some (nm 45 j)), vi o]) [] h bc bs Q := by
  refine wp_sub [(0, vr (some (nm 40 2))), (1, vr (some (nm 45 j))), (2, vi o)] (fun _ hz => hz) ?_
  refine wp_iload_n (i := 2) dX4_ownOrCopy_0 rfl rfl ?_
  refine wp_iconst (-1) dX4_ownOrCopy_1 (by decide) ?_
  refine wp_icmp_eq 17 dX4_ownOrCopy_2 (by decide) (fun c_2 => ?_) (fun c_2 => ?_)
  · skip
    refine wp_aload_n (i := 0) dX4_ownOrCopy_17 rfl rfl ?_
    refine wp_aload_n (i := 1) dX4_ownOrCopy_18 rfl rfl ?_
    refine wp_iload_n (i := 2) dX4_ownOrCopy_19 rfl rfl ?_
    have hno : ¬ (¬ o = -1 ∧ KN_own x = o) := fun z => z.1 c_2
    refine wp_cV (y' := m_X4_copyOf) 6 [vr (some (nm 45 j)), vi o] [] 4 91 dX4_ownOrCopy_20 ml_X4_59 im_X4_copyOf se_X4_copyOf (by decide) hM.1 ok_X4_copyOf rfl (Nat.le_of_ble_eq_true rfl) rfl (Nat.le_of_ble_eq_true rfl) (d' := d - 1) (by omega) (by omega) (by omega) (c_X4_copyOf (k := k) hJ hw hM hc (hjk hno) (hf hno) (hch hno) (by omega) (by omega) (by omega) (fun h1 x1 K1 C1 M1 F1 => cont_ret ?_))
    refine wp_areturn dX4_ownOrCopy_23 rfl (Or.inl ⟨_, rfl⟩) ?_
    exact hq hno _ _ K1 C1 M1 F1
  · skip
    refine wp_aload_n (i := 1) dX4_ownOrCopy_5 rfl rfl ?_
    refine wp_get 5 1 (vi (KN_own x)) dX4_ownOrCopy_6 hJ.k0 (by decide) (by decide) fl_X4_56 (congrArg (fun z => toV (vi z)) (hJ.f_own)) ?_
    refine wp_iload_n (i := 2) dX4_ownOrCopy_9 rfl rfl ?_
    refine wp_icmp_ne 17 dX4_ownOrCopy_10 (by decide) (fun c_10 => ?_) (fun c_10 => ?_)
    · skip
      refine wp_aload_n (i := 0) dX4_ownOrCopy_17 rfl rfl ?_
      refine wp_aload_n (i := 1) dX4_ownOrCopy_18 rfl rfl ?_
      refine wp_iload_n (i := 2) dX4_ownOrCopy_19 rfl rfl ?_
      have hno : ¬ (¬ o = -1 ∧ KN_own x = o) := fun z => c_10 z.2
      refine wp_cV (y' := m_X4_copyOf) 6 [vr (some (nm 45 j)), vi o] [] 4 91 dX4_ownOrCopy_20 ml_X4_59 im_X4_copyOf se_X4_copyOf (by decide) hM.1 ok_X4_copyOf rfl (Nat.le_of_ble_eq_true rfl) rfl (Nat.le_of_ble_eq_true rfl) (d' := d - 1) (by omega) (by omega) (by omega) (c_X4_copyOf (k := k) hJ hw hM hc (hjk hno) (hf hno) (hch hno) (by omega) (by omega) (by omega) (fun h1 x1 K1 C1 M1 F1 => cont_ret ?_))
      refine wp_areturn dX4_ownOrCopy_23 rfl (Or.inl ⟨_, rfl⟩) ?_
      exact hq hno _ _ K1 C1 M1 F1
    · skip
      refine wp_aload_n (i := 1) dX4_ownOrCopy_13 rfl rfl ?_
      refine wp_goto 23 dX4_ownOrCopy_14 (by decide) ?_
      refine wp_areturn dX4_ownOrCopy_23 rfl (Or.inl ⟨_, rfl⟩) ?_
      exact hqo ⟨c_2, c_10⟩
