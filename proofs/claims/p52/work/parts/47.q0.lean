/-! Lists of rows of ints, with their capacity: what growing costs. -/
/-- the capacity behind n, when a full row grows -/
def gcap (n : Nat) : Nat := if n = 0 then 10 else n + max 1 (n / 2)
def gcC (n c : Nat) : Nat := if n = c then 1 else 0
def gcS (n c : Nat) : Nat := if n = c then 10 + 2 * n else 0
def gcN (n c : Nat) : Nat := if n = c then gcap n else c
theorem gcC_t {n c : Nat} (h : n = c) : gcC n c = 1 := if_pos h
theorem gcS_t {n c : Nat} (h : n = c) : gcS n c = 10 + 2 * n := if_pos h
set_option maxRecDepth 100000 in
set_option maxHeartbeats 4000000 in
theorem c_AL_grow2C {G : GG} {d bc bs : Nat} {h : Hp} {Q : Pst} {l ρ i g n D : Nat} {f : Nat → Nat} (A : AL h l ρ i g n D f) (hful : n = h_n h D) (hn : n < 20000) (hd : 4 ≤ d) (hbc : 1 ≤ bc) (hbs : 10 + 2 * n ≤ bs) (hq : ∀ h' g' q, AL h' l ρ i g' n q f → h_n h' q = gcap n → (∀ a, a ≠ l → (∀ z, a ≠ nm ρ (16 * z + i)) → ce h' a = ce h a) → h_I h' l = h_I h l → Q (oRet (vr (some q))) h') : WP G m_Jx4a65c_grow_92f84 d 0 (aargs 0 [vr (some l), vi (nI (n + 1))]) [] h bc bs Q := by
  refine wp_sub [(0, vr (some l)), (1, vi (nI (n + 1)))] (fun _ hz => hz) ?_
  obtain ⟨q, hqq⟩ : ∃ q, q = nm ρ (16 * g + i) := ⟨_, rfl⟩
  have hq0 : h_k h q = 0 := by rw [hqq]; exact A.fr
  have hql : l ≠ q := kne hq0 (by rw [A.k]; decide)
  have hnz : ∀ a, (∀ z, a ≠ nm ρ (16 * z + i)) → a ≠ q := fun a ha e => ha g (e.trans hqq)
  have hDq : D ≠ q := kne hq0 (by rw [A.dk]; decide)
  have hN : h_n h D = n := hful.symm
  have hkl : h_k h l = 3 := A.k
  refine wp_aload_n (i := 0) dJx4a65c_grow_92f84_0 rfl rfl ?_
  refine wp_get 2 1 (vr (some D)) dJx4a65c_grow_92f84_1 A.k (by decide) (by decide) fl_Jx4a65c_9 (congrArg (fun z => toV (vr z)) A.d) ?_
  refine wp_alenN n dJx4a65c_grow_92f84_4 (arTy_118 A.dk) hN ?_
  refine wp_istore_n (i := 2) (lv' := [(2, vi (nI n)), (0, vr (some l)), (1, vi (nI (n + 1)))]) dJx4a65c_grow_92f84_5 rfl (by decide) rfl ?_
  refine wp_iload_n (i := 2) dJx4a65c_grow_92f84_6 rfl rfl ?_
  refine wp_if_gtN 20 dJx4a65c_grow_92f84_7 (by decide) (by omega) (fun c0 => ?_) (fun c0 => ?_)
  · have hmx : max 1 (n / 2) ≤ n := Nat.max_le.mpr ⟨by omega, by omega⟩
    have hmx1 : 1 ≤ max 1 (n / 2) := Nat.le_max_left _ _
    refine wp_iload_n (i := 2) dJx4a65c_grow_92f84_20 rfl rfl ?_
    refine wp_iload_n (i := 1) dJx4a65c_grow_92f84_21 rfl rfl ?_
    refine wp_iload_n (i := 2) dJx4a65c_grow_92f84_22 rfl rfl ?_
    refine wp_isubN dJx4a65c_grow_92f84_23 (by omega) ?_
    rw [show n + 1 - n = 1 by omega]
    refine wp_iload_n (i := 2) dJx4a65c_grow_92f84_24 rfl rfl ?_
    refine wp_iconst (nI 1) dJx4a65c_grow_92f84_25 (by decide) ?_
    refine wp_ishr dJx4a65c_grow_92f84_26 ?_
    rw [nI_shr (d := 1) (by decide) (by omega), show n / 2 ^ 1 = n / 2 by omega]
    refine wp_cS (y' := m_J8_newLength_cabcc) [vi (nI n), vi (nI 1), vi (nI (n / 2))] [] 0 0 dJx4a65c_grow_92f84_27 ml_Jx4a65c_73 st_J8_newLength_cabcc ok_J8_newLength_cabcc rfl (Nat.le_of_ble_eq_true rfl) rfl (Nat.le_of_ble_eq_true rfl) (d' := d - 1) (by omega) (Nat.zero_le _) (Nat.zero_le _) (c_J8_newLength (by omega) (by omega) (by omega) (by omega) (by omega) (cont_ret ?_))
    refine wp_istore_n (i := 3) (lv' := [(3, vi (nI (n + max (1) (n / 2)))), (2, vi (nI n)), (0, vr (some l)), (1, vi (nI (n + 1)))]) dJx4a65c_grow_92f84_30 rfl (by decide) rfl ?_
    refine wp_aload_n (i := 0) dJx4a65c_grow_92f84_31 rfl rfl ?_
    refine wp_aload_n (i := 0) dJx4a65c_grow_92f84_32 rfl rfl ?_
    refine wp_get 2 1 (vr (some D)) dJx4a65c_grow_92f84_33 A.k (by decide) (by decide) fl_Jx4a65c_9 (congrArg (fun z => toV (vr z)) (A.d)) ?_
    refine wp_iload_n (i := 3) dJx4a65c_grow_92f84_36 rfl rfl ?_
    refine wp_cS (y' := m_J7_copyOf_1904c) [vr (some D), vi (nI (n + max (1) (n / 2)))] [vr (some l)] 1 (n + max 1 (n / 2)) dJx4a65c_grow_92f84_37 ml_Jx4a65c_66 st_J7_copyOf_1904c ok_J7_copyOf_1904c rfl (Nat.le_of_ble_eq_true rfl) rfl (Nat.le_of_ble_eq_true rfl) (d' := d - 1) (by omega) (by omega) (by omega) (c_J7_copyOf2 A.dk hN (by omega) (by omega) (by omega) (by omega) (Nat.le_refl _) (Nat.le_refl _) q hq0 (cont_ret ?_))
    obtain ⟨e1, e2, e3⟩ := A.grown (H := cpN h D q n (n + max 1 (n / 2))) hqq (fun a ha => (ce_cpR ha).trans (ce_mk ha)) (by rw [gk_cpR, gk_mk, if_pos rfl]) (by rw [gn_cpR, gn_mk, if_pos rfl]) (by omega) (by omega) (by omega) (fun j hj => by rw [gR_cpR, if_pos rfl]; unfold va_cpy; rw [if_pos (by omega), show 0 + (j - 0) = j by omega]; exact A.e j hj)
    have hkl : h_k (cpN h D q n (n + max 1 (n / 2))) l = 3 := by rw [gk_cpR, gk_mk, if_neg hql]; exact A.k
    refine wp_dup_x1 dJx4a65c_grow_92f84_40 ?_
    refine wp_putR 2 1 dJx4a65c_grow_92f84_41 hkl (by decide) (by decide) (by decide) fl_Jx4a65c_9 rfl (fun _ _ => rfl) rfl ?_
    refine wp_areturn dJx4a65c_grow_92f84_44 rfl (Or.inr ⟨_, rfl⟩) ?_
    exact hq _ _ _ e1 (by show h_n (cpN h D q n _) q = gcap n; rw [gn_cpR, gn_mk, if_pos rfl]; unfold gcap; rw [if_neg (by omega)]) (fun a h1 h2 => e2 a h1 (hnz a h2)) e3
  · obtain ⟨hD0, hD1⟩ : D = 0 ∧ h_n h D = 0 := A.2.1.elim id (fun z => absurd z.1 (by omega))
    refine wp_aload_n (i := 0) dJx4a65c_grow_92f84_10 rfl rfl ?_
    refine wp_get 2 1 (vr (some D)) dJx4a65c_grow_92f84_11 A.k (by decide) (by decide) fl_Jx4a65c_9 (congrArg (fun z => toV (vr z)) (A.d)) ?_
    refine wp_getsE dJx4a65c_grow_92f84_14 fl_Jx4a65c_39 ?_
    refine wp_acmp_eq 45 dJx4a65c_grow_92f84_17 (by decide) (fun c_17 => ?_) (fun c_17 => absurd c_17 (fun z => z (congrArg some hD0)))
    refine wp_aload_n (i := 0) dJx4a65c_grow_92f84_45 rfl rfl ?_
    refine wp_bipush (nI 10) dJx4a65c_grow_92f84_46 (by decide) ?_
    refine wp_iload_n (i := 1) dJx4a65c_grow_92f84_48 rfl rfl ?_
    refine wp_maxN dJx4a65c_grow_92f84_49 ml_Jx4a65c_79 st_J9_max_7cf53 co_J9_max (by omega) (Nat.le_of_ble_eq_true rfl) (by omega) (by omega) ?_
    rw [show max 10 (n + 1) = 10 from Nat.max_eq_left (by omega)]
    refine wp_anewarray 118 10 dJx4a65c_grow_92f84_52 rfl (by decide) kl_Jx4a65c_7 (nI_nn (by omega)) (nI_clamp (by omega)) (by omega) (by omega) (by omega) q hq0 ?_
    obtain ⟨e1, e2, e3⟩ := A.grown (H := mk h q 118 10) hqq (fun a ha => ce_mk ha) (by rw [gk_mk, if_pos rfl]) (by rw [gn_mk, if_pos rfl]) (by omega) (by omega) (by omega) (fun j hj => absurd hj (by omega))
    have hkl2 : h_k (mk h q 118 10) l = 3 := by rw [gk_mk, if_neg hql]; exact A.k
    refine wp_dup_x1 dJx4a65c_grow_92f84_55 ?_
    refine wp_putR 2 1 dJx4a65c_grow_92f84_56 hkl2 (by decide) (by decide) (by decide) fl_Jx4a65c_9 rfl (fun _ _ => rfl) rfl ?_
    refine wp_areturn dJx4a65c_grow_92f84_59 rfl (Or.inr ⟨_, rfl⟩) ?_
    exact hq _ _ _ e1 (by show h_n (mk h q 118 10) q = gcap n; rw [gn_mk, if_pos rfl]; unfold gcap; rw [if_pos (by omega)]) (fun a h1 h2 => e2 a h1 (hnz a h2)) e3

set_option maxRecDepth 100000 in
set_option maxHeartbeats 4000000 in
theorem c_AL_grow1C {G : GG} {d bc bs : Nat} {h : Hp} {Q : Pst} {l ρ i g n D : Nat} {f : Nat → Nat} (A : AL h l ρ i g n D f) (hful : n = h_n h D) (hn : n < 20000) (hd : 5 ≤ d) (hbc : 1 ≤ bc) (hbs : 10 + 2 * n ≤ bs) (hq : ∀ h' g' q, AL h' l ρ i g' n q f → h_n h' q = gcap n → (∀ a, a ≠ l → (∀ z, a ≠ nm ρ (16 * z + i)) → ce h' a = ce h a) → h_I h' l = h_I h l → Q (oRet (vr (some q))) h') : WP G m_Jx4a65c_grow_d5877 d 0 (aargs 0 [vr (some l)]) [] h bc bs Q := by
  refine wp_sub [(0, vr (some l))] (fun _ hz => hz) ?_
  refine wp_aload_n (i := 0) dJx4a65c_grow_d5877_0 rfl rfl ?_
  refine wp_aload_n (i := 0) dJx4a65c_grow_d5877_1 rfl rfl ?_
  refine wp_get 2 2 (vi (nI n)) dJx4a65c_grow_d5877_2 A.k (by decide) (by decide) fl_Jx4a65c_48 (congrArg (fun z => toV (vi z)) (A.s)) ?_
  refine wp_iconst (nI 1) dJx4a65c_grow_d5877_5 (by decide) ?_
  refine wp_iaddN dJx4a65c_grow_d5877_6 ?_
  refine wp_cV (y' := m_Jx4a65c_grow_92f84) 2 [vi (nI (n + 1))] [] 1 (10 + 2 * n) dJx4a65c_grow_d5877_7 ml_Jx4a65c_69 im_Jx4a65c_grow_92f84 se_Jx4a65c_grow_92f84 (by decide) A.k ok_Jx4a65c_grow_92f84 rfl (Nat.le_of_ble_eq_true rfl) rfl (Nat.le_of_ble_eq_true rfl) (d' := d - 1) (by omega) (by omega) (by omega) (c_AL_grow2C A hful hn (by omega) (Nat.le_refl _) (Nat.le_refl _) (fun h' g' q e1 e2 e3 e4 => cont_ret ?_))
  refine wp_areturn dJx4a65c_grow_d5877_10 rfl (Or.inr ⟨_, rfl⟩) ?_
  exact hq _ _ _ e1 e2 e3 e4

set_option maxRecDepth 100000 in
set_option maxHeartbeats 4000000 in
theorem c_AL_add3C {G : GG} {d bc bs : Nat} {h : Hp} {Q : Pst} {l ρ i g n D : Nat} {f : Nat → Nat} (A : AL h l ρ i g n D f) (hn : n < 20000) {x : Nat} (hx : h_k h x ≠ 0 ∧ h_k h x ≠ 200) (hxg : ∀ z, x ≠ nm ρ (16 * z + i)) (hxl : x ≠ l) (hd : 6 ≤ d) (hbc : gcC n (h_n h D) ≤ bc) (hbs : gcS n (h_n h D) ≤ bs) (hq : ∀ h' g' D', AL h' l ρ i g' (n + 1) D' (va_up f n x) → h_n h' D' = gcN n (h_n h D) → (∀ a, a ≠ l → (∀ z, a ≠ nm ρ (16 * z + i)) → ce h' a = ce h a) → Q oVoid h') : WP G m_Jx4a65c_add_72be8 d 0 (aargs 0 [vr (some l), vr (some x), vr (some D), vi (nI n)]) [] h bc bs Q := by
  refine wp_sub [(0, vr (some l)), (1, vr (some x)), (2, vr (some D)), (3, vi (nI n))] (fun _ hz => hz) ?_
  have hc := A.c
  have hle := A.le
  refine wp_iload_n (i := 3) dJx4a65c_add_72be8_0 rfl rfl ?_
  refine wp_aload_n (i := 2) dJx4a65c_add_72be8_1 rfl rfl ?_
  refine wp_alenN (h_n h D) dJx4a65c_add_72be8_2 (arTy_118 A.dk) rfl ?_
  refine wp_icmp_neN 11 dJx4a65c_add_72be8_3 (by decide) (by omega) (by omega) (fun c0 => ?_) (fun c0 => ?_)
  · skip
    refine wp_aload_n (i := 2) dJx4a65c_add_72be8_11 rfl rfl ?_
    refine wp_iload_n (i := 3) dJx4a65c_add_72be8_12 rfl rfl ?_
    refine wp_aload_n (i := 1) dJx4a65c_add_72be8_13 rfl rfl ?_
    have hcc := A.c
    refine wp_aastoreON ((h_n h D)) dJx4a65c_add_72be8_14 A.dk rfl (by omega) (by omega) (fun v hv => by cases hv; exact hx) ?_
    refine wp_aload_n (i := 0) dJx4a65c_add_72be8_15 rfl rfl ?_
    refine wp_iload_n (i := 3) dJx4a65c_add_72be8_16 rfl rfl ?_
    refine wp_iconst (nI 1) dJx4a65c_add_72be8_17 (by decide) ?_
    refine wp_iaddN dJx4a65c_add_72be8_18 ?_
    refine wp_putI 2 2 dJx4a65c_add_72be8_19 A.k (by decide) (by decide) (by decide) fl_Jx4a65c_48 rfl (fun _ _ => rfl) rfl rfl ?_
    refine wp_return dJx4a65c_add_72be8_22 rfl ?_
    exact hq _ _ _ (A.put (by omega)) (by show h_n h D = _; unfold gcN; rw [if_neg (by omega)]) (fun a h1 h2 => (ce_wI h1).trans (ce_wR (A.2.1.elim (fun z => fun e => absurd c0 (by have := A.le; rw [z.2] at this ⊢; omega)) (fun z => fun e => z.2.elim fun g0 hg => h2 g0 (e.trans hg.2)))))
  · have hful : n = h_n h D := c0
    rw [gcC_t hful] at hbc
    rw [gcS_t hful] at hbs
    refine wp_aload_n (i := 0) dJx4a65c_add_72be8_6 rfl rfl ?_
    refine wp_cV (y' := m_Jx4a65c_grow_d5877) 2 [] [] 1 (10 + 2 * n) dJx4a65c_add_72be8_7 ml_Jx4a65c_129 im_Jx4a65c_grow_d5877 se_Jx4a65c_grow_d5877 (by decide) A.k ok_Jx4a65c_grow_d5877 rfl (Nat.le_of_ble_eq_true rfl) rfl (Nat.le_of_ble_eq_true rfl) (d' := d - 1) (by omega) (by omega) (by omega) (c_AL_grow1C A hful hn (by omega) (Nat.le_refl _) (Nat.le_refl _) (fun h' g' q e1 e2x e3 e4 => cont_ret ?_))
    refine wp_astore_n (i := 2) (lv' := [(2, vr (some q)), (0, vr (some l)), (1, vr (some x)), (3, vi (nI n))]) dJx4a65c_add_72be8_10 rfl (by decide) rfl ?_
    refine wp_aload_n (i := 2) dJx4a65c_add_72be8_11 rfl rfl ?_
    refine wp_iload_n (i := 3) dJx4a65c_add_72be8_12 rfl rfl ?_
    refine wp_aload_n (i := 1) dJx4a65c_add_72be8_13 rfl rfl ?_
    have hcc := e1.c
    have e2 : n < h_n h' q := by rw [e2x]; unfold gcap; split <;> omega
    refine wp_aastoreON ((h_n h' q)) dJx4a65c_add_72be8_14 e1.dk rfl e2 (by omega) (fun v hv => by cases hv; exact (by rw [ce_k (e3 x hxl hxg)]; exact hx)) ?_
    refine wp_aload_n (i := 0) dJx4a65c_add_72be8_15 rfl rfl ?_
    refine wp_iload_n (i := 3) dJx4a65c_add_72be8_16 rfl rfl ?_
    refine wp_iconst (nI 1) dJx4a65c_add_72be8_17 (by decide) ?_
    refine wp_iaddN dJx4a65c_add_72be8_18 ?_
    refine wp_putI 2 2 dJx4a65c_add_72be8_19 e1.k (by decide) (by decide) (by decide) fl_Jx4a65c_48 rfl (fun _ _ => rfl) rfl rfl ?_
    refine wp_return dJx4a65c_add_72be8_22 rfl ?_
    exact hq _ _ _ (e1.put e2) (by show h_n h' q = _; rw [e2x]; unfold gcN; rw [if_pos hful]) (fun a h1 h2 => ((ce_wI h1).trans (ce_wR (e1.2.1.elim (fun z => fun e => absurd e2 (by rw [z.2]; omega)) (fun z => fun e => z.2.elim fun g0 hg => h2 g0 (e.trans hg.2))))).trans (e3 a h1 h2))

set_option maxRecDepth 100000 in
set_option maxHeartbeats 4000000 in
theorem c_AL_addC {G : GG} {d bc bs : Nat} {h : Hp} {Q : Pst} {l ρ i g n D : Nat} {f : Nat → Nat} (A : AL h l ρ i g n D f) (hn : n < 20000) {x : Nat} (hx : h_k h x ≠ 0 ∧ h_k h x ≠ 200) (hxg : ∀ z, x ≠ nm ρ (16 * z + i)) (hxl : x ≠ l) (hd : 7 ≤ d) (hbc : gcC n (h_n h D) ≤ bc) (hbs : gcS n (h_n h D) ≤ bs) (hq : ∀ h' g' D', AL h' l ρ i g' (n + 1) D' (va_up f n x) → h_n h' D' = gcN n (h_n h D) → (∀ a, a ≠ l → (∀ z, a ≠ nm ρ (16 * z + i)) → ce h' a = ce h a) → Q (oRet (vi (nI 1))) h') : WP G m_Jx4a65c_add_9ea2d d 0 (aargs 0 [vr (some l), vr (some x)]) [] h bc bs Q := by
  refine wp_sub [(0, vr (some l)), (1, vr (some x))] (fun _ hz => hz) ?_
  refine wp_aload_n (i := 0) dJx4a65c_add_9ea2d_0 rfl rfl ?_
  refine wp_dup dJx4a65c_add_9ea2d_1 ?_
  refine wp_getS 2 0 (vi _) dJx4a65c_add_9ea2d_2 A.k (by decide) (by decide) fl_Jx4a65c_63 sf_Jx4a65c_modCount rfl ?_
  refine wp_iconst (nI 1) dJx4a65c_add_9ea2d_5 (by decide) ?_
  refine wp_iadd dJx4a65c_add_9ea2d_6 ?_
  refine wp_putIS 2 0 dJx4a65c_add_9ea2d_7 A.k (by decide) (by decide) (by decide) fl_Jx4a65c_63 sf_Jx4a65c_modCount rfl (fun _ _ => rfl) rfl rfl ?_
  refine wp_aload_n (i := 0) dJx4a65c_add_9ea2d_10 rfl rfl ?_
  refine wp_aload_n (i := 1) dJx4a65c_add_9ea2d_11 rfl rfl ?_
  refine wp_aload_n (i := 0) dJx4a65c_add_9ea2d_12 rfl rfl ?_
  refine wp_get 2 1 (vr (some D)) dJx4a65c_add_9ea2d_13 A.mod.k (by decide) (by decide) fl_Jx4a65c_9 (congrArg (fun z => toV (vr z)) (A.mod.d)) ?_
  refine wp_aload_n (i := 0) dJx4a65c_add_9ea2d_16 rfl rfl ?_
  refine wp_get 2 2 (vi (nI n)) dJx4a65c_add_9ea2d_17 A.mod.k (by decide) (by decide) fl_Jx4a65c_48 (congrArg (fun z => toV (vi z)) (A.mod.s)) ?_
  refine wp_cV (y' := m_Jx4a65c_add_72be8) 2 [vr (some x), vr (some D), vi (nI n)] [] (gcC n (h_n h D)) (gcS n (h_n h D)) dJx4a65c_add_9ea2d_20 ml_Jx4a65c_131 im_Jx4a65c_add_72be8 se_Jx4a65c_add_72be8 (by decide) A.mod.k ok_Jx4a65c_add_72be8 rfl (Nat.le_of_ble_eq_true rfl) rfl (Nat.le_of_ble_eq_true rfl) (d' := d - 1) (by omega) (by omega) (by omega) (c_AL_add3C A.mod hn hx hxg hxl (by omega) (Nat.le_refl _) (Nat.le_refl _) (fun h' g' D' e1 e1c e2 => cont_void ?_))
  refine wp_iconst (nI 1) dJx4a65c_add_9ea2d_23 (by decide) ?_
  refine wp_zreturn dJx4a65c_add_9ea2d_24 rfl (by decide) ?_
  exact hq _ _ _ e1 e1c (fun a h1 h2 => (e2 a h1 h2).trans (ce_wI h1))

/-- l is an ArrayList of rows of ints, of capacity c -/
def LRc (h : Hp) (l ρ i : Nat) (xs : List (List Int32)) (c : Nat) : Prop := ∃ g D f, AL h l ρ i g xs.length D f ∧ h_n h D = c ∧ ∀ j, (hj : j < xs.length) → PEr h (f j) xs[j]
theorem LRc.w {h : Hp} {l ρ i : Nat} {xs : List (List Int32)} {c : Nat} (H : LRc h l ρ i xs c) : LRw h l ρ i xs := H.elim fun g z => z.elim fun D z => z.elim fun f z => ⟨g, D, f, z.1, z.2.2⟩
theorem LRc.k {h : Hp} {l ρ i : Nat} {xs : List (List Int32)} {c : Nat} (H : LRc h l ρ i xs c) : h_k h l = 3 := H.w.k
theorem AL.hD {h h' : Hp} {l ρ i g n D : Nat} {f : Nat → Nat} (A : AL h l ρ i g n D f) (h0 : ce h' 0 = ce h 0) (h2 : ∀ z, ce h' (nm ρ (16 * z + i)) = ce h (nm ρ (16 * z + i))) : ce h' D = ce h D := by
  rcases A.2.1 with z | ⟨-, g0, -, e⟩
  · rw [z.1]; exact h0
  · rw [e]; exact h2 g0
theorem LRc.frm {h h' : Hp} {l ρ i : Nat} {xs : List (List Int32)} {c : Nat} (H : LRc h l ρ i xs c) (h0 : ce h' 0 = ce h 0) (h1 : ce h' l = ce h l) (h2 : ∀ z, ce h' (nm ρ (16 * z + i)) = ce h (nm ρ (16 * z + i))) (h3 : ∀ k, h_k h (nm 22 k) ≠ 0 → ce h' (nm 22 k) = ce h (nm 22 k)) : LRc h' l ρ i xs c := by
  obtain ⟨g, D, f, A, hc, hE⟩ := H
  refine ⟨g, D, f, A.frm h0 h1 h2, (ce_n (A.hD h0 h2)).trans hc, fun j hj => ?_⟩
  have := hE j hj
  obtain ⟨k, e⟩ := this.1
  exact this.fr (by rw [e]; exact h3 k (by rw [← e]; exact this.z))
section LQC
variable {G : GG} {d bc bs : Nat} {h : Hp} {Q : Pst} {l ρ i c : Nat} {xs : List (List Int32)}
theorem c_LQ_add (H : LRc h l ρ i xs c) {a : Nat} {e : List Int32} (E : PEr h a e) (hn : xs.length < 20000) (hρ : ρ ≠ 22) (hρ2 : ρ < 128) (hd : 7 ≤ d) (hbc : gcC xs.length c ≤ bc) (hbs : gcS xs.length c ≤ bs) (hq : ∀ h', LRc h' l ρ i (xs ++ [e]) (gcN xs.length c) → (∀ b, b ≠ l → (∀ z, b ≠ nm ρ (16 * z + i)) → ce h' b = ce h b) → Q (oRet (vi (nI 1))) h') : WP G m_Jx4a65c_add_9ea2d d 0 (aargs 0 [vr (some l), vr (some a)]) [] h bc bs Q := by
  obtain ⟨g, D, f, A, hc, hE⟩ := H
  subst hc
  have hpl : ∀ b e', PEr h b e' → b ≠ l := fun b e' z q => by have := z.2.1; rw [q, A.k] at this; cases this
  have hpg : ∀ b e', PEr h b e' → ∀ z, b ≠ nm ρ (16 * z + i) := fun b e' z y q => z.1.elim fun k hk => nm_ne (fun x => hρ x.symm) (by decide) hρ2 (hk.symm.trans q)
  refine c_AL_addC A hn ⟨E.z, by rw [E.2.1]; decide⟩ (hpg _ _ E) (hpl _ _ E) hd hbc hbs (fun h' g' D' A' hc' hF => hq h' ⟨g', D', va_up f xs.length a, ?_, hc', fun j hj => ?_⟩ hF)
  · rw [List.length_append]; exact A'
  · rw [va_up_app]
    by_cases ej : j = xs.length
    · subst ej
      rw [if_pos rfl]
      have e1 : (xs ++ [e])[xs.length] = e := by rw [List.getElem_append_right (Nat.le_refl _)]; simp
      rw [e1]
      exact E.fr (hF a (hpl _ _ E) (hpg _ _ E))
    · have hj2 : j < xs.length := by rw [List.length_append] at hj; simp at hj; omega
      rw [if_neg ej, List.getElem_append_left hj2]
      have := hE j hj2
      exact this.fr (hF _ (hpl _ _ this) (hpg _ _ this))

end LQC
