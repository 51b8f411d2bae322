/-! ArrayList, its iterator, and what they call. -/
/-- l is an ArrayList of n elements f in the row D; its rows have the names of role ρ and number i, those from g on are free -/
def AL (h : Hp) (l ρ i g n D : Nat) (f : Nat → Nat) : Prop :=
  (h_k h l = 3 ∧ h_R h l 1 = some D ∧ h_I h l 2 = nI n ∧ h_k h D = 118 ∧ n ≤ h_n h D ∧ h_n h D ≤ 50000 ∧ ∀ j, j < n → h_R h D j = some (f j)) ∧ ((D = 0 ∧ h_n h D = 0) ∨ (0 < h_n h D ∧ ∃ g0, g0 < g ∧ D = nm ρ (16 * g0 + i))) ∧ ∀ g', g ≤ g' → h_k h (nm ρ (16 * g' + i)) = 0
section ALS
variable {h H : Hp} {l ρ i g n D q M : Nat} {f : Nat → Nat}
theorem AL.k (A : AL h l ρ i g n D f) : h_k h l = 3 := A.1.1
theorem AL.d (A : AL h l ρ i g n D f) : h_R h l 1 = some D := A.1.2.1
theorem AL.s (A : AL h l ρ i g n D f) : h_I h l 2 = nI n := A.1.2.2.1
theorem AL.dk (A : AL h l ρ i g n D f) : h_k h D = 118 := A.1.2.2.2.1
theorem AL.le (A : AL h l ρ i g n D f) : n ≤ h_n h D := A.1.2.2.2.2.1
theorem AL.c (A : AL h l ρ i g n D f) : h_n h D ≤ 50000 := A.1.2.2.2.2.2.1
theorem AL.e (A : AL h l ρ i g n D f) : ∀ j, j < n → h_R h D j = some (f j) := A.1.2.2.2.2.2.2
theorem AL.ne (A : AL h l ρ i g n D f) : D ≠ l := fun e => by have := A.dk; rw [e, A.k] at this; cases this
theorem AL.fr (A : AL h l ρ i g n D f) : h_k h (nm ρ (16 * g + i)) = 0 := A.2.2 g (Nat.le_refl _)
theorem kne {a b : Nat} (ha : h_k h a = 0) (hb : h_k h b ≠ 0) : b ≠ a := fun e => hb (by rw [e]; exact ha)
theorem AL.mod (A : AL h l ρ i g n D f) {y : Int32} : AL (wI h l 0 y) l ρ i g n D f :=
  ⟨⟨A.k, A.d, by rw [gI_wI, if_neg (by intro z; exact absurd z.2 (by decide))]; exact A.s, A.dk, A.le, A.c, A.e⟩, A.2.1, A.2.2⟩
theorem AL.grown (A : AL h l ρ i g n D f) (hq : q = nm ρ (16 * g + i)) (e : ∀ a, a ≠ q → ce H a = ce h a) (k1 : h_k H q = 118) (k2 : h_n H q = M) (h0 : 0 < M) (hM : n ≤ M) (hM2 : M ≤ 50000) (k3 : ∀ j, j < n → h_R H q j = some (f j)) : AL (wR H l 1 (some q)) l ρ i (g + 1) n q f ∧ (∀ a, a ≠ l → a ≠ q → ce (wR H l 1 (some q)) a = ce h a) ∧ h_I (wR H l 1 (some q)) l = h_I h l := by
  have hql : l ≠ q := kne (by rw [hq]; exact A.fr) (by rw [A.k]; decide)
  have el := e l hql
  refine ⟨⟨⟨by show h_k H l = 3; rw [ce_k el]; exact A.k, ?_, ?_, k1, by show n ≤ h_n H q; omega, by show h_n H q ≤ 50000; omega, fun j hj => ?_⟩, Or.inr ⟨by show 0 < h_n H q; omega, g, by omega, hq⟩, fun g' hg => ?_⟩, fun a h1 h2 => (ce_wR h1).trans (e a h2), by show h_I H l = _; exact ce_I el⟩
  · rw [gR_wR, if_pos ⟨rfl, rfl⟩]
  · show h_I H l 2 = _
    rw [ce_I el]; exact A.s
  · rw [gR_wR, if_neg (fun z => hql z.1.symm)]; exact k3 j hj
  · show h_k H _ = 0
    rw [ce_k (e _ (by rw [hq]; unfold nm; omega))]
    exact A.2.2 g' (by omega)
theorem AL.put (A : AL h l ρ i g n D f) (hlt : n < h_n h D) {x : Nat} : AL (wI (wR h D n (some x)) l 2 (nI (n + 1))) l ρ i g (n + 1) D (va_up f n x) := by
  refine ⟨⟨A.k, ?_, ?_, A.dk, by show n + 1 ≤ h_n h D; omega, A.c, fun j hj => ?_⟩, A.2.1, A.2.2⟩
  · rw [gR_wI, gR_wR, if_neg (fun z => A.ne z.1.symm)]; exact A.d
  · rw [gI_wI, if_pos ⟨rfl, rfl⟩]
  · rw [gR_wI, gR_wR, va_up_app]
    by_cases e : j = n
    · subst e; rw [if_pos ⟨rfl, rfl⟩, if_pos rfl]
    · rw [if_neg (fun z => e z.2), if_neg e]; exact A.e j (by omega)
/-- the elements f without the j-th -/
def rmF (f : Nat → Nat) (j : Nat) : Nat → Nat := fun k => if k < j then f k else f (k + 1)
theorem AL.rem0 (A : AL h l ρ i g n D f) {j : Nat} (hj : j + 1 = n) : AL (wR (wI h l 2 (nI (n - 1))) D (n - 1) none) l ρ i g (n - 1) D (rmF f j) := by
  refine ⟨⟨A.k, ?_, ?_, A.dk, by show n - 1 ≤ h_n h D; have := A.le; omega, A.c, fun k hk => ?_⟩, A.2.1, A.2.2⟩
  · rw [gR_wR, if_neg (fun z => A.ne z.1.symm)]; exact A.d
  · rw [gI_wR, gI_wI, if_pos ⟨rfl, rfl⟩]
  · rw [gR_wR, if_neg (by omega), gR_wI]
    unfold rmF
    rw [if_pos (by omega)]
    exact A.e k (by omega)
theorem AL.rem1 (A : AL h l ρ i g n D f) {j : Nat} (hj : j + 1 < n) : AL (wR (wI (cpR h D (va_cpy (h_R h D) (h_R h D) (j + 1) j (n - 1 - j))) l 2 (nI (n - 1))) D (n - 1) none) l ρ i g (n - 1) D (rmF f j) := by
  refine ⟨⟨A.k, ?_, ?_, A.dk, by show n - 1 ≤ h_n h D; have := A.le; omega, A.c, fun k hk => ?_⟩, A.2.1, A.2.2⟩
  · rw [gR_wR, if_neg (fun z => A.ne z.1.symm), gR_wI, gR_cpR, if_neg (fun z => A.ne z.symm)]; exact A.d
  · rw [gI_wR, gI_wI, if_pos ⟨rfl, rfl⟩]
  · rw [gR_wR, if_neg (by omega), gR_wI, gR_cpR, if_pos rfl]
    unfold rmF va_cpy
    by_cases e : k < j
    · rw [if_neg (by omega), if_pos e]; exact A.e k (by omega)
    · rw [if_pos (by omega), if_neg e, show j + 1 + (k - j) = k + 1 by omega]; exact A.e (k + 1) (by omega)
end ALS
/-- q is an iterator of l that has given c elements -/
def IT (h : Hp) (q l c : Nat) : Prop := h_k h q = 2 ∧ h_R h q 3 = some l ∧ h_I h q 0 = nI c ∧ h_I h q 2 = h_I h l 0
set_option maxRecDepth 100000 in
set_option maxHeartbeats 4000000 in
theorem c_J3_checkIndex {G : GG} {d bc bs : Nat} {h : Hp} {Q : Pst} {i n : Nat} (hin : i < n) (hn : n < 2 ^ 31) (hq : Q (oRet (vi (nI i))) h) : WP G m_J3_checkIndex_8e157 d 0 (aargs 0 [vi (nI i), vi (nI n), vr none]) [] h bc bs Q := by
  refine wp_sub [(0, vi (nI i)), (1, vi (nI n)), (2, vr none)] (fun _ hz => hz) ?_
  refine wp_iload_n (i := 0) dJ3_checkIndex_8e157_0 rfl rfl ?_
  refine wp_if_ltN 9 dJ3_checkIndex_8e157_1 (by decide) (by omega) (fun c_1 => absurd c_1 (fun z => z)) (fun c_1 => ?_)
  refine wp_iload_n (i := 0) dJ3_checkIndex_8e157_4 rfl rfl ?_
  refine wp_iload_n (i := 1) dJ3_checkIndex_8e157_5 rfl rfl ?_
  refine wp_icmp_ltN 16 dJ3_checkIndex_8e157_6 (by decide) (by omega) (by omega) (fun c_6 => ?_) (fun c_6 => absurd c_6 (Nat.not_le.mpr hin))
  refine wp_iload_n (i := 0) dJ3_checkIndex_8e157_16 rfl rfl ?_
  refine wp_ireturn dJ3_checkIndex_8e157_17 rfl ?_
  exact hq
set_option maxRecDepth 100000 in
set_option maxHeartbeats 4000000 in
theorem c_J15_checkIndex {G : GG} {d bc bs : Nat} {h : Hp} {Q : Pst} {i n : Nat} (hin : i < n) (hn : n < 2 ^ 31) (hd : 1 ≤ d) (hq : Q (oRet (vi (nI i))) h) : WP G m_J15_checkIndex_7cf53 d 0 (aargs 0 [vi (nI i), vi (nI n)]) [] h bc bs Q := by
  refine wp_sub [(0, vi (nI i)), (1, vi (nI n))] (fun _ hz => hz) ?_
  refine wp_iload_n (i := 0) dJ15_checkIndex_7cf53_0 rfl rfl ?_
  refine wp_iload_n (i := 1) dJ15_checkIndex_7cf53_1 rfl rfl ?_
  refine wp_null dJ15_checkIndex_7cf53_2 ?_
  refine wp_cS (y' := m_J3_checkIndex_8e157) [vi (nI i), vi (nI n), vr none] [] 0 0 dJ15_checkIndex_7cf53_3 ml_J15_105 st_J3_checkIndex_8e157 ok_J3_checkIndex_8e157 rfl (Nat.le_of_ble_eq_true rfl) rfl (Nat.le_of_ble_eq_true rfl) (d' := d - 1) (by omega) (Nat.zero_le _) (Nat.zero_le _) (c_J3_checkIndex hin hn (cont_ret ?_))
  refine wp_ireturn dJ15_checkIndex_7cf53_6 rfl ?_
  exact hq
set_option maxRecDepth 100000 in
set_option maxHeartbeats 4000000 in
theorem c_Jxa1e45_init {G : GG} {d bc bs : Nat} {h : Hp} {Q : Pst} {l : Nat} (hd : 1 ≤ d) (hq : Q oVoid h) : WP G m_Jxa1e45_init_da8c8 d 0 (aargs 0 [vr (some l)]) [] h bc bs Q := by
  refine wp_sub [(0, vr (some l))] (fun _ hz => hz) ?_
  refine wp_aload_n (i := 0) dJxa1e45_init_da8c8_0 rfl rfl ?_
  refine wp_objInit dJxa1e45_init_da8c8_1 ml_Jxa1e45_1 im_java_lang_Object__init____V co_obj (by omega) (by decide) ?_
  refine wp_return dJxa1e45_init_da8c8_4 rfl ?_
  exact hq
set_option maxRecDepth 100000 in
set_option maxHeartbeats 4000000 in
theorem c_Jxc12de_init {G : GG} {d bc bs : Nat} {h : Hp} {Q : Pst} {l : Nat} (hk : h_k h l = 3) (hd : 2 ≤ d) (hq : Q oVoid (wI h l 0 (nI 0))) : WP G m_Jxc12de_init_da8c8 d 0 (aargs 0 [vr (some l)]) [] h bc bs Q := by
  refine wp_sub [(0, vr (some l))] (fun _ hz => hz) ?_
  refine wp_aload_n (i := 0) dJxc12de_init_da8c8_0 rfl rfl ?_
  refine wp_cI (y' := m_Jxa1e45_init_da8c8) [] [] 0 0 dJxc12de_init_da8c8_1 ml_Jxc12de_1 im_Jxa1e45_init_da8c8 rfl rfl ok_Jxa1e45_init_da8c8 rfl (Nat.le_of_ble_eq_true rfl) rfl (Nat.le_of_ble_eq_true rfl) (d' := d - 1) (by omega) (Nat.zero_le _) (Nat.zero_le _) (c_Jxa1e45_init (by omega) (cont_void ?_))
  refine wp_aload_n (i := 0) dJxc12de_init_da8c8_4 rfl rfl ?_
  refine wp_iconst (nI 0) dJxc12de_init_da8c8_5 (by decide) ?_
  refine wp_putI 2 0 dJxc12de_init_da8c8_6 hk (by decide) (by decide) (by decide) fl_Jxc12de_7 rfl (fun _ _ => rfl) rfl rfl ?_
  refine wp_return dJxc12de_init_da8c8_9 rfl ?_
  exact hq
set_option maxRecDepth 100000 in
set_option maxHeartbeats 4000000 in
theorem c_AL_init {G : GG} {d bc bs : Nat} {h : Hp} {Q : Pst} {l : Nat} (hk : h_k h l = 3) (hd : 3 ≤ d) (hq : Q oVoid (wR (wI h l 0 (nI 0)) l 1 (some 0))) : WP G m_Jx4a65c_init_da8c8 d 0 (aargs 0 [vr (some l)]) [] h bc bs Q := by
  refine wp_sub [(0, vr (some l))] (fun _ hz => hz) ?_
  refine wp_aload_n (i := 0) dJx4a65c_init_da8c8_0 rfl rfl ?_
  refine wp_cI (y' := m_Jxc12de_init_da8c8) [] [] 0 0 dJx4a65c_init_da8c8_1 ml_Jx4a65c_1 im_Jxc12de_init_da8c8 rfl rfl ok_Jxc12de_init_da8c8 rfl (Nat.le_of_ble_eq_true rfl) rfl (Nat.le_of_ble_eq_true rfl) (d' := d - 1) (by omega) (Nat.zero_le _) (Nat.zero_le _) (c_Jxc12de_init hk (by omega) (cont_void ?_))
  refine wp_aload_n (i := 0) dJx4a65c_init_da8c8_4 rfl rfl ?_
  refine wp_getsE dJx4a65c_init_da8c8_5 fl_Jx4a65c_39 ?_
  refine wp_putR 2 1 dJx4a65c_init_da8c8_8 hk (by decide) (by decide) (by decide) fl_Jx4a65c_9 rfl (fun _ _ => rfl) rfl ?_
  refine wp_return dJx4a65c_init_da8c8_11 rfl ?_
  exact hq
set_option maxRecDepth 100000 in
set_option maxHeartbeats 4000000 in
theorem c_AL_size {G : GG} {d bc bs : Nat} {h : Hp} {Q : Pst} {l ρ i g n D : Nat} {f : Nat → Nat} (A : AL h l ρ i g n D f) (hq : Q (oRet (vi (nI n))) h) : WP G m_Jx4a65c_size_8abf5 d 0 (aargs 0 [vr (some l)]) [] h bc bs Q := by
  refine wp_sub [(0, vr (some l))] (fun _ hz => hz) ?_
  refine wp_aload_n (i := 0) dJx4a65c_size_8abf5_0 rfl rfl ?_
  refine wp_get 2 2 (vi (nI n)) dJx4a65c_size_8abf5_1 A.k (by decide) (by decide) fl_Jx4a65c_48 (congrArg (fun z => toV (vi z)) (A.s)) ?_
  refine wp_ireturn dJx4a65c_size_8abf5_4 rfl ?_
  exact hq
set_option maxRecDepth 100000 in
set_option maxHeartbeats 4000000 in
theorem c_AL_elementData {G : GG} {d bc bs : Nat} {h : Hp} {Q : Pst} {l ρ i g n D : Nat} {f : Nat → Nat} (A : AL h l ρ i g n D f) {j : Nat} (hj : j < n) (hq : Q (oRet (vr (some (f j)))) h) : WP G m_Jx4a65c_elementData_915e3 d 0 (aargs 0 [vr (some l), vi (nI j)]) [] h bc bs Q := by
  refine wp_sub [(0, vr (some l)), (1, vi (nI j))] (fun _ hz => hz) ?_
  have hc := A.c
  refine wp_aload_n (i := 0) dJx4a65c_elementData_915e3_0 rfl rfl ?_
  refine wp_get 2 1 (vr (some D)) dJx4a65c_elementData_915e3_1 A.k (by decide) (by decide) fl_Jx4a65c_9 (congrArg (fun z => toV (vr z)) (A.d)) ?_
  refine wp_iload_n (i := 1) dJx4a65c_elementData_915e3_4 rfl rfl ?_
  refine wp_aaloadN ((h_n h D)) (some (f j)) dJx4a65c_elementData_915e3_5 (arTy_118 A.dk) rfl (Nat.lt_of_lt_of_le hj A.le) (by omega) (A.e j hj) ?_
  refine wp_areturn dJx4a65c_elementData_915e3_6 rfl (Or.inl ⟨_, rfl⟩) ?_
  exact hq
set_option maxRecDepth 100000 in
set_option maxHeartbeats 4000000 in
theorem c_AL_get {G : GG} {d bc bs : Nat} {h : Hp} {Q : Pst} {l ρ i g n D : Nat} {f : Nat → Nat} (A : AL h l ρ i g n D f) {j : Nat} (hj : j < n) (hd : 3 ≤ d) (hq : Q (oRet (vr (some (f j)))) h) : WP G m_Jx4a65c_get_915e3 d 0 (aargs 0 [vr (some l), vi (nI j)]) [] h bc bs Q := by
  refine wp_sub [(0, vr (some l)), (1, vi (nI j))] (fun _ hz => hz) ?_
  have hn31 : n < 2 ^ 31 := by have := A.le; have := A.c; omega
  refine wp_iload_n (i := 1) dJx4a65c_get_915e3_0 rfl rfl ?_
  refine wp_aload_n (i := 0) dJx4a65c_get_915e3_1 rfl rfl ?_
  refine wp_get 2 2 (vi (nI n)) dJx4a65c_get_915e3_2 A.k (by decide) (by decide) fl_Jx4a65c_48 (congrArg (fun z => toV (vi z)) (A.s)) ?_
  refine wp_cS (y' := m_J15_checkIndex_7cf53) [vi (nI j), vi (nI n)] [] 0 0 dJx4a65c_get_915e3_5 ml_Jx4a65c_118 st_J15_checkIndex_7cf53 ok_J15_checkIndex_7cf53 rfl (Nat.le_of_ble_eq_true rfl) rfl (Nat.le_of_ble_eq_true rfl) (d' := d - 1) (by omega) (Nat.zero_le _) (Nat.zero_le _) (c_J15_checkIndex hj hn31 (by omega) (cont_ret ?_))
  refine wp_pop dJx4a65c_get_915e3_8 ?_
  refine wp_aload_n (i := 0) dJx4a65c_get_915e3_9 rfl rfl ?_
  refine wp_iload_n (i := 1) dJx4a65c_get_915e3_10 rfl rfl ?_
  refine wp_cV (y' := m_Jx4a65c_elementData_915e3) 2 [vi (nI j)] [] 0 0 dJx4a65c_get_915e3_11 ml_Jx4a65c_123 im_Jx4a65c_elementData_915e3 se_Jx4a65c_elementData_915e3 (by decide) A.k ok_Jx4a65c_elementData_915e3 rfl (Nat.le_of_ble_eq_true rfl) rfl (Nat.le_of_ble_eq_true rfl) (d' := d - 1) (by omega) (Nat.zero_le _) (Nat.zero_le _) (c_AL_elementData A hj (cont_ret ?_))
  refine wp_areturn dJx4a65c_get_915e3_14 rfl (Or.inl ⟨_, rfl⟩) ?_
  exact hq
set_option maxRecDepth 100000 in
set_option maxHeartbeats 4000000 in
theorem c_J8_newLength {G : GG} {d bc bs : Nat} {h : Hp} {Q : Pst} {a b c : Nat} (ha : a ≤ 100000) (hb : b ≤ 100000) (hc : c ≤ 100000) (h0 : 0 < b) (hd : 1 ≤ d) (hq : Q (oRet (vi (nI (a + max b c)))) h) : WP G m_J8_newLength_cabcc d 0 (aargs 0 [vi (nI a), vi (nI b), vi (nI c)]) [] h bc bs Q := by
  refine wp_sub [(0, vi (nI a)), (1, vi (nI b)), (2, vi (nI c))] (fun _ hz => hz) ?_
  refine wp_iload_n (i := 0) dJ8_newLength_cabcc_0 rfl rfl ?_
  refine wp_iload_n (i := 1) dJ8_newLength_cabcc_1 rfl rfl ?_
  refine wp_iload_n (i := 2) dJ8_newLength_cabcc_2 rfl rfl ?_
  refine wp_maxN dJ8_newLength_cabcc_3 ml_J8_194 st_J9_max_7cf53 co_J9_max (by omega) (Nat.le_of_ble_eq_true rfl) (by omega) (by omega) ?_
  refine wp_iaddN dJ8_newLength_cabcc_6 ?_
  refine wp_istore_n (i := 3) (lv' := [(3, vi (nI (a + (max b c)))), (0, vi (nI a)), (1, vi (nI b)), (2, vi (nI c))]) dJ8_newLength_cabcc_7 rfl (by decide) rfl ?_
  refine wp_iconst (nI 0) dJ8_newLength_cabcc_8 (by decide) ?_
  refine wp_iload_n (i := 3) dJ8_newLength_cabcc_9 rfl rfl ?_
  refine wp_icmp_geN 21 dJ8_newLength_cabcc_10 (by decide) (by decide) (by have := Nat.max_le.mpr ⟨hb, hc⟩; omega) (fun c_10 => absurd c_10 (by have : b ≤ max b c := Nat.le_max_left _ _; omega)) (fun c_10 => ?_)
  refine wp_iload_n (i := 3) dJ8_newLength_cabcc_13 rfl rfl ?_
  refine wp_ldc dJ8_newLength_cabcc_14 cn_J8_200 ?_
  refine wp_icmp_gtN 21 dJ8_newLength_cabcc_16 (by decide) (by have := Nat.max_le.mpr ⟨hb, hc⟩; omega) (by decide) (fun c_16 => absurd c_16 (Nat.not_lt.mpr (Nat.le_trans (m := 300000) (by have := Nat.max_le.mpr ⟨hb, hc⟩; omega) (by decide)))) (fun c_16 => ?_)
  refine wp_iload_n (i := 3) dJ8_newLength_cabcc_19 rfl rfl ?_
  refine wp_ireturn dJ8_newLength_cabcc_20 rfl ?_
  exact hq
set_option maxRecDepth 100000 in
set_option maxHeartbeats 4000000 in
theorem c_AL_grow2 {G : GG} {d bc bs : Nat} {h : Hp} {Q : Pst} {l ρ i g n D : Nat} {f : Nat → Nat} (A : AL h l ρ i g n D f) (hful : n = h_n h D) (hn : n < 20000) (hd : 4 ≤ d) (hbc : 1 ≤ bc) (hbs : 10 + 2 * n ≤ bs) (hq : ∀ h' g' q, AL h' l ρ i g' n q f → n < h_n h' q → (∀ a, a ≠ l → (∀ z, a ≠ nm ρ (16 * z + i)) → ce h' a = ce h a) → h_I h' l = h_I h l → Q (oRet (vr (some q))) h') : WP G m_Jx4a65c_grow_92f84 d 0 (aargs 0 [vr (some l), vi (nI (n + 1))]) [] h bc bs Q := by
  refine wp_sub [(0, vr (some l)), (1, vi (nI (n + 1)))] (fun _ hz => hz) ?_
  obtain ⟨q, hqq⟩ : ∃ q, q = nm ρ (16 * g + i) := ⟨_, rfl⟩
  have hq0 : h_k h q = 0 := by rw [hqq]; exact A.fr
  have hql : l ≠ q := kne hq0 (by rw [A.k]; decide)
  have hnz : ∀ a, (∀ z, a ≠ nm ρ (16 * z + i)) → a ≠ q := fun a ha e => ha g (e.trans hqq)
  have hDq : D ≠ q := kne hq0 (by rw [A.dk]; decide)
  have hN : h_n h D = n := hful.symm
  have hkl : h_k h l = 3 := A.k
  refine wp_aload_n (i := 0) dJx4a65c_grow_92f84_0 rfl rfl ?_
  refine wp_get 2 1 (vr (some D)) dJx4a65c_grow_92f84_1 A.k (by decide) (by decide) fl_Jx4a65c_9 (congrArg (fun z => toV (vr z)) A.d) ?_
  refine wp_alenN n dJx4a65c_grow_92f84_4 (arTy_118 A.dk) hN ?_
  refine wp_istore_n (i := 2) (lv' := [(2, vi (nI n)), (0, vr (some l)), (1, vi (nI (n + 1)))]) dJx4a65c_grow_92f84_5 rfl (by decide) rfl ?_
  refine wp_iload_n (i := 2) dJx4a65c_grow_92f84_6 rfl rfl ?_
  refine wp_if_gtN 20 dJx4a65c_grow_92f84_7 (by decide) (by omega) (fun c0 => ?_) (fun c0 => ?_)
  · have hmx : max 1 (n / 2) ≤ n := Nat.max_le.mpr ⟨by omega, by omega⟩
    have hmx1 : 1 ≤ max 1 (n / 2) := Nat.le_max_left _ _
    refine wp_iload_n (i := 2) dJx4a65c_grow_92f84_20 rfl rfl ?_
    refine wp_iload_n (i := 1) dJx4a65c_grow_92f84_21 rfl rfl ?_
    refine wp_iload_n (i := 2) dJx4a65c_grow_92f84_22 rfl rfl ?_
    refine wp_isubN dJx4a65c_grow_92f84_23 (by omega) ?_
    rw [show n + 1 - n = 1 by omega]
    refine wp_iload_n (i := 2) dJx4a65c_grow_92f84_24 rfl rfl ?_
    refine wp_iconst (nI 1) dJx4a65c_grow_92f84_25 (by decide) ?_
    refine wp_ishr dJx4a65c_grow_92f84_26 ?_
    rw [nI_shr (d := 1) (by decide) (by omega), show n / 2 ^ 1 = n / 2 by omega]
    refine wp_cS (y' := m_J8_newLength_cabcc) [vi (nI n), vi (nI 1), vi (nI (n / 2))] [] 0 0 dJx4a65c_grow_92f84_27 ml_Jx4a65c_73 st_J8_newLength_cabcc ok_J8_newLength_cabcc rfl (Nat.le_of_ble_eq_true rfl) rfl (Nat.le_of_ble_eq_true rfl) (d' := d - 1) (by omega) (Nat.zero_le _) (Nat.zero_le _) (c_J8_newLength (by omega) (by omega) (by omega) (by omega) (by omega) (cont_ret ?_))
    refine wp_istore_n (i := 3) (lv' := [(3, vi (nI (n + max (1) (n / 2)))), (2, vi (nI n)), (0, vr (some l)), (1, vi (nI (n + 1)))]) dJx4a65c_grow_92f84_30 rfl (by decide) rfl ?_
    refine wp_aload_n (i := 0) dJx4a65c_grow_92f84_31 rfl rfl ?_
    refine wp_aload_n (i := 0) dJx4a65c_grow_92f84_32 rfl rfl ?_
    refine wp_get 2 1 (vr (some D)) dJx4a65c_grow_92f84_33 A.k (by decide) (by decide) fl_Jx4a65c_9 (congrArg (fun z => toV (vr z)) (A.d)) ?_
    refine wp_iload_n (i := 3) dJx4a65c_grow_92f84_36 rfl rfl ?_
    refine wp_cS (y' := m_J7_copyOf_1904c) [vr (some D), vi (nI (n + max (1) (n / 2)))] [vr (some l)] 1 (n + max 1 (n / 2)) dJx4a65c_grow_92f84_37 ml_Jx4a65c_66 st_J7_copyOf_1904c ok_J7_copyOf_1904c rfl (Nat.le_of_ble_eq_true rfl) rfl (Nat.le_of_ble_eq_true rfl) (d' := d - 1) (by omega) (by omega) (by omega) (c_J7_copyOf2 A.dk hN (by omega) (by omega) (by omega) (by omega) (Nat.le_refl _) (Nat.le_refl _) q hq0 (cont_ret ?_))
    obtain ⟨e1, e2, e3⟩ := A.grown (H := cpN h D q n (n + max 1 (n / 2))) hqq (fun a ha => (ce_cpR ha).trans (ce_mk ha)) (by rw [gk_cpR, gk_mk, if_pos rfl]) (by rw [gn_cpR, gn_mk, if_pos rfl]) (by omega) (by omega) (by omega) (fun j hj => by rw [gR_cpR, if_pos rfl]; unfold va_cpy; rw [if_pos (by omega), show 0 + (j - 0) = j by omega]; exact A.e j hj)
    have hkl : h_k (cpN h D q n (n + max 1 (n / 2))) l = 3 := by rw [gk_cpR, gk_mk, if_neg hql]; exact A.k
    refine wp_dup_x1 dJx4a65c_grow_92f84_40 ?_
    refine wp_putR 2 1 dJx4a65c_grow_92f84_41 hkl (by decide) (by decide) (by decide) fl_Jx4a65c_9 rfl (fun _ _ => rfl) rfl ?_
    refine wp_areturn dJx4a65c_grow_92f84_44 rfl (Or.inr ⟨_, rfl⟩) ?_
    exact hq _ _ _ e1 (by show n < h_n (cpN h D q n _) q; rw [gn_cpR, gn_mk, if_pos rfl]; omega) (fun a h1 h2 => e2 a h1 (hnz a h2)) e3
  · obtain ⟨hD0, hD1⟩ : D = 0 ∧ h_n h D = 0 := A.2.1.elim id (fun z => absurd z.1 (by omega))
    refine wp_aload_n (i := 0) dJx4a65c_grow_92f84_10 rfl rfl ?_
    refine wp_get 2 1 (vr (some D)) dJx4a65c_grow_92f84_11 A.k (by decide) (by decide) fl_Jx4a65c_9 (congrArg (fun z => toV (vr z)) (A.d)) ?_
    refine wp_getsE dJx4a65c_grow_92f84_14 fl_Jx4a65c_39 ?_
    refine wp_acmp_eq 45 dJx4a65c_grow_92f84_17 (by decide) (fun c_17 => ?_) (fun c_17 => absurd c_17 (fun z => z (congrArg some hD0)))
    refine wp_aload_n (i := 0) dJx4a65c_grow_92f84_45 rfl rfl ?_
    refine wp_bipush (nI 10) dJx4a65c_grow_92f84_46 (by decide) ?_
    refine wp_iload_n (i := 1) dJx4a65c_grow_92f84_48 rfl rfl ?_
    refine wp_maxN dJx4a65c_grow_92f84_49 ml_Jx4a65c_79 st_J9_max_7cf53 co_J9_max (by omega) (Nat.le_of_ble_eq_true rfl) (by omega) (by omega) ?_
    rw [show max 10 (n + 1) = 10 from Nat.max_eq_left (by omega)]
    refine wp_anewarray 118 10 dJx4a65c_grow_92f84_52 rfl (by decide) kl_Jx4a65c_7 (nI_nn (by omega)) (nI_clamp (by omega)) (by omega) (by omega) (by omega) q hq0 ?_
    obtain ⟨e1, e2, e3⟩ := A.grown (H := mk h q 118 10) hqq (fun a ha => ce_mk ha) (by rw [gk_mk, if_pos rfl]) (by rw [gn_mk, if_pos rfl]) (by omega) (by omega) (by omega) (fun j hj => absurd hj (by omega))
    have hkl2 : h_k (mk h q 118 10) l = 3 := by rw [gk_mk, if_neg hql]; exact A.k
    refine wp_dup_x1 dJx4a65c_grow_92f84_55 ?_
    refine wp_putR 2 1 dJx4a65c_grow_92f84_56 hkl2 (by decide) (by decide) (by decide) fl_Jx4a65c_9 rfl (fun _ _ => rfl) rfl ?_
    refine wp_areturn dJx4a65c_grow_92f84_59 rfl (Or.inr ⟨_, rfl⟩) ?_
    exact hq _ _ _ e1 (by show n < h_n (mk h q 118 10) q; rw [gn_mk, if_pos rfl]; omega) (fun a h1 h2 => e2 a h1 (hnz a h2)) e3
set_option maxRecDepth 100000 in
set_option maxHeartbeats 4000000 in
theorem c_AL_grow1 {G : GG} {d bc bs : Nat} {h : Hp} {Q : Pst} {l ρ i g n D : Nat} {f : Nat → Nat} (A : AL h l ρ i g n D f) (hful : n = h_n h D) (hn : n < 20000) (hd : 5 ≤ d) (hbc : 1 ≤ bc) (hbs : 10 + 2 * n ≤ bs) (hq : ∀ h' g' q, AL h' l ρ i g' n q f → n < h_n h' q → (∀ a, a ≠ l → (∀ z, a ≠ nm ρ (16 * z + i)) → ce h' a = ce h a) → h_I h' l = h_I h l → Q (oRet (vr (some q))) h') : WP G m_Jx4a65c_grow_d5877 d 0 (aargs 0 [vr (some l)]) [] h bc bs Q := by
  refine wp_sub [(0, vr (some l))] (fun _ hz => hz) ?_
  refine wp_aload_n (i := 0) dJx4a65c_grow_d5877_0 rfl rfl ?_
  refine wp_aload_n (i := 0) dJx4a65c_grow_d5877_1 rfl rfl ?_
  refine wp_get 2 2 (vi (nI n)) dJx4a65c_grow_d5877_2 A.k (by decide) (by decide) fl_Jx4a65c_48 (congrArg (fun z => toV (vi z)) (A.s)) ?_
  refine wp_iconst (nI 1) dJx4a65c_grow_d5877_5 (by decide) ?_
  refine wp_iaddN dJx4a65c_grow_d5877_6 ?_
  refine wp_cV (y' := m_Jx4a65c_grow_92f84) 2 [vi (nI (n + 1))] [] 1 (10 + 2 * n) dJx4a65c_grow_d5877_7 ml_Jx4a65c_69 im_Jx4a65c_grow_92f84 se_Jx4a65c_grow_92f84 (by decide) A.k ok_Jx4a65c_grow_92f84 rfl (Nat.le_of_ble_eq_true rfl) rfl (Nat.le_of_ble_eq_true rfl) (d' := d - 1) (by omega) (by omega) (by omega) (c_AL_grow2 A hful hn (by omega) (Nat.le_refl _) (Nat.le_refl _) (fun h' g' q e1 e2 e3 e4 => cont_ret ?_))
  refine wp_areturn dJx4a65c_grow_d5877_10 rfl (Or.inr ⟨_, rfl⟩) ?_
  exact hq _ _ _ e1 e2 e3 e4
set_option maxRecDepth 100000 in
set_option maxHeartbeats 4000000 in
theorem c_AL_add3 {G : GG} {d bc bs : Nat} {h : Hp} {Q : Pst} {l ρ i g n D : Nat} {f : Nat → Nat} (A : AL h l ρ i g n D f) (hn : n < 20000) {x : Nat} (hx : h_k h x ≠ 0 ∧ h_k h x ≠ 200) (hxg : ∀ z, x ≠ nm ρ (16 * z + i)) (hxl : x ≠ l) (hd : 6 ≤ d) (hbc : 1 ≤ bc) (hbs : 10 + 2 * n ≤ bs) (hq : ∀ h' g' D', AL h' l ρ i g' (n + 1) D' (va_up f n x) → (∀ a, a ≠ l → (∀ z, a ≠ nm ρ (16 * z + i)) → ce h' a = ce h a) → Q oVoid h') : WP G m_Jx4a65c_add_72be8 d 0 (aargs 0 [vr (some l), vr (some x), vr (some D), vi (nI n)]) [] h bc bs Q := by
  refine wp_sub [(0, vr (some l)), (1, vr (some x)), (2, vr (some D)), (3, vi (nI n))] (fun _ hz => hz) ?_
  have hc := A.c
  have hle := A.le
  refine wp_iload_n (i := 3) dJx4a65c_add_72be8_0 rfl rfl ?_
  refine wp_aload_n (i := 2) dJx4a65c_add_72be8_1 rfl rfl ?_
  refine wp_alenN (h_n h D) dJx4a65c_add_72be8_2 (arTy_118 A.dk) rfl ?_
  refine wp_icmp_neN 11 dJx4a65c_add_72be8_3 (by decide) (by omega) (by omega) (fun c0 => ?_) (fun c0 => ?_)
  · skip
    refine wp_aload_n (i := 2) dJx4a65c_add_72be8_11 rfl rfl ?_
    refine wp_iload_n (i := 3) dJx4a65c_add_72be8_12 rfl rfl ?_
    refine wp_aload_n (i := 1) dJx4a65c_add_72be8_13 rfl rfl ?_
    have hcc := A.c
    refine wp_aastoreON ((h_n h D)) dJx4a65c_add_72be8_14 A.dk rfl (by omega) (by omega) (fun v hv => by cases hv; exact hx) ?_
    refine wp_aload_n (i := 0) dJx4a65c_add_72be8_15 rfl rfl ?_
    refine wp_iload_n (i := 3) dJx4a65c_add_72be8_16 rfl rfl ?_
    refine wp_iconst (nI 1) dJx4a65c_add_72be8_17 (by decide) ?_
    refine wp_iaddN dJx4a65c_add_72be8_18 ?_
    refine wp_putI 2 2 dJx4a65c_add_72be8_19 A.k (by decide) (by decide) (by decide) fl_Jx4a65c_48 rfl (fun _ _ => rfl) rfl rfl ?_
    refine wp_return dJx4a65c_add_72be8_22 rfl ?_
    exact hq _ _ _ (A.put (by omega)) (fun a h1 h2 => (ce_wI h1).trans (ce_wR (A.2.1.elim (fun z => fun e => absurd c0 (by have := A.le; rw [z.2] at this ⊢; omega)) (fun z => fun e => z.2.elim fun g0 hg => h2 g0 (e.trans hg.2)))))
  · have hful : n = h_n h D := c0
    refine wp_aload_n (i := 0) dJx4a65c_add_72be8_6 rfl rfl ?_
    refine wp_cV (y' := m_Jx4a65c_grow_d5877) 2 [] [] 1 (10 + 2 * n) dJx4a65c_add_72be8_7 ml_Jx4a65c_129 im_Jx4a65c_grow_d5877 se_Jx4a65c_grow_d5877 (by decide) A.k ok_Jx4a65c_grow_d5877 rfl (Nat.le_of_ble_eq_true rfl) rfl (Nat.le_of_ble_eq_true rfl) (d' := d - 1) (by omega) (by omega) (by omega) (c_AL_grow1 A hful hn (by omega) (Nat.le_refl _) (Nat.le_refl _) (fun h' g' q e1 e2 e3 e4 => cont_ret ?_))
    refine wp_astore_n (i := 2) (lv' := [(2, vr (some q)), (0, vr (some l)), (1, vr (some x)), (3, vi (nI n))]) dJx4a65c_add_72be8_10 rfl (by decide) rfl ?_
    refine wp_aload_n (i := 2) dJx4a65c_add_72be8_11 rfl rfl ?_
    refine wp_iload_n (i := 3) dJx4a65c_add_72be8_12 rfl rfl ?_
    refine wp_aload_n (i := 1) dJx4a65c_add_72be8_13 rfl rfl ?_
    have hcc := e1.c
    refine wp_aastoreON ((h_n h' q)) dJx4a65c_add_72be8_14 e1.dk rfl e2 (by omega) (fun v hv => by cases hv; exact (by rw [ce_k (e3 x hxl hxg)]; exact hx)) ?_
    refine wp_aload_n (i := 0) dJx4a65c_add_72be8_15 rfl rfl ?_
    refine wp_iload_n (i := 3) dJx4a65c_add_72be8_16 rfl rfl ?_
    refine wp_iconst (nI 1) dJx4a65c_add_72be8_17 (by decide) ?_
    refine wp_iaddN dJx4a65c_add_72be8_18 ?_
    refine wp_putI 2 2 dJx4a65c_add_72be8_19 e1.k (by decide) (by decide) (by decide) fl_Jx4a65c_48 rfl (fun _ _ => rfl) rfl rfl ?_
    refine wp_return dJx4a65c_add_72be8_22 rfl ?_
    exact hq _ _ _ (e1.put e2) (fun a h1 h2 => ((ce_wI h1).trans (ce_wR (e1.2.1.elim (fun z => fun e => absurd e2 (by rw [z.2]; omega)) (fun z => fun e => z.2.elim fun g0 hg => h2 g0 (e.trans hg.2))))).trans (e3 a h1 h2))
set_option maxRecDepth 100000 in
set_option maxHeartbeats 4000000 in
theorem c_AL_add {G : GG} {d bc bs : Nat} {h : Hp} {Q : Pst} {l ρ i g n D : Nat} {f : Nat → Nat} (A : AL h l ρ i g n D f) (hn : n < 20000) {x : Nat} (hx : h_k h x ≠ 0 ∧ h_k h x ≠ 200) (hxg : ∀ z, x ≠ nm ρ (16 * z + i)) (hxl : x ≠ l) (hd : 7 ≤ d) (hbc : 1 ≤ bc) (hbs : 10 + 2 * n ≤ bs) (hq : ∀ h' g' D', AL h' l ρ i g' (n + 1) D' (va_up f n x) → (∀ a, a ≠ l → (∀ z, a ≠ nm ρ (16 * z + i)) → ce h' a = ce h a) → Q (oRet (vi (nI 1))) h') : WP G m_Jx4a65c_add_9ea2d d 0 (aargs 0 [vr (some l), vr (some x)]) [] h bc bs Q := by
  refine wp_sub [(0, vr (some l)), (1, vr (some x))] (fun _ hz => hz) ?_
  refine wp_aload_n (i := 0) dJx4a65c_add_9ea2d_0 rfl rfl ?_
  refine wp_dup dJx4a65c_add_9ea2d_1 ?_
  refine wp_getS 2 0 (vi _) dJx4a65c_add_9ea2d_2 A.k (by decide) (by decide) fl_Jx4a65c_63 sf_Jx4a65c_modCount rfl ?_
  refine wp_iconst (nI 1) dJx4a65c_add_9ea2d_5 (by decide) ?_
  refine wp_iadd dJx4a65c_add_9ea2d_6 ?_
  refine wp_putIS 2 0 dJx4a65c_add_9ea2d_7 A.k (by decide) (by decide) (by decide) fl_Jx4a65c_63 sf_Jx4a65c_modCount rfl (fun _ _ => rfl) rfl rfl ?_
  refine wp_aload_n (i := 0) dJx4a65c_add_9ea2d_10 rfl rfl ?_
  refine wp_aload_n (i := 1) dJx4a65c_add_9ea2d_11 rfl rfl ?_
  refine wp_aload_n (i := 0) dJx4a65c_add_9ea2d_12 rfl rfl ?_
  refine wp_get 2 1 (vr (some D)) dJx4a65c_add_9ea2d_13 A.mod.k (by decide) (by decide) fl_Jx4a65c_9 (congrArg (fun z => toV (vr z)) (A.mod.d)) ?_
  refine wp_aload_n (i := 0) dJx4a65c_add_9ea2d_16 rfl rfl ?_
  refine wp_get 2 2 (vi (nI n)) dJx4a65c_add_9ea2d_17 A.mod.k (by decide) (by decide) fl_Jx4a65c_48 (congrArg (fun z => toV (vi z)) (A.mod.s)) ?_
  refine wp_cV (y' := m_Jx4a65c_add_72be8) 2 [vr (some x), vr (some D), vi (nI n)] [] 1 (10 + 2 * n) dJx4a65c_add_9ea2d_20 ml_Jx4a65c_131 im_Jx4a65c_add_72be8 se_Jx4a65c_add_72be8 (by decide) A.mod.k ok_Jx4a65c_add_72be8 rfl (Nat.le_of_ble_eq_true rfl) rfl (Nat.le_of_ble_eq_true rfl) (d' := d - 1) (by omega) (by omega) (by omega) (c_AL_add3 A.mod hn hx hxg hxl (by omega) (Nat.le_refl _) (Nat.le_refl _) (fun h' g' D' e1 e2 => cont_void ?_))
  refine wp_iconst (nI 1) dJx4a65c_add_9ea2d_23 (by decide) ?_
  refine wp_zreturn dJx4a65c_add_9ea2d_24 rfl (by decide) ?_
  exact hq _ _ _ e1 (fun a h1 h2 => (e2 a h1 h2).trans (ce_wI h1))
theorem AL.clr {h H : Hp} {l ρ i g n D : Nat} {f : Nat → Nat} (A : AL h l ρ i g n D f) (hk : h_k H = h_k h) (hn : h_n H = h_n h) (hd : h_R H l 1 = some D) (hs : h_I H l 2 = nI 0) : AL H l ρ i g 0 D f :=
  ⟨⟨by rw [hk]; exact A.k, hd, hs, by rw [hk]; exact A.dk, Nat.zero_le _, by rw [hn]; exact A.c, fun j hj => absurd hj (Nat.not_lt_zero _)⟩, by rw [hn]; exact A.2.1, by rw [hk]; exact A.2.2⟩
