/-! The class: rows copied and filled; nodes made. -/
theorem l64_1 {a b : Int32} (h : b.toInt = a.toInt + 1) : a.toInt64 + 1 = b.toInt64 := by
  apply Int64.toInt_inj.mp
  have h1 := Int32.toInt_lt a
  have h2 := Int32.le_toInt a
  rw [Int64.toInt_add, Int32.toInt_toInt64, Int32.toInt_toInt64, show (1 : Int64).toInt = 1 by decide, h]
  exact Int.bmod_eq_of_le (by omega) (by omega)
theorem l64_s {a b c : Int32} (h : b.toInt = a.toInt + c.toInt) : (b.toInt64 - a.toInt64).toInt32 = c := by
  apply Int32.toInt_inj.mp
  have h1 := Int32.toInt_lt a
  have h2 := Int32.le_toInt a
  have h3 := Int32.toInt_lt b
  have h4 := Int32.le_toInt b
  have h5 := Int32.toInt_lt c
  have h6 := Int32.le_toInt c
  rw [Int64.toInt_toInt32, Int64.toInt_sub, Int32.toInt_toInt64, Int32.toInt_toInt64, h, show a.toInt + c.toInt - a.toInt = c.toInt by omega]
  rw [Int.bmod_eq_of_le (n := c.toInt) (m := 2 ^ 64) (by omega) (by omega)]
  exact Int.bmod_eq_of_le (by omega) (by omega)
/-- the maker, and how many nodes it made -/
def MKR (h : Hp) (c : Nat) : Prop := h_k h (nm 40 2) = 7 ∧ h_L h (nm 40 2) 0 = (nI c).toInt64
theorem MKR.frm {h h' : Hp} {c : Nat} (H : MKR h c) (e : ce h' (nm 40 2) = ce h (nm 40 2)) : MKR h' c := ⟨(ce_k e).trans H.1, by rw [ce_L e]; exact H.2⟩
theorem MKR.s {h : Hp} {c : Nat} (H : MKR h c) (hc : c < 1000000) : MKR (wL h (nm 40 2) 0 ((nI c).toInt64 + 1)) (c + 1) := ⟨H.1, by rw [gL_wL, if_pos ⟨rfl, rfl⟩]; exact l64_1 (by rw [nI_toInt (by omega), nI_toInt (by omega)]; omega)⟩
def W1 (k : Nat) : Nat → Prop := fun a => CNo k a ∨ a = nm 40 2
theorem W1_n {t r i : Nat} (h : ¬ (45 ≤ r ∧ r ≤ 48 ∧ i = t)) (h2 : ¬ (r = 40 ∧ i = 2)) (hr : r < 128) : ¬ W1 t (nm r i) := fun z => z.elim (CNo_n h hr) (fun z => by unfold nm at z; omega)
theorem Fr.o1 {h h' : Hp} {k : Nat} (F : Fr h h' (CNo k)) : Fr h h' (W1 k) := fun a ha => F a (fun z => ha (Or.inl z))
set_option maxRecDepth 100000 in
set_option maxHeartbeats 4000000 in
theorem l_J7_fill {G : GG} {d bc bs : Nat} {Q : Pst} {h0 : Hp} {a n : Nat} {v : Int32} (hn31 : n < 2 ^ 31) (hq : ∀ h', h_k h' a = 101 → h_n h' a = n → (∀ j, j < n → h_I h' a j = v) → (∀ b, b ≠ a → ce h' b = ce h0 b) → Q oVoid h') : ∀ m i H, i + m = n → h_k H a = 101 → h_n H a = n → (∀ j, j < i → h_I H a j = v) → (∀ b, b ≠ a → ce H b = ce h0 b) → WP G m_J7_fill_53178 d 5 [(2, vi (nI i)), (0, vr (some a)), (1, vi v), (3, vi (nI n))] [] H bc bs Q := by
  intro m
  induction m with
  | zero =>
    intro i H hi hk hn hv hF
    have hi : i = n := hi
    subst hi
    refine wp_iload_n (i := 2) dJ7_fill_53178_5 rfl rfl ?_
    refine wp_iload_n (i := 3) dJ7_fill_53178_6 rfl rfl ?_
    refine wp_icmp_geN 20 dJ7_fill_53178_7 (by decide) (by omega) (by omega) (fun c_7 => ?_) (fun c_7 => absurd c_7 (by omega))
    refine wp_return dJ7_fill_53178_20 rfl ?_
    exact hq _ hk hn hv hF
  | succ m ih =>
    intro i H hi hk hn hv hF
    refine wp_iload_n (i := 2) dJ7_fill_53178_5 rfl rfl ?_
    refine wp_iload_n (i := 3) dJ7_fill_53178_6 rfl rfl ?_
    refine wp_icmp_geN 20 dJ7_fill_53178_7 (by decide) (by omega) (by omega) (fun c_7 => absurd c_7 (by omega)) (fun c_7 => ?_)
    refine wp_aload_n (i := 0) dJ7_fill_53178_10 rfl rfl ?_
    refine wp_iload_n (i := 2) dJ7_fill_53178_11 rfl rfl ?_
    refine wp_iload_n (i := 1) dJ7_fill_53178_12 rfl rfl ?_
    refine wp_iastoreN n dJ7_fill_53178_13 hk hn (by omega) (by omega) ?_
    refine wp_iincN (a := i) (lv' := [(2, vi (nI (i + 1))), (0, vr (some a)), (1, vi v), (3, vi (nI n))]) 1 dJ7_fill_53178_14 rfl (by decide) (by decide) rfl ?_
    refine wp_goto 5 dJ7_fill_53178_17 (by decide) ?_
    refine wp_sub [(2, vi (nI (i + 1))), (0, vr (some a)), (1, vi v), (3, vi (nI n))] (sb_cons (.head _) (sb_cons (.tail _ (.head _)) (sb_cons (.tail _ (.tail _ (.head _))) (sb_cons (.tail _ (.tail _ (.tail _ (.head _)))) sb_nil)))) ?_
    refine ih (i + 1) _ (by omega) hk hn (fun j hj => ?_) (fun b hb => (ce_wI hb).trans (hF b hb))
    rw [gI_wI]
    by_cases e : j = i
    · rw [if_pos ⟨rfl, e⟩]
    · rw [if_neg (fun z => e z.2)]; exact hv j (by omega)
set_option maxRecDepth 100000 in
set_option maxHeartbeats 4000000 in
theorem c_J7_fill {G : GG} {d bc bs : Nat} {h : Hp} {Q : Pst} {a n : Nat} {v : Int32} (hn31 : n < 2 ^ 31) (hk : h_k h a = 101) (hn : h_n h a = n) (hq : ∀ h', h_k h' a = 101 → h_n h' a = n → (∀ j, j < n → h_I h' a j = v) → (∀ b, b ≠ a → ce h' b = ce h b) → Q oVoid h') : WP G m_J7_fill_53178 d 0 (aargs 0 [vr (some a), vi v]) [] h bc bs Q := by
  refine wp_sub [(0, vr (some a)), (1, vi v)] (fun _ hz => hz) ?_
  refine wp_iconst (nI 0) dJ7_fill_53178_0 (by decide) ?_
  refine wp_istore_n (i := 2) (lv' := [(2, vi (nI 0)), (0, vr (some a)), (1, vi v)]) dJ7_fill_53178_1 rfl (by decide) rfl ?_
  refine wp_aload_n (i := 0) dJ7_fill_53178_2 rfl rfl ?_
  refine wp_alen dJ7_fill_53178_3 (arTy_101 hk) ?_
  rw [hn]
  refine wp_istore_n (i := 3) (lv' := [(3, vi (nI n)), (2, vi (nI 0)), (0, vr (some a)), (1, vi v)]) dJ7_fill_53178_4 rfl (by decide) rfl ?_
  refine wp_sub [(2, vi (nI 0)), (0, vr (some a)), (1, vi v), (3, vi (nI n))] (sb_cons (.tail _ (.head _)) (sb_cons (.tail _ (.tail _ (.head _))) (sb_cons (.tail _ (.tail _ (.tail _ (.head _)))) (sb_cons (.head _) sb_nil)))) ?_
  exact l_J7_fill hn31 hq n 0 _ (by omega) hk hn (fun j hj => absurd hj (Nat.not_lt_zero _)) (fun b _ => rfl)
set_option maxRecDepth 100000 in
set_option maxHeartbeats 4000000 in
theorem c_J7_copyI {G : GG} {d bc bs : Nat} {h : Hp} {Q : Pst} {a M q : Nat} (hk : h_k h a = 101) (hn4 : h_n h a ≤ 60000) (hM : M ≤ 60000) (hq0 : h_k h q = 0) (hd : 2 ≤ d) (hbc : 1 ≤ bc) (hbs : M ≤ bs) (hq : ∀ h', h_k h' q = 101 → h_n h' q = M → (∀ j, j < min (h_n h a) M → h_I h' q j = h_I h a j) → (∀ j, h_n h a ≤ j → j < M → h_I h' q j = 0) → (∀ b, b ≠ q → ce h' b = ce h b) → Q (oRet (vr (some q))) h') : WP G m_J7_copyOf_59c91 d 0 (aargs 0 [vr (some a), vi (nI M)]) [] h bc bs Q := by
  refine wp_sub [(0, vr (some a)), (1, vi (nI M))] (fun _ hz => hz) ?_
  refine wp_iload_n (i := 1) dJ7_copyOf_59c91_0 rfl rfl ?_
  refine wp_aload_n (i := 0) dJ7_copyOf_59c91_1 rfl rfl ?_
  refine wp_alen dJ7_copyOf_59c91_2 (arTy_101 hk) ?_
  rw [show h_n h a = h_n h a from rfl]
  refine wp_icmp_neN 14 dJ7_copyOf_59c91_3 (by decide) (by omega) (by omega) (fun c_3 => ?_) (fun c_3 => ?_)
  · skip
    refine wp_iload_n (i := 1) dJ7_copyOf_59c91_14 rfl rfl ?_
    refine wp_newarray 101 M .int dJ7_copyOf_59c91_15 rfl rfl aw_int (nI_nn (by omega)) (nI_clamp (by omega)) (by omega) (by decide) pl_int (by omega) (by omega) q hq0 ?_
    refine wp_astore_n (i := 2) (lv' := [(2, vr (some q)), (0, vr (some a)), (1, vi (nI M))]) dJ7_copyOf_59c91_17 rfl (by decide) rfl ?_
    refine wp_aload_n (i := 0) dJ7_copyOf_59c91_18 rfl rfl ?_
    refine wp_iconst (nI 0) dJ7_copyOf_59c91_19 (by decide) ?_
    refine wp_aload_n (i := 2) dJ7_copyOf_59c91_20 rfl rfl ?_
    refine wp_iconst (nI 0) dJ7_copyOf_59c91_21 (by decide) ?_
    refine wp_aload_n (i := 0) dJ7_copyOf_59c91_22 rfl rfl ?_
    refine wp_alen dJ7_copyOf_59c91_23 (arTy_101 (by rw [gk_mk, if_neg (fun e => by rw [← e, hk] at hq0; cases hq0)]; exact hk)) ?_
    rw [show h_n _ a = h_n h a from by first | rfl | (rw [gn_mk, if_neg (fun e => by rw [← e, hk] at hq0; cases hq0)])]
    refine wp_iload_n (i := 1) dJ7_copyOf_59c91_24 rfl rfl ?_
    refine wp_minN dJ7_copyOf_59c91_25 ml_J7_304 st_J9_min_7cf53 co_J9_min (by omega) (Nat.le_of_ble_eq_true rfl) (by omega) (by omega) ?_
    have hqa : q ≠ a := fun e => by rw [e, hk] at hq0; cases hq0
    have hka : h_k (mk h q 101 M) a = 101 := by rw [gk_mk, if_neg (fun e => hqa e.symm)]; exact hk
    have hna : h_n (mk h q 101 M) a = h_n h a := by rw [gn_mk, if_neg (fun e => hqa e.symm)]
    have hkq : h_k (mk h q 101 M) q = 101 := by rw [gk_mk, if_pos rfl]
    have hnq : h_n (mk h q 101 M) q = M := by rw [gn_mk, if_pos rfl]
    have e0 : (nI 0).toNatClampNeg = 0 := rfl
    have em : (nI (min (h_n h a) M)).toNatClampNeg = min (h_n h a) M := nI_clamp (by omega)
    refine wp_copyI dJ7_copyOf_59c91_28 ml_J7_150 na_java_lang_System_arraycopy__Ljava_lang_Object_ILjava_lang_Object_II_V st_java_lang_System_arraycopy__Ljava_lang_Object_ILjava_lang_Object_II_V ini_J10 (by omega) (Nat.le_of_ble_eq_true rfl) hka hkq (by decide) (by decide) (nI_nn (by omega)) (by rw [e0, em, hna]; omega) (by rw [e0, em, hnq]; omega) ?_
    rw [e0, em]
    refine wp_aload_n (i := 2) dJ7_copyOf_59c91_31 rfl rfl ?_
    refine wp_areturn dJ7_copyOf_59c91_32 rfl (Or.inr ⟨_, rfl⟩) ?_
    refine hq _ (by rw [gk_cpI]; exact hkq) (by rw [gn_cpI]; exact hnq) (fun j hj => ?_) (fun j h1 h2 => ?_) (fun b hb => (ce_cpI hb).trans (ce_mk hb))
    · rw [gI_cpI, if_pos rfl]
      unfold va_cpy
      rw [if_pos (by omega), gI_mk, if_neg (fun e => hqa e.symm)]
      congr 1; omega
    · rw [gI_cpI, if_pos rfl]
      unfold va_cpy
      rw [if_neg (by omega), gI_mk, if_pos rfl]
  · skip
    refine wp_aload_n (i := 0) dJ7_copyOf_59c91_6 rfl rfl ?_
    refine wp_clone dJ7_copyOf_59c91_7 ml_J7_316 sm_670 na_java_lang_Object_clone___Ljava_lang_Object_ im_java_lang_Object_clone___Ljava_lang_Object_ sx__I_java_lang_Object_clone___Ljava_lang_Object_ ca_674 (by omega) (Nat.le_of_ble_eq_true rfl) hk (by omega) (by omega) q hq0 ?_
    refine wp_castA .int dJ7_copyOf_59c91_10 (by decide) kl_J7_317 (fun a ha => by cases ha; exact arTy_101 (by rw [gk_cpI, gk_mk, if_pos rfl])) ?_
    refine wp_areturn dJ7_copyOf_59c91_13 rfl (Or.inr ⟨_, rfl⟩) ?_
    have hMN : M = h_n h a := by omega
    have hqa : q ≠ a := fun e => by rw [e, hk] at hq0; cases hq0
    refine hq _ (by rw [gk_cpI, gk_mk, if_pos rfl]) (by rw [gn_cpI, gn_mk, if_pos rfl]; exact hMN.symm) (fun j hj => by rw [gI_cpI, if_pos rfl]) (fun j h1 h2 => by omega) (fun b hb => (ce_cpI hb).trans (ce_mk hb))
abbrev knx (h : Hp) (k lev : Nat) (o : Int32) (kk ke kb : Option Nat) : KNS := (lev, o, kk, ke, kb, 0, nI 0, h_k h (nm 46 k), h_n h (nm 46 k), h_k h (nm 47 k), h_n h (nm 47 k), h_k h (nm 48 k), h_n h (nm 48 k), h_I h (nm 46 k), h_I h (nm 47 k), h_R h (nm 48 k))
set_option maxRecDepth 100000 in
set_option maxHeartbeats 4000000 in
theorem c_X3_init {G : GG} {d bc bs : Nat} {h : Hp} {Q : Pst} {k lev : Nat} (k45 : h_k h (nm 45 k) = 6) {o : Int32} {kk ke kb : Option Nat} (hd : 1 ≤ d) (hq : ∀ h', KN h' k (knx h k lev o kk ke kb) → Fr h h' (fun a => a = nm 45 k) → Q oVoid h') : WP G m_X3_init d 0 (aargs 0 [vr (some (nm 45 k)), vi (nI lev), vi o, vr kk, vr ke, vr kb]) [] h bc bs Q := by
  refine wp_sub [(0, vr (some (nm 45 k))), (1, vi (nI lev)), (2, vi o), (3, vr kk), (4, vr ke), (5, vr kb)] (fun _ hz => hz) ?_
  refine wp_aload_n (i := 0) dX3_init_0 rfl rfl ?_
  refine wp_objInit dX3_init_1 ml_X3_3 im_java_lang_Object__init____V co_obj (by omega) (by decide) ?_
  refine wp_aload_n (i := 0) dX3_init_4 rfl rfl ?_
  refine wp_iconst (nI 0) dX3_init_5 (by decide) ?_
  refine wp_putI 5 5 dX3_init_6 (by simp [gI_wI, gI_wR, gI_mk, gR_wI, gR_wR, gR_mk, gk_wI, gk_wR, gk_mk, gn_wI, gn_wR, gn_mk, nm_eq, nm_i, k45]) (by decide) (by decide) (by decide) fl_X3_9 rfl (fun _ _ => rfl) rfl rfl ?_
  refine wp_aload_n (i := 0) dX3_init_9 rfl rfl ?_
  refine wp_iconst (nI 0) dX3_init_10 (by decide) ?_
  refine wp_putI 5 6 dX3_init_11 (by simp [gI_wI, gI_wR, gI_mk, gR_wI, gR_wR, gR_mk, gk_wI, gk_wR, gk_mk, gn_wI, gn_wR, gn_mk, nm_eq, nm_i, k45]) (by decide) (by decide) (by decide) fl_X3_15 rfl (fun _ _ => rfl) rfl rfl ?_
  refine wp_aload_n (i := 0) dX3_init_14 rfl rfl ?_
  refine wp_iload_n (i := 1) dX3_init_15 rfl rfl ?_
  refine wp_putIF 5 0 dX3_init_16 (by simp [gI_wI, gI_wR, gI_mk, gR_wI, gR_wR, gR_mk, gk_wI, gk_wR, gk_mk, gn_wI, gn_wR, gn_mk, nm_eq, nm_i, k45]) (by decide) (by decide) (by decide) fl_X3_18 rfl rfl rfl (fun _ _ => rfl) rfl rfl ?_
  refine wp_aload_n (i := 0) dX3_init_19 rfl rfl ?_
  refine wp_iload_n (i := 2) dX3_init_20 rfl rfl ?_
  refine wp_putIF 5 1 dX3_init_21 (by simp [gI_wI, gI_wR, gI_mk, gR_wI, gR_wR, gR_mk, gk_wI, gk_wR, gk_mk, gn_wI, gn_wR, gn_mk, nm_eq, nm_i, k45]) (by decide) (by decide) (by decide) fl_X3_21 rfl rfl rfl (fun _ _ => rfl) rfl rfl ?_
  refine wp_aload_n (i := 0) dX3_init_24 rfl rfl ?_
  refine wp_aload_n (i := 3) dX3_init_25 rfl rfl ?_
  refine wp_putRF 5 2 dX3_init_26 (by simp [gI_wI, gI_wR, gI_mk, gR_wI, gR_wR, gR_mk, gk_wI, gk_wR, gk_mk, gn_wI, gn_wR, gn_mk, nm_eq, nm_i, k45]) (by decide) (by decide) (by decide) fl_X3_24 rfl rfl rfl (fun _ _ => rfl) rfl ?_
  refine wp_aload_n (i := 0) dX3_init_29 rfl rfl ?_
  refine wp_aload (i := 4) dX3_init_30 rfl ?_
  refine wp_putRF 5 3 dX3_init_32 (by simp [gI_wI, gI_wR, gI_mk, gR_wI, gR_wR, gR_mk, gk_wI, gk_wR, gk_mk, gn_wI, gn_wR, gn_mk, nm_eq, nm_i, k45]) (by decide) (by decide) (by decide) fl_X3_28 rfl rfl rfl (fun _ _ => rfl) rfl ?_
  refine wp_aload_n (i := 0) dX3_init_35 rfl rfl ?_
  refine wp_aload (i := 5) dX3_init_36 rfl ?_
  refine wp_putRF 5 4 dX3_init_38 (by simp [gI_wI, gI_wR, gI_mk, gR_wI, gR_wR, gR_mk, gk_wI, gk_wR, gk_mk, gn_wI, gn_wR, gn_mk, nm_eq, nm_i, k45]) (by decide) (by decide) (by decide) fl_X3_31 rfl rfl rfl (fun _ _ => rfl) rfl ?_
  refine wp_return dX3_init_41 rfl ?_
  exact hq _ ⟨by first | (simp [gI_wI, gI_wR, gI_mk, gR_wI, gR_wR, gR_mk, gk_wI, gk_wR, gk_mk, gn_wI, gn_wR, gn_mk, nm_eq, nm_i, k45]; done) | (simp [gI_wI, gI_wR, gI_mk, gR_wI, gR_wR, gR_mk, gk_wI, gk_wR, gk_mk, gn_wI, gn_wR, gn_mk, nm_eq, nm_i, k45]; rfl), by first | (simp [gI_wI, gI_wR, gI_mk, gR_wI, gR_wR, gR_mk, gk_wI, gk_wR, gk_mk, gn_wI, gn_wR, gn_mk, nm_eq, nm_i, k45]; done) | (simp [gI_wI, gI_wR, gI_mk, gR_wI, gR_wR, gR_mk, gk_wI, gk_wR, gk_mk, gn_wI, gn_wR, gn_mk, nm_eq, nm_i, k45]; rfl), by first | (simp [gI_wI, gI_wR, gI_mk, gR_wI, gR_wR, gR_mk, gk_wI, gk_wR, gk_mk, gn_wI, gn_wR, gn_mk, nm_eq, nm_i, k45]; done) | (simp [gI_wI, gI_wR, gI_mk, gR_wI, gR_wR, gR_mk, gk_wI, gk_wR, gk_mk, gn_wI, gn_wR, gn_mk, nm_eq, nm_i, k45]; rfl), by first | (simp [gI_wI, gI_wR, gI_mk, gR_wI, gR_wR, gR_mk, gk_wI, gk_wR, gk_mk, gn_wI, gn_wR, gn_mk, nm_eq, nm_i, k45]; done) | (simp [gI_wI, gI_wR, gI_mk, gR_wI, gR_wR, gR_mk, gk_wI, gk_wR, gk_mk, gn_wI, gn_wR, gn_mk, nm_eq, nm_i, k45]; rfl), by first | (simp [gI_wI, gI_wR, gI_mk, gR_wI, gR_wR, gR_mk, gk_wI, gk_wR, gk_mk, gn_wI, gn_wR, gn_mk, nm_eq, nm_i, k45]; done) | (simp [gI_wI, gI_wR, gI_mk, gR_wI, gR_wR, gR_mk, gk_wI, gk_wR, gk_mk, gn_wI, gn_wR, gn_mk, nm_eq, nm_i, k45]; rfl), by first | (simp [gI_wI, gI_wR, gI_mk, gR_wI, gR_wR, gR_mk, gk_wI, gk_wR, gk_mk, gn_wI, gn_wR, gn_mk, nm_eq, nm_i, k45]; done) | (simp [gI_wI, gI_wR, gI_mk, gR_wI, gR_wR, gR_mk, gk_wI, gk_wR, gk_mk, gn_wI, gn_wR, gn_mk, nm_eq, nm_i, k45]; rfl), by first | (simp [gI_wI, gI_wR, gI_mk, gR_wI, gR_wR, gR_mk, gk_wI, gk_wR, gk_mk, gn_wI, gn_wR, gn_mk, nm_eq, nm_i, k45]; done) | (simp [gI_wI, gI_wR, gI_mk, gR_wI, gR_wR, gR_mk, gk_wI, gk_wR, gk_mk, gn_wI, gn_wR, gn_mk, nm_eq, nm_i, k45]; rfl), by first | (simp [gI_wI, gI_wR, gI_mk, gR_wI, gR_wR, gR_mk, gk_wI, gk_wR, gk_mk, gn_wI, gn_wR, gn_mk, nm_eq, nm_i, k45]; done) | (simp [gI_wI, gI_wR, gI_mk, gR_wI, gR_wR, gR_mk, gk_wI, gk_wR, gk_mk, gn_wI, gn_wR, gn_mk, nm_eq, nm_i, k45]; rfl), ⟨rfl, rfl⟩, ⟨rfl, rfl⟩, ⟨rfl, rfl⟩, by intro j; first | rfl | (simp [gI_wI, gI_wR, gI_mk, gR_wI, gR_wR, gR_mk, gk_wI, gk_wR, gk_mk, gn_wI, gn_wR, gn_mk, nm_eq, nm_i]; done), by intro j; first | rfl | (simp [gI_wI, gI_wR, gI_mk, gR_wI, gR_wR, gR_mk, gk_wI, gk_wR, gk_mk, gn_wI, gn_wR, gn_mk, nm_eq, nm_i]; done), by intro j; first | rfl | (simp [gI_wI, gI_wR, gI_mk, gR_wI, gR_wR, gR_mk, gk_wI, gk_wR, gk_mk, gn_wI, gn_wR, gn_mk, nm_eq, nm_i]; done)⟩ (fun a ha => (ce_wR ha).trans ((ce_wR ha).trans ((ce_wR ha).trans ((ce_wI ha).trans ((ce_wI ha).trans ((ce_wI ha).trans (ce_wI ha)))))))
/-- a leaf of a vector; a node above leaves -/
def LFx (k : Nat) (o : Int32) (el : Nat → Int32) (x : KNS) : Prop := KN_lev x = 0 ∧ KN_own x = o ∧ KN_kk x = none ∧ KN_ke x = some (nm 47 k) ∧ KN_kb x = none ∧ KN_a7 x = 101 ∧ KN_n7 x = 4 ∧ (∀ p, p < 4 → KN_el x p = el p) ∧ KN_kc x = 0
def INx (k : Nat) (o : Int32) (bl : Nat → Option Nat) (x : KNS) : Prop := KN_lev x = 0 ∧ KN_own x = o ∧ KN_kk x = none ∧ KN_ke x = none ∧ KN_kb x = some (nm 48 k) ∧ KN_a8 x = 116 ∧ KN_n8 x = 4 ∧ (∀ p, p < 4 → KN_bl x p = bl p) ∧ KN_kc x = 0
theorem LFx.w {k : Nat} {o : Int32} {el : Nat → Int32} {x : KNS} (H : LFx k o el x) : WFN k x := ⟨Or.inl H.2.2.1, Or.inr ⟨H.2.2.2.1, H.2.2.2.2.2.1, by rw [H.2.2.2.2.2.2.1]; decide⟩, Or.inl H.2.2.2.2.1, by rw [H.1]; decide, by rw [H.2.2.2.2.2.2.2.2]; decide⟩
theorem INx.w {k : Nat} {o : Int32} {bl : Nat → Option Nat} {x : KNS} (H : INx k o bl x) : WFN k x := ⟨Or.inl H.2.2.1, Or.inl H.2.2.2.1, Or.inr ⟨H.2.2.2.2.1, H.2.2.2.2.2.1, H.2.2.2.2.2.2.1⟩, by rw [H.1]; decide, by rw [H.2.2.2.2.2.2.2.2]; decide⟩
set_option maxRecDepth 100000 in
set_option maxHeartbeats 4000000 in
theorem c_X4_freshLeaf {G : GG} {d bc bs : Nat} {h : Hp} {Q : Pst} {k c : Nat} (hM : MKR h c) (hc : c < 1000000) (f45 : h_k h (nm 45 k) = 0) (f47 : h_k h (nm 47 k) = 0) {o : Int32} (hd : 2 ≤ d) (hbc : 2 ≤ bc) (hbs : 11 ≤ bs) (hq : ∀ h' x, KN h' k x → LFx k o (fun _ => nI 0) x → KN_mk x = nI 0 → MKR h' (c + 1) → Fr h h' (W1 k) → Q (oRet (vr (some (nm 45 k)))) h') : WP G m_X4_freshLeaf d 0 (aargs 0 [vr (some (nm 40 2)), vi o]) [] h bc bs Q := by
  have q5 : clN 5 = 7 := rfl
  refine wp_sub [(0, vr (some (nm 40 2))), (1, vi o)] (fun _ hz => hz) ?_
  refine wp_aload_n (i := 0) dX4_freshLeaf_0 rfl rfl ?_
  refine wp_dup dX4_freshLeaf_1 ?_
  refine wp_get 6 0 (vl ((nI c).toInt64)) dX4_freshLeaf_2 hM.1 (by decide) (by decide) fl_X4_9 (congrArg (fun z => toV (vl z)) (hM.2)) ?_
  refine wp_lconst (1) dX4_freshLeaf_5 (by decide) ?_
  refine wp_ladd dX4_freshLeaf_6 ?_
  refine wp_putL 6 0 dX4_freshLeaf_7 hM.1 (by decide) (by decide) (by decide) fl_X4_9 rfl (fun _ _ => rfl) rfl rfl ?_
  refine wp_new 5 dX4_freshLeaf_10 (by decide) kl_X4_15 ins_X3 ini_X3 (by omega) (by show 7 ≤ _; omega) (nm 45 k) (by simp [gk_wL, gk_mk, nm_eq, nm_i]; exact f45) ?_
  refine wp_dup dX4_freshLeaf_13 ?_
  refine wp_iconst (nI 0) dX4_freshLeaf_14 (by decide) ?_
  refine wp_iload_n (i := 1) dX4_freshLeaf_15 rfl rfl ?_
  refine wp_null dX4_freshLeaf_16 ?_
  refine wp_iconst (nI 4) dX4_freshLeaf_17 (by decide) ?_
  refine wp_newarray 101 4 .int dX4_freshLeaf_18 rfl rfl aw_int (nI_nn (by omega)) (nI_clamp (by omega)) (by omega) (by decide) pl_int (by omega) (by omega) (nm 47 k) (by rw [gk_mk, if_neg (nm_ne (by decide) (by decide) (by decide)), gk_wL]; exact f47) ?_
  refine wp_null dX4_freshLeaf_20 ?_
  refine wp_cI (y' := m_X3_init) [vi (nI 0), vi o, vr none, vr (some (nm 47 k)), vr none] [vr (some (nm 45 k))] 0 0 dX4_freshLeaf_21 ml_X4_17 im_X3_init rfl rfl ok_X3_init rfl (Nat.le_of_ble_eq_true rfl) rfl (Nat.le_of_ble_eq_true rfl) (d' := d - 1) (by omega) (Nat.zero_le _) (Nat.zero_le _) (c_X3_init (k := k) (lev := 0) (by rw [gk_mk, if_neg (nm_ne (by decide) (by decide) (by decide)), gk_mk, if_pos rfl]) (by omega) (fun h3 K3 F3 => cont_void ?_))
  refine wp_areturn dX4_freshLeaf_24 rfl (Or.inl ⟨_, rfl⟩) ?_
  have e9 : ∀ a, ¬ W1 k a → ce (mk (mk (wL h (nm 40 2) 0 ((nI c).toInt64 + 1)) (nm 45 k) 6 0) (nm 47 k) 101 4) a = ce h a := fun a ha => (ce_mk (fun e => ha (Or.inl (by rw [e]; unfold CNo nm; omega)))).trans ((ce_mk (fun e => ha (Or.inl (by rw [e]; unfold CNo nm; omega)))).trans (ce_wL (fun e => ha (Or.inr e))))
  have hM1 : MKR h3 (c + 1) := (hM.s (by omega)).frm ((F3 _ (fun e => by unfold nm at e; omega)).trans ((ce_mk (fun e => by unfold nm at e; omega)).trans (ce_mk (fun e => by unfold nm at e; omega))))
  exact hq _ _ K3 ⟨rfl, rfl, rfl, rfl, rfl, (show h_k (mk (mk (wL h (nm 40 2) 0 ((nI c).toInt64 + 1)) (nm 45 k) 6 0) (nm 47 k) 101 4) (nm 47 k) = 101 by rw [gk_mk, if_pos rfl]), (show h_n (mk (mk (wL h (nm 40 2) 0 ((nI c).toInt64 + 1)) (nm 45 k) 6 0) (nm 47 k) 101 4) (nm 47 k) = 4 by rw [gn_mk, if_pos rfl]), fun j _ => (show h_I (mk (mk (wL h (nm 40 2) 0 ((nI c).toInt64 + 1)) (nm 45 k) 6 0) (nm 47 k) 101 4) (nm 47 k) j = nI 0 from gI_mk.trans (if_pos rfl)), rfl⟩ rfl hM1 (fun a ha => (F3 a (fun e => ha (Or.inl (by rw [e]; unfold CNo nm; omega)))).trans (e9 a ha))
set_option maxRecDepth 100000 in
set_option maxHeartbeats 4000000 in
theorem c_X4_freshInner {G : GG} {d bc bs : Nat} {h : Hp} {Q : Pst} {k c : Nat} (hM : MKR h c) (hc : c < 1000000) (f45 : h_k h (nm 45 k) = 0) (f48 : h_k h (nm 48 k) = 0) {o : Int32} (hd : 2 ≤ d) (hbc : 2 ≤ bc) (hbs : 11 ≤ bs) (hq : ∀ h' x, KN h' k x → INx k o (fun _ => none) x → KN_mk x = nI 0 → MKR h' (c + 1) → Fr h h' (W1 k) → Q (oRet (vr (some (nm 45 k)))) h') : WP G m_X4_freshInner d 0 (aargs 0 [vr (some (nm 40 2)), vi o]) [] h bc bs Q := by
  have q5 : clN 5 = 7 := rfl
  refine wp_sub [(0, vr (some (nm 40 2))), (1, vi o)] (fun _ hz => hz) ?_
  refine wp_aload_n (i := 0) dX4_freshInner_0 rfl rfl ?_
  refine wp_dup dX4_freshInner_1 ?_
  refine wp_get 6 0 (vl ((nI c).toInt64)) dX4_freshInner_2 hM.1 (by decide) (by decide) fl_X4_9 (congrArg (fun z => toV (vl z)) (hM.2)) ?_
  refine wp_lconst (1) dX4_freshInner_5 (by decide) ?_
  refine wp_ladd dX4_freshInner_6 ?_
  refine wp_putL 6 0 dX4_freshInner_7 hM.1 (by decide) (by decide) (by decide) fl_X4_9 rfl (fun _ _ => rfl) rfl rfl ?_
  refine wp_new 5 dX4_freshInner_10 (by decide) kl_X4_15 ins_X3 ini_X3 (by omega) (by show 7 ≤ _; omega) (nm 45 k) (by simp [gk_wL, gk_mk, nm_eq, nm_i]; exact f45) ?_
  refine wp_dup dX4_freshInner_13 ?_
  refine wp_iconst (nI 0) dX4_freshInner_14 (by decide) ?_
  refine wp_iload_n (i := 1) dX4_freshInner_15 rfl rfl ?_
  refine wp_null dX4_freshInner_16 ?_
  refine wp_null dX4_freshInner_17 ?_
  refine wp_iconst (nI 4) dX4_freshInner_18 (by decide) ?_
  refine wp_anewarray 116 4 dX4_freshInner_19 rfl (by decide) kl_X4_15 (nI_nn (by omega)) (nI_clamp (by omega)) (by omega) (by omega) (by omega) (nm 48 k) (by rw [gk_mk, if_neg (nm_ne (by decide) (by decide) (by decide)), gk_wL]; exact f48) ?_
  refine wp_cI (y' := m_X3_init) [vi (nI 0), vi o, vr none, vr none, vr (some (nm 48 k))] [vr (some (nm 45 k))] 0 0 dX4_freshInner_22 ml_X4_17 im_X3_init rfl rfl ok_X3_init rfl (Nat.le_of_ble_eq_true rfl) rfl (Nat.le_of_ble_eq_true rfl) (d' := d - 1) (by omega) (Nat.zero_le _) (Nat.zero_le _) (c_X3_init (k := k) (lev := 0) (by rw [gk_mk, if_neg (nm_ne (by decide) (by decide) (by decide)), gk_mk, if_pos rfl]) (by omega) (fun h3 K3 F3 => cont_void ?_))
  refine wp_areturn dX4_freshInner_25 rfl (Or.inl ⟨_, rfl⟩) ?_
  have e9 : ∀ a, ¬ W1 k a → ce (mk (mk (wL h (nm 40 2) 0 ((nI c).toInt64 + 1)) (nm 45 k) 6 0) (nm 48 k) 116 4) a = ce h a := fun a ha => (ce_mk (fun e => ha (Or.inl (by rw [e]; unfold CNo nm; omega)))).trans ((ce_mk (fun e => ha (Or.inl (by rw [e]; unfold CNo nm; omega)))).trans (ce_wL (fun e => ha (Or.inr e))))
  have hM1 : MKR h3 (c + 1) := (hM.s (by omega)).frm ((F3 _ (fun e => by unfold nm at e; omega)).trans ((ce_mk (fun e => by unfold nm at e; omega)).trans (ce_mk (fun e => by unfold nm at e; omega))))
  exact hq _ _ K3 ⟨rfl, rfl, rfl, rfl, rfl, (show h_k (mk (mk (wL h (nm 40 2) 0 ((nI c).toInt64 + 1)) (nm 45 k) 6 0) (nm 48 k) 116 4) (nm 48 k) = 116 by rw [gk_mk, if_pos rfl]), (show h_n (mk (mk (wL h (nm 40 2) 0 ((nI c).toInt64 + 1)) (nm 45 k) 6 0) (nm 48 k) 116 4) (nm 48 k) = 4 by rw [gn_mk, if_pos rfl]), fun j _ => (show h_R (mk (mk (wL h (nm 40 2) 0 ((nI c).toInt64 + 1)) (nm 45 k) 6 0) (nm 48 k) 116 4) (nm 48 k) j = none from gR_mk.trans (if_pos rfl)), rfl⟩ rfl hM1 (fun a ha => (F3 a (fun e => ha (Or.inl (by rw [e]; unfold CNo nm; omega)))).trans (e9 a ha))
