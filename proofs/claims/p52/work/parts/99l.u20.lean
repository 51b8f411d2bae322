/-! The class: values kept; nodes counted and marked. -/
theorem CVh.add {h : Hp} {n M : Nat} (H : CVh h n M) : CVh (wI (wR h (nm 40 1) n (some (nm 42 n))) (nm 40 0) 1 (nI (n + 1))) (n + 1) M ∧ FRV h (wI (wR h (nm 40 1) n (some (nm 42 n))) (nm 40 0) 1 (nI (n + 1))) := by
  obtain ⟨⟨a1, a2, a3, a4, a5⟩, ⟨b1, b2⟩, c⟩ := H
  have n1 : (nm 40 1 : Nat) ≠ nm 40 0 := by unfold nm; omega
  have hR0 : ∀ j, h_R (wI (wR h (nm 40 1) n (some (nm 42 n))) (nm 40 0) 1 (nI (n + 1))) (nm 40 0) j = h_R h (nm 40 0) j := fun j => by rw [gR_wI, gR_wR, if_neg (fun z => n1 z.1.symm)]
  refine ⟨⟨⟨a1, (hR0 0).trans a2, by rw [gI_wI, if_pos ⟨rfl, rfl⟩], (hR0 2).trans a4, by rw [gI_wI, if_neg (fun z => absurd z.2 (by decide)), gI_wR]; exact a5⟩, ⟨b1, b2⟩, fun v hv => ?_⟩, ?_⟩
  · rw [gR_wI, gR_wR]
    by_cases z : v = n
    · rw [if_pos ⟨rfl, z⟩, z]
    · rw [if_neg (fun y => z y.2)]; exact c v (by omega)
  · exact ⟨fun a ha => (ce_wI (fun z => ha (Or.inl z))).trans (ce_wR (fun z => ha (Or.inr (Or.inl z)))), ⟨rfl, rfl, funext hR0, rfl, rfl⟩, fun j j1 j3 => by rw [gI_wI, if_neg (fun z => j1 z.2), gI_wR]⟩
set_option maxRecDepth 100000 in
set_option maxHeartbeats 4000000 in
theorem c_X11_keep {G : GG} {d bc bs : Nat} {h : Hp} {Q : Pst} {n M : Nat} {x : KUS} (hC : CVh h n M) (hn : n < 60) (K : KU h n x) (hq : ∀ h', CVh h' (n + 1) M → (∀ a, a ≠ nm 40 0 → a ≠ nm 40 1 → ce h' a = ce h a) → FRV h h' → Q (oRet (vi (nI n))) h') : WP G m_X11_keep d 0 (aargs 0 [vr (some (nm 40 0)), vr (some (nm 42 n))]) [] h bc bs Q := by
  refine wp_sub [(0, vr (some (nm 40 0))), (1, vr (some (nm 42 n)))] (fun _ hz => hz) ?_
  refine wp_aload_n (i := 0) dX11_keep_0 rfl rfl ?_
  refine wp_get 12 0 (vr (some (nm 40 1))) dX11_keep_1 hC.1.1 (by decide) (by decide) fl_X11_11 (congrArg (fun z => toV (vr z)) (hC.1.2.1)) ?_
  refine wp_aload_n (i := 0) dX11_keep_4 rfl rfl ?_
  refine wp_get 12 1 (vi (nI n)) dX11_keep_5 hC.1.1 (by decide) (by decide) fl_X11_15 (congrArg (fun z => toV (vi z)) (hC.1.2.2.1)) ?_
  refine wp_aload_n (i := 1) dX11_keep_8 rfl rfl ?_
  refine wp_aastoreN 10 60 dX11_keep_9 ((arTy_110 hC.2.1.1)) (by decide) hC.2.1.2 (by omega) (by decide) (fun v hv => by cases hv; exact K.k0) ?_
  refine wp_aload_n (i := 0) dX11_keep_10 rfl rfl ?_
  refine wp_dup dX11_keep_11 ?_
  refine wp_get 12 1 (vi (nI n)) dX11_keep_12 hC.1.1 (by decide) (by decide) fl_X11_15 (congrArg (fun z => toV (vi z)) (hC.1.2.2.1)) ?_
  refine wp_iconst (nI 1) dX11_keep_15 (by decide) ?_
  refine wp_iaddN dX11_keep_16 ?_
  refine wp_putI 12 1 dX11_keep_17 hC.1.1 (by decide) (by decide) (by decide) fl_X11_15 rfl (fun _ _ => rfl) rfl rfl ?_
  refine wp_aload_n (i := 0) dX11_keep_20 rfl rfl ?_
  refine wp_get 12 1 (vi (nI (n + 1))) dX11_keep_21 hC.1.1 (by decide) (by decide) fl_X11_15 (congrArg (fun z => toV (vi z)) (by rw [gI_wI, if_pos ⟨rfl, rfl⟩])) ?_
  refine wp_iconst (nI 1) dX11_keep_24 (by decide) ?_
  refine wp_isubN dX11_keep_25 (by omega) ?_
  refine wp_ireturn dX11_keep_26 rfl ?_
  rw [show n + 1 - 1 = n from rfl]
  exact hq _ hC.add.1 (fun a h0 h1 => (ce_wI h0).trans (ce_wR h1)) hC.add.2
set_option maxRecDepth 100000 in
set_option maxHeartbeats 4000000 in
theorem c_X11_keepVector {G : GG} {d bc bs : Nat} {h : Hp} {Q : Pst} {n M sz : Nat} {tp pe : Option Nat} (hC : CVh h n M) (hn : n < 60) (hsz : sz ≤ 64) (f42 : h_k h (nm 42 n) = 0) (hd : 3 ≤ d) (hbc : 1 ≤ bc) (hbs : 5 ≤ bs) (hq : ∀ h', CVh h' (n + 1) M → KU h' n (0, tp, sz, none, pe) → (∀ a, a ≠ nm 40 0 → a ≠ nm 40 1 → a ≠ nm 42 n → ce h' a = ce h a) → FRV h h' → Q (oRet (vi (nI n))) h') : WP G m_X11_keepVector d 0 (aargs 0 [vr (some (nm 40 0)), vr tp, vi (nI sz), vr pe]) [] h bc bs Q := by
  have q8 : clN 10 = 5 := rfl
  refine wp_sub [(0, vr (some (nm 40 0))), (1, vr tp), (2, vi (nI sz)), (3, vr pe)] (fun _ hz => hz) ?_
  refine wp_aload_n (i := 0) dX11_keepVector_0 rfl rfl ?_
  refine wp_new 10 dX11_keepVector_1 (by decide) kl_X11_9 ins_X8 ini_X8 (by omega) (by show 5 ≤ _; omega) (nm 42 n) f42 ?_
  refine wp_dup dX11_keepVector_4 ?_
  refine wp_iconst (nI 0) dX11_keepVector_5 (by decide) ?_
  refine wp_aload_n (i := 1) dX11_keepVector_6 rfl rfl ?_
  refine wp_iload_n (i := 2) dX11_keepVector_7 rfl rfl ?_
  refine wp_null dX11_keepVector_8 ?_
  refine wp_aload_n (i := 3) dX11_keepVector_9 rfl rfl ?_
  refine wp_cI (y' := m_X8_init) [vi (nI 0), vr tp, vi (nI sz), vr none, vr pe] [vr (some (nm 42 n)), vr (some (nm 40 0))] 0 0 dX11_keepVector_10 ml_X11_161 im_X8_init rfl rfl ok_X8_init rfl (Nat.le_of_ble_eq_true rfl) rfl (Nat.le_of_ble_eq_true rfl) (d' := d - 1) (by omega) (Nat.zero_le _) (Nat.zero_le _) (c_X8_init (v := n) (kd := 0) (by rw [gk_mk, if_pos rfl]) (by omega) (fun h1 K1 F1 => cont_void ?_))
  have G1 : ∀ a, a ≠ nm 42 n → ce h1 a = ce h a := fun a ha => (F1 a ha).trans (ce_mk ha)
  have C1 : CVh h1 n M := hC.frm (G1 _ (by unfold nm; omega)) (G1 _ (by unfold nm; omega))
  refine wp_cV (y' := m_X11_keep) 12 [vr (some (nm 42 n))] [] 0 0 dX11_keepVector_13 ml_X11_164 im_X11_keep se_X11_keep (by decide) C1.1.1 ok_X11_keep rfl (Nat.le_of_ble_eq_true rfl) rfl (Nat.le_of_ble_eq_true rfl) (d' := d - 1) (by omega) (Nat.zero_le _) (Nat.zero_le _) (c_X11_keep C1 (by omega) K1 (fun h2 C2 G2 V2 => cont_ret ?_))
  refine wp_ireturn dX11_keepVector_16 rfl ?_
  exact hq _ C2 (K1.frm (G2 _ (by unfold nm; omega) (by unfold nm; omega))) (fun a h0 h1 h3 => (G2 a h0 h1).trans (G1 a h3)) (FRV.tr (FRV.of (W := fun a => a = nm 42 n) (fun a ha => G1 a ha) (fun a ha => Or.inr (Or.inr (by rw [ha]; unfold nm; omega)))) V2)
set_option maxRecDepth 100000 in
set_option maxHeartbeats 4000000 in
theorem c_X11_keepMap {G : GG} {d bc bs : Nat} {h : Hp} {Q : Pst} {n M sz : Nat} {tp pk pe : Option Nat} (hC : CVh h n M) (hn : n < 60) (hsz : sz ≤ 64) (f42 : h_k h (nm 42 n) = 0) (hd : 3 ≤ d) (hbc : 1 ≤ bc) (hbs : 5 ≤ bs) (hq : ∀ h', CVh h' (n + 1) M → KU h' n (2, tp, sz, pk, pe) → (∀ a, a ≠ nm 40 0 → a ≠ nm 40 1 → a ≠ nm 42 n → ce h' a = ce h a) → FRV h h' → Q (oRet (vi (nI n))) h') : WP G m_X11_keepMap d 0 (aargs 0 [vr (some (nm 40 0)), vr tp, vi (nI sz), vr pk, vr pe]) [] h bc bs Q := by
  have q8 : clN 10 = 5 := rfl
  refine wp_sub [(0, vr (some (nm 40 0))), (1, vr tp), (2, vi (nI sz)), (3, vr pk), (4, vr pe)] (fun _ hz => hz) ?_
  refine wp_aload_n (i := 0) dX11_keepMap_0 rfl rfl ?_
  refine wp_new 10 dX11_keepMap_1 (by decide) kl_X11_9 ins_X8 ini_X8 (by omega) (by show 5 ≤ _; omega) (nm 42 n) f42 ?_
  refine wp_dup dX11_keepMap_4 ?_
  refine wp_iconst (nI 2) dX11_keepMap_5 (by decide) ?_
  refine wp_aload_n (i := 1) dX11_keepMap_6 rfl rfl ?_
  refine wp_iload_n (i := 2) dX11_keepMap_7 rfl rfl ?_
  refine wp_aload_n (i := 3) dX11_keepMap_8 rfl rfl ?_
  refine wp_aload (i := 4) dX11_keepMap_9 rfl ?_
  refine wp_cI (y' := m_X8_init) [vi (nI 2), vr tp, vi (nI sz), vr pk, vr pe] [vr (some (nm 42 n)), vr (some (nm 40 0))] 0 0 dX11_keepMap_11 ml_X11_161 im_X8_init rfl rfl ok_X8_init rfl (Nat.le_of_ble_eq_true rfl) rfl (Nat.le_of_ble_eq_true rfl) (d' := d - 1) (by omega) (Nat.zero_le _) (Nat.zero_le _) (c_X8_init (v := n) (kd := 2) (by rw [gk_mk, if_pos rfl]) (by omega) (fun h1 K1 F1 => cont_void ?_))
  have G1 : ∀ a, a ≠ nm 42 n → ce h1 a = ce h a := fun a ha => (F1 a ha).trans (ce_mk ha)
  have C1 : CVh h1 n M := hC.frm (G1 _ (by unfold nm; omega)) (G1 _ (by unfold nm; omega))
  refine wp_cV (y' := m_X11_keep) 12 [vr (some (nm 42 n))] [] 0 0 dX11_keepMap_14 ml_X11_164 im_X11_keep se_X11_keep (by decide) C1.1.1 ok_X11_keep rfl (Nat.le_of_ble_eq_true rfl) rfl (Nat.le_of_ble_eq_true rfl) (d' := d - 1) (by omega) (Nat.zero_le _) (Nat.zero_le _) (c_X11_keep C1 (by omega) K1 (fun h2 C2 G2 V2 => cont_ret ?_))
  refine wp_ireturn dX11_keepMap_17 rfl ?_
  exact hq _ C2 (K1.frm (G2 _ (by unfold nm; omega) (by unfold nm; omega))) (fun a h0 h1 h3 => (G2 a h0 h1).trans (G1 a h3)) (FRV.tr (FRV.of (W := fun a => a = nm 42 n) (fun a ha => G1 a ha) (fun a ha => Or.inr (Or.inr (by rw [ha]; unfold nm; omega)))) V2)
set_option maxRecDepth 100000 in
set_option maxHeartbeats 4000000 in
theorem l_X11_rowWithout {G : GG} {d bc bs : Nat} {Q : Pst} {h0 : Hp} {q n s k : Nat} {f : Nat → Int32} (hP : PRr h0 q n f) (hn : n ≤ 64) (hn1 : 1 ≤ n) (hs : s ≤ 64) (hqk : q ≠ nm 43 k) (hq : ∀ h', PRr h' (nm 43 k) (n - 1) (fun j => (if j < s then f j else f (j + 1))) → (∀ b, b ≠ nm 43 k → ce h' b = ce h0 b) → Q (oRet (vr (some (nm 43 k)))) h') : ∀ m i H, i + m = n - 1 → h_k H (nm 43 k) = 101 → h_n H (nm 43 k) = n - 1 → (∀ j, j < i → h_I H (nm 43 k) j = (if j < s then f j else f (j + 1))) → (∀ b, b ≠ nm 43 k → ce H b = ce h0 b) → WP G m_X11_rowWithout d 13 [(3, vi (nI i)), (2, vr (some (nm 43 k))), (0, vr (some q)), (1, vi (nI s))] [] H bc bs Q := by
  intro m
  induction m with
  | zero =>
    intro i H hi k1 n1 v1 f1
    have hi : i = n - 1 := hi
    refine wp_iload_n (i := 3) dX11_rowWithout_13 rfl rfl ?_
    refine wp_aload_n (i := 2) dX11_rowWithout_14 rfl rfl ?_
    refine wp_alen dX11_rowWithout_15 (arTy_101 k1) ?_
    rw [n1]
    refine wp_icmp_geN 44 dX11_rowWithout_16 (by decide) (by omega) (by omega) (fun c_16 => ?_) (fun c_16 => absurd c_16 (by omega))
    refine wp_aload_n (i := 2) dX11_rowWithout_44 rfl rfl ?_
    refine wp_areturn dX11_rowWithout_45 rfl (Or.inr ⟨_, rfl⟩) ?_
    exact hq _ ⟨k1, n1, fun j hj => v1 j (by omega)⟩ f1
  | succ m ih =>
    intro i H hi k1 n1 v1 f1
    have hP1 := hP.frm (f1 q hqk)
    refine wp_iload_n (i := 3) dX11_rowWithout_13 rfl rfl ?_
    refine wp_aload_n (i := 2) dX11_rowWithout_14 rfl rfl ?_
    refine wp_alen dX11_rowWithout_15 (arTy_101 k1) ?_
    rw [n1]
    refine wp_icmp_geN 44 dX11_rowWithout_16 (by decide) (by omega) (by omega) (fun c_16 => absurd c_16 (by omega)) (fun c_16 => ?_)
    refine wp_aload_n (i := 2) dX11_rowWithout_19 rfl rfl ?_
    refine wp_iload_n (i := 3) dX11_rowWithout_20 rfl rfl ?_
    refine wp_iload_n (i := 3) dX11_rowWithout_21 rfl rfl ?_
    refine wp_iload_n (i := 1) dX11_rowWithout_22 rfl rfl ?_
    refine wp_icmp_geN 32 dX11_rowWithout_23 (by decide) (by omega) (by omega) (fun c_23 => ?_) (fun c_23 => ?_)
    · skip
      refine wp_aload_n (i := 0) dX11_rowWithout_32 rfl rfl ?_
      refine wp_iload_n (i := 3) dX11_rowWithout_33 rfl rfl ?_
      refine wp_iconst (nI 1) dX11_rowWithout_34 (by decide) ?_
      refine wp_iaddN dX11_rowWithout_35 ?_
      refine wp_ialoadN n (f (i + 1)) dX11_rowWithout_36 hP1.1 hP1.2.1 (by omega) (by omega) (hP1.2.2 (i + 1) (by omega)) ?_
      refine wp_iastoreN (n - 1) dX11_rowWithout_37 k1 n1 (by omega) (by omega) ?_
      refine wp_iincN (a := i) (lv' := [(3, vi (nI (i + 1))), (2, vr (some (nm 43 k))), (0, vr (some q)), (1, vi (nI s))]) 1 dX11_rowWithout_38 rfl (by decide) (by decide) rfl ?_
      refine wp_goto 13 dX11_rowWithout_41 (by decide) ?_
      refine wp_sub [(3, vi (nI (i + 1))), (2, vr (some (nm 43 k))), (0, vr (some q)), (1, vi (nI s))] (sb_cons (.head _) (sb_cons (.tail _ (.head _)) (sb_cons (.tail _ (.tail _ (.head _))) (sb_cons (.tail _ (.tail _ (.tail _ (.head _)))) sb_nil)))) ?_
      refine ih (i + 1) _ (by omega) k1 n1 (fun j hj => ?_) (fun b hb => (ce_wI hb).trans (f1 b hb))
      rw [gI_wI]
      by_cases e : j = i
      · rw [if_pos ⟨rfl, e⟩, e, if_neg (by omega)]
      · rw [if_neg (fun z => e z.2)]; exact v1 j (by omega)
    · skip
      refine wp_aload_n (i := 0) dX11_rowWithout_26 rfl rfl ?_
      refine wp_iload_n (i := 3) dX11_rowWithout_27 rfl rfl ?_
      refine wp_ialoadN n (f i) dX11_rowWithout_28 hP1.1 hP1.2.1 (by omega) (by omega) (hP1.2.2 i (by omega)) ?_
      refine wp_goto 37 dX11_rowWithout_29 (by decide) ?_
      refine wp_iastoreN (n - 1) dX11_rowWithout_37 k1 n1 (by omega) (by omega) ?_
      refine wp_iincN (a := i) (lv' := [(3, vi (nI (i + 1))), (2, vr (some (nm 43 k))), (0, vr (some q)), (1, vi (nI s))]) 1 dX11_rowWithout_38 rfl (by decide) (by decide) rfl ?_
      refine wp_goto 13 dX11_rowWithout_41 (by decide) ?_
      refine wp_sub [(3, vi (nI (i + 1))), (2, vr (some (nm 43 k))), (0, vr (some q)), (1, vi (nI s))] (sb_cons (.head _) (sb_cons (.tail _ (.head _)) (sb_cons (.tail _ (.tail _ (.head _))) (sb_cons (.tail _ (.tail _ (.tail _ (.head _)))) sb_nil)))) ?_
      refine ih (i + 1) _ (by omega) k1 n1 (fun j hj => ?_) (fun b hb => (ce_wI hb).trans (f1 b hb))
      rw [gI_wI]
      by_cases e : j = i
      · rw [if_pos ⟨rfl, e⟩, e, if_pos (by omega)]
      · rw [if_neg (fun z => e z.2)]; exact v1 j (by omega)
set_option maxRecDepth 100000 in
set_option maxHeartbeats 4000000 in
theorem c_X11_rowWithout {G : GG} {d bc bs : Nat} {h : Hp} {Q : Pst} {q n s k : Nat} {f : Nat → Int32} (hP : PRr h q n f) (hn : n ≤ 64) (hn1 : 1 ≤ n) (hs : s ≤ 64) (hf : h_k h (nm 43 k) = 0) (hd : 2 ≤ d) (hbc : 1 ≤ bc) (hbs : 64 ≤ bs) (hq : ∀ h', PRr h' (nm 43 k) (n - 1) (fun j => (if j < s then f j else f (j + 1))) → (∀ b, b ≠ nm 43 k → ce h' b = ce h b) → Q (oRet (vr (some (nm 43 k)))) h') : WP G m_X11_rowWithout d 0 (aargs 0 [vr (some q), vi (nI s)]) [] h bc bs Q := by
  have hqk : q ≠ nm 43 k := fun e => by have := hP.1; rw [e, hf] at this; cases this
  refine wp_sub [(0, vr (some q)), (1, vi (nI s))] (fun _ hz => hz) ?_
  refine wp_aload_n (i := 0) dX11_rowWithout_0 rfl rfl ?_
  refine wp_alen dX11_rowWithout_1 (arTy_101 hP.1) ?_
  rw [hP.2.1]
  refine wp_iconst (nI 1) dX11_rowWithout_2 (by decide) ?_
  refine wp_isubN dX11_rowWithout_3 (by omega) ?_
  refine wp_iconst (nI 0) dX11_rowWithout_4 (by decide) ?_
  refine wp_maxN dX11_rowWithout_5 ml_X11_512 st_J9_max_7cf53 co_J9_max (by omega) (Nat.le_of_ble_eq_true rfl) (by omega) (by omega) ?_
  refine wp_newarray 101 (max (n - 1) 0) .int dX11_rowWithout_8 rfl rfl aw_int (nI_nn (by omega)) (nI_clamp (by omega)) (by omega) (by decide) pl_int (by omega) (by omega) (nm 43 k) hf ?_
  refine wp_astore_n (i := 2) (lv' := [(2, vr (some (nm 43 k))), (0, vr (some q)), (1, vi (nI s))]) dX11_rowWithout_10 rfl (by decide) rfl ?_
  refine wp_iconst (nI 0) dX11_rowWithout_11 (by decide) ?_
  refine wp_istore_n (i := 3) (lv' := [(3, vi (nI 0)), (2, vr (some (nm 43 k))), (0, vr (some q)), (1, vi (nI s))]) dX11_rowWithout_12 rfl (by decide) rfl ?_
  refine wp_sub [(3, vi (nI 0)), (2, vr (some (nm 43 k))), (0, vr (some q)), (1, vi (nI s))] (sb_cons (.head _) (sb_cons (.tail _ (.head _)) (sb_cons (.tail _ (.tail _ (.head _))) (sb_cons (.tail _ (.tail _ (.tail _ (.head _)))) sb_nil)))) ?_
  exact l_X11_rowWithout hP hn hn1 hs hqk hq (n - 1) 0 _ (by omega) (by rw [gk_mk, if_pos rfl]) (by rw [gn_mk, if_pos rfl]; omega) (fun j hj => absurd hj (Nat.not_lt_zero _)) (fun b hb => ce_mk hb)
/-- a tree's nodes, in order -/
def trP {α : Type} (g : α → List α) (c : Nat → Option α) : Nat → List α
  | 0 => []
  | p + 1 => trP g c p ++ (match c p with | some t => g t | none => [])
def trL {α : Type} (ch : α → Nat → Option α) : Nat → α → List α
  | 0, _ => []
  | f + 1, s => s :: trP (trL ch f) (ch s) 4
/-- the tree stands on the heap -/
def TRE {α : Type} (h : Hp) (num : α → Nat) (ch : α → Nat → Option α) : Nat → α → Prop
  | 0, _ => False
  | f + 1, s => ∃ x, KN h (num s) x ∧ WFN (num s) x ∧ (KN_kb x = none → ∀ p, p < 4 → ch s p = none) ∧ (¬ KN_kb x = none → ∀ p, p < 4 → KN_bl x p = (ch s p).map (fun t => nm 45 (num t))) ∧ ∀ p, p < 4 → ∀ t, ch s p = some t → TRE h num ch f t
theorem trP_0 {α : Type} {g : α → List α} {c : Nat → Option α} : ∀ n, (∀ p, p < n → c p = none) → trP g c n = [] := by
  intro n
  induction n with
  | zero => intro _; rfl
  | succ n ih => intro h; rw [trP, ih (fun p hp => h p (by omega)), h n (Nat.lt_succ_self n)]; rfl
theorem trP_s {α : Type} {g : α → List α} {c : Nat → Option α} {p : Nat} {t : α} (h : c p = some t) : trP g c (p + 1) = trP g c p ++ g t := by rw [trP, h]
theorem trP_n {α : Type} {g : α → List α} {c : Nat → Option α} {p : Nat} (h : c p = none) : trP g c (p + 1) = trP g c p := by rw [trP, h]; exact List.append_nil _
set_option maxRecDepth 100000 in
set_option maxHeartbeats 4000000 in
theorem c_X11_countNull {G : GG} {d bc bs : Nat} {h : Hp} {Q : Pst} {k : Nat} (hq : Q (oRet (vi (nI 0))) h) : WP G m_X11_countNodes d 0 (aargs 0 [vr none, vi (nI k)]) [] h bc bs Q := by
  refine wp_sub [(0, vr none), (1, vi (nI k))] (fun _ hz => hz) ?_
  refine wp_aload_n (i := 0) dX11_countNodes_0 rfl rfl ?_
  refine wp_ifnull 9 dX11_countNodes_1 (by decide) (fun c_1 => ?_) (fun a_1 c_1 => absurd c_1 (fun z => nomatch z))
  refine wp_iconst (nI 0) dX11_countNodes_9 (by decide) ?_
  refine wp_ireturn dX11_countNodes_10 rfl ?_
  exact hq
set_option maxRecDepth 100000 in
set_option maxHeartbeats 4000000 in
theorem c_X11_countNodes {G : GG} {h : Hp} {Q : Pst} {α : Type} {num : α → Nat} {ch : α → Nat → Option α} : ∀ f s dp d bc bs (Q : Pst), TRE h num ch f s → dp + f ≤ 6 → f + 1 ≤ d → Q (oRet (vi (nI (trL ch f s).length))) h → WP G m_X11_countNodes d 0 (aargs 0 [vr (some (nm 45 (num s))), vi (nI dp)]) [] h bc bs Q := by
  intro f
  induction f with
  | zero => intro s dp d bc bs Q T; exact absurd T id
  | succ f ih =>
    intro s dp d bc bs Q T hdp hd hq
    obtain ⟨x, hO, hw, hn0, hn1, hsub⟩ := T
    have hlen : (trL ch (f + 1) s).length = 1 + (trP (trL ch f) (ch s) 4).length := by rw [trL, List.length_cons, Nat.add_comm]
    rw [hlen] at hq
    refine wp_sub [(0, vr (some (nm 45 (num s)))), (1, vi (nI dp))] (fun _ hz => hz) ?_
    rcases hw.2.2.1 with hb | ⟨hb1, hb2, hb3⟩
    · refine wp_aload_n (i := 0) dX11_countNodes_0 rfl rfl ?_
      refine wp_ifnull 9 dX11_countNodes_1 (by decide) (fun c_1 => absurd c_1 (fun z => nomatch z)) (fun a_1 c_1 => ?_)
      refine wp_iload_n (i := 1) dX11_countNodes_4 rfl rfl ?_
      refine wp_iconst (nI 5) dX11_countNodes_5 (by decide) ?_
      refine wp_icmp_leN 11 dX11_countNodes_6 (by decide) (by omega) (by decide) (fun c_6 => ?_) (fun c_6 => absurd c_6 (by omega))
      refine wp_iconst (nI 1) dX11_countNodes_11 (by decide) ?_
      refine wp_istore_n (i := 2) (lv' := [(2, vi (nI 1)), (0, vr (some (nm 45 (num s)))), (1, vi (nI dp))]) dX11_countNodes_12 rfl (by decide) rfl ?_
      refine wp_aload_n (i := 0) dX11_countNodes_13 rfl rfl ?_
      refine wp_get 5 4 (vr none) dX11_countNodes_14 hO.k0 (by decide) (by decide) fl_X11_521 (congrArg (fun z => toV (vr z)) (hO.o_kb.trans hb)) ?_
      refine wp_ifnull 62 dX11_countNodes_17 (by decide) (fun c_17 => ?_) (fun a_17 c_17 => absurd c_17 (fun z => nomatch z))
      refine wp_iload_n (i := 2) dX11_countNodes_62 rfl rfl ?_
      refine wp_ireturn dX11_countNodes_63 rfl ?_
      rw [trP_0 4 (hn0 hb)] at hq
      exact hq
    · have hbn : ¬ KN_kb x = none := by rw [hb1]; exact fun z => nomatch z
      have loop : ∀ m i, i + m = 4 → WP G m_X11_countNodes d 32 [(5, vi (nI i)), (3, vr (some (nm 48 (num s)))), (4, vi (nI 4)), (2, vi (nI (1 + (trP (trL ch f) (ch s) i).length))), (1, vi (nI dp))] [] h bc bs Q := by
        intro m
        induction m with
        | zero =>
          intro i hi
          have hi : i = 4 := hi
          subst hi
          refine wp_iload (i := 5) dX11_countNodes_32 rfl ?_
          refine wp_iload (i := 4) dX11_countNodes_34 rfl ?_
          refine wp_icmp_geN 62 dX11_countNodes_36 (by decide) (by decide) (by decide) (fun c_36 => ?_) (fun c_36 => absurd c_36 (by decide))
          refine wp_iload_n (i := 2) dX11_countNodes_62 rfl rfl ?_
          refine wp_ireturn dX11_countNodes_63 rfl ?_
          exact hq
        | succ m ih2 =>
          intro i hi
          have hch := hn1 hbn i (by omega)
          cases hc : ch s i with
          | none =>
            rw [hc] at hch
            refine wp_iload (i := 5) dX11_countNodes_32 rfl ?_
            refine wp_iload (i := 4) dX11_countNodes_34 rfl ?_
            refine wp_icmp_geN 62 dX11_countNodes_36 (by decide) (by omega) (by decide) (fun c_36 => absurd c_36 (by omega)) (fun c_36 => ?_)
            refine wp_aload_n (i := 3) dX11_countNodes_39 rfl rfl ?_
            refine wp_iload (i := 5) dX11_countNodes_40 rfl ?_
            refine wp_aaloadN 4 none dX11_countNodes_42 (arTy_116 (hO.k10.trans hb2)) (hO.n10.trans hb3) (by omega) (by decide) ((hO.a_bl i).trans hch) ?_
            refine wp_astore (i := 6) (lv' := [(6, vr none), (5, vi (nI i)), (3, vr (some (nm 48 (num s)))), (4, vi (nI 4)), (2, vi (nI (1 + (trP (trL ch f) (ch s) i).length))), (1, vi (nI dp))]) dX11_countNodes_43 (by decide) rfl ?_
            refine wp_iload_n (i := 2) dX11_countNodes_45 rfl rfl ?_
            refine wp_aload (i := 6) dX11_countNodes_46 rfl ?_
            refine wp_iload_n (i := 1) dX11_countNodes_48 rfl rfl ?_
            refine wp_iconst (nI 1) dX11_countNodes_49 (by decide) ?_
            refine wp_iaddN dX11_countNodes_50 ?_
            refine wp_cS (y' := m_X11_countNodes) [vr none, vi (nI (dp + 1))] [vi (nI (1 + (trP (trL ch f) (ch s) i).length))] 0 0 dX11_countNodes_51 ml_X11_240 st_X11_countNodes ok_X11_countNodes rfl (Nat.le_of_ble_eq_true rfl) rfl (Nat.le_of_ble_eq_true rfl) (d' := d - 1) (by omega) (Nat.zero_le _) (Nat.zero_le _) (c_X11_countNull (cont_ret ?_))
            refine wp_iaddN dX11_countNodes_54 ?_
            refine wp_istore_n (i := 2) (lv' := [(2, vi (nI ((1 + (trP (trL ch f) (ch s) i).length) + 0))), (6, vr none), (5, vi (nI i)), (3, vr (some (nm 48 (num s)))), (4, vi (nI 4)), (1, vi (nI dp))]) dX11_countNodes_55 rfl (by decide) rfl ?_
            refine wp_iincN (a := i) (lv' := [(5, vi (nI (i + 1))), (2, vi (nI ((1 + (trP (trL ch f) (ch s) i).length) + 0))), (6, vr none), (3, vr (some (nm 48 (num s)))), (4, vi (nI 4)), (1, vi (nI dp))]) 1 dX11_countNodes_56 rfl (by decide) (by decide) rfl ?_
            refine wp_goto 32 dX11_countNodes_59 (by decide) ?_
            rw [show 1 + (trP (trL ch f) (ch s) i).length + 0 = 1 + (trP (trL ch f) (ch s) (i + 1)).length by rw [trP_n hc, Nat.add_zero]]
            refine wp_sub [(5, vi (nI (i + 1))), (3, vr (some (nm 48 (num s)))), (4, vi (nI 4)), (2, vi (nI (1 + (trP (trL ch f) (ch s) (i + 1)).length))), (1, vi (nI dp))] (sb_cons (.head _) (sb_cons (.tail _ (.tail _ (.tail _ (.head _)))) (sb_cons (.tail _ (.tail _ (.tail _ (.tail _ (.head _))))) (sb_cons (.tail _ (.head _)) (sb_cons (.tail _ (.tail _ (.tail _ (.tail _ (.tail _ (.head _)))))) sb_nil))))) ?_
            exact ih2 (i + 1) (by omega)
          | some t =>
            rw [hc] at hch
            refine wp_iload (i := 5) dX11_countNodes_32 rfl ?_
            refine wp_iload (i := 4) dX11_countNodes_34 rfl ?_
            refine wp_icmp_geN 62 dX11_countNodes_36 (by decide) (by omega) (by decide) (fun c_36 => absurd c_36 (by omega)) (fun c_36 => ?_)
            refine wp_aload_n (i := 3) dX11_countNodes_39 rfl rfl ?_
            refine wp_iload (i := 5) dX11_countNodes_40 rfl ?_
            refine wp_aaloadN 4 (some (nm 45 (num t))) dX11_countNodes_42 (arTy_116 (hO.k10.trans hb2)) (hO.n10.trans hb3) (by omega) (by decide) ((hO.a_bl i).trans hch) ?_
            refine wp_astore (i := 6) (lv' := [(6, vr (some (nm 45 (num t)))), (5, vi (nI i)), (3, vr (some (nm 48 (num s)))), (4, vi (nI 4)), (2, vi (nI (1 + (trP (trL ch f) (ch s) i).length))), (1, vi (nI dp))]) dX11_countNodes_43 (by decide) rfl ?_
            refine wp_iload_n (i := 2) dX11_countNodes_45 rfl rfl ?_
            refine wp_aload (i := 6) dX11_countNodes_46 rfl ?_
            refine wp_iload_n (i := 1) dX11_countNodes_48 rfl rfl ?_
            refine wp_iconst (nI 1) dX11_countNodes_49 (by decide) ?_
            refine wp_iaddN dX11_countNodes_50 ?_
            refine wp_cS (y' := m_X11_countNodes) [vr (some (nm 45 (num t))), vi (nI (dp + 1))] [vi (nI (1 + (trP (trL ch f) (ch s) i).length))] 0 0 dX11_countNodes_51 ml_X11_240 st_X11_countNodes ok_X11_countNodes rfl (Nat.le_of_ble_eq_true rfl) rfl (Nat.le_of_ble_eq_true rfl) (d' := d - 1) (by omega) (Nat.zero_le _) (Nat.zero_le _) (ih t (dp + 1) (d - 1) 0 0 _ (hsub i (by omega) t hc) (by omega) (by omega) (cont_ret ?_))
            refine wp_iaddN dX11_countNodes_54 ?_
            refine wp_istore_n (i := 2) (lv' := [(2, vi (nI ((1 + (trP (trL ch f) (ch s) i).length) + ((trL ch f t).length)))), (6, vr (some (nm 45 (num t)))), (5, vi (nI i)), (3, vr (some (nm 48 (num s)))), (4, vi (nI 4)), (1, vi (nI dp))]) dX11_countNodes_55 rfl (by decide) rfl ?_
            refine wp_iincN (a := i) (lv' := [(5, vi (nI (i + 1))), (2, vi (nI ((1 + (trP (trL ch f) (ch s) i).length) + ((trL ch f t).length)))), (6, vr (some (nm 45 (num t)))), (3, vr (some (nm 48 (num s)))), (4, vi (nI 4)), (1, vi (nI dp))]) 1 dX11_countNodes_56 rfl (by decide) (by decide) rfl ?_
            refine wp_goto 32 dX11_countNodes_59 (by decide) ?_
            rw [show 1 + (trP (trL ch f) (ch s) i).length + (trL ch f t).length = 1 + (trP (trL ch f) (ch s) (i + 1)).length by rw [trP_s hc, List.length_append, ← Nat.add_assoc]]
            refine wp_sub [(5, vi (nI (i + 1))), (3, vr (some (nm 48 (num s)))), (4, vi (nI 4)), (2, vi (nI (1 + (trP (trL ch f) (ch s) (i + 1)).length))), (1, vi (nI dp))] (sb_cons (.head _) (sb_cons (.tail _ (.tail _ (.tail _ (.head _)))) (sb_cons (.tail _ (.tail _ (.tail _ (.tail _ (.head _))))) (sb_cons (.tail _ (.head _)) (sb_cons (.tail _ (.tail _ (.tail _ (.tail _ (.tail _ (.head _)))))) sb_nil))))) ?_
            exact ih2 (i + 1) (by omega)
      refine wp_aload_n (i := 0) dX11_countNodes_0 rfl rfl ?_
      refine wp_ifnull 9 dX11_countNodes_1 (by decide) (fun c_1 => absurd c_1 (fun z => nomatch z)) (fun a_1 c_1 => ?_)
      refine wp_iload_n (i := 1) dX11_countNodes_4 rfl rfl ?_
      refine wp_iconst (nI 5) dX11_countNodes_5 (by decide) ?_
      refine wp_icmp_leN 11 dX11_countNodes_6 (by decide) (by omega) (by decide) (fun c_6 => ?_) (fun c_6 => absurd c_6 (by omega))
      refine wp_iconst (nI 1) dX11_countNodes_11 (by decide) ?_
      refine wp_istore_n (i := 2) (lv' := [(2, vi (nI 1)), (0, vr (some (nm 45 (num s)))), (1, vi (nI dp))]) dX11_countNodes_12 rfl (by decide) rfl ?_
      refine wp_aload_n (i := 0) dX11_countNodes_13 rfl rfl ?_
      refine wp_get 5 4 (vr (some (nm 48 (num s)))) dX11_countNodes_14 hO.k0 (by decide) (by decide) fl_X11_521 (congrArg (fun z => toV (vr z)) (hO.o_kb.trans hb1)) ?_
      refine wp_ifnull 62 dX11_countNodes_17 (by decide) (fun c_17 => absurd c_17 (fun z => nomatch z)) (fun a_17 c_17 => ?_)
      refine wp_aload_n (i := 0) dX11_countNodes_20 rfl rfl ?_
      refine wp_get 5 4 (vr (some (nm 48 (num s)))) dX11_countNodes_21 hO.k0 (by decide) (by decide) fl_X11_521 (congrArg (fun z => toV (vr z)) (hO.o_kb.trans hb1)) ?_
      refine wp_astore_n (i := 3) (lv' := [(3, vr (some (nm 48 (num s)))), (2, vi (nI 1)), (0, vr (some (nm 45 (num s)))), (1, vi (nI dp))]) dX11_countNodes_24 rfl (by decide) rfl ?_
      refine wp_aload_n (i := 3) dX11_countNodes_25 rfl rfl ?_
      refine wp_alen dX11_countNodes_26 (arTy_116 (hO.k10.trans hb2)) ?_
      rw [hO.n10, hb3]
      refine wp_istore (i := 4) (lv' := [(4, vi (nI 4)), (3, vr (some (nm 48 (num s)))), (2, vi (nI 1)), (0, vr (some (nm 45 (num s)))), (1, vi (nI dp))]) dX11_countNodes_27 (by decide) rfl ?_
      refine wp_iconst (nI 0) dX11_countNodes_29 (by decide) ?_
      refine wp_istore (i := 5) (lv' := [(5, vi (nI 0)), (4, vi (nI 4)), (3, vr (some (nm 48 (num s)))), (2, vi (nI 1)), (0, vr (some (nm 45 (num s)))), (1, vi (nI dp))]) dX11_countNodes_30 (by decide) rfl ?_
      refine wp_sub [(5, vi (nI 0)), (3, vr (some (nm 48 (num s)))), (4, vi (nI 4)), (2, vi (nI 1)), (1, vi (nI dp))] (sb_cons (.head _) (sb_cons (.tail _ (.tail _ (.head _))) (sb_cons (.tail _ (.head _)) (sb_cons (.tail _ (.tail _ (.tail _ (.head _)))) (sb_cons (.tail _ (.tail _ (.tail _ (.tail _ (.tail _ (.head _)))))) sb_nil))))) ?_
      exact loop 4 0 rfl
