/-! The model: what is kept and taken back; realising up to a place. -/
theorem MSQ.wI {h : Hp} {n : Nat} {x : Nat → QIS} (H : MSQ h n x) {i k : Nat} {v : Int32} (hi : i ≠ 11) : MSQ (wI h (nm 1 i) k v) n x :=
  ⟨H.1.fr rfl rfl (fun _ _ _ => ⟨rfl, rfl⟩), H.2.1.frm (ce_wI (by unfold nm; omega)) (ce_wI (nm_nei (fun e => hi e.symm))) (fun z => ce_wI (nm_ne (by decide) (by decide) (by decide))),
    fun s hs => ⟨(H.2.2.1 s hs).1.frm (ce_wI (nm_ne (by decide) (by decide) (by decide))), (H.2.2.1 s hs).2.frm (ce_wI (by unfold nm; omega)) (ce_wI (nm_ne (by decide) (by decide) (by decide))) (fun z => ce_wI (nm_ne (by decide) (by decide) (by decide))) (fun k _ => ce_wI (nm_ne (by decide) (by decide) (by decide)))⟩,
    H.2.2.2.1, H.2.2.2.2.1, H.2.2.2.2.2⟩
/-- the same sequences, ρ of their chunks realised, κ the capacities -/
def gst (x : Nat → QIS) (ρ κ : Nat → Nat) : Nat → QIS := fun j => (q_o (x j), q_F (x j), q_B (x j), ρ j, κ j)
theorem MSQ.pop {h h' : Hp} {n s c : Nat} {x : Nat → QIS} {ρ κ : Nat → Nat} (H : MSQ h n (gst x ρ κ)) (hs : s < n) (hn : n ≤ 16) (L : LRc h' (nm 3 s) 26 s ((q_F (x s)).take c) (κ s)) (hF : ∀ a, a ≠ nm 3 s → (∀ z, a ≠ nm 26 (16 * z + s)) → ce h' a = ce h a) : MSQ h' n (gst x (va_up ρ s c) κ) := by
  have h0 : ce h' 0 = ce h 0 := hF 0 (by unfold nm; omega) (fun z => by unfold nm; omega)
  have hX : ∀ r i, r < 128 → r ≠ 3 → r ≠ 26 → ce h' (nm r i) = ce h (nm r i) := fun r i h1 h2 h3 => hF _ (nm_ne h2 h1 (by decide)) (fun z => nm_ne h3 h1 (by decide))
  refine ⟨H.1.fr (ce_k (hX 1 0 (by decide) (by decide) (by decide))) (ce_R (hX 1 0 (by decide) (by decide) (by decide))) (fun i _ hi => ⟨ce_k (hX 1 i (by decide) (by decide) (by decide)), ce_n (hX 1 i (by decide) (by decide) (by decide))⟩),
    H.2.1.frm h0 (hX 1 11 (by decide) (by decide) (by decide)) (fun z => hX 31 _ (by decide) (by decide) (by decide)), fun t ht => ⟨?_, ?_⟩,
    H.2.2.2.1.fr (fun i _ => hX 2 _ (by decide) (by decide) (by decide)), H.2.2.2.2.1.fr (fun i hi => hF _ (nm_nei (by omega)) (fun z => nm_ne (by decide) (by decide) (by decide))), H.2.2.2.2.2.fr (fun i hi h16 z => hF _ (nm_ne (by decide) (by decide) (by decide)) (fun z => nm_nei (by omega)))⟩
  · exact (H.2.2.1 t ht).1.frm (hX 2 _ (by decide) (by decide) (by decide))
  · by_cases e : t = s
    · subst e
      show LRc h' (nm 3 t) 26 t ((q_F (x t)).take (va_up ρ t c t)) (κ t)
      rw [va_up_app, if_pos rfl]
      exact L
    · show LRc h' (nm 3 t) 26 t ((q_F (x t)).take (va_up ρ s c t)) (κ t)
      rw [va_up_app, if_neg e]
      exact (H.2.2.1 t ht).2.frm h0 (hF _ (nm_nei e) (fun z => nm_ne (by decide) (by decide) (by decide))) (fun z => hF _ (nm_ne (by decide) (by decide) (by decide)) (fun z => nm_nei (by omega))) (fun k _ => hX 22 _ (by decide) (by decide) (by decide))
theorem gst_c {x : Nat → QIS} {ρ ρ' κ : Nat → Nat} {s : Nat} (h : ρ s = ρ' s) : gst x ρ κ s = gst x ρ' κ s := by unfold gst; rw [h]
theorem take_er : ∀ (F : List (List Int32)) (c : Nat), c < F.length → (F.take (c + 1)).eraseIdx c = F.take c
  | [], _, h => absurd h (Nat.not_lt_zero _)
  | a :: F, 0, _ => by simp
  | a :: F, c + 1, h => by
    rw [List.take_succ_cons, List.take_succ_cons, List.eraseIdx_cons_succ, take_er F c (by simpa using h)]
theorem MSQ.eq {h : Hp} {n : Nat} {x y : Nat → QIS} (H : MSQ h n x) (e : ∀ s, s < n → x s = y s) : MSQ h n y :=
  ⟨H.1, H.2.1, fun s hs => by rw [← e s hs]; exact H.2.2.1 s hs, H.2.2.2⟩
set_option maxRecDepth 100000 in
set_option maxHeartbeats 4000000 in
theorem c_X16_noSequence {G : GG} {d bc bs : Nat} {h : Hp} {Q : Pst} {n : Nat} {x : Nat → QIS} (hM : MSQ h n x) (v : Int32) (hd : 2 ≤ d) (hq : Q (oRet (vi (bI (!ixB v n)))) h) : WP G m_X16_noSequence d 0 (aargs 0 [vr (some (nm 1 0)), vi v]) [] h bc bs Q := by
  refine wp_sub [(0, vr (some (nm 1 0))), (1, vi v)] (fun _ hz => hz) ?_
  refine wp_iload_n (i := 1) dX16_noSequence_0 rfl rfl ?_
  refine wp_iconst (nI 0) dX16_noSequence_1 (by decide) ?_
  refine wp_aload_n (i := 0) dX16_noSequence_2 rfl rfl ?_
  refine wp_get 17 11 (vr (some (nm 1 11))) dX16_noSequence_3 hM.1.1 (by decide) (by decide) fl_X16_40 (congrArg (fun z => toV (vr z)) (hM.1.r 11 (by decide) (by decide) (by decide) (by decide))) ?_
  refine wp_cV (y' := m_Jx4a65c_size_8abf5) 2 [] [vi (nI 0), vi v] 0 0 dX16_noSequence_6 ml_X16_168 im_Jx4a65c_size_8abf5 se_Jx4a65c_size_8abf5 (by decide) hM.2.1.k ok_Jx4a65c_size_8abf5 rfl (Nat.le_of_ble_eq_true rfl) rfl (Nat.le_of_ble_eq_true rfl) (d' := d - 1) (by omega) (Nat.zero_le _) (Nat.zero_le _) (c_LO_size hM.2.1 (cont_ret ?_))
  refine wp_iconst (nI 1) dX16_noSequence_9 (by decide) ?_
  refine wp_isub dX16_noSequence_10 ?_
  refine wp_cS (y' := m_X16_in) [vi v, vi (nI 0), vi ((nI n) - (nI 1))] [] 0 0 dX16_noSequence_11 ml_X16_70 st_X16_in ok_X16_in rfl (Nat.le_of_ble_eq_true rfl) rfl (Nat.le_of_ble_eq_true rfl) (d' := d - 1) (by omega) (Nat.zero_le _) (Nat.zero_le _) (c_X16_in v (nI 0) ((nI n) - (nI 1)) (cont_ret ?_))
  refine wp_if_neB 21 dX16_noSequence_14 (by decide) (fun c_14 => ?_) (fun c_14 => ?_)
  · rw [show ixB v n = true from c_14] at hq
    refine wp_iconst (nI 0) dX16_noSequence_21 (by decide) ?_
    refine wp_zreturn dX16_noSequence_22 rfl (by first | rfl | assumption) ?_
    exact hq
  · rw [show ixB v n = false from c_14] at hq
    refine wp_iconst (nI 1) dX16_noSequence_17 (by decide) ?_
    refine wp_goto 22 dX16_noSequence_18 (by decide) ?_
    refine wp_zreturn dX16_noSequence_22 rfl (by first | rfl | assumption) ?_
    exact hq
set_option maxRecDepth 100000 in
set_option maxHeartbeats 4000000 in
theorem l_X16_keep {G : GG} {d bc bs : Nat} {Q : Pst} {h0 : Hp} {n : Nat} {x : Nat → QIS} {r : Nat → Nat} (hX : QOK n x) (hL : QL n x r) (hd : 4 ≤ d) (hq : ∀ H, MSQ H n (setR x r) → (∀ j, j < n → h_I H (nm 1 12) j = nI (r j)) → (∀ b, b ≠ nm 1 12 → ce H b = ce h0 b) → Q oVoid H) : ∀ m k H, k + m = n → MSQ H n (setR x r) → (∀ j, j < k → h_I H (nm 1 12) j = nI (r j)) → (∀ b, b ≠ nm 1 12 → ce H b = ce h0 b) → WP G m_X16_keep d 2 [(1, vi (nI k)), (0, vr (some (nm 1 0)))] [] H bc bs Q := by
  have hn12 := hX.2.1
  intro m
  induction m with
  | zero =>
    intro k H hk hM hI hF
    have hk : k = n := hk
    subst hk
    refine wp_iload_n (i := 1) dX16_keep_2 rfl rfl ?_
    refine wp_aload_n (i := 0) dX16_keep_3 rfl rfl ?_
    refine wp_get 17 11 (vr (some (nm 1 11))) dX16_keep_4 hM.1.1 (by decide) (by decide) fl_X16_40 (congrArg (fun z => toV (vr z)) (hM.1.r 11 (by decide) (by decide) (by decide) (by decide))) ?_
    refine wp_cV (y' := m_Jx4a65c_size_8abf5) 2 [] [vi (nI k)] 0 0 dX16_keep_7 ml_X16_168 im_Jx4a65c_size_8abf5 se_Jx4a65c_size_8abf5 (by decide) hM.2.1.k ok_Jx4a65c_size_8abf5 rfl (Nat.le_of_ble_eq_true rfl) rfl (Nat.le_of_ble_eq_true rfl) (d' := d - 1) (by omega) (Nat.zero_le _) (Nat.zero_le _) (c_LO_size hM.2.1 (cont_ret ?_))
    refine wp_icmp_geN 42 dX16_keep_10 (by decide) (by omega) (by omega) (fun c_10 => ?_) (fun c_10 => absurd c_10 (by omega))
    refine wp_return dX16_keep_42 rfl ?_
    exact hq _ hM hI hF
  | succ m ih =>
    intro k H hk hM hI hF
    have hkn : k < n := by omega
    have hlk := hL k hkn
    refine wp_iload_n (i := 1) dX16_keep_2 rfl rfl ?_
    refine wp_aload_n (i := 0) dX16_keep_3 rfl rfl ?_
    refine wp_get 17 11 (vr (some (nm 1 11))) dX16_keep_4 hM.1.1 (by decide) (by decide) fl_X16_40 (congrArg (fun z => toV (vr z)) (hM.1.r 11 (by decide) (by decide) (by decide) (by decide))) ?_
    refine wp_cV (y' := m_Jx4a65c_size_8abf5) 2 [] [vi (nI k)] 0 0 dX16_keep_7 ml_X16_168 im_Jx4a65c_size_8abf5 se_Jx4a65c_size_8abf5 (by decide) hM.2.1.k ok_Jx4a65c_size_8abf5 rfl (Nat.le_of_ble_eq_true rfl) rfl (Nat.le_of_ble_eq_true rfl) (d' := d - 1) (by omega) (Nat.zero_le _) (Nat.zero_le _) (c_LO_size hM.2.1 (cont_ret ?_))
    refine wp_icmp_geN 42 dX16_keep_10 (by decide) (by omega) (by omega) (fun c_10 => absurd c_10 (by omega)) (fun c_10 => ?_)
    refine wp_aload_n (i := 0) dX16_keep_13 rfl rfl ?_
    refine wp_get 17 12 (vr (some (nm 1 12))) dX16_keep_14 hM.1.1 (by decide) (by decide) fl_X16_44 (congrArg (fun z => toV (vr z)) (hM.1.r 12 (by decide) (by decide) (by decide) (by decide))) ?_
    refine wp_iload_n (i := 1) dX16_keep_17 rfl rfl ?_
    refine wp_aload_n (i := 0) dX16_keep_18 rfl rfl ?_
    refine wp_get 17 11 (vr (some (nm 1 11))) dX16_keep_19 hM.1.1 (by decide) (by decide) fl_X16_40 (congrArg (fun z => toV (vr z)) (hM.1.r 11 (by decide) (by decide) (by decide) (by decide))) ?_
    refine wp_iload_n (i := 1) dX16_keep_22 rfl rfl ?_
    refine wp_cV (y' := m_Jx4a65c_get_915e3) 2 [vi (nI k)] [vi (nI k), vr (some (nm 1 12))] 0 0 dX16_keep_23 ml_X16_201 im_Jx4a65c_get_915e3 se_Jx4a65c_get_915e3 (by decide) hM.2.1.k ok_Jx4a65c_get_915e3 rfl (Nat.le_of_ble_eq_true rfl) rfl (Nat.le_of_ble_eq_true rfl) (d' := d - 1) (by omega) (Nat.zero_le _) (Nat.zero_le _) (c_LO_get hM.2.1 (by omega) (by omega) (cont_ret ?_))
    refine wp_castC 15 dX16_keep_26 (by decide) kl_X16_170 (fun a ha => by cases ha; exact (hM.2.2.1 k hkn).1.k0) ?_
    refine wp_get 15 5 (vr (some (nm 3 k))) dX16_keep_29 (hM.2.2.1 k hkn).1.k0 (by decide) (by decide) fl_X16_182 (congrArg (fun z => toV (vr z)) ((hM.2.2.1 k hkn).1.r6_5)) ?_
    have hL1 : LRc _ (nm 3 k) 26 k ((q_F (x k)).take (r k)) (capR x r k) := (hM.2.2.1 k hkn).2
    refine wp_cV (y' := m_Jx4a65c_size_8abf5) 2 [] [vi (nI k), vr (some (nm 1 12))] 0 0 dX16_keep_32 ml_X16_168 im_Jx4a65c_size_8abf5 se_Jx4a65c_size_8abf5 (by decide) (hM.2.2.1 k hkn).2.k ok_Jx4a65c_size_8abf5 rfl (Nat.le_of_ble_eq_true rfl) rfl (Nat.le_of_ble_eq_true rfl) (d' := d - 1) (by omega) (Nat.zero_le _) (Nat.zero_le _) (c_LP_size hL1.w (cont_ret ?_))
    rw [tk_len hlk]
    refine wp_iastoreN 12 dX16_keep_35 (hM.1.k 12 (by decide) (by decide) (by decide) (by decide)) (hM.1.n 12 (by decide) (by decide) (by decide)) (by omega) (by decide) ?_
    refine wp_iincN (a := k) (lv' := [(1, vi (nI (k + 1))), (0, vr (some (nm 1 0)))]) 1 dX16_keep_36 rfl (by decide) (by decide) rfl ?_
    refine wp_goto 2 dX16_keep_39 (by decide) ?_
    refine wp_sub [(1, vi (nI (k + 1))), (0, vr (some (nm 1 0)))] (sb_cons (.head _) (sb_cons (.tail _ (.head _)) sb_nil)) ?_
    exact ih (k + 1) _ (by omega) (hM.wI (by decide)) (wI_fill hI rfl) (fun b hb => (ce_wI hb).trans (hF b hb))
set_option maxRecDepth 100000 in
set_option maxHeartbeats 4000000 in
theorem c_X16_keep {G : GG} {d bc bs : Nat} {h : Hp} {Q : Pst} {n : Nat} {x : Nat → QIS} {r : Nat → Nat} (hX : QOK n x) (hM : MSQ h n (setR x r)) (hL : QL n x r) (hd : 4 ≤ d) (hq : ∀ H, MSQ H n (setR x r) → (∀ j, j < n → h_I H (nm 1 12) j = nI (r j)) → (∀ b, b ≠ nm 1 12 → ce H b = ce h b) → Q oVoid H) : WP G m_X16_keep d 0 (aargs 0 [vr (some (nm 1 0))]) [] h bc bs Q := by
  refine wp_sub [(0, vr (some (nm 1 0)))] (fun _ hz => hz) ?_
  refine wp_iconst (nI 0) dX16_keep_0 (by decide) ?_
  refine wp_istore_n (i := 1) (lv' := [(1, vi (nI 0)), (0, vr (some (nm 1 0)))]) dX16_keep_1 rfl (by decide) rfl ?_
  exact l_X16_keep hX hL hd (h0 := h) hq n 0 _ (by omega) hM (fun j hj => absurd hj (Nat.not_lt_zero _)) (fun b _ => rfl)
set_option maxRecDepth 100000 in
set_option maxHeartbeats 4000000 in
theorem l_X16_back1 {G : GG} {d bc bs : Nat} {Q : Pst} {h0 : Hp} {n s g : Nat} {x : Nat → QIS} {κ : Nat → Nat} (hs : s < n) (hn12 : n ≤ 12) (hd : 4 ≤ d) (hg24 : g ≤ 24) : ∀ m c H ρ, ρ s = c → c = g + m → c ≤ (q_F (x s)).length → (q_F (x s)).length ≤ 24 → MSQ H n (gst x ρ κ) → PO2 H → FRQ h0 H → h_I H (nm 1 12) s = nI g → (∀ H', MSQ H' n (gst x (va_up ρ s g) κ) → PO2 H' → FRQ h0 H' → WP G m_X16_takeBack d 55 [(1, vi (nI s)), (0, vr (some (nm 1 0)))] [] H' bc bs Q) → WP G m_X16_takeBack d 28 [(2, vr (some (nm 3 s))), (1, vi (nI s)), (0, vr (some (nm 1 0)))] [] H bc bs Q := by
  intro m
  induction m with
  | zero =>
    intro c H ρ eρ hc hl h24 hM hP hG hk12 hK
    have hcg : c = g := hc
    have hLs : LRc H (nm 3 s) 26 s ((q_F (x s)).take c) (κ s) := by have := (hM.2.2.1 s hs).2; rw [show q_rc (gst x ρ κ s) = c from eρ] at this; exact this
    refine wp_aload_n (i := 2) dX16_takeBack_28 rfl rfl ?_
    refine wp_cV (y' := m_Jx4a65c_size_8abf5) 2 [] [] 0 0 dX16_takeBack_29 ml_X16_168 im_Jx4a65c_size_8abf5 se_Jx4a65c_size_8abf5 (by decide) (hM.2.2.1 s hs).2.k ok_Jx4a65c_size_8abf5 rfl (Nat.le_of_ble_eq_true rfl) rfl (Nat.le_of_ble_eq_true rfl) (d' := d - 1) (by omega) (Nat.zero_le _) (Nat.zero_le _) (c_LP_size hLs.w (cont_ret ?_))
    rw [tk_len hl]
    refine wp_aload_n (i := 0) dX16_takeBack_32 rfl rfl ?_
    refine wp_get 17 12 (vr (some (nm 1 12))) dX16_takeBack_33 hM.1.1 (by decide) (by decide) fl_X16_44 (congrArg (fun z => toV (vr z)) (hM.1.r 12 (by decide) (by decide) (by decide) (by decide))) ?_
    refine wp_iload_n (i := 1) dX16_takeBack_36 rfl rfl ?_
    refine wp_ialoadN 12 (nI g) dX16_takeBack_37 (hM.1.k 12 (by decide) (by decide) (by decide) (by decide)) (hM.1.n 12 (by decide) (by decide) (by decide)) (by omega) (by decide) (hk12) ?_
    refine wp_icmp_leN 55 dX16_takeBack_38 (by decide) (by omega) (by omega) (fun c_38 => ?_) (fun c_38 => absurd c_38 (by omega))
    refine wp_sub [(1, vi (nI s)), (0, vr (some (nm 1 0)))] (sb_cons (.tail _ (.head _)) (sb_cons (.tail _ (.tail _ (.head _))) sb_nil)) ?_
    exact hK H (by rw [← hcg, ← eρ, vu_i rfl]; exact hM) hP hG
  | succ m ih =>
    intro c H ρ eρ hc hl h24 hM hP hG hk12 hK
    have hLs : LRc H (nm 3 s) 26 s ((q_F (x s)).take c) (κ s) := by have := (hM.2.2.1 s hs).2; rw [show q_rc (gst x ρ κ s) = c from eρ] at this; exact this
    refine wp_aload_n (i := 2) dX16_takeBack_28 rfl rfl ?_
    refine wp_cV (y' := m_Jx4a65c_size_8abf5) 2 [] [] 0 0 dX16_takeBack_29 ml_X16_168 im_Jx4a65c_size_8abf5 se_Jx4a65c_size_8abf5 (by decide) (hM.2.2.1 s hs).2.k ok_Jx4a65c_size_8abf5 rfl (Nat.le_of_ble_eq_true rfl) rfl (Nat.le_of_ble_eq_true rfl) (d' := d - 1) (by omega) (Nat.zero_le _) (Nat.zero_le _) (c_LP_size hLs.w (cont_ret ?_))
    rw [tk_len hl]
    refine wp_aload_n (i := 0) dX16_takeBack_32 rfl rfl ?_
    refine wp_get 17 12 (vr (some (nm 1 12))) dX16_takeBack_33 hM.1.1 (by decide) (by decide) fl_X16_44 (congrArg (fun z => toV (vr z)) (hM.1.r 12 (by decide) (by decide) (by decide) (by decide))) ?_
    refine wp_iload_n (i := 1) dX16_takeBack_36 rfl rfl ?_
    refine wp_ialoadN 12 (nI g) dX16_takeBack_37 (hM.1.k 12 (by decide) (by decide) (by decide) (by decide)) (hM.1.n 12 (by decide) (by decide) (by decide)) (by omega) (by decide) (hk12) ?_
    refine wp_icmp_leN 55 dX16_takeBack_38 (by decide) (by omega) (by omega) (fun c_38 => absurd c_38 (by omega)) (fun c_38 => ?_)
    refine wp_aload_n (i := 2) dX16_takeBack_41 rfl rfl ?_
    refine wp_aload_n (i := 2) dX16_takeBack_42 rfl rfl ?_
    refine wp_cV (y' := m_Jx4a65c_size_8abf5) 2 [] [vr (some (nm 3 s))] 0 0 dX16_takeBack_43 ml_X16_168 im_Jx4a65c_size_8abf5 se_Jx4a65c_size_8abf5 (by decide) (hM.2.2.1 s hs).2.k ok_Jx4a65c_size_8abf5 rfl (Nat.le_of_ble_eq_true rfl) rfl (Nat.le_of_ble_eq_true rfl) (d' := d - 1) (by omega) (Nat.zero_le _) (Nat.zero_le _) (c_LP_size hLs.w (cont_ret ?_))
    rw [tk_len hl]
    refine wp_iconst (nI 1) dX16_takeBack_46 (by decide) ?_
    refine wp_isubN dX16_takeBack_47 (by omega) ?_
    refine wp_cV (y' := m_Jx4a65c_remove_915e3) 2 [vi (nI (c - 1))] [] 0 0 dX16_takeBack_48 ml_X16_222 im_Jx4a65c_remove_915e3 se_Jx4a65c_remove_915e3 (by decide) (hM.2.2.1 s hs).2.k ok_Jx4a65c_remove_915e3 rfl (Nat.le_of_ble_eq_true rfl) rfl (Nat.le_of_ble_eq_true rfl) (d' := d - 1) (by omega) (Nat.zero_le _) (Nat.zero_le _) (c_LQ_remove hLs (j := c - 1) (by rw [tk_len hl]; omega) (by omega) (fun H2 a E2 L2 C2 => cont_ret ?_))
    rw [show c = c - 1 + 1 by omega, Nat.add_sub_cancel, take_er _ _ (by omega)] at L2
    refine wp_pop dX16_takeBack_51 ?_
    refine wp_goto 28 dX16_takeBack_52 (by decide) ?_
    refine wp_sub [(2, vr (some (nm 3 s))), (1, vi (nI s)), (0, vr (some (nm 1 0)))] (sb_cons (.head _) (sb_cons (.tail _ (.head _)) (sb_cons (.tail _ (.tail _ (.head _))) sb_nil))) ?_
    exact ih (c - 1) H2 (va_up ρ s (c - 1)) (by rw [va_up_app, if_pos rfl]) (by omega) (by omega) h24 (hM.pop hs (by omega) L2 C2) (hP.lst C2) (hG.tr (FRQ.add C2)) (by rw [ce_I (C2 _ (nm_ne (by decide) (by decide) (by decide)) (fun z => nm_ne (by decide) (by decide) (by decide)))]; exact hk12) (fun H' m1 m2 m3 => hK H' (by rw [vu_d] at m1; exact m1) m2 m3)
theorem vu_mix {r0 r1 : Nat → Nat} {k : Nat} : va_up (fun j => if j < k then r0 j else r1 j) k (r0 k) = fun j => if j < k + 1 then r0 j else r1 j := by
  funext j
  rw [va_up_app]
  by_cases e : j = k
  · rw [if_pos e, if_pos (by omega), e]
  · rw [if_neg e]
    by_cases e2 : j < k
    · rw [if_pos e2, if_pos (by omega)]
    · rw [if_neg e2, if_neg (by omega)]
set_option maxRecDepth 100000 in
set_option maxHeartbeats 4000000 in
theorem l_X16_takeBack {G : GG} {d bc bs : Nat} {Q : Pst} {h0 : Hp} {n : Nat} {x : Nat → QIS} {r0 r1 κ : Nat → Nat} (hX : QOK n x) (h01 : ∀ j, j < n → r0 j ≤ r1 j) (hL : QL n x r1) (hd : 4 ≤ d) (hq : ∀ H, MSQ H n (gst x r0 κ) → PO2 H → FRQ h0 H → Q oVoid H) : ∀ m k H, k + m = n → MSQ H n (gst x (fun j => if j < k then r0 j else r1 j) κ) → PO2 H → FRQ h0 H → (∀ j, j < n → h_I H (nm 1 12) j = nI (r0 j)) → WP G m_X16_takeBack d 2 [(1, vi (nI k)), (0, vr (some (nm 1 0)))] [] H bc bs Q := by
  have hn12 := hX.2.1
  intro m
  induction m with
  | zero =>
    intro k H hk hM hP hG hI
    have hk : k = n := hk
    subst hk
    refine wp_iload_n (i := 1) dX16_takeBack_2 rfl rfl ?_
    refine wp_aload_n (i := 0) dX16_takeBack_3 rfl rfl ?_
    refine wp_get 17 11 (vr (some (nm 1 11))) dX16_takeBack_4 hM.1.1 (by decide) (by decide) fl_X16_40 (congrArg (fun z => toV (vr z)) (hM.1.r 11 (by decide) (by decide) (by decide) (by decide))) ?_
    refine wp_cV (y' := m_Jx4a65c_size_8abf5) 2 [] [vi (nI k)] 0 0 dX16_takeBack_7 ml_X16_168 im_Jx4a65c_size_8abf5 se_Jx4a65c_size_8abf5 (by decide) hM.2.1.k ok_Jx4a65c_size_8abf5 rfl (Nat.le_of_ble_eq_true rfl) rfl (Nat.le_of_ble_eq_true rfl) (d' := d - 1) (by omega) (Nat.zero_le _) (Nat.zero_le _) (c_LO_size hM.2.1 (cont_ret ?_))
    refine wp_icmp_geN 61 dX16_takeBack_10 (by decide) (by omega) (by omega) (fun c_10 => ?_) (fun c_10 => absurd c_10 (by omega))
    refine wp_return dX16_takeBack_61 rfl ?_
    exact hq _ (hM.eq (fun s hs => gst_c (if_pos hs))) hP hG
  | succ m ih =>
    intro k H hk hM hP hG hI
    have hkn : k < n := by omega
    have h24 := (hX.1 k hkn).1
    have hlk := hL k hkn
    have h01k := h01 k hkn
    refine wp_iload_n (i := 1) dX16_takeBack_2 rfl rfl ?_
    refine wp_aload_n (i := 0) dX16_takeBack_3 rfl rfl ?_
    refine wp_get 17 11 (vr (some (nm 1 11))) dX16_takeBack_4 hM.1.1 (by decide) (by decide) fl_X16_40 (congrArg (fun z => toV (vr z)) (hM.1.r 11 (by decide) (by decide) (by decide) (by decide))) ?_
    refine wp_cV (y' := m_Jx4a65c_size_8abf5) 2 [] [vi (nI k)] 0 0 dX16_takeBack_7 ml_X16_168 im_Jx4a65c_size_8abf5 se_Jx4a65c_size_8abf5 (by decide) hM.2.1.k ok_Jx4a65c_size_8abf5 rfl (Nat.le_of_ble_eq_true rfl) rfl (Nat.le_of_ble_eq_true rfl) (d' := d - 1) (by omega) (Nat.zero_le _) (Nat.zero_le _) (c_LO_size hM.2.1 (cont_ret ?_))
    refine wp_icmp_geN 61 dX16_takeBack_10 (by decide) (by omega) (by omega) (fun c_10 => absurd c_10 (by omega)) (fun c_10 => ?_)
    refine wp_aload_n (i := 0) dX16_takeBack_13 rfl rfl ?_
    refine wp_get 17 11 (vr (some (nm 1 11))) dX16_takeBack_14 hM.1.1 (by decide) (by decide) fl_X16_40 (congrArg (fun z => toV (vr z)) (hM.1.r 11 (by decide) (by decide) (by decide) (by decide))) ?_
    refine wp_iload_n (i := 1) dX16_takeBack_17 rfl rfl ?_
    refine wp_cV (y' := m_Jx4a65c_get_915e3) 2 [vi (nI k)] [] 0 0 dX16_takeBack_18 ml_X16_201 im_Jx4a65c_get_915e3 se_Jx4a65c_get_915e3 (by decide) hM.2.1.k ok_Jx4a65c_get_915e3 rfl (Nat.le_of_ble_eq_true rfl) rfl (Nat.le_of_ble_eq_true rfl) (d' := d - 1) (by omega) (Nat.zero_le _) (Nat.zero_le _) (c_LO_get hM.2.1 (by omega) (by omega) (cont_ret ?_))
    refine wp_castC 15 dX16_takeBack_21 (by decide) kl_X16_170 (fun a ha => by cases ha; exact (hM.2.2.1 k hkn).1.k0) ?_
    refine wp_get 15 5 (vr (some (nm 3 k))) dX16_takeBack_24 (hM.2.2.1 k hkn).1.k0 (by decide) (by decide) fl_X16_182 (congrArg (fun z => toV (vr z)) ((hM.2.2.1 k hkn).1.r6_5)) ?_
    refine wp_astore_n (i := 2) (lv' := [(2, vr (some (nm 3 k))), (1, vi (nI k)), (0, vr (some (nm 1 0)))]) dX16_takeBack_27 rfl (by decide) rfl ?_
    refine wp_sub [(2, vr (some (nm 3 k))), (1, vi (nI k)), (0, vr (some (nm 1 0)))] (sb_cons (.head _) (sb_cons (.tail _ (.head _)) (sb_cons (.tail _ (.tail _ (.head _))) sb_nil))) ?_
    refine l_X16_back1 (g := r0 k) (h0 := h0) hkn hn12 hd (by omega) (r1 k - r0 k) (r1 k) H (fun j => if j < k then r0 j else r1 j) (if_neg (Nat.lt_irrefl _)) (by omega) hlk h24 hM hP hG (hI k hkn) (fun H' m1 m2 m3 => ?_)
    rw [vu_mix] at m1
    refine wp_iincN (a := k) (lv' := [(1, vi (nI (k + 1))), (0, vr (some (nm 1 0)))]) 1 dX16_takeBack_55 rfl (by decide) (by decide) rfl ?_
    refine wp_goto 2 dX16_takeBack_58 (by decide) ?_
    refine wp_sub [(1, vi (nI (k + 1))), (0, vr (some (nm 1 0)))] (sb_cons (.head _) (sb_cons (.tail _ (.head _)) sb_nil)) ?_
    exact ih (k + 1) H' (by omega) m1 m2 m3 (fun j hj => by rw [congrFun (ce_I ((m3.1 _ (by unfold WQQ nm; omega)).trans (hG.1 _ (by unfold WQQ nm; omega)).symm)) j]; exact hI j hj)
set_option maxRecDepth 100000 in
set_option maxHeartbeats 4000000 in
theorem c_X16_takeBack {G : GG} {d bc bs : Nat} {h : Hp} {Q : Pst} {n : Nat} {x : Nat → QIS} {r0 r1 κ : Nat → Nat} (hX : QOK n x) (hM : MSQ h n (gst x r1 κ)) (hP : PO2 h) (h01 : ∀ j, j < n → r0 j ≤ r1 j) (hL : QL n x r1) (hI : ∀ j, j < n → h_I h (nm 1 12) j = nI (r0 j)) (hd : 4 ≤ d) (hq : ∀ H, MSQ H n (gst x r0 κ) → PO2 H → FRQ h H → Q oVoid H) : WP G m_X16_takeBack d 0 (aargs 0 [vr (some (nm 1 0))]) [] h bc bs Q := by
  refine wp_sub [(0, vr (some (nm 1 0)))] (fun _ hz => hz) ?_
  refine wp_iconst (nI 0) dX16_takeBack_0 (by decide) ?_
  refine wp_istore_n (i := 1) (lv' := [(1, vi (nI 0)), (0, vr (some (nm 1 0)))]) dX16_takeBack_1 rfl (by decide) rfl ?_
  exact l_X16_takeBack (r1 := r1) hX h01 hL hd (h0 := h) hq n 0 _ (by omega) (hM.eq (fun s hs => gst_c (if_neg (Nat.not_lt_zero s)).symm)) hP FRQ.rf hI
