/-! The model: collect. -/
theorem IB.ce {h h' : Hp} (H : IB h h' (mW (nm 1 0) (nm 1))) {b : Nat} (hb : ∀ j, ¬ mW (nm 1 0) (nm 1) b j) : ce h' b = ce h b := by
  obtain ⟨e1, e2, e3, e4, e5, e6⟩ := H
  have e7 : h_I h' b = h_I h b := funext fun j => e6 b j (hb j)
  show (h_k h' b, h_n h' b, h_I h' b, h_R h' b, h_L h' b, h_F h' b) = _
  rw [e1, e2, e7, e3, e4, e5]
theorem mW_no {r i j : Nat} (hr : r < 128) (h : r ≠ 1 ∨ 10 < i) : ¬ mW (nm 1 0) (nm 1) (nm r i) j := by
  rintro (⟨e, -⟩ | ⟨q, h1, h2, e⟩) <;> unfold nm at e <;> omega
theorem MSQ.ib {h h' : Hp} {n : Nat} {x : Nat → QIS} (H : MSQ h n x) (e : IB h h' (mW (nm 1 0) (nm 1))) : MSQ h' n x :=
  ⟨H.1.ib e, H.2.1.frm (e.ce (fun j => by rw [show (0 : Nat) = nm 0 0 from rfl]; exact mW_no (by decide) (Or.inl (by decide)))) (e.ce (fun j => mW_no (by decide) (Or.inr (by decide)))) (fun z => e.ce (fun j => mW_no (by decide) (Or.inl (by decide)))),
    fun s hs => ⟨(H.2.2.1 s hs).1.frm (e.ce (fun j => mW_no (by decide) (Or.inl (by decide)))), (H.2.2.1 s hs).2.frm (e.ce (fun j => by rw [show (0 : Nat) = nm 0 0 from rfl]; exact mW_no (by decide) (Or.inl (by decide)))) (e.ce (fun j => mW_no (by decide) (Or.inl (by decide)))) (fun z => e.ce (fun j => mW_no (by decide) (Or.inl (by decide)))) (fun k _ => e.ce (fun j => mW_no (by decide) (Or.inl (by decide))))⟩,
    H.2.2.2.1.fr (fun i _ => e.ce (fun j => mW_no (by decide) (Or.inl (by decide)))), H.2.2.2.2.1.fr (fun i _ => e.ce (fun j => mW_no (by decide) (Or.inl (by decide)))), H.2.2.2.2.2.fr (fun i _ _ z => e.ce (fun j => mW_no (by decide) (Or.inl (by decide))))⟩
theorem PO2.ib {h h' : Hp} (H : PO2 h) (e : IB h h' (mW (nm 1 0) (nm 1))) : PO2 h' :=
  ⟨H.1.elim fun K z => ⟨K, z.fr (fun _ _ => e.ce (fun j => mW_no (by decide) (Or.inl (by decide))))⟩, H.2.elim fun K z => ⟨K, z.fr (fun _ _ => e.ce (fun j => mW_no (by decide) (Or.inl (by decide))))⟩⟩
/-- the values stay where only sequences change -/
theorem MP.fq {h h' : Hp} {S : SV} (H : MP h (nm 1 0) (nm 1) S) (hM : MF h' (nm 1 0) (nm 1)) (h0 : ∀ j, j ≠ 0 → h_I h' (nm 1 0) j = h_I h (nm 1 0) j) (hr : ∀ i, 3 ≤ i → i ≤ 10 → ce h' (nm 1 i) = ce h (nm 1 i)) : MP h' (nm 1 0) (nm 1) S := by
  obtain ⟨-, e1, e2, e3, e4, e5, e6, e7, e8, e9, e10⟩ := H
  exact ⟨hM, (h0 1 (by decide)).trans e1, (h0 2 (by decide)).trans e2, fun j => by rw [ce_I (hr 3 (by decide) (by decide))]; exact e3 j, fun j => by rw [ce_I (hr 4 (by decide) (by decide))]; exact e4 j, fun j => by rw [ce_I (hr 5 (by decide) (by decide))]; exact e5 j, fun j => by rw [ce_I (hr 6 (by decide) (by decide))]; exact e6 j, fun j => by rw [ce_I (hr 7 (by decide) (by decide))]; exact e7 j, fun j => by rw [ce_I (hr 8 (by decide) (by decide))]; exact e8 j, fun j => by rw [ce_I (hr 9 (by decide) (by decide))]; exact e9 j, fun j => by rw [ce_I (hr 10 (by decide) (by decide))]; exact e10 j⟩
theorem MP.fs {h h' : Hp} {S : SV} {n : Nat} {x : Nat → QIS} (H : MP h (nm 1 0) (nm 1) S) (hM : MSQ h' n x) (hG : FRS h h') : MP h' (nm 1 0) (nm 1) S :=
  H.fq hM.1 hG.2.2.2 (fun i h1 h2 => hG.1 _ (by unfold WSQ nm; omega))
theorem MSQ.lst {h : Hp} {n s : Nat} {y : Nat → QIS} {xs : List (List Int32)} (H : MSQ h n y) (hs : s < n) (hxs : (q_F (y s)).take (q_rc (y s)) = xs) : LRw h (nm 3 s) 26 s xs := by rw [← hxs]; exact (H.2.2.1 s hs).2.w
/-- whether one of the first elements is no element -/
def outK (xs : List (List Int32)) : Nat → Bool
  | 0 => false
  | k + 1 => outK xs k || !elB (atF xs k)
/-- the state with the elements of xs at v -/
def colK (S : SV) (xs : List (List Int32)) (z k : Nat) : SV := (sNv S, sMd S, sTy S, va_up (sSz S) (sNv S - 1) z, blk (sEl S) (fun i => atF xs i) 64 (sNv S - 1) k, sNd S, sOw S, sHs S, sOf S, sMn S)
def colS (S : SV) (xs : List (List Int32)) : SV := nfS (colK (s_new S 118) xs (tot xs) (tot xs)) (sNv S) (fun _ => false) (fun _ => 0) 21
def o_collect (S : SV) (n : Nat) (x : Nat → QIS) (u : Int32) (s : Nat) : Int32 × Int32 × SV × Nat × (Nat → QIS) :=
  if (!ixB u n) = true then (nI 1, nI 0, S, n, x) else if q_B (x s) = true then (nI 2, nI 0, S, n, gst x (rcx x) (capR x (enR x s (rcx x))))
  else if outK (q_F (x s)) (tot (q_F (x s))) = true then (nI 3, nI 0, S, n, gst x (rcx x) (capR x (enR x s (rcx x))))
  else if sNv S = 60 then (nI 4, nI 0, S, n, gst x (rcx x) (capR x (enR x s (rcx x))))
  else (nI 0, nI (sNv S), colS S (q_F (x s)), n, setR x (enR x s (rcx x)))
set_option maxRecDepth 100000 in
set_option maxHeartbeats 4000000 in
theorem l_X16_collect1 {G : GG} {d bcE bsE : Nat} {Q : Pst} {h0 : Hp} {n s : Nat} {y : Nat → QIS} {xs : List (List Int32)} {a3 : Int32} (hs : s < n) (hxs : (q_F (y s)).take (q_rc (y s)) = xs) (ht : tot xs ≤ 24) (hd : 9 ≤ d) (hq : ∀ H, MSQ H n y → PO2 H → FRQ h0 H → WP G m_X16_collect d 96 [(4, vi (bI (outK xs (tot xs)))), (3, vi a3), (2, vr (some (nm 2 s))), (0, vr (some (nm 1 0)))] [] H bcE bsE Q) : ∀ m k H, k + m = tot xs → MSQ H n y → PO2 H → FRQ h0 H → WP G m_X16_collect d 57 [(5, vi (nI k)), (4, vi (bI (outK xs k))), (3, vi a3), (2, vr (some (nm 2 s))), (0, vr (some (nm 1 0)))] [] H (bcE + 2 * m + 1) (bsE + 8 * m + 4) Q := by
  intro m
  induction m with
  | zero =>
    intro k H hk hM hP hG
    have hk : k = tot xs := hk
    subst hk
    have hL : LRw H (nm 3 s) 26 s xs := by have := (hM.2.2.1 s hs).2.w; rw [hxs] at this; exact this
    obtain ⟨⟨K2, hK2⟩, K, hK⟩ := id hP
    refine wp_iload (i := 5) dX16_collect_57 rfl ?_
    refine wp_aload_n (i := 2) dX16_collect_59 rfl rfl ?_
    refine wp_cV (y' := m_X14_elements) 15 [] [vi (nI (tot xs))] 1 4 dX16_collect_60 ml_X16_211 im_X14_elements se_X14_elements (by decide) (hM.2.2.1 s hs).1.k0 ok_X14_elements rfl (Nat.le_of_ble_eq_true rfl) rfl (Nat.le_of_ble_eq_true rfl) (d' := d - 1) (by omega) (by omega) (by omega) (c_X14_elements (hM.2.2.1 s hs).1 hL hK (by omega) (by omega) (Nat.le_refl _) (Nat.le_refl _) (fun H1 C1 => cont_ret ?_))
    have hM1 := hM.it C1
    have hP1 := hP.itq hK C1
    have hG1 := hG.tr (FRQ.it C1)
    refine wp_icmp_geN 96 dX16_collect_63 (by decide) (by omega) (by omega) (fun c_63 => ?_) (fun c_63 => absurd c_63 (by omega))
    refine wp_sub [(4, vi (bI (outK xs (tot xs)))), (3, vi a3), (2, vr (some (nm 2 s))), (0, vr (some (nm 1 0)))] (sb_cons (.tail _ (.head _)) (sb_cons (.tail _ (.tail _ (.head _))) (sb_cons (.tail _ (.tail _ (.tail _ (.head _)))) (sb_cons (.tail _ (.tail _ (.tail _ (.tail _ (.head _))))) sb_nil)))) ?_
    refine wp_pay (bc' := bcE) (bs' := bsE) (by omega) (by omega) ?_
    exact hq _ hM1 hP1 hG1
  | succ m ih =>
    intro k H hk hM hP hG
    have hL : LRw H (nm 3 s) 26 s xs := by have := (hM.2.2.1 s hs).2.w; rw [hxs] at this; exact this
    obtain ⟨⟨K2, hK2⟩, K, hK⟩ := id hP
    refine wp_iload (i := 5) dX16_collect_57 rfl ?_
    refine wp_aload_n (i := 2) dX16_collect_59 rfl rfl ?_
    refine wp_cV (y' := m_X14_elements) 15 [] [vi (nI k)] 1 4 dX16_collect_60 ml_X16_211 im_X14_elements se_X14_elements (by decide) (hM.2.2.1 s hs).1.k0 ok_X14_elements rfl (Nat.le_of_ble_eq_true rfl) rfl (Nat.le_of_ble_eq_true rfl) (d' := d - 1) (by omega) (by omega) (by omega) (c_X14_elements (hM.2.2.1 s hs).1 hL hK (by omega) (by omega) (Nat.le_refl _) (Nat.le_refl _) (fun H1 C1 => cont_ret ?_))
    have hM1 := hM.it C1
    have hP1 := hP.itq hK C1
    have hG1 := hG.tr (FRQ.it C1)
    refine wp_icmp_geN 96 dX16_collect_63 (by decide) (by omega) (by omega) (fun c_63 => absurd c_63 (by omega)) (fun c_63 => ?_)
    refine wp_iload (i := 4) dX16_collect_66 rfl ?_
    refine wp_if_neB 83 dX16_collect_68 (by decide) (fun c_68 => ?_) (fun c_68 => ?_)
    · skip
      refine wp_iconst (nI 1) dX16_collect_83 (by decide) ?_
      refine wp_goto 88 dX16_collect_84 (by decide) ?_
      refine wp_istore (i := 4) (lv' := [(4, vi (nI 1)), (5, vi (nI k)), (3, vi a3), (2, vr (some (nm 2 s))), (0, vr (some (nm 1 0)))]) dX16_collect_88 (by decide) rfl ?_
      refine wp_iincN (a := k) (lv' := [(5, vi (nI (k + 1))), (4, vi (nI 1)), (3, vi a3), (2, vr (some (nm 2 s))), (0, vr (some (nm 1 0)))]) 1 dX16_collect_90 rfl (by decide) (by decide) rfl ?_
      refine wp_goto 57 dX16_collect_93 (by decide) ?_
      refine wp_sub [(5, vi (nI (k + 1))), (4, vi (nI 1)), (3, vi a3), (2, vr (some (nm 2 s))), (0, vr (some (nm 1 0)))] (sb_cons (.head _) (sb_cons (.tail _ (.head _)) (sb_cons (.tail _ (.tail _ (.head _))) (sb_cons (.tail _ (.tail _ (.tail _ (.head _)))) (sb_cons (.tail _ (.tail _ (.tail _ (.tail _ (.head _))))) sb_nil))))) ?_
      have e : outK xs (k + 1) = true := by rw [outK, c_68, Bool.true_or]
      have ih2 := ih (k + 1) _ (by omega) hM1 hP1 hG1
      rw [e] at ih2
      exact wp_pay (bc' := bcE + 2 * m + 1) (bs' := bsE + 8 * m + 4) (by omega) (by omega) ih2
    · skip
      refine wp_aload_n (i := 2) dX16_collect_71 rfl rfl ?_
      refine wp_iload (i := 5) dX16_collect_72 rfl ?_
      have hL1 := hM1.lst hs hxs
      obtain ⟨⟨K3, hK3⟩, K4, hK4⟩ := id hP1
      refine wp_cV (y' := m_X14_at) 15 [vi (nI k)] [] 1 4 dX16_collect_74 ml_X16_218 im_X14_at se_X14_at (by decide) (hM1.2.2.1 s hs).1.k0 ok_X14_at rfl (Nat.le_of_ble_eq_true rfl) rfl (Nat.le_of_ble_eq_true rfl) (d' := d - 1) (by omega) (by omega) (by omega) (c_X14_at (hM1.2.2.1 s hs).1 hL1 hK4 (by omega) (by omega) (Nat.le_refl _) (Nat.le_refl _) (by omega) (fun H2 C2 => cont_ret ?_))
      have hM2 := hM1.it C2
      have hP2 := hP1.itq hK4 C2
      have hG2 := hG1.tr (FRQ.it C2)
      refine wp_cS (y' := m_X16_noElement) [vi (atF xs k)] [] 0 0 dX16_collect_77 ml_X16_118 st_X16_noElement ok_X16_noElement rfl (Nat.le_of_ble_eq_true rfl) rfl (Nat.le_of_ble_eq_true rfl) (d' := d - 1) (by omega) (Nat.zero_le _) (Nat.zero_le _) (c_X16_noElement (atF xs k) (by omega) (cont_ret ?_))
      refine wp_if_eqB 87 dX16_collect_80 (by decide) (fun c_80 => ?_) (fun c_80 => ?_)
      · skip
        refine wp_iconst (nI 0) dX16_collect_87 (by decide) ?_
        refine wp_istore (i := 4) (lv' := [(4, vi (nI 0)), (5, vi (nI k)), (3, vi a3), (2, vr (some (nm 2 s))), (0, vr (some (nm 1 0)))]) dX16_collect_88 (by decide) rfl ?_
        refine wp_iincN (a := k) (lv' := [(5, vi (nI (k + 1))), (4, vi (nI 0)), (3, vi a3), (2, vr (some (nm 2 s))), (0, vr (some (nm 1 0)))]) 1 dX16_collect_90 rfl (by decide) (by decide) rfl ?_
        refine wp_goto 57 dX16_collect_93 (by decide) ?_
        refine wp_sub [(5, vi (nI (k + 1))), (4, vi (nI 0)), (3, vi a3), (2, vr (some (nm 2 s))), (0, vr (some (nm 1 0)))] (sb_cons (.head _) (sb_cons (.tail _ (.head _)) (sb_cons (.tail _ (.tail _ (.head _))) (sb_cons (.tail _ (.tail _ (.tail _ (.head _)))) (sb_cons (.tail _ (.tail _ (.tail _ (.tail _ (.head _))))) sb_nil))))) ?_
        have e : outK xs (k + 1) = false := by rw [outK, c_68, c_80, Bool.or_self]
        have ih2 := ih (k + 1) _ (by omega) hM2 hP2 hG2
        rw [e] at ih2
        exact wp_pay (bc' := bcE + 2 * m + 1) (bs' := bsE + 8 * m + 4) (by omega) (by omega) ih2
      · skip
        refine wp_iconst (nI 1) dX16_collect_83 (by decide) ?_
        refine wp_goto 88 dX16_collect_84 (by decide) ?_
        refine wp_istore (i := 4) (lv' := [(4, vi (nI 1)), (5, vi (nI k)), (3, vi a3), (2, vr (some (nm 2 s))), (0, vr (some (nm 1 0)))]) dX16_collect_88 (by decide) rfl ?_
        refine wp_iincN (a := k) (lv' := [(5, vi (nI (k + 1))), (4, vi (nI 1)), (3, vi a3), (2, vr (some (nm 2 s))), (0, vr (some (nm 1 0)))]) 1 dX16_collect_90 rfl (by decide) (by decide) rfl ?_
        refine wp_goto 57 dX16_collect_93 (by decide) ?_
        refine wp_sub [(5, vi (nI (k + 1))), (4, vi (nI 1)), (3, vi a3), (2, vr (some (nm 2 s))), (0, vr (some (nm 1 0)))] (sb_cons (.head _) (sb_cons (.tail _ (.head _)) (sb_cons (.tail _ (.tail _ (.head _))) (sb_cons (.tail _ (.tail _ (.tail _ (.head _)))) (sb_cons (.tail _ (.tail _ (.tail _ (.tail _ (.head _))))) sb_nil))))) ?_
        have e : outK xs (k + 1) = true := by rw [outK, c_68, c_80, Bool.or_true]
        have ih2 := ih (k + 1) _ (by omega) hM2 hP2 hG2
        rw [e] at ih2
        exact wp_pay (bc' := bcE + 2 * m + 1) (bs' := bsE + 8 * m + 4) (by omega) (by omega) ih2
set_option maxRecDepth 100000 in
set_option maxHeartbeats 4000000 in
theorem l_X16_collect2 {G : GG} {d bcE bsE : Nat} {Q : Pst} {P0 : Hp → Prop} {n s v : Nat} {y : Nat → QIS} {xs : List (List Int32)} {T : SV} (hs : s < n) (hxs : (q_F (y s)).take (q_rc (y s)) = xs) (ht : tot xs ≤ 24) (hv : v < 60) (hT : sNv T = v + 1) (hd : 9 ≤ d) (hPi : ∀ H H', P0 H → FRQ H H' → P0 H') (hPw : ∀ H H', P0 H → PV H H' (nm 1 0) (nm 1) → P0 H') (hq : ∀ H, MSQ H n y → PO2 H → P0 H → MP H (nm 1 0) (nm 1) (colK T xs (tot xs) (tot xs)) → WP G m_X16_collect d 192 [(5, vi (nI v)), (0, vr (some (nm 1 0)))] [] H bcE bsE Q) : ∀ m k H, k + m = tot xs → MSQ H n y → PO2 H → P0 H → MP H (nm 1 0) (nm 1) (colK T xs (tot xs) k) → WP G m_X16_collect d 155 [(6, vi (nI k)), (5, vi (nI v)), (2, vr (some (nm 2 s))), (0, vr (some (nm 1 0)))] [] H (bcE + m) (bsE + 4 * m) Q := by
  intro m
  induction m with
  | zero =>
    intro k H hk hM hP hp hV
    have hk : k = tot xs := hk
    subst hk
    refine wp_iload (i := 6) dX16_collect_155 rfl ?_
    refine wp_aload_n (i := 0) dX16_collect_157 rfl rfl ?_
    refine wp_get 17 4 (vr (some (nm 1 4))) dX16_collect_158 hM.1.1 (by decide) (by decide) fl_X16_13 (congrArg (fun z => toV (vr z)) (hV.1.r 4 (by decide) (by decide) (by decide) (by decide))) ?_
    refine wp_iload (i := 5) dX16_collect_161 rfl ?_
    refine wp_ialoadN 60 (nI (tot xs)) dX16_collect_163 (hV.1.k 4 (by decide) (by decide) (by decide) (by decide)) (hV.1.n 4 (by decide) (by decide) (by decide)) (by omega) (by decide) ((hV.2.2.2.2.1 v).trans (congrArg nI (show va_up (sSz T) (sNv T - 1) (tot xs) v = tot xs by rw [va_up_app, if_pos (by omega)]))) ?_
    refine wp_icmp_geN 192 dX16_collect_164 (by decide) (by omega) (by omega) (fun c_164 => ?_) (fun c_164 => absurd c_164 (by omega))
    refine wp_sub [(5, vi (nI v)), (0, vr (some (nm 1 0)))] (sb_cons (.tail _ (.head _)) (sb_cons (.tail _ (.tail _ (.tail _ (.head _)))) sb_nil)) ?_
    exact wp_pay (bc' := bcE) (bs' := bsE) (by omega) (by omega) (hq _ hM hP hp hV)
  | succ m ih =>
    intro k H hk hM hP hp hV
    have hM1 := hM
    have hP1 := hP
    have hG1 := FRQ.rf (h := H)
    refine wp_iload (i := 6) dX16_collect_155 rfl ?_
    refine wp_aload_n (i := 0) dX16_collect_157 rfl rfl ?_
    refine wp_get 17 4 (vr (some (nm 1 4))) dX16_collect_158 hM.1.1 (by decide) (by decide) fl_X16_13 (congrArg (fun z => toV (vr z)) (hV.1.r 4 (by decide) (by decide) (by decide) (by decide))) ?_
    refine wp_iload (i := 5) dX16_collect_161 rfl ?_
    refine wp_ialoadN 60 (nI (tot xs)) dX16_collect_163 (hV.1.k 4 (by decide) (by decide) (by decide) (by decide)) (hV.1.n 4 (by decide) (by decide) (by decide)) (by omega) (by decide) ((hV.2.2.2.2.1 v).trans (congrArg nI (show va_up (sSz T) (sNv T - 1) (tot xs) v = tot xs by rw [va_up_app, if_pos (by omega)]))) ?_
    refine wp_icmp_geN 192 dX16_collect_164 (by decide) (by omega) (by omega) (fun c_164 => absurd c_164 (by omega)) (fun c_164 => ?_)
    refine wp_aload_n (i := 0) dX16_collect_167 rfl rfl ?_
    refine wp_get 17 5 (vr (some (nm 1 5))) dX16_collect_168 hM.1.1 (by decide) (by decide) fl_X16_17 (congrArg (fun z => toV (vr z)) (hV.1.r 5 (by decide) (by decide) (by decide) (by decide))) ?_
    refine wp_bipush (nI 64) dX16_collect_171 (by decide) ?_
    refine wp_iload (i := 5) dX16_collect_173 rfl ?_
    refine wp_imulN dX16_collect_175 ?_
    refine wp_iload (i := 6) dX16_collect_176 rfl ?_
    refine wp_iaddN dX16_collect_178 ?_
    refine wp_aload_n (i := 2) dX16_collect_179 rfl rfl ?_
    refine wp_iload (i := 6) dX16_collect_180 rfl ?_
    have hL1 := hM1.lst hs hxs
    obtain ⟨⟨K3, hK3⟩, K4, hK4⟩ := id hP1
    refine wp_cV (y' := m_X14_at) 15 [vi (nI k)] [vi (nI ((64 * v) + k)), vr (some (nm 1 5))] 1 4 dX16_collect_182 ml_X16_218 im_X14_at se_X14_at (by decide) (hM.2.2.1 s hs).1.k0 ok_X14_at rfl (Nat.le_of_ble_eq_true rfl) rfl (Nat.le_of_ble_eq_true rfl) (d' := d - 1) (by omega) (by omega) (by omega) (c_X14_at (hM1.2.2.1 s hs).1 hL1 hK4 (by omega) (by omega) (Nat.le_refl _) (Nat.le_refl _) (by omega) (fun H2 C2 => cont_ret ?_))
    have hM2 := hM1.it C2
    have hP2 := hP1.itq hK4 C2
    have hG2 := hG1.tr (FRQ.it C2)
    have hV2 := hV.fs hM2 (FRS.q hG2)
    refine wp_iastoreN 3840 dX16_collect_185 (hV2.1.k 5 (by decide) (by decide) (by decide) (by decide)) (hV2.1.n 5 (by decide) (by decide) (by decide)) (by omega) (by decide) ?_
    refine wp_iincN (a := k) (lv' := [(6, vi (nI (k + 1))), (5, vi (nI v)), (2, vr (some (nm 2 s))), (0, vr (some (nm 1 0)))]) 1 dX16_collect_186 rfl (by decide) (by decide) rfl ?_
    refine wp_goto 155 dX16_collect_189 (by decide) ?_
    refine wp_sub [(6, vi (nI (k + 1))), (5, vi (nI v)), (2, vr (some (nm 2 s))), (0, vr (some (nm 1 0)))] (sb_cons (.head _) (sb_cons (.tail _ (.head _)) (sb_cons (.tail _ (.tail _ (.head _))) (sb_cons (.tail _ (.tail _ (.tail _ (.head _)))) sb_nil)))) ?_
    have e1 := blk_s (f := sEl T) (g := fun i => atF xs i) (w := 64) (a := sNv T - 1) (k := k)
    have hV3 := hV2.w5 (k := 64 * v + k) (x := atF xs k)
    have q3 := PV.i (k := 64 * v + k) (x := atF xs k) hV2 PV.rf 5 (by decide) (by decide)
    refine wp_pay (bc' := bcE + m) (bs' := bsE + 4 * m) (by omega) (by omega) ?_
    exact ih (k + 1) _ (by omega) (hM2.ib q3.1) (hP2.ib q3.1) (hPw _ _ (hPi _ _ hp hG2) q3) (by unfold colK; rw [← e1, show sNv T - 1 = v by omega]; unfold colK at hV3; rw [show sNv T - 1 = v by omega] at hV3; exact hV3)
/-- what collecting may change: what calls about sequences may, and the values -/
def WCF (h h' : Hp) : Prop := (∀ a, ¬ WSQ a → (∀ j, ¬ mW (nm 1 0) (nm 1) a j) → ce h' a = ce h a) ∧ (∀ k, h_k h (nm 22 k) ≠ 0 → ce h' (nm 22 k) = ce h (nm 22 k)) ∧ (h_k h' (nm 1 0) = h_k h (nm 1 0) ∧ h_n h' (nm 1 0) = h_n h (nm 1 0) ∧ h_R h' (nm 1 0) = h_R h (nm 1 0) ∧ h_L h' (nm 1 0) = h_L h (nm 1 0) ∧ h_F h' (nm 1 0) = h_F h (nm 1 0)) ∧ ∀ j, 2 < j → h_I h' (nm 1 0) j = h_I h (nm 1 0) j
theorem mW_no2 {j : Nat} (hj : 2 < j) : ¬ mW (nm 1 0) (nm 1) (nm 1 0) j := by
  rintro (⟨-, e⟩ | ⟨q, h1, h2, e⟩)
  · omega
  · unfold nm at e; omega
theorem WCF.tr {h h1 h2 : Hp} (a : WCF h h1) (b : WCF h1 h2) : WCF h h2 := ⟨fun x h3 h4 => (b.1 x h3 h4).trans (a.1 x h3 h4), fun k hk => (b.2.1 k (by rw [ce_k (a.2.1 k hk)]; exact hk)).trans (a.2.1 k hk),
  ⟨b.2.2.1.1.trans a.2.2.1.1, b.2.2.1.2.1.trans a.2.2.1.2.1, b.2.2.1.2.2.1.trans a.2.2.1.2.2.1, b.2.2.1.2.2.2.1.trans a.2.2.1.2.2.2.1, b.2.2.1.2.2.2.2.trans a.2.2.1.2.2.2.2⟩, fun j hj => (b.2.2.2 j hj).trans (a.2.2.2 j hj)⟩
theorem WCF.s {h h' : Hp} (H : FRS h h') : WCF h h' := ⟨fun a h1 _ => H.1 a h1, H.2.1, H.2.2.1, fun j hj => H.2.2.2 j (by omega)⟩
theorem WCF.v {h h' : Hp} (H : IB h h' (mW (nm 1 0) (nm 1))) : WCF h h' := ⟨fun a _ h2 => H.ce h2, fun k _ => H.ce (fun j => mW_no (by decide) (Or.inl (by decide))), ⟨congrFun H.1 _, congrFun H.2.1 _, congrFun H.2.2.1 _, congrFun H.2.2.2.1 _, congrFun H.2.2.2.2.1 _⟩, fun j hj => H.2.2.2.2.2 _ j (mW_no2 hj)⟩
theorem colB {S : SV} {xs : List (List Int32)} {z k : Nat} (hS : SB S) (hn : sNv S < 60) (hz : z ≤ 64) : SB (colK (s_new S 118) xs z k) := by
  have h := hS.new (c := 118) (by decide) hn
  refine ⟨h.1, h.2.1, h.2.2.1, fun j => ?_, h.2.2.2.2.1, h.2.2.2.2.2⟩
  show va_up (sSz (s_new S 118)) _ z j ≤ 64
  rw [va_up_app]; split
  · exact hz
  · exact h.2.2.2.1 j
set_option maxRecDepth 100000 in
set_option maxHeartbeats 4000000 in
theorem c_X16_collect {G : GG} {d bc bs : Nat} {h : Hp} {Q : Pst} {S : SV} (hV : MP h (nm 1 0) (nm 1) S) (hS : SB S) (hmd : sMd S + 21 ≤ 1000000) {n : Nat} {x : Nat → QIS} (hX : QX n x) (hM : MSQ h n x) (hP : PO2 h) {u : Int32} {s : Nat} (hu : ixB u n = true → u = nI s ∧ s < n) (hd : 60 ≤ d) (hbc : s < n → PC n x (enR x s (rcx x)) + 87 ≤ bc + PC n x (rcx x) ∧ PS n x (enR x s (rcx x)) + 400 ≤ bs + PS n x (rcx x)) (hq : ∀ h', h_I h' (nm 1 0) 0 = (o_collect S n x u s).1 → MP h' (nm 1 0) (nm 1) (o_collect S n x u s).2.2.1 → MSQ h' (o_collect S n x u s).2.2.2.1 (o_collect S n x u s).2.2.2.2 → PO2 h' → WCF h h' → Q (oRet (vi (o_collect S n x u s).2.1)) h') : WP G m_X16_collect d 0 (aargs 0 [vr (some (nm 1 0)), vi u]) [] h bc bs Q := by
  have hn12 := hX.1.2.1
  have hnv := hS.1
  refine wp_sub [(0, vr (some (nm 1 0))), (1, vi u)] (fun _ hz => hz) ?_
  refine wp_aload_n (i := 0) dX16_collect_0 rfl rfl ?_
  refine wp_iconst (nI 0) dX16_collect_1 (by decide) ?_
  refine wp_putI 17 0 dX16_collect_2 hM.1.1 (by decide) (by decide) (by decide) fl_X16_63 rfl (fun _ _ => rfl) rfl rfl ?_
  have hM0 := hM.wI (i := 0) (k := 0) (v := nI 0) (by decide)
  have hG0 : FRS h (wI h (nm 1 0) 0 (nI 0)) := FRS.w0
  have hP0 := PO2.m (a := nm 1 0) (k := 0) (x := nI 0) hP
  refine wp_aload_n (i := 0) dX16_collect_5 rfl rfl ?_
  refine wp_aload_n (i := 0) dX16_collect_6 rfl rfl ?_
  refine wp_iload_n (i := 1) dX16_collect_7 rfl rfl ?_
  refine wp_cV (y' := m_X16_noSequence) 17 [vi u] [vr (some (nm 1 0))] 0 0 dX16_collect_8 ml_X16_179 im_X16_noSequence se_X16_noSequence (by decide) hM0.1.1 ok_X16_noSequence rfl (Nat.le_of_ble_eq_true rfl) rfl (Nat.le_of_ble_eq_true rfl) (d' := d - 1) (by omega) (Nat.zero_le _) (Nat.zero_le _) (c_X16_noSequence hM0 u (by omega) (cont_ret ?_))
  refine wp_iconst (nI 1) dX16_collect_11 (by decide) ?_
  refine wp_cV (y' := m_X16_fails) 17 [vi (bI (!ixB u n)), vi (nI 1)] [] 0 0 dX16_collect_12 ml_X16_102 im_X16_fails se_X16_fails (by decide) hM0.1.1 ok_X16_fails rfl (Nat.le_of_ble_eq_true rfl) rfl (Nat.le_of_ble_eq_true rfl) (d' := d - 1) (by omega) (Nat.zero_le _) (Nat.zero_le _) (c_flB hM0.1.1 wI_ss (!ixB u n) (nI 1) (by decide) (fun g_1 => cont_ret ?_) (fun g_1 => cont_ret ?_))
  · have hM1 := hM0.wI (i := 0) (k := 0) (v := nI 1) (by decide)
    have hG2 := hG0.tr (FRS.w0 (v := nI 1))
    have hP3 := PO2.m (a := nm 1 0) (k := 0) (x := nI 1) hP0
    refine wp_if_eqN 20 dX16_collect_15 (by decide) (by decide) (fun c_15 => absurd c_15 (by decide)) (fun c_15 => ?_)
    refine wp_iconst (nI 0) dX16_collect_18 (by decide) ?_
    refine wp_ireturn dX16_collect_19 rfl ?_
    rw [show o_collect S n x u s = (nI 1, nI 0, S, n, x) from by unfold o_collect; rw [if_pos g_1]] at hq
    exact hq _ wI_ss (hV.fs hM1 hG2) hM1 hP3 (WCF.s hG2)
  · obtain ⟨eu, hs⟩ := hu (nt_f g_1)
    subst eu
    refine wp_if_eqN 20 dX16_collect_15 (by decide) (by decide) (fun c_15 => ?_) (fun c_15 => absurd c_15 (by decide))
    refine wp_aload_n (i := 0) dX16_collect_20 rfl rfl ?_
    refine wp_cV (y' := m_X16_keep) 17 [] [] 0 0 dX16_collect_21 ml_X16_225 im_X16_keep se_X16_keep (by decide) hM0.1.1 ok_X16_keep rfl (Nat.le_of_ble_eq_true rfl) rfl (Nat.le_of_ble_eq_true rfl) (d' := d - 1) (by omega) (Nat.zero_le _) (Nat.zero_le _) (c_X16_keep hX.1 (hX.st hM0) hX.2.1.l (by omega) (fun H1 m1 i1 c1 => cont_void ?_))
    have g1 := hG0.tr (FRS.k12 c1)
    have p1 := hP0.k12 c1
    have t1 := (k12_th c1).trans wI_ss
    refine wp_aload_n (i := 0) dX16_collect_24 rfl rfl ?_
    refine wp_get 17 11 (vr (some (nm 1 11))) dX16_collect_25 m1.1.1 (by decide) (by decide) fl_X16_40 (congrArg (fun z => toV (vr z)) (m1.1.r 11 (by decide) (by decide) (by decide) (by decide))) ?_
    refine wp_iload_n (i := 1) dX16_collect_28 rfl rfl ?_
    refine wp_cV (y' := m_Jx4a65c_get_915e3) 2 [vi (nI s)] [] 0 0 dX16_collect_29 ml_X16_201 im_Jx4a65c_get_915e3 se_Jx4a65c_get_915e3 (by decide) m1.2.1.k ok_Jx4a65c_get_915e3 rfl (Nat.le_of_ble_eq_true rfl) rfl (Nat.le_of_ble_eq_true rfl) (d' := d - 1) (by omega) (Nat.zero_le _) (Nat.zero_le _) (c_LO_get m1.2.1 (by omega) (by omega) (cont_ret ?_))
    refine wp_castC 15 dX16_collect_32 (by decide) kl_X16_170 (fun a ha => by cases ha; exact (m1.2.2.1 s hs).1.k0) ?_
    refine wp_astore_n (i := 2) (lv' := [(2, vr (some (nm 2 s))), (0, vr (some (nm 1 0))), (1, vi (nI s))]) dX16_collect_35 rfl (by decide) rfl ?_
    have hbc := hbc hs
    have hge : PC n x (rcx x) ≤ PC n x (enR x s (rcx x)) ∧ PS n x (rcx x) ≤ PS n x (enR x s (rcx x)) := ⟨PC_mono (fun j _ => enR_ge hX.1.1 hs j), PS_mono (fun j _ => enR_ge hX.1.1 hs j)⟩
    have h24 := (hX.1.1 s hs).2.1
    by_cases hB : q_B (x s) = true
    · refine wp_aload_n (i := 0) dX16_collect_36 rfl rfl ?_
      refine wp_aload_n (i := 2) dX16_collect_37 rfl rfl ?_
      refine wp_iconst (-1) dX16_collect_38 (by decide) ?_
      refine wp_cV (y' := m_X16_realiseTo) 17 [vr (some (nm 2 s)), vi (-1)] [] ((bc - 75)) ((bs - 320)) dX16_collect_39 ml_X16_228 im_X16_realiseTo se_X16_realiseTo (by decide) m1.1.1 ok_X16_realiseTo rfl (Nat.le_of_ble_eq_true rfl) rfl (Nat.le_of_ble_eq_true rfl) (d' := d - 1) (by omega) (by omega) (by omega) (c_X16_realiseToN hX.1 hs m1 hX.2.1 p1 (by omega) (by decide) (by omega) (by omega) (fun H2 m2 p2 q2 => cont_ret ?_))
      rw [show enA x s = -1 from if_pos hB]
      have g2 := g1.tr (FRS.q q2)
      have t2 := q2.th.trans t1
      refine wp_if_ge 49 dX16_collect_42 (by decide) (fun c_42 => absurd c_42 (by decide)) (fun c_42 => ?_)
      refine wp_iconst (nI 1) dX16_collect_45 (by decide) ?_
      refine wp_goto 50 dX16_collect_46 (by decide) ?_
      refine wp_istore_n (i := 3) (lv' := [(3, vi (nI 1)), (2, vr (some (nm 2 s))), (0, vr (some (nm 1 0))), (1, vi (nI s))]) dX16_collect_50 rfl (by decide) rfl ?_
      refine wp_iconst (nI 0) dX16_collect_51 (by decide) ?_
      refine wp_istore (i := 4) (lv' := [(4, vi (nI 0)), (3, vi (nI 1)), (2, vr (some (nm 2 s))), (0, vr (some (nm 1 0))), (1, vi (nI s))]) dX16_collect_52 (by decide) rfl ?_
      refine wp_iconst (nI 0) dX16_collect_54 (by decide) ?_
      refine wp_istore (i := 5) (lv' := [(5, vi (nI 0)), (4, vi (nI 0)), (3, vi (nI 1)), (2, vr (some (nm 2 s))), (0, vr (some (nm 1 0))), (1, vi (nI s))]) dX16_collect_55 (by decide) rfl ?_
      refine wp_sub [(5, vi (nI 0)), (4, vi (nI 0)), (3, vi (nI 1)), (2, vr (some (nm 2 s))), (0, vr (some (nm 1 0)))] (sb_cons (.head _) (sb_cons (.tail _ (.head _)) (sb_cons (.tail _ (.tail _ (.head _))) (sb_cons (.tail _ (.tail _ (.tail _ (.head _)))) (sb_cons (.tail _ (.tail _ (.tail _ (.tail _ (.head _))))) sb_nil))))) ?_
      have hle : tot ((q_F (x s)).take (enR x s (rcx x) s)) ≤ tot (q_F (x s)) := pre_le
      refine wp_pay (bc' := 26 + 2 * tot ((q_F (x s)).take (enR x s (rcx x) s)) + 1) (bs' := 120 + 8 * tot ((q_F (x s)).take (enR x s (rcx x) s)) + 4) (by omega) (by omega) ?_
      refine l_X16_collect1 (h0 := H2) (xs := ((q_F (x s)).take (enR x s (rcx x) s))) hs rfl (by omega) (by omega) (fun H3 m3 p3 q3 => ?_) (tot ((q_F (x s)).take (enR x s (rcx x) s))) 0 H2 (by omega) m2 p2 FRQ.rf
      have g3 := g2.tr (FRS.q q3)
      have t3 := q3.th.trans t2
      have kept : ∀ j, j < n → h_I H3 (nm 1 12) j = nI (rcx x j) := fun j hj => by rw [congrFun (ce_I (q3.1 _ (by unfold WQQ nm; omega))) j, congrFun (ce_I (q2.1 _ (by unfold WQQ nm; omega))) j]; exact i1 j hj
      refine wp_aload_n (i := 0) dX16_collect_96 rfl rfl ?_
      refine wp_iload_n (i := 3) dX16_collect_97 rfl rfl ?_
      refine wp_iconst (nI 2) dX16_collect_98 (by decide) ?_
      refine wp_cV (y' := m_X16_fails) 17 [vi (nI 1), vi (nI 2)] [] 0 0 dX16_collect_99 ml_X16_102 im_X16_fails se_X16_fails (by decide) m3.1.1 ok_X16_fails rfl (Nat.le_of_ble_eq_true rfl) rfl (Nat.le_of_ble_eq_true rfl) (d' := d - 1) (by omega) (Nat.zero_le _) (Nat.zero_le _) (c_flT m3.1.1 t3 (nI 2) (by decide) (cont_ret ?_))
      have hM4 := m3.wI (i := 0) (k := 0) (v := nI 2) (by decide)
      have hG5 := g3.tr (FRS.w0 (v := nI 2))
      have hP6 := PO2.m (a := nm 1 0) (k := 0) (x := nI 2) p3
      refine wp_if_neN 127 dX16_collect_102 (by decide) (by decide) (fun c_102 => ?_) (fun c_102 => absurd c_102 (by decide))
      refine wp_aload_n (i := 0) dX16_collect_127 rfl rfl ?_
      refine wp_cV (y' := m_X16_takeBack) 17 [] [] 0 0 dX16_collect_128 ml_X16_232 im_X16_takeBack se_X16_takeBack (by decide) hM4.1.1 ok_X16_takeBack rfl (Nat.le_of_ble_eq_true rfl) rfl (Nat.le_of_ble_eq_true rfl) (d' := d - 1) (by omega) (Nat.zero_le _) (Nat.zero_le _) (c_X16_takeBack (r0 := rcx x) (r1 := enR x s (rcx x)) (κ := capR x (enR x s (rcx x))) hX.1 hM4 hP6 (fun j _ => enR_ge hX.1.1 hs j) (enR_L hX.1.1 hs hX.2.1.l) (fun j hj => (kept j hj)) (by omega) (fun H5 m5 p5 q5 => cont_void ?_))
      have g5 := hG5.tr (FRS.q q5)
      have t5 := q5.th.trans wI_ss
      refine wp_iconst (nI 0) dX16_collect_131 (by decide) ?_
      refine wp_ireturn dX16_collect_132 rfl ?_
      rw [show o_collect S n x (nI s) s = (nI 2, nI 0, S, n, gst x (rcx x) (capR x (enR x s (rcx x)))) from by unfold o_collect; rw [if_neg (fun z => Bool.false_ne_true (g_1.symm.trans z)), if_pos hB]] at hq
      exact hq _ t5 (hV.fs m5 g5) m5 p5 (WCF.s g5)
    · refine wp_aload_n (i := 0) dX16_collect_36 rfl rfl ?_
      refine wp_aload_n (i := 2) dX16_collect_37 rfl rfl ?_
      refine wp_iconst (-1) dX16_collect_38 (by decide) ?_
      refine wp_cV (y' := m_X16_realiseTo) 17 [vr (some (nm 2 s)), vi (-1)] [] ((bc - 75)) ((bs - 320)) dX16_collect_39 ml_X16_228 im_X16_realiseTo se_X16_realiseTo (by decide) m1.1.1 ok_X16_realiseTo rfl (Nat.le_of_ble_eq_true rfl) rfl (Nat.le_of_ble_eq_true rfl) (d' := d - 1) (by omega) (by omega) (by omega) (c_X16_realiseToN hX.1 hs m1 hX.2.1 p1 (by omega) (by decide) (by omega) (by omega) (fun H2 m2 p2 q2 => cont_ret ?_))
      rw [show enA x s = nI 0 from if_neg hB]
      have g2 := g1.tr (FRS.q q2)
      have t2 := q2.th.trans t1
      refine wp_if_geN 49 dX16_collect_42 (by decide) (by decide) (fun c_42 => ?_) (fun c_42 => absurd c_42 (by decide))
      refine wp_iconst (nI 0) dX16_collect_49 (by decide) ?_
      refine wp_istore_n (i := 3) (lv' := [(3, vi (nI 0)), (2, vr (some (nm 2 s))), (0, vr (some (nm 1 0))), (1, vi (nI s))]) dX16_collect_50 rfl (by decide) rfl ?_
      refine wp_iconst (nI 0) dX16_collect_51 (by decide) ?_
      refine wp_istore (i := 4) (lv' := [(4, vi (nI 0)), (3, vi (nI 0)), (2, vr (some (nm 2 s))), (0, vr (some (nm 1 0))), (1, vi (nI s))]) dX16_collect_52 (by decide) rfl ?_
      refine wp_iconst (nI 0) dX16_collect_54 (by decide) ?_
      refine wp_istore (i := 5) (lv' := [(5, vi (nI 0)), (4, vi (nI 0)), (3, vi (nI 0)), (2, vr (some (nm 2 s))), (0, vr (some (nm 1 0))), (1, vi (nI s))]) dX16_collect_55 (by decide) rfl ?_
      refine wp_sub [(5, vi (nI 0)), (4, vi (nI 0)), (3, vi (nI 0)), (2, vr (some (nm 2 s))), (0, vr (some (nm 1 0)))] (sb_cons (.head _) (sb_cons (.tail _ (.head _)) (sb_cons (.tail _ (.tail _ (.head _))) (sb_cons (.tail _ (.tail _ (.tail _ (.head _)))) (sb_cons (.tail _ (.tail _ (.tail _ (.tail _ (.head _))))) sb_nil))))) ?_
      have hle : tot ((q_F (x s)).take (enR x s (rcx x) s)) ≤ tot (q_F (x s)) := pre_le
      refine wp_pay (bc' := 26 + 2 * tot ((q_F (x s)).take (enR x s (rcx x) s)) + 1) (bs' := 120 + 8 * tot ((q_F (x s)).take (enR x s (rcx x) s)) + 4) (by omega) (by omega) ?_
      refine l_X16_collect1 (h0 := H2) (xs := ((q_F (x s)).take (enR x s (rcx x) s))) hs rfl (by omega) (by omega) (fun H3 m3 p3 q3 => ?_) (tot ((q_F (x s)).take (enR x s (rcx x) s))) 0 H2 (by omega) m2 p2 FRQ.rf
      have g3 := g2.tr (FRS.q q3)
      have t3 := q3.th.trans t2
      have kept : ∀ j, j < n → h_I H3 (nm 1 12) j = nI (rcx x j) := fun j hj => by rw [congrFun (ce_I (q3.1 _ (by unfold WQQ nm; omega))) j, congrFun (ce_I (q2.1 _ (by unfold WQQ nm; omega))) j]; exact i1 j hj
      have hall : ((q_F (x s)).take (enR x s (rcx x) s)) = q_F (x s) := List.take_of_length_le (enR_at hX.1.1 hs hB)
      refine wp_aload_n (i := 0) dX16_collect_96 rfl rfl ?_
      refine wp_iload_n (i := 3) dX16_collect_97 rfl rfl ?_
      refine wp_iconst (nI 2) dX16_collect_98 (by decide) ?_
      refine wp_cV (y' := m_X16_fails) 17 [vi (nI 0), vi (nI 2)] [] 0 0 dX16_collect_99 ml_X16_102 im_X16_fails se_X16_fails (by decide) m3.1.1 ok_X16_fails rfl (Nat.le_of_ble_eq_true rfl) rfl (Nat.le_of_ble_eq_true rfl) (d' := d - 1) (by omega) (Nat.zero_le _) (Nat.zero_le _) (c_flF m3.1.1 t3 (nI 2) (by decide) (cont_ret ?_))
      skip
      refine wp_if_neN 127 dX16_collect_102 (by decide) (by decide) (fun c_102 => absurd c_102 (by decide)) (fun c_102 => ?_)
      refine wp_aload_n (i := 0) dX16_collect_105 rfl rfl ?_
      refine wp_iload (i := 4) dX16_collect_106 rfl ?_
      refine wp_iconst (nI 3) dX16_collect_108 (by decide) ?_
      refine wp_cV (y' := m_X16_fails) 17 [vi (bI (outK ((q_F (x s)).take (enR x s (rcx x) s)) (tot ((q_F (x s)).take (enR x s (rcx x) s))))), vi (nI 3)] [] 0 0 dX16_collect_109 ml_X16_102 im_X16_fails se_X16_fails (by decide) m3.1.1 ok_X16_fails rfl (Nat.le_of_ble_eq_true rfl) rfl (Nat.le_of_ble_eq_true rfl) (d' := d - 1) (by omega) (Nat.zero_le _) (Nat.zero_le _) (c_flB m3.1.1 t3 (outK ((q_F (x s)).take (enR x s (rcx x) s)) (tot ((q_F (x s)).take (enR x s (rcx x) s)))) (nI 3) (by decide) (fun g_3 => cont_ret ?_) (fun g_3 => cont_ret ?_))
      · have hM10 := m3.wI (i := 0) (k := 0) (v := nI 3) (by decide)
        have hG11 := g3.tr (FRS.w0 (v := nI 3))
        have hP12 := PO2.m (a := nm 1 0) (k := 0) (x := nI 3) p3
        refine wp_if_neN 127 dX16_collect_112 (by decide) (by decide) (fun c_112 => ?_) (fun c_112 => absurd c_112 (by decide))
        refine wp_aload_n (i := 0) dX16_collect_127 rfl rfl ?_
        refine wp_cV (y' := m_X16_takeBack) 17 [] [] 0 0 dX16_collect_128 ml_X16_232 im_X16_takeBack se_X16_takeBack (by decide) hM10.1.1 ok_X16_takeBack rfl (Nat.le_of_ble_eq_true rfl) rfl (Nat.le_of_ble_eq_true rfl) (d' := d - 1) (by omega) (Nat.zero_le _) (Nat.zero_le _) (c_X16_takeBack (r0 := rcx x) (r1 := enR x s (rcx x)) (κ := capR x (enR x s (rcx x))) hX.1 hM10 hP12 (fun j _ => enR_ge hX.1.1 hs j) (enR_L hX.1.1 hs hX.2.1.l) (fun j hj => (kept j hj)) (by omega) (fun H5 m5 p5 q5 => cont_void ?_))
        have g5 := hG11.tr (FRS.q q5)
        have t5 := q5.th.trans wI_ss
        refine wp_iconst (nI 0) dX16_collect_131 (by decide) ?_
        refine wp_ireturn dX16_collect_132 rfl ?_
        rw [show o_collect S n x (nI s) s = (nI 3, nI 0, S, n, gst x (rcx x) (capR x (enR x s (rcx x)))) from by unfold o_collect; rw [if_neg (fun z => Bool.false_ne_true (g_1.symm.trans z)), if_neg hB, if_pos (by rw [← hall]; exact g_3)]] at hq
        exact hq _ t5 (hV.fs m5 g5) m5 p5 (WCF.s g5)
      · skip
        refine wp_if_neN 127 dX16_collect_112 (by decide) (by decide) (fun c_112 => absurd c_112 (by decide)) (fun c_112 => ?_)
        refine wp_aload_n (i := 0) dX16_collect_115 rfl rfl ?_
        refine wp_aload_n (i := 0) dX16_collect_116 rfl rfl ?_
        refine wp_cV (y' := m_X16_isFull) 17 [] [vr (some (nm 1 0))] 0 0 dX16_collect_117 ml_X16_98 im_X16_isFull se_X16_isFull (by decide) m3.1.1 ok_X16_isFull rfl (Nat.le_of_ble_eq_true rfl) rfl (Nat.le_of_ble_eq_true rfl) (d' := d - 1) (by omega) (Nat.zero_le _) (Nat.zero_le _) (c_X16_isFull (hV.fs m3 g3) hS (cont_ret ?_))
        refine wp_iconst (nI 4) dX16_collect_120 (by decide) ?_
        refine wp_cV (y' := m_X16_fails) 17 [vi (bI (decide (sNv S = 60))), vi (nI 4)] [] 0 0 dX16_collect_121 ml_X16_102 im_X16_fails se_X16_fails (by decide) m3.1.1 ok_X16_fails rfl (Nat.le_of_ble_eq_true rfl) rfl (Nat.le_of_ble_eq_true rfl) (d' := d - 1) (by omega) (Nat.zero_le _) (Nat.zero_le _) (c_flB m3.1.1 t3 (decide (sNv S = 60)) (nI 4) (by decide) (fun g_4 => cont_ret ?_) (fun g_4 => cont_ret ?_))
        · have hM13 := m3.wI (i := 0) (k := 0) (v := nI 4) (by decide)
          have hG14 := g3.tr (FRS.w0 (v := nI 4))
          have hP15 := PO2.m (a := nm 1 0) (k := 0) (x := nI 4) p3
          refine wp_if_eqN 133 dX16_collect_124 (by decide) (by decide) (fun c_124 => absurd c_124 (by decide)) (fun c_124 => ?_)
          refine wp_aload_n (i := 0) dX16_collect_127 rfl rfl ?_
          refine wp_cV (y' := m_X16_takeBack) 17 [] [] 0 0 dX16_collect_128 ml_X16_232 im_X16_takeBack se_X16_takeBack (by decide) hM13.1.1 ok_X16_takeBack rfl (Nat.le_of_ble_eq_true rfl) rfl (Nat.le_of_ble_eq_true rfl) (d' := d - 1) (by omega) (Nat.zero_le _) (Nat.zero_le _) (c_X16_takeBack (r0 := rcx x) (r1 := enR x s (rcx x)) (κ := capR x (enR x s (rcx x))) hX.1 hM13 hP15 (fun j _ => enR_ge hX.1.1 hs j) (enR_L hX.1.1 hs hX.2.1.l) (fun j hj => (kept j hj)) (by omega) (fun H5 m5 p5 q5 => cont_void ?_))
          have g5 := hG14.tr (FRS.q q5)
          have t5 := q5.th.trans wI_ss
          refine wp_iconst (nI 0) dX16_collect_131 (by decide) ?_
          refine wp_ireturn dX16_collect_132 rfl ?_
          rw [show o_collect S n x (nI s) s = (nI 4, nI 0, S, n, gst x (rcx x) (capR x (enR x s (rcx x)))) from by unfold o_collect; rw [if_neg (fun z => Bool.false_ne_true (g_1.symm.trans z)), if_neg hB, if_neg (fun z => Bool.false_ne_true (g_3.symm.trans (by rw [hall]; exact z))), if_pos (of_decide_eq_true g_4)]] at hq
          exact hq _ t5 (hV.fs m5 g5) m5 p5 (WCF.s g5)
        · have hn60 : sNv S ≠ 60 := of_decide_eq_false g_4
          refine wp_if_eqN 133 dX16_collect_124 (by decide) (by decide) (fun c_124 => ?_) (fun c_124 => absurd c_124 (by decide))
          refine wp_aload_n (i := 0) dX16_collect_133 rfl rfl ?_
          refine wp_bipush (nI 118) dX16_collect_134 (by decide) ?_
          refine wp_cV (y' := m_X16_newValue) 17 [vi (nI 118)] [] 0 0 dX16_collect_136 ml_X16_106 im_X16_newValue se_X16_newValue (by decide) m3.1.1 ok_X16_newValue rfl (Nat.le_of_ble_eq_true rfl) rfl (Nat.le_of_ble_eq_true rfl) (d' := d - 1) (by omega) (Nat.zero_le _) (Nat.zero_le _) (c_X16_newValue (hV.fs m3 g3) hS (by decide) (by decide) (by omega) (fun H6 P6 V6 => cont_ret ?_))
          have m6 := m3.ib P6.1
          have p6 := p3.ib P6.1
          refine wp_istore (i := 5) (lv' := [(5, vi (nI (sNv S))), (4, vi (bI (outK ((q_F (x s)).take (enR x s (rcx x) s)) (tot ((q_F (x s)).take (enR x s (rcx x) s)))))), (3, vi (nI 0)), (2, vr (some (nm 2 s))), (0, vr (some (nm 1 0)))]) dX16_collect_139 (by decide) rfl ?_
          refine wp_aload_n (i := 0) dX16_collect_141 rfl rfl ?_
          refine wp_get 17 4 (vr (some (nm 1 4))) dX16_collect_142 m6.1.1 (by decide) (by decide) fl_X16_13 (congrArg (fun z => toV (vr z)) (V6.1.r 4 (by decide) (by decide) (by decide) (by decide))) ?_
          refine wp_iload (i := 5) dX16_collect_145 rfl ?_
          refine wp_aload_n (i := 2) dX16_collect_147 rfl rfl ?_
          have hL6 := m6.lst hs hall
          obtain ⟨⟨K6, hK6⟩, K7, hK7⟩ := id p6
          refine wp_cV (y' := m_X14_elements) 15 [] [vi (nI (sNv S)), vr (some (nm 1 4))] 1 4 dX16_collect_148 ml_X16_211 im_X14_elements se_X14_elements (by decide) (m6.2.2.1 s hs).1.k0 ok_X14_elements rfl (Nat.le_of_ble_eq_true rfl) rfl (Nat.le_of_ble_eq_true rfl) (d' := d - 1) (by omega) (by omega) (by omega) (c_X14_elements (m6.2.2.1 s hs).1 hL6 hK7 (by omega) (by omega) (Nat.le_refl _) (Nat.le_refl _) (fun H7 C7 => cont_ret ?_))
          have m7 := m6.it C7
          have p7 := p6.itq hK7 C7
          have V7 := V6.fs m7 (FRS.q (FRQ.it C7))
          refine wp_iastoreN 60 dX16_collect_151 (V7.1.k 4 (by decide) (by decide) (by decide) (by decide)) (V7.1.n 4 (by decide) (by decide) (by decide)) (by omega) (by decide) ?_
          refine wp_iconst (nI 0) dX16_collect_152 (by decide) ?_
          refine wp_istore (i := 6) (lv' := [(6, vi (nI 0)), (5, vi (nI (sNv S))), (4, vi (bI (outK ((q_F (x s)).take (enR x s (rcx x) s)) (tot ((q_F (x s)).take (enR x s (rcx x) s)))))), (3, vi (nI 0)), (2, vr (some (nm 2 s))), (0, vr (some (nm 1 0)))]) dX16_collect_153 (by decide) rfl ?_
          refine wp_sub [(6, vi (nI 0)), (5, vi (nI (sNv S))), (2, vr (some (nm 2 s))), (0, vr (some (nm 1 0)))] (sb_cons (.head _) (sb_cons (.tail _ (.head _)) (sb_cons (.tail _ (.tail _ (.tail _ (.tail _ (.head _))))) (sb_cons (.tail _ (.tail _ (.tail _ (.tail _ (.tail _ (.head _)))))) sb_nil)))) ?_
          have V8 := V7.w4 (k := sNv S) (x := tot (q_F (x s)))
          have q8 := PV.i (k := sNv S) (x := nI (tot (q_F (x s)))) V7 PV.rf 4 (by decide) (by decide)
          refine wp_pay (bc' := 1 + tot (q_F (x s))) (bs' := 4 + 4 * tot (q_F (x s))) (by omega) (by omega) ?_
          refine l_X16_collect2 (P0 := fun H => WCF h H ∧ h_I H (nm 1 0) 0 = nI 0) (T := s_new S 118) (y := setR x (enR x s (rcx x))) hs hall (by omega) (by omega) rfl (by omega) (fun H H' a b => ⟨a.1.tr (WCF.s (FRS.q b)), b.th.trans a.2⟩) (fun H H' a b => ⟨a.1.tr (WCF.v b.1), b.2.trans a.2⟩) (fun H9 m9 p9 z9 V9 => ?_) (tot (q_F (x s))) 0 _ (by omega) (m7.ib q8.1) (p7.ib q8.1) ⟨(WCF.s g3).tr ((WCF.v P6.1).tr ((WCF.s (FRS.q (FRQ.it C7))).tr (WCF.v q8.1))), q8.2.trans ((th_it C7).trans (P6.2.trans t3))⟩ (by unfold colK; rw [blk_0]; exact V8)
          refine wp_aload_n (i := 0) dX16_collect_192 rfl rfl ?_
          refine wp_iload (i := 5) dX16_collect_193 rfl ?_
          refine wp_iconst (-1) dX16_collect_195 (by decide) ?_
          refine wp_cV (y' := m_X16_nodesFrom) 17 [vi (nI (sNv S)), vi (-1)] [] 0 0 dX16_collect_196 ml_X16_110 im_X16_nodesFrom se_X16_nodesFrom (by decide) m9.1.1 ok_X16_nodesFrom rfl (Nat.le_of_ble_eq_true rfl) rfl (Nat.le_of_ble_eq_true rfl) (d' := d - 1) (by omega) (Nat.zero_le _) (Nat.zero_le _) (c_X16_nodesFromN V9 (colB hS (by omega) (by omega)) hmd (by omega) (by omega) (fun H10 P10 V10 => cont_void ?_))
          refine wp_iload (i := 5) dX16_collect_199 rfl ?_
          refine wp_ireturn dX16_collect_201 rfl ?_
          rw [show o_collect S n x (nI s) s = (nI 0, nI (sNv S), colS S (q_F (x s)), n, setR x (enR x s (rcx x))) from by unfold o_collect; rw [if_neg (fun z => Bool.false_ne_true (g_1.symm.trans z)), if_neg hB, if_neg (fun z => Bool.false_ne_true (g_3.symm.trans (by rw [hall]; exact z))), if_neg hn60]] at hq
          exact hq _ (P10.2.trans z9.2) V10 (m9.ib P10.1) (p9.ib P10.1) (z9.1.tr (WCF.v P10.1))
