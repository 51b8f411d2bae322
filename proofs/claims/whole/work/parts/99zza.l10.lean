/-! The law: calls about sequences. -/
section UQS

variable {c n bc bs mc ms mc1 ms1 : Nat} {x : Nat → QIS} {R : RS} {u v : Int32}
theorem en_up (H : QX n x) {r : Nat → Nat} (h : (∀ j, j < n → rcx x j ≤ r j) ∧ ∀ j, j < n → r j ≤ (q_F (x j)).length) : PC n x (rcx x) ≤ PC n x r ∧ PS n x (rcx x) ≤ PS n x r ∧ PC n x r ≤ 1128 ∧ PS n x r ≤ 5928 := ⟨PC_mono h.1, PS_mono h.1, (PC_max H h.2).1, (PC_max H h.2).2⟩
theorem enR_b {s : Nat} (H : QX n x) (hs : s < n) : (∀ j, j < n → rcx x j ≤ enR x s (rcx x) j) ∧ ∀ j, j < n → enR x s (rcx x) j ≤ (q_F (x j)).length := ⟨fun j _ => enR_ge H.1.1 hs j, enR_L H.1.1 hs H.2.1.l⟩
theorem u_keep {n' : Nat} {x' : Nat → QIS} (U : BUD c n x R bc bs) (hc : c < 512) (h1 : mc ≤ 1170) (h2 : ms ≤ 13400) (h3 : PC n x (rcx x) ≤ PC n' x' (rcx x')) (h4 : PS n x (rcx x) ≤ PS n' x' (rcx x')) : BUD (c + 1) n' x' R (bc - mc) (bs - ms) := by
  unfold BUD at U ⊢
  omega
theorem sub2 {a b d : Nat} : a - (b + d) = a - b - d := Nat.sub_add_eq a b d
theorem u_realised {s : Nat} (U : BUD c n x R bc bs) (hc : c < 512) (h1 : mc ≤ 1170) (h2 : ms ≤ 13400) : BUD (c + 1) (o_realised n x u s).2.2.1 (o_realised n x u s).2.2.2 R (bc - mc) (bs - ms) := by
  rw [r_realised]; exact u_keep U hc h1 h2 (Nat.le_refl _) (Nat.le_refl _)
theorem u_chunks {s : Nat} (U : BUD c n x R bc bs) (hc : c < 512) (h1 : mc ≤ 1170) (h2 : ms ≤ 13400) : BUD (c + 1) (o_chunks n x u s).2.2.1 (o_chunks n x u s).2.2.2 R (bc - mc) (bs - ms) := by
  rw [r_chunks]; exact u_keep U hc h1 h2 (Nat.le_refl _) (Nat.le_refl _)
theorem u_range {a b c9 : Int32} {m : Nat} (U : BUD c n x R bc bs) (hc : c < 512) (h1 : mc ≤ 1170) (h2 : ms ≤ 13400) : BUD (c + 1) (o_range n x a b c9 m).2.2.1 (o_range n x a b c9 m).2.2.2 R (bc - mc) (bs - ms) := by
  unfold o_range
  split
  · exact u_keep U hc h1 h2 (Nat.le_refl _) (Nat.le_refl _)
  · split
    · exact u_keep U hc h1 h2 (Nat.le_refl _) (Nat.le_refl _)
    · exact u_keep U hc h1 h2 (PC_new rfl rfl).1 (PC_new rfl rfl).2
theorem ov0 {s wn : Nat} {m : Int32} : q_rc (ovQ x s wn m) = 0 ∧ q_cp (ovQ x s wn m) = 0 := by
  unfold ovQ
  split <;> exact ⟨rfl, rfl⟩
theorem u_over {s wn : Nat} {m : Int32} (U : BUD c n x R bc bs) (hc : c < 512) (h1 : mc ≤ 1170) (h2 : ms ≤ 13400) : BUD (c + 1) (o_over n x u s wn m).2.2.1 (o_over n x u s wn m).2.2.2 R (bc - mc) (bs - ms) := by
  unfold o_over
  split
  · exact u_keep U hc h1 h2 (Nat.le_refl _) (Nat.le_refl _)
  · split
    · exact u_keep U hc h1 h2 (Nat.le_refl _) (Nat.le_refl _)
    · split
      · exact u_keep U hc h1 h2 (Nat.le_refl _) (Nat.le_refl _)
      · exact u_keep U hc h1 h2 (PC_new ov0.1 ov0.2).1 (PC_new ov0.1 ov0.2).2
/-- what is taken back -/
theorem u_back {r : Nat → Nat} (U : BUD c n x R bc bs) (hc : c < 512) (H : QX n x) (hr : (∀ j, j < n → rcx x j ≤ r j) ∧ ∀ j, j < n → r j ≤ (q_F (x j)).length) (h1 : mc + PC n x (rcx x) ≤ 90 + PC n x r) (h2 : ms + PS n x (rcx x) ≤ 9000 + PS n x r) : BUD (c + 1) n (gst x (rcx x) (capR x r)) R (bc - mc) (bs - ms) := by
  have hb := PC_back H hr.2
  have hu := en_up H hr
  unfold BUD at U ⊢
  show _ ≤ _ + PC n (gst x (rcx x) (capR x r)) (rcx x) ∧ _ ≤ _ + PS n (gst x (rcx x) (capR x r)) (rcx x)
  omega
/-- what stays realised -/
theorem u_stay {r : Nat → Nat} (U : BUD c n x R bc bs) (hc : c < 512) (H : QX n x) (hr : (∀ j, j < n → rcx x j ≤ r j) ∧ ∀ j, j < n → r j ≤ (q_F (x j)).length) (h1 : mc + PC n x (rcx x) ≤ 1100 + PC n x r) (h2 : ms + PS n x (rcx x) ≤ 13000 + PS n x r) : BUD (c + 1) n (setR x r) R (bc - mc) (bs - ms) := by
  have hu := en_up H hr
  have hs := PC_set (n := n) (x := x) (r := r)
  unfold BUD at U ⊢
  show _ ≤ _ + PC n (setR x r) r ∧ _ ≤ _ + PS n (setR x r) r
  omega
theorem rs0_b {s k : Nat} (H : QX n x) (hs : s < n) (hk : k ≤ (q_F (x s)).length) : (∀ j, j < n → rcx x j ≤ rs0 x (s + 1) s k (rcx x) j) ∧ ∀ j, j < n → rs0 x (s + 1) s k (rcx x) j ≤ (q_F (x j)).length := ⟨fun j _ => rs0_ge H.1.1 _ _ _ _ j hs, rs0_L H.1.1 _ _ _ _ hs H.2.1.l hk⟩
theorem atR_b {s p : Nat} (H : QX n x) (hs : s < n) : (∀ j, j < n → rcx x j ≤ atR x s v p j) ∧ ∀ j, j < n → atR x s v p j ≤ (q_F (x j)).length := by
  unfold atR
  split
  · exact enR_b H hs
  · next h => exact rs0_b H hs (cf_le (by omega))
theorem u_at {s p ms2 mc2 : Nat} (U : BUD c n x R bc bs) (hc : c < 512) (H : QX n x) (hs : ixB u n = true → s < n) (e1 : mc2 = if s < n then PC n x (atR x s v p) + 16 - PC n x (rcx x) else 0) (e2 : ms2 = if s < n then PS n x (atR x s v p) + 64 - PS n x (rcx x) else 0) : BUD (c + 1) (o_at n x u s v p).2.2.1 (o_at n x u s v p).2.2.2 R (bc - 6 - mc2) (bs - 80 - ms2) := by
  rw [← sub2, ← sub2]
  have hup : s < n → _ := fun z => en_up H (atR_b (v := v) (p := p) H z)
  unfold o_at
  split
  · refine u_keep U hc ?_ ?_ (Nat.le_refl _) (Nat.le_refl _)
    · rw [e1]; split
      · next z => obtain ⟨a1, a2, a3, a4⟩ := hup z; omega
      · decide
    · rw [e2]; split
      · next z => obtain ⟨a1, a2, a3, a4⟩ := hup z; omega
      · decide
  · next g =>
    have hsn := hs (nb_t9 g)
    rw [if_pos hsn] at e1 e2
    obtain ⟨a1, a2, a3, a4⟩ := hup hsn
    split
    · next h =>
      have er : atR x s v p = enR x s (rcx x) := if_pos h
      rw [er] at e1 e2 a1 a2
      exact u_back (n := n) U hc H (enR_b H hsn) (by omega) (by omega)
    · next h =>
      have er : atR x s v p = rs0 x (s + 1) s (cf (q_F (x s)) p) (rcx x) := if_neg h
      have hb := atR_b (v := v) (p := p) H hsn
      rw [er] at e1 e2 a1 a2 hb
      exact u_stay (n := n) U hc H hb (by omega) (by omega)
theorem u_all {s ms2 mc2 : Nat} (U : BUD c n x R bc bs) (hc : c < 512) (H : QX n x) (hs : ixB u n = true → s < n) (e1 : mc2 = if s < n then PC n x (enR x s (rcx x)) + 16 - PC n x (rcx x) else 0) (e2 : ms2 = if s < n then PS n x (enR x s (rcx x)) + 64 - PS n x (rcx x) else 0) : BUD (c + 1) (o_all n x u s).2.2.1 (o_all n x u s).2.2.2 R (bc - 6 - mc2) (bs - 80 - ms2) := by
  rw [← sub2, ← sub2]
  have hup : s < n → _ := fun z => en_up H (enR_b H z)
  unfold o_all
  split
  · refine u_keep U hc ?_ ?_ (Nat.le_refl _) (Nat.le_refl _)
    · rw [e1]; split
      · next z => obtain ⟨a1, a2, a3, a4⟩ := hup z; omega
      · decide
    · rw [e2]; split
      · next z => obtain ⟨a1, a2, a3, a4⟩ := hup z; omega
      · decide
  · next g =>
    have hsn := hs (nb_t9 g)
    rw [if_pos hsn] at e1 e2
    obtain ⟨a1, a2, a3, a4⟩ := hup hsn
    split
    · exact u_back (n := n) U hc H (enR_b H hsn) (by omega) (by omega)
    · exact u_stay (n := n) U hc H (enR_b H hsn) (by omega) (by omega)
theorem u_collect {V : SV} {s ms2 mc2 : Nat} (U : BUD c n x R bc bs) (hc : c < 512) (H : QX n x) (hs : ixB u n = true → s < n) (e3 : mc1 = if (o_collect V n x u s).1 = nI 0 then 500 else 3) (e4 : ms1 = if (o_collect V n x u s).1 = nI 0 then 9000 else 18) (e1 : mc2 = if ixB u n = true then PC n x (enR x s (rcx x)) + 87 - PC n x (rcx x) else 0) (e2 : ms2 = if ixB u n = true then PS n x (enR x s (rcx x)) + 400 - PS n x (rcx x) else 0) : BUD (c + 1) (o_collect V n x u s).2.2.2.1 (o_collect V n x u s).2.2.2.2 R (bc - mc1 - mc2) (bs - ms1 - ms2) := by
  rw [← sub2, ← sub2]
  have hup : s < n → _ := fun z => en_up H (enR_b H z)
  have ne : ∀ i, i < 9 → ¬ nI (i + 1) = nI 0 := fun i hi => nI_ne9 hi
  by_cases g : (!ixB u n) = true
  · rw [show o_collect V n x u s = (nI 1, nI 0, V, n, x) from by unfold o_collect; rw [if_pos g]] at e3 e4 ⊢
    rw [if_neg (ne 0 (by decide))] at e3 e4
    have gf : ¬ ixB u n = true := fun z => by rw [z] at g; exact Bool.false_ne_true g
    rw [if_neg gf] at e1 e2
    exact u_keep U hc (by omega) (by omega) (Nat.le_refl _) (Nat.le_refl _)
  · have hsn := hs (nb_t9 g)
    rw [if_pos (nb_t9 g)] at e1 e2
    obtain ⟨a1, a2, a3, a4⟩ := hup hsn
    by_cases g2 : q_B (x s) = true
    · rw [show o_collect V n x u s = (nI 2, nI 0, V, n, gst x (rcx x) (capR x (enR x s (rcx x)))) from by unfold o_collect; rw [if_neg g, if_pos g2]] at e3 e4 ⊢
      rw [if_neg (ne 1 (by decide))] at e3 e4
      exact u_back (n := n) U hc H (enR_b H hsn) (by omega) (by omega)
    · by_cases g3 : outK (q_F (x s)) (tot (q_F (x s))) = true
      · rw [show o_collect V n x u s = (nI 3, nI 0, V, n, gst x (rcx x) (capR x (enR x s (rcx x)))) from by unfold o_collect; rw [if_neg g, if_neg g2, if_pos g3]] at e3 e4 ⊢
        rw [if_neg (ne 2 (by decide))] at e3 e4
        exact u_back (n := n) U hc H (enR_b H hsn) (by omega) (by omega)
      · by_cases g4 : sNv V = 60
        · rw [show o_collect V n x u s = (nI 4, nI 0, V, n, gst x (rcx x) (capR x (enR x s (rcx x)))) from by unfold o_collect; rw [if_neg g, if_neg g2, if_neg g3, if_pos g4]] at e3 e4 ⊢
          rw [if_neg (ne 3 (by decide))] at e3 e4
          exact u_back (n := n) U hc H (enR_b H hsn) (by omega) (by omega)
        · rw [show o_collect V n x u s = (nI 0, nI (sNv V), colS V (q_F (x s)), n, setR x (enR x s (rcx x))) from by unfold o_collect; rw [if_neg g, if_neg g2, if_neg g3, if_neg g4]] at e3 e4 ⊢
          rw [if_pos rfl] at e3 e4
          exact u_stay (n := n) U hc H (enR_b H hsn) (by omega) (by omega)
end UQS
set_option maxRecDepth 100000 in
set_option maxHeartbeats 4000000 in
theorem x_range {G : GG} {w c bc bs M n : Nat} {h : Hp} {Q : Pst} {V : SV} {x : Nat → QIS} {R : RS} (hw : w = G.2.2.2.2.1) (hL : slen G < 2 ^ 31) (hi5 : 5 * c + 5 ≤ slen G) (hc : c < 512) (J : JC h) (C : CLS h V M n x R) (D : MDL h V n x R) (A : ARR h) (B : PUR c V M n x R) (U : BUD c n x R bc bs) (K : NXT G w (c + 1) Q) : WL G w m_L_law 100 1548 (lvA c) [] h bc bs Q := by
  obtain ⟨hS, hW, hmd, hMc, hX, hRB, hLF⟩ := id B
  have hm25 : sMd V + 25 ≤ 1000000 := by omega
  have hnv := hS.1
  have hn12 := hX.1.2.1
  have hb1 := hRB.1
  have U2 := id U
  unfold BUD at U2
  have P2 := PC_max hX (fun s h => (hX.2.1 s h).1)
  obtain ⟨a, e_a⟩ : ∃ z, z = G.2.2.2.2.2.2 (5 * c + 1) := ⟨_, rfl⟩
  obtain ⟨b, e_b⟩ : ∃ z, z = G.2.2.2.2.2.2 (5 * c + 2) := ⟨_, rfl⟩
  obtain ⟨c9, e_c9⟩ : ∃ z, z = G.2.2.2.2.2.2 (5 * c + 3) := ⟨_, rfl⟩
  refine wl_aload_n (i := 1) dL_law_1548 rfl (by decide) rfl ?_
  refine wl_cell (i := 5 * c) (k := 1) hw dL_law_1549 dL_law_1550 dL_law_1552 dL_law_1553 dL_law_1554 rfl (by decide) (c5 hi5 (by decide)) hL ?_
  rw [← e_a]
  refine wl_cell (i := 5 * c) (k := 2) hw dL_law_1555 dL_law_1556 dL_law_1558 dL_law_1559 dL_law_1560 rfl (by decide) (c5 hi5 (by decide)) hL ?_
  rw [← e_b]
  refine wl_cell (i := 5 * c) (k := 3) hw dL_law_1561 dL_law_1562 dL_law_1564 dL_law_1565 dL_law_1566 rfl (by decide) (c5 hi5 (by decide)) hL ?_
  rw [← e_c9]
  refine wl_aload_n (i := 3) dL_law_1567 rfl (by decide) rfl ?_
  refine wl_cSH (y' := m_L_range) [vr (some (nm 40 0)), vi a, vi b, vi c9, vr (some (nm 70 0))] [] 6 80 dL_law_1568 ml_L_246 st_L_range okH_L_range rfl (Nat.le_of_ble_eq_true rfl) rfl (Nat.le_of_ble_eq_true rfl) (d' := 99) (by decide) (by omega) (by omega) (g_range B hc C A.1   (by decide) (Nat.le_refl _) (Nat.le_refl _) (fun h1 M1 m1 m2 C1 F1 O1 w1 => contL_ret ?_))
  have D1 := D.fc F1
  have J1 := J.fc F1
  have A1 := A.fc F1 O1
  refine wl_istore (i := 6) (lv' := (6, vi (o_range n x a b c9 (tn c9)).1) :: lvA c) dL_law_1571 (by decide) (by decide) rfl ?_
  refine wl_aload_n (i := 2) dL_law_1573 rfl (by decide) rfl ?_
  refine wl_cell (i := 5 * c) (k := 1) hw dL_law_1574 dL_law_1575 dL_law_1577 dL_law_1578 dL_law_1579 rfl (by decide) (c5 hi5 (by decide)) hL ?_
  rw [← e_a]
  refine wl_cell (i := 5 * c) (k := 2) hw dL_law_1580 dL_law_1581 dL_law_1583 dL_law_1584 dL_law_1585 rfl (by decide) (c5 hi5 (by decide)) hL ?_
  rw [← e_b]
  refine wl_cell (i := 5 * c) (k := 3) hw dL_law_1586 dL_law_1587 dL_law_1589 dL_law_1590 dL_law_1591 rfl (by decide) (c5 hi5 (by decide)) hL ?_
  rw [← e_c9]
  refine wl_cV (y' := m_X16_range) 17 [vi a, vi b, vi c9] [] 6 100 dL_law_1592 ml_L_248 im_X16_range se_X16_range (by decide) D1.hk ok_X16_range rfl (Nat.le_of_ble_eq_true rfl) rfl (Nat.le_of_ble_eq_true rfl) (d' := 99) (by decide) (by omega) (by omega) (w_range B hc D1 J1  (by decide)  (Nat.le_refl _) (Nat.le_refl _) (fun h2 D2 F2 t2 => contL_ret ?_))
  refine wl_istore (i := 7) (lv' := (7, vi (o_range n x a b c9 (tn c9)).2.1) :: (6, vi (o_range n x a b c9 (tn c9)).1) :: lvA c) dL_law_1595 (by decide) (by decide) rfl ?_
  refine l_tailI (p := 1597) dL_law_1597 dL_law_1598 dL_law_1601 dL_law_1603 dL_law_1608 dL_law_1610 dL_law_1613 dL_law_1614 dL_law_1615 dL_law_1616 dL_law_1618 dL_law_1619 dL_law_1620 dL_law_1625 (by decide) D2.hk t2 (A1.fg F2).1 (fun z => by rw [F2.out]; exact w1 z) ?_
  exact l_next K (J1.fg F2) (C1.fg F2) D2 (A1.fg F2) (B.q hc m1 m2 (q_range B.2.2.2.2.1 (fun z => ⟨(in_tn (m := 24) (by decide) z).1, Nat.le_of_lt_succ (in_tn (m := 24) (by decide) z).2⟩))) (by have := u_range (mc := 6 + 6) (ms := 80 + 100) (a := a) (b := b) (c9 := c9) (m := tn c9) U hc (by decide) (by decide); rw [sub2, sub2] at this; exact this) lvA_in
set_option maxRecDepth 100000 in
set_option maxHeartbeats 4000000 in
theorem x_over {G : GG} {w c bc bs M n : Nat} {h : Hp} {Q : Pst} {V : SV} {x : Nat → QIS} {R : RS} (hw : w = G.2.2.2.2.1) (hL : slen G < 2 ^ 31) (hi5 : 5 * c + 5 ≤ slen G) (hc : c < 512) (J : JC h) (C : CLS h V M n x R) (D : MDL h V n x R) (A : ARR h) (B : PUR c V M n x R) (U : BUD c n x R bc bs) (K : NXT G w (c + 1) Q) : WL G w m_L_law 100 1628 (lvA c) [] h bc bs Q := by
  obtain ⟨hS, hW, hmd, hMc, hX, hRB, hLF⟩ := id B
  have hm25 : sMd V + 25 ≤ 1000000 := by omega
  have hnv := hS.1
  have hn12 := hX.1.2.1
  have hb1 := hRB.1
  have U2 := id U
  unfold BUD at U2
  have P2 := PC_max hX (fun s h => (hX.2.1 s h).1)
  obtain ⟨u, e_u⟩ : ∃ z, z = G.2.2.2.2.2.2 (5 * c + 1) := ⟨_, rfl⟩
  obtain ⟨wn, e_wn⟩ : ∃ z, z = ((G.2.2.2.2.2.2 (5 * c + 2)).toUInt32 % 65536).toNat := ⟨_, rfl⟩
  obtain ⟨m, e_m⟩ : ∃ z, z = G.2.2.2.2.2.2 (5 * c + 3) := ⟨_, rfl⟩
  have hwn9 : wn < 65536 := by rw [e_wn]; exact i2c_lt _
  have hq9 : ixB u n = true → u = nI (tn u) ∧ tn u < n := ix_tn (by omega)
  refine wl_aload_n (i := 1) dL_law_1628 rfl (by decide) rfl ?_
  refine wl_cell (i := 5 * c) (k := 1) hw dL_law_1629 dL_law_1630 dL_law_1632 dL_law_1633 dL_law_1634 rfl (by decide) (c5 hi5 (by decide)) hL ?_
  rw [← e_u]
  refine wl_cell (i := 5 * c) (k := 2) hw dL_law_1635 dL_law_1636 dL_law_1638 dL_law_1639 dL_law_1640 rfl (by decide) (c5 hi5 (by decide)) hL ?_
  refine wl_i2c dL_law_1641 ?_
  rw [i2c_n, ← e_wn]
  refine wl_cell (i := 5 * c) (k := 3) hw dL_law_1642 dL_law_1643 dL_law_1645 dL_law_1646 dL_law_1647 rfl (by decide) (c5 hi5 (by decide)) hL ?_
  rw [← e_m]
  refine wl_aload_n (i := 3) dL_law_1648 rfl (by decide) rfl ?_
  refine wl_cSH (y' := m_L_over) [vr (some (nm 40 0)), vi u, vi (nI wn), vi m, vr (some (nm 70 0))] [] 6 80 dL_law_1649 ml_L_249 st_L_over okH_L_over rfl (Nat.le_of_ble_eq_true rfl) rfl (Nat.le_of_ble_eq_true rfl) (d' := 99) (by decide) (by omega) (by omega) (g_over B hc C A.1 hwn9  (by decide) (Nat.le_refl _) (Nat.le_refl _) (fun h1 M1 m1 m2 C1 F1 O1 w1 => contL_ret ?_))
  have D1 := D.fc F1
  have J1 := J.fc F1
  have A1 := A.fc F1 O1
  refine wl_istore (i := 6) (lv' := (6, vi (o_over n x u (tn u) wn m).1) :: lvA c) dL_law_1652 (by decide) (by decide) rfl ?_
  refine wl_aload_n (i := 2) dL_law_1654 rfl (by decide) rfl ?_
  refine wl_cell (i := 5 * c) (k := 1) hw dL_law_1655 dL_law_1656 dL_law_1658 dL_law_1659 dL_law_1660 rfl (by decide) (c5 hi5 (by decide)) hL ?_
  rw [← e_u]
  refine wl_cell (i := 5 * c) (k := 2) hw dL_law_1661 dL_law_1662 dL_law_1664 dL_law_1665 dL_law_1666 rfl (by decide) (c5 hi5 (by decide)) hL ?_
  refine wl_i2c dL_law_1667 ?_
  rw [i2c_n, ← e_wn]
  refine wl_cell (i := 5 * c) (k := 3) hw dL_law_1668 dL_law_1669 dL_law_1671 dL_law_1672 dL_law_1673 rfl (by decide) (c5 hi5 (by decide)) hL ?_
  rw [← e_m]
  refine wl_cV (y' := m_X16_over) 17 [vi u, vi (nI wn), vi m] [] 6 100 dL_law_1674 ml_L_252 im_X16_over se_X16_over (by decide) D1.hk ok_X16_over rfl (Nat.le_of_ble_eq_true rfl) rfl (Nat.le_of_ble_eq_true rfl) (d' := 99) (by decide) (by omega) (by omega) (w_over B hc D1 J1 hwn9 (by decide)  (Nat.le_refl _) (Nat.le_refl _) (fun h2 D2 F2 t2 => contL_ret ?_))
  refine wl_istore (i := 7) (lv' := (7, vi (o_over n x u (tn u) wn m).2.1) :: (6, vi (o_over n x u (tn u) wn m).1) :: lvA c) dL_law_1677 (by decide) (by decide) rfl ?_
  refine l_tailI (p := 1679) dL_law_1679 dL_law_1680 dL_law_1683 dL_law_1685 dL_law_1690 dL_law_1692 dL_law_1695 dL_law_1696 dL_law_1697 dL_law_1698 dL_law_1700 dL_law_1701 dL_law_1702 dL_law_1707 (by decide) D2.hk t2 (A1.fg F2).1 (fun z => by rw [F2.out]; exact w1 z) ?_
  exact l_next K (J1.fg F2) (C1.fg F2) D2 (A1.fg F2) (B.q hc m1 m2 (q_over B.2.2.2.2.1 hq9)) (by have := u_over (mc := 6 + 6) (ms := 80 + 100) (u := u) (s := tn u) (wn := wn) (m := m) U hc (by decide) (by decide); rw [sub2, sub2] at this; exact this) lvA_in
set_option maxRecDepth 100000 in
set_option maxHeartbeats 4000000 in
theorem x_at {G : GG} {w c bc bs M n : Nat} {h : Hp} {Q : Pst} {V : SV} {x : Nat → QIS} {R : RS} (hw : w = G.2.2.2.2.1) (hL : slen G < 2 ^ 31) (hi5 : 5 * c + 5 ≤ slen G) (hc : c < 512) (J : JC h) (C : CLS h V M n x R) (D : MDL h V n x R) (A : ARR h) (B : PUR c V M n x R) (U : BUD c n x R bc bs) (K : NXT G w (c + 1) Q) : WL G w m_L_law 100 1710 (lvA c) [] h bc bs Q := by
  obtain ⟨hS, hW, hmd, hMc, hX, hRB, hLF⟩ := id B
  have hm25 : sMd V + 25 ≤ 1000000 := by omega
  have hnv := hS.1
  have hn12 := hX.1.2.1
  have hb1 := hRB.1
  have U2 := id U
  unfold BUD at U2
  have P2 := PC_max hX (fun s h => (hX.2.1 s h).1)
  obtain ⟨u, e_u⟩ : ∃ z, z = G.2.2.2.2.2.2 (5 * c + 1) := ⟨_, rfl⟩
  obtain ⟨v, e_v⟩ : ∃ z, z = G.2.2.2.2.2.2 (5 * c + 2) := ⟨_, rfl⟩
  have hq9 : ixB u n = true → u = nI (tn u) ∧ tn u < n := ix_tn (by omega)
  have hup : tn u < n → PC n x (rcx x) ≤ PC n x (atR x (tn u) v (tn v)) ∧ PS n x (rcx x) ≤ PS n x (atR x (tn u) v (tn v)) ∧ PC n x (atR x (tn u) v (tn v)) ≤ 1128 ∧ PS n x (atR x (tn u) v (tn v)) ≤ 5928 := fun z => en_up hX (atR_b hX z)
  obtain ⟨mc2, e_mc⟩ : ∃ z, z = (if tn u < n then PC n x (atR x (tn u) v (tn v)) + 16 - PC n x (rcx x) else 0) := ⟨_, rfl⟩
  obtain ⟨ms2, e_ms⟩ : ∃ z, z = (if tn u < n then PS n x (atR x (tn u) v (tn v)) + 64 - PS n x (rcx x) else 0) := ⟨_, rfl⟩
  have hpay : mc2 ≤ bc - 6 ∧ ms2 ≤ bs - 80 := by
    rw [e_mc, e_ms]
    by_cases z : tn u < n
    · rw [if_pos z, if_pos z]; obtain ⟨a1, a2, a3, a4⟩ := hup z; omega
    · rw [if_neg z, if_neg z]; omega
  refine wl_aload_n (i := 1) dL_law_1710 rfl (by decide) rfl ?_
  refine wl_cell (i := 5 * c) (k := 1) hw dL_law_1711 dL_law_1712 dL_law_1714 dL_law_1715 dL_law_1716 rfl (by decide) (c5 hi5 (by decide)) hL ?_
  rw [← e_u]
  refine wl_cell (i := 5 * c) (k := 2) hw dL_law_1717 dL_law_1718 dL_law_1720 dL_law_1721 dL_law_1722 rfl (by decide) (c5 hi5 (by decide)) hL ?_
  rw [← e_v]
  refine wl_aload_n (i := 3) dL_law_1723 rfl (by decide) rfl ?_
  refine wl_cSH (y' := m_L_at) [vr (some (nm 40 0)), vi u, vi v, vr (some (nm 70 0))] [] 6 80 dL_law_1724 ml_L_253 st_L_at okH_L_at rfl (Nat.le_of_ble_eq_true rfl) rfl (Nat.le_of_ble_eq_true rfl) (d' := 99) (by decide) (by omega) (by omega) (g_at B hc C A.1   (by decide) (Nat.le_refl _) (Nat.le_refl _) (fun h1 M1 m1 m2 C1 F1 O1 w1 => contL_ret ?_))
  have D1 := D.fc F1
  have J1 := J.fc F1
  have A1 := A.fc F1 O1
  refine wl_istore (i := 6) (lv' := (6, vi (o_at n x u (tn u) v (tn v)).1) :: lvA c) dL_law_1727 (by decide) (by decide) rfl ?_
  refine wl_aload_n (i := 2) dL_law_1729 rfl (by decide) rfl ?_
  refine wl_cell (i := 5 * c) (k := 1) hw dL_law_1730 dL_law_1731 dL_law_1733 dL_law_1734 dL_law_1735 rfl (by decide) (c5 hi5 (by decide)) hL ?_
  rw [← e_u]
  refine wl_cell (i := 5 * c) (k := 2) hw dL_law_1736 dL_law_1737 dL_law_1739 dL_law_1740 dL_law_1741 rfl (by decide) (c5 hi5 (by decide)) hL ?_
  rw [← e_v]
  refine wl_cV (y' := m_X16_at) 17 [vi u, vi v] [] mc2 ms2 dL_law_1742 ml_L_255 im_X16_at se_X16_at (by decide) D1.hk ok_X16_at rfl (Nat.le_of_ble_eq_true rfl) rfl (Nat.le_of_ble_eq_true rfl) (d' := 99) (by decide) (by omega) (by omega) (w_at B hc D1 J1  (by decide)  (fun z => by rw [e_mc, e_ms, if_pos z, if_pos z]; obtain ⟨a1, a2, a3, a4⟩ := hup z; omega) (fun h2 D2 F2 t2 => contL_ret ?_))
  refine wl_istore (i := 7) (lv' := (7, vi (o_at n x u (tn u) v (tn v)).2.1) :: (6, vi (o_at n x u (tn u) v (tn v)).1) :: lvA c) dL_law_1745 (by decide) (by decide) rfl ?_
  refine l_tailI (p := 1747) dL_law_1747 dL_law_1748 dL_law_1751 dL_law_1753 dL_law_1758 dL_law_1760 dL_law_1763 dL_law_1764 dL_law_1765 dL_law_1766 dL_law_1768 dL_law_1769 dL_law_1770 dL_law_1775 (by decide) D2.hk t2 (A1.fg F2).1 (fun z => by rw [F2.out]; exact w1 z) ?_
  exact l_next K (J1.fg F2) (C1.fg F2) D2 (A1.fg F2) (B.q hc m1 m2 (q_at B.2.2.2.2.1 hq9)) (u_at U hc hX (fun z => (hq9 z).2) e_mc e_ms) lvA_in
set_option maxRecDepth 100000 in
set_option maxHeartbeats 4000000 in
theorem x_all {G : GG} {w c bc bs M n : Nat} {h : Hp} {Q : Pst} {V : SV} {x : Nat → QIS} {R : RS} (hw : w = G.2.2.2.2.1) (hL : slen G < 2 ^ 31) (hi5 : 5 * c + 5 ≤ slen G) (hc : c < 512) (J : JC h) (C : CLS h V M n x R) (D : MDL h V n x R) (A : ARR h) (B : PUR c V M n x R) (U : BUD c n x R bc bs) (K : NXT G w (c + 1) Q) : WL G w m_L_law 100 1778 (lvA c) [] h bc bs Q := by
  obtain ⟨hS, hW, hmd, hMc, hX, hRB, hLF⟩ := id B
  have hm25 : sMd V + 25 ≤ 1000000 := by omega
  have hnv := hS.1
  have hn12 := hX.1.2.1
  have hb1 := hRB.1
  have U2 := id U
  unfold BUD at U2
  have P2 := PC_max hX (fun s h => (hX.2.1 s h).1)
  obtain ⟨u, e_u⟩ : ∃ z, z = G.2.2.2.2.2.2 (5 * c + 1) := ⟨_, rfl⟩
  have hq9 : ixB u n = true → u = nI (tn u) ∧ tn u < n := ix_tn (by omega)
  have hup : tn u < n → PC n x (rcx x) ≤ PC n x (enR x (tn u) (rcx x)) ∧ PS n x (rcx x) ≤ PS n x (enR x (tn u) (rcx x)) ∧ PC n x (enR x (tn u) (rcx x)) ≤ 1128 ∧ PS n x (enR x (tn u) (rcx x)) ≤ 5928 := fun z => en_up hX (enR_b hX z)
  obtain ⟨mc2, e_mc⟩ : ∃ z, z = (if tn u < n then PC n x (enR x (tn u) (rcx x)) + 16 - PC n x (rcx x) else 0) := ⟨_, rfl⟩
  obtain ⟨ms2, e_ms⟩ : ∃ z, z = (if tn u < n then PS n x (enR x (tn u) (rcx x)) + 64 - PS n x (rcx x) else 0) := ⟨_, rfl⟩
  have hpay : mc2 ≤ bc - 6 ∧ ms2 ≤ bs - 80 := by
    rw [e_mc, e_ms]
    by_cases z : tn u < n
    · rw [if_pos z, if_pos z]; obtain ⟨a1, a2, a3, a4⟩ := hup z; omega
    · rw [if_neg z, if_neg z]; omega
  refine wl_aload_n (i := 1) dL_law_1778 rfl (by decide) rfl ?_
  refine wl_cell (i := 5 * c) (k := 1) hw dL_law_1779 dL_law_1780 dL_law_1782 dL_law_1783 dL_law_1784 rfl (by decide) (c5 hi5 (by decide)) hL ?_
  rw [← e_u]
  refine wl_aload_n (i := 3) dL_law_1785 rfl (by decide) rfl ?_
  refine wl_cSH (y' := m_L_all) [vr (some (nm 40 0)), vi u, vr (some (nm 70 0))] [] 6 80 dL_law_1786 ml_L_256 st_L_all okH_L_all rfl (Nat.le_of_ble_eq_true rfl) rfl (Nat.le_of_ble_eq_true rfl) (d' := 99) (by decide) (by omega) (by omega) (g_all B hc C A.1   (by decide) (Nat.le_refl _) (Nat.le_refl _) (fun h1 M1 m1 m2 C1 F1 O1 w1 => contL_ret ?_))
  have D1 := D.fc F1
  have J1 := J.fc F1
  have A1 := A.fc F1 O1
  refine wl_istore (i := 6) (lv' := (6, vi (o_all n x u (tn u)).1) :: lvA c) dL_law_1789 (by decide) (by decide) rfl ?_
  refine wl_aload_n (i := 2) dL_law_1791 rfl (by decide) rfl ?_
  refine wl_cell (i := 5 * c) (k := 1) hw dL_law_1792 dL_law_1793 dL_law_1795 dL_law_1796 dL_law_1797 rfl (by decide) (c5 hi5 (by decide)) hL ?_
  rw [← e_u]
  refine wl_cV (y' := m_X16_all) 17 [vi u] [] mc2 ms2 dL_law_1798 ml_L_258 im_X16_all se_X16_all (by decide) D1.hk ok_X16_all rfl (Nat.le_of_ble_eq_true rfl) rfl (Nat.le_of_ble_eq_true rfl) (d' := 99) (by decide) (by omega) (by omega) (w_all B hc D1 J1  (by decide)  (fun z => by rw [e_mc, e_ms, if_pos z, if_pos z]; obtain ⟨a1, a2, a3, a4⟩ := hup z; omega) (fun h2 D2 F2 t2 => contL_ret ?_))
  refine wl_istore (i := 7) (lv' := (7, vi (o_all n x u (tn u)).2.1) :: (6, vi (o_all n x u (tn u)).1) :: lvA c) dL_law_1801 (by decide) (by decide) rfl ?_
  refine l_tailI (p := 1803) dL_law_1803 dL_law_1804 dL_law_1807 dL_law_1809 dL_law_1814 dL_law_1816 dL_law_1819 dL_law_1820 dL_law_1821 dL_law_1822 dL_law_1824 dL_law_1825 dL_law_1826 dL_law_1831 (by decide) D2.hk t2 (A1.fg F2).1 (fun z => by rw [F2.out]; exact w1 z) ?_
  exact l_next K (J1.fg F2) (C1.fg F2) D2 (A1.fg F2) (B.q hc m1 m2 (q_all B.2.2.2.2.1 hq9)) (u_all U hc hX (fun z => (hq9 z).2) e_mc e_ms) lvA_in
set_option maxRecDepth 100000 in
set_option maxHeartbeats 4000000 in
theorem x_realised {G : GG} {w c bc bs M n : Nat} {h : Hp} {Q : Pst} {V : SV} {x : Nat → QIS} {R : RS} (hw : w = G.2.2.2.2.1) (hL : slen G < 2 ^ 31) (hi5 : 5 * c + 5 ≤ slen G) (hc : c < 512) (J : JC h) (C : CLS h V M n x R) (D : MDL h V n x R) (A : ARR h) (B : PUR c V M n x R) (U : BUD c n x R bc bs) (K : NXT G w (c + 1) Q) : WL G w m_L_law 100 1834 (lvA c) [] h bc bs Q := by
  obtain ⟨hS, hW, hmd, hMc, hX, hRB, hLF⟩ := id B
  have hm25 : sMd V + 25 ≤ 1000000 := by omega
  have hnv := hS.1
  have hn12 := hX.1.2.1
  have hb1 := hRB.1
  have U2 := id U
  unfold BUD at U2
  have P2 := PC_max hX (fun s h => (hX.2.1 s h).1)
  obtain ⟨u, e_u⟩ : ∃ z, z = G.2.2.2.2.2.2 (5 * c + 1) := ⟨_, rfl⟩
  have hq9 : ixB u n = true → u = nI (tn u) ∧ tn u < n := ix_tn (by omega)
  refine wl_aload_n (i := 1) dL_law_1834 rfl (by decide) rfl ?_
  refine wl_cell (i := 5 * c) (k := 1) hw dL_law_1835 dL_law_1836 dL_law_1838 dL_law_1839 dL_law_1840 rfl (by decide) (c5 hi5 (by decide)) hL ?_
  rw [← e_u]
  refine wl_aload_n (i := 3) dL_law_1841 rfl (by decide) rfl ?_
  refine wl_cSH (y' := m_L_realised) [vr (some (nm 40 0)), vi u, vr (some (nm 70 0))] [] 6 80 dL_law_1842 ml_L_259 st_L_realised okH_L_realised rfl (Nat.le_of_ble_eq_true rfl) rfl (Nat.le_of_ble_eq_true rfl) (d' := 99) (by decide) (by omega) (by omega) (g_realised B hc C A.1   (by decide) (Nat.le_refl _) (Nat.le_refl _) (fun h1 M1 m1 m2 C1 F1 O1 w1 => contL_ret ?_))
  have D1 := D.fc F1
  have J1 := J.fc F1
  have A1 := A.fc F1 O1
  refine wl_istore (i := 6) (lv' := (6, vi (o_realised n x u (tn u)).1) :: lvA c) dL_law_1845 (by decide) (by decide) rfl ?_
  refine wl_aload_n (i := 2) dL_law_1847 rfl (by decide) rfl ?_
  refine wl_cell (i := 5 * c) (k := 1) hw dL_law_1848 dL_law_1849 dL_law_1851 dL_law_1852 dL_law_1853 rfl (by decide) (c5 hi5 (by decide)) hL ?_
  rw [← e_u]
  refine wl_cV (y' := m_X16_realised) 17 [vi u] [] 1 4 dL_law_1854 ml_L_261 im_X16_realised se_X16_realised (by decide) D1.hk ok_X16_realised rfl (Nat.le_of_ble_eq_true rfl) rfl (Nat.le_of_ble_eq_true rfl) (d' := 99) (by decide) (by omega) (by omega) (w_realised B hc D1 J1  (by decide)  (Nat.le_refl _) (Nat.le_refl _) (fun h2 D2 F2 t2 => contL_ret ?_))
  refine wl_istore (i := 7) (lv' := (7, vi (o_realised n x u (tn u)).2.1) :: (6, vi (o_realised n x u (tn u)).1) :: lvA c) dL_law_1857 (by decide) (by decide) rfl ?_
  refine l_tailI (p := 1859) dL_law_1859 dL_law_1860 dL_law_1863 dL_law_1865 dL_law_1870 dL_law_1872 dL_law_1875 dL_law_1876 dL_law_1877 dL_law_1878 dL_law_1880 dL_law_1881 dL_law_1882 dL_law_1887 (by decide) D2.hk t2 (A1.fg F2).1 (fun z => by rw [F2.out]; exact w1 z) ?_
  exact l_next K (J1.fg F2) (C1.fg F2) D2 (A1.fg F2) (by rw [r_realised]; exact B.same hc m1 m2) (by have := u_realised (mc := 6 + 1) (ms := 80 + 4) (u := u) (s := tn u) U hc (by decide) (by decide); rw [sub2, sub2] at this; exact this) lvA_in
set_option maxRecDepth 100000 in
set_option maxHeartbeats 4000000 in
theorem x_chunks {G : GG} {w c bc bs M n : Nat} {h : Hp} {Q : Pst} {V : SV} {x : Nat → QIS} {R : RS} (hw : w = G.2.2.2.2.1) (hL : slen G < 2 ^ 31) (hi5 : 5 * c + 5 ≤ slen G) (hc : c < 512) (J : JC h) (C : CLS h V M n x R) (D : MDL h V n x R) (A : ARR h) (B : PUR c V M n x R) (U : BUD c n x R bc bs) (K : NXT G w (c + 1) Q) : WL G w m_L_law 100 1890 (lvA c) [] h bc bs Q := by
  obtain ⟨hS, hW, hmd, hMc, hX, hRB, hLF⟩ := id B
  have hm25 : sMd V + 25 ≤ 1000000 := by omega
  have hnv := hS.1
  have hn12 := hX.1.2.1
  have hb1 := hRB.1
  have U2 := id U
  unfold BUD at U2
  have P2 := PC_max hX (fun s h => (hX.2.1 s h).1)
  obtain ⟨u, e_u⟩ : ∃ z, z = G.2.2.2.2.2.2 (5 * c + 1) := ⟨_, rfl⟩
  have hq9 : ixB u n = true → u = nI (tn u) ∧ tn u < n := ix_tn (by omega)
  refine wl_aload_n (i := 1) dL_law_1890 rfl (by decide) rfl ?_
  refine wl_cell (i := 5 * c) (k := 1) hw dL_law_1891 dL_law_1892 dL_law_1894 dL_law_1895 dL_law_1896 rfl (by decide) (c5 hi5 (by decide)) hL ?_
  rw [← e_u]
  refine wl_aload_n (i := 3) dL_law_1897 rfl (by decide) rfl ?_
  refine wl_cSH (y' := m_L_chunks) [vr (some (nm 40 0)), vi u, vr (some (nm 70 0))] [] 6 80 dL_law_1898 ml_L_262 st_L_chunks okH_L_chunks rfl (Nat.le_of_ble_eq_true rfl) rfl (Nat.le_of_ble_eq_true rfl) (d' := 99) (by decide) (by omega) (by omega) (g_chunks B hc C A.1   (by decide) (Nat.le_refl _) (Nat.le_refl _) (fun h1 M1 m1 m2 C1 F1 O1 w1 => contL_ret ?_))
  have D1 := D.fc F1
  have J1 := J.fc F1
  have A1 := A.fc F1 O1
  refine wl_istore (i := 6) (lv' := (6, vi (o_chunks n x u (tn u)).1) :: lvA c) dL_law_1901 (by decide) (by decide) rfl ?_
  refine wl_aload_n (i := 2) dL_law_1903 rfl (by decide) rfl ?_
  refine wl_cell (i := 5 * c) (k := 1) hw dL_law_1904 dL_law_1905 dL_law_1907 dL_law_1908 dL_law_1909 rfl (by decide) (c5 hi5 (by decide)) hL ?_
  rw [← e_u]
  refine wl_cV (y' := m_X16_chunks) 17 [vi u] [] 0 0 dL_law_1910 ml_L_264 im_X16_chunks se_X16_chunks (by decide) D1.hk ok_X16_chunks rfl (Nat.le_of_ble_eq_true rfl) rfl (Nat.le_of_ble_eq_true rfl) (d' := 99) (by decide) (by omega) (by omega) (w_chunks B hc D1 J1  (by decide)  (Nat.le_refl _) (Nat.le_refl _) (fun h2 D2 F2 t2 => contL_ret ?_))
  refine wl_istore (i := 7) (lv' := (7, vi (o_chunks n x u (tn u)).2.1) :: (6, vi (o_chunks n x u (tn u)).1) :: lvA c) dL_law_1913 (by decide) (by decide) rfl ?_
  refine l_tailI (p := 1915) dL_law_1915 dL_law_1916 dL_law_1919 dL_law_1921 dL_law_1926 dL_law_1928 dL_law_1931 dL_law_1932 dL_law_1933 dL_law_1934 dL_law_1936 dL_law_1937 dL_law_1938 dL_law_1943 (by decide) D2.hk t2 (A1.fg F2).1 (fun z => by rw [F2.out]; exact w1 z) ?_
  exact l_next K (J1.fg F2) (C1.fg F2) D2 (A1.fg F2) (by rw [r_chunks]; exact B.same hc m1 m2) (by have := u_chunks (mc := 6 + 0) (ms := 80 + 0) (u := u) (s := tn u) U hc (by decide) (by decide); rw [sub2, sub2] at this; exact this) lvA_in
set_option maxRecDepth 100000 in
set_option maxHeartbeats 4000000 in
theorem x_collect {G : GG} {w c bc bs M n : Nat} {h : Hp} {Q : Pst} {V : SV} {x : Nat → QIS} {R : RS} (hw : w = G.2.2.2.2.1) (hL : slen G < 2 ^ 31) (hi5 : 5 * c + 5 ≤ slen G) (hc : c < 512) (J : JC h) (C : CLS h V M n x R) (D : MDL h V n x R) (A : ARR h) (B : PUR c V M n x R) (U : BUD c n x R bc bs) (K : NXT G w (c + 1) Q) : WL G w m_L_law 100 1946 (lvA c) [] h bc bs Q := by
  obtain ⟨hS, hW, hmd, hMc, hX, hRB, hLF⟩ := id B
  have hm25 : sMd V + 25 ≤ 1000000 := by omega
  have hnv := hS.1
  have hn12 := hX.1.2.1
  have hb1 := hRB.1
  have U2 := id U
  unfold BUD at U2
  have P2 := PC_max hX (fun s h => (hX.2.1 s h).1)
  obtain ⟨u, e_u⟩ : ∃ z, z = G.2.2.2.2.2.2 (5 * c + 1) := ⟨_, rfl⟩
  have hq9 : ixB u n = true → u = nI (tn u) ∧ tn u < n := ix_tn (by omega)
  have hup : tn u < n → PC n x (rcx x) ≤ PC n x (enR x (tn u) (rcx x)) ∧ PS n x (rcx x) ≤ PS n x (enR x (tn u) (rcx x)) ∧ PC n x (enR x (tn u) (rcx x)) ≤ 1128 ∧ PS n x (enR x (tn u) (rcx x)) ≤ 5928 := fun z => en_up hX (enR_b hX z)
  have ht64 : ixB u n = true → tot (q_F (x (tn u))) ≤ 64 := fun z => by have := (hX.1.1 _ (hq9 z).2).2.1; omega
  obtain ⟨mc1, e_m1⟩ : ∃ z, z = (if (o_collect V n x u (tn u)).1 = nI 0 then 500 else 3) := ⟨_, rfl⟩
  obtain ⟨ms1, e_s1⟩ : ∃ z, z = (if (o_collect V n x u (tn u)).1 = nI 0 then 9000 else 18) := ⟨_, rfl⟩
  obtain ⟨mc2, e_mc⟩ : ∃ z, z = (if ixB u n = true then PC n x (enR x (tn u) (rcx x)) + 87 - PC n x (rcx x) else 0) := ⟨_, rfl⟩
  obtain ⟨ms2, e_ms⟩ : ∃ z, z = (if ixB u n = true then PS n x (enR x (tn u) (rcx x)) + 400 - PS n x (rcx x) else 0) := ⟨_, rfl⟩
  have hm1 : mc1 ≤ 500 ∧ ms1 ≤ 9000 := by rw [e_m1, e_s1]; split <;> omega
  have hpay : mc2 ≤ bc - mc1 ∧ ms2 ≤ bs - ms1 := by
    rw [e_mc, e_ms]
    by_cases z : ixB u n = true
    · rw [if_pos z, if_pos z]; obtain ⟨a1, a2, a3, a4⟩ := hup (hq9 z).2; omega
    · rw [if_neg z, if_neg z]; omega
  refine wl_aload_n (i := 1) dL_law_1946 rfl (by decide) rfl ?_
  refine wl_cell (i := 5 * c) (k := 1) hw dL_law_1947 dL_law_1948 dL_law_1950 dL_law_1951 dL_law_1952 rfl (by decide) (c5 hi5 (by decide)) hL ?_
  rw [← e_u]
  refine wl_aload_n (i := 3) dL_law_1953 rfl (by decide) rfl ?_
  refine wl_cSH (y' := m_L_collect) [vr (some (nm 40 0)), vi u, vr (some (nm 70 0))] [] mc1 ms1 dL_law_1954 ml_L_265 st_L_collect okH_L_collect rfl (Nat.le_of_ble_eq_true rfl) rfl (Nat.le_of_ble_eq_true rfl) (d' := 99) (by decide) (by omega) (by omega) (g_collect B hc C A.1   (by decide) ⟨by rw [e_m1]; split <;> omega, fun z => by rw [e_m1, if_pos z]; exact Nat.le_refl _⟩ ⟨by rw [e_s1]; split <;> omega, fun z => by rw [e_s1, if_pos z]; exact Nat.le_refl _⟩ (fun h1 M1 m1 m2 C1 F1 O1 w1 => contL_ret ?_))
  have D1 := D.fc F1
  have J1 := J.fc F1
  have A1 := A.fc F1 O1
  refine wl_istore (i := 6) (lv' := (6, vi (o_collect V n x u (tn u)).1) :: lvA c) dL_law_1957 (by decide) (by decide) rfl ?_
  refine wl_aload_n (i := 2) dL_law_1959 rfl (by decide) rfl ?_
  refine wl_cell (i := 5 * c) (k := 1) hw dL_law_1960 dL_law_1961 dL_law_1963 dL_law_1964 dL_law_1965 rfl (by decide) (c5 hi5 (by decide)) hL ?_
  rw [← e_u]
  refine wl_cV (y' := m_X16_collect) 17 [vi u] [] mc2 ms2 dL_law_1966 ml_L_267 im_X16_collect se_X16_collect (by decide) D1.hk ok_X16_collect rfl (Nat.le_of_ble_eq_true rfl) rfl (Nat.le_of_ble_eq_true rfl) (d' := 99) (by decide) (by omega) (by omega) (w_collect B hc D1 J1  (by decide)  (fun z z2 => by rw [e_mc, e_ms, if_pos z, if_pos z]; obtain ⟨a1, a2, a3, a4⟩ := hup z2; omega) (fun h2 D2 F2 t2 => contL_ret ?_))
  refine wl_istore (i := 7) (lv' := (7, vi (o_collect V n x u (tn u)).2.1) :: (6, vi (o_collect V n x u (tn u)).1) :: lvA c) dL_law_1969 (by decide) (by decide) rfl ?_
  refine l_tailI (p := 1971) dL_law_1971 dL_law_1972 dL_law_1975 dL_law_1977 dL_law_1982 dL_law_1984 dL_law_1987 dL_law_1988 dL_law_1989 dL_law_1990 dL_law_1992 dL_law_1993 dL_law_1994 dL_law_1999 (by decide) D2.hk t2 (A1.fg F2).1 (fun z => by rw [F2.out]; exact w1 z) ?_
  exact l_next K (J1.fg F2) (C1.fg F2) D2 (A1.fg F2) ⟨(k_collect B.1 ht64).1, b_collect B.2.1 hm25 ht64, (by obtain ⟨z1, z2, z3⟩ := k_collect (x := x) (n := n) B.1 ht64; omega), (by omega), q_collect hX hq9, RB_up hRB (by omega), Nat.le_succ_of_le hLF⟩ (u_collect U hc hX (fun z => (hq9 z).2) e_m1 e_s1 e_mc e_ms) lvA_in
