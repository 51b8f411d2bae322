/-! transact. -/
theorem i32_z (z : Int32) : z = z + nI 0 := by rw [show nI 0 = (0 : Int32) from by decide, Int32.add_zero]
/-- what a commit takes up -/
def czN (w t : Nat) (R : RS) : Nat := if 6 < w then cgN (RS_tt R t) (RS_rn R) 0 else 0
def OPI (op : Nat → Bool) (R : RS) : Prop := ∀ t, t < 3 → op t = OT_op (RS_tt R t)
theorem OPI.same {op : Nat → Bool} {R S : RS} (H : OPI op R) (s : SOP R S) : OPI op S := fun t ht => (H t ht).trans (s t).symm
theorem OPI.set {op : Nat → Bool} {R S : RS} {t : Nat} {b : Bool} (H : OPI op R) (s : SCL R S t b) : OPI (va_up op t b) S := fun u hu => by
  rw [s u, va_up_app]
  split
  · rfl
  · exact H u hu
theorem OPI.sto {op : Nat → Bool} {R S : RS} {t : Nat} {b : Bool} (H : OPI op R) (s : SOP R S) (ht : t < 3) (hb : OT_op (RS_tt R t) = b) : OPI (va_up op t b) S := fun u hu => by
  rw [va_up_app]
  split
  · next e => rw [e, s t]; exact hb.symm
  · exact (H u hu).trans (s u).symm
theorem flg_end {S : RS} {t : Nat} (ht : t < 3) (h6 : RS_rn S ≤ 6) (ho : OT_op (RS_tt S t) = true) : flg (o_end S (nI t) t).2.2 + cgN (RS_tt S t) (RS_rn S) 0 ≤ flg S := by
  have e : o_end S (nI t) t = (nI 0, nI (OT_bk (RS_tt S t)), RS_utt1 S t (fgt (OT_uop (RS_tt S t) false))) := by
    unfold o_end
    rw [if_neg (i3n ht), if_neg (ion ho)]
  rw [e]
  have h1 := flg_e (S := S) (y := fgt (OT_uop (RS_tt S t) false)) ht
  have h2 : fl (fgt (OT_uop (RS_tt S t) false)) = 0 := fl_fgt
  have h3 : cgN (RS_tt S t) (RS_rn S) 0 ≤ fl (RS_tt S t) := cgN_le (RS_rn S) 6 0 h6
  show flg (RS_utt1 S t (fgt (OT_uop (RS_tt S t) false))) + _ ≤ _
  omega
theorem g_moment {G : GG} {d bc bs c M n : Nat} {h : Hp} {Q : Pst} {V : SV} {x : Nat → QIS} {R : RS} (B : PU c V n x R) (hc : c < 512) (C : CLS h V M n x R) (hd : 20 ≤ d) (hbc : 6 ≤ bc) (hbs : 40 ≤ bs) (hq : ∀ h', CLS h' V M n x R → FK h h' → Q (oRet (vi (nI (RS_mo R)))) h') : WP G m_X11_moment d 0 (aargs 0 [vr (some (nm 40 0))]) [] h bc bs Q := by
  obtain ⟨hS, hW, hmd, hX, hRB, hLF⟩ := B
  obtain ⟨⟨X, hR, hs⟩, hC2, hC3⟩ := id C
  exact c_X11_moment hR hs hRB (by omega) (by omega) (by omega) ⟨fun i e _ z => (by rw [List.getElem?_nil] at z; cases z), fun _ h' X' c9 s9 f9 => hq h' (C.ofR f9 c9 s9) f9.fk⟩
theorem g_logged {G : GG} {d bc bs c M n : Nat} {h : Hp} {Q : Pst} {V : SV} {x : Nat → QIS} {R : RS} (B : PU c V n x R) (hc : c < 512) (C : CLS h V M n x R) (hd : 20 ≤ d) (hbc : 6 ≤ bc) (hbs : 40 ≤ bs) (hq : ∀ h', CLS h' V M n x R → FK h h' → Q (oRet (vi (nI ((RS_lg R).length)))) h') : WP G m_X11_logged d 0 (aargs 0 [vr (some (nm 40 0))]) [] h bc bs Q := by
  obtain ⟨hS, hW, hmd, hX, hRB, hLF⟩ := B
  obtain ⟨⟨X, hR, hs⟩, hC2, hC3⟩ := id C
  exact c_X11_logged hR hs hRB (by omega) (by omega) (by omega) ⟨fun i e _ z => (by rw [List.getElem?_nil] at z; cases z), fun _ h' X' c9 s9 f9 => hq h' (C.ofR f9 c9 s9) f9.fk⟩
set_option maxRecDepth 100000 in
set_option maxHeartbeats 4000000 in
theorem l_tr_read {G : GG} {d c n k : Nat} {Q : Pst} {V : SV} {x : Nat → QIS} {R : RS} {K J i w t r : Nat} {ro : Nat → Nat} {rf : Nat → Nat → Int32} {op : Nat → Bool} (B : PU c V n x R) (hc : c + 4 ≤ 512) (hk : k < 110) (HI : RI k R) (HO : OPI op R) (ht : t < 3) (hr : r < 6) (hw : w < 9) (hd : 40 ≤ d) (hL : slen G < 2 ^ 31) (hi : i + 200 < 2 ^ 31) {h : Hp} {M bc bs : Nat} (C : CLS h V M n x R) (H : LWH h (sNv V) n (RS_rn R) ro rf K J op) (hbc : 150 ≤ bc) (hbs : 1500 + 1100 * czN w t R ≤ bs) (hq : ∀ h' c' R' op', c' ≤ c + 4 → CLS h' V M n x R' → PU c' V n x R' → RI (k + 1) R' → OPI op' R' → flg R' + czN w t R ≤ flg R + 2 → LWH h' (sNv V) n (RS_rn R') ro rf K J op' → Q (oRet (vi (nI 1))) h') (hw2 : w = 3) : WP G m_L_transact d 154 [(7, vi (nI w)), (6, vi (nI r)), (5, vi (nI t)), (0, vr (some (nm 40 0))), (1, vr (some nS)), (2, vi (nI i)), (3, vr (some (nm 70 1))), (4, vr (some (nm 70 2)))] [] h bc bs Q := by
  have h6 : RS_rn R ≤ 6 := B.2.2.2.2.1.1.2.1
  have hmo : RS_mo R ≤ c := B.2.2.2.2.1.1.2.2.2.1
  have hlg : (RS_lg R).length ≤ 6 * c := B.2.2.2.2.1.1.2.2.2.2.2.1
  obtain ⟨zb, ezb⟩ : ∃ z, nI (OT_bk (RS_tt R t)) = z := ⟨_, rfl⟩
  have hbk := (HI.1 t ht).1.1
  by_cases hrn : r < RS_rn R
  · cases hop : OT_op (RS_tt R t) with
    | false =>
      have hopn : op t = false := (HO t ht).trans hop
      have eo := (rx_shut (y := nI 0) ht h6 hrn hop).1
      refine wp_aload_n (i := 0) dL_transact_154 rfl rfl ?_
      refine wp_bipush (nI 10) dL_transact_155 (by decide) ?_
      refine wp_iload (i := 5) dL_transact_157 rfl ?_
      refine wp_iconst (nI 0) dL_transact_159 (by decide) ?_
      refine wp_cSH (y' := m_L_ask) [vr (some (nm 40 0)), vi (nI 10), vi (nI t), vi (nI 0)] [] 6 40 dL_transact_160 ml_L_184 st_L_ask okH_L_ask rfl (Nat.le_of_ble_eq_true rfl) rfl (Nat.le_of_ble_eq_true rfl) (d' := d - 1) (by omega) (by omega) (by omega) (q_sentBack (t := t) (by omega) B (by omega) C (by omega) (by omega) (by omega) (fun h1 C1 F1 => cont_ret ?_))
      rw [r_sentBack] at C1
      rw [show dA [-20002] (o_sentBack R (nI t) t) = zb from by rw [rx_sent ht]; exact ezb]
      have H1 := H.fk F1
      refine wp_istore (i := 8) (lv' := [(8, vi zb), (7, vi (nI w)), (6, vi (nI r)), (5, vi (nI t)), (0, vr (some (nm 40 0))), (1, vr (some nS)), (2, vi (nI i)), (3, vr (some (nm 70 1))), (4, vr (some (nm 70 2)))]) dL_transact_163 (by decide) rfl ?_
      refine wp_aload_n (i := 0) dL_transact_165 rfl rfl ?_
      refine wp_cV (y' := m_X11_logged) 12 [] [] 6 40 dL_transact_166 ml_L_217 im_X11_logged se_X11_logged (by decide) C1.hk ok_X11_logged rfl (Nat.le_of_ble_eq_true rfl) rfl (Nat.le_of_ble_eq_true rfl) (d' := d - 1) (by omega) (by omega) (by omega) (g_logged B (by omega) C1 (by omega) (by omega) (by omega) (fun h2 C2 F2 => cont_ret ?_))
      have H2 := H1.fk F2
      refine wp_istore (i := 9) (lv' := [(9, vi (nI ((RS_lg R).length))), (8, vi zb), (7, vi (nI w)), (6, vi (nI r)), (5, vi (nI t)), (0, vr (some (nm 40 0))), (1, vr (some nS)), (2, vi (nI i)), (3, vr (some (nm 70 1))), (4, vr (some (nm 70 2)))]) dL_transact_169 (by decide) rfl ?_
      refine wp_aload_n (i := 0) dL_transact_171 rfl rfl ?_
      refine wp_cV (y' := m_X11_moment) 12 [] [] 6 40 dL_transact_172 ml_L_214 im_X11_moment se_X11_moment (by decide) C2.hk ok_X11_moment rfl (Nat.le_of_ble_eq_true rfl) rfl (Nat.le_of_ble_eq_true rfl) (d' := d - 1) (by omega) (by omega) (by omega) (g_moment B (by omega) C2 (by omega) (by omega) (by omega) (fun h3 C3 F3 => cont_ret ?_))
      have H3 := H2.fk F3
      refine wp_istore (i := 10) (lv' := [(10, vi (nI (RS_mo R))), (9, vi (nI ((RS_lg R).length))), (8, vi zb), (7, vi (nI w)), (6, vi (nI r)), (5, vi (nI t)), (0, vr (some (nm 40 0))), (1, vr (some nS)), (2, vi (nI i)), (3, vr (some (nm 70 1))), (4, vr (some (nm 70 2)))]) dL_transact_175 (by decide) rfl ?_
      refine wp_iload (i := 7) dL_transact_177 rfl ?_
      refine wp_bipush (nI 6) dL_transact_179 (by decide) ?_
      refine wp_icmp_leN 373 dL_transact_181 (by decide) (by omega) (by decide) (fun c_181 => ?_) (fun c_181 => absurd c_181 (by omega))
      refine wp_iload (i := 7) dL_transact_373 rfl ?_
      refine wp_iconst (nI 3) dL_transact_375 (by decide) ?_
      refine wp_icmp_neN 393 dL_transact_376 (by decide) (by omega) (by decide) (fun c_376 => absurd c_376 (by omega)) (fun c_376 => ?_)
      refine wp_aload_n (i := 0) dL_transact_379 rfl rfl ?_
      refine wp_bipush (nI 18) dL_transact_380 (by decide) ?_
      refine wp_iload (i := 5) dL_transact_382 rfl ?_
      refine wp_iload (i := 6) dL_transact_384 rfl ?_
      refine wp_iconst (nI 0) dL_transact_386 (by decide) ?_
      refine wp_cSH (y' := m_L_deed) [vr (some (nm 40 0)), vi (nI 18), vi (nI t), vi (nI r), vi (nI 0)] [] 6 40 dL_transact_387 ml_L_191 st_L_deed okH_L_deed rfl (Nat.le_of_ble_eq_true rfl) rfl (Nat.le_of_ble_eq_true rfl) (d' := d - 1) (by omega) (by omega) (by omega) (e_read (t := t) (by omega) (r := r) (by omega) B (by omega) C3 (by omega) (by omega) (by omega) (fun h4 C4 F4 => cont_ret ?_))
      rw [eo] at C4
      rw [show dA [-20002, -20001, -20003] (o_read R (nI t) t (nI r) r) = -20003 from by rw [eo]; rfl]
      have H4 := H3.fk F4
      refine wp_goto 464 dL_transact_390 (by decide) ?_
      refine wp_istore (i := 11) (lv' := [(11, vi (-20003)), (10, vi (nI (RS_mo R))), (9, vi (nI ((RS_lg R).length))), (8, vi zb), (7, vi (nI w)), (6, vi (nI r)), (5, vi (nI t)), (0, vr (some (nm 40 0))), (1, vr (some nS)), (2, vi (nI i)), (3, vr (some (nm 70 1))), (4, vr (some (nm 70 2)))]) dL_transact_464 (by decide) rfl ?_
      refine wp_iload (i := 6) dL_transact_466 rfl ?_
      refine wp_aload_n (i := 3) dL_transact_468 rfl rfl ?_
      refine wp_iconst (nI 2) dL_transact_469 (by decide) ?_
      refine wp_ialoadN 3 (nI (RS_rn R)) dL_transact_470 H4.2.2.2.1.1 H4.2.2.2.1.2.1 (by decide) (by decide) (H4.2.2.2.1.2.2.2.2) ?_
      refine wp_icmp_ltN 488 dL_transact_471 (by decide) (by omega) (by omega) (fun c_471 => ?_) (fun c_471 => absurd c_471 (by omega))
      refine wp_aload (i := 4) dL_transact_488 rfl ?_
      refine wp_iload (i := 5) dL_transact_490 rfl ?_
      refine wp_zaloadN 3 (bI (op t)) dL_transact_492 H4.2.2.2.2.1.1 H4.2.2.2.2.1.2.1 (by omega) (by decide) (H4.2.2.2.2.1.2.2 t ht) ?_
      refine wp_if_neB 510 dL_transact_493 (by decide) (fun c_493 => absurd c_493 (by rw [hopn]; decide)) (fun c_493 => ?_)
      refine wp_iload (i := 11) dL_transact_496 rfl ?_
      refine wp_sipush (-20003) dL_transact_498 (by decide) ?_
      refine wp_icmp_ne 508 dL_transact_501 (by decide) (fun c_501 => absurd c_501 (fun z => z rfl)) (fun c_501 => ?_)
      refine wp_iconst (nI 1) dL_transact_504 (by decide) ?_
      refine wp_goto 509 dL_transact_505 (by decide) ?_
      refine wp_zreturn dL_transact_509 rfl (by decide) ?_
      exact hq _ c R _ (by omega) C4 B HI.up HO (by unfold czN; rw [if_neg (by omega)]; omega) (by exact H4)
    | true =>
      have hopn : op t = true := (HO t ht).trans hop
      rcases rx_read ht h6 hrn hop HI with ⟨e, eo, ne1, ne2⟩ | ⟨S', eo, ri, so, sam, bk⟩
      · skip
        refine wp_aload_n (i := 0) dL_transact_154 rfl rfl ?_
        refine wp_bipush (nI 10) dL_transact_155 (by decide) ?_
        refine wp_iload (i := 5) dL_transact_157 rfl ?_
        refine wp_iconst (nI 0) dL_transact_159 (by decide) ?_
        refine wp_cSH (y' := m_L_ask) [vr (some (nm 40 0)), vi (nI 10), vi (nI t), vi (nI 0)] [] 6 40 dL_transact_160 ml_L_184 st_L_ask okH_L_ask rfl (Nat.le_of_ble_eq_true rfl) rfl (Nat.le_of_ble_eq_true rfl) (d' := d - 1) (by omega) (by omega) (by omega) (q_sentBack (t := t) (by omega) B (by omega) C (by omega) (by omega) (by omega) (fun h1 C1 F1 => cont_ret ?_))
        rw [r_sentBack] at C1
        rw [show dA [-20002] (o_sentBack R (nI t) t) = zb from by rw [rx_sent ht]; exact ezb]
        have H1 := H.fk F1
        refine wp_istore (i := 8) (lv' := [(8, vi zb), (7, vi (nI w)), (6, vi (nI r)), (5, vi (nI t)), (0, vr (some (nm 40 0))), (1, vr (some nS)), (2, vi (nI i)), (3, vr (some (nm 70 1))), (4, vr (some (nm 70 2)))]) dL_transact_163 (by decide) rfl ?_
        refine wp_aload_n (i := 0) dL_transact_165 rfl rfl ?_
        refine wp_cV (y' := m_X11_logged) 12 [] [] 6 40 dL_transact_166 ml_L_217 im_X11_logged se_X11_logged (by decide) C1.hk ok_X11_logged rfl (Nat.le_of_ble_eq_true rfl) rfl (Nat.le_of_ble_eq_true rfl) (d' := d - 1) (by omega) (by omega) (by omega) (g_logged B (by omega) C1 (by omega) (by omega) (by omega) (fun h2 C2 F2 => cont_ret ?_))
        have H2 := H1.fk F2
        refine wp_istore (i := 9) (lv' := [(9, vi (nI ((RS_lg R).length))), (8, vi zb), (7, vi (nI w)), (6, vi (nI r)), (5, vi (nI t)), (0, vr (some (nm 40 0))), (1, vr (some nS)), (2, vi (nI i)), (3, vr (some (nm 70 1))), (4, vr (some (nm 70 2)))]) dL_transact_169 (by decide) rfl ?_
        refine wp_aload_n (i := 0) dL_transact_171 rfl rfl ?_
        refine wp_cV (y' := m_X11_moment) 12 [] [] 6 40 dL_transact_172 ml_L_214 im_X11_moment se_X11_moment (by decide) C2.hk ok_X11_moment rfl (Nat.le_of_ble_eq_true rfl) rfl (Nat.le_of_ble_eq_true rfl) (d' := d - 1) (by omega) (by omega) (by omega) (g_moment B (by omega) C2 (by omega) (by omega) (by omega) (fun h3 C3 F3 => cont_ret ?_))
        have H3 := H2.fk F3
        refine wp_istore (i := 10) (lv' := [(10, vi (nI (RS_mo R))), (9, vi (nI ((RS_lg R).length))), (8, vi zb), (7, vi (nI w)), (6, vi (nI r)), (5, vi (nI t)), (0, vr (some (nm 40 0))), (1, vr (some nS)), (2, vi (nI i)), (3, vr (some (nm 70 1))), (4, vr (some (nm 70 2)))]) dL_transact_175 (by decide) rfl ?_
        refine wp_iload (i := 7) dL_transact_177 rfl ?_
        refine wp_bipush (nI 6) dL_transact_179 (by decide) ?_
        refine wp_icmp_leN 373 dL_transact_181 (by decide) (by omega) (by decide) (fun c_181 => ?_) (fun c_181 => absurd c_181 (by omega))
        refine wp_iload (i := 7) dL_transact_373 rfl ?_
        refine wp_iconst (nI 3) dL_transact_375 (by decide) ?_
        refine wp_icmp_neN 393 dL_transact_376 (by decide) (by omega) (by decide) (fun c_376 => absurd c_376 (by omega)) (fun c_376 => ?_)
        refine wp_aload_n (i := 0) dL_transact_379 rfl rfl ?_
        refine wp_bipush (nI 18) dL_transact_380 (by decide) ?_
        refine wp_iload (i := 5) dL_transact_382 rfl ?_
        refine wp_iload (i := 6) dL_transact_384 rfl ?_
        refine wp_iconst (nI 0) dL_transact_386 (by decide) ?_
        refine wp_cSH (y' := m_L_deed) [vr (some (nm 40 0)), vi (nI 18), vi (nI t), vi (nI r), vi (nI 0)] [] 6 40 dL_transact_387 ml_L_191 st_L_deed okH_L_deed rfl (Nat.le_of_ble_eq_true rfl) rfl (Nat.le_of_ble_eq_true rfl) (d' := d - 1) (by omega) (by omega) (by omega) (e_read (t := t) (by omega) (r := r) (by omega) B (by omega) C3 (by omega) (by omega) (by omega) (fun h4 C4 F4 => cont_ret ?_))
        rw [eo] at C4
        rw [show dA [-20002, -20001, -20003] (o_read R (nI t) t (nI r) r) = e from by rw [eo]; rfl]
        have H4 := H3.fk F4
        refine wp_goto 464 dL_transact_390 (by decide) ?_
        refine wp_istore (i := 11) (lv' := [(11, vi e), (10, vi (nI (RS_mo R))), (9, vi (nI ((RS_lg R).length))), (8, vi zb), (7, vi (nI w)), (6, vi (nI r)), (5, vi (nI t)), (0, vr (some (nm 40 0))), (1, vr (some nS)), (2, vi (nI i)), (3, vr (some (nm 70 1))), (4, vr (some (nm 70 2)))]) dL_transact_464 (by decide) rfl ?_
        refine wp_iload (i := 6) dL_transact_466 rfl ?_
        refine wp_aload_n (i := 3) dL_transact_468 rfl rfl ?_
        refine wp_iconst (nI 2) dL_transact_469 (by decide) ?_
        refine wp_ialoadN 3 (nI (RS_rn R)) dL_transact_470 H4.2.2.2.1.1 H4.2.2.2.1.2.1 (by decide) (by decide) (H4.2.2.2.1.2.2.2.2) ?_
        refine wp_icmp_ltN 488 dL_transact_471 (by decide) (by omega) (by omega) (fun c_471 => ?_) (fun c_471 => absurd c_471 (by omega))
        refine wp_aload (i := 4) dL_transact_488 rfl ?_
        refine wp_iload (i := 5) dL_transact_490 rfl ?_
        refine wp_zaloadN 3 (bI (op t)) dL_transact_492 H4.2.2.2.2.1.1 H4.2.2.2.2.1.2.1 (by omega) (by decide) (H4.2.2.2.2.1.2.2 t ht) ?_
        refine wp_if_neB 510 dL_transact_493 (by decide) (fun c_493 => ?_) (fun c_493 => absurd c_493 (by rw [hopn]; decide))
        refine wp_iload (i := 7) dL_transact_510 rfl ?_
        refine wp_iconst (nI 3) dL_transact_512 (by decide) ?_
        refine wp_icmp_neN 532 dL_transact_513 (by decide) (by omega) (by decide) (fun c_513 => absurd c_513 (by omega)) (fun c_513 => ?_)
        refine wp_iload (i := 11) dL_transact_516 rfl ?_
        refine wp_sipush (-10000) dL_transact_518 (by decide) ?_
        refine wp_icmp_ne 528 dL_transact_521 (by decide) (fun c_521 => ?_) (fun c_521 => absurd c_521 (ne1))
        refine wp_iconst (nI 0) dL_transact_528 (by decide) ?_
        refine wp_goto 542 dL_transact_529 (by decide) ?_
        refine wp_istore (i := 12) (lv' := [(12, vi (nI 0)), (11, vi e), (10, vi (nI (RS_mo R))), (9, vi (nI ((RS_lg R).length))), (8, vi zb), (7, vi (nI w)), (6, vi (nI r)), (5, vi (nI t)), (0, vr (some (nm 40 0))), (1, vr (some nS)), (2, vi (nI i)), (3, vr (some (nm 70 1))), (4, vr (some (nm 70 2)))]) dL_transact_542 (by decide) rfl ?_
        refine wp_iload (i := 11) dL_transact_544 rfl ?_
        refine wp_sipush (-20004) dL_transact_546 (by decide) ?_
        refine wp_icmp_ne 565 dL_transact_549 (by decide) (fun c_549 => ?_) (fun c_549 => absurd c_549 (ne2))
        refine wp_aload_n (i := 0) dL_transact_565 rfl rfl ?_
        refine wp_bipush (nI 10) dL_transact_566 (by decide) ?_
        refine wp_iload (i := 5) dL_transact_568 rfl ?_
        refine wp_iconst (nI 0) dL_transact_570 (by decide) ?_
        refine wp_cSH (y' := m_L_ask) [vr (some (nm 40 0)), vi (nI 10), vi (nI t), vi (nI 0)] [] 6 40 dL_transact_571 ml_L_184 st_L_ask okH_L_ask rfl (Nat.le_of_ble_eq_true rfl) rfl (Nat.le_of_ble_eq_true rfl) (d' := d - 1) (by omega) (by omega) (by omega) (q_sentBack (t := t) (by omega) B (by omega) C4 (by omega) (by omega) (by omega) (fun h5 C5 F5 => cont_ret ?_))
        rw [r_sentBack] at C5
        rw [show dA [-20002] (o_sentBack R (nI t) t) = zb from by rw [rx_sent ht]; exact ezb]
        have H5 := H4.fk F5
        refine wp_iload (i := 8) dL_transact_574 rfl ?_
        refine wp_iload (i := 12) dL_transact_576 rfl ?_
        refine wp_cS (y' := m_L_told) [vi (bI false)] [vi zb, vi zb] 0 0 dL_transact_578 ml_L_83 st_L_told ok_L_told rfl (Nat.le_of_ble_eq_true rfl) rfl (Nat.le_of_ble_eq_true rfl) (d' := d - 1) (by omega) (Nat.zero_le _) (Nat.zero_le _) (c_L_told (b := false) (cont_ret ?_))
        rw [show bI false = (nI 0) from rfl]
        refine wp_iadd dL_transact_581 ?_
        refine wp_icmp_ne 635 dL_transact_582 (by decide) (fun c_582 => absurd c_582 (fun z => z (i32_z zb))) (fun c_582 => ?_)
        refine wp_aload_n (i := 0) dL_transact_585 rfl rfl ?_
        refine wp_cV (y' := m_X11_logged) 12 [] [] 6 40 dL_transact_586 ml_L_217 im_X11_logged se_X11_logged (by decide) C5.hk ok_X11_logged rfl (Nat.le_of_ble_eq_true rfl) rfl (Nat.le_of_ble_eq_true rfl) (d' := d - 1) (by omega) (by omega) (by omega) (g_logged B (by omega) C5 (by omega) (by omega) (by omega) (fun h6 C6 F6 => cont_ret ?_))
        have H6 := H5.fk F6
        refine wp_iload (i := 9) dL_transact_589 rfl ?_
        refine wp_icmp_neN 635 dL_transact_591 (by decide) (by omega) (by omega) (fun c_591 => absurd c_591 (by omega)) (fun c_591 => ?_)
        refine wp_iload (i := 7) dL_transact_594 rfl ?_
        refine wp_iconst (nI 4) dL_transact_596 (by decide) ?_
        refine wp_icmp_neN 631 dL_transact_597 (by decide) (by omega) (by decide) (fun c_597 => ?_) (fun c_597 => absurd c_597 (by omega))
        refine wp_iconst (nI 1) dL_transact_631 (by decide) ?_
        refine wp_goto 636 dL_transact_632 (by decide) ?_
        refine wp_zreturn dL_transact_636 rfl (by decide) ?_
        exact hq _ c R _ (by omega) C6 B HI.up HO (by unfold czN; rw [if_neg (by omega)]; omega) (by exact H6)
      · skip
        have q9 : RB (c + 1) (o_read R (nI t) t (nI r) r).2.2 := RB_read B.2.2.2.2.1 (by omega) (ixk (by omega) (by decide)) (ixk (by omega) (by omega))
        have l9 : LFS R (o_read R (nI t) t (nI r) r).2.2 := f_read
        rw [eo] at q9 l9
        have B' : PU (c + 1) V n x S' := B.r q9 l9
        have fl9 : flg S' ≤ flg R + 1 := l9.2
        refine wp_aload_n (i := 0) dL_transact_154 rfl rfl ?_
        refine wp_bipush (nI 10) dL_transact_155 (by decide) ?_
        refine wp_iload (i := 5) dL_transact_157 rfl ?_
        refine wp_iconst (nI 0) dL_transact_159 (by decide) ?_
        refine wp_cSH (y' := m_L_ask) [vr (some (nm 40 0)), vi (nI 10), vi (nI t), vi (nI 0)] [] 6 40 dL_transact_160 ml_L_184 st_L_ask okH_L_ask rfl (Nat.le_of_ble_eq_true rfl) rfl (Nat.le_of_ble_eq_true rfl) (d' := d - 1) (by omega) (by omega) (by omega) (q_sentBack (t := t) (by omega) B (by omega) C (by omega) (by omega) (by omega) (fun h1 C1 F1 => cont_ret ?_))
        rw [r_sentBack] at C1
        rw [show dA [-20002] (o_sentBack R (nI t) t) = zb from by rw [rx_sent ht]; exact ezb]
        have H1 := H.fk F1
        refine wp_istore (i := 8) (lv' := [(8, vi zb), (7, vi (nI w)), (6, vi (nI r)), (5, vi (nI t)), (0, vr (some (nm 40 0))), (1, vr (some nS)), (2, vi (nI i)), (3, vr (some (nm 70 1))), (4, vr (some (nm 70 2)))]) dL_transact_163 (by decide) rfl ?_
        refine wp_aload_n (i := 0) dL_transact_165 rfl rfl ?_
        refine wp_cV (y' := m_X11_logged) 12 [] [] 6 40 dL_transact_166 ml_L_217 im_X11_logged se_X11_logged (by decide) C1.hk ok_X11_logged rfl (Nat.le_of_ble_eq_true rfl) rfl (Nat.le_of_ble_eq_true rfl) (d' := d - 1) (by omega) (by omega) (by omega) (g_logged B (by omega) C1 (by omega) (by omega) (by omega) (fun h2 C2 F2 => cont_ret ?_))
        have H2 := H1.fk F2
        refine wp_istore (i := 9) (lv' := [(9, vi (nI ((RS_lg R).length))), (8, vi zb), (7, vi (nI w)), (6, vi (nI r)), (5, vi (nI t)), (0, vr (some (nm 40 0))), (1, vr (some nS)), (2, vi (nI i)), (3, vr (some (nm 70 1))), (4, vr (some (nm 70 2)))]) dL_transact_169 (by decide) rfl ?_
        refine wp_aload_n (i := 0) dL_transact_171 rfl rfl ?_
        refine wp_cV (y' := m_X11_moment) 12 [] [] 6 40 dL_transact_172 ml_L_214 im_X11_moment se_X11_moment (by decide) C2.hk ok_X11_moment rfl (Nat.le_of_ble_eq_true rfl) rfl (Nat.le_of_ble_eq_true rfl) (d' := d - 1) (by omega) (by omega) (by omega) (g_moment B (by omega) C2 (by omega) (by omega) (by omega) (fun h3 C3 F3 => cont_ret ?_))
        have H3 := H2.fk F3
        refine wp_istore (i := 10) (lv' := [(10, vi (nI (RS_mo R))), (9, vi (nI ((RS_lg R).length))), (8, vi zb), (7, vi (nI w)), (6, vi (nI r)), (5, vi (nI t)), (0, vr (some (nm 40 0))), (1, vr (some nS)), (2, vi (nI i)), (3, vr (some (nm 70 1))), (4, vr (some (nm 70 2)))]) dL_transact_175 (by decide) rfl ?_
        refine wp_iload (i := 7) dL_transact_177 rfl ?_
        refine wp_bipush (nI 6) dL_transact_179 (by decide) ?_
        refine wp_icmp_leN 373 dL_transact_181 (by decide) (by omega) (by decide) (fun c_181 => ?_) (fun c_181 => absurd c_181 (by omega))
        refine wp_iload (i := 7) dL_transact_373 rfl ?_
        refine wp_iconst (nI 3) dL_transact_375 (by decide) ?_
        refine wp_icmp_neN 393 dL_transact_376 (by decide) (by omega) (by decide) (fun c_376 => absurd c_376 (by omega)) (fun c_376 => ?_)
        refine wp_aload_n (i := 0) dL_transact_379 rfl rfl ?_
        refine wp_bipush (nI 18) dL_transact_380 (by decide) ?_
        refine wp_iload (i := 5) dL_transact_382 rfl ?_
        refine wp_iload (i := 6) dL_transact_384 rfl ?_
        refine wp_iconst (nI 0) dL_transact_386 (by decide) ?_
        refine wp_cSH (y' := m_L_deed) [vr (some (nm 40 0)), vi (nI 18), vi (nI t), vi (nI r), vi (nI 0)] [] 6 40 dL_transact_387 ml_L_191 st_L_deed okH_L_deed rfl (Nat.le_of_ble_eq_true rfl) rfl (Nat.le_of_ble_eq_true rfl) (d' := d - 1) (by omega) (by omega) (by omega) (e_read (t := t) (by omega) (r := r) (by omega) B (by omega) C3 (by omega) (by omega) (by omega) (fun h4 C4 F4 => cont_ret ?_))
        rw [eo] at C4
        rw [show dA [-20002, -20001, -20003] (o_read R (nI t) t (nI r) r) = -10000 from by rw [eo]; rfl]
        have H4 := H3.fk F4
        refine wp_goto 464 dL_transact_390 (by decide) ?_
        refine wp_istore (i := 11) (lv' := [(11, vi (-10000)), (10, vi (nI (RS_mo R))), (9, vi (nI ((RS_lg R).length))), (8, vi zb), (7, vi (nI w)), (6, vi (nI r)), (5, vi (nI t)), (0, vr (some (nm 40 0))), (1, vr (some nS)), (2, vi (nI i)), (3, vr (some (nm 70 1))), (4, vr (some (nm 70 2)))]) dL_transact_464 (by decide) rfl ?_
        refine wp_iload (i := 6) dL_transact_466 rfl ?_
        refine wp_aload_n (i := 3) dL_transact_468 rfl rfl ?_
        refine wp_iconst (nI 2) dL_transact_469 (by decide) ?_
        refine wp_ialoadN 3 (nI (RS_rn R)) dL_transact_470 H4.2.2.2.1.1 H4.2.2.2.1.2.1 (by decide) (by decide) (H4.2.2.2.1.2.2.2.2) ?_
        refine wp_icmp_ltN 488 dL_transact_471 (by decide) (by omega) (by omega) (fun c_471 => ?_) (fun c_471 => absurd c_471 (by omega))
        refine wp_aload (i := 4) dL_transact_488 rfl ?_
        refine wp_iload (i := 5) dL_transact_490 rfl ?_
        refine wp_zaloadN 3 (bI (op t)) dL_transact_492 H4.2.2.2.2.1.1 H4.2.2.2.2.1.2.1 (by omega) (by decide) (H4.2.2.2.2.1.2.2 t ht) ?_
        refine wp_if_neB 510 dL_transact_493 (by decide) (fun c_493 => ?_) (fun c_493 => absurd c_493 (by rw [hopn]; decide))
        refine wp_iload (i := 7) dL_transact_510 rfl ?_
        refine wp_iconst (nI 3) dL_transact_512 (by decide) ?_
        refine wp_icmp_neN 532 dL_transact_513 (by decide) (by omega) (by decide) (fun c_513 => absurd c_513 (by omega)) (fun c_513 => ?_)
        refine wp_iload (i := 11) dL_transact_516 rfl ?_
        refine wp_sipush (-10000) dL_transact_518 (by decide) ?_
        refine wp_icmp_ne 528 dL_transact_521 (by decide) (fun c_521 => absurd c_521 (fun z => z rfl)) (fun c_521 => ?_)
        refine wp_iconst (nI 1) dL_transact_524 (by decide) ?_
        refine wp_goto 542 dL_transact_525 (by decide) ?_
        refine wp_istore (i := 12) (lv' := [(12, vi (nI 1)), (11, vi (-10000)), (10, vi (nI (RS_mo R))), (9, vi (nI ((RS_lg R).length))), (8, vi zb), (7, vi (nI w)), (6, vi (nI r)), (5, vi (nI t)), (0, vr (some (nm 40 0))), (1, vr (some nS)), (2, vi (nI i)), (3, vr (some (nm 70 1))), (4, vr (some (nm 70 2)))]) dL_transact_542 (by decide) rfl ?_
        refine wp_iload (i := 11) dL_transact_544 rfl ?_
        refine wp_sipush (-20004) dL_transact_546 (by decide) ?_
        refine wp_icmp_ne 565 dL_transact_549 (by decide) (fun c_549 => ?_) (fun c_549 => absurd c_549 (by decide))
        refine wp_aload_n (i := 0) dL_transact_565 rfl rfl ?_
        refine wp_bipush (nI 10) dL_transact_566 (by decide) ?_
        refine wp_iload (i := 5) dL_transact_568 rfl ?_
        refine wp_iconst (nI 0) dL_transact_570 (by decide) ?_
        refine wp_cSH (y' := m_L_ask) [vr (some (nm 40 0)), vi (nI 10), vi (nI t), vi (nI 0)] [] 6 40 dL_transact_571 ml_L_184 st_L_ask okH_L_ask rfl (Nat.le_of_ble_eq_true rfl) rfl (Nat.le_of_ble_eq_true rfl) (d' := d - 1) (by omega) (by omega) (by omega) (q_sentBack (t := t) (by omega) B' (by omega) C4 (by omega) (by omega) (by omega) (fun h5 C5 F5 => cont_ret ?_))
        rw [r_sentBack] at C5
        rw [show dA [-20002] (o_sentBack S' (nI t) t) = zb + nI 1 from by rw [rx_sent ht]; show nI (OT_bk (RS_tt S' t)) = zb + nI 1; rw [bk, ← nI_add, ezb]]
        have H5 := H4.fk F5
        refine wp_iload (i := 8) dL_transact_574 rfl ?_
        refine wp_iload (i := 12) dL_transact_576 rfl ?_
        refine wp_cS (y' := m_L_told) [vi (bI true)] [vi zb, vi (zb + nI 1)] 0 0 dL_transact_578 ml_L_83 st_L_told ok_L_told rfl (Nat.le_of_ble_eq_true rfl) rfl (Nat.le_of_ble_eq_true rfl) (d' := d - 1) (by omega) (Nat.zero_le _) (Nat.zero_le _) (c_L_told (b := true) (cont_ret ?_))
        rw [show bI true = (nI 1) from rfl]
        refine wp_iadd dL_transact_581 ?_
        refine wp_icmp_ne 635 dL_transact_582 (by decide) (fun c_582 => absurd c_582 (fun z => z rfl)) (fun c_582 => ?_)
        refine wp_aload_n (i := 0) dL_transact_585 rfl rfl ?_
        refine wp_cV (y' := m_X11_logged) 12 [] [] 6 40 dL_transact_586 ml_L_217 im_X11_logged se_X11_logged (by decide) C5.hk ok_X11_logged rfl (Nat.le_of_ble_eq_true rfl) rfl (Nat.le_of_ble_eq_true rfl) (d' := d - 1) (by omega) (by omega) (by omega) (g_logged B' (by omega) C5 (by omega) (by omega) (by omega) (fun h6 C6 F6 => cont_ret ?_))
        rw [sam.1]
        have H6 := H5.fk F6
        refine wp_iload (i := 9) dL_transact_589 rfl ?_
        refine wp_icmp_neN 635 dL_transact_591 (by decide) (by omega) (by omega) (fun c_591 => absurd c_591 (by omega)) (fun c_591 => ?_)
        refine wp_iload (i := 7) dL_transact_594 rfl ?_
        refine wp_iconst (nI 4) dL_transact_596 (by decide) ?_
        refine wp_icmp_neN 631 dL_transact_597 (by decide) (by omega) (by decide) (fun c_597 => ?_) (fun c_597 => absurd c_597 (by omega))
        refine wp_iconst (nI 1) dL_transact_631 (by decide) ?_
        refine wp_goto 636 dL_transact_632 (by decide) ?_
        refine wp_zreturn dL_transact_636 rfl (by decide) ?_
        exact hq _ (c + 1) S' _ (by omega) C6 B' ri (HO.same so) (by unfold czN; rw [if_neg (by omega)]; omega) (by rw [sam.2.2]; exact H6)
  · have eo := (rx_idx (y := nI 0) ht (Nat.le_of_not_lt hrn) hr).1
    refine wp_aload_n (i := 0) dL_transact_154 rfl rfl ?_
    refine wp_bipush (nI 10) dL_transact_155 (by decide) ?_
    refine wp_iload (i := 5) dL_transact_157 rfl ?_
    refine wp_iconst (nI 0) dL_transact_159 (by decide) ?_
    refine wp_cSH (y' := m_L_ask) [vr (some (nm 40 0)), vi (nI 10), vi (nI t), vi (nI 0)] [] 6 40 dL_transact_160 ml_L_184 st_L_ask okH_L_ask rfl (Nat.le_of_ble_eq_true rfl) rfl (Nat.le_of_ble_eq_true rfl) (d' := d - 1) (by omega) (by omega) (by omega) (q_sentBack (t := t) (by omega) B (by omega) C (by omega) (by omega) (by omega) (fun h1 C1 F1 => cont_ret ?_))
    rw [r_sentBack] at C1
    rw [show dA [-20002] (o_sentBack R (nI t) t) = zb from by rw [rx_sent ht]; exact ezb]
    have H1 := H.fk F1
    refine wp_istore (i := 8) (lv' := [(8, vi zb), (7, vi (nI w)), (6, vi (nI r)), (5, vi (nI t)), (0, vr (some (nm 40 0))), (1, vr (some nS)), (2, vi (nI i)), (3, vr (some (nm 70 1))), (4, vr (some (nm 70 2)))]) dL_transact_163 (by decide) rfl ?_
    refine wp_aload_n (i := 0) dL_transact_165 rfl rfl ?_
    refine wp_cV (y' := m_X11_logged) 12 [] [] 6 40 dL_transact_166 ml_L_217 im_X11_logged se_X11_logged (by decide) C1.hk ok_X11_logged rfl (Nat.le_of_ble_eq_true rfl) rfl (Nat.le_of_ble_eq_true rfl) (d' := d - 1) (by omega) (by omega) (by omega) (g_logged B (by omega) C1 (by omega) (by omega) (by omega) (fun h2 C2 F2 => cont_ret ?_))
    have H2 := H1.fk F2
    refine wp_istore (i := 9) (lv' := [(9, vi (nI ((RS_lg R).length))), (8, vi zb), (7, vi (nI w)), (6, vi (nI r)), (5, vi (nI t)), (0, vr (some (nm 40 0))), (1, vr (some nS)), (2, vi (nI i)), (3, vr (some (nm 70 1))), (4, vr (some (nm 70 2)))]) dL_transact_169 (by decide) rfl ?_
    refine wp_aload_n (i := 0) dL_transact_171 rfl rfl ?_
    refine wp_cV (y' := m_X11_moment) 12 [] [] 6 40 dL_transact_172 ml_L_214 im_X11_moment se_X11_moment (by decide) C2.hk ok_X11_moment rfl (Nat.le_of_ble_eq_true rfl) rfl (Nat.le_of_ble_eq_true rfl) (d' := d - 1) (by omega) (by omega) (by omega) (g_moment B (by omega) C2 (by omega) (by omega) (by omega) (fun h3 C3 F3 => cont_ret ?_))
    have H3 := H2.fk F3
    refine wp_istore (i := 10) (lv' := [(10, vi (nI (RS_mo R))), (9, vi (nI ((RS_lg R).length))), (8, vi zb), (7, vi (nI w)), (6, vi (nI r)), (5, vi (nI t)), (0, vr (some (nm 40 0))), (1, vr (some nS)), (2, vi (nI i)), (3, vr (some (nm 70 1))), (4, vr (some (nm 70 2)))]) dL_transact_175 (by decide) rfl ?_
    refine wp_iload (i := 7) dL_transact_177 rfl ?_
    refine wp_bipush (nI 6) dL_transact_179 (by decide) ?_
    refine wp_icmp_leN 373 dL_transact_181 (by decide) (by omega) (by decide) (fun c_181 => ?_) (fun c_181 => absurd c_181 (by omega))
    refine wp_iload (i := 7) dL_transact_373 rfl ?_
    refine wp_iconst (nI 3) dL_transact_375 (by decide) ?_
    refine wp_icmp_neN 393 dL_transact_376 (by decide) (by omega) (by decide) (fun c_376 => absurd c_376 (by omega)) (fun c_376 => ?_)
    refine wp_aload_n (i := 0) dL_transact_379 rfl rfl ?_
    refine wp_bipush (nI 18) dL_transact_380 (by decide) ?_
    refine wp_iload (i := 5) dL_transact_382 rfl ?_
    refine wp_iload (i := 6) dL_transact_384 rfl ?_
    refine wp_iconst (nI 0) dL_transact_386 (by decide) ?_
    refine wp_cSH (y' := m_L_deed) [vr (some (nm 40 0)), vi (nI 18), vi (nI t), vi (nI r), vi (nI 0)] [] 6 40 dL_transact_387 ml_L_191 st_L_deed okH_L_deed rfl (Nat.le_of_ble_eq_true rfl) rfl (Nat.le_of_ble_eq_true rfl) (d' := d - 1) (by omega) (by omega) (by omega) (e_read (t := t) (by omega) (r := r) (by omega) B (by omega) C3 (by omega) (by omega) (by omega) (fun h4 C4 F4 => cont_ret ?_))
    rw [eo] at C4
    rw [show dA [-20002, -20001, -20003] (o_read R (nI t) t (nI r) r) = -20001 from by rw [eo]; rfl]
    have H4 := H3.fk F4
    refine wp_goto 464 dL_transact_390 (by decide) ?_
    refine wp_istore (i := 11) (lv' := [(11, vi (-20001)), (10, vi (nI (RS_mo R))), (9, vi (nI ((RS_lg R).length))), (8, vi zb), (7, vi (nI w)), (6, vi (nI r)), (5, vi (nI t)), (0, vr (some (nm 40 0))), (1, vr (some nS)), (2, vi (nI i)), (3, vr (some (nm 70 1))), (4, vr (some (nm 70 2)))]) dL_transact_464 (by decide) rfl ?_
    refine wp_iload (i := 6) dL_transact_466 rfl ?_
    refine wp_aload_n (i := 3) dL_transact_468 rfl rfl ?_
    refine wp_iconst (nI 2) dL_transact_469 (by decide) ?_
    refine wp_ialoadN 3 (nI (RS_rn R)) dL_transact_470 H4.2.2.2.1.1 H4.2.2.2.1.2.1 (by decide) (by decide) (H4.2.2.2.1.2.2.2.2) ?_
    refine wp_icmp_ltN 488 dL_transact_471 (by decide) (by omega) (by omega) (fun c_471 => absurd c_471 (by omega)) (fun c_471 => ?_)
    refine wp_iload (i := 11) dL_transact_474 rfl ?_
    refine wp_sipush (-20001) dL_transact_476 (by decide) ?_
    refine wp_icmp_ne 486 dL_transact_479 (by decide) (fun c_479 => absurd c_479 (fun z => z rfl)) (fun c_479 => ?_)
    refine wp_iconst (nI 1) dL_transact_482 (by decide) ?_
    refine wp_goto 487 dL_transact_483 (by decide) ?_
    refine wp_zreturn dL_transact_487 rfl (by decide) ?_
    exact hq _ c R _ (by omega) C4 B HI.up HO (by unfold czN; rw [if_neg (by omega)]; omega) (by exact H4)
set_option maxRecDepth 100000 in
set_option maxHeartbeats 4000000 in
theorem l_tr_write {G : GG} {d c n k : Nat} {Q : Pst} {V : SV} {x : Nat → QIS} {R : RS} {K J i w t r : Nat} {ro : Nat → Nat} {rf : Nat → Nat → Int32} {op : Nat → Bool} (B : PU c V n x R) (hc : c + 4 ≤ 512) (hk : k < 110) (HI : RI k R) (HO : OPI op R) (ht : t < 3) (hr : r < 6) (hw : w < 9) (hd : 40 ≤ d) (hL : slen G < 2 ^ 31) (hi : i + 200 < 2 ^ 31) {h : Hp} {M bc bs : Nat} (C : CLS h V M n x R) (H : LWH h (sNv V) n (RS_rn R) ro rf K J op) (hbc : 150 ≤ bc) (hbs : 1500 + 1100 * czN w t R ≤ bs) (hq : ∀ h' c' R' op', c' ≤ c + 4 → CLS h' V M n x R' → PU c' V n x R' → RI (k + 1) R' → OPI op' R' → flg R' + czN w t R ≤ flg R + 2 → LWH h' (sNv V) n (RS_rn R') ro rf K J op' → Q (oRet (vi (nI 1))) h') (hw2 : w = 4) : WP G m_L_transact d 154 [(7, vi (nI w)), (6, vi (nI r)), (5, vi (nI t)), (0, vr (some (nm 40 0))), (1, vr (some nS)), (2, vi (nI i)), (3, vr (some (nm 70 1))), (4, vr (some (nm 70 2)))] [] h bc bs Q := by
  have h6 : RS_rn R ≤ 6 := B.2.2.2.2.1.1.2.1
  have hmo : RS_mo R ≤ c := B.2.2.2.2.1.1.2.2.2.1
  have hlg : (RS_lg R).length ≤ 6 * c := B.2.2.2.2.1.1.2.2.2.2.2.1
  obtain ⟨zb, ezb⟩ : ∃ z, nI (OT_bk (RS_tt R t)) = z := ⟨_, rfl⟩
  have hbk := (HI.1 t ht).1.1
  by_cases hrn : r < RS_rn R
  · cases hop : OT_op (RS_tt R t) with
    | false =>
      have hopn : op t = false := (HO t ht).trans hop
      have eo := (rx_shut (y := (nI (pkV G (i + 3) 21) - nI 10)) ht h6 hrn hop).2.1
      refine wp_aload_n (i := 0) dL_transact_154 rfl rfl ?_
      refine wp_bipush (nI 10) dL_transact_155 (by decide) ?_
      refine wp_iload (i := 5) dL_transact_157 rfl ?_
      refine wp_iconst (nI 0) dL_transact_159 (by decide) ?_
      refine wp_cSH (y' := m_L_ask) [vr (some (nm 40 0)), vi (nI 10), vi (nI t), vi (nI 0)] [] 6 40 dL_transact_160 ml_L_184 st_L_ask okH_L_ask rfl (Nat.le_of_ble_eq_true rfl) rfl (Nat.le_of_ble_eq_true rfl) (d' := d - 1) (by omega) (by omega) (by omega) (q_sentBack (t := t) (by omega) B (by omega) C (by omega) (by omega) (by omega) (fun h1 C1 F1 => cont_ret ?_))
      rw [r_sentBack] at C1
      rw [show dA [-20002] (o_sentBack R (nI t) t) = zb from by rw [rx_sent ht]; exact ezb]
      have H1 := H.fk F1
      refine wp_istore (i := 8) (lv' := [(8, vi zb), (7, vi (nI w)), (6, vi (nI r)), (5, vi (nI t)), (0, vr (some (nm 40 0))), (1, vr (some nS)), (2, vi (nI i)), (3, vr (some (nm 70 1))), (4, vr (some (nm 70 2)))]) dL_transact_163 (by decide) rfl ?_
      refine wp_aload_n (i := 0) dL_transact_165 rfl rfl ?_
      refine wp_cV (y' := m_X11_logged) 12 [] [] 6 40 dL_transact_166 ml_L_217 im_X11_logged se_X11_logged (by decide) C1.hk ok_X11_logged rfl (Nat.le_of_ble_eq_true rfl) rfl (Nat.le_of_ble_eq_true rfl) (d' := d - 1) (by omega) (by omega) (by omega) (g_logged B (by omega) C1 (by omega) (by omega) (by omega) (fun h2 C2 F2 => cont_ret ?_))
      have H2 := H1.fk F2
      refine wp_istore (i := 9) (lv' := [(9, vi (nI ((RS_lg R).length))), (8, vi zb), (7, vi (nI w)), (6, vi (nI r)), (5, vi (nI t)), (0, vr (some (nm 40 0))), (1, vr (some nS)), (2, vi (nI i)), (3, vr (some (nm 70 1))), (4, vr (some (nm 70 2)))]) dL_transact_169 (by decide) rfl ?_
      refine wp_aload_n (i := 0) dL_transact_171 rfl rfl ?_
      refine wp_cV (y' := m_X11_moment) 12 [] [] 6 40 dL_transact_172 ml_L_214 im_X11_moment se_X11_moment (by decide) C2.hk ok_X11_moment rfl (Nat.le_of_ble_eq_true rfl) rfl (Nat.le_of_ble_eq_true rfl) (d' := d - 1) (by omega) (by omega) (by omega) (g_moment B (by omega) C2 (by omega) (by omega) (by omega) (fun h3 C3 F3 => cont_ret ?_))
      have H3 := H2.fk F3
      refine wp_istore (i := 10) (lv' := [(10, vi (nI (RS_mo R))), (9, vi (nI ((RS_lg R).length))), (8, vi zb), (7, vi (nI w)), (6, vi (nI r)), (5, vi (nI t)), (0, vr (some (nm 40 0))), (1, vr (some nS)), (2, vi (nI i)), (3, vr (some (nm 70 1))), (4, vr (some (nm 70 2)))]) dL_transact_175 (by decide) rfl ?_
      refine wp_iload (i := 7) dL_transact_177 rfl ?_
      refine wp_bipush (nI 6) dL_transact_179 (by decide) ?_
      refine wp_icmp_leN 373 dL_transact_181 (by decide) (by omega) (by decide) (fun c_181 => ?_) (fun c_181 => absurd c_181 (by omega))
      refine wp_iload (i := 7) dL_transact_373 rfl ?_
      refine wp_iconst (nI 3) dL_transact_375 (by decide) ?_
      refine wp_icmp_neN 393 dL_transact_376 (by decide) (by omega) (by decide) (fun c_376 => ?_) (fun c_376 => absurd c_376 (by omega))
      refine wp_iload (i := 7) dL_transact_393 rfl ?_
      refine wp_iconst (nI 4) dL_transact_395 (by decide) ?_
      refine wp_icmp_neN 424 dL_transact_396 (by decide) (by omega) (by decide) (fun c_396 => absurd c_396 (by omega)) (fun c_396 => ?_)
      refine wp_aload_n (i := 0) dL_transact_399 rfl rfl ?_
      refine wp_bipush (nI 19) dL_transact_400 (by decide) ?_
      refine wp_iload (i := 5) dL_transact_402 rfl ?_
      refine wp_iload (i := 6) dL_transact_404 rfl ?_
      refine wp_aload_n (i := 1) dL_transact_406 rfl rfl ?_
      refine wp_iload_n (i := 2) dL_transact_407 rfl rfl ?_
      refine wp_iconst (nI 3) dL_transact_408 (by decide) ?_
      refine wp_iaddN dL_transact_409 ?_
      refine wp_bipush (nI 21) dL_transact_410 (by decide) ?_
      refine wp_cS (y' := m_L_pick) [vr (some nS), vi (nI (i + 3)), vi (nI 21)] [vi (nI r), vi (nI t), vi (nI 19), vr (some (nm 40 0))] 0 0 dL_transact_412 ml_L_199 st_L_pick ok_L_pick rfl (Nat.le_of_ble_eq_true rfl) rfl (Nat.le_of_ble_eq_true rfl) (d' := d - 1) (by omega) (Nat.zero_le _) (Nat.zero_le _) (c_L_pick (by omega) (by decide) (by omega) hL (by omega) (cont_ret ?_))
      refine wp_bipush (nI 10) dL_transact_415 (by decide) ?_
      refine wp_isub dL_transact_417 ?_
      refine wp_cSH (y' := m_L_deed) [vr (some (nm 40 0)), vi (nI 19), vi (nI t), vi (nI r), vi ((nI (pkV G (i + 3) 21)) - (nI 10))] [] 6 40 dL_transact_418 ml_L_191 st_L_deed okH_L_deed rfl (Nat.le_of_ble_eq_true rfl) rfl (Nat.le_of_ble_eq_true rfl) (d' := d - 1) (by omega) (by omega) (by omega) (e_write (t := t) (by omega) (r := r) (by omega) B (by omega) C3 (by omega) (by omega) (by omega) (fun h4 C4 F4 => cont_ret ?_))
      rw [eo] at C4
      rw [show dA [-20002, -20001, -20003, -20004] (o_write R (nI t) t (nI r) r (nI (pkV G (i + 3) 21) - nI 10)) = -20003 from by rw [eo]; rfl]
      have H4 := H3.fk F4
      refine wp_goto 464 dL_transact_421 (by decide) ?_
      refine wp_istore (i := 11) (lv' := [(11, vi (-20003)), (10, vi (nI (RS_mo R))), (9, vi (nI ((RS_lg R).length))), (8, vi zb), (7, vi (nI w)), (6, vi (nI r)), (5, vi (nI t)), (0, vr (some (nm 40 0))), (1, vr (some nS)), (2, vi (nI i)), (3, vr (some (nm 70 1))), (4, vr (some (nm 70 2)))]) dL_transact_464 (by decide) rfl ?_
      refine wp_iload (i := 6) dL_transact_466 rfl ?_
      refine wp_aload_n (i := 3) dL_transact_468 rfl rfl ?_
      refine wp_iconst (nI 2) dL_transact_469 (by decide) ?_
      refine wp_ialoadN 3 (nI (RS_rn R)) dL_transact_470 H4.2.2.2.1.1 H4.2.2.2.1.2.1 (by decide) (by decide) (H4.2.2.2.1.2.2.2.2) ?_
      refine wp_icmp_ltN 488 dL_transact_471 (by decide) (by omega) (by omega) (fun c_471 => ?_) (fun c_471 => absurd c_471 (by omega))
      refine wp_aload (i := 4) dL_transact_488 rfl ?_
      refine wp_iload (i := 5) dL_transact_490 rfl ?_
      refine wp_zaloadN 3 (bI (op t)) dL_transact_492 H4.2.2.2.2.1.1 H4.2.2.2.2.1.2.1 (by omega) (by decide) (H4.2.2.2.2.1.2.2 t ht) ?_
      refine wp_if_neB 510 dL_transact_493 (by decide) (fun c_493 => absurd c_493 (by rw [hopn]; decide)) (fun c_493 => ?_)
      refine wp_iload (i := 11) dL_transact_496 rfl ?_
      refine wp_sipush (-20003) dL_transact_498 (by decide) ?_
      refine wp_icmp_ne 508 dL_transact_501 (by decide) (fun c_501 => absurd c_501 (fun z => z rfl)) (fun c_501 => ?_)
      refine wp_iconst (nI 1) dL_transact_504 (by decide) ?_
      refine wp_goto 509 dL_transact_505 (by decide) ?_
      refine wp_zreturn dL_transact_509 rfl (by decide) ?_
      exact hq _ c R _ (by omega) C4 B HI.up HO (by unfold czN; rw [if_neg (by omega)]; omega) (by exact H4)
    | true =>
      have hopn : op t = true := (HO t ht).trans hop
      rcases rx_write (y := (nI (pkV G (i + 3) 21) - nI 10)) ht h6 hrn hop HI with eo | ⟨S', eo, ri, so, sam, bk⟩ | ⟨S', eo, ri, so, sam, bk, eo2⟩
      · skip
        refine wp_aload_n (i := 0) dL_transact_154 rfl rfl ?_
        refine wp_bipush (nI 10) dL_transact_155 (by decide) ?_
        refine wp_iload (i := 5) dL_transact_157 rfl ?_
        refine wp_iconst (nI 0) dL_transact_159 (by decide) ?_
        refine wp_cSH (y' := m_L_ask) [vr (some (nm 40 0)), vi (nI 10), vi (nI t), vi (nI 0)] [] 6 40 dL_transact_160 ml_L_184 st_L_ask okH_L_ask rfl (Nat.le_of_ble_eq_true rfl) rfl (Nat.le_of_ble_eq_true rfl) (d' := d - 1) (by omega) (by omega) (by omega) (q_sentBack (t := t) (by omega) B (by omega) C (by omega) (by omega) (by omega) (fun h1 C1 F1 => cont_ret ?_))
        rw [r_sentBack] at C1
        rw [show dA [-20002] (o_sentBack R (nI t) t) = zb from by rw [rx_sent ht]; exact ezb]
        have H1 := H.fk F1
        refine wp_istore (i := 8) (lv' := [(8, vi zb), (7, vi (nI w)), (6, vi (nI r)), (5, vi (nI t)), (0, vr (some (nm 40 0))), (1, vr (some nS)), (2, vi (nI i)), (3, vr (some (nm 70 1))), (4, vr (some (nm 70 2)))]) dL_transact_163 (by decide) rfl ?_
        refine wp_aload_n (i := 0) dL_transact_165 rfl rfl ?_
        refine wp_cV (y' := m_X11_logged) 12 [] [] 6 40 dL_transact_166 ml_L_217 im_X11_logged se_X11_logged (by decide) C1.hk ok_X11_logged rfl (Nat.le_of_ble_eq_true rfl) rfl (Nat.le_of_ble_eq_true rfl) (d' := d - 1) (by omega) (by omega) (by omega) (g_logged B (by omega) C1 (by omega) (by omega) (by omega) (fun h2 C2 F2 => cont_ret ?_))
        have H2 := H1.fk F2
        refine wp_istore (i := 9) (lv' := [(9, vi (nI ((RS_lg R).length))), (8, vi zb), (7, vi (nI w)), (6, vi (nI r)), (5, vi (nI t)), (0, vr (some (nm 40 0))), (1, vr (some nS)), (2, vi (nI i)), (3, vr (some (nm 70 1))), (4, vr (some (nm 70 2)))]) dL_transact_169 (by decide) rfl ?_
        refine wp_aload_n (i := 0) dL_transact_171 rfl rfl ?_
        refine wp_cV (y' := m_X11_moment) 12 [] [] 6 40 dL_transact_172 ml_L_214 im_X11_moment se_X11_moment (by decide) C2.hk ok_X11_moment rfl (Nat.le_of_ble_eq_true rfl) rfl (Nat.le_of_ble_eq_true rfl) (d' := d - 1) (by omega) (by omega) (by omega) (g_moment B (by omega) C2 (by omega) (by omega) (by omega) (fun h3 C3 F3 => cont_ret ?_))
        have H3 := H2.fk F3
        refine wp_istore (i := 10) (lv' := [(10, vi (nI (RS_mo R))), (9, vi (nI ((RS_lg R).length))), (8, vi zb), (7, vi (nI w)), (6, vi (nI r)), (5, vi (nI t)), (0, vr (some (nm 40 0))), (1, vr (some nS)), (2, vi (nI i)), (3, vr (some (nm 70 1))), (4, vr (some (nm 70 2)))]) dL_transact_175 (by decide) rfl ?_
        refine wp_iload (i := 7) dL_transact_177 rfl ?_
        refine wp_bipush (nI 6) dL_transact_179 (by decide) ?_
        refine wp_icmp_leN 373 dL_transact_181 (by decide) (by omega) (by decide) (fun c_181 => ?_) (fun c_181 => absurd c_181 (by omega))
        refine wp_iload (i := 7) dL_transact_373 rfl ?_
        refine wp_iconst (nI 3) dL_transact_375 (by decide) ?_
        refine wp_icmp_neN 393 dL_transact_376 (by decide) (by omega) (by decide) (fun c_376 => ?_) (fun c_376 => absurd c_376 (by omega))
        refine wp_iload (i := 7) dL_transact_393 rfl ?_
        refine wp_iconst (nI 4) dL_transact_395 (by decide) ?_
        refine wp_icmp_neN 424 dL_transact_396 (by decide) (by omega) (by decide) (fun c_396 => absurd c_396 (by omega)) (fun c_396 => ?_)
        refine wp_aload_n (i := 0) dL_transact_399 rfl rfl ?_
        refine wp_bipush (nI 19) dL_transact_400 (by decide) ?_
        refine wp_iload (i := 5) dL_transact_402 rfl ?_
        refine wp_iload (i := 6) dL_transact_404 rfl ?_
        refine wp_aload_n (i := 1) dL_transact_406 rfl rfl ?_
        refine wp_iload_n (i := 2) dL_transact_407 rfl rfl ?_
        refine wp_iconst (nI 3) dL_transact_408 (by decide) ?_
        refine wp_iaddN dL_transact_409 ?_
        refine wp_bipush (nI 21) dL_transact_410 (by decide) ?_
        refine wp_cS (y' := m_L_pick) [vr (some nS), vi (nI (i + 3)), vi (nI 21)] [vi (nI r), vi (nI t), vi (nI 19), vr (some (nm 40 0))] 0 0 dL_transact_412 ml_L_199 st_L_pick ok_L_pick rfl (Nat.le_of_ble_eq_true rfl) rfl (Nat.le_of_ble_eq_true rfl) (d' := d - 1) (by omega) (Nat.zero_le _) (Nat.zero_le _) (c_L_pick (by omega) (by decide) (by omega) hL (by omega) (cont_ret ?_))
        refine wp_bipush (nI 10) dL_transact_415 (by decide) ?_
        refine wp_isub dL_transact_417 ?_
        refine wp_cSH (y' := m_L_deed) [vr (some (nm 40 0)), vi (nI 19), vi (nI t), vi (nI r), vi ((nI (pkV G (i + 3) 21)) - (nI 10))] [] 6 40 dL_transact_418 ml_L_191 st_L_deed okH_L_deed rfl (Nat.le_of_ble_eq_true rfl) rfl (Nat.le_of_ble_eq_true rfl) (d' := d - 1) (by omega) (by omega) (by omega) (e_write (t := t) (by omega) (r := r) (by omega) B (by omega) C3 (by omega) (by omega) (by omega) (fun h4 C4 F4 => cont_ret ?_))
        rw [eo] at C4
        rw [show dA [-20002, -20001, -20003, -20004] (o_write R (nI t) t (nI r) r (nI (pkV G (i + 3) 21) - nI 10)) = -20004 from by rw [eo]; rfl]
        have H4 := H3.fk F4
        refine wp_goto 464 dL_transact_421 (by decide) ?_
        refine wp_istore (i := 11) (lv' := [(11, vi (-20004)), (10, vi (nI (RS_mo R))), (9, vi (nI ((RS_lg R).length))), (8, vi zb), (7, vi (nI w)), (6, vi (nI r)), (5, vi (nI t)), (0, vr (some (nm 40 0))), (1, vr (some nS)), (2, vi (nI i)), (3, vr (some (nm 70 1))), (4, vr (some (nm 70 2)))]) dL_transact_464 (by decide) rfl ?_
        refine wp_iload (i := 6) dL_transact_466 rfl ?_
        refine wp_aload_n (i := 3) dL_transact_468 rfl rfl ?_
        refine wp_iconst (nI 2) dL_transact_469 (by decide) ?_
        refine wp_ialoadN 3 (nI (RS_rn R)) dL_transact_470 H4.2.2.2.1.1 H4.2.2.2.1.2.1 (by decide) (by decide) (H4.2.2.2.1.2.2.2.2) ?_
        refine wp_icmp_ltN 488 dL_transact_471 (by decide) (by omega) (by omega) (fun c_471 => ?_) (fun c_471 => absurd c_471 (by omega))
        refine wp_aload (i := 4) dL_transact_488 rfl ?_
        refine wp_iload (i := 5) dL_transact_490 rfl ?_
        refine wp_zaloadN 3 (bI (op t)) dL_transact_492 H4.2.2.2.2.1.1 H4.2.2.2.2.1.2.1 (by omega) (by decide) (H4.2.2.2.2.1.2.2 t ht) ?_
        refine wp_if_neB 510 dL_transact_493 (by decide) (fun c_493 => ?_) (fun c_493 => absurd c_493 (by rw [hopn]; decide))
        refine wp_iload (i := 7) dL_transact_510 rfl ?_
        refine wp_iconst (nI 3) dL_transact_512 (by decide) ?_
        refine wp_icmp_neN 532 dL_transact_513 (by decide) (by omega) (by decide) (fun c_513 => ?_) (fun c_513 => absurd c_513 (by omega))
        refine wp_iload (i := 11) dL_transact_532 rfl ?_
        refine wp_if_ne 541 dL_transact_534 (by decide) (fun c_534 => ?_) (fun c_534 => absurd c_534 (by decide))
        refine wp_iconst (nI 0) dL_transact_541 (by decide) ?_
        refine wp_istore (i := 12) (lv' := [(12, vi (nI 0)), (11, vi (-20004)), (10, vi (nI (RS_mo R))), (9, vi (nI ((RS_lg R).length))), (8, vi zb), (7, vi (nI w)), (6, vi (nI r)), (5, vi (nI t)), (0, vr (some (nm 40 0))), (1, vr (some nS)), (2, vi (nI i)), (3, vr (some (nm 70 1))), (4, vr (some (nm 70 2)))]) dL_transact_542 (by decide) rfl ?_
        refine wp_iload (i := 11) dL_transact_544 rfl ?_
        refine wp_sipush (-20004) dL_transact_546 (by decide) ?_
        refine wp_icmp_ne 565 dL_transact_549 (by decide) (fun c_549 => absurd c_549 (fun z => z rfl)) (fun c_549 => ?_)
        refine wp_iload (i := 7) dL_transact_552 rfl ?_
        refine wp_iconst (nI 4) dL_transact_554 (by decide) ?_
        refine wp_icmp_eqN 631 dL_transact_555 (by decide) (by omega) (by decide) (fun c_555 => ?_) (fun c_555 => absurd c_555 (by omega))
        refine wp_iconst (nI 1) dL_transact_631 (by decide) ?_
        refine wp_goto 636 dL_transact_632 (by decide) ?_
        refine wp_zreturn dL_transact_636 rfl (by decide) ?_
        exact hq _ c R _ (by omega) C4 B HI.up HO (by unfold czN; rw [if_neg (by omega)]; omega) (by exact H4)
      · skip
        have q9 : RB (c + 1) (o_write R (nI t) t (nI r) r (nI (pkV G (i + 3) 21) - nI 10)).2.2 := RB_write B.2.2.2.2.1 (by omega) (ixk (by omega) (by decide))
        have l9 : LFS R (o_write R (nI t) t (nI r) r (nI (pkV G (i + 3) 21) - nI 10)).2.2 := f_write
        rw [eo] at q9 l9
        have B' : PU (c + 1) V n x S' := B.r q9 l9
        have fl9 : flg S' ≤ flg R + 1 := l9.2
        refine wp_aload_n (i := 0) dL_transact_154 rfl rfl ?_
        refine wp_bipush (nI 10) dL_transact_155 (by decide) ?_
        refine wp_iload (i := 5) dL_transact_157 rfl ?_
        refine wp_iconst (nI 0) dL_transact_159 (by decide) ?_
        refine wp_cSH (y' := m_L_ask) [vr (some (nm 40 0)), vi (nI 10), vi (nI t), vi (nI 0)] [] 6 40 dL_transact_160 ml_L_184 st_L_ask okH_L_ask rfl (Nat.le_of_ble_eq_true rfl) rfl (Nat.le_of_ble_eq_true rfl) (d' := d - 1) (by omega) (by omega) (by omega) (q_sentBack (t := t) (by omega) B (by omega) C (by omega) (by omega) (by omega) (fun h1 C1 F1 => cont_ret ?_))
        rw [r_sentBack] at C1
        rw [show dA [-20002] (o_sentBack R (nI t) t) = zb from by rw [rx_sent ht]; exact ezb]
        have H1 := H.fk F1
        refine wp_istore (i := 8) (lv' := [(8, vi zb), (7, vi (nI w)), (6, vi (nI r)), (5, vi (nI t)), (0, vr (some (nm 40 0))), (1, vr (some nS)), (2, vi (nI i)), (3, vr (some (nm 70 1))), (4, vr (some (nm 70 2)))]) dL_transact_163 (by decide) rfl ?_
        refine wp_aload_n (i := 0) dL_transact_165 rfl rfl ?_
        refine wp_cV (y' := m_X11_logged) 12 [] [] 6 40 dL_transact_166 ml_L_217 im_X11_logged se_X11_logged (by decide) C1.hk ok_X11_logged rfl (Nat.le_of_ble_eq_true rfl) rfl (Nat.le_of_ble_eq_true rfl) (d' := d - 1) (by omega) (by omega) (by omega) (g_logged B (by omega) C1 (by omega) (by omega) (by omega) (fun h2 C2 F2 => cont_ret ?_))
        have H2 := H1.fk F2
        refine wp_istore (i := 9) (lv' := [(9, vi (nI ((RS_lg R).length))), (8, vi zb), (7, vi (nI w)), (6, vi (nI r)), (5, vi (nI t)), (0, vr (some (nm 40 0))), (1, vr (some nS)), (2, vi (nI i)), (3, vr (some (nm 70 1))), (4, vr (some (nm 70 2)))]) dL_transact_169 (by decide) rfl ?_
        refine wp_aload_n (i := 0) dL_transact_171 rfl rfl ?_
        refine wp_cV (y' := m_X11_moment) 12 [] [] 6 40 dL_transact_172 ml_L_214 im_X11_moment se_X11_moment (by decide) C2.hk ok_X11_moment rfl (Nat.le_of_ble_eq_true rfl) rfl (Nat.le_of_ble_eq_true rfl) (d' := d - 1) (by omega) (by omega) (by omega) (g_moment B (by omega) C2 (by omega) (by omega) (by omega) (fun h3 C3 F3 => cont_ret ?_))
        have H3 := H2.fk F3
        refine wp_istore (i := 10) (lv' := [(10, vi (nI (RS_mo R))), (9, vi (nI ((RS_lg R).length))), (8, vi zb), (7, vi (nI w)), (6, vi (nI r)), (5, vi (nI t)), (0, vr (some (nm 40 0))), (1, vr (some nS)), (2, vi (nI i)), (3, vr (some (nm 70 1))), (4, vr (some (nm 70 2)))]) dL_transact_175 (by decide) rfl ?_
        refine wp_iload (i := 7) dL_transact_177 rfl ?_
        refine wp_bipush (nI 6) dL_transact_179 (by decide) ?_
        refine wp_icmp_leN 373 dL_transact_181 (by decide) (by omega) (by decide) (fun c_181 => ?_) (fun c_181 => absurd c_181 (by omega))
        refine wp_iload (i := 7) dL_transact_373 rfl ?_
        refine wp_iconst (nI 3) dL_transact_375 (by decide) ?_
        refine wp_icmp_neN 393 dL_transact_376 (by decide) (by omega) (by decide) (fun c_376 => ?_) (fun c_376 => absurd c_376 (by omega))
        refine wp_iload (i := 7) dL_transact_393 rfl ?_
        refine wp_iconst (nI 4) dL_transact_395 (by decide) ?_
        refine wp_icmp_neN 424 dL_transact_396 (by decide) (by omega) (by decide) (fun c_396 => absurd c_396 (by omega)) (fun c_396 => ?_)
        refine wp_aload_n (i := 0) dL_transact_399 rfl rfl ?_
        refine wp_bipush (nI 19) dL_transact_400 (by decide) ?_
        refine wp_iload (i := 5) dL_transact_402 rfl ?_
        refine wp_iload (i := 6) dL_transact_404 rfl ?_
        refine wp_aload_n (i := 1) dL_transact_406 rfl rfl ?_
        refine wp_iload_n (i := 2) dL_transact_407 rfl rfl ?_
        refine wp_iconst (nI 3) dL_transact_408 (by decide) ?_
        refine wp_iaddN dL_transact_409 ?_
        refine wp_bipush (nI 21) dL_transact_410 (by decide) ?_
        refine wp_cS (y' := m_L_pick) [vr (some nS), vi (nI (i + 3)), vi (nI 21)] [vi (nI r), vi (nI t), vi (nI 19), vr (some (nm 40 0))] 0 0 dL_transact_412 ml_L_199 st_L_pick ok_L_pick rfl (Nat.le_of_ble_eq_true rfl) rfl (Nat.le_of_ble_eq_true rfl) (d' := d - 1) (by omega) (Nat.zero_le _) (Nat.zero_le _) (c_L_pick (by omega) (by decide) (by omega) hL (by omega) (cont_ret ?_))
        refine wp_bipush (nI 10) dL_transact_415 (by decide) ?_
        refine wp_isub dL_transact_417 ?_
        refine wp_cSH (y' := m_L_deed) [vr (some (nm 40 0)), vi (nI 19), vi (nI t), vi (nI r), vi ((nI (pkV G (i + 3) 21)) - (nI 10))] [] 6 40 dL_transact_418 ml_L_191 st_L_deed okH_L_deed rfl (Nat.le_of_ble_eq_true rfl) rfl (Nat.le_of_ble_eq_true rfl) (d' := d - 1) (by omega) (by omega) (by omega) (e_write (t := t) (by omega) (r := r) (by omega) B (by omega) C3 (by omega) (by omega) (by omega) (fun h4 C4 F4 => cont_ret ?_))
        rw [eo] at C4
        rw [show dA [-20002, -20001, -20003, -20004] (o_write R (nI t) t (nI r) r (nI (pkV G (i + 3) 21) - nI 10)) = nI 0 from by rw [eo]; rfl]
        have H4 := H3.fk F4
        refine wp_goto 464 dL_transact_421 (by decide) ?_
        refine wp_istore (i := 11) (lv' := [(11, vi (nI 0)), (10, vi (nI (RS_mo R))), (9, vi (nI ((RS_lg R).length))), (8, vi zb), (7, vi (nI w)), (6, vi (nI r)), (5, vi (nI t)), (0, vr (some (nm 40 0))), (1, vr (some nS)), (2, vi (nI i)), (3, vr (some (nm 70 1))), (4, vr (some (nm 70 2)))]) dL_transact_464 (by decide) rfl ?_
        refine wp_iload (i := 6) dL_transact_466 rfl ?_
        refine wp_aload_n (i := 3) dL_transact_468 rfl rfl ?_
        refine wp_iconst (nI 2) dL_transact_469 (by decide) ?_
        refine wp_ialoadN 3 (nI (RS_rn R)) dL_transact_470 H4.2.2.2.1.1 H4.2.2.2.1.2.1 (by decide) (by decide) (H4.2.2.2.1.2.2.2.2) ?_
        refine wp_icmp_ltN 488 dL_transact_471 (by decide) (by omega) (by omega) (fun c_471 => ?_) (fun c_471 => absurd c_471 (by omega))
        refine wp_aload (i := 4) dL_transact_488 rfl ?_
        refine wp_iload (i := 5) dL_transact_490 rfl ?_
        refine wp_zaloadN 3 (bI (op t)) dL_transact_492 H4.2.2.2.2.1.1 H4.2.2.2.2.1.2.1 (by omega) (by decide) (H4.2.2.2.2.1.2.2 t ht) ?_
        refine wp_if_neB 510 dL_transact_493 (by decide) (fun c_493 => ?_) (fun c_493 => absurd c_493 (by rw [hopn]; decide))
        refine wp_iload (i := 7) dL_transact_510 rfl ?_
        refine wp_iconst (nI 3) dL_transact_512 (by decide) ?_
        refine wp_icmp_neN 532 dL_transact_513 (by decide) (by omega) (by decide) (fun c_513 => ?_) (fun c_513 => absurd c_513 (by omega))
        refine wp_iload (i := 11) dL_transact_532 rfl ?_
        refine wp_if_neN 541 dL_transact_534 (by decide) (by decide) (fun c_534 => absurd c_534 (by decide)) (fun c_534 => ?_)
        refine wp_iconst (nI 1) dL_transact_537 (by decide) ?_
        refine wp_goto 542 dL_transact_538 (by decide) ?_
        refine wp_istore (i := 12) (lv' := [(12, vi (nI 1)), (11, vi (nI 0)), (10, vi (nI (RS_mo R))), (9, vi (nI ((RS_lg R).length))), (8, vi zb), (7, vi (nI w)), (6, vi (nI r)), (5, vi (nI t)), (0, vr (some (nm 40 0))), (1, vr (some nS)), (2, vi (nI i)), (3, vr (some (nm 70 1))), (4, vr (some (nm 70 2)))]) dL_transact_542 (by decide) rfl ?_
        refine wp_iload (i := 11) dL_transact_544 rfl ?_
        refine wp_sipush (-20004) dL_transact_546 (by decide) ?_
        refine wp_icmp_ne 565 dL_transact_549 (by decide) (fun c_549 => ?_) (fun c_549 => absurd c_549 (by decide))
        refine wp_aload_n (i := 0) dL_transact_565 rfl rfl ?_
        refine wp_bipush (nI 10) dL_transact_566 (by decide) ?_
        refine wp_iload (i := 5) dL_transact_568 rfl ?_
        refine wp_iconst (nI 0) dL_transact_570 (by decide) ?_
        refine wp_cSH (y' := m_L_ask) [vr (some (nm 40 0)), vi (nI 10), vi (nI t), vi (nI 0)] [] 6 40 dL_transact_571 ml_L_184 st_L_ask okH_L_ask rfl (Nat.le_of_ble_eq_true rfl) rfl (Nat.le_of_ble_eq_true rfl) (d' := d - 1) (by omega) (by omega) (by omega) (q_sentBack (t := t) (by omega) B' (by omega) C4 (by omega) (by omega) (by omega) (fun h5 C5 F5 => cont_ret ?_))
        rw [r_sentBack] at C5
        rw [show dA [-20002] (o_sentBack S' (nI t) t) = zb + nI 1 from by rw [rx_sent ht]; show nI (OT_bk (RS_tt S' t)) = zb + nI 1; rw [bk, ← nI_add, ezb]]
        have H5 := H4.fk F5
        refine wp_iload (i := 8) dL_transact_574 rfl ?_
        refine wp_iload (i := 12) dL_transact_576 rfl ?_
        refine wp_cS (y' := m_L_told) [vi (bI true)] [vi zb, vi (zb + nI 1)] 0 0 dL_transact_578 ml_L_83 st_L_told ok_L_told rfl (Nat.le_of_ble_eq_true rfl) rfl (Nat.le_of_ble_eq_true rfl) (d' := d - 1) (by omega) (Nat.zero_le _) (Nat.zero_le _) (c_L_told (b := true) (cont_ret ?_))
        rw [show bI true = (nI 1) from rfl]
        refine wp_iadd dL_transact_581 ?_
        refine wp_icmp_ne 635 dL_transact_582 (by decide) (fun c_582 => absurd c_582 (fun z => z rfl)) (fun c_582 => ?_)
        refine wp_aload_n (i := 0) dL_transact_585 rfl rfl ?_
        refine wp_cV (y' := m_X11_logged) 12 [] [] 6 40 dL_transact_586 ml_L_217 im_X11_logged se_X11_logged (by decide) C5.hk ok_X11_logged rfl (Nat.le_of_ble_eq_true rfl) rfl (Nat.le_of_ble_eq_true rfl) (d' := d - 1) (by omega) (by omega) (by omega) (g_logged B' (by omega) C5 (by omega) (by omega) (by omega) (fun h6 C6 F6 => cont_ret ?_))
        rw [sam.1]
        have H6 := H5.fk F6
        refine wp_iload (i := 9) dL_transact_589 rfl ?_
        refine wp_icmp_neN 635 dL_transact_591 (by decide) (by omega) (by omega) (fun c_591 => absurd c_591 (by omega)) (fun c_591 => ?_)
        refine wp_iload (i := 7) dL_transact_594 rfl ?_
        refine wp_iconst (nI 4) dL_transact_596 (by decide) ?_
        refine wp_icmp_neN 631 dL_transact_597 (by decide) (by omega) (by decide) (fun c_597 => absurd c_597 (by omega)) (fun c_597 => ?_)
        refine wp_iload (i := 12) dL_transact_600 rfl ?_
        refine wp_if_neN 631 dL_transact_602 (by decide) (by decide) (fun c_602 => ?_) (fun c_602 => absurd c_602 (by decide))
        refine wp_iconst (nI 1) dL_transact_631 (by decide) ?_
        refine wp_goto 636 dL_transact_632 (by decide) ?_
        refine wp_zreturn dL_transact_636 rfl (by decide) ?_
        exact hq _ (c + 1) S' _ (by omega) C6 B' ri (HO.same so) (by unfold czN; rw [if_neg (by omega)]; omega) (by rw [sam.2.2]; exact H6)
      · skip
        have q9 : RB (c + 1) (o_write R (nI t) t (nI r) r (nI (pkV G (i + 3) 21) - nI 10)).2.2 := RB_write B.2.2.2.2.1 (by omega) (ixk (by omega) (by decide))
        have l9 : LFS R (o_write R (nI t) t (nI r) r (nI (pkV G (i + 3) 21) - nI 10)).2.2 := f_write
        rw [eo] at q9 l9
        have B' : PU (c + 1) V n x S' := B.r q9 l9
        have fl9 : flg S' ≤ flg R + 1 := l9.2
        refine wp_aload_n (i := 0) dL_transact_154 rfl rfl ?_
        refine wp_bipush (nI 10) dL_transact_155 (by decide) ?_
        refine wp_iload (i := 5) dL_transact_157 rfl ?_
        refine wp_iconst (nI 0) dL_transact_159 (by decide) ?_
        refine wp_cSH (y' := m_L_ask) [vr (some (nm 40 0)), vi (nI 10), vi (nI t), vi (nI 0)] [] 6 40 dL_transact_160 ml_L_184 st_L_ask okH_L_ask rfl (Nat.le_of_ble_eq_true rfl) rfl (Nat.le_of_ble_eq_true rfl) (d' := d - 1) (by omega) (by omega) (by omega) (q_sentBack (t := t) (by omega) B (by omega) C (by omega) (by omega) (by omega) (fun h1 C1 F1 => cont_ret ?_))
        rw [r_sentBack] at C1
        rw [show dA [-20002] (o_sentBack R (nI t) t) = zb from by rw [rx_sent ht]; exact ezb]
        have H1 := H.fk F1
        refine wp_istore (i := 8) (lv' := [(8, vi zb), (7, vi (nI w)), (6, vi (nI r)), (5, vi (nI t)), (0, vr (some (nm 40 0))), (1, vr (some nS)), (2, vi (nI i)), (3, vr (some (nm 70 1))), (4, vr (some (nm 70 2)))]) dL_transact_163 (by decide) rfl ?_
        refine wp_aload_n (i := 0) dL_transact_165 rfl rfl ?_
        refine wp_cV (y' := m_X11_logged) 12 [] [] 6 40 dL_transact_166 ml_L_217 im_X11_logged se_X11_logged (by decide) C1.hk ok_X11_logged rfl (Nat.le_of_ble_eq_true rfl) rfl (Nat.le_of_ble_eq_true rfl) (d' := d - 1) (by omega) (by omega) (by omega) (g_logged B (by omega) C1 (by omega) (by omega) (by omega) (fun h2 C2 F2 => cont_ret ?_))
        have H2 := H1.fk F2
        refine wp_istore (i := 9) (lv' := [(9, vi (nI ((RS_lg R).length))), (8, vi zb), (7, vi (nI w)), (6, vi (nI r)), (5, vi (nI t)), (0, vr (some (nm 40 0))), (1, vr (some nS)), (2, vi (nI i)), (3, vr (some (nm 70 1))), (4, vr (some (nm 70 2)))]) dL_transact_169 (by decide) rfl ?_
        refine wp_aload_n (i := 0) dL_transact_171 rfl rfl ?_
        refine wp_cV (y' := m_X11_moment) 12 [] [] 6 40 dL_transact_172 ml_L_214 im_X11_moment se_X11_moment (by decide) C2.hk ok_X11_moment rfl (Nat.le_of_ble_eq_true rfl) rfl (Nat.le_of_ble_eq_true rfl) (d' := d - 1) (by omega) (by omega) (by omega) (g_moment B (by omega) C2 (by omega) (by omega) (by omega) (fun h3 C3 F3 => cont_ret ?_))
        have H3 := H2.fk F3
        refine wp_istore (i := 10) (lv' := [(10, vi (nI (RS_mo R))), (9, vi (nI ((RS_lg R).length))), (8, vi zb), (7, vi (nI w)), (6, vi (nI r)), (5, vi (nI t)), (0, vr (some (nm 40 0))), (1, vr (some nS)), (2, vi (nI i)), (3, vr (some (nm 70 1))), (4, vr (some (nm 70 2)))]) dL_transact_175 (by decide) rfl ?_
        refine wp_iload (i := 7) dL_transact_177 rfl ?_
        refine wp_bipush (nI 6) dL_transact_179 (by decide) ?_
        refine wp_icmp_leN 373 dL_transact_181 (by decide) (by omega) (by decide) (fun c_181 => ?_) (fun c_181 => absurd c_181 (by omega))
        refine wp_iload (i := 7) dL_transact_373 rfl ?_
        refine wp_iconst (nI 3) dL_transact_375 (by decide) ?_
        refine wp_icmp_neN 393 dL_transact_376 (by decide) (by omega) (by decide) (fun c_376 => ?_) (fun c_376 => absurd c_376 (by omega))
        refine wp_iload (i := 7) dL_transact_393 rfl ?_
        refine wp_iconst (nI 4) dL_transact_395 (by decide) ?_
        refine wp_icmp_neN 424 dL_transact_396 (by decide) (by omega) (by decide) (fun c_396 => absurd c_396 (by omega)) (fun c_396 => ?_)
        refine wp_aload_n (i := 0) dL_transact_399 rfl rfl ?_
        refine wp_bipush (nI 19) dL_transact_400 (by decide) ?_
        refine wp_iload (i := 5) dL_transact_402 rfl ?_
        refine wp_iload (i := 6) dL_transact_404 rfl ?_
        refine wp_aload_n (i := 1) dL_transact_406 rfl rfl ?_
        refine wp_iload_n (i := 2) dL_transact_407 rfl rfl ?_
        refine wp_iconst (nI 3) dL_transact_408 (by decide) ?_
        refine wp_iaddN dL_transact_409 ?_
        refine wp_bipush (nI 21) dL_transact_410 (by decide) ?_
        refine wp_cS (y' := m_L_pick) [vr (some nS), vi (nI (i + 3)), vi (nI 21)] [vi (nI r), vi (nI t), vi (nI 19), vr (some (nm 40 0))] 0 0 dL_transact_412 ml_L_199 st_L_pick ok_L_pick rfl (Nat.le_of_ble_eq_true rfl) rfl (Nat.le_of_ble_eq_true rfl) (d' := d - 1) (by omega) (Nat.zero_le _) (Nat.zero_le _) (c_L_pick (by omega) (by decide) (by omega) hL (by omega) (cont_ret ?_))
        refine wp_bipush (nI 10) dL_transact_415 (by decide) ?_
        refine wp_isub dL_transact_417 ?_
        refine wp_cSH (y' := m_L_deed) [vr (some (nm 40 0)), vi (nI 19), vi (nI t), vi (nI r), vi ((nI (pkV G (i + 3) 21)) - (nI 10))] [] 6 40 dL_transact_418 ml_L_191 st_L_deed okH_L_deed rfl (Nat.le_of_ble_eq_true rfl) rfl (Nat.le_of_ble_eq_true rfl) (d' := d - 1) (by omega) (by omega) (by omega) (e_write (t := t) (by omega) (r := r) (by omega) B (by omega) C3 (by omega) (by omega) (by omega) (fun h4 C4 F4 => cont_ret ?_))
        rw [eo] at C4
        rw [show dA [-20002, -20001, -20003, -20004] (o_write R (nI t) t (nI r) r (nI (pkV G (i + 3) 21) - nI 10)) = nI 1 from by rw [eo]; rfl]
        have H4 := H3.fk F4
        refine wp_goto 464 dL_transact_421 (by decide) ?_
        refine wp_istore (i := 11) (lv' := [(11, vi (nI 1)), (10, vi (nI (RS_mo R))), (9, vi (nI ((RS_lg R).length))), (8, vi zb), (7, vi (nI w)), (6, vi (nI r)), (5, vi (nI t)), (0, vr (some (nm 40 0))), (1, vr (some nS)), (2, vi (nI i)), (3, vr (some (nm 70 1))), (4, vr (some (nm 70 2)))]) dL_transact_464 (by decide) rfl ?_
        refine wp_iload (i := 6) dL_transact_466 rfl ?_
        refine wp_aload_n (i := 3) dL_transact_468 rfl rfl ?_
        refine wp_iconst (nI 2) dL_transact_469 (by decide) ?_
        refine wp_ialoadN 3 (nI (RS_rn R)) dL_transact_470 H4.2.2.2.1.1 H4.2.2.2.1.2.1 (by decide) (by decide) (H4.2.2.2.1.2.2.2.2) ?_
        refine wp_icmp_ltN 488 dL_transact_471 (by decide) (by omega) (by omega) (fun c_471 => ?_) (fun c_471 => absurd c_471 (by omega))
        refine wp_aload (i := 4) dL_transact_488 rfl ?_
        refine wp_iload (i := 5) dL_transact_490 rfl ?_
        refine wp_zaloadN 3 (bI (op t)) dL_transact_492 H4.2.2.2.2.1.1 H4.2.2.2.2.1.2.1 (by omega) (by decide) (H4.2.2.2.2.1.2.2 t ht) ?_
        refine wp_if_neB 510 dL_transact_493 (by decide) (fun c_493 => ?_) (fun c_493 => absurd c_493 (by rw [hopn]; decide))
        refine wp_iload (i := 7) dL_transact_510 rfl ?_
        refine wp_iconst (nI 3) dL_transact_512 (by decide) ?_
        refine wp_icmp_neN 532 dL_transact_513 (by decide) (by omega) (by decide) (fun c_513 => ?_) (fun c_513 => absurd c_513 (by omega))
        refine wp_iload (i := 11) dL_transact_532 rfl ?_
        refine wp_if_neN 541 dL_transact_534 (by decide) (by decide) (fun c_534 => ?_) (fun c_534 => absurd c_534 (by decide))
        refine wp_iconst (nI 0) dL_transact_541 (by decide) ?_
        refine wp_istore (i := 12) (lv' := [(12, vi (nI 0)), (11, vi (nI 1)), (10, vi (nI (RS_mo R))), (9, vi (nI ((RS_lg R).length))), (8, vi zb), (7, vi (nI w)), (6, vi (nI r)), (5, vi (nI t)), (0, vr (some (nm 40 0))), (1, vr (some nS)), (2, vi (nI i)), (3, vr (some (nm 70 1))), (4, vr (some (nm 70 2)))]) dL_transact_542 (by decide) rfl ?_
        refine wp_iload (i := 11) dL_transact_544 rfl ?_
        refine wp_sipush (-20004) dL_transact_546 (by decide) ?_
        refine wp_icmp_ne 565 dL_transact_549 (by decide) (fun c_549 => ?_) (fun c_549 => absurd c_549 (by decide))
        refine wp_aload_n (i := 0) dL_transact_565 rfl rfl ?_
        refine wp_bipush (nI 10) dL_transact_566 (by decide) ?_
        refine wp_iload (i := 5) dL_transact_568 rfl ?_
        refine wp_iconst (nI 0) dL_transact_570 (by decide) ?_
        refine wp_cSH (y' := m_L_ask) [vr (some (nm 40 0)), vi (nI 10), vi (nI t), vi (nI 0)] [] 6 40 dL_transact_571 ml_L_184 st_L_ask okH_L_ask rfl (Nat.le_of_ble_eq_true rfl) rfl (Nat.le_of_ble_eq_true rfl) (d' := d - 1) (by omega) (by omega) (by omega) (q_sentBack (t := t) (by omega) B' (by omega) C4 (by omega) (by omega) (by omega) (fun h5 C5 F5 => cont_ret ?_))
        rw [r_sentBack] at C5
        rw [show dA [-20002] (o_sentBack S' (nI t) t) = zb from by rw [rx_sent ht]; show nI (OT_bk (RS_tt S' t)) = zb; rw [bk]; exact ezb]
        have H5 := H4.fk F5
        refine wp_iload (i := 8) dL_transact_574 rfl ?_
        refine wp_iload (i := 12) dL_transact_576 rfl ?_
        refine wp_cS (y' := m_L_told) [vi (bI false)] [vi zb, vi zb] 0 0 dL_transact_578 ml_L_83 st_L_told ok_L_told rfl (Nat.le_of_ble_eq_true rfl) rfl (Nat.le_of_ble_eq_true rfl) (d' := d - 1) (by omega) (Nat.zero_le _) (Nat.zero_le _) (c_L_told (b := false) (cont_ret ?_))
        rw [show bI false = (nI 0) from rfl]
        refine wp_iadd dL_transact_581 ?_
        refine wp_icmp_ne 635 dL_transact_582 (by decide) (fun c_582 => absurd c_582 (fun z => z (i32_z zb))) (fun c_582 => ?_)
        refine wp_aload_n (i := 0) dL_transact_585 rfl rfl ?_
        refine wp_cV (y' := m_X11_logged) 12 [] [] 6 40 dL_transact_586 ml_L_217 im_X11_logged se_X11_logged (by decide) C5.hk ok_X11_logged rfl (Nat.le_of_ble_eq_true rfl) rfl (Nat.le_of_ble_eq_true rfl) (d' := d - 1) (by omega) (by omega) (by omega) (g_logged B' (by omega) C5 (by omega) (by omega) (by omega) (fun h6 C6 F6 => cont_ret ?_))
        rw [sam.1]
        have H6 := H5.fk F6
        refine wp_iload (i := 9) dL_transact_589 rfl ?_
        refine wp_icmp_neN 635 dL_transact_591 (by decide) (by omega) (by omega) (fun c_591 => absurd c_591 (by omega)) (fun c_591 => ?_)
        refine wp_iload (i := 7) dL_transact_594 rfl ?_
        refine wp_iconst (nI 4) dL_transact_596 (by decide) ?_
        refine wp_icmp_neN 631 dL_transact_597 (by decide) (by omega) (by decide) (fun c_597 => absurd c_597 (by omega)) (fun c_597 => ?_)
        refine wp_iload (i := 12) dL_transact_600 rfl ?_
        refine wp_if_neN 631 dL_transact_602 (by decide) (by decide) (fun c_602 => absurd c_602 (by decide)) (fun c_602 => ?_)
        refine wp_aload_n (i := 0) dL_transact_605 rfl rfl ?_
        refine wp_bipush (nI 18) dL_transact_606 (by decide) ?_
        refine wp_iload (i := 5) dL_transact_608 rfl ?_
        refine wp_iload (i := 6) dL_transact_610 rfl ?_
        refine wp_iconst (nI 0) dL_transact_612 (by decide) ?_
        refine wp_cSH (y' := m_L_deed) [vr (some (nm 40 0)), vi (nI 18), vi (nI t), vi (nI r), vi (nI 0)] [] 6 40 dL_transact_613 ml_L_191 st_L_deed okH_L_deed rfl (Nat.le_of_ble_eq_true rfl) rfl (Nat.le_of_ble_eq_true rfl) (d' := d - 1) (by omega) (by omega) (by omega) (e_read (t := t) (by omega) (r := r) (by omega) B' (by omega) C6 (by omega) (by omega) (by omega) (fun h7 C7 F7 => cont_ret ?_))
        rw [eo2] at C7
        rw [show dA [-20002, -20001, -20003] (o_read S' (nI t) t (nI r) r) = nI (pkV G (i + 3) 21) - nI 10 from by rw [eo2]; rfl]
        have H7 := H6.fk F7
        refine wp_aload_n (i := 1) dL_transact_616 rfl rfl ?_
        refine wp_iload_n (i := 2) dL_transact_617 rfl rfl ?_
        refine wp_iconst (nI 3) dL_transact_618 (by decide) ?_
        refine wp_iaddN dL_transact_619 ?_
        refine wp_bipush (nI 21) dL_transact_620 (by decide) ?_
        refine wp_cS (y' := m_L_pick) [vr (some nS), vi (nI (i + 3)), vi (nI 21)] [vi (nI (pkV G (i + 3) 21) - nI 10)] 0 0 dL_transact_622 ml_L_199 st_L_pick ok_L_pick rfl (Nat.le_of_ble_eq_true rfl) rfl (Nat.le_of_ble_eq_true rfl) (d' := d - 1) (by omega) (Nat.zero_le _) (Nat.zero_le _) (c_L_pick (by omega) (by decide) (by omega) hL (by omega) (cont_ret ?_))
        refine wp_bipush (nI 10) dL_transact_625 (by decide) ?_
        refine wp_isub dL_transact_627 ?_
        refine wp_icmp_ne 635 dL_transact_628 (by decide) (fun c_628 => absurd c_628 (fun z => z rfl)) (fun c_628 => ?_)
        refine wp_iconst (nI 1) dL_transact_631 (by decide) ?_
        refine wp_goto 636 dL_transact_632 (by decide) ?_
        refine wp_zreturn dL_transact_636 rfl (by decide) ?_
        exact hq _ (c + 1) S' _ (by omega) C7 B' ri (HO.same so) (by unfold czN; rw [if_neg (by omega)]; omega) (by rw [sam.2.2]; exact H7)
  · have eo := (rx_idx (y := (nI (pkV G (i + 3) 21) - nI 10)) ht (Nat.le_of_not_lt hrn) hr).2.1
    refine wp_aload_n (i := 0) dL_transact_154 rfl rfl ?_
    refine wp_bipush (nI 10) dL_transact_155 (by decide) ?_
    refine wp_iload (i := 5) dL_transact_157 rfl ?_
    refine wp_iconst (nI 0) dL_transact_159 (by decide) ?_
    refine wp_cSH (y' := m_L_ask) [vr (some (nm 40 0)), vi (nI 10), vi (nI t), vi (nI 0)] [] 6 40 dL_transact_160 ml_L_184 st_L_ask okH_L_ask rfl (Nat.le_of_ble_eq_true rfl) rfl (Nat.le_of_ble_eq_true rfl) (d' := d - 1) (by omega) (by omega) (by omega) (q_sentBack (t := t) (by omega) B (by omega) C (by omega) (by omega) (by omega) (fun h1 C1 F1 => cont_ret ?_))
    rw [r_sentBack] at C1
    rw [show dA [-20002] (o_sentBack R (nI t) t) = zb from by rw [rx_sent ht]; exact ezb]
    have H1 := H.fk F1
    refine wp_istore (i := 8) (lv' := [(8, vi zb), (7, vi (nI w)), (6, vi (nI r)), (5, vi (nI t)), (0, vr (some (nm 40 0))), (1, vr (some nS)), (2, vi (nI i)), (3, vr (some (nm 70 1))), (4, vr (some (nm 70 2)))]) dL_transact_163 (by decide) rfl ?_
    refine wp_aload_n (i := 0) dL_transact_165 rfl rfl ?_
    refine wp_cV (y' := m_X11_logged) 12 [] [] 6 40 dL_transact_166 ml_L_217 im_X11_logged se_X11_logged (by decide) C1.hk ok_X11_logged rfl (Nat.le_of_ble_eq_true rfl) rfl (Nat.le_of_ble_eq_true rfl) (d' := d - 1) (by omega) (by omega) (by omega) (g_logged B (by omega) C1 (by omega) (by omega) (by omega) (fun h2 C2 F2 => cont_ret ?_))
    have H2 := H1.fk F2
    refine wp_istore (i := 9) (lv' := [(9, vi (nI ((RS_lg R).length))), (8, vi zb), (7, vi (nI w)), (6, vi (nI r)), (5, vi (nI t)), (0, vr (some (nm 40 0))), (1, vr (some nS)), (2, vi (nI i)), (3, vr (some (nm 70 1))), (4, vr (some (nm 70 2)))]) dL_transact_169 (by decide) rfl ?_
    refine wp_aload_n (i := 0) dL_transact_171 rfl rfl ?_
    refine wp_cV (y' := m_X11_moment) 12 [] [] 6 40 dL_transact_172 ml_L_214 im_X11_moment se_X11_moment (by decide) C2.hk ok_X11_moment rfl (Nat.le_of_ble_eq_true rfl) rfl (Nat.le_of_ble_eq_true rfl) (d' := d - 1) (by omega) (by omega) (by omega) (g_moment B (by omega) C2 (by omega) (by omega) (by omega) (fun h3 C3 F3 => cont_ret ?_))
    have H3 := H2.fk F3
    refine wp_istore (i := 10) (lv' := [(10, vi (nI (RS_mo R))), (9, vi (nI ((RS_lg R).length))), (8, vi zb), (7, vi (nI w)), (6, vi (nI r)), (5, vi (nI t)), (0, vr (some (nm 40 0))), (1, vr (some nS)), (2, vi (nI i)), (3, vr (some (nm 70 1))), (4, vr (some (nm 70 2)))]) dL_transact_175 (by decide) rfl ?_
    refine wp_iload (i := 7) dL_transact_177 rfl ?_
    refine wp_bipush (nI 6) dL_transact_179 (by decide) ?_
    refine wp_icmp_leN 373 dL_transact_181 (by decide) (by omega) (by decide) (fun c_181 => ?_) (fun c_181 => absurd c_181 (by omega))
    refine wp_iload (i := 7) dL_transact_373 rfl ?_
    refine wp_iconst (nI 3) dL_transact_375 (by decide) ?_
    refine wp_icmp_neN 393 dL_transact_376 (by decide) (by omega) (by decide) (fun c_376 => ?_) (fun c_376 => absurd c_376 (by omega))
    refine wp_iload (i := 7) dL_transact_393 rfl ?_
    refine wp_iconst (nI 4) dL_transact_395 (by decide) ?_
    refine wp_icmp_neN 424 dL_transact_396 (by decide) (by omega) (by decide) (fun c_396 => absurd c_396 (by omega)) (fun c_396 => ?_)
    refine wp_aload_n (i := 0) dL_transact_399 rfl rfl ?_
    refine wp_bipush (nI 19) dL_transact_400 (by decide) ?_
    refine wp_iload (i := 5) dL_transact_402 rfl ?_
    refine wp_iload (i := 6) dL_transact_404 rfl ?_
    refine wp_aload_n (i := 1) dL_transact_406 rfl rfl ?_
    refine wp_iload_n (i := 2) dL_transact_407 rfl rfl ?_
    refine wp_iconst (nI 3) dL_transact_408 (by decide) ?_
    refine wp_iaddN dL_transact_409 ?_
    refine wp_bipush (nI 21) dL_transact_410 (by decide) ?_
    refine wp_cS (y' := m_L_pick) [vr (some nS), vi (nI (i + 3)), vi (nI 21)] [vi (nI r), vi (nI t), vi (nI 19), vr (some (nm 40 0))] 0 0 dL_transact_412 ml_L_199 st_L_pick ok_L_pick rfl (Nat.le_of_ble_eq_true rfl) rfl (Nat.le_of_ble_eq_true rfl) (d' := d - 1) (by omega) (Nat.zero_le _) (Nat.zero_le _) (c_L_pick (by omega) (by decide) (by omega) hL (by omega) (cont_ret ?_))
    refine wp_bipush (nI 10) dL_transact_415 (by decide) ?_
    refine wp_isub dL_transact_417 ?_
    refine wp_cSH (y' := m_L_deed) [vr (some (nm 40 0)), vi (nI 19), vi (nI t), vi (nI r), vi ((nI (pkV G (i + 3) 21)) - (nI 10))] [] 6 40 dL_transact_418 ml_L_191 st_L_deed okH_L_deed rfl (Nat.le_of_ble_eq_true rfl) rfl (Nat.le_of_ble_eq_true rfl) (d' := d - 1) (by omega) (by omega) (by omega) (e_write (t := t) (by omega) (r := r) (by omega) B (by omega) C3 (by omega) (by omega) (by omega) (fun h4 C4 F4 => cont_ret ?_))
    rw [eo] at C4
    rw [show dA [-20002, -20001, -20003, -20004] (o_write R (nI t) t (nI r) r (nI (pkV G (i + 3) 21) - nI 10)) = -20001 from by rw [eo]; rfl]
    have H4 := H3.fk F4
    refine wp_goto 464 dL_transact_421 (by decide) ?_
    refine wp_istore (i := 11) (lv' := [(11, vi (-20001)), (10, vi (nI (RS_mo R))), (9, vi (nI ((RS_lg R).length))), (8, vi zb), (7, vi (nI w)), (6, vi (nI r)), (5, vi (nI t)), (0, vr (some (nm 40 0))), (1, vr (some nS)), (2, vi (nI i)), (3, vr (some (nm 70 1))), (4, vr (some (nm 70 2)))]) dL_transact_464 (by decide) rfl ?_
    refine wp_iload (i := 6) dL_transact_466 rfl ?_
    refine wp_aload_n (i := 3) dL_transact_468 rfl rfl ?_
    refine wp_iconst (nI 2) dL_transact_469 (by decide) ?_
    refine wp_ialoadN 3 (nI (RS_rn R)) dL_transact_470 H4.2.2.2.1.1 H4.2.2.2.1.2.1 (by decide) (by decide) (H4.2.2.2.1.2.2.2.2) ?_
    refine wp_icmp_ltN 488 dL_transact_471 (by decide) (by omega) (by omega) (fun c_471 => absurd c_471 (by omega)) (fun c_471 => ?_)
    refine wp_iload (i := 11) dL_transact_474 rfl ?_
    refine wp_sipush (-20001) dL_transact_476 (by decide) ?_
    refine wp_icmp_ne 486 dL_transact_479 (by decide) (fun c_479 => absurd c_479 (fun z => z rfl)) (fun c_479 => ?_)
    refine wp_iconst (nI 1) dL_transact_482 (by decide) ?_
    refine wp_goto 487 dL_transact_483 (by decide) ?_
    refine wp_zreturn dL_transact_487 rfl (by decide) ?_
    exact hq _ c R _ (by omega) C4 B HI.up HO (by unfold czN; rw [if_neg (by omega)]; omega) (by exact H4)
set_option maxRecDepth 100000 in
set_option maxHeartbeats 4000000 in
theorem l_tr_ensure {G : GG} {d c n k : Nat} {Q : Pst} {V : SV} {x : Nat → QIS} {R : RS} {K J i w t r : Nat} {ro : Nat → Nat} {rf : Nat → Nat → Int32} {op : Nat → Bool} (B : PU c V n x R) (hc : c + 4 ≤ 512) (hk : k < 110) (HI : RI k R) (HO : OPI op R) (ht : t < 3) (hr : r < 6) (hw : w < 9) (hd : 40 ≤ d) (hL : slen G < 2 ^ 31) (hi : i + 200 < 2 ^ 31) {h : Hp} {M bc bs : Nat} (C : CLS h V M n x R) (H : LWH h (sNv V) n (RS_rn R) ro rf K J op) (hbc : 150 ≤ bc) (hbs : 1500 + 1100 * czN w t R ≤ bs) (hq : ∀ h' c' R' op', c' ≤ c + 4 → CLS h' V M n x R' → PU c' V n x R' → RI (k + 1) R' → OPI op' R' → flg R' + czN w t R ≤ flg R + 2 → LWH h' (sNv V) n (RS_rn R') ro rf K J op' → Q (oRet (vi (nI 1))) h') (hw2 : w = 5) : WP G m_L_transact d 154 [(7, vi (nI w)), (6, vi (nI r)), (5, vi (nI t)), (0, vr (some (nm 40 0))), (1, vr (some nS)), (2, vi (nI i)), (3, vr (some (nm 70 1))), (4, vr (some (nm 70 2)))] [] h bc bs Q := by
  have h6 : RS_rn R ≤ 6 := B.2.2.2.2.1.1.2.1
  have hmo : RS_mo R ≤ c := B.2.2.2.2.1.1.2.2.2.1
  have hlg : (RS_lg R).length ≤ 6 * c := B.2.2.2.2.1.1.2.2.2.2.2.1
  obtain ⟨zb, ezb⟩ : ∃ z, nI (OT_bk (RS_tt R t)) = z := ⟨_, rfl⟩
  have hbk := (HI.1 t ht).1.1
  by_cases hrn : r < RS_rn R
  · cases hop : OT_op (RS_tt R t) with
    | false =>
      have hopn : op t = false := (HO t ht).trans hop
      have eo := (rx_shut (y := nI 0) ht h6 hrn hop).2.2.1
      refine wp_aload_n (i := 0) dL_transact_154 rfl rfl ?_
      refine wp_bipush (nI 10) dL_transact_155 (by decide) ?_
      refine wp_iload (i := 5) dL_transact_157 rfl ?_
      refine wp_iconst (nI 0) dL_transact_159 (by decide) ?_
      refine wp_cSH (y' := m_L_ask) [vr (some (nm 40 0)), vi (nI 10), vi (nI t), vi (nI 0)] [] 6 40 dL_transact_160 ml_L_184 st_L_ask okH_L_ask rfl (Nat.le_of_ble_eq_true rfl) rfl (Nat.le_of_ble_eq_true rfl) (d' := d - 1) (by omega) (by omega) (by omega) (q_sentBack (t := t) (by omega) B (by omega) C (by omega) (by omega) (by omega) (fun h1 C1 F1 => cont_ret ?_))
      rw [r_sentBack] at C1
      rw [show dA [-20002] (o_sentBack R (nI t) t) = zb from by rw [rx_sent ht]; exact ezb]
      have H1 := H.fk F1
      refine wp_istore (i := 8) (lv' := [(8, vi zb), (7, vi (nI w)), (6, vi (nI r)), (5, vi (nI t)), (0, vr (some (nm 40 0))), (1, vr (some nS)), (2, vi (nI i)), (3, vr (some (nm 70 1))), (4, vr (some (nm 70 2)))]) dL_transact_163 (by decide) rfl ?_
      refine wp_aload_n (i := 0) dL_transact_165 rfl rfl ?_
      refine wp_cV (y' := m_X11_logged) 12 [] [] 6 40 dL_transact_166 ml_L_217 im_X11_logged se_X11_logged (by decide) C1.hk ok_X11_logged rfl (Nat.le_of_ble_eq_true rfl) rfl (Nat.le_of_ble_eq_true rfl) (d' := d - 1) (by omega) (by omega) (by omega) (g_logged B (by omega) C1 (by omega) (by omega) (by omega) (fun h2 C2 F2 => cont_ret ?_))
      have H2 := H1.fk F2
      refine wp_istore (i := 9) (lv' := [(9, vi (nI ((RS_lg R).length))), (8, vi zb), (7, vi (nI w)), (6, vi (nI r)), (5, vi (nI t)), (0, vr (some (nm 40 0))), (1, vr (some nS)), (2, vi (nI i)), (3, vr (some (nm 70 1))), (4, vr (some (nm 70 2)))]) dL_transact_169 (by decide) rfl ?_
      refine wp_aload_n (i := 0) dL_transact_171 rfl rfl ?_
      refine wp_cV (y' := m_X11_moment) 12 [] [] 6 40 dL_transact_172 ml_L_214 im_X11_moment se_X11_moment (by decide) C2.hk ok_X11_moment rfl (Nat.le_of_ble_eq_true rfl) rfl (Nat.le_of_ble_eq_true rfl) (d' := d - 1) (by omega) (by omega) (by omega) (g_moment B (by omega) C2 (by omega) (by omega) (by omega) (fun h3 C3 F3 => cont_ret ?_))
      have H3 := H2.fk F3
      refine wp_istore (i := 10) (lv' := [(10, vi (nI (RS_mo R))), (9, vi (nI ((RS_lg R).length))), (8, vi zb), (7, vi (nI w)), (6, vi (nI r)), (5, vi (nI t)), (0, vr (some (nm 40 0))), (1, vr (some nS)), (2, vi (nI i)), (3, vr (some (nm 70 1))), (4, vr (some (nm 70 2)))]) dL_transact_175 (by decide) rfl ?_
      refine wp_iload (i := 7) dL_transact_177 rfl ?_
      refine wp_bipush (nI 6) dL_transact_179 (by decide) ?_
      refine wp_icmp_leN 373 dL_transact_181 (by decide) (by omega) (by decide) (fun c_181 => ?_) (fun c_181 => absurd c_181 (by omega))
      refine wp_iload (i := 7) dL_transact_373 rfl ?_
      refine wp_iconst (nI 3) dL_transact_375 (by decide) ?_
      refine wp_icmp_neN 393 dL_transact_376 (by decide) (by omega) (by decide) (fun c_376 => ?_) (fun c_376 => absurd c_376 (by omega))
      refine wp_iload (i := 7) dL_transact_393 rfl ?_
      refine wp_iconst (nI 4) dL_transact_395 (by decide) ?_
      refine wp_icmp_neN 424 dL_transact_396 (by decide) (by omega) (by decide) (fun c_396 => ?_) (fun c_396 => absurd c_396 (by omega))
      refine wp_iload (i := 7) dL_transact_424 rfl ?_
      refine wp_iconst (nI 5) dL_transact_426 (by decide) ?_
      refine wp_icmp_neN 444 dL_transact_427 (by decide) (by omega) (by decide) (fun c_427 => absurd c_427 (by omega)) (fun c_427 => ?_)
      refine wp_aload_n (i := 0) dL_transact_430 rfl rfl ?_
      refine wp_bipush (nI 20) dL_transact_431 (by decide) ?_
      refine wp_iload (i := 5) dL_transact_433 rfl ?_
      refine wp_iload (i := 6) dL_transact_435 rfl ?_
      refine wp_iconst (nI 0) dL_transact_437 (by decide) ?_
      refine wp_cSH (y' := m_L_deed) [vr (some (nm 40 0)), vi (nI 20), vi (nI t), vi (nI r), vi (nI 0)] [] 6 40 dL_transact_438 ml_L_191 st_L_deed okH_L_deed rfl (Nat.le_of_ble_eq_true rfl) rfl (Nat.le_of_ble_eq_true rfl) (d' := d - 1) (by omega) (by omega) (by omega) (e_ensure (t := t) (by omega) (r := r) (by omega) B (by omega) C3 (by omega) (by omega) (by omega) (fun h4 C4 F4 => cont_ret ?_))
      rw [eo] at C4
      rw [show dA [-20002, -20001, -20003] (o_ensure R (nI t) t (nI r) r) = -20003 from by rw [eo]; rfl]
      have H4 := H3.fk F4
      refine wp_goto 464 dL_transact_441 (by decide) ?_
      refine wp_istore (i := 11) (lv' := [(11, vi (-20003)), (10, vi (nI (RS_mo R))), (9, vi (nI ((RS_lg R).length))), (8, vi zb), (7, vi (nI w)), (6, vi (nI r)), (5, vi (nI t)), (0, vr (some (nm 40 0))), (1, vr (some nS)), (2, vi (nI i)), (3, vr (some (nm 70 1))), (4, vr (some (nm 70 2)))]) dL_transact_464 (by decide) rfl ?_
      refine wp_iload (i := 6) dL_transact_466 rfl ?_
      refine wp_aload_n (i := 3) dL_transact_468 rfl rfl ?_
      refine wp_iconst (nI 2) dL_transact_469 (by decide) ?_
      refine wp_ialoadN 3 (nI (RS_rn R)) dL_transact_470 H4.2.2.2.1.1 H4.2.2.2.1.2.1 (by decide) (by decide) (H4.2.2.2.1.2.2.2.2) ?_
      refine wp_icmp_ltN 488 dL_transact_471 (by decide) (by omega) (by omega) (fun c_471 => ?_) (fun c_471 => absurd c_471 (by omega))
      refine wp_aload (i := 4) dL_transact_488 rfl ?_
      refine wp_iload (i := 5) dL_transact_490 rfl ?_
      refine wp_zaloadN 3 (bI (op t)) dL_transact_492 H4.2.2.2.2.1.1 H4.2.2.2.2.1.2.1 (by omega) (by decide) (H4.2.2.2.2.1.2.2 t ht) ?_
      refine wp_if_neB 510 dL_transact_493 (by decide) (fun c_493 => absurd c_493 (by rw [hopn]; decide)) (fun c_493 => ?_)
      refine wp_iload (i := 11) dL_transact_496 rfl ?_
      refine wp_sipush (-20003) dL_transact_498 (by decide) ?_
      refine wp_icmp_ne 508 dL_transact_501 (by decide) (fun c_501 => absurd c_501 (fun z => z rfl)) (fun c_501 => ?_)
      refine wp_iconst (nI 1) dL_transact_504 (by decide) ?_
      refine wp_goto 509 dL_transact_505 (by decide) ?_
      refine wp_zreturn dL_transact_509 rfl (by decide) ?_
      exact hq _ c R _ (by omega) C4 B HI.up HO (by unfold czN; rw [if_neg (by omega)]; omega) (by exact H4)
    | true =>
      have hopn : op t = true := (HO t ht).trans hop
      rcases rx_ensure ht h6 hrn hop HI with ⟨S', eo, ri, so, sam, bk⟩ | ⟨S', eo, ri, so, sam, bk⟩
      · skip
        have q9 : RB (c + 1) (o_ensure R (nI t) t (nI r) r).2.2 := RB_ensure B.2.2.2.2.1 (by omega) (ixk (by omega) (by decide))
        have l9 : LFS R (o_ensure R (nI t) t (nI r) r).2.2 := f_ensure
        rw [eo] at q9 l9
        have B' : PU (c + 1) V n x S' := B.r q9 l9
        have fl9 : flg S' ≤ flg R + 1 := l9.2
        refine wp_aload_n (i := 0) dL_transact_154 rfl rfl ?_
        refine wp_bipush (nI 10) dL_transact_155 (by decide) ?_
        refine wp_iload (i := 5) dL_transact_157 rfl ?_
        refine wp_iconst (nI 0) dL_transact_159 (by decide) ?_
        refine wp_cSH (y' := m_L_ask) [vr (some (nm 40 0)), vi (nI 10), vi (nI t), vi (nI 0)] [] 6 40 dL_transact_160 ml_L_184 st_L_ask okH_L_ask rfl (Nat.le_of_ble_eq_true rfl) rfl (Nat.le_of_ble_eq_true rfl) (d' := d - 1) (by omega) (by omega) (by omega) (q_sentBack (t := t) (by omega) B (by omega) C (by omega) (by omega) (by omega) (fun h1 C1 F1 => cont_ret ?_))
        rw [r_sentBack] at C1
        rw [show dA [-20002] (o_sentBack R (nI t) t) = zb from by rw [rx_sent ht]; exact ezb]
        have H1 := H.fk F1
        refine wp_istore (i := 8) (lv' := [(8, vi zb), (7, vi (nI w)), (6, vi (nI r)), (5, vi (nI t)), (0, vr (some (nm 40 0))), (1, vr (some nS)), (2, vi (nI i)), (3, vr (some (nm 70 1))), (4, vr (some (nm 70 2)))]) dL_transact_163 (by decide) rfl ?_
        refine wp_aload_n (i := 0) dL_transact_165 rfl rfl ?_
        refine wp_cV (y' := m_X11_logged) 12 [] [] 6 40 dL_transact_166 ml_L_217 im_X11_logged se_X11_logged (by decide) C1.hk ok_X11_logged rfl (Nat.le_of_ble_eq_true rfl) rfl (Nat.le_of_ble_eq_true rfl) (d' := d - 1) (by omega) (by omega) (by omega) (g_logged B (by omega) C1 (by omega) (by omega) (by omega) (fun h2 C2 F2 => cont_ret ?_))
        have H2 := H1.fk F2
        refine wp_istore (i := 9) (lv' := [(9, vi (nI ((RS_lg R).length))), (8, vi zb), (7, vi (nI w)), (6, vi (nI r)), (5, vi (nI t)), (0, vr (some (nm 40 0))), (1, vr (some nS)), (2, vi (nI i)), (3, vr (some (nm 70 1))), (4, vr (some (nm 70 2)))]) dL_transact_169 (by decide) rfl ?_
        refine wp_aload_n (i := 0) dL_transact_171 rfl rfl ?_
        refine wp_cV (y' := m_X11_moment) 12 [] [] 6 40 dL_transact_172 ml_L_214 im_X11_moment se_X11_moment (by decide) C2.hk ok_X11_moment rfl (Nat.le_of_ble_eq_true rfl) rfl (Nat.le_of_ble_eq_true rfl) (d' := d - 1) (by omega) (by omega) (by omega) (g_moment B (by omega) C2 (by omega) (by omega) (by omega) (fun h3 C3 F3 => cont_ret ?_))
        have H3 := H2.fk F3
        refine wp_istore (i := 10) (lv' := [(10, vi (nI (RS_mo R))), (9, vi (nI ((RS_lg R).length))), (8, vi zb), (7, vi (nI w)), (6, vi (nI r)), (5, vi (nI t)), (0, vr (some (nm 40 0))), (1, vr (some nS)), (2, vi (nI i)), (3, vr (some (nm 70 1))), (4, vr (some (nm 70 2)))]) dL_transact_175 (by decide) rfl ?_
        refine wp_iload (i := 7) dL_transact_177 rfl ?_
        refine wp_bipush (nI 6) dL_transact_179 (by decide) ?_
        refine wp_icmp_leN 373 dL_transact_181 (by decide) (by omega) (by decide) (fun c_181 => ?_) (fun c_181 => absurd c_181 (by omega))
        refine wp_iload (i := 7) dL_transact_373 rfl ?_
        refine wp_iconst (nI 3) dL_transact_375 (by decide) ?_
        refine wp_icmp_neN 393 dL_transact_376 (by decide) (by omega) (by decide) (fun c_376 => ?_) (fun c_376 => absurd c_376 (by omega))
        refine wp_iload (i := 7) dL_transact_393 rfl ?_
        refine wp_iconst (nI 4) dL_transact_395 (by decide) ?_
        refine wp_icmp_neN 424 dL_transact_396 (by decide) (by omega) (by decide) (fun c_396 => ?_) (fun c_396 => absurd c_396 (by omega))
        refine wp_iload (i := 7) dL_transact_424 rfl ?_
        refine wp_iconst (nI 5) dL_transact_426 (by decide) ?_
        refine wp_icmp_neN 444 dL_transact_427 (by decide) (by omega) (by decide) (fun c_427 => absurd c_427 (by omega)) (fun c_427 => ?_)
        refine wp_aload_n (i := 0) dL_transact_430 rfl rfl ?_
        refine wp_bipush (nI 20) dL_transact_431 (by decide) ?_
        refine wp_iload (i := 5) dL_transact_433 rfl ?_
        refine wp_iload (i := 6) dL_transact_435 rfl ?_
        refine wp_iconst (nI 0) dL_transact_437 (by decide) ?_
        refine wp_cSH (y' := m_L_deed) [vr (some (nm 40 0)), vi (nI 20), vi (nI t), vi (nI r), vi (nI 0)] [] 6 40 dL_transact_438 ml_L_191 st_L_deed okH_L_deed rfl (Nat.le_of_ble_eq_true rfl) rfl (Nat.le_of_ble_eq_true rfl) (d' := d - 1) (by omega) (by omega) (by omega) (e_ensure (t := t) (by omega) (r := r) (by omega) B (by omega) C3 (by omega) (by omega) (by omega) (fun h4 C4 F4 => cont_ret ?_))
        rw [eo] at C4
        rw [show dA [-20002, -20001, -20003] (o_ensure R (nI t) t (nI r) r) = nI 0 from by rw [eo]; rfl]
        have H4 := H3.fk F4
        refine wp_goto 464 dL_transact_441 (by decide) ?_
        refine wp_istore (i := 11) (lv' := [(11, vi (nI 0)), (10, vi (nI (RS_mo R))), (9, vi (nI ((RS_lg R).length))), (8, vi zb), (7, vi (nI w)), (6, vi (nI r)), (5, vi (nI t)), (0, vr (some (nm 40 0))), (1, vr (some nS)), (2, vi (nI i)), (3, vr (some (nm 70 1))), (4, vr (some (nm 70 2)))]) dL_transact_464 (by decide) rfl ?_
        refine wp_iload (i := 6) dL_transact_466 rfl ?_
        refine wp_aload_n (i := 3) dL_transact_468 rfl rfl ?_
        refine wp_iconst (nI 2) dL_transact_469 (by decide) ?_
        refine wp_ialoadN 3 (nI (RS_rn R)) dL_transact_470 H4.2.2.2.1.1 H4.2.2.2.1.2.1 (by decide) (by decide) (H4.2.2.2.1.2.2.2.2) ?_
        refine wp_icmp_ltN 488 dL_transact_471 (by decide) (by omega) (by omega) (fun c_471 => ?_) (fun c_471 => absurd c_471 (by omega))
        refine wp_aload (i := 4) dL_transact_488 rfl ?_
        refine wp_iload (i := 5) dL_transact_490 rfl ?_
        refine wp_zaloadN 3 (bI (op t)) dL_transact_492 H4.2.2.2.2.1.1 H4.2.2.2.2.1.2.1 (by omega) (by decide) (H4.2.2.2.2.1.2.2 t ht) ?_
        refine wp_if_neB 510 dL_transact_493 (by decide) (fun c_493 => ?_) (fun c_493 => absurd c_493 (by rw [hopn]; decide))
        refine wp_iload (i := 7) dL_transact_510 rfl ?_
        refine wp_iconst (nI 3) dL_transact_512 (by decide) ?_
        refine wp_icmp_neN 532 dL_transact_513 (by decide) (by omega) (by decide) (fun c_513 => ?_) (fun c_513 => absurd c_513 (by omega))
        refine wp_iload (i := 11) dL_transact_532 rfl ?_
        refine wp_if_neN 541 dL_transact_534 (by decide) (by decide) (fun c_534 => absurd c_534 (by decide)) (fun c_534 => ?_)
        refine wp_iconst (nI 1) dL_transact_537 (by decide) ?_
        refine wp_goto 542 dL_transact_538 (by decide) ?_
        refine wp_istore (i := 12) (lv' := [(12, vi (nI 1)), (11, vi (nI 0)), (10, vi (nI (RS_mo R))), (9, vi (nI ((RS_lg R).length))), (8, vi zb), (7, vi (nI w)), (6, vi (nI r)), (5, vi (nI t)), (0, vr (some (nm 40 0))), (1, vr (some nS)), (2, vi (nI i)), (3, vr (some (nm 70 1))), (4, vr (some (nm 70 2)))]) dL_transact_542 (by decide) rfl ?_
        refine wp_iload (i := 11) dL_transact_544 rfl ?_
        refine wp_sipush (-20004) dL_transact_546 (by decide) ?_
        refine wp_icmp_ne 565 dL_transact_549 (by decide) (fun c_549 => ?_) (fun c_549 => absurd c_549 (by decide))
        refine wp_aload_n (i := 0) dL_transact_565 rfl rfl ?_
        refine wp_bipush (nI 10) dL_transact_566 (by decide) ?_
        refine wp_iload (i := 5) dL_transact_568 rfl ?_
        refine wp_iconst (nI 0) dL_transact_570 (by decide) ?_
        refine wp_cSH (y' := m_L_ask) [vr (some (nm 40 0)), vi (nI 10), vi (nI t), vi (nI 0)] [] 6 40 dL_transact_571 ml_L_184 st_L_ask okH_L_ask rfl (Nat.le_of_ble_eq_true rfl) rfl (Nat.le_of_ble_eq_true rfl) (d' := d - 1) (by omega) (by omega) (by omega) (q_sentBack (t := t) (by omega) B' (by omega) C4 (by omega) (by omega) (by omega) (fun h5 C5 F5 => cont_ret ?_))
        rw [r_sentBack] at C5
        rw [show dA [-20002] (o_sentBack S' (nI t) t) = zb + nI 1 from by rw [rx_sent ht]; show nI (OT_bk (RS_tt S' t)) = zb + nI 1; rw [bk, ← nI_add, ezb]]
        have H5 := H4.fk F5
        refine wp_iload (i := 8) dL_transact_574 rfl ?_
        refine wp_iload (i := 12) dL_transact_576 rfl ?_
        refine wp_cS (y' := m_L_told) [vi (bI true)] [vi zb, vi (zb + nI 1)] 0 0 dL_transact_578 ml_L_83 st_L_told ok_L_told rfl (Nat.le_of_ble_eq_true rfl) rfl (Nat.le_of_ble_eq_true rfl) (d' := d - 1) (by omega) (Nat.zero_le _) (Nat.zero_le _) (c_L_told (b := true) (cont_ret ?_))
        rw [show bI true = (nI 1) from rfl]
        refine wp_iadd dL_transact_581 ?_
        refine wp_icmp_ne 635 dL_transact_582 (by decide) (fun c_582 => absurd c_582 (fun z => z rfl)) (fun c_582 => ?_)
        refine wp_aload_n (i := 0) dL_transact_585 rfl rfl ?_
        refine wp_cV (y' := m_X11_logged) 12 [] [] 6 40 dL_transact_586 ml_L_217 im_X11_logged se_X11_logged (by decide) C5.hk ok_X11_logged rfl (Nat.le_of_ble_eq_true rfl) rfl (Nat.le_of_ble_eq_true rfl) (d' := d - 1) (by omega) (by omega) (by omega) (g_logged B' (by omega) C5 (by omega) (by omega) (by omega) (fun h6 C6 F6 => cont_ret ?_))
        rw [sam.1]
        have H6 := H5.fk F6
        refine wp_iload (i := 9) dL_transact_589 rfl ?_
        refine wp_icmp_neN 635 dL_transact_591 (by decide) (by omega) (by omega) (fun c_591 => absurd c_591 (by omega)) (fun c_591 => ?_)
        refine wp_iload (i := 7) dL_transact_594 rfl ?_
        refine wp_iconst (nI 4) dL_transact_596 (by decide) ?_
        refine wp_icmp_neN 631 dL_transact_597 (by decide) (by omega) (by decide) (fun c_597 => ?_) (fun c_597 => absurd c_597 (by omega))
        refine wp_iconst (nI 1) dL_transact_631 (by decide) ?_
        refine wp_goto 636 dL_transact_632 (by decide) ?_
        refine wp_zreturn dL_transact_636 rfl (by decide) ?_
        exact hq _ (c + 1) S' _ (by omega) C6 B' ri (HO.same so) (by unfold czN; rw [if_neg (by omega)]; omega) (by rw [sam.2.2]; exact H6)
      · skip
        have q9 : RB (c + 1) (o_ensure R (nI t) t (nI r) r).2.2 := RB_ensure B.2.2.2.2.1 (by omega) (ixk (by omega) (by decide))
        have l9 : LFS R (o_ensure R (nI t) t (nI r) r).2.2 := f_ensure
        rw [eo] at q9 l9
        have B' : PU (c + 1) V n x S' := B.r q9 l9
        have fl9 : flg S' ≤ flg R + 1 := l9.2
        refine wp_aload_n (i := 0) dL_transact_154 rfl rfl ?_
        refine wp_bipush (nI 10) dL_transact_155 (by decide) ?_
        refine wp_iload (i := 5) dL_transact_157 rfl ?_
        refine wp_iconst (nI 0) dL_transact_159 (by decide) ?_
        refine wp_cSH (y' := m_L_ask) [vr (some (nm 40 0)), vi (nI 10), vi (nI t), vi (nI 0)] [] 6 40 dL_transact_160 ml_L_184 st_L_ask okH_L_ask rfl (Nat.le_of_ble_eq_true rfl) rfl (Nat.le_of_ble_eq_true rfl) (d' := d - 1) (by omega) (by omega) (by omega) (q_sentBack (t := t) (by omega) B (by omega) C (by omega) (by omega) (by omega) (fun h1 C1 F1 => cont_ret ?_))
        rw [r_sentBack] at C1
        rw [show dA [-20002] (o_sentBack R (nI t) t) = zb from by rw [rx_sent ht]; exact ezb]
        have H1 := H.fk F1
        refine wp_istore (i := 8) (lv' := [(8, vi zb), (7, vi (nI w)), (6, vi (nI r)), (5, vi (nI t)), (0, vr (some (nm 40 0))), (1, vr (some nS)), (2, vi (nI i)), (3, vr (some (nm 70 1))), (4, vr (some (nm 70 2)))]) dL_transact_163 (by decide) rfl ?_
        refine wp_aload_n (i := 0) dL_transact_165 rfl rfl ?_
        refine wp_cV (y' := m_X11_logged) 12 [] [] 6 40 dL_transact_166 ml_L_217 im_X11_logged se_X11_logged (by decide) C1.hk ok_X11_logged rfl (Nat.le_of_ble_eq_true rfl) rfl (Nat.le_of_ble_eq_true rfl) (d' := d - 1) (by omega) (by omega) (by omega) (g_logged B (by omega) C1 (by omega) (by omega) (by omega) (fun h2 C2 F2 => cont_ret ?_))
        have H2 := H1.fk F2
        refine wp_istore (i := 9) (lv' := [(9, vi (nI ((RS_lg R).length))), (8, vi zb), (7, vi (nI w)), (6, vi (nI r)), (5, vi (nI t)), (0, vr (some (nm 40 0))), (1, vr (some nS)), (2, vi (nI i)), (3, vr (some (nm 70 1))), (4, vr (some (nm 70 2)))]) dL_transact_169 (by decide) rfl ?_
        refine wp_aload_n (i := 0) dL_transact_171 rfl rfl ?_
        refine wp_cV (y' := m_X11_moment) 12 [] [] 6 40 dL_transact_172 ml_L_214 im_X11_moment se_X11_moment (by decide) C2.hk ok_X11_moment rfl (Nat.le_of_ble_eq_true rfl) rfl (Nat.le_of_ble_eq_true rfl) (d' := d - 1) (by omega) (by omega) (by omega) (g_moment B (by omega) C2 (by omega) (by omega) (by omega) (fun h3 C3 F3 => cont_ret ?_))
        have H3 := H2.fk F3
        refine wp_istore (i := 10) (lv' := [(10, vi (nI (RS_mo R))), (9, vi (nI ((RS_lg R).length))), (8, vi zb), (7, vi (nI w)), (6, vi (nI r)), (5, vi (nI t)), (0, vr (some (nm 40 0))), (1, vr (some nS)), (2, vi (nI i)), (3, vr (some (nm 70 1))), (4, vr (some (nm 70 2)))]) dL_transact_175 (by decide) rfl ?_
        refine wp_iload (i := 7) dL_transact_177 rfl ?_
        refine wp_bipush (nI 6) dL_transact_179 (by decide) ?_
        refine wp_icmp_leN 373 dL_transact_181 (by decide) (by omega) (by decide) (fun c_181 => ?_) (fun c_181 => absurd c_181 (by omega))
        refine wp_iload (i := 7) dL_transact_373 rfl ?_
        refine wp_iconst (nI 3) dL_transact_375 (by decide) ?_
        refine wp_icmp_neN 393 dL_transact_376 (by decide) (by omega) (by decide) (fun c_376 => ?_) (fun c_376 => absurd c_376 (by omega))
        refine wp_iload (i := 7) dL_transact_393 rfl ?_
        refine wp_iconst (nI 4) dL_transact_395 (by decide) ?_
        refine wp_icmp_neN 424 dL_transact_396 (by decide) (by omega) (by decide) (fun c_396 => ?_) (fun c_396 => absurd c_396 (by omega))
        refine wp_iload (i := 7) dL_transact_424 rfl ?_
        refine wp_iconst (nI 5) dL_transact_426 (by decide) ?_
        refine wp_icmp_neN 444 dL_transact_427 (by decide) (by omega) (by decide) (fun c_427 => absurd c_427 (by omega)) (fun c_427 => ?_)
        refine wp_aload_n (i := 0) dL_transact_430 rfl rfl ?_
        refine wp_bipush (nI 20) dL_transact_431 (by decide) ?_
        refine wp_iload (i := 5) dL_transact_433 rfl ?_
        refine wp_iload (i := 6) dL_transact_435 rfl ?_
        refine wp_iconst (nI 0) dL_transact_437 (by decide) ?_
        refine wp_cSH (y' := m_L_deed) [vr (some (nm 40 0)), vi (nI 20), vi (nI t), vi (nI r), vi (nI 0)] [] 6 40 dL_transact_438 ml_L_191 st_L_deed okH_L_deed rfl (Nat.le_of_ble_eq_true rfl) rfl (Nat.le_of_ble_eq_true rfl) (d' := d - 1) (by omega) (by omega) (by omega) (e_ensure (t := t) (by omega) (r := r) (by omega) B (by omega) C3 (by omega) (by omega) (by omega) (fun h4 C4 F4 => cont_ret ?_))
        rw [eo] at C4
        rw [show dA [-20002, -20001, -20003] (o_ensure R (nI t) t (nI r) r) = nI 1 from by rw [eo]; rfl]
        have H4 := H3.fk F4
        refine wp_goto 464 dL_transact_441 (by decide) ?_
        refine wp_istore (i := 11) (lv' := [(11, vi (nI 1)), (10, vi (nI (RS_mo R))), (9, vi (nI ((RS_lg R).length))), (8, vi zb), (7, vi (nI w)), (6, vi (nI r)), (5, vi (nI t)), (0, vr (some (nm 40 0))), (1, vr (some nS)), (2, vi (nI i)), (3, vr (some (nm 70 1))), (4, vr (some (nm 70 2)))]) dL_transact_464 (by decide) rfl ?_
        refine wp_iload (i := 6) dL_transact_466 rfl ?_
        refine wp_aload_n (i := 3) dL_transact_468 rfl rfl ?_
        refine wp_iconst (nI 2) dL_transact_469 (by decide) ?_
        refine wp_ialoadN 3 (nI (RS_rn R)) dL_transact_470 H4.2.2.2.1.1 H4.2.2.2.1.2.1 (by decide) (by decide) (H4.2.2.2.1.2.2.2.2) ?_
        refine wp_icmp_ltN 488 dL_transact_471 (by decide) (by omega) (by omega) (fun c_471 => ?_) (fun c_471 => absurd c_471 (by omega))
        refine wp_aload (i := 4) dL_transact_488 rfl ?_
        refine wp_iload (i := 5) dL_transact_490 rfl ?_
        refine wp_zaloadN 3 (bI (op t)) dL_transact_492 H4.2.2.2.2.1.1 H4.2.2.2.2.1.2.1 (by omega) (by decide) (H4.2.2.2.2.1.2.2 t ht) ?_
        refine wp_if_neB 510 dL_transact_493 (by decide) (fun c_493 => ?_) (fun c_493 => absurd c_493 (by rw [hopn]; decide))
        refine wp_iload (i := 7) dL_transact_510 rfl ?_
        refine wp_iconst (nI 3) dL_transact_512 (by decide) ?_
        refine wp_icmp_neN 532 dL_transact_513 (by decide) (by omega) (by decide) (fun c_513 => ?_) (fun c_513 => absurd c_513 (by omega))
        refine wp_iload (i := 11) dL_transact_532 rfl ?_
        refine wp_if_neN 541 dL_transact_534 (by decide) (by decide) (fun c_534 => ?_) (fun c_534 => absurd c_534 (by decide))
        refine wp_iconst (nI 0) dL_transact_541 (by decide) ?_
        refine wp_istore (i := 12) (lv' := [(12, vi (nI 0)), (11, vi (nI 1)), (10, vi (nI (RS_mo R))), (9, vi (nI ((RS_lg R).length))), (8, vi zb), (7, vi (nI w)), (6, vi (nI r)), (5, vi (nI t)), (0, vr (some (nm 40 0))), (1, vr (some nS)), (2, vi (nI i)), (3, vr (some (nm 70 1))), (4, vr (some (nm 70 2)))]) dL_transact_542 (by decide) rfl ?_
        refine wp_iload (i := 11) dL_transact_544 rfl ?_
        refine wp_sipush (-20004) dL_transact_546 (by decide) ?_
        refine wp_icmp_ne 565 dL_transact_549 (by decide) (fun c_549 => ?_) (fun c_549 => absurd c_549 (by decide))
        refine wp_aload_n (i := 0) dL_transact_565 rfl rfl ?_
        refine wp_bipush (nI 10) dL_transact_566 (by decide) ?_
        refine wp_iload (i := 5) dL_transact_568 rfl ?_
        refine wp_iconst (nI 0) dL_transact_570 (by decide) ?_
        refine wp_cSH (y' := m_L_ask) [vr (some (nm 40 0)), vi (nI 10), vi (nI t), vi (nI 0)] [] 6 40 dL_transact_571 ml_L_184 st_L_ask okH_L_ask rfl (Nat.le_of_ble_eq_true rfl) rfl (Nat.le_of_ble_eq_true rfl) (d' := d - 1) (by omega) (by omega) (by omega) (q_sentBack (t := t) (by omega) B' (by omega) C4 (by omega) (by omega) (by omega) (fun h5 C5 F5 => cont_ret ?_))
        rw [r_sentBack] at C5
        rw [show dA [-20002] (o_sentBack S' (nI t) t) = zb from by rw [rx_sent ht]; show nI (OT_bk (RS_tt S' t)) = zb; rw [bk]; exact ezb]
        have H5 := H4.fk F5
        refine wp_iload (i := 8) dL_transact_574 rfl ?_
        refine wp_iload (i := 12) dL_transact_576 rfl ?_
        refine wp_cS (y' := m_L_told) [vi (bI false)] [vi zb, vi zb] 0 0 dL_transact_578 ml_L_83 st_L_told ok_L_told rfl (Nat.le_of_ble_eq_true rfl) rfl (Nat.le_of_ble_eq_true rfl) (d' := d - 1) (by omega) (Nat.zero_le _) (Nat.zero_le _) (c_L_told (b := false) (cont_ret ?_))
        rw [show bI false = (nI 0) from rfl]
        refine wp_iadd dL_transact_581 ?_
        refine wp_icmp_ne 635 dL_transact_582 (by decide) (fun c_582 => absurd c_582 (fun z => z (i32_z zb))) (fun c_582 => ?_)
        refine wp_aload_n (i := 0) dL_transact_585 rfl rfl ?_
        refine wp_cV (y' := m_X11_logged) 12 [] [] 6 40 dL_transact_586 ml_L_217 im_X11_logged se_X11_logged (by decide) C5.hk ok_X11_logged rfl (Nat.le_of_ble_eq_true rfl) rfl (Nat.le_of_ble_eq_true rfl) (d' := d - 1) (by omega) (by omega) (by omega) (g_logged B' (by omega) C5 (by omega) (by omega) (by omega) (fun h6 C6 F6 => cont_ret ?_))
        rw [sam.1]
        have H6 := H5.fk F6
        refine wp_iload (i := 9) dL_transact_589 rfl ?_
        refine wp_icmp_neN 635 dL_transact_591 (by decide) (by omega) (by omega) (fun c_591 => absurd c_591 (by omega)) (fun c_591 => ?_)
        refine wp_iload (i := 7) dL_transact_594 rfl ?_
        refine wp_iconst (nI 4) dL_transact_596 (by decide) ?_
        refine wp_icmp_neN 631 dL_transact_597 (by decide) (by omega) (by decide) (fun c_597 => ?_) (fun c_597 => absurd c_597 (by omega))
        refine wp_iconst (nI 1) dL_transact_631 (by decide) ?_
        refine wp_goto 636 dL_transact_632 (by decide) ?_
        refine wp_zreturn dL_transact_636 rfl (by decide) ?_
        exact hq _ (c + 1) S' _ (by omega) C6 B' ri (HO.same so) (by unfold czN; rw [if_neg (by omega)]; omega) (by rw [sam.2.2]; exact H6)
  · have eo := (rx_idx (y := nI 0) ht (Nat.le_of_not_lt hrn) hr).2.2.1
    refine wp_aload_n (i := 0) dL_transact_154 rfl rfl ?_
    refine wp_bipush (nI 10) dL_transact_155 (by decide) ?_
    refine wp_iload (i := 5) dL_transact_157 rfl ?_
    refine wp_iconst (nI 0) dL_transact_159 (by decide) ?_
    refine wp_cSH (y' := m_L_ask) [vr (some (nm 40 0)), vi (nI 10), vi (nI t), vi (nI 0)] [] 6 40 dL_transact_160 ml_L_184 st_L_ask okH_L_ask rfl (Nat.le_of_ble_eq_true rfl) rfl (Nat.le_of_ble_eq_true rfl) (d' := d - 1) (by omega) (by omega) (by omega) (q_sentBack (t := t) (by omega) B (by omega) C (by omega) (by omega) (by omega) (fun h1 C1 F1 => cont_ret ?_))
    rw [r_sentBack] at C1
    rw [show dA [-20002] (o_sentBack R (nI t) t) = zb from by rw [rx_sent ht]; exact ezb]
    have H1 := H.fk F1
    refine wp_istore (i := 8) (lv' := [(8, vi zb), (7, vi (nI w)), (6, vi (nI r)), (5, vi (nI t)), (0, vr (some (nm 40 0))), (1, vr (some nS)), (2, vi (nI i)), (3, vr (some (nm 70 1))), (4, vr (some (nm 70 2)))]) dL_transact_163 (by decide) rfl ?_
    refine wp_aload_n (i := 0) dL_transact_165 rfl rfl ?_
    refine wp_cV (y' := m_X11_logged) 12 [] [] 6 40 dL_transact_166 ml_L_217 im_X11_logged se_X11_logged (by decide) C1.hk ok_X11_logged rfl (Nat.le_of_ble_eq_true rfl) rfl (Nat.le_of_ble_eq_true rfl) (d' := d - 1) (by omega) (by omega) (by omega) (g_logged B (by omega) C1 (by omega) (by omega) (by omega) (fun h2 C2 F2 => cont_ret ?_))
    have H2 := H1.fk F2
    refine wp_istore (i := 9) (lv' := [(9, vi (nI ((RS_lg R).length))), (8, vi zb), (7, vi (nI w)), (6, vi (nI r)), (5, vi (nI t)), (0, vr (some (nm 40 0))), (1, vr (some nS)), (2, vi (nI i)), (3, vr (some (nm 70 1))), (4, vr (some (nm 70 2)))]) dL_transact_169 (by decide) rfl ?_
    refine wp_aload_n (i := 0) dL_transact_171 rfl rfl ?_
    refine wp_cV (y' := m_X11_moment) 12 [] [] 6 40 dL_transact_172 ml_L_214 im_X11_moment se_X11_moment (by decide) C2.hk ok_X11_moment rfl (Nat.le_of_ble_eq_true rfl) rfl (Nat.le_of_ble_eq_true rfl) (d' := d - 1) (by omega) (by omega) (by omega) (g_moment B (by omega) C2 (by omega) (by omega) (by omega) (fun h3 C3 F3 => cont_ret ?_))
    have H3 := H2.fk F3
    refine wp_istore (i := 10) (lv' := [(10, vi (nI (RS_mo R))), (9, vi (nI ((RS_lg R).length))), (8, vi zb), (7, vi (nI w)), (6, vi (nI r)), (5, vi (nI t)), (0, vr (some (nm 40 0))), (1, vr (some nS)), (2, vi (nI i)), (3, vr (some (nm 70 1))), (4, vr (some (nm 70 2)))]) dL_transact_175 (by decide) rfl ?_
    refine wp_iload (i := 7) dL_transact_177 rfl ?_
    refine wp_bipush (nI 6) dL_transact_179 (by decide) ?_
    refine wp_icmp_leN 373 dL_transact_181 (by decide) (by omega) (by decide) (fun c_181 => ?_) (fun c_181 => absurd c_181 (by omega))
    refine wp_iload (i := 7) dL_transact_373 rfl ?_
    refine wp_iconst (nI 3) dL_transact_375 (by decide) ?_
    refine wp_icmp_neN 393 dL_transact_376 (by decide) (by omega) (by decide) (fun c_376 => ?_) (fun c_376 => absurd c_376 (by omega))
    refine wp_iload (i := 7) dL_transact_393 rfl ?_
    refine wp_iconst (nI 4) dL_transact_395 (by decide) ?_
    refine wp_icmp_neN 424 dL_transact_396 (by decide) (by omega) (by decide) (fun c_396 => ?_) (fun c_396 => absurd c_396 (by omega))
    refine wp_iload (i := 7) dL_transact_424 rfl ?_
    refine wp_iconst (nI 5) dL_transact_426 (by decide) ?_
    refine wp_icmp_neN 444 dL_transact_427 (by decide) (by omega) (by decide) (fun c_427 => absurd c_427 (by omega)) (fun c_427 => ?_)
    refine wp_aload_n (i := 0) dL_transact_430 rfl rfl ?_
    refine wp_bipush (nI 20) dL_transact_431 (by decide) ?_
    refine wp_iload (i := 5) dL_transact_433 rfl ?_
    refine wp_iload (i := 6) dL_transact_435 rfl ?_
    refine wp_iconst (nI 0) dL_transact_437 (by decide) ?_
    refine wp_cSH (y' := m_L_deed) [vr (some (nm 40 0)), vi (nI 20), vi (nI t), vi (nI r), vi (nI 0)] [] 6 40 dL_transact_438 ml_L_191 st_L_deed okH_L_deed rfl (Nat.le_of_ble_eq_true rfl) rfl (Nat.le_of_ble_eq_true rfl) (d' := d - 1) (by omega) (by omega) (by omega) (e_ensure (t := t) (by omega) (r := r) (by omega) B (by omega) C3 (by omega) (by omega) (by omega) (fun h4 C4 F4 => cont_ret ?_))
    rw [eo] at C4
    rw [show dA [-20002, -20001, -20003] (o_ensure R (nI t) t (nI r) r) = -20001 from by rw [eo]; rfl]
    have H4 := H3.fk F4
    refine wp_goto 464 dL_transact_441 (by decide) ?_
    refine wp_istore (i := 11) (lv' := [(11, vi (-20001)), (10, vi (nI (RS_mo R))), (9, vi (nI ((RS_lg R).length))), (8, vi zb), (7, vi (nI w)), (6, vi (nI r)), (5, vi (nI t)), (0, vr (some (nm 40 0))), (1, vr (some nS)), (2, vi (nI i)), (3, vr (some (nm 70 1))), (4, vr (some (nm 70 2)))]) dL_transact_464 (by decide) rfl ?_
    refine wp_iload (i := 6) dL_transact_466 rfl ?_
    refine wp_aload_n (i := 3) dL_transact_468 rfl rfl ?_
    refine wp_iconst (nI 2) dL_transact_469 (by decide) ?_
    refine wp_ialoadN 3 (nI (RS_rn R)) dL_transact_470 H4.2.2.2.1.1 H4.2.2.2.1.2.1 (by decide) (by decide) (H4.2.2.2.1.2.2.2.2) ?_
    refine wp_icmp_ltN 488 dL_transact_471 (by decide) (by omega) (by omega) (fun c_471 => absurd c_471 (by omega)) (fun c_471 => ?_)
    refine wp_iload (i := 11) dL_transact_474 rfl ?_
    refine wp_sipush (-20001) dL_transact_476 (by decide) ?_
    refine wp_icmp_ne 486 dL_transact_479 (by decide) (fun c_479 => absurd c_479 (fun z => z rfl)) (fun c_479 => ?_)
    refine wp_iconst (nI 1) dL_transact_482 (by decide) ?_
    refine wp_goto 487 dL_transact_483 (by decide) ?_
    refine wp_zreturn dL_transact_487 rfl (by decide) ?_
    exact hq _ c R _ (by omega) C4 B HI.up HO (by unfold czN; rw [if_neg (by omega)]; omega) (by exact H4)
set_option maxRecDepth 100000 in
set_option maxHeartbeats 4000000 in
theorem l_tr_add {G : GG} {d c n k : Nat} {Q : Pst} {V : SV} {x : Nat → QIS} {R : RS} {K J i w t r : Nat} {ro : Nat → Nat} {rf : Nat → Nat → Int32} {op : Nat → Bool} (B : PU c V n x R) (hc : c + 4 ≤ 512) (hk : k < 110) (HI : RI k R) (HO : OPI op R) (ht : t < 3) (hr : r < 6) (hw : w < 9) (hd : 40 ≤ d) (hL : slen G < 2 ^ 31) (hi : i + 200 < 2 ^ 31) {h : Hp} {M bc bs : Nat} (C : CLS h V M n x R) (H : LWH h (sNv V) n (RS_rn R) ro rf K J op) (hbc : 150 ≤ bc) (hbs : 1500 + 1100 * czN w t R ≤ bs) (hq : ∀ h' c' R' op', c' ≤ c + 4 → CLS h' V M n x R' → PU c' V n x R' → RI (k + 1) R' → OPI op' R' → flg R' + czN w t R ≤ flg R + 2 → LWH h' (sNv V) n (RS_rn R') ro rf K J op' → Q (oRet (vi (nI 1))) h') (hw2 : w < 7) (hw3 : w ≠ 3) (hw4 : w ≠ 4) (hw5 : w ≠ 5) : WP G m_L_transact d 154 [(7, vi (nI w)), (6, vi (nI r)), (5, vi (nI t)), (0, vr (some (nm 40 0))), (1, vr (some nS)), (2, vi (nI i)), (3, vr (some (nm 70 1))), (4, vr (some (nm 70 2)))] [] h bc bs Q := by
  have h6 : RS_rn R ≤ 6 := B.2.2.2.2.1.1.2.1
  have hmo : RS_mo R ≤ c := B.2.2.2.2.1.1.2.2.2.1
  have hlg : (RS_lg R).length ≤ 6 * c := B.2.2.2.2.1.1.2.2.2.2.2.1
  obtain ⟨zb, ezb⟩ : ∃ z, nI (OT_bk (RS_tt R t)) = z := ⟨_, rfl⟩
  have hbk := (HI.1 t ht).1.1
  by_cases hrn : r < RS_rn R
  · cases hop : OT_op (RS_tt R t) with
    | false =>
      have hopn : op t = false := (HO t ht).trans hop
      have eo := (rx_shut (y := (nI (pkV G (i + 3) 5) - nI 2)) ht h6 hrn hop).2.2.2
      refine wp_aload_n (i := 0) dL_transact_154 rfl rfl ?_
      refine wp_bipush (nI 10) dL_transact_155 (by decide) ?_
      refine wp_iload (i := 5) dL_transact_157 rfl ?_
      refine wp_iconst (nI 0) dL_transact_159 (by decide) ?_
      refine wp_cSH (y' := m_L_ask) [vr (some (nm 40 0)), vi (nI 10), vi (nI t), vi (nI 0)] [] 6 40 dL_transact_160 ml_L_184 st_L_ask okH_L_ask rfl (Nat.le_of_ble_eq_true rfl) rfl (Nat.le_of_ble_eq_true rfl) (d' := d - 1) (by omega) (by omega) (by omega) (q_sentBack (t := t) (by omega) B (by omega) C (by omega) (by omega) (by omega) (fun h1 C1 F1 => cont_ret ?_))
      rw [r_sentBack] at C1
      rw [show dA [-20002] (o_sentBack R (nI t) t) = zb from by rw [rx_sent ht]; exact ezb]
      have H1 := H.fk F1
      refine wp_istore (i := 8) (lv' := [(8, vi zb), (7, vi (nI w)), (6, vi (nI r)), (5, vi (nI t)), (0, vr (some (nm 40 0))), (1, vr (some nS)), (2, vi (nI i)), (3, vr (some (nm 70 1))), (4, vr (some (nm 70 2)))]) dL_transact_163 (by decide) rfl ?_
      refine wp_aload_n (i := 0) dL_transact_165 rfl rfl ?_
      refine wp_cV (y' := m_X11_logged) 12 [] [] 6 40 dL_transact_166 ml_L_217 im_X11_logged se_X11_logged (by decide) C1.hk ok_X11_logged rfl (Nat.le_of_ble_eq_true rfl) rfl (Nat.le_of_ble_eq_true rfl) (d' := d - 1) (by omega) (by omega) (by omega) (g_logged B (by omega) C1 (by omega) (by omega) (by omega) (fun h2 C2 F2 => cont_ret ?_))
      have H2 := H1.fk F2
      refine wp_istore (i := 9) (lv' := [(9, vi (nI ((RS_lg R).length))), (8, vi zb), (7, vi (nI w)), (6, vi (nI r)), (5, vi (nI t)), (0, vr (some (nm 40 0))), (1, vr (some nS)), (2, vi (nI i)), (3, vr (some (nm 70 1))), (4, vr (some (nm 70 2)))]) dL_transact_169 (by decide) rfl ?_
      refine wp_aload_n (i := 0) dL_transact_171 rfl rfl ?_
      refine wp_cV (y' := m_X11_moment) 12 [] [] 6 40 dL_transact_172 ml_L_214 im_X11_moment se_X11_moment (by decide) C2.hk ok_X11_moment rfl (Nat.le_of_ble_eq_true rfl) rfl (Nat.le_of_ble_eq_true rfl) (d' := d - 1) (by omega) (by omega) (by omega) (g_moment B (by omega) C2 (by omega) (by omega) (by omega) (fun h3 C3 F3 => cont_ret ?_))
      have H3 := H2.fk F3
      refine wp_istore (i := 10) (lv' := [(10, vi (nI (RS_mo R))), (9, vi (nI ((RS_lg R).length))), (8, vi zb), (7, vi (nI w)), (6, vi (nI r)), (5, vi (nI t)), (0, vr (some (nm 40 0))), (1, vr (some nS)), (2, vi (nI i)), (3, vr (some (nm 70 1))), (4, vr (some (nm 70 2)))]) dL_transact_175 (by decide) rfl ?_
      refine wp_iload (i := 7) dL_transact_177 rfl ?_
      refine wp_bipush (nI 6) dL_transact_179 (by decide) ?_
      refine wp_icmp_leN 373 dL_transact_181 (by decide) (by omega) (by decide) (fun c_181 => ?_) (fun c_181 => absurd c_181 (by omega))
      refine wp_iload (i := 7) dL_transact_373 rfl ?_
      refine wp_iconst (nI 3) dL_transact_375 (by decide) ?_
      refine wp_icmp_neN 393 dL_transact_376 (by decide) (by omega) (by decide) (fun c_376 => ?_) (fun c_376 => absurd c_376 (by omega))
      refine wp_iload (i := 7) dL_transact_393 rfl ?_
      refine wp_iconst (nI 4) dL_transact_395 (by decide) ?_
      refine wp_icmp_neN 424 dL_transact_396 (by decide) (by omega) (by decide) (fun c_396 => ?_) (fun c_396 => absurd c_396 (by omega))
      refine wp_iload (i := 7) dL_transact_424 rfl ?_
      refine wp_iconst (nI 5) dL_transact_426 (by decide) ?_
      refine wp_icmp_neN 444 dL_transact_427 (by decide) (by omega) (by decide) (fun c_427 => ?_) (fun c_427 => absurd c_427 (by omega))
      refine wp_aload_n (i := 0) dL_transact_444 rfl rfl ?_
      refine wp_bipush (nI 21) dL_transact_445 (by decide) ?_
      refine wp_iload (i := 5) dL_transact_447 rfl ?_
      refine wp_iload (i := 6) dL_transact_449 rfl ?_
      refine wp_aload_n (i := 1) dL_transact_451 rfl rfl ?_
      refine wp_iload_n (i := 2) dL_transact_452 rfl rfl ?_
      refine wp_iconst (nI 3) dL_transact_453 (by decide) ?_
      refine wp_iaddN dL_transact_454 ?_
      refine wp_iconst (nI 5) dL_transact_455 (by decide) ?_
      refine wp_cS (y' := m_L_pick) [vr (some nS), vi (nI (i + 3)), vi (nI 5)] [vi (nI r), vi (nI t), vi (nI 21), vr (some (nm 40 0))] 0 0 dL_transact_456 ml_L_199 st_L_pick ok_L_pick rfl (Nat.le_of_ble_eq_true rfl) rfl (Nat.le_of_ble_eq_true rfl) (d' := d - 1) (by omega) (Nat.zero_le _) (Nat.zero_le _) (c_L_pick (by omega) (by decide) (by omega) hL (by omega) (cont_ret ?_))
      refine wp_iconst (nI 2) dL_transact_459 (by decide) ?_
      refine wp_isub dL_transact_460 ?_
      refine wp_cSH (y' := m_L_deed) [vr (some (nm 40 0)), vi (nI 21), vi (nI t), vi (nI r), vi ((nI (pkV G (i + 3) 5)) - (nI 2))] [] 6 40 dL_transact_461 ml_L_191 st_L_deed okH_L_deed rfl (Nat.le_of_ble_eq_true rfl) rfl (Nat.le_of_ble_eq_true rfl) (d' := d - 1) (by omega) (by omega) (by omega) (e_add (t := t) (by omega) (r := r) (by omega) B (by omega) C3 (by omega) (by omega) (by omega) (fun h4 C4 F4 => cont_ret ?_))
      rw [eo] at C4
      rw [show dA [-20002, -20001, -20003, -20004] (o_add R (nI t) t (nI r) r (nI (pkV G (i + 3) 5) - nI 2)) = -20003 from by rw [eo]; rfl]
      have H4 := H3.fk F4
      refine wp_istore (i := 11) (lv' := [(11, vi (-20003)), (10, vi (nI (RS_mo R))), (9, vi (nI ((RS_lg R).length))), (8, vi zb), (7, vi (nI w)), (6, vi (nI r)), (5, vi (nI t)), (0, vr (some (nm 40 0))), (1, vr (some nS)), (2, vi (nI i)), (3, vr (some (nm 70 1))), (4, vr (some (nm 70 2)))]) dL_transact_464 (by decide) rfl ?_
      refine wp_iload (i := 6) dL_transact_466 rfl ?_
      refine wp_aload_n (i := 3) dL_transact_468 rfl rfl ?_
      refine wp_iconst (nI 2) dL_transact_469 (by decide) ?_
      refine wp_ialoadN 3 (nI (RS_rn R)) dL_transact_470 H4.2.2.2.1.1 H4.2.2.2.1.2.1 (by decide) (by decide) (H4.2.2.2.1.2.2.2.2) ?_
      refine wp_icmp_ltN 488 dL_transact_471 (by decide) (by omega) (by omega) (fun c_471 => ?_) (fun c_471 => absurd c_471 (by omega))
      refine wp_aload (i := 4) dL_transact_488 rfl ?_
      refine wp_iload (i := 5) dL_transact_490 rfl ?_
      refine wp_zaloadN 3 (bI (op t)) dL_transact_492 H4.2.2.2.2.1.1 H4.2.2.2.2.1.2.1 (by omega) (by decide) (H4.2.2.2.2.1.2.2 t ht) ?_
      refine wp_if_neB 510 dL_transact_493 (by decide) (fun c_493 => absurd c_493 (by rw [hopn]; decide)) (fun c_493 => ?_)
      refine wp_iload (i := 11) dL_transact_496 rfl ?_
      refine wp_sipush (-20003) dL_transact_498 (by decide) ?_
      refine wp_icmp_ne 508 dL_transact_501 (by decide) (fun c_501 => absurd c_501 (fun z => z rfl)) (fun c_501 => ?_)
      refine wp_iconst (nI 1) dL_transact_504 (by decide) ?_
      refine wp_goto 509 dL_transact_505 (by decide) ?_
      refine wp_zreturn dL_transact_509 rfl (by decide) ?_
      exact hq _ c R _ (by omega) C4 B HI.up HO (by unfold czN; rw [if_neg (by omega)]; omega) (by exact H4)
    | true =>
      have hopn : op t = true := (HO t ht).trans hop
      rcases rx_add (y := (nI (pkV G (i + 3) 5) - nI 2)) ht h6 hrn hop HI with eo | ⟨S', eo, ri, so, sam, bk⟩
      · by_cases hw6 : w = 6
        · skip
          refine wp_aload_n (i := 0) dL_transact_154 rfl rfl ?_
          refine wp_bipush (nI 10) dL_transact_155 (by decide) ?_
          refine wp_iload (i := 5) dL_transact_157 rfl ?_
          refine wp_iconst (nI 0) dL_transact_159 (by decide) ?_
          refine wp_cSH (y' := m_L_ask) [vr (some (nm 40 0)), vi (nI 10), vi (nI t), vi (nI 0)] [] 6 40 dL_transact_160 ml_L_184 st_L_ask okH_L_ask rfl (Nat.le_of_ble_eq_true rfl) rfl (Nat.le_of_ble_eq_true rfl) (d' := d - 1) (by omega) (by omega) (by omega) (q_sentBack (t := t) (by omega) B (by omega) C (by omega) (by omega) (by omega) (fun h1 C1 F1 => cont_ret ?_))
          rw [r_sentBack] at C1
          rw [show dA [-20002] (o_sentBack R (nI t) t) = zb from by rw [rx_sent ht]; exact ezb]
          have H1 := H.fk F1
          refine wp_istore (i := 8) (lv' := [(8, vi zb), (7, vi (nI w)), (6, vi (nI r)), (5, vi (nI t)), (0, vr (some (nm 40 0))), (1, vr (some nS)), (2, vi (nI i)), (3, vr (some (nm 70 1))), (4, vr (some (nm 70 2)))]) dL_transact_163 (by decide) rfl ?_
          refine wp_aload_n (i := 0) dL_transact_165 rfl rfl ?_
          refine wp_cV (y' := m_X11_logged) 12 [] [] 6 40 dL_transact_166 ml_L_217 im_X11_logged se_X11_logged (by decide) C1.hk ok_X11_logged rfl (Nat.le_of_ble_eq_true rfl) rfl (Nat.le_of_ble_eq_true rfl) (d' := d - 1) (by omega) (by omega) (by omega) (g_logged B (by omega) C1 (by omega) (by omega) (by omega) (fun h2 C2 F2 => cont_ret ?_))
          have H2 := H1.fk F2
          refine wp_istore (i := 9) (lv' := [(9, vi (nI ((RS_lg R).length))), (8, vi zb), (7, vi (nI w)), (6, vi (nI r)), (5, vi (nI t)), (0, vr (some (nm 40 0))), (1, vr (some nS)), (2, vi (nI i)), (3, vr (some (nm 70 1))), (4, vr (some (nm 70 2)))]) dL_transact_169 (by decide) rfl ?_
          refine wp_aload_n (i := 0) dL_transact_171 rfl rfl ?_
          refine wp_cV (y' := m_X11_moment) 12 [] [] 6 40 dL_transact_172 ml_L_214 im_X11_moment se_X11_moment (by decide) C2.hk ok_X11_moment rfl (Nat.le_of_ble_eq_true rfl) rfl (Nat.le_of_ble_eq_true rfl) (d' := d - 1) (by omega) (by omega) (by omega) (g_moment B (by omega) C2 (by omega) (by omega) (by omega) (fun h3 C3 F3 => cont_ret ?_))
          have H3 := H2.fk F3
          refine wp_istore (i := 10) (lv' := [(10, vi (nI (RS_mo R))), (9, vi (nI ((RS_lg R).length))), (8, vi zb), (7, vi (nI w)), (6, vi (nI r)), (5, vi (nI t)), (0, vr (some (nm 40 0))), (1, vr (some nS)), (2, vi (nI i)), (3, vr (some (nm 70 1))), (4, vr (some (nm 70 2)))]) dL_transact_175 (by decide) rfl ?_
          refine wp_iload (i := 7) dL_transact_177 rfl ?_
          refine wp_bipush (nI 6) dL_transact_179 (by decide) ?_
          refine wp_icmp_leN 373 dL_transact_181 (by decide) (by omega) (by decide) (fun c_181 => ?_) (fun c_181 => absurd c_181 (by omega))
          refine wp_iload (i := 7) dL_transact_373 rfl ?_
          refine wp_iconst (nI 3) dL_transact_375 (by decide) ?_
          refine wp_icmp_neN 393 dL_transact_376 (by decide) (by omega) (by decide) (fun c_376 => ?_) (fun c_376 => absurd c_376 (by omega))
          refine wp_iload (i := 7) dL_transact_393 rfl ?_
          refine wp_iconst (nI 4) dL_transact_395 (by decide) ?_
          refine wp_icmp_neN 424 dL_transact_396 (by decide) (by omega) (by decide) (fun c_396 => ?_) (fun c_396 => absurd c_396 (by omega))
          refine wp_iload (i := 7) dL_transact_424 rfl ?_
          refine wp_iconst (nI 5) dL_transact_426 (by decide) ?_
          refine wp_icmp_neN 444 dL_transact_427 (by decide) (by omega) (by decide) (fun c_427 => ?_) (fun c_427 => absurd c_427 (by omega))
          refine wp_aload_n (i := 0) dL_transact_444 rfl rfl ?_
          refine wp_bipush (nI 21) dL_transact_445 (by decide) ?_
          refine wp_iload (i := 5) dL_transact_447 rfl ?_
          refine wp_iload (i := 6) dL_transact_449 rfl ?_
          refine wp_aload_n (i := 1) dL_transact_451 rfl rfl ?_
          refine wp_iload_n (i := 2) dL_transact_452 rfl rfl ?_
          refine wp_iconst (nI 3) dL_transact_453 (by decide) ?_
          refine wp_iaddN dL_transact_454 ?_
          refine wp_iconst (nI 5) dL_transact_455 (by decide) ?_
          refine wp_cS (y' := m_L_pick) [vr (some nS), vi (nI (i + 3)), vi (nI 5)] [vi (nI r), vi (nI t), vi (nI 21), vr (some (nm 40 0))] 0 0 dL_transact_456 ml_L_199 st_L_pick ok_L_pick rfl (Nat.le_of_ble_eq_true rfl) rfl (Nat.le_of_ble_eq_true rfl) (d' := d - 1) (by omega) (Nat.zero_le _) (Nat.zero_le _) (c_L_pick (by omega) (by decide) (by omega) hL (by omega) (cont_ret ?_))
          refine wp_iconst (nI 2) dL_transact_459 (by decide) ?_
          refine wp_isub dL_transact_460 ?_
          refine wp_cSH (y' := m_L_deed) [vr (some (nm 40 0)), vi (nI 21), vi (nI t), vi (nI r), vi ((nI (pkV G (i + 3) 5)) - (nI 2))] [] 6 40 dL_transact_461 ml_L_191 st_L_deed okH_L_deed rfl (Nat.le_of_ble_eq_true rfl) rfl (Nat.le_of_ble_eq_true rfl) (d' := d - 1) (by omega) (by omega) (by omega) (e_add (t := t) (by omega) (r := r) (by omega) B (by omega) C3 (by omega) (by omega) (by omega) (fun h4 C4 F4 => cont_ret ?_))
          rw [eo] at C4
          rw [show dA [-20002, -20001, -20003, -20004] (o_add R (nI t) t (nI r) r (nI (pkV G (i + 3) 5) - nI 2)) = -20004 from by rw [eo]; rfl]
          have H4 := H3.fk F4
          refine wp_istore (i := 11) (lv' := [(11, vi (-20004)), (10, vi (nI (RS_mo R))), (9, vi (nI ((RS_lg R).length))), (8, vi zb), (7, vi (nI w)), (6, vi (nI r)), (5, vi (nI t)), (0, vr (some (nm 40 0))), (1, vr (some nS)), (2, vi (nI i)), (3, vr (some (nm 70 1))), (4, vr (some (nm 70 2)))]) dL_transact_464 (by decide) rfl ?_
          refine wp_iload (i := 6) dL_transact_466 rfl ?_
          refine wp_aload_n (i := 3) dL_transact_468 rfl rfl ?_
          refine wp_iconst (nI 2) dL_transact_469 (by decide) ?_
          refine wp_ialoadN 3 (nI (RS_rn R)) dL_transact_470 H4.2.2.2.1.1 H4.2.2.2.1.2.1 (by decide) (by decide) (H4.2.2.2.1.2.2.2.2) ?_
          refine wp_icmp_ltN 488 dL_transact_471 (by decide) (by omega) (by omega) (fun c_471 => ?_) (fun c_471 => absurd c_471 (by omega))
          refine wp_aload (i := 4) dL_transact_488 rfl ?_
          refine wp_iload (i := 5) dL_transact_490 rfl ?_
          refine wp_zaloadN 3 (bI (op t)) dL_transact_492 H4.2.2.2.2.1.1 H4.2.2.2.2.1.2.1 (by omega) (by decide) (H4.2.2.2.2.1.2.2 t ht) ?_
          refine wp_if_neB 510 dL_transact_493 (by decide) (fun c_493 => ?_) (fun c_493 => absurd c_493 (by rw [hopn]; decide))
          refine wp_iload (i := 7) dL_transact_510 rfl ?_
          refine wp_iconst (nI 3) dL_transact_512 (by decide) ?_
          refine wp_icmp_neN 532 dL_transact_513 (by decide) (by omega) (by decide) (fun c_513 => ?_) (fun c_513 => absurd c_513 (by omega))
          refine wp_iload (i := 11) dL_transact_532 rfl ?_
          refine wp_if_ne 541 dL_transact_534 (by decide) (fun c_534 => ?_) (fun c_534 => absurd c_534 (by decide))
          refine wp_iconst (nI 0) dL_transact_541 (by decide) ?_
          refine wp_istore (i := 12) (lv' := [(12, vi (nI 0)), (11, vi (-20004)), (10, vi (nI (RS_mo R))), (9, vi (nI ((RS_lg R).length))), (8, vi zb), (7, vi (nI w)), (6, vi (nI r)), (5, vi (nI t)), (0, vr (some (nm 40 0))), (1, vr (some nS)), (2, vi (nI i)), (3, vr (some (nm 70 1))), (4, vr (some (nm 70 2)))]) dL_transact_542 (by decide) rfl ?_
          refine wp_iload (i := 11) dL_transact_544 rfl ?_
          refine wp_sipush (-20004) dL_transact_546 (by decide) ?_
          refine wp_icmp_ne 565 dL_transact_549 (by decide) (fun c_549 => absurd c_549 (fun z => z rfl)) (fun c_549 => ?_)
          refine wp_iload (i := 7) dL_transact_552 rfl ?_
          refine wp_iconst (nI 4) dL_transact_554 (by decide) ?_
          refine wp_icmp_eqN 631 dL_transact_555 (by decide) (by omega) (by decide) (fun c_555 => absurd c_555 (by omega)) (fun c_555 => ?_)
          refine wp_iload (i := 7) dL_transact_558 rfl ?_
          refine wp_bipush (nI 6) dL_transact_560 (by decide) ?_
          refine wp_icmp_eqN 631 dL_transact_562 (by decide) (by omega) (by decide) (fun c_562 => ?_) (fun c_562 => absurd c_562 (by omega))
          refine wp_iconst (nI 1) dL_transact_631 (by decide) ?_
          refine wp_goto 636 dL_transact_632 (by decide) ?_
          refine wp_zreturn dL_transact_636 rfl (by decide) ?_
          exact hq _ c R _ (by omega) C4 B HI.up HO (by unfold czN; rw [if_neg (by omega)]; omega) (by exact H4)
        · skip
          refine wp_aload_n (i := 0) dL_transact_154 rfl rfl ?_
          refine wp_bipush (nI 10) dL_transact_155 (by decide) ?_
          refine wp_iload (i := 5) dL_transact_157 rfl ?_
          refine wp_iconst (nI 0) dL_transact_159 (by decide) ?_
          refine wp_cSH (y' := m_L_ask) [vr (some (nm 40 0)), vi (nI 10), vi (nI t), vi (nI 0)] [] 6 40 dL_transact_160 ml_L_184 st_L_ask okH_L_ask rfl (Nat.le_of_ble_eq_true rfl) rfl (Nat.le_of_ble_eq_true rfl) (d' := d - 1) (by omega) (by omega) (by omega) (q_sentBack (t := t) (by omega) B (by omega) C (by omega) (by omega) (by omega) (fun h1 C1 F1 => cont_ret ?_))
          rw [r_sentBack] at C1
          rw [show dA [-20002] (o_sentBack R (nI t) t) = zb from by rw [rx_sent ht]; exact ezb]
          have H1 := H.fk F1
          refine wp_istore (i := 8) (lv' := [(8, vi zb), (7, vi (nI w)), (6, vi (nI r)), (5, vi (nI t)), (0, vr (some (nm 40 0))), (1, vr (some nS)), (2, vi (nI i)), (3, vr (some (nm 70 1))), (4, vr (some (nm 70 2)))]) dL_transact_163 (by decide) rfl ?_
          refine wp_aload_n (i := 0) dL_transact_165 rfl rfl ?_
          refine wp_cV (y' := m_X11_logged) 12 [] [] 6 40 dL_transact_166 ml_L_217 im_X11_logged se_X11_logged (by decide) C1.hk ok_X11_logged rfl (Nat.le_of_ble_eq_true rfl) rfl (Nat.le_of_ble_eq_true rfl) (d' := d - 1) (by omega) (by omega) (by omega) (g_logged B (by omega) C1 (by omega) (by omega) (by omega) (fun h2 C2 F2 => cont_ret ?_))
          have H2 := H1.fk F2
          refine wp_istore (i := 9) (lv' := [(9, vi (nI ((RS_lg R).length))), (8, vi zb), (7, vi (nI w)), (6, vi (nI r)), (5, vi (nI t)), (0, vr (some (nm 40 0))), (1, vr (some nS)), (2, vi (nI i)), (3, vr (some (nm 70 1))), (4, vr (some (nm 70 2)))]) dL_transact_169 (by decide) rfl ?_
          refine wp_aload_n (i := 0) dL_transact_171 rfl rfl ?_
          refine wp_cV (y' := m_X11_moment) 12 [] [] 6 40 dL_transact_172 ml_L_214 im_X11_moment se_X11_moment (by decide) C2.hk ok_X11_moment rfl (Nat.le_of_ble_eq_true rfl) rfl (Nat.le_of_ble_eq_true rfl) (d' := d - 1) (by omega) (by omega) (by omega) (g_moment B (by omega) C2 (by omega) (by omega) (by omega) (fun h3 C3 F3 => cont_ret ?_))
          have H3 := H2.fk F3
          refine wp_istore (i := 10) (lv' := [(10, vi (nI (RS_mo R))), (9, vi (nI ((RS_lg R).length))), (8, vi zb), (7, vi (nI w)), (6, vi (nI r)), (5, vi (nI t)), (0, vr (some (nm 40 0))), (1, vr (some nS)), (2, vi (nI i)), (3, vr (some (nm 70 1))), (4, vr (some (nm 70 2)))]) dL_transact_175 (by decide) rfl ?_
          refine wp_iload (i := 7) dL_transact_177 rfl ?_
          refine wp_bipush (nI 6) dL_transact_179 (by decide) ?_
          refine wp_icmp_leN 373 dL_transact_181 (by decide) (by omega) (by decide) (fun c_181 => ?_) (fun c_181 => absurd c_181 (by omega))
          refine wp_iload (i := 7) dL_transact_373 rfl ?_
          refine wp_iconst (nI 3) dL_transact_375 (by decide) ?_
          refine wp_icmp_neN 393 dL_transact_376 (by decide) (by omega) (by decide) (fun c_376 => ?_) (fun c_376 => absurd c_376 (by omega))
          refine wp_iload (i := 7) dL_transact_393 rfl ?_
          refine wp_iconst (nI 4) dL_transact_395 (by decide) ?_
          refine wp_icmp_neN 424 dL_transact_396 (by decide) (by omega) (by decide) (fun c_396 => ?_) (fun c_396 => absurd c_396 (by omega))
          refine wp_iload (i := 7) dL_transact_424 rfl ?_
          refine wp_iconst (nI 5) dL_transact_426 (by decide) ?_
          refine wp_icmp_neN 444 dL_transact_427 (by decide) (by omega) (by decide) (fun c_427 => ?_) (fun c_427 => absurd c_427 (by omega))
          refine wp_aload_n (i := 0) dL_transact_444 rfl rfl ?_
          refine wp_bipush (nI 21) dL_transact_445 (by decide) ?_
          refine wp_iload (i := 5) dL_transact_447 rfl ?_
          refine wp_iload (i := 6) dL_transact_449 rfl ?_
          refine wp_aload_n (i := 1) dL_transact_451 rfl rfl ?_
          refine wp_iload_n (i := 2) dL_transact_452 rfl rfl ?_
          refine wp_iconst (nI 3) dL_transact_453 (by decide) ?_
          refine wp_iaddN dL_transact_454 ?_
          refine wp_iconst (nI 5) dL_transact_455 (by decide) ?_
          refine wp_cS (y' := m_L_pick) [vr (some nS), vi (nI (i + 3)), vi (nI 5)] [vi (nI r), vi (nI t), vi (nI 21), vr (some (nm 40 0))] 0 0 dL_transact_456 ml_L_199 st_L_pick ok_L_pick rfl (Nat.le_of_ble_eq_true rfl) rfl (Nat.le_of_ble_eq_true rfl) (d' := d - 1) (by omega) (Nat.zero_le _) (Nat.zero_le _) (c_L_pick (by omega) (by decide) (by omega) hL (by omega) (cont_ret ?_))
          refine wp_iconst (nI 2) dL_transact_459 (by decide) ?_
          refine wp_isub dL_transact_460 ?_
          refine wp_cSH (y' := m_L_deed) [vr (some (nm 40 0)), vi (nI 21), vi (nI t), vi (nI r), vi ((nI (pkV G (i + 3) 5)) - (nI 2))] [] 6 40 dL_transact_461 ml_L_191 st_L_deed okH_L_deed rfl (Nat.le_of_ble_eq_true rfl) rfl (Nat.le_of_ble_eq_true rfl) (d' := d - 1) (by omega) (by omega) (by omega) (e_add (t := t) (by omega) (r := r) (by omega) B (by omega) C3 (by omega) (by omega) (by omega) (fun h4 C4 F4 => cont_ret ?_))
          rw [eo] at C4
          rw [show dA [-20002, -20001, -20003, -20004] (o_add R (nI t) t (nI r) r (nI (pkV G (i + 3) 5) - nI 2)) = -20004 from by rw [eo]; rfl]
          have H4 := H3.fk F4
          refine wp_istore (i := 11) (lv' := [(11, vi (-20004)), (10, vi (nI (RS_mo R))), (9, vi (nI ((RS_lg R).length))), (8, vi zb), (7, vi (nI w)), (6, vi (nI r)), (5, vi (nI t)), (0, vr (some (nm 40 0))), (1, vr (some nS)), (2, vi (nI i)), (3, vr (some (nm 70 1))), (4, vr (some (nm 70 2)))]) dL_transact_464 (by decide) rfl ?_
          refine wp_iload (i := 6) dL_transact_466 rfl ?_
          refine wp_aload_n (i := 3) dL_transact_468 rfl rfl ?_
          refine wp_iconst (nI 2) dL_transact_469 (by decide) ?_
          refine wp_ialoadN 3 (nI (RS_rn R)) dL_transact_470 H4.2.2.2.1.1 H4.2.2.2.1.2.1 (by decide) (by decide) (H4.2.2.2.1.2.2.2.2) ?_
          refine wp_icmp_ltN 488 dL_transact_471 (by decide) (by omega) (by omega) (fun c_471 => ?_) (fun c_471 => absurd c_471 (by omega))
          refine wp_aload (i := 4) dL_transact_488 rfl ?_
          refine wp_iload (i := 5) dL_transact_490 rfl ?_
          refine wp_zaloadN 3 (bI (op t)) dL_transact_492 H4.2.2.2.2.1.1 H4.2.2.2.2.1.2.1 (by omega) (by decide) (H4.2.2.2.2.1.2.2 t ht) ?_
          refine wp_if_neB 510 dL_transact_493 (by decide) (fun c_493 => ?_) (fun c_493 => absurd c_493 (by rw [hopn]; decide))
          refine wp_iload (i := 7) dL_transact_510 rfl ?_
          refine wp_iconst (nI 3) dL_transact_512 (by decide) ?_
          refine wp_icmp_neN 532 dL_transact_513 (by decide) (by omega) (by decide) (fun c_513 => ?_) (fun c_513 => absurd c_513 (by omega))
          refine wp_iload (i := 11) dL_transact_532 rfl ?_
          refine wp_if_ne 541 dL_transact_534 (by decide) (fun c_534 => ?_) (fun c_534 => absurd c_534 (by decide))
          refine wp_iconst (nI 0) dL_transact_541 (by decide) ?_
          refine wp_istore (i := 12) (lv' := [(12, vi (nI 0)), (11, vi (-20004)), (10, vi (nI (RS_mo R))), (9, vi (nI ((RS_lg R).length))), (8, vi zb), (7, vi (nI w)), (6, vi (nI r)), (5, vi (nI t)), (0, vr (some (nm 40 0))), (1, vr (some nS)), (2, vi (nI i)), (3, vr (some (nm 70 1))), (4, vr (some (nm 70 2)))]) dL_transact_542 (by decide) rfl ?_
          refine wp_iload (i := 11) dL_transact_544 rfl ?_
          refine wp_sipush (-20004) dL_transact_546 (by decide) ?_
          refine wp_icmp_ne 565 dL_transact_549 (by decide) (fun c_549 => absurd c_549 (fun z => z rfl)) (fun c_549 => ?_)
          refine wp_iload (i := 7) dL_transact_552 rfl ?_
          refine wp_iconst (nI 4) dL_transact_554 (by decide) ?_
          refine wp_icmp_eqN 631 dL_transact_555 (by decide) (by omega) (by decide) (fun c_555 => absurd c_555 (by omega)) (fun c_555 => ?_)
          refine wp_iload (i := 7) dL_transact_558 rfl ?_
          refine wp_bipush (nI 6) dL_transact_560 (by decide) ?_
          refine wp_icmp_eqN 631 dL_transact_562 (by decide) (by omega) (by decide) (fun c_562 => absurd c_562 (by omega)) (fun c_562 => ?_)
          refine wp_aload_n (i := 0) dL_transact_565 rfl rfl ?_
          refine wp_bipush (nI 10) dL_transact_566 (by decide) ?_
          refine wp_iload (i := 5) dL_transact_568 rfl ?_
          refine wp_iconst (nI 0) dL_transact_570 (by decide) ?_
          refine wp_cSH (y' := m_L_ask) [vr (some (nm 40 0)), vi (nI 10), vi (nI t), vi (nI 0)] [] 6 40 dL_transact_571 ml_L_184 st_L_ask okH_L_ask rfl (Nat.le_of_ble_eq_true rfl) rfl (Nat.le_of_ble_eq_true rfl) (d' := d - 1) (by omega) (by omega) (by omega) (q_sentBack (t := t) (by omega) B (by omega) C4 (by omega) (by omega) (by omega) (fun h5 C5 F5 => cont_ret ?_))
          rw [r_sentBack] at C5
          rw [show dA [-20002] (o_sentBack R (nI t) t) = zb from by rw [rx_sent ht]; exact ezb]
          have H5 := H4.fk F5
          refine wp_iload (i := 8) dL_transact_574 rfl ?_
          refine wp_iload (i := 12) dL_transact_576 rfl ?_
          refine wp_cS (y' := m_L_told) [vi (bI false)] [vi zb, vi zb] 0 0 dL_transact_578 ml_L_83 st_L_told ok_L_told rfl (Nat.le_of_ble_eq_true rfl) rfl (Nat.le_of_ble_eq_true rfl) (d' := d - 1) (by omega) (Nat.zero_le _) (Nat.zero_le _) (c_L_told (b := false) (cont_ret ?_))
          rw [show bI false = (nI 0) from rfl]
          refine wp_iadd dL_transact_581 ?_
          refine wp_icmp_ne 635 dL_transact_582 (by decide) (fun c_582 => absurd c_582 (fun z => z (i32_z zb))) (fun c_582 => ?_)
          refine wp_aload_n (i := 0) dL_transact_585 rfl rfl ?_
          refine wp_cV (y' := m_X11_logged) 12 [] [] 6 40 dL_transact_586 ml_L_217 im_X11_logged se_X11_logged (by decide) C5.hk ok_X11_logged rfl (Nat.le_of_ble_eq_true rfl) rfl (Nat.le_of_ble_eq_true rfl) (d' := d - 1) (by omega) (by omega) (by omega) (g_logged B (by omega) C5 (by omega) (by omega) (by omega) (fun h6 C6 F6 => cont_ret ?_))
          have H6 := H5.fk F6
          refine wp_iload (i := 9) dL_transact_589 rfl ?_
          refine wp_icmp_neN 635 dL_transact_591 (by decide) (by omega) (by omega) (fun c_591 => absurd c_591 (by omega)) (fun c_591 => ?_)
          refine wp_iload (i := 7) dL_transact_594 rfl ?_
          refine wp_iconst (nI 4) dL_transact_596 (by decide) ?_
          refine wp_icmp_neN 631 dL_transact_597 (by decide) (by omega) (by decide) (fun c_597 => ?_) (fun c_597 => absurd c_597 (by omega))
          refine wp_iconst (nI 1) dL_transact_631 (by decide) ?_
          refine wp_goto 636 dL_transact_632 (by decide) ?_
          refine wp_zreturn dL_transact_636 rfl (by decide) ?_
          exact hq _ c R _ (by omega) C6 B HI.up HO (by unfold czN; rw [if_neg (by omega)]; omega) (by exact H6)
      · skip
        have q9 : RB (c + 1) (o_add R (nI t) t (nI r) r (nI (pkV G (i + 3) 5) - nI 2)).2.2 := RB_add B.2.2.2.2.1 (by omega) (ixk (by omega) (by decide))
        have l9 : LFS R (o_add R (nI t) t (nI r) r (nI (pkV G (i + 3) 5) - nI 2)).2.2 := f_add
        rw [eo] at q9 l9
        have B' : PU (c + 1) V n x S' := B.r q9 l9
        have fl9 : flg S' ≤ flg R + 1 := l9.2
        refine wp_aload_n (i := 0) dL_transact_154 rfl rfl ?_
        refine wp_bipush (nI 10) dL_transact_155 (by decide) ?_
        refine wp_iload (i := 5) dL_transact_157 rfl ?_
        refine wp_iconst (nI 0) dL_transact_159 (by decide) ?_
        refine wp_cSH (y' := m_L_ask) [vr (some (nm 40 0)), vi (nI 10), vi (nI t), vi (nI 0)] [] 6 40 dL_transact_160 ml_L_184 st_L_ask okH_L_ask rfl (Nat.le_of_ble_eq_true rfl) rfl (Nat.le_of_ble_eq_true rfl) (d' := d - 1) (by omega) (by omega) (by omega) (q_sentBack (t := t) (by omega) B (by omega) C (by omega) (by omega) (by omega) (fun h1 C1 F1 => cont_ret ?_))
        rw [r_sentBack] at C1
        rw [show dA [-20002] (o_sentBack R (nI t) t) = zb from by rw [rx_sent ht]; exact ezb]
        have H1 := H.fk F1
        refine wp_istore (i := 8) (lv' := [(8, vi zb), (7, vi (nI w)), (6, vi (nI r)), (5, vi (nI t)), (0, vr (some (nm 40 0))), (1, vr (some nS)), (2, vi (nI i)), (3, vr (some (nm 70 1))), (4, vr (some (nm 70 2)))]) dL_transact_163 (by decide) rfl ?_
        refine wp_aload_n (i := 0) dL_transact_165 rfl rfl ?_
        refine wp_cV (y' := m_X11_logged) 12 [] [] 6 40 dL_transact_166 ml_L_217 im_X11_logged se_X11_logged (by decide) C1.hk ok_X11_logged rfl (Nat.le_of_ble_eq_true rfl) rfl (Nat.le_of_ble_eq_true rfl) (d' := d - 1) (by omega) (by omega) (by omega) (g_logged B (by omega) C1 (by omega) (by omega) (by omega) (fun h2 C2 F2 => cont_ret ?_))
        have H2 := H1.fk F2
        refine wp_istore (i := 9) (lv' := [(9, vi (nI ((RS_lg R).length))), (8, vi zb), (7, vi (nI w)), (6, vi (nI r)), (5, vi (nI t)), (0, vr (some (nm 40 0))), (1, vr (some nS)), (2, vi (nI i)), (3, vr (some (nm 70 1))), (4, vr (some (nm 70 2)))]) dL_transact_169 (by decide) rfl ?_
        refine wp_aload_n (i := 0) dL_transact_171 rfl rfl ?_
        refine wp_cV (y' := m_X11_moment) 12 [] [] 6 40 dL_transact_172 ml_L_214 im_X11_moment se_X11_moment (by decide) C2.hk ok_X11_moment rfl (Nat.le_of_ble_eq_true rfl) rfl (Nat.le_of_ble_eq_true rfl) (d' := d - 1) (by omega) (by omega) (by omega) (g_moment B (by omega) C2 (by omega) (by omega) (by omega) (fun h3 C3 F3 => cont_ret ?_))
        have H3 := H2.fk F3
        refine wp_istore (i := 10) (lv' := [(10, vi (nI (RS_mo R))), (9, vi (nI ((RS_lg R).length))), (8, vi zb), (7, vi (nI w)), (6, vi (nI r)), (5, vi (nI t)), (0, vr (some (nm 40 0))), (1, vr (some nS)), (2, vi (nI i)), (3, vr (some (nm 70 1))), (4, vr (some (nm 70 2)))]) dL_transact_175 (by decide) rfl ?_
        refine wp_iload (i := 7) dL_transact_177 rfl ?_
        refine wp_bipush (nI 6) dL_transact_179 (by decide) ?_
        refine wp_icmp_leN 373 dL_transact_181 (by decide) (by omega) (by decide) (fun c_181 => ?_) (fun c_181 => absurd c_181 (by omega))
        refine wp_iload (i := 7) dL_transact_373 rfl ?_
        refine wp_iconst (nI 3) dL_transact_375 (by decide) ?_
        refine wp_icmp_neN 393 dL_transact_376 (by decide) (by omega) (by decide) (fun c_376 => ?_) (fun c_376 => absurd c_376 (by omega))
        refine wp_iload (i := 7) dL_transact_393 rfl ?_
        refine wp_iconst (nI 4) dL_transact_395 (by decide) ?_
        refine wp_icmp_neN 424 dL_transact_396 (by decide) (by omega) (by decide) (fun c_396 => ?_) (fun c_396 => absurd c_396 (by omega))
        refine wp_iload (i := 7) dL_transact_424 rfl ?_
        refine wp_iconst (nI 5) dL_transact_426 (by decide) ?_
        refine wp_icmp_neN 444 dL_transact_427 (by decide) (by omega) (by decide) (fun c_427 => ?_) (fun c_427 => absurd c_427 (by omega))
        refine wp_aload_n (i := 0) dL_transact_444 rfl rfl ?_
        refine wp_bipush (nI 21) dL_transact_445 (by decide) ?_
        refine wp_iload (i := 5) dL_transact_447 rfl ?_
        refine wp_iload (i := 6) dL_transact_449 rfl ?_
        refine wp_aload_n (i := 1) dL_transact_451 rfl rfl ?_
        refine wp_iload_n (i := 2) dL_transact_452 rfl rfl ?_
        refine wp_iconst (nI 3) dL_transact_453 (by decide) ?_
        refine wp_iaddN dL_transact_454 ?_
        refine wp_iconst (nI 5) dL_transact_455 (by decide) ?_
        refine wp_cS (y' := m_L_pick) [vr (some nS), vi (nI (i + 3)), vi (nI 5)] [vi (nI r), vi (nI t), vi (nI 21), vr (some (nm 40 0))] 0 0 dL_transact_456 ml_L_199 st_L_pick ok_L_pick rfl (Nat.le_of_ble_eq_true rfl) rfl (Nat.le_of_ble_eq_true rfl) (d' := d - 1) (by omega) (Nat.zero_le _) (Nat.zero_le _) (c_L_pick (by omega) (by decide) (by omega) hL (by omega) (cont_ret ?_))
        refine wp_iconst (nI 2) dL_transact_459 (by decide) ?_
        refine wp_isub dL_transact_460 ?_
        refine wp_cSH (y' := m_L_deed) [vr (some (nm 40 0)), vi (nI 21), vi (nI t), vi (nI r), vi ((nI (pkV G (i + 3) 5)) - (nI 2))] [] 6 40 dL_transact_461 ml_L_191 st_L_deed okH_L_deed rfl (Nat.le_of_ble_eq_true rfl) rfl (Nat.le_of_ble_eq_true rfl) (d' := d - 1) (by omega) (by omega) (by omega) (e_add (t := t) (by omega) (r := r) (by omega) B (by omega) C3 (by omega) (by omega) (by omega) (fun h4 C4 F4 => cont_ret ?_))
        rw [eo] at C4
        rw [show dA [-20002, -20001, -20003, -20004] (o_add R (nI t) t (nI r) r (nI (pkV G (i + 3) 5) - nI 2)) = nI 1 from by rw [eo]; rfl]
        have H4 := H3.fk F4
        refine wp_istore (i := 11) (lv' := [(11, vi (nI 1)), (10, vi (nI (RS_mo R))), (9, vi (nI ((RS_lg R).length))), (8, vi zb), (7, vi (nI w)), (6, vi (nI r)), (5, vi (nI t)), (0, vr (some (nm 40 0))), (1, vr (some nS)), (2, vi (nI i)), (3, vr (some (nm 70 1))), (4, vr (some (nm 70 2)))]) dL_transact_464 (by decide) rfl ?_
        refine wp_iload (i := 6) dL_transact_466 rfl ?_
        refine wp_aload_n (i := 3) dL_transact_468 rfl rfl ?_
        refine wp_iconst (nI 2) dL_transact_469 (by decide) ?_
        refine wp_ialoadN 3 (nI (RS_rn R)) dL_transact_470 H4.2.2.2.1.1 H4.2.2.2.1.2.1 (by decide) (by decide) (H4.2.2.2.1.2.2.2.2) ?_
        refine wp_icmp_ltN 488 dL_transact_471 (by decide) (by omega) (by omega) (fun c_471 => ?_) (fun c_471 => absurd c_471 (by omega))
        refine wp_aload (i := 4) dL_transact_488 rfl ?_
        refine wp_iload (i := 5) dL_transact_490 rfl ?_
        refine wp_zaloadN 3 (bI (op t)) dL_transact_492 H4.2.2.2.2.1.1 H4.2.2.2.2.1.2.1 (by omega) (by decide) (H4.2.2.2.2.1.2.2 t ht) ?_
        refine wp_if_neB 510 dL_transact_493 (by decide) (fun c_493 => ?_) (fun c_493 => absurd c_493 (by rw [hopn]; decide))
        refine wp_iload (i := 7) dL_transact_510 rfl ?_
        refine wp_iconst (nI 3) dL_transact_512 (by decide) ?_
        refine wp_icmp_neN 532 dL_transact_513 (by decide) (by omega) (by decide) (fun c_513 => ?_) (fun c_513 => absurd c_513 (by omega))
        refine wp_iload (i := 11) dL_transact_532 rfl ?_
        refine wp_if_neN 541 dL_transact_534 (by decide) (by decide) (fun c_534 => ?_) (fun c_534 => absurd c_534 (by decide))
        refine wp_iconst (nI 0) dL_transact_541 (by decide) ?_
        refine wp_istore (i := 12) (lv' := [(12, vi (nI 0)), (11, vi (nI 1)), (10, vi (nI (RS_mo R))), (9, vi (nI ((RS_lg R).length))), (8, vi zb), (7, vi (nI w)), (6, vi (nI r)), (5, vi (nI t)), (0, vr (some (nm 40 0))), (1, vr (some nS)), (2, vi (nI i)), (3, vr (some (nm 70 1))), (4, vr (some (nm 70 2)))]) dL_transact_542 (by decide) rfl ?_
        refine wp_iload (i := 11) dL_transact_544 rfl ?_
        refine wp_sipush (-20004) dL_transact_546 (by decide) ?_
        refine wp_icmp_ne 565 dL_transact_549 (by decide) (fun c_549 => ?_) (fun c_549 => absurd c_549 (by decide))
        refine wp_aload_n (i := 0) dL_transact_565 rfl rfl ?_
        refine wp_bipush (nI 10) dL_transact_566 (by decide) ?_
        refine wp_iload (i := 5) dL_transact_568 rfl ?_
        refine wp_iconst (nI 0) dL_transact_570 (by decide) ?_
        refine wp_cSH (y' := m_L_ask) [vr (some (nm 40 0)), vi (nI 10), vi (nI t), vi (nI 0)] [] 6 40 dL_transact_571 ml_L_184 st_L_ask okH_L_ask rfl (Nat.le_of_ble_eq_true rfl) rfl (Nat.le_of_ble_eq_true rfl) (d' := d - 1) (by omega) (by omega) (by omega) (q_sentBack (t := t) (by omega) B' (by omega) C4 (by omega) (by omega) (by omega) (fun h5 C5 F5 => cont_ret ?_))
        rw [r_sentBack] at C5
        rw [show dA [-20002] (o_sentBack S' (nI t) t) = zb from by rw [rx_sent ht]; show nI (OT_bk (RS_tt S' t)) = zb; rw [bk]; exact ezb]
        have H5 := H4.fk F5
        refine wp_iload (i := 8) dL_transact_574 rfl ?_
        refine wp_iload (i := 12) dL_transact_576 rfl ?_
        refine wp_cS (y' := m_L_told) [vi (bI false)] [vi zb, vi zb] 0 0 dL_transact_578 ml_L_83 st_L_told ok_L_told rfl (Nat.le_of_ble_eq_true rfl) rfl (Nat.le_of_ble_eq_true rfl) (d' := d - 1) (by omega) (Nat.zero_le _) (Nat.zero_le _) (c_L_told (b := false) (cont_ret ?_))
        rw [show bI false = (nI 0) from rfl]
        refine wp_iadd dL_transact_581 ?_
        refine wp_icmp_ne 635 dL_transact_582 (by decide) (fun c_582 => absurd c_582 (fun z => z (i32_z zb))) (fun c_582 => ?_)
        refine wp_aload_n (i := 0) dL_transact_585 rfl rfl ?_
        refine wp_cV (y' := m_X11_logged) 12 [] [] 6 40 dL_transact_586 ml_L_217 im_X11_logged se_X11_logged (by decide) C5.hk ok_X11_logged rfl (Nat.le_of_ble_eq_true rfl) rfl (Nat.le_of_ble_eq_true rfl) (d' := d - 1) (by omega) (by omega) (by omega) (g_logged B' (by omega) C5 (by omega) (by omega) (by omega) (fun h6 C6 F6 => cont_ret ?_))
        rw [sam.1]
        have H6 := H5.fk F6
        refine wp_iload (i := 9) dL_transact_589 rfl ?_
        refine wp_icmp_neN 635 dL_transact_591 (by decide) (by omega) (by omega) (fun c_591 => absurd c_591 (by omega)) (fun c_591 => ?_)
        refine wp_iload (i := 7) dL_transact_594 rfl ?_
        refine wp_iconst (nI 4) dL_transact_596 (by decide) ?_
        refine wp_icmp_neN 631 dL_transact_597 (by decide) (by omega) (by decide) (fun c_597 => ?_) (fun c_597 => absurd c_597 (by omega))
        refine wp_iconst (nI 1) dL_transact_631 (by decide) ?_
        refine wp_goto 636 dL_transact_632 (by decide) ?_
        refine wp_zreturn dL_transact_636 rfl (by decide) ?_
        exact hq _ (c + 1) S' _ (by omega) C6 B' ri (HO.same so) (by unfold czN; rw [if_neg (by omega)]; omega) (by rw [sam.2.2]; exact H6)
  · have eo := (rx_idx (y := (nI (pkV G (i + 3) 5) - nI 2)) ht (Nat.le_of_not_lt hrn) hr).2.2.2
    refine wp_aload_n (i := 0) dL_transact_154 rfl rfl ?_
    refine wp_bipush (nI 10) dL_transact_155 (by decide) ?_
    refine wp_iload (i := 5) dL_transact_157 rfl ?_
    refine wp_iconst (nI 0) dL_transact_159 (by decide) ?_
    refine wp_cSH (y' := m_L_ask) [vr (some (nm 40 0)), vi (nI 10), vi (nI t), vi (nI 0)] [] 6 40 dL_transact_160 ml_L_184 st_L_ask okH_L_ask rfl (Nat.le_of_ble_eq_true rfl) rfl (Nat.le_of_ble_eq_true rfl) (d' := d - 1) (by omega) (by omega) (by omega) (q_sentBack (t := t) (by omega) B (by omega) C (by omega) (by omega) (by omega) (fun h1 C1 F1 => cont_ret ?_))
    rw [r_sentBack] at C1
    rw [show dA [-20002] (o_sentBack R (nI t) t) = zb from by rw [rx_sent ht]; exact ezb]
    have H1 := H.fk F1
    refine wp_istore (i := 8) (lv' := [(8, vi zb), (7, vi (nI w)), (6, vi (nI r)), (5, vi (nI t)), (0, vr (some (nm 40 0))), (1, vr (some nS)), (2, vi (nI i)), (3, vr (some (nm 70 1))), (4, vr (some (nm 70 2)))]) dL_transact_163 (by decide) rfl ?_
    refine wp_aload_n (i := 0) dL_transact_165 rfl rfl ?_
    refine wp_cV (y' := m_X11_logged) 12 [] [] 6 40 dL_transact_166 ml_L_217 im_X11_logged se_X11_logged (by decide) C1.hk ok_X11_logged rfl (Nat.le_of_ble_eq_true rfl) rfl (Nat.le_of_ble_eq_true rfl) (d' := d - 1) (by omega) (by omega) (by omega) (g_logged B (by omega) C1 (by omega) (by omega) (by omega) (fun h2 C2 F2 => cont_ret ?_))
    have H2 := H1.fk F2
    refine wp_istore (i := 9) (lv' := [(9, vi (nI ((RS_lg R).length))), (8, vi zb), (7, vi (nI w)), (6, vi (nI r)), (5, vi (nI t)), (0, vr (some (nm 40 0))), (1, vr (some nS)), (2, vi (nI i)), (3, vr (some (nm 70 1))), (4, vr (some (nm 70 2)))]) dL_transact_169 (by decide) rfl ?_
    refine wp_aload_n (i := 0) dL_transact_171 rfl rfl ?_
    refine wp_cV (y' := m_X11_moment) 12 [] [] 6 40 dL_transact_172 ml_L_214 im_X11_moment se_X11_moment (by decide) C2.hk ok_X11_moment rfl (Nat.le_of_ble_eq_true rfl) rfl (Nat.le_of_ble_eq_true rfl) (d' := d - 1) (by omega) (by omega) (by omega) (g_moment B (by omega) C2 (by omega) (by omega) (by omega) (fun h3 C3 F3 => cont_ret ?_))
    have H3 := H2.fk F3
    refine wp_istore (i := 10) (lv' := [(10, vi (nI (RS_mo R))), (9, vi (nI ((RS_lg R).length))), (8, vi zb), (7, vi (nI w)), (6, vi (nI r)), (5, vi (nI t)), (0, vr (some (nm 40 0))), (1, vr (some nS)), (2, vi (nI i)), (3, vr (some (nm 70 1))), (4, vr (some (nm 70 2)))]) dL_transact_175 (by decide) rfl ?_
    refine wp_iload (i := 7) dL_transact_177 rfl ?_
    refine wp_bipush (nI 6) dL_transact_179 (by decide) ?_
    refine wp_icmp_leN 373 dL_transact_181 (by decide) (by omega) (by decide) (fun c_181 => ?_) (fun c_181 => absurd c_181 (by omega))
    refine wp_iload (i := 7) dL_transact_373 rfl ?_
    refine wp_iconst (nI 3) dL_transact_375 (by decide) ?_
    refine wp_icmp_neN 393 dL_transact_376 (by decide) (by omega) (by decide) (fun c_376 => ?_) (fun c_376 => absurd c_376 (by omega))
    refine wp_iload (i := 7) dL_transact_393 rfl ?_
    refine wp_iconst (nI 4) dL_transact_395 (by decide) ?_
    refine wp_icmp_neN 424 dL_transact_396 (by decide) (by omega) (by decide) (fun c_396 => ?_) (fun c_396 => absurd c_396 (by omega))
    refine wp_iload (i := 7) dL_transact_424 rfl ?_
    refine wp_iconst (nI 5) dL_transact_426 (by decide) ?_
    refine wp_icmp_neN 444 dL_transact_427 (by decide) (by omega) (by decide) (fun c_427 => ?_) (fun c_427 => absurd c_427 (by omega))
    refine wp_aload_n (i := 0) dL_transact_444 rfl rfl ?_
    refine wp_bipush (nI 21) dL_transact_445 (by decide) ?_
    refine wp_iload (i := 5) dL_transact_447 rfl ?_
    refine wp_iload (i := 6) dL_transact_449 rfl ?_
    refine wp_aload_n (i := 1) dL_transact_451 rfl rfl ?_
    refine wp_iload_n (i := 2) dL_transact_452 rfl rfl ?_
    refine wp_iconst (nI 3) dL_transact_453 (by decide) ?_
    refine wp_iaddN dL_transact_454 ?_
    refine wp_iconst (nI 5) dL_transact_455 (by decide) ?_
    refine wp_cS (y' := m_L_pick) [vr (some nS), vi (nI (i + 3)), vi (nI 5)] [vi (nI r), vi (nI t), vi (nI 21), vr (some (nm 40 0))] 0 0 dL_transact_456 ml_L_199 st_L_pick ok_L_pick rfl (Nat.le_of_ble_eq_true rfl) rfl (Nat.le_of_ble_eq_true rfl) (d' := d - 1) (by omega) (Nat.zero_le _) (Nat.zero_le _) (c_L_pick (by omega) (by decide) (by omega) hL (by omega) (cont_ret ?_))
    refine wp_iconst (nI 2) dL_transact_459 (by decide) ?_
    refine wp_isub dL_transact_460 ?_
    refine wp_cSH (y' := m_L_deed) [vr (some (nm 40 0)), vi (nI 21), vi (nI t), vi (nI r), vi ((nI (pkV G (i + 3) 5)) - (nI 2))] [] 6 40 dL_transact_461 ml_L_191 st_L_deed okH_L_deed rfl (Nat.le_of_ble_eq_true rfl) rfl (Nat.le_of_ble_eq_true rfl) (d' := d - 1) (by omega) (by omega) (by omega) (e_add (t := t) (by omega) (r := r) (by omega) B (by omega) C3 (by omega) (by omega) (by omega) (fun h4 C4 F4 => cont_ret ?_))
    rw [eo] at C4
    rw [show dA [-20002, -20001, -20003, -20004] (o_add R (nI t) t (nI r) r (nI (pkV G (i + 3) 5) - nI 2)) = -20001 from by rw [eo]; rfl]
    have H4 := H3.fk F4
    refine wp_istore (i := 11) (lv' := [(11, vi (-20001)), (10, vi (nI (RS_mo R))), (9, vi (nI ((RS_lg R).length))), (8, vi zb), (7, vi (nI w)), (6, vi (nI r)), (5, vi (nI t)), (0, vr (some (nm 40 0))), (1, vr (some nS)), (2, vi (nI i)), (3, vr (some (nm 70 1))), (4, vr (some (nm 70 2)))]) dL_transact_464 (by decide) rfl ?_
    refine wp_iload (i := 6) dL_transact_466 rfl ?_
    refine wp_aload_n (i := 3) dL_transact_468 rfl rfl ?_
    refine wp_iconst (nI 2) dL_transact_469 (by decide) ?_
    refine wp_ialoadN 3 (nI (RS_rn R)) dL_transact_470 H4.2.2.2.1.1 H4.2.2.2.1.2.1 (by decide) (by decide) (H4.2.2.2.1.2.2.2.2) ?_
    refine wp_icmp_ltN 488 dL_transact_471 (by decide) (by omega) (by omega) (fun c_471 => absurd c_471 (by omega)) (fun c_471 => ?_)
    refine wp_iload (i := 11) dL_transact_474 rfl ?_
    refine wp_sipush (-20001) dL_transact_476 (by decide) ?_
    refine wp_icmp_ne 486 dL_transact_479 (by decide) (fun c_479 => absurd c_479 (fun z => z rfl)) (fun c_479 => ?_)
    refine wp_iconst (nI 1) dL_transact_482 (by decide) ?_
    refine wp_goto 487 dL_transact_483 (by decide) ?_
    refine wp_zreturn dL_transact_487 rfl (by decide) ?_
    exact hq _ c R _ (by omega) C4 B HI.up HO (by unfold czN; rw [if_neg (by omega)]; omega) (by exact H4)
