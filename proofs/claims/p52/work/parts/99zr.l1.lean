/-! deed and ask: what they answer, by what the class does. -/
theorem wp_mono {G : GG} {y : MI} {d pc bc bs : Nat} {lv : LV} {st : List AV} {h : Hp} {Q Q2 : Pst} (hm : ∀ o h', Q o h' → Q2 o h') (K : WP G y d pc lv st h bc bs Q) : WP G y d pc lv st h bc bs Q2 := fun α hp oN ol os Q0 oU => K α hp oN ol os Q0 (fun a b c o p q r z => oU a b c o p q r (hm _ _ z))
theorem cont_x {G : GG} {y : MI} {d pc pcx bc bs : Nat} {lv : LV} {rest : List AV} {Q : Pst} {E : String} {h' : Hp} (K : WX G y d pcx lv h' bc bs Q E) : cont G y d pc lv rest bc bs Q pcx (oThr E) h' := K
/-- what the law says for an exception -/
def exC (E : String) : Option Int32 := if E = "java/lang/IndexOutOfBoundsException" then some (-20001) else if E = "java/lang/IllegalArgumentException" then some (-20002) else if E = "java/lang/IllegalStateException" then some (-20003) else if E = "java/lang/UnsupportedOperationException" then some (-20004) else if E = "java/util/NoSuchElementException" then some (-20005) else none
/-- a number is answered, or the number of the exception -/
def dQ (Q : Pst) : Pst := fun o h' => match o with
  | .inl (some (.inl (.inl x))) => Q (oRet (vi x)) h'
  | .inl _ => False
  | .inr E => ∃ z, exC E = some z ∧ Q (oRet (vi z)) h'
/-- the same without the state's exception -/
def aQ (Q : Pst) : Pst := fun o h' => match o with
  | .inl (some (.inl (.inl x))) => Q (oRet (vi x)) h'
  | .inl _ => False
  | .inr E => ∃ z, exC E = some z ∧ z ≠ -20003 ∧ Q (oRet (vi z)) h'
/-- a truth value is answered -/
def bQ (Q : Pst) : Pst := fun o h' => match o with
  | .inl (some (.inl (.inl x))) => ∃ b, x = bI b ∧ Q (oRet (vi (bI b))) h'
  | .inl _ => False
  | .inr E => Q (.inr E) h'
theorem exC_some {E : String} {z : Int32} (h : exC E = some z) : (E = "java/lang/IndexOutOfBoundsException" ∧ z = -20001) ∨ (E = "java/lang/IllegalArgumentException" ∧ z = -20002) ∨ (E = "java/lang/IllegalStateException" ∧ z = -20003) ∨ (E = "java/lang/UnsupportedOperationException" ∧ z = -20004) ∨ (E = "java/util/NoSuchElementException" ∧ z = -20005) := by
  unfold exC at h
  split at h
  · next e => exact Or.inl ⟨e, (Option.some.inj h).symm⟩
  · split at h
    · next e => exact Or.inr (Or.inl ⟨e, (Option.some.inj h).symm⟩)
    · split at h
      · next e => exact Or.inr (Or.inr (Or.inl ⟨e, (Option.some.inj h).symm⟩))
      · split at h
        · next e => exact Or.inr (Or.inr (Or.inr (Or.inl ⟨e, (Option.some.inj h).symm⟩)))
        · split at h
          · next e => exact Or.inr (Or.inr (Or.inr (Or.inr ⟨e, (Option.some.inj h).symm⟩)))
          · cases h
set_option maxRecDepth 100000 in
set_option maxHeartbeats 4000000 in
theorem c_L_told {G : GG} {d bc bs : Nat} {h : Hp} {Q : Pst} {b : Bool} (hq : Q (oRet (vi (bI b))) h) : WP G m_L_told d 0 (aargs 0 [vi (bI b)]) [] h bc bs Q := by
  refine wp_sub [(0, vi (bI b))] (fun _ hz => hz) ?_
  refine wp_iload_n (i := 0) dL_told_0 rfl rfl ?_
  refine wp_if_eqB 8 dL_told_1 (by decide) (fun c => ?_) (fun c => ?_)
  · subst c
    refine wp_iconst (nI 0) dL_told_8 (by decide) ?_
    exact wp_ireturn dL_told_9 rfl hq
  · subst c
    refine wp_iconst (nI 1) dL_told_4 (by decide) ?_
    refine wp_goto 9 dL_told_5 (by decide) ?_
    exact wp_ireturn dL_told_9 rfl hq
set_option maxRecDepth 100000 in
set_option maxHeartbeats 4000000 in
theorem c_L_deed {G : GG} {d bc bs : Nat} {h : Hp} {Q : Pst} {o : Nat} {w a b c : Int32} (hd : 1 ≤ d) (K : WP G m_L_plain (d - 1) 0 (aargs 0 [vr (some o), vi w, vi a, vi b, vi c]) [] h bc bs (dQ Q)) : WP G m_L_deed d 0 (aargs 0 [vr (some o), vi w, vi a, vi b, vi c]) [] h bc bs Q := by
  refine wp_sub [(0, vr (some o)), (1, vi w), (2, vi a), (3, vi b), (4, vi c)] (fun _ hz => hz) ?_
  refine wp_aload_n (i := 0) dL_deed_0 rfl rfl ?_
  refine wp_iload_n (i := 1) dL_deed_1 rfl rfl ?_
  refine wp_iload_n (i := 2) dL_deed_2 rfl rfl ?_
  refine wp_iload_n (i := 3) dL_deed_3 rfl rfl ?_
  refine wp_iload (i := 4) dL_deed_4 rfl ?_
  refine wp_cS (y' := m_L_plain) [vr (some o), vi w, vi a, vi b, vi c] [] bc bs dL_deed_6 ml_L_114 st_L_plain ok_L_plain rfl (Nat.le_of_ble_eq_true rfl) rfl (Nat.le_of_ble_eq_true rfl) (d' := d - 1) (by omega) (Nat.le_refl _) (Nat.le_refl _) (wp_mono (fun o' h' hq => ?_) K)
  match o', hq with
  | .inl (some (.inl (.inl x))), hq => exact cont_ret (wp_ireturn dL_deed_9 rfl hq)
  | .inl none, hq => exact hq.elim
  | .inl (some (.inl (.inr x))), hq => exact hq.elim
  | .inl (some (.inr x)), hq => exact hq.elim
  | .inr E, hq =>
    obtain ⟨z, hz, hq⟩ := hq
    rcases exC_some hz with ⟨rfl, rfl⟩ | ⟨rfl, rfl⟩ | ⟨rfl, rfl⟩ | ⟨rfl, rfl⟩ | ⟨rfl, rfl⟩
    · refine cont_x (wx_catch (j := 5) [] (0, 9, 10, 118) [(0, 9, 16, 120), (0, 9, 22, 122), (0, 9, 28, 124), (0, 9, 34, 126)] rfl ps_nil (by decide) (by decide) kl_L_118 ca_205 dL_deed_10 (by decide) (hj_cons ⟨by decide, rfl⟩ (hj_cons ⟨by decide, rfl⟩ (hj_cons ⟨by decide, rfl⟩ (hj_cons ⟨by decide, rfl⟩ (hj_cons ⟨by decide, rfl⟩ hj_nil))))) ?_)
      refine wp_sipush (-20001) dL_deed_12 (by decide) ?_
      exact wp_ireturn dL_deed_15 rfl hq
    · refine cont_x (wx_catch (j := 5) [(0, 9, 10, 118)] (0, 9, 16, 120) [(0, 9, 22, 122), (0, 9, 28, 124), (0, 9, 34, 126)] rfl (ps_cons (by decide) kl_L_118 (by decide +kernel) ps_nil) (by decide) (by decide) kl_L_120 ca_460 dL_deed_16 (by decide) (hj_cons ⟨by decide, rfl⟩ (hj_cons ⟨by decide, rfl⟩ (hj_cons ⟨by decide, rfl⟩ (hj_cons ⟨by decide, rfl⟩ (hj_cons ⟨by decide, rfl⟩ hj_nil))))) ?_)
      refine wp_sipush (-20002) dL_deed_18 (by decide) ?_
      exact wp_ireturn dL_deed_21 rfl hq
    · refine cont_x (wx_catch (j := 5) [(0, 9, 10, 118), (0, 9, 16, 120)] (0, 9, 22, 122) [(0, 9, 28, 124), (0, 9, 34, 126)] rfl (ps_cons (by decide) kl_L_118 (by decide +kernel) (ps_cons (by decide) kl_L_120 (by decide +kernel) ps_nil)) (by decide) (by decide) kl_L_122 ca_560 dL_deed_22 (by decide) (hj_cons ⟨by decide, rfl⟩ (hj_cons ⟨by decide, rfl⟩ (hj_cons ⟨by decide, rfl⟩ (hj_cons ⟨by decide, rfl⟩ (hj_cons ⟨by decide, rfl⟩ hj_nil))))) ?_)
      refine wp_sipush (-20003) dL_deed_24 (by decide) ?_
      exact wp_ireturn dL_deed_27 rfl hq
    · refine cont_x (wx_catch (j := 5) [(0, 9, 10, 118), (0, 9, 16, 120), (0, 9, 22, 122)] (0, 9, 28, 124) [(0, 9, 34, 126)] rfl (ps_cons (by decide) kl_L_118 (by decide +kernel) (ps_cons (by decide) kl_L_120 (by decide +kernel) (ps_cons (by decide) kl_L_122 (by decide +kernel) ps_nil))) (by decide) (by decide) kl_L_124 ca_326 dL_deed_28 (by decide) (hj_cons ⟨by decide, rfl⟩ (hj_cons ⟨by decide, rfl⟩ (hj_cons ⟨by decide, rfl⟩ (hj_cons ⟨by decide, rfl⟩ (hj_cons ⟨by decide, rfl⟩ hj_nil))))) ?_)
      refine wp_sipush (-20004) dL_deed_30 (by decide) ?_
      exact wp_ireturn dL_deed_33 rfl hq
    · refine cont_x (wx_catch (j := 5) [(0, 9, 10, 118), (0, 9, 16, 120), (0, 9, 22, 122), (0, 9, 28, 124)] (0, 9, 34, 126) [] rfl (ps_cons (by decide) kl_L_118 (by decide +kernel) (ps_cons (by decide) kl_L_120 (by decide +kernel) (ps_cons (by decide) kl_L_122 (by decide +kernel) (ps_cons (by decide) kl_L_124 (by decide +kernel) ps_nil)))) (by decide) (by decide) kl_L_126 ca_281 dL_deed_34 (by decide) (hj_cons ⟨by decide, rfl⟩ (hj_cons ⟨by decide, rfl⟩ (hj_cons ⟨by decide, rfl⟩ (hj_cons ⟨by decide, rfl⟩ (hj_cons ⟨by decide, rfl⟩ hj_nil))))) ?_)
      refine wp_sipush (-20005) dL_deed_36 (by decide) ?_
      exact wp_ireturn dL_deed_39 rfl hq
set_option maxRecDepth 100000 in
set_option maxHeartbeats 4000000 in
theorem c_L_ask {G : GG} {d bc bs : Nat} {h : Hp} {Q : Pst} {o : Nat} {w a b : Int32} (hd : 1 ≤ d) (K : WP G m_L_asked (d - 1) 0 (aargs 0 [vr (some o), vi w, vi a, vi b]) [] h bc bs (aQ Q)) : WP G m_L_ask d 0 (aargs 0 [vr (some o), vi w, vi a, vi b]) [] h bc bs Q := by
  refine wp_sub [(0, vr (some o)), (1, vi w), (2, vi a), (3, vi b)] (fun _ hz => hz) ?_
  refine wp_aload_n (i := 0) dL_ask_0 rfl rfl ?_
  refine wp_iload_n (i := 1) dL_ask_1 rfl rfl ?_
  refine wp_iload_n (i := 2) dL_ask_2 rfl rfl ?_
  refine wp_iload_n (i := 3) dL_ask_3 rfl rfl ?_
  refine wp_cS (y' := m_L_asked) [vr (some o), vi w, vi a, vi b] [] bc bs dL_ask_4 ml_L_180 st_L_asked ok_L_asked rfl (Nat.le_of_ble_eq_true rfl) rfl (Nat.le_of_ble_eq_true rfl) (d' := d - 1) (by omega) (Nat.le_refl _) (Nat.le_refl _) (wp_mono (fun o' h' hq => ?_) K)
  match o', hq with
  | .inl (some (.inl (.inl x))), hq => exact cont_ret (wp_ireturn dL_ask_7 rfl hq)
  | .inl none, hq => exact hq.elim
  | .inl (some (.inl (.inr x))), hq => exact hq.elim
  | .inl (some (.inr x)), hq => exact hq.elim
  | .inr E, hq =>
    obtain ⟨z, hz, hn, hq⟩ := hq
    rcases exC_some hz with ⟨rfl, rfl⟩ | ⟨rfl, rfl⟩ | ⟨rfl, rfl⟩ | ⟨rfl, rfl⟩ | ⟨rfl, rfl⟩
    · refine cont_x (wx_catch (j := 4) [] (0, 7, 8, 118) [(0, 7, 14, 120), (0, 7, 20, 124), (0, 7, 26, 126)] rfl ps_nil (by decide) (by decide) kl_L_118 ca_205 dL_ask_8 (by decide) (hj_cons ⟨by decide, rfl⟩ (hj_cons ⟨by decide, rfl⟩ (hj_cons ⟨by decide, rfl⟩ (hj_cons ⟨by decide, rfl⟩ hj_nil)))) ?_)
      refine wp_sipush (-20001) dL_ask_10 (by decide) ?_
      exact wp_ireturn dL_ask_13 rfl hq
    · refine cont_x (wx_catch (j := 4) [(0, 7, 8, 118)] (0, 7, 14, 120) [(0, 7, 20, 124), (0, 7, 26, 126)] rfl (ps_cons (by decide) kl_L_118 (by decide +kernel) ps_nil) (by decide) (by decide) kl_L_120 ca_460 dL_ask_14 (by decide) (hj_cons ⟨by decide, rfl⟩ (hj_cons ⟨by decide, rfl⟩ (hj_cons ⟨by decide, rfl⟩ (hj_cons ⟨by decide, rfl⟩ hj_nil)))) ?_)
      refine wp_sipush (-20002) dL_ask_16 (by decide) ?_
      exact wp_ireturn dL_ask_19 rfl hq
    · exact absurd rfl hn
    · refine cont_x (wx_catch (j := 4) [(0, 7, 8, 118), (0, 7, 14, 120)] (0, 7, 20, 124) [(0, 7, 26, 126)] rfl (ps_cons (by decide) kl_L_118 (by decide +kernel) (ps_cons (by decide) kl_L_120 (by decide +kernel) ps_nil)) (by decide) (by decide) kl_L_124 ca_326 dL_ask_20 (by decide) (hj_cons ⟨by decide, rfl⟩ (hj_cons ⟨by decide, rfl⟩ (hj_cons ⟨by decide, rfl⟩ (hj_cons ⟨by decide, rfl⟩ hj_nil)))) ?_)
      refine wp_sipush (-20004) dL_ask_22 (by decide) ?_
      exact wp_ireturn dL_ask_25 rfl hq
    · refine cont_x (wx_catch (j := 4) [(0, 7, 8, 118), (0, 7, 14, 120), (0, 7, 20, 124)] (0, 7, 26, 126) [] rfl (ps_cons (by decide) kl_L_118 (by decide +kernel) (ps_cons (by decide) kl_L_120 (by decide +kernel) (ps_cons (by decide) kl_L_124 (by decide +kernel) ps_nil))) (by decide) (by decide) kl_L_126 ca_281 dL_ask_26 (by decide) (hj_cons ⟨by decide, rfl⟩ (hj_cons ⟨by decide, rfl⟩ (hj_cons ⟨by decide, rfl⟩ (hj_cons ⟨by decide, rfl⟩ hj_nil)))) ?_)
      refine wp_sipush (-20005) dL_ask_28 (by decide) ?_
      exact wp_ireturn dL_ask_31 rfl hq
