/-! Each call of deed and ask. -/
theorem b_areSame {V : SV} {v v2 : Int32} {k k2 : Nat} (_ : (o_areSame V v k v2 k2).1 = nI 0) : ∃ b, (o_areSame V v k v2 k2).2.1 = bI b := by
  unfold o_areSame
  (repeat' split) <;> first | exact ⟨_, rfl⟩ | exact ⟨false, rfl⟩
theorem b_isOpen {V : SV} {v : Int32} {k : Nat} (_ : (o_isOpen V v k).1 = nI 0) : ∃ b, (o_isOpen V v k).2.1 = bI b := by
  unfold o_isOpen
  (repeat' split) <;> first | exact ⟨_, rfl⟩ | exact ⟨false, rfl⟩
theorem b_write {R : RS} {v u y : Int32} {t r : Nat} (_ : (o_write R v t u r y).1 = nI 0) : ∃ b, (o_write R v t u r y).2.1 = bI b := by
  unfold o_write
  (repeat' split) <;> first | exact ⟨_, rfl⟩ | exact ⟨false, rfl⟩ | exact ⟨true, rfl⟩
theorem b_ensure {R : RS} {v u : Int32} {t r : Nat} (_ : (o_ensure R v t u r).1 = nI 0) : ∃ b, (o_ensure R v t u r).2.1 = bI b := by
  unfold o_ensure
  (repeat' split) <;> first | exact ⟨_, rfl⟩ | exact ⟨false, rfl⟩ | exact ⟨true, rfl⟩
theorem b_add {R : RS} {v u y : Int32} {t r : Nat} (_ : (o_add R v t u r y).1 = nI 0) : ∃ b, (o_add R v t u r y).2.1 = bI b := by
  unfold o_add
  (repeat' split) <;> first | exact ⟨_, rfl⟩ | exact ⟨false, rfl⟩ | exact ⟨true, rfl⟩
theorem x_addReference {R : RS} {v lo hi : Int32} (h : ¬ (o_addReference R v lo hi).1 = nI 0) : (o_addReference R v lo hi).2.2 = R := by
  revert h
  unfold o_addReference
  (repeat' split) <;> intro h <;> first | rfl | exact absurd rfl h
theorem x_begin {R : RS} {v : Int32} {t : Nat} (h : ¬ (o_begin R v t).1 = nI 0) : (o_begin R v t).2.2 = R := by
  revert h
  unfold o_begin
  (repeat' split) <;> intro h <;> first | rfl | exact absurd rfl h
theorem x_read {R : RS} {v u : Int32} {t r : Nat} (h : ¬ (o_read R v t u r).1 = nI 0) : (o_read R v t u r).2.2 = R := by
  revert h
  unfold o_read
  (repeat' split) <;> intro h <;> first | rfl | exact absurd rfl h
theorem x_write {R : RS} {v u y : Int32} {t r : Nat} (h : ¬ (o_write R v t u r y).1 = nI 0) : (o_write R v t u r y).2.2 = R := by
  revert h
  unfold o_write
  (repeat' split) <;> intro h <;> first | rfl | exact absurd rfl h
theorem x_ensure {R : RS} {v u : Int32} {t r : Nat} (h : ¬ (o_ensure R v t u r).1 = nI 0) : (o_ensure R v t u r).2.2 = R := by
  revert h
  unfold o_ensure
  (repeat' split) <;> intro h <;> first | rfl | exact absurd rfl h
theorem x_add {R : RS} {v u y : Int32} {t r : Nat} (h : ¬ (o_add R v t u r y).1 = nI 0) : (o_add R v t u r y).2.2 = R := by
  revert h
  unfold o_add
  (repeat' split) <;> intro h <;> first | rfl | exact absurd rfl h
theorem x_commit {R : RS} {v : Int32} {t : Nat} (h : ¬ (o_commit R v t).1 = nI 0) : (o_commit R v t).2.2 = R := by
  revert h
  unfold o_commit
  (repeat' split) <;> intro h <;> first | rfl | exact absurd rfl h
theorem x_end {R : RS} {v : Int32} {t : Nat} (h : ¬ (o_end R v t).1 = nI 0) : (o_end R v t).2.2 = R := by
  revert h
  unfold o_end
  (repeat' split) <;> intro h <;> first | rfl | exact absurd rfl h
theorem x_sentBack {R : RS} {v : Int32} {t : Nat} (h : ¬ (o_sentBack R v t).1 = nI 0) : (o_sentBack R v t).2.2 = R := by
  revert h
  unfold o_sentBack
  (repeat' split) <;> intro h <;> first | rfl | exact absurd rfl h
theorem x_valueOf {R : RS} {u : Int32} {r : Nat} (h : ¬ (o_valueOf R u r).1 = nI 0) : (o_valueOf R u r).2.2 = R := by
  revert h
  unfold o_valueOf
  (repeat' split) <;> intro h <;> first | rfl | exact absurd rfl h
theorem x_valueByLog {R : RS} {u : Int32} {r : Nat} (h : ¬ (o_valueByLog R u r).1 = nI 0) : (o_valueByLog R u r).2.2 = R := by
  revert h
  unfold o_valueByLog
  (repeat' split) <;> intro h <;> first | rfl | exact absurd rfl h
theorem x_history {R : RS} {u : Int32} {r : Nat} (h : ¬ (o_history R u r).1 = nI 0) : (o_history R u r).2.2 = R := by
  revert h
  unfold o_history
  (repeat' split) <;> intro h <;> first | rfl | exact absurd rfl h
theorem x_logAt {R : RS} {w y : Int32} {k j : Nat} (h : ¬ (o_logAt R w k y j).1 = nI 0) : (o_logAt R w k y j).2.2 = R := by
  revert h
  unfold o_logAt
  (repeat' split) <;> intro h <;> first | rfl | exact absurd rfl h
set_option maxRecDepth 100000 in
set_option maxHeartbeats 4000000 in
theorem e_vector {G : GG} {d bc bs c M n : Nat} {h : Hp} {Q : Pst} {V : SV} {x : Nat → QIS} {R : RS} {z0 z1 z2 : Int32} (B : PU c V n x R) (hc : c ≤ 512) (C : CLS h V M n x R) (hd : 20 ≤ d) (hbc : 20 ≤ bc) (hbs : 400 ≤ bs) (hq : ∀ h' M', M ≤ M' → M' ≤ M + 1 → CLS h' (o_vector V).2.2 M' n x R → FK h h' → Q (oRet (vi (dA [-20003] (o_vector V)))) h') : WP G m_L_deed d 0 (aargs 0 [vr (some (nm 40 0)), vi (nI 0), vi z0, vi z1, vi z2]) [] h bc bs Q := by
  obtain ⟨hS, hW, hmd, hX, hRB, hLF⟩ := B
  have hnv := hS.1
  exact c_L_deed (by omega) (p_vector C.hk (by omega) (c_X11_vector hS C.2.2 (by omega) (by omega) (by omega) (by omega) (kov_d (xl_of (by decide)) C hq)))
set_option maxRecDepth 100000 in
set_option maxHeartbeats 4000000 in
theorem e_append {G : GG} {d bc bs c M n : Nat} {h : Hp} {Q : Pst} {V : SV} {x : Nat → QIS} {R : RS} {k : Nat} (hk : k < 2 ^ 31) {e : Int32} {z0 : Int32} (B : PU c V n x R) (hc : c ≤ 512) (C : CLS h V M n x R) (hd : 20 ≤ d) (hbc : 20 ≤ bc) (hbs : 400 ≤ bs) (hq : ∀ h' M', M ≤ M' → M' ≤ M + 1 → CLS h' (o_append V (nI k) k e).2.2 M' n x R → FK h h' → Q (oRet (vi (dA [-20001, -20002, -20004, -20003] (o_append V (nI k) k e)))) h') : WP G m_L_deed d 0 (aargs 0 [vr (some (nm 40 0)), vi (nI 1), vi (nI k), vi e, vi z0]) [] h bc bs Q := by
  obtain ⟨hS, hW, hmd, hX, hRB, hLF⟩ := B
  have hnv := hS.1
  exact c_L_deed (by omega) (p_append C.hk (by omega) (c_X11_append hS C.2.2 (by omega) (ixk hk (by omega)) (by omega) (by omega) (by omega) (kov_d (xl_of (by decide)) C hq)))
set_option maxRecDepth 100000 in
set_option maxHeartbeats 4000000 in
theorem e_set {G : GG} {d bc bs c M n : Nat} {h : Hp} {Q : Pst} {V : SV} {x : Nat → QIS} {R : RS} {k : Nat} (hk : k < 2 ^ 31) {j : Nat} (hj : j < 2 ^ 31) {e : Int32} (B : PU c V n x R) (hc : c ≤ 512) (C : CLS h V M n x R) (hd : 20 ≤ d) (hbc : 20 ≤ bc) (hbs : 400 ≤ bs) (hq : ∀ h' M', M ≤ M' → M' ≤ M + 1 → CLS h' (o_set V (nI k) k (nI j) j e).2.2 M' n x R → FK h h' → Q (oRet (vi (dA [-20001, -20002, -20004, -20005, -20003] (o_set V (nI k) k (nI j) j e)))) h') : WP G m_L_deed d 0 (aargs 0 [vr (some (nm 40 0)), vi (nI 2), vi (nI k), vi (nI j), vi e]) [] h bc bs Q := by
  obtain ⟨hS, hW, hmd, hX, hRB, hLF⟩ := B
  have hnv := hS.1
  exact c_L_deed (by omega) (p_set C.hk (by omega) (c_X11_set hS C.2.2 (by omega) (ixk hk (by omega)) (j := j) (fun h => ixk hj (by have := hW.1.2.2.2.1 k; omega) h) (by omega) (by omega) (by omega) (kov_d (xl_of (by decide)) C hq)))
set_option maxRecDepth 100000 in
set_option maxHeartbeats 4000000 in
theorem e_cut {G : GG} {d bc bs c M n : Nat} {h : Hp} {Q : Pst} {V : SV} {x : Nat → QIS} {R : RS} {k : Nat} (hk : k < 2 ^ 31) {z0 z1 : Int32} (B : PU c V n x R) (hc : c ≤ 512) (C : CLS h V M n x R) (hd : 20 ≤ d) (hbc : 20 ≤ bc) (hbs : 400 ≤ bs) (hq : ∀ h' M', M ≤ M' → M' ≤ M + 1 → CLS h' (o_cut V (nI k) k).2.2 M' n x R → FK h h' → Q (oRet (vi (dA [-20001, -20004, -20005, -20003] (o_cut V (nI k) k)))) h') : WP G m_L_deed d 0 (aargs 0 [vr (some (nm 40 0)), vi (nI 3), vi (nI k), vi z0, vi z1]) [] h bc bs Q := by
  obtain ⟨hS, hW, hmd, hX, hRB, hLF⟩ := B
  have hnv := hS.1
  exact c_L_deed (by omega) (p_cut C.hk (by omega) (c_X11_cut hS C.2.2 (by omega) (ixk hk (by omega)) (by omega) (by omega) (by omega) (kov_d (xl_of (by decide)) C hq)))
set_option maxRecDepth 100000 in
set_option maxHeartbeats 4000000 in
theorem e_open {G : GG} {d bc bs c M n : Nat} {h : Hp} {Q : Pst} {V : SV} {x : Nat → QIS} {R : RS} {k : Nat} (hk : k < 2 ^ 31) {z0 z1 : Int32} (B : PU c V n x R) (hc : c ≤ 512) (C : CLS h V M n x R) (hd : 20 ≤ d) (hbc : 20 ≤ bc) (hbs : 400 ≤ bs) (hq : ∀ h' M', M ≤ M' → M' ≤ M + 1 → CLS h' (o_open V (nI k) k).2.2 M' n x R → FK h h' → Q (oRet (vi (dA [-20001, -20004, -20003] (o_open V (nI k) k)))) h') : WP G m_L_deed d 0 (aargs 0 [vr (some (nm 40 0)), vi (nI 4), vi (nI k), vi z0, vi z1]) [] h bc bs Q := by
  obtain ⟨hS, hW, hmd, hX, hRB, hLF⟩ := B
  have hnv := hS.1
  exact c_L_deed (by omega) (p_open C.hk (by omega) (c_X11_open hS C.2.2 (by omega) (ixk hk (by omega)) (by omega) (by omega) (by omega) (kov_d (xl_of (by decide)) C hq)))
set_option maxRecDepth 100000 in
set_option maxHeartbeats 4000000 in
theorem e_appendTo {G : GG} {d bc bs c M n : Nat} {h : Hp} {Q : Pst} {V : SV} {x : Nat → QIS} {R : RS} {k : Nat} (hk : k < 2 ^ 31) {e : Int32} {z0 : Int32} (B : PU c V n x R) (hc : c ≤ 512) (C : CLS h V M n x R) (hd : 20 ≤ d) (hbc : 20 ≤ bc) (hbs : 400 ≤ bs) (hq : ∀ h' M', M ≤ M' → M' ≤ M + 1 → CLS h' (o_appendTo V (nI k) k e).2.2 M' n x R → FK h h' → Q (oRet (vi (dA [-20001, -20002, -20004] (o_appendTo V (nI k) k e)))) h') : WP G m_L_deed d 0 (aargs 0 [vr (some (nm 40 0)), vi (nI 5), vi (nI k), vi e, vi z0]) [] h bc bs Q := by
  obtain ⟨hS, hW, hmd, hX, hRB, hLF⟩ := B
  have hnv := hS.1
  exact c_L_deed (by omega) (p_appendTo C.hk (by omega) (c_X11_appendTo hS C.2.2 (by omega) (ixk hk (by omega)) (by omega) (by omega) (by omega) (kov_d (xl_of (by decide)) C hq)))
set_option maxRecDepth 100000 in
set_option maxHeartbeats 4000000 in
theorem e_setIn {G : GG} {d bc bs c M n : Nat} {h : Hp} {Q : Pst} {V : SV} {x : Nat → QIS} {R : RS} {k : Nat} (hk : k < 2 ^ 31) {j : Nat} (hj : j < 2 ^ 31) {e : Int32} (B : PU c V n x R) (hc : c ≤ 512) (C : CLS h V M n x R) (hd : 20 ≤ d) (hbc : 20 ≤ bc) (hbs : 400 ≤ bs) (hq : ∀ h' M', M ≤ M' → M' ≤ M + 1 → CLS h' (o_setIn V (nI k) k (nI j) j e).2.2 M' n x R → FK h h' → Q (oRet (vi (dA [-20001, -20002, -20004, -20005] (o_setIn V (nI k) k (nI j) j e)))) h') : WP G m_L_deed d 0 (aargs 0 [vr (some (nm 40 0)), vi (nI 6), vi (nI k), vi (nI j), vi e]) [] h bc bs Q := by
  obtain ⟨hS, hW, hmd, hX, hRB, hLF⟩ := B
  have hnv := hS.1
  exact c_L_deed (by omega) (p_setIn C.hk (by omega) (c_X11_setIn hS C.2.2 (by omega) (ixk hk (by omega)) (j := j) (fun h => ixk hj (by have := hW.1.2.2.2.1 k; omega) h) (by omega) (by omega) (by omega) (kov_d (xl_of (by decide)) C hq)))
set_option maxRecDepth 100000 in
set_option maxHeartbeats 4000000 in
theorem e_makeLasting {G : GG} {d bc bs c M n : Nat} {h : Hp} {Q : Pst} {V : SV} {x : Nat → QIS} {R : RS} {k : Nat} (hk : k < 2 ^ 31) {z0 z1 : Int32} (B : PU c V n x R) (hc : c ≤ 512) (C : CLS h V M n x R) (hd : 20 ≤ d) (hbc : 20 ≤ bc) (hbs : 400 ≤ bs) (hq : ∀ h' M', M ≤ M' → M' ≤ M + 1 → CLS h' (o_lasting V (nI k) k).2.2 M' n x R → FK h h' → Q (oRet (vi (dA [-20001, -20004, -20003] (o_lasting V (nI k) k)))) h') : WP G m_L_deed d 0 (aargs 0 [vr (some (nm 40 0)), vi (nI 7), vi (nI k), vi z0, vi z1]) [] h bc bs Q := by
  obtain ⟨hS, hW, hmd, hX, hRB, hLF⟩ := B
  have hnv := hS.1
  exact c_L_deed (by omega) (p_makeLasting C.hk (by omega) (c_X11_makeLasting hS C.2.2 (by omega) (ixk hk (by omega)) (by omega) (by omega) (by omega) (kov_d (xl_of (by decide)) C hq)))
set_option maxRecDepth 100000 in
set_option maxHeartbeats 4000000 in
theorem e_map {G : GG} {d bc bs c M n : Nat} {h : Hp} {Q : Pst} {V : SV} {x : Nat → QIS} {R : RS} {z0 z1 z2 : Int32} (B : PU c V n x R) (hc : c ≤ 512) (C : CLS h V M n x R) (hd : 20 ≤ d) (hbc : 20 ≤ bc) (hbs : 400 ≤ bs) (hq : ∀ h' M', M ≤ M' → M' ≤ M + 1 → CLS h' (o_map V).2.2 M' n x R → FK h h' → Q (oRet (vi (dA [-20003] (o_map V)))) h') : WP G m_L_deed d 0 (aargs 0 [vr (some (nm 40 0)), vi (nI 8), vi z0, vi z1, vi z2]) [] h bc bs Q := by
  obtain ⟨hS, hW, hmd, hX, hRB, hLF⟩ := B
  have hnv := hS.1
  exact c_L_deed (by omega) (p_map C.hk (by omega) (c_X11_map hS C.2.2 (by omega) (by omega) (by omega) (by omega) (kov_d (xl_of (by decide)) C hq)))
set_option maxRecDepth 100000 in
set_option maxHeartbeats 4000000 in
theorem e_put {G : GG} {d bc bs c M n : Nat} {h : Hp} {Q : Pst} {V : SV} {x : Nat → QIS} {R : RS} {k : Nat} (hk : k < 2 ^ 31) {j : Nat} (hj : j < 2 ^ 31) {e : Int32} (B : PU c V n x R) (hc : c ≤ 512) (C : CLS h V M n x R) (hd : 20 ≤ d) (hbc : 30 ≤ bc) (hbs : 900 ≤ bs) (hq : ∀ h' M', M ≤ M' → M' ≤ M + 1 → CLS h' (o_put V (nI k) k (nI j) j e).2.2 M' n x R → FK h h' → Q (oRet (vi (dA [-20001, -20002, -20004, -20003] (o_put V (nI k) k (nI j) j e)))) h') : WP G m_L_deed d 0 (aargs 0 [vr (some (nm 40 0)), vi (nI 9), vi (nI k), vi (nI j), vi e]) [] h bc bs Q := by
  obtain ⟨hS, hW, hmd, hX, hRB, hLF⟩ := B
  have hnv := hS.1
  exact c_L_deed (by omega) (p_put C.hk (by omega) (c_X11_put hS C.2.2 (by omega) (ixk hk (by omega)) (hwn hj) (by omega) (by omega) (by omega) (kov_d (xl_of (by decide)) C hq)))
set_option maxRecDepth 100000 in
set_option maxHeartbeats 4000000 in
theorem e_without {G : GG} {d bc bs c M n : Nat} {h : Hp} {Q : Pst} {V : SV} {x : Nat → QIS} {R : RS} {k : Nat} (hk : k < 2 ^ 31) {j : Nat} (hj : j < 2 ^ 31) {z0 : Int32} (B : PU c V n x R) (hc : c ≤ 512) (C : CLS h V M n x R) (hd : 20 ≤ d) (hbc : 30 ≤ bc) (hbs : 800 ≤ bs) (hq : ∀ h' M', M ≤ M' → M' ≤ M + 1 → CLS h' (o_without V (nI k) k (nI j) j).2.2 M' n x R → FK h h' → Q (oRet (vi (dA [-20001, -20004, -20005, -20003] (o_without V (nI k) k (nI j) j)))) h') : WP G m_L_deed d 0 (aargs 0 [vr (some (nm 40 0)), vi (nI 10), vi (nI k), vi (nI j), vi z0]) [] h bc bs Q := by
  obtain ⟨hS, hW, hmd, hX, hRB, hLF⟩ := B
  have hnv := hS.1
  exact c_L_deed (by omega) (p_without C.hk (by omega) (c_X11_without hS C.2.2 (by omega) (ixk hk (by omega)) (hwn hj) (by omega) (by omega) (by omega) (kov_d (xl_of (by decide)) C hq)))
set_option maxRecDepth 100000 in
set_option maxHeartbeats 4000000 in
theorem q_depth {G : GG} {d bc bs c M n : Nat} {h : Hp} {Q : Pst} {V : SV} {x : Nat → QIS} {R : RS} {k : Nat} (hk : k < 2 ^ 31) {z0 : Int32} (B : PU c V n x R) (hc : c ≤ 512) (C : CLS h V M n x R) (hd : 20 ≤ d) (hbc : 6 ≤ bc) (hbs : 40 ≤ bs) (hq : ∀ h' M', M ≤ M' → M' ≤ M + 1 → CLS h' (o_depth V (nI k) k).2.2 M' n x R → FK h h' → Q (oRet (vi (dA [-20001, -20004] (o_depth V (nI k) k)))) h') : WP G m_L_ask d 0 (aargs 0 [vr (some (nm 40 0)), vi (nI 0), vi (nI k), vi z0]) [] h bc bs Q := by
  obtain ⟨hS, hW, hmd, hX, hRB, hLF⟩ := B
  have hnv := hS.1
  exact c_L_ask (by omega) (a_depth C.hk (by omega) (c_X11_depth hS C.2.2 (by omega) (ixk hk (by omega)) (by omega) (by omega) (by omega) (kov_a (xla_of (by decide) (by decide)) C hq)))
set_option maxRecDepth 100000 in
set_option maxHeartbeats 4000000 in
theorem q_get {G : GG} {d bc bs c M n : Nat} {h : Hp} {Q : Pst} {V : SV} {x : Nat → QIS} {R : RS} {k : Nat} (hk : k < 2 ^ 31) {w : Int32} {j : Nat} (hw : ∀ n, n < 2 ^ 31 → ixB w n = true → w = nI j ∧ j < n) (B : PU c V n x R) (hc : c ≤ 512) (C : CLS h V M n x R) (hd : 20 ≤ d) (hbc : 6 ≤ bc) (hbs : 40 ≤ bs) (hq : ∀ h' M', M ≤ M' → M' ≤ M + 1 → CLS h' (o_get V (nI k) k w j).2.2 M' n x R → FK h h' → Q (oRet (vi (dA [-20001, -20005] (o_get V (nI k) k w j)))) h') : WP G m_L_ask d 0 (aargs 0 [vr (some (nm 40 0)), vi (nI 1), vi (nI k), vi w]) [] h bc bs Q := by
  obtain ⟨hS, hW, hmd, hX, hRB, hLF⟩ := B
  have hnv := hS.1
  exact c_L_ask (by omega) (a_get C.hk (by omega) (c_X11_get hS C.2.2 (by omega) (ixk hk (by omega)) hw (by omega) (by omega) (by omega) (kov_a (xla_of (by decide) (by decide)) C hq)))
set_option maxRecDepth 100000 in
set_option maxHeartbeats 4000000 in
theorem q_getPlain {G : GG} {d bc bs c M n : Nat} {h : Hp} {Q : Pst} {V : SV} {x : Nat → QIS} {R : RS} {k : Nat} (hk : k < 2 ^ 31) {w : Int32} {j : Nat} (hw : ∀ n, n < 2 ^ 31 → ixB w n = true → w = nI j ∧ j < n) (B : PU c V n x R) (hc : c ≤ 512) (C : CLS h V M n x R) (hd : 20 ≤ d) (hbc : 6 ≤ bc) (hbs : 40 ≤ bs) (hq : ∀ h' M', M ≤ M' → M' ≤ M + 1 → CLS h' (o_get V (nI k) k w j).2.2 M' n x R → FK h h' → Q (oRet (vi (dA [-20001, -20005] (o_get V (nI k) k w j)))) h') : WP G m_L_ask d 0 (aargs 0 [vr (some (nm 40 0)), vi (nI 2), vi (nI k), vi w]) [] h bc bs Q := by
  obtain ⟨hS, hW, hmd, hX, hRB, hLF⟩ := B
  have hnv := hS.1
  exact c_L_ask (by omega) (a_getPlain C.hk (by omega) (c_X11_getPlain hS C.2.2 (by omega) (ixk hk (by omega)) hw (by omega) (by omega) (by omega) (kov_a (xla_of (by decide) (by decide)) C hq)))
set_option maxRecDepth 100000 in
set_option maxHeartbeats 4000000 in
theorem q_levelOf {G : GG} {d bc bs c M n : Nat} {h : Hp} {Q : Pst} {V : SV} {x : Nat → QIS} {R : RS} {k : Nat} (hk : k < 2 ^ 31) {w : Int32} {j : Nat} (hw : ∀ n, n < 2 ^ 31 → ixB w n = true → w = nI j ∧ j < n) (B : PU c V n x R) (hc : c ≤ 512) (C : CLS h V M n x R) (hd : 20 ≤ d) (hbc : 6 ≤ bc) (hbs : 40 ≤ bs) (hq : ∀ h' M', M ≤ M' → M' ≤ M + 1 → CLS h' (o_levelOf V (nI k) k w j).2.2 M' n x R → FK h h' → Q (oRet (vi (dA [-20001, -20004, -20005] (o_levelOf V (nI k) k w j)))) h') : WP G m_L_ask d 0 (aargs 0 [vr (some (nm 40 0)), vi (nI 3), vi (nI k), vi w]) [] h bc bs Q := by
  obtain ⟨hS, hW, hmd, hX, hRB, hLF⟩ := B
  have hnv := hS.1
  exact c_L_ask (by omega) (a_levelOf C.hk (by omega) (c_X11_levelOf hS C.2.2 (by omega) (ixk hk (by omega)) hw (by omega) (by omega) (by omega) (kov_a (xla_of (by decide) (by decide)) C hq)))
set_option maxRecDepth 100000 in
set_option maxHeartbeats 4000000 in
theorem q_size {G : GG} {d bc bs c M n : Nat} {h : Hp} {Q : Pst} {V : SV} {x : Nat → QIS} {R : RS} {k : Nat} (hk : k < 2 ^ 31) {z0 : Int32} (B : PU c V n x R) (hc : c ≤ 512) (C : CLS h V M n x R) (hd : 20 ≤ d) (hbc : 6 ≤ bc) (hbs : 40 ≤ bs) (hq : ∀ h' M', M ≤ M' → M' ≤ M + 1 → CLS h' (o_size V (nI k) k).2.2 M' n x R → FK h h' → Q (oRet (vi (dA [-20001] (o_size V (nI k) k)))) h') : WP G m_L_ask d 0 (aargs 0 [vr (some (nm 40 0)), vi (nI 4), vi (nI k), vi z0]) [] h bc bs Q := by
  obtain ⟨hS, hW, hmd, hX, hRB, hLF⟩ := B
  have hnv := hS.1
  exact c_L_ask (by omega) (a_size C.hk (by omega) (c_X11_size hS C.2.2 (by omega) (ixk hk (by omega)) (by omega) (by omega) (by omega) (kov_a (xla_of (by decide) (by decide)) C hq)))
set_option maxRecDepth 100000 in
set_option maxHeartbeats 4000000 in
theorem q_nodes {G : GG} {d bc bs c M n : Nat} {h : Hp} {Q : Pst} {V : SV} {x : Nat → QIS} {R : RS} {k : Nat} (hk : k < 2 ^ 31) {z0 : Int32} (B : PU c V n x R) (hc : c ≤ 512) (C : CLS h V M n x R) (hd : 20 ≤ d) (hbc : 6 ≤ bc) (hbs : 40 ≤ bs) (hq : ∀ h' M', M ≤ M' → M' ≤ M + 1 → CLS h' (o_nodes V (nI k) k).2.2 M' n x R → FK h h' → Q (oRet (vi (dA [-20001] (o_nodes V (nI k) k)))) h') : WP G m_L_ask d 0 (aargs 0 [vr (some (nm 40 0)), vi (nI 5), vi (nI k), vi z0]) [] h bc bs Q := by
  obtain ⟨hS, hW, hmd, hX, hRB, hLF⟩ := B
  have hnv := hS.1
  exact c_L_ask (by omega) (a_nodes C.hk (by omega) (c_X11_nodes hS C.2.2 (by omega) (ixk hk (by omega)) (by omega) (by omega) (by omega) (kov_a (xla_of (by decide) (by decide)) C hq)))
set_option maxRecDepth 100000 in
set_option maxHeartbeats 4000000 in
theorem q_shared {G : GG} {d bc bs c M n : Nat} {h : Hp} {Q : Pst} {V : SV} {x : Nat → QIS} {R : RS} {k : Nat} (hk : k < 2 ^ 31) {k2 : Nat} (hk2 : k2 < 2 ^ 31) (B : PU c V n x R) (hc : c ≤ 512) (C : CLS h V M n x R) (hM : M < 900000) (hd : 20 ≤ d) (hbc : 6 ≤ bc) (hbs : 40 ≤ bs) (hq : ∀ h' M', M ≤ M' → M' ≤ M + 1 → CLS h' (o_shared V (nI k) k (nI k2) k2).2.2 M' n x R → FK h h' → Q (oRet (vi (dA [-20001] (o_shared V (nI k) k (nI k2) k2)))) h') : WP G m_L_ask d 0 (aargs 0 [vr (some (nm 40 0)), vi (nI 6), vi (nI k), vi (nI k2)]) [] h bc bs Q := by
  obtain ⟨hS, hW, hmd, hX, hRB, hLF⟩ := B
  have hnv := hS.1
  exact c_L_ask (by omega) (a_shared C.hk (by omega) (c_X11_shared hS C.2.2 (by omega) (ixk hk (by omega)) (ixk hk2 (by omega)) hM (by omega) (by omega) (by omega) (kov_a (xla_of (by decide) (by decide)) C hq)))
set_option maxRecDepth 100000 in
set_option maxHeartbeats 4000000 in
theorem q_areSame {G : GG} {d bc bs c M n : Nat} {h : Hp} {Q : Pst} {V : SV} {x : Nat → QIS} {R : RS} {k : Nat} (hk : k < 2 ^ 31) {k2 : Nat} (hk2 : k2 < 2 ^ 31) (B : PU c V n x R) (hc : c ≤ 512) (C : CLS h V M n x R) (hd : 20 ≤ d) (hbc : 6 ≤ bc) (hbs : 40 ≤ bs) (hq : ∀ h' M', M ≤ M' → M' ≤ M + 1 → CLS h' (o_areSame V (nI k) k (nI k2) k2).2.2 M' n x R → FK h h' → Q (oRet (vi (dA [-20001, -20005] (o_areSame V (nI k) k (nI k2) k2)))) h') : WP G m_L_ask d 0 (aargs 0 [vr (some (nm 40 0)), vi (nI 7), vi (nI k), vi (nI k2)]) [] h bc bs Q := by
  obtain ⟨hS, hW, hmd, hX, hRB, hLF⟩ := B
  have hnv := hS.1
  exact c_L_ask (by omega) (a_areSame C.hk (by omega) (c_X11_areSame hS C.2.2 (by omega) (ixk hk (by omega)) (ixk hk2 (by omega)) (by omega) (by omega) (by omega) (kov_b (xla_of (by decide) (by decide)) (fun h => b_areSame h) C hq)))
set_option maxRecDepth 100000 in
set_option maxHeartbeats 4000000 in
theorem q_isOpen {G : GG} {d bc bs c M n : Nat} {h : Hp} {Q : Pst} {V : SV} {x : Nat → QIS} {R : RS} {k : Nat} (hk : k < 2 ^ 31) {z0 : Int32} (B : PU c V n x R) (hc : c ≤ 512) (C : CLS h V M n x R) (hd : 20 ≤ d) (hbc : 6 ≤ bc) (hbs : 40 ≤ bs) (hq : ∀ h' M', M ≤ M' → M' ≤ M + 1 → CLS h' (o_isOpen V (nI k) k).2.2 M' n x R → FK h h' → Q (oRet (vi (dA [-20001] (o_isOpen V (nI k) k)))) h') : WP G m_L_ask d 0 (aargs 0 [vr (some (nm 40 0)), vi (nI 16), vi (nI k), vi z0]) [] h bc bs Q := by
  obtain ⟨hS, hW, hmd, hX, hRB, hLF⟩ := B
  have hnv := hS.1
  exact c_L_ask (by omega) (a_isOpen C.hk (by omega) (c_X11_isOpen hS C.2.2 (by omega) (ixk hk (by omega)) (by omega) (by omega) (by omega) (kov_b (xla_of (by decide) (by decide)) (fun h => b_isOpen h) C hq)))
set_option maxRecDepth 100000 in
set_option maxHeartbeats 4000000 in
theorem e_range {G : GG} {d bc bs c M n : Nat} {h : Hp} {Q : Pst} {V : SV} {x : Nat → QIS} {R : RS} {a b : Int32} {m : Nat} (hm : m ≤ 24) (B : PU c V n x R) (C : CLS h V M n x R) (hd : 20 ≤ d) (hbc : 6 ≤ bc) (hbs : 80 ≤ bs) (hq : ∀ h', CLS h' V M (o_range n x a b (nI m) m).2.2.1 (o_range n x a b (nI m) m).2.2.2 R → FK h h' → Q (oRet (vi (dA [-20002, -20003] (o_range n x a b (nI m) m)))) h') : WP G m_L_deed d 0 (aargs 0 [vr (some (nm 40 0)), vi (nI 11), vi a, vi b, vi (nI m)]) [] h bc bs Q := by
  obtain ⟨hS, hW, hmd, hX, hRB, hLF⟩ := B
  have hn12 := hX.1.2.1
  exact c_L_deed (by omega) (p_range C.hk (by omega) (c_X11_range hX C.2.1 (fun _ => ⟨rfl, hm⟩) (by omega) (by omega) (by omega) (koq_d (xl_of (by decide)) C hq)))
set_option maxRecDepth 100000 in
set_option maxHeartbeats 4000000 in
theorem e_over {G : GG} {d bc bs c M n : Nat} {h : Hp} {Q : Pst} {V : SV} {x : Nat → QIS} {R : RS} {s : Nat} (hs : s < 2 ^ 31) {wn : Nat} (hwn : wn < 65536) (hw2 : ((nI wn).toUInt32 % 65536).toInt32 = nI wn) {m : Int32} (B : PU c V n x R) (C : CLS h V M n x R) (hd : 20 ≤ d) (hbc : 6 ≤ bc) (hbs : 80 ≤ bs) (hq : ∀ h', CLS h' V M (o_over n x (nI s) s wn m).2.2.1 (o_over n x (nI s) s wn m).2.2.2 R → FK h h' → Q (oRet (vi (dA [-20001, -20002, -20003] (o_over n x (nI s) s wn m)))) h') : WP G m_L_deed d 0 (aargs 0 [vr (some (nm 40 0)), vi (nI 12), vi (nI s), vi (nI wn), vi m]) [] h bc bs Q := by
  obtain ⟨hS, hW, hmd, hX, hRB, hLF⟩ := B
  have hn12 := hX.1.2.1
  exact c_L_deed (by omega) (p_over C.hk (by omega) (by rw [hw2]; exact c_X11_over hX C.2.1 (ixk hs (by omega)) hwn (by omega) (by omega) (by omega) (koq_d (xl_of (by decide)) C hq)))
set_option maxRecDepth 100000 in
set_option maxHeartbeats 4000000 in
theorem e_at {G : GG} {d bc bs c M n : Nat} {h : Hp} {Q : Pst} {V : SV} {x : Nat → QIS} {R : RS} {s : Nat} (hs : s < 2 ^ 31) {p : Nat} (hp : p < 2 ^ 31) {z0 : Int32} (B : PU c V n x R) (C : CLS h V M n x R) (hd : 20 ≤ d) (hbc : 6 ≤ bc) (hbs : 80 ≤ bs) (hq : ∀ h', CLS h' V M (o_at n x (nI s) s (nI p) p).2.2.1 (o_at n x (nI s) s (nI p) p).2.2.2 R → FK h h' → Q (oRet (vi (dA [-20001, -20004, -20005] (o_at n x (nI s) s (nI p) p)))) h') : WP G m_L_deed d 0 (aargs 0 [vr (some (nm 40 0)), vi (nI 13), vi (nI s), vi (nI p), vi z0]) [] h bc bs Q := by
  obtain ⟨hS, hW, hmd, hX, hRB, hLF⟩ := B
  have hn12 := hX.1.2.1
  exact c_L_deed (by omega) (p_at C.hk (by omega) (c_X11_at hX C.2.1 (ixk hs (by omega)) (fun _ => ⟨rfl, hp⟩) (by omega) (by omega) (by omega) (koq_d (xl_of (by decide)) C hq)))
set_option maxRecDepth 100000 in
set_option maxHeartbeats 4000000 in
theorem e_all {G : GG} {d bc bs c M n : Nat} {h : Hp} {Q : Pst} {V : SV} {x : Nat → QIS} {R : RS} {s : Nat} (hs : s < 2 ^ 31) {z0 z1 : Int32} (B : PU c V n x R) (C : CLS h V M n x R) (hd : 20 ≤ d) (hbc : 6 ≤ bc) (hbs : 80 ≤ bs) (hq : ∀ h', CLS h' V M (o_all n x (nI s) s).2.2.1 (o_all n x (nI s) s).2.2.2 R → FK h h' → Q (oRet (vi (dA [-20001, -20004] (o_all n x (nI s) s)))) h') : WP G m_L_deed d 0 (aargs 0 [vr (some (nm 40 0)), vi (nI 14), vi (nI s), vi z0, vi z1]) [] h bc bs Q := by
  obtain ⟨hS, hW, hmd, hX, hRB, hLF⟩ := B
  have hn12 := hX.1.2.1
  exact c_L_deed (by omega) (p_all C.hk (by omega) (c_X11_all hX C.2.1 (ixk hs (by omega)) (by omega) (by omega) (by omega) (koq_d (xl_of (by decide)) C hq)))
set_option maxRecDepth 100000 in
set_option maxHeartbeats 4000000 in
theorem q_realised {G : GG} {d bc bs c M n : Nat} {h : Hp} {Q : Pst} {V : SV} {x : Nat → QIS} {R : RS} {s : Nat} (hs : s < 2 ^ 31) {z0 : Int32} (B : PU c V n x R) (C : CLS h V M n x R) (hd : 20 ≤ d) (hbc : 6 ≤ bc) (hbs : 80 ≤ bs) (hq : ∀ h', CLS h' V M (o_realised n x (nI s) s).2.2.1 (o_realised n x (nI s) s).2.2.2 R → FK h h' → Q (oRet (vi (dA [-20001] (o_realised n x (nI s) s)))) h') : WP G m_L_ask d 0 (aargs 0 [vr (some (nm 40 0)), vi (nI 8), vi (nI s), vi z0]) [] h bc bs Q := by
  obtain ⟨hS, hW, hmd, hX, hRB, hLF⟩ := B
  have hn12 := hX.1.2.1
  exact c_L_ask (by omega) (a_realised C.hk (by omega) (c_X11_realised hX C.2.1 (ixk hs (by omega)) (by omega) (by omega) (by omega) (koq_a (xla_of (by decide) (by decide)) C hq)))
set_option maxRecDepth 100000 in
set_option maxHeartbeats 4000000 in
theorem q_chunks {G : GG} {d bc bs c M n : Nat} {h : Hp} {Q : Pst} {V : SV} {x : Nat → QIS} {R : RS} {s : Nat} (hs : s < 2 ^ 31) {z0 : Int32} (B : PU c V n x R) (C : CLS h V M n x R) (hd : 20 ≤ d) (hbc : 6 ≤ bc) (hbs : 80 ≤ bs) (hq : ∀ h', CLS h' V M (o_chunks n x (nI s) s).2.2.1 (o_chunks n x (nI s) s).2.2.2 R → FK h h' → Q (oRet (vi (dA [-20001] (o_chunks n x (nI s) s)))) h') : WP G m_L_ask d 0 (aargs 0 [vr (some (nm 40 0)), vi (nI 9), vi (nI s), vi z0]) [] h bc bs Q := by
  obtain ⟨hS, hW, hmd, hX, hRB, hLF⟩ := B
  have hn12 := hX.1.2.1
  exact c_L_ask (by omega) (a_chunks C.hk (by omega) (c_X11_chunks hX C.2.1 (ixk hs (by omega)) (by omega) (by omega) (by omega) (koq_a (xla_of (by decide) (by decide)) C hq)))
set_option maxRecDepth 100000 in
set_option maxHeartbeats 4000000 in
theorem e_addReference {G : GG} {d bc bs c M n : Nat} {h : Hp} {Q : Pst} {V : SV} {x : Nat → QIS} {R : RS} {v lo hi : Int32} (B : PU c V n x R) (hc : c < 512) (C : CLS h V M n x R) (hd : 20 ≤ d) (hbc : 6 ≤ bc) (hbs : 60 ≤ bs) (hq : ∀ h', CLS h' V M n x (o_addReference R v lo hi).2.2 → FK h h' → Q (oRet (vi (dA [-20002, -20003] (o_addReference R v lo hi)))) h') : WP G m_L_deed d 0 (aargs 0 [vr (some (nm 40 0)), vi (nI 16), vi v, vi lo, vi hi]) [] h bc bs Q := by
  obtain ⟨hS, hW, hmd, hX, hRB, hLF⟩ := B
  have hb1 := hRB.1.2.1
  have hb2 := hRB.1.2.2.2.1
  have hb3 := hRB.1.2.2.2.2.2.1
  obtain ⟨⟨X, hR, hs⟩, hC2, hC3⟩ := id C
  exact c_L_deed (by omega) (p_addReference C.hk (by omega) (c_X11_addReference hR hs (n := c) hRB (by omega) (by omega) (by omega) (ko_d (xl_of (by decide)) (fun h => x_addReference h) C hq)))
set_option maxRecDepth 100000 in
set_option maxHeartbeats 4000000 in
theorem e_begin {G : GG} {d bc bs c M n : Nat} {h : Hp} {Q : Pst} {V : SV} {x : Nat → QIS} {R : RS} {t : Nat} (ht : t < 2 ^ 31) {z0 z1 : Int32} (B : PU c V n x R) (hc : c < 512) (C : CLS h V M n x R) (hd : 20 ≤ d) (hbc : 6 ≤ bc) (hbs : 40 ≤ bs) (hq : ∀ h', CLS h' V M n x (o_begin R (nI t) t).2.2 → FK h h' → Q (oRet (vi (dA [-20002, -20003] (o_begin R (nI t) t)))) h') : WP G m_L_deed d 0 (aargs 0 [vr (some (nm 40 0)), vi (nI 17), vi (nI t), vi z0, vi z1]) [] h bc bs Q := by
  obtain ⟨hS, hW, hmd, hX, hRB, hLF⟩ := B
  have hb1 := hRB.1.2.1
  have hb2 := hRB.1.2.2.2.1
  have hb3 := hRB.1.2.2.2.2.2.1
  obtain ⟨⟨X, hR, hs⟩, hC2, hC3⟩ := id C
  exact c_L_deed (by omega) (p_begin C.hk (by omega) (c_X11_begin hR hs (n := c) hRB (fun h => ixk ht (by decide) h) (by omega) (by omega) (by omega) (ko_d (xl_of (by decide)) (fun h => x_begin h) C hq)))
set_option maxRecDepth 100000 in
set_option maxHeartbeats 4000000 in
theorem e_read {G : GG} {d bc bs c M n : Nat} {h : Hp} {Q : Pst} {V : SV} {x : Nat → QIS} {R : RS} {t : Nat} (ht : t < 2 ^ 31) {r : Nat} (hr : r < 2 ^ 31) {z0 : Int32} (B : PU c V n x R) (hc : c < 512) (C : CLS h V M n x R) (hd : 20 ≤ d) (hbc : 6 ≤ bc) (hbs : 40 ≤ bs) (hq : ∀ h', CLS h' V M n x (o_read R (nI t) t (nI r) r).2.2 → FK h h' → Q (oRet (vi (dA [-20002, -20001, -20003] (o_read R (nI t) t (nI r) r)))) h') : WP G m_L_deed d 0 (aargs 0 [vr (some (nm 40 0)), vi (nI 18), vi (nI t), vi (nI r), vi z0]) [] h bc bs Q := by
  obtain ⟨hS, hW, hmd, hX, hRB, hLF⟩ := B
  have hb1 := hRB.1.2.1
  have hb2 := hRB.1.2.2.2.1
  have hb3 := hRB.1.2.2.2.2.2.1
  obtain ⟨⟨X, hR, hs⟩, hC2, hC3⟩ := id C
  exact c_L_deed (by omega) (p_read C.hk (by omega) (c_X11_read hR hs (n := c) hRB (fun h => ixk ht (by decide) h) (fun h => ixk hr (by omega) h) (by omega) (by omega) (by omega) (ko_d (xl_of (by decide)) (fun h => x_read h) C hq)))
set_option maxRecDepth 100000 in
set_option maxHeartbeats 4000000 in
theorem e_write {G : GG} {d bc bs c M n : Nat} {h : Hp} {Q : Pst} {V : SV} {x : Nat → QIS} {R : RS} {t : Nat} (ht : t < 2 ^ 31) {r : Nat} (hr : r < 2 ^ 31) {y : Int32} (B : PU c V n x R) (hc : c < 512) (C : CLS h V M n x R) (hd : 20 ≤ d) (hbc : 6 ≤ bc) (hbs : 40 ≤ bs) (hq : ∀ h', CLS h' V M n x (o_write R (nI t) t (nI r) r y).2.2 → FK h h' → Q (oRet (vi (dA [-20002, -20001, -20003, -20004] (o_write R (nI t) t (nI r) r y)))) h') : WP G m_L_deed d 0 (aargs 0 [vr (some (nm 40 0)), vi (nI 19), vi (nI t), vi (nI r), vi y]) [] h bc bs Q := by
  obtain ⟨hS, hW, hmd, hX, hRB, hLF⟩ := B
  have hb1 := hRB.1.2.1
  have hb2 := hRB.1.2.2.2.1
  have hb3 := hRB.1.2.2.2.2.2.1
  obtain ⟨⟨X, hR, hs⟩, hC2, hC3⟩ := id C
  exact c_L_deed (by omega) (p_write C.hk (by omega) (c_X11_write hR hs (n := c) hRB (fun h => ixk ht (by decide) h) (fun h => ixk hr (by omega) h) (by omega) (by omega) (by omega) (ko_b (xl_of (by decide)) (fun h => b_write h) (fun h => x_write h) C hq)))
set_option maxRecDepth 100000 in
set_option maxHeartbeats 4000000 in
theorem e_ensure {G : GG} {d bc bs c M n : Nat} {h : Hp} {Q : Pst} {V : SV} {x : Nat → QIS} {R : RS} {t : Nat} (ht : t < 2 ^ 31) {r : Nat} (hr : r < 2 ^ 31) {z0 : Int32} (B : PU c V n x R) (hc : c < 512) (C : CLS h V M n x R) (hd : 20 ≤ d) (hbc : 6 ≤ bc) (hbs : 40 ≤ bs) (hq : ∀ h', CLS h' V M n x (o_ensure R (nI t) t (nI r) r).2.2 → FK h h' → Q (oRet (vi (dA [-20002, -20001, -20003] (o_ensure R (nI t) t (nI r) r)))) h') : WP G m_L_deed d 0 (aargs 0 [vr (some (nm 40 0)), vi (nI 20), vi (nI t), vi (nI r), vi z0]) [] h bc bs Q := by
  obtain ⟨hS, hW, hmd, hX, hRB, hLF⟩ := B
  have hb1 := hRB.1.2.1
  have hb2 := hRB.1.2.2.2.1
  have hb3 := hRB.1.2.2.2.2.2.1
  obtain ⟨⟨X, hR, hs⟩, hC2, hC3⟩ := id C
  exact c_L_deed (by omega) (p_ensure C.hk (by omega) (c_X11_ensure hR hs (n := c) hRB (fun h => ixk ht (by decide) h) (fun h => ixk hr (by omega) h) (by omega) (by omega) (by omega) (ko_b (xl_of (by decide)) (fun h => b_ensure h) (fun h => x_ensure h) C hq)))
set_option maxRecDepth 100000 in
set_option maxHeartbeats 4000000 in
theorem e_add {G : GG} {d bc bs c M n : Nat} {h : Hp} {Q : Pst} {V : SV} {x : Nat → QIS} {R : RS} {t : Nat} (ht : t < 2 ^ 31) {r : Nat} (hr : r < 2 ^ 31) {y : Int32} (B : PU c V n x R) (hc : c < 512) (C : CLS h V M n x R) (hd : 20 ≤ d) (hbc : 6 ≤ bc) (hbs : 40 ≤ bs) (hq : ∀ h', CLS h' V M n x (o_add R (nI t) t (nI r) r y).2.2 → FK h h' → Q (oRet (vi (dA [-20002, -20001, -20003, -20004] (o_add R (nI t) t (nI r) r y)))) h') : WP G m_L_deed d 0 (aargs 0 [vr (some (nm 40 0)), vi (nI 21), vi (nI t), vi (nI r), vi y]) [] h bc bs Q := by
  obtain ⟨hS, hW, hmd, hX, hRB, hLF⟩ := B
  have hb1 := hRB.1.2.1
  have hb2 := hRB.1.2.2.2.1
  have hb3 := hRB.1.2.2.2.2.2.1
  obtain ⟨⟨X, hR, hs⟩, hC2, hC3⟩ := id C
  exact c_L_deed (by omega) (p_add C.hk (by omega) (c_X11_add hR hs (n := c) hRB (fun h => ixk ht (by decide) h) (fun h => ixk hr (by omega) h) (by omega) (by omega) (by omega) (ko_b (xl_of (by decide)) (fun h => b_add h) (fun h => x_add h) C hq)))
set_option maxRecDepth 100000 in
set_option maxHeartbeats 4000000 in
theorem e_commit {G : GG} {d bc bs c M n : Nat} {h : Hp} {Q : Pst} {V : SV} {x : Nat → QIS} {R : RS} {t : Nat} (ht : t < 3) {z0 z1 : Int32} (B : PU c V n x R) (hc : c < 512) (C : CLS h V M n x R) (hd : 20 ≤ d) (hbc : 60 ≤ bc) (hbs : 300 + 1100 * cgN (RS_tt R t) (RS_rn R) 0 ≤ bs) (hq : ∀ h', CLS h' V M n x (o_commit R (nI t) t).2.2 → FK h h' → Q (oRet (vi (dA [-20002, -20003] (o_commit R (nI t) t)))) h') : WP G m_L_deed d 0 (aargs 0 [vr (some (nm 40 0)), vi (nI 22), vi (nI t), vi z0, vi z1]) [] h bc bs Q := by
  obtain ⟨hS, hW, hmd, hX, hRB, hLF⟩ := B
  have hb1 := hRB.1.2.1
  have hb2 := hRB.1.2.2.2.1
  have hb3 := hRB.1.2.2.2.2.2.1
  obtain ⟨⟨X, hR, hs⟩, hC2, hC3⟩ := id C
  exact c_L_deed (by omega) (p_commit C.hk (by omega) (c_X11_commit hR hs (n := c + 1) (RB_up hRB (by omega)) (fun _ => ⟨rfl, ht⟩) (by omega) (by omega) (by have := flg_t ht hb1; unfold LF at hLF; omega) (by omega) (by omega) (by omega) (ko_d (xl_of (by decide)) (fun h => x_commit h) C hq)))
set_option maxRecDepth 100000 in
set_option maxHeartbeats 4000000 in
theorem e_end {G : GG} {d bc bs c M n : Nat} {h : Hp} {Q : Pst} {V : SV} {x : Nat → QIS} {R : RS} {t : Nat} (ht : t < 2 ^ 31) {z0 z1 : Int32} (B : PU c V n x R) (hc : c < 512) (C : CLS h V M n x R) (hd : 20 ≤ d) (hbc : 6 ≤ bc) (hbs : 40 ≤ bs) (hq : ∀ h', CLS h' V M n x (o_end R (nI t) t).2.2 → FK h h' → Q (oRet (vi (dA [-20002, -20003] (o_end R (nI t) t)))) h') : WP G m_L_deed d 0 (aargs 0 [vr (some (nm 40 0)), vi (nI 23), vi (nI t), vi z0, vi z1]) [] h bc bs Q := by
  obtain ⟨hS, hW, hmd, hX, hRB, hLF⟩ := B
  have hb1 := hRB.1.2.1
  have hb2 := hRB.1.2.2.2.1
  have hb3 := hRB.1.2.2.2.2.2.1
  obtain ⟨⟨X, hR, hs⟩, hC2, hC3⟩ := id C
  exact c_L_deed (by omega) (p_end C.hk (by omega) (c_X11_end hR hs (n := c) hRB (fun h => ixk ht (by decide) h) (by omega) (by omega) (by omega) (ko_d (xl_of (by decide)) (fun h => x_end h) C hq)))
set_option maxRecDepth 100000 in
set_option maxHeartbeats 4000000 in
theorem q_sentBack {G : GG} {d bc bs c M n : Nat} {h : Hp} {Q : Pst} {V : SV} {x : Nat → QIS} {R : RS} {t : Nat} (ht : t < 2 ^ 31) {z0 : Int32} (B : PU c V n x R) (hc : c < 512) (C : CLS h V M n x R) (hd : 20 ≤ d) (hbc : 6 ≤ bc) (hbs : 40 ≤ bs) (hq : ∀ h', CLS h' V M n x (o_sentBack R (nI t) t).2.2 → FK h h' → Q (oRet (vi (dA [-20002] (o_sentBack R (nI t) t)))) h') : WP G m_L_ask d 0 (aargs 0 [vr (some (nm 40 0)), vi (nI 10), vi (nI t), vi z0]) [] h bc bs Q := by
  obtain ⟨hS, hW, hmd, hX, hRB, hLF⟩ := B
  have hb1 := hRB.1.2.1
  have hb2 := hRB.1.2.2.2.1
  have hb3 := hRB.1.2.2.2.2.2.1
  obtain ⟨⟨X, hR, hs⟩, hC2, hC3⟩ := id C
  exact c_L_ask (by omega) (a_sentBack C.hk (by omega) (c_X11_sentBack hR hs (n := c) hRB (fun h => ixk ht (by decide) h) (by omega) (by omega) (by omega) (ko_a (xla_of (by decide) (by decide)) (fun h => x_sentBack h) C hq)))
set_option maxRecDepth 100000 in
set_option maxHeartbeats 4000000 in
theorem q_valueOf {G : GG} {d bc bs c M n : Nat} {h : Hp} {Q : Pst} {V : SV} {x : Nat → QIS} {R : RS} {r : Nat} (hr : r < 2 ^ 31) {z0 : Int32} (B : PU c V n x R) (hc : c < 512) (C : CLS h V M n x R) (hd : 20 ≤ d) (hbc : 6 ≤ bc) (hbs : 40 ≤ bs) (hq : ∀ h', CLS h' V M n x (o_valueOf R (nI r) r).2.2 → FK h h' → Q (oRet (vi (dA [-20001] (o_valueOf R (nI r) r)))) h') : WP G m_L_ask d 0 (aargs 0 [vr (some (nm 40 0)), vi (nI 11), vi (nI r), vi z0]) [] h bc bs Q := by
  obtain ⟨hS, hW, hmd, hX, hRB, hLF⟩ := B
  have hb1 := hRB.1.2.1
  have hb2 := hRB.1.2.2.2.1
  have hb3 := hRB.1.2.2.2.2.2.1
  obtain ⟨⟨X, hR, hs⟩, hC2, hC3⟩ := id C
  exact c_L_ask (by omega) (a_valueOf C.hk (by omega) (c_X11_valueOf hR hs (n := c) hRB (fun h => ixk hr (by omega) h) (by omega) (by omega) (by omega) (ko_a (xla_of (by decide) (by decide)) (fun h => x_valueOf h) C hq)))
set_option maxRecDepth 100000 in
set_option maxHeartbeats 4000000 in
theorem q_valueByLog {G : GG} {d bc bs c M n : Nat} {h : Hp} {Q : Pst} {V : SV} {x : Nat → QIS} {R : RS} {r : Nat} (hr : r < 2 ^ 31) {z0 : Int32} (B : PU c V n x R) (hc : c < 512) (C : CLS h V M n x R) (hd : 20 ≤ d) (hbc : 6 ≤ bc) (hbs : 40 ≤ bs) (hq : ∀ h', CLS h' V M n x (o_valueByLog R (nI r) r).2.2 → FK h h' → Q (oRet (vi (dA [-20001] (o_valueByLog R (nI r) r)))) h') : WP G m_L_ask d 0 (aargs 0 [vr (some (nm 40 0)), vi (nI 12), vi (nI r), vi z0]) [] h bc bs Q := by
  obtain ⟨hS, hW, hmd, hX, hRB, hLF⟩ := B
  have hb1 := hRB.1.2.1
  have hb2 := hRB.1.2.2.2.1
  have hb3 := hRB.1.2.2.2.2.2.1
  obtain ⟨⟨X, hR, hs⟩, hC2, hC3⟩ := id C
  exact c_L_ask (by omega) (a_valueByLog C.hk (by omega) (c_X11_valueByLog hR hs (n := c) hRB (fun h => ixk hr (by omega) h) (by omega) (by omega) (by omega) (ko_a (xla_of (by decide) (by decide)) (fun h => x_valueByLog h) C hq)))
set_option maxRecDepth 100000 in
set_option maxHeartbeats 4000000 in
theorem q_history {G : GG} {d bc bs c M n : Nat} {h : Hp} {Q : Pst} {V : SV} {x : Nat → QIS} {R : RS} {r : Nat} (hr : r < 2 ^ 31) {z0 : Int32} (B : PU c V n x R) (hc : c < 512) (C : CLS h V M n x R) (hd : 20 ≤ d) (hbc : 6 ≤ bc) (hbs : 40 ≤ bs) (hq : ∀ h', CLS h' V M n x (o_history R (nI r) r).2.2 → FK h h' → Q (oRet (vi (dA [-20001] (o_history R (nI r) r)))) h') : WP G m_L_ask d 0 (aargs 0 [vr (some (nm 40 0)), vi (nI 13), vi (nI r), vi z0]) [] h bc bs Q := by
  obtain ⟨hS, hW, hmd, hX, hRB, hLF⟩ := B
  have hb1 := hRB.1.2.1
  have hb2 := hRB.1.2.2.2.1
  have hb3 := hRB.1.2.2.2.2.2.1
  obtain ⟨⟨X, hR, hs⟩, hC2, hC3⟩ := id C
  exact c_L_ask (by omega) (a_history C.hk (by omega) (c_X11_history hR hs (n := c) hRB (fun h => ixk hr (by omega) h) (by omega) (by omega) (by omega) (ko_a (xla_of (by decide) (by decide)) (fun h => x_history h) C hq)))
set_option maxRecDepth 100000 in
set_option maxHeartbeats 4000000 in
theorem q_logAt {G : GG} {d bc bs c M n : Nat} {h : Hp} {Q : Pst} {V : SV} {x : Nat → QIS} {R : RS} {k : Nat} (hk : k < 2 ^ 31) {j : Nat} (hj : j < 4) (B : PU c V n x R) (hc : c < 512) (C : CLS h V M n x R) (hd : 20 ≤ d) (hbc : 6 ≤ bc) (hbs : 40 ≤ bs) (hq : ∀ h', CLS h' V M n x (o_logAt R (nI k) k (nI j) j).2.2 → FK h h' → Q (oRet (vi (dA [-20001, -20002] (o_logAt R (nI k) k (nI j) j)))) h') : WP G m_L_ask d 0 (aargs 0 [vr (some (nm 40 0)), vi (nI 14), vi (nI k), vi (nI j)]) [] h bc bs Q := by
  obtain ⟨hS, hW, hmd, hX, hRB, hLF⟩ := B
  have hb1 := hRB.1.2.1
  have hb2 := hRB.1.2.2.2.1
  have hb3 := hRB.1.2.2.2.2.2.1
  obtain ⟨⟨X, hR, hs⟩, hC2, hC3⟩ := id C
  exact c_L_ask (by omega) (a_logAt C.hk (by omega) (c_X11_logAt hR hs (n := c) hRB (fun h => ixk hk (by omega) h) (fun _ => ⟨rfl, hj⟩) (by omega) (by omega) (by omega) (ko_a (xla_of (by decide) (by decide)) (fun h => x_logAt h) C hq)))
