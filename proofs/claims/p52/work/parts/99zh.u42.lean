/-! The class: a sequence collected, what is pure. -/
theorem dOf_mo {n m : Nat} (h : n ≤ m) : dOf n ≤ dOf m := by unfold dOf; (repeat' split) <;> omega
theorem ith_le {s n m : Nat} (h : n ≤ m) (hi : ith s n = true) : ith s m = true := by
  rw [ith_iff] at hi ⊢
  have := dOf_mo h
  exact ⟨by omega, by omega⟩
def cn21 (n : Nat) : Nat := sumN (fun s => if ith s n = true then 1 else 0) 21
theorem cn21_s : ∀ i, i < 64 → cn21 i + crN (fun t => ith t i) i (dOf (i + 1) + 1) = cn21 (i + 1) := by decide +kernel
theorem cn21_0 : cn21 0 = 1 := by decide +kernel
theorem colK_0 {S : SV} {xs : List (List Int32)} {z k : Nat} : sMd (colK S xs z k) = sMd S := rfl
/-- the state with a sequence's elements -/
theorem col_f {S : SV} {xs : List (List Int32)} (ht : tot xs ≤ 64) : sNv (colS S xs) = sNv S + 1 ∧ sTy (colS S xs) (sNv S) = 118 ∧ sSz (colS S xs) (sNv S) = tot xs ∧ (∀ v, v < sNv S → vp (colS S xs) v = vp S v) ∧ (∀ j, j < tot xs → elv (colS S xs) (sNv S) j = atF xs j) ∧
    (∀ s, s < 21 → ith s (tot xs) = true → sMd S < ndv (colS S xs) (sNv S) s ∧ ndv (colS S xs) (sNv S) s ≤ sMd (colS S xs)) ∧ (∀ s t, s < 21 → t < 21 → ith s (tot xs) = true → ith t (tot xs) = true → ndv (colS S xs) (sNv S) s = ndv (colS S xs) (sNv S) t → s = t) ∧ sMd (colS S xs) = sMd S + cn21 (tot xs) ∧ ∀ s, owv (colS S xs) (sNv S) s = false := by
  have e1 : sNv (s_new S 118) - 1 = sNv S := by show sNv S + 1 - 1 = _; omega
  have z : sSz (colK (s_new S 118) xs (tot xs) (tot xs)) (sNv S) = tot xs := by
    show va_up (sSz (s_new S 118)) (sNv (s_new S 118) - 1) (tot xs) (sNv S) = _
    rw [e1, va_up_self]
  have nd : ∀ s, s < 21 → ith s (tot xs) = true → ndv (colS S xs) (sNv S) s = nfM (colK (s_new S 118) xs (tot xs) (tot xs)) (sNv S) (fun _ => false) s + 1 := fun s hs hi => by
    show ndv (nfS (colK (s_new S 118) xs (tot xs) (tot xs)) (sNv S) (fun _ => false) (fun _ => 0) 21) (sNv S) s = _
    rw [ndv_nf hs, z, if_pos hi, if_neg (by decide)]
  have nw : ∀ s k, ith s (tot xs) = true → s < k → nfM (colK (s_new S 118) xs (tot xs) (tot xs)) (sNv S) (fun _ => false) s + 1 ≤ nfM (colK (s_new S 118) xs (tot xs) (tot xs)) (sNv S) (fun _ => false) k := fun s k hi h => nfM_new (by rw [z]; exact hi) rfl h
  have m0 : ∀ s, sMd S ≤ nfM (colK (s_new S 118) xs (tot xs) (tot xs)) (sNv S) (fun _ => false) s := fun s => nfM_mono (S := colK (s_new S 118) xs (tot xs) (tot xs)) (v := sNv S) (sm := fun _ => false) (Nat.zero_le s)
  refine ⟨rfl, va_up_self _ _ _, z, fun v hv => (vp_nf (by omega)).trans (vp_ext (va_ne (by omega)) ?_ (fun _ _ => rfl) (fun i hi => ?_) (fun _ _ => rfl) (fun _ _ => rfl) (fun _ _ => rfl) (fun _ _ => rfl)), fun j hj => ?_, fun s hs hi => ⟨?_, ?_⟩, fun s t hs ht hi hj e => ?_, ?_, fun s => ?_⟩
  · show va_up (sSz (s_new S 118)) (sNv (s_new S 118) - 1) (tot xs) v = _
    rw [e1, va_ne (by omega)]; exact va_ne (by omega)
  · show blk (sEl S) (fun i => atF xs i) 64 (sNv (s_new S 118) - 1) (tot xs) (64 * v + i) = _
    rw [e1]; exact blk_o (by omega)
  · rw [show elv (colS S xs) (sNv S) j = blk (sEl S) (fun i => atF xs i) 64 (sNv (s_new S 118) - 1) (tot xs) (64 * sNv S + j) from if_pos (by omega), e1]
    exact blk_i hj
  · rw [nd s hs hi]; have := m0 s; omega
  · rw [nd s hs hi]; exact nw s 21 hi hs
  · rw [nd s hs hi, nd t ht hj] at e
    by_cases q : s < t
    · have := nw s t hi q; omega
    · by_cases r : t < s
      · have := nw t s hj r; omega
      · omega
  · show nfM (colK (s_new S 118) xs (tot xs) (tot xs)) (sNv S) (fun _ => false) 21 = _
    rw [nfM_sum, z]
    have : (fun s => if (ith s (tot xs) && !false) = true then 1 else 0) = (fun s => if ith s (tot xs) = true then 1 else 0) := funext fun s => by rw [Bool.not_false, Bool.and_true]
    rw [this]; rfl
  · show owv (nfS (colK (s_new S 118) xs (tot xs) (tot xs)) (sNv S) (fun _ => false) (fun _ => 0) 21) (sNv S) s = false
    rw [owv_nf]
/-- the heap while a sequence's elements are put in: i of them -/
def COI (h0 h : Hp) (M n N c0 c1 i : Nat) (nd : Nat → Nat) (el : Nat → Int32) : Prop := VT h M i nd el (fun _ => true) (nI n) ∧ MKR h (c0 + cn21 i) ∧ (∀ s, s < 21 → ith s N = true → ¬ ith s i = true → FrN h (nd s)) ∧ Fr h0 h (VN c0 c1)
section COL
variable {G : GG} {d bc bs : Nat} {h0 h : Hp} {Q : Pst} {M n N c0 c1 i : Nat} {nd : Nat → Nat} {el : Nat → Int32}
theorem c_moreC (hn60 : n < 60) (hN : N ≤ 64) (hi : i < N) (hc : c0 + 30 < 700000) (hnd : ∀ s, s < 21 → ith s N = true → c0 < nd s ∧ nd s ≤ c1) (hinj : ∀ s t, s < 21 → t < 21 → ith s N = true → ith t N = true → nd s = nd t → s = t) (C : COI h0 h M n N c0 c1 i nd el) (hd : 8 ≤ d) (hbc : 12 ≤ bc) (hbs : 273 ≤ bs) (hq : ∀ h', COI h0 h' M n N c0 c1 (i + 1) nd el → Fr h h' (VN c0 c1) → Q (oRet (vr (some (nm 45 (nd (rtS (i + 1))))))) h') : WP G m_X9_withOneMore d 0 (aargs 0 [vr (some (nm 40 2)), vr (some (nm 45 (nd (rtS i)))), vi (nI i), vi (el i), vi (nI n)]) [] h bc bs Q := by
  obtain ⟨V, hM, hF, hFr⟩ := C
  have up : ∀ s, ith s (i + 1) = true → ith s N = true := fun s z => ith_le (by omega) z
  have up0 : ∀ s, ith s i = true → ith s N = true := fun s z => ith_le (by omega) z
  have d3 := dOf_b (i + 1)
  have cle : cn21 i ≤ 21 := sum01 (fun s => by split <;> omega) 21
  have pi : ∀ j, 1 ≤ j → j ≤ dOf (i + 1) → ith (psl i j) (i + 1) = true := fun j j1 j2 => psl_i (Nat.lt_succ_self i) (by omega) j1 j2
  refine c_X9_withOneMore (ow' := fun _ => true) (nd' := nd) (ru := fun t => ith t i) (c := c0 + cn21 i) V (by omega) (fun t => by rw [m1_ne hn60]; simp) (fun s t s1 t1 s2 t2 e => hinj s t s1 t1 (up0 s s2) (up0 t t2) e) (fun _ _ _ _ => rfl) ⟨fun j j1 j2 => ⟨fun _ => rfl, fun z => hF _ (psl_lt (by omega)) (up _ (pi j j1 j2)) (fun q => by have z2 : ith (psl i j) i = false := z; rw [z2] at q; cases q)⟩, fun a b a1 a2 a3 e => ?_⟩ hM (by omega) (fun _ _ _ => rfl) (fun _ _ => rfl) hd hbc hbs (fun h3 V3 O3 M3 F3 => ?_)
  · have := hinj _ _ (psl_lt (by omega)) (psl_lt (by omega)) (up _ (pi a a1 (by omega))) (up _ (pi b (by omega) a3)) e
    have lt := psl_m (pl := i) (by omega) a1 a2 (by omega)
    omega
  · have F9 : Fr h h3 (VN c0 c1) := fun b hb => F3 b (fun z => hb (z.elim Or.inl (fun ⟨j, j1, j2, q⟩ => Or.inr (by have := hnd _ (psl_lt (by omega)) (up _ (pi j j1 j2)); unfold CNo at q; omega))))
    rw [rtS_p (Nat.lt_succ_self i)]
    refine hq h3 ⟨?_, ?_, fun s s1 s2 s3 => ?_, fun b hb => (F9 b hb).trans (hFr b hb)⟩ F9
    · have e : va_up el i (el i) = el := funext fun j => by
        rw [va_up_app]
        by_cases z : j = i
        · rw [if_pos z, z]
        · rw [if_neg z]
      rw [e] at V3; exact V3
    · rw [← cn21_s i (by omega), ← Nat.add_assoc]; exact M3
    · refine (hF s s1 s2 (fun z => s3 (ith_le (by omega) z))).frm (fun r r1 r2 => F3 _ (fun z => ?_))
      rcases z with z | ⟨j, j1, j2, q⟩
      · unfold nm at z; omega
      · have q3 := q.2.2
        have : nd s = nd (psl i j) := by unfold nm at q3; omega
        have := hinj s _ s1 (psl_lt (by omega)) s2 (up _ (pi j j1 j2)) this
        rw [this] at s3
        exact s3 (pi j j1 j2)
/-- one leaf -/
theorem COI.zero {k : Nat} {x : KNS} {h1 : Hp} (hN : N ≤ 64) (hnd : ∀ s, s < 21 → ith s N = true → c0 < nd s ∧ nd s ≤ c1) (hinj : ∀ s t, s < 21 → t < 21 → ith s N = true → ith t N = true → nd s = nd t → s = t) (hf : ∀ k, c0 < k → FrN h k) (hk : nd 0 = k) (K : KN h1 k x) (L : LFx k (nI n) (fun _ => nI 0) x) (hm : KN_mk x = nI 0) (hM : MKR h1 (c0 + 1)) (F : Fr h h1 (W1 k)) : COI h h1 M n N c0 c1 0 nd el := by
  have i0 : ith 0 N = true := ith_le (Nat.zero_le _) (ith_0.mpr rfl)
  have n0 := hnd 0 (by decide) i0
  refine ⟨fun s _ hi => ?_, by rw [cn21_0]; exact hM, fun s s1 s2 s3 => ?_, fun b hb => F b (fun z => hb ?_)⟩
  · have e := ith_0.mp hi
    subst e
    rw [hk]
    refine ⟨x, K, ⟨⟨0, Nat.zero_le _, hm⟩, ?_⟩, Or.inr ⟨fun _ => rfl, fun _ => L.2.1⟩⟩
    rw [if_pos (by decide), L.2.1]
    exact L.of (fun p _ => if_neg (Nat.not_lt_zero _))
  · have ns : nd s ≠ k := fun e => s3 (by rw [hinj s 0 s1 (by decide) s2 i0 (e.trans hk.symm)]; exact ith_0.mpr rfl)
    exact (hf _ (hnd s s1 s2).1).frm (fun r r1 r2 => F _ (by unfold W1 CNo nm; omega))
  · unfold W1 CNo at z; unfold VN; omega
end COL
/-- the vector of a sequence is kept -/
theorem CV.colEnd {h h2 h3 h4 : Hp} {S : SV} {M K : Nat} {xs : List (List Int32)} (hC : CV h S M) (h60 : sNv S < 60) (ht : tot xs ≤ 64) (fK : FreeI h 43 K) (C2 : COI h h2 M (sNv S) (tot xs) (sMd S) (sMd (colS S xs)) (tot xs) (ndv (colS S xs) (sNv S)) (atF xs)) (F3 : Fr h2 h3 (fun b => b = nm 43 K)) (R3 : PRr h3 (nm 43 K) (tot xs) (atF xs)) (C4 : CVh h4 (sNv S + 1) M) (K4 : KU h4 (sNv S) (0, some (nm 45 (ndv (colS S xs) (sNv S) (rtS (tot xs)))), tot xs, none, some (nm 43 K))) (G4 : ∀ b, b ≠ nm 40 0 → b ≠ nm 40 1 → b ≠ nm 42 (sNv S) → ce h4 b = ce h3 b) (V4 : FRV h3 h4) : CV h4 (colS S xs) M ∧ FRV h h4 := by
  obtain ⟨f1, f2, f3, f4, f5, f6, f7, f8, f9⟩ := col_f (S := S) (xs := xs) ht
  obtain ⟨V, hM, -, hFr⟩ := C2
  have g : ∀ r i, r ≠ 43 → r < 128 → ce h3 (nm r i) = ce h2 (nm r i) := fun r i r1 r2 => F3 _ (by unfold nm; omega)
  refine hC.vecEnd (a := K) (ow := fun _ => true) (el' := elv (colS S xs) (sNv S)) f1 f2 f3 rfl f4 (by rw [f8]; omega) fK (fun b hb => (F3 b (fun z => hb (Or.inr (Or.inl z)))).trans (hFr b (fun z => hb (Or.inl z)))) ⟨R3.1, R3.2.1, fun j hj => by rw [f5 j hj]; exact R3.2.2 j hj⟩ ((V.cg (fun _ _ _ => rfl) f5 (fun _ _ _ => Or.inl rfl)).frm (fun s r _ _ r1 r2 => g r _ (by omega) (by omega))) (fun s s1 s2 => ?_) (by rw [f8]; exact hM.frm (g _ _ (by decide) (by decide))) C4 K4 G4 V4
  obtain ⟨x, hO, -, ho⟩ := V s s1 s2
  rw [ce_I (g 45 _ (by decide) (by decide)), hO.f_own]
  rcases ho with z | z
  · exfalso
    have e2 := congrArg Int32.toInt z
    rw [nI_toInt (by omega)] at e2
    have e3 : (-1 : Int32).toInt = -1 := by decide
    omega
  · exact Or.inr ⟨sNv S, by omega, z.mpr rfl⟩
