/-! Pieces of the JDK that hold its own objects: Integer.valueOf of a small number; Arrays.copyOf of a row of objects. -/
theorem co_J9_min : Cond.code Lib.Math.min.name Lib.Math.min.code 2 (some .int) ∈ lw_good := lw_in3 198 (by decide +kernel) (by decide +kernel)
theorem co_J9_max : Cond.code Lib.Math.max.name Lib.Math.max.code 2 (some .int) ∈ lw_good := lw_in4 100 (by decide +kernel) (by decide +kernel)
/-- the row of a, as far as n, in a new row -/
abbrev cpN (h : Hp) (a q n m : Nat) : Hp := cpR (mk h q 118 m) q (va_cpy (h_R h a) (fun _ => none) 0 0 n)
theorem q_copyOf3 {G : GG} {d bc bs : Nat} {h : Hp} {Q : Pst} {a N M : Nat} (ha : h_k h a = 118) (hN : h_n h a = N) (hN0 : 0 < N) (hNM : N ≤ M) (hM : M ≤ 60000) (hd : 2 ≤ d) (hbc : 1 ≤ bc) (hbs : M ≤ bs) (hel : ∀ i v, i < N → h_R h a i = some v → h_k h v ≠ 0 ∧ h_k h v ≠ 200) (hq : ∀ q, h_k h q = 0 → gB G ≤ q → Q (oRet (vr (some q))) (cpN h a q N M)) : WQ G m_J7_copyOf_6403c d 0 (aargs 0 [vr (some a), vi (nI M), vr (some (gM G))]) [] h bc bs Q := by
  have hM' : M < 2 ^ 31 := by omega
  have hN' : N < 2 ^ 31 := by omega
  refine wq_sub [(0, vr (some a)), (1, vi (nI M)), (2, vr (some (gM G)))] (fun _ hz => hz) ?_
  refine wq_aload_n (i := 2) dJ7_copyOf_6403c_0 rfl rfl ?_
  refine wq_ldcM dJ7_copyOf_6403c_1 kl_J7_110 ?_
  refine wq_acmp_ne 13 dJ7_copyOf_6403c_3 (by decide) (fun c => absurd rfl c) (fun _ => ?_)
  refine wq_iload_n (i := 1) dJ7_copyOf_6403c_6 rfl rfl ?_
  refine wq_anewarray 118 M dJ7_copyOf_6403c_7 rfl (by decide) kl_J7_2 (fun e => absurd ((nI_ltI hM' (by decide : (0 : Nat) < 2 ^ 31)).mp e) (Nat.not_lt_zero _)) (nI_clamp hM') hM hbc hbs (fun q g1 g2 => ?_)
  refine wq_goto 24 dJ7_copyOf_6403c_10 (by decide) ?_
  refine wq_astore_n (i := 3) (lv' := [(3, vr (some q)), (0, vr (some a)), (1, vi (nI M)), (2, vr (some (gM G)))]) dJ7_copyOf_6403c_24 rfl (by decide) rfl ?_
  have hne : a ≠ q := fun e => by rw [e, g1] at ha; cases ha
  have ha' : h_k (mk h q 118 M) a = 118 := by show va_up (h_k h) q 118 a = 118; rw [va_up_ne _ _ hne, ha]
  have hn' : h_n (mk h q 118 M) a = N := by show va_up (h_n h) q M a = N; rw [va_up_ne _ _ hne, hN]
  have hkq : h_k (mk h q 118 M) q = 118 := by show va_up (h_k h) q 118 q = 118; rw [va_up_self]
  have hnq : h_n (mk h q 118 M) q = M := by show va_up (h_n h) q M q = M; rw [va_up_self]
  have hRa : h_R (mk h q 118 M) a = h_R h a := va_up_ne _ _ hne
  have hRq : h_R (mk h q 118 M) q = fun _ => none := va_up_self _ _ _
  refine wq_aload_n (i := 0) dJ7_copyOf_6403c_25 rfl rfl ?_
  refine wq_iconst (nI 0) dJ7_copyOf_6403c_26 (by decide) ?_
  refine wq_aload_n (i := 3) dJ7_copyOf_6403c_27 rfl rfl ?_
  refine wq_iconst (nI 0) dJ7_copyOf_6403c_28 (by decide) ?_
  refine wq_aload_n (i := 0) dJ7_copyOf_6403c_29 rfl rfl ?_
  refine wq_alen dJ7_copyOf_6403c_30 (arTy_118 ha') ?_
  rw [hn']
  refine wq_iload_n (i := 1) dJ7_copyOf_6403c_31 rfl rfl ?_
  refine wq_min dJ7_copyOf_6403c_32 ml_J7_304 st_J9_min_7cf53 ini_J9 co_J9_min (by omega) (Nat.le_of_ble_eq_true rfl) ?_
  rw [if_neg (fun e => absurd ((nI_ltI hM' hN').mp e) (by omega))]
  refine wq_copyR dJ7_copyOf_6403c_35 ml_J7_150 na_java_lang_System_arraycopy__Ljava_lang_Object_ILjava_lang_Object_II_V st_java_lang_System_arraycopy__Ljava_lang_Object_ILjava_lang_Object_II_V ini_J10 (by omega) (Nat.le_of_ble_eq_true rfl) ha' hkq (by rw [hn']; omega) (by rw [hnq]; omega) (by decide) (by decide) (fun e => absurd ((nI_ltI hN' (by decide : (0 : Nat) < 2 ^ 31)).mp e) (Nat.not_lt_zero _)) (by rw [hn', nI_clamp hN', nI_clamp (by decide)]; omega) (by rw [hnq, nI_clamp hN', nI_clamp (by decide)]; omega) (fun i v hi hv => by
    rw [hn'] at hi
    rw [hRa] at hv
    show va_up (h_k h) q 118 v ≠ 0 ∧ va_up (h_k h) q 118 v ≠ 200
    have := hel i v hi hv
    rw [va_up_ne _ _ (fun e => this.1 (by rw [e]; exact g1))]
    exact this) ?_
  rw [hRa, hRq, nI_clamp hN', nI_clamp (by decide)]
  refine wq_aload_n (i := 3) dJ7_copyOf_6403c_38 rfl rfl ?_
  exact wq_areturn dJ7_copyOf_6403c_39 rfl (Or.inr ⟨_, rfl⟩) (hq q g1 g2)
theorem q_copyOf2 {G : GG} {d bc bs : Nat} {h : Hp} {Q : Pst} {a N M : Nat} (ha : h_k h a = 118) (hN : h_n h a = N) (hN0 : 0 < N) (hNM : N ≤ M) (hM : M ≤ 60000) (hd : 3 ≤ d) (hbc : 1 ≤ bc) (hbs : M ≤ bs) (hel : ∀ i v, i < N → h_R h a i = some v → h_k h v ≠ 0 ∧ h_k h v ≠ 200) (hq : ∀ q, h_k h q = 0 → gB G ≤ q → Q (oRet (vr (some q))) (cpN h a q N M)) : WQ G m_J7_copyOf_1904c d 0 (aargs 0 [vr (some a), vi (nI M)]) [] h bc bs Q := by
  refine wq_sub [(0, vr (some a)), (1, vi (nI M))] (fun _ hz => hz) ?_
  refine wq_aload_n (i := 0) dJ7_copyOf_1904c_0 rfl rfl ?_
  refine wq_iload_n (i := 1) dJ7_copyOf_1904c_1 rfl rfl ?_
  refine wq_aload_n (i := 0) dJ7_copyOf_1904c_2 rfl rfl ?_
  refine wq_getC dJ7_copyOf_1904c_3 ml_J7_86 de_java_lang_Object_getClass___Ljava_lang_Class_ sx__Ljava_lang_Object__java_lang_Object_getClass___Ljava_lang_Class_ im_java_lang_Object_getClass___Ljava_lang_Class_ na_java_lang_Object_getClass___Ljava_lang_Class_ (by omega) (Nat.le_of_ble_eq_true rfl) ha ?_
  refine wq_cS (y' := m_J7_copyOf_6403c) [vr (some a), vi (nI M), vr (some (gM G))] [] 1 M dJ7_copyOf_1904c_6 ml_J7_300 st_J7_copyOf_6403c ok_J7_copyOf_6403c rfl (Nat.le_of_ble_eq_true rfl) rfl (Nat.le_of_ble_eq_true rfl) (d' := 2) (by omega) hbc hbs ?_
  refine q_copyOf3 ha hN hN0 hNM hM (by decide) (Nat.le_refl _) (Nat.le_refl _) hel (fun q g1 g2 => contq_ret ?_)
  exact wq_areturn dJ7_copyOf_1904c_9 rfl (Or.inr ⟨_, rfl⟩) (hq q g1 g2)
