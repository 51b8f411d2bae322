/-! The law: sharing; the loop; its start. -/
section LR3
variable {G : GG} {w : Nat} {y y' : MI} {d d' pc idx n count : Nat} {lv lv' : LV} {st rest : List AV} {h : Hp} {bc bs mc ms : Nat} {Q : Pst}
theorem wl_isub {x z : Int32} (hd : decode (mC y) pc = .ok (.isub, 1)) (K : WL G w y d (pc + 1) lv (vi (x - z) :: st) h bc bs Q) : WL G w y d pc lv (vi z :: vi x :: st) h bc bs Q := by
  intro α hp oN ol os Q0 oU
  show WQ G y d pc ((0, vr (some w)) :: lm α lv) (vi z :: vi x :: sm α st) hp bc bs Q0
  exact wq_isub hd (K.of oN ol ((os.tl.tl).cons (trivial)) oU rfl rfl)
theorem wl_icmp_gt {x z : Int32} {off : Int} (tgt : Nat) (hd : decode (mC y) pc = .ok (.if_icmp .gt off, 3)) (ht : (pc : Int) + off = (tgt : Int)) (kt : z < x → WL G w y d tgt lv st h bc bs Q) (kf : ¬ z < x → WL G w y d (pc + 3) lv st h bc bs Q) : WL G w y d pc lv (vi z :: vi x :: st) h bc bs Q := by
  intro α hp oN ol os Q0 oU
  show WQ G y d pc ((0, vr (some w)) :: lm α lv) (vi z :: vi x :: sm α st) hp bc bs Q0
  exact wq_icmp_gt tgt hd ht (fun c => (kt c).of oN ol (os.tl.tl) oU rfl rfl) (fun c => (kf c).of oN ol (os.tl.tl) oU rfl rfl)
theorem wl_new {idx : Nat} (ci : Nat) (hd : decode (mC y) pc = .ok (.new idx, 3)) (hci : ci < 18) (hlink : Cond.classLink (mN y).cls idx (clR ci) ∈ lw_good) (hins : Cond.instantiable (clR ci) (clN ci) ∈ lw_good) (hini : Cond.initialized (clR ci) ∈ lw_good) (hbc : 1 ≤ bc) (hbs : clN ci ≤ bs)
    (q : Nat) (hq : h_k h q = 0) (K : WL G w y d (pc + 3) lv (vr (some q) :: st) (mk h q (ci + 1) 0) (bc - 1) (bs - clN ci) Q) : WL G w y d pc lv st h bc bs Q := by
  intro α hp oN ol os Q0 oU
  refine wq_new ci hd hci hlink hins hini hbc hbs (fun q0 g1 g2 => ?_)
  obtain ⟨n1, n2⟩   := oN.make (n := 0) hq g1 (Nat.succ_ne_zero _)
  exact K.of n1 (ol.ext n2) ((SI.ext os n2).cons (mk_at (Nat.succ_ne_zero _))) (oU.st n2) (by rw [lm_ext ol n2]) (sm_new os n2)
theorem wl_newarray {atype : ArrayType} {n : Int32} (kd N : Nat) (ty : FieldType) (hd : decode (mC y) pc = .ok (.newarray atype, 2)) (hty : newarray.typeOf atype = ty) (hkd : arTy kd = some ty) (hw : Cond.arrayClass ty ∈ lw_good) (hn : ¬ n < 0) (hN : n.toNatClampNeg = N) (hb : N ≤ 60000) (hcb : componentBytes ty ≤ 8) (hpl : ∀ (h' : Hp) (q : Nat), (∀ j, h_I h' q j = 0 ∧ h_L h' q j = 0 ∧ h_F h' q j = 0) → ∀ cA : ClassId, vp_cell cA (encA h' q ty) = arrV cA (h_n h' q) (fun _ => defaultValue ty)) (hbc : 1 ≤ bc) (hbs : N ≤ bs)
    (q : Nat) (hq : h_k h q = 0) (K : WL G w y d (pc + 2) lv (vr (some q) :: st) (mk h q kd N) (bc - 1) (bs - N) Q) : WL G w y d pc lv (vi n :: st) h bc bs Q := by
  intro α hp oN ol os Q0 oU
  show WQ G y d pc ((0, vr (some w)) :: lm α lv) (vi n :: sm α st) hp bc bs Q0
  refine wq_newarray kd N ty hd hty hkd hw hn hN hb hcb hpl hbc hbs (fun q0 g1 g2 => ?_)
  obtain ⟨n1, n2⟩   := oN.make (n := N) hq g1 (arTy0 hkd)
  exact K.of n1 (ol.ext n2) ((SI.ext os.tl n2).cons (mk_at (arTy0 hkd))) (oU.st n2) (by rw [lm_ext ol n2]) (sm_new os.tl n2)
theorem wl_cI {b : Nat} (as : List AV) (rest : List AV) (mc ms : Nat) (hd : decode (mC y) pc = .ok (.invokespecial idx, 3)) (hl : Cond.methodLink (mN y).cls idx (mN y') ∈ lw_good) (hin : Cond.instanceMethod (mN y') ∈ lw_good) (hnm : (mN y').name = "<init>") (hr0 : mR y' = none) (hy : MOk y' n) (hn : as.length = n) (hw : awords (vr (some b) :: as) ≤ mL y') (e : st = as.reverse ++ vr (some b) :: rest) (hcat : awords rest ≤ 8) (hd1 : d' < d) (h1 : mc ≤ bc) (h2 : ms ≤ bs)
    (K' : WP G y' d' 0 (aargs 0 (vr (some b) :: as)) [] h mc ms (contL G w y d (pc + 3) lv rest (bc - mc) (bs - ms) Q)) : WL G w y d pc lv st h bc bs Q := by
  intro α hp oN ol os Q0 oU
  subst e
  have ha := SI.app os
  have ee : sm α (as.reverse ++ vr (some b) :: rest) = (as.map (am α)).reverse ++ vr (some (α b)) :: sm α rest := by
    rw [sm, List.map_append, List.map_reverse]; rfl
  exact wq_cI (as.map (am α)) (sm α rest) mc ms hd hl hin hnm hr0 hy (by rw [List.length_map]; exact hn) (by rw [show awords (vr (some (α b)) :: as.map (am α)) = awords (vr (some b) :: as) from awords_am (vr (some b) :: as)]; exact hw) ee (by rw [awords_am]; exact hcat) hd1 h1 h2 (K'.callee oN (ha.1.rev.cons ha.2.hd) (contL_up ol ha.2.tl oU))
theorem wl_slen (hw : w = G.2.2.2.2.1) (h0 : decode (mC y) pc = .ok (.aload_n 0, 1)) (h1 : decode (mC y) (pc + 1) = .ok (.arraylength, 1)) (K : WL G w y d (pc + 2) lv (vi (nI (slen G)) :: st) h bc bs Q) : WL G w y d pc lv st h bc bs Q := by
  intro α hp oN ol os Q0 oU
  subst hw
  exact wq_aload_n h0 rfl lk_0 (wq_slen h1 (K.of oN ol (os.cons trivial) oU rfl rfl))
end LR3
theorem sh_n32 {V : SV} (h60 : sNv V ≤ 60) (e0 : (o_sharing V).1 = nI 0) : vf_n32 (o_sharing V).2 := by
  unfold o_sharing at e0 ⊢
  by_cases z : (sgO V (sNv V)).2.1 = 0
  · rw [if_pos z] at e0
    exact absurd e0 (by decide)
  · rw [if_neg z]
    exact fdiv_n (by omega) (by have := (sgO_le (S := V) (sNv V)).1; omega)
theorem n32_nan {a : UInt32} (h : vf_n32 a) : FP.fIsNaN a = false := by
  unfold vf_n32 at h
  rw [UInt32.le_iff_toNat_le, UInt32.toNat_and] at h
  have h : a.toNat &&& (2 ^ 31 - 1) ≤ 2139095040 := h
  rw [Nat.and_two_pow_sub_one_eq_mod] at h
  cases e : FP.fIsNaN a with
  | false => rfl
  | true =>
    have := (FP.Core.isNaN_bits32 a).mp e
    omega
theorem n64_of {a : UInt64} (h : FP.dIsNaN a = false) : vf_n64 a := by
  have h1 : ¬ 9218868437227405312 < a.toNat % 2 ^ 63 := fun z => by
    have := (FP.Core.isNaN_bits a).mpr z
    exact Bool.false_ne_true (h.symm.trans this)
  unfold vf_n64
  rw [UInt64.le_iff_toNat_le, UInt64.toNat_and]
  show _ &&& (2 ^ 63 - 1) ≤ _
  rw [Nat.and_two_pow_sub_one_eq_mod]
  show _ ≤ 9218868437227405312
  omega
theorem f2d_ok {a : UInt32} (h : vf_n32 a) : vf_n64 (FP.f2d a) ∧ FP.dcmp (FP.f2d a) (FP.f2d a) = some .eq := by
  have e : FP.dIsNaN (FP.f2d a) = false := (FP.f2d_nan a).trans (n32_nan h)
  exact ⟨n64_of e, FP.Core.dcmp_self ((FP.Core.notNaN_iff _).mp e)⟩
def FS (h h' : Hp) : Prop := ∀ a, ¬ (40 ≤ a % 128 ∧ a % 128 ≤ 69) → a ≠ nm 71 0 → ce h' a = ce h a
set_option maxRecDepth 100000 in
set_option maxHeartbeats 4000000 in
theorem g_sharing {G : GG} {d bc bs M n : Nat} {h : Hp} {Q : Pst} {V : SV} {x : Nat → QIS} {R : RS} (hS : SVI V) (hM : M < 900000) (C : CLS h V M n x R) (O : h_k h (nm 71 0) = 105 ∧ h_n h (nm 71 0) = 1) (hd : 20 ≤ d) (hbc : 80 ≤ bc) (hbs : 500 ≤ bs) (hq : ∀ h', CLS h' V (M + 1) n x R → FS h h' → (h_k h' (nm 71 0) = 105 ∧ h_n h' (nm 71 0) = 1) → ((o_sharing V).1 = nI 0 → h_F h' (nm 71 0) 0 = FP.f2d (o_sharing V).2) → Q (oRet (vi (o_sharing V).1)) h') : WP G m_L_sharing d 0 (aargs 0 [vr (some (nm 40 0)), vr (some (nm 71 0))]) [] h bc bs Q := by
  refine wp_sub [(0, vr (some (nm 40 0))), (1, vr (some (nm 71 0)))] (fun _ hz => hz) ?_
  refine wp_aload_n (i := 1) dL_sharing_0 rfl rfl ?_
  refine wp_iconst (nI 0) dL_sharing_1 (by decide) ?_
  refine wp_aload_n (i := 0) dL_sharing_2 rfl rfl ?_
  have Ox : ∀ h', FK h h' → h_k h' (nm 71 0) = 105 ∧ h_n h' (nm 71 0) = 1 := fun h' F => ⟨(ce_k (F (nm 71 0) (by unfold nm; omega))).trans O.1, (ce_n (F (nm 71 0) (by unfold nm; omega))).trans O.2⟩
  refine wp_cV (y' := m_X11_sharing) 12 [] [vi (nI 0), vr (some (nm 71 0))] 80 500 dL_sharing_3 ml_L_164 im_X11_sharing se_X11_sharing (by decide) C.hk ok_X11_sharing rfl (Nat.le_of_ble_eq_true rfl) rfl (Nat.le_of_ble_eq_true rfl) (d' := d - 1) (by omega) (by omega) (by omega) (c_X11_sharing hS C.2.2 hM (by omega) (fun e1 h' C9 F9 => ?_) (fun e0 h' C9 F9 => cont_ret ?_) (Nat.le_refl _) (Nat.le_refl _))
  · refine cont_x (wx_catch_n (j := 2) [] (0, 8, 11, 29) [] rfl ps_nil (by decide) (by decide) kl_L_29 ca_527 dL_sharing_11 rfl (by decide) (hj_cons ⟨by decide, rfl⟩ (hj_cons ⟨by decide, rfl⟩ hj_nil)) ?_)
    refine wp_iconst (nI 1) dL_sharing_12 (by decide) ?_
    refine wp_ireturn dL_sharing_13 rfl ?_
    have := hq h' (C.ofV F9 C9) (fun a h1 _ => F9.fk a h1) (Ox h' F9.fk) (fun z => absurd (e1.symm.trans z) (by decide))
    rwa [e1] at this
  · have O2 := Ox h' F9.fk
    have f1 := f2d_ok (sh_n32 hS.1 e0)
    refine wp_f2d dL_sharing_6 f1.1 ?_
    refine wp_dastoreN 1 dL_sharing_7 O2.1 O2.2 (by decide) (by decide) ?_
    refine wp_goto 14 dL_sharing_8 (by decide) ?_
    refine wp_iconst (nI 0) dL_sharing_14 (by decide) ?_
    refine wp_ireturn dL_sharing_15 rfl ?_
    have e2 : ∀ a, a ≠ nm 71 0 → ce (wF h' (nm 71 0) 0 (FP.f2d (o_sharing V).2)) a = ce h' a := fun a ha => by
      show (h_k h' a, h_n h' a, h_I h' a, h_R h' a, h_L h' a, up2 (h_F h') (nm 71 0) 0 _ a) = _
      rw [nu_ne ha]
    have := hq (wF h' (nm 71 0) 0 (FP.f2d (o_sharing V).2)) ((C.ofV F9 C9).fr (fun a ha => e2 a (by unfold nm; omega))) (fun a h1 h2 => (e2 a h2).trans (F9.fk a h1)) O2 (fun _ => gF_wF.trans (if_pos ⟨rfl, rfl⟩))
    rwa [e0] at this
set_option maxRecDepth 100000 in
set_option maxHeartbeats 4000000 in
theorem x_sharing {G : GG} {w c bc bs M n : Nat} {h : Hp} {Q : Pst} {V : SV} {x : Nat → QIS} {R : RS} (hw : w = G.2.2.2.2.1) (hL : slen G < 2 ^ 31) (hi5 : 5 * c + 5 ≤ slen G) (hc : c < 512) (J : JC h) (C : CLS h V M n x R) (D : MDL h V n x R) (A : ARR h) (B : PUR c V M n x R) (U : BUD c n x R bc bs) (K : NXT G w (c + 1) Q) : WL G w m_L_law 100 3239 (lvA c) [] h bc bs Q := by
  obtain ⟨hS, hW, hmd, hMc, hX, hRB, hLF⟩ := id B
  have U2 := id U
  unfold BUD at U2
  have P2 := PC_max hX (fun s h => (hX.2.1 s h).1)
  refine wl_aload_n (i := 1) dL_law_3239 rfl (by decide) rfl ?_
  refine wl_aload (i := 4) dL_law_3240 (by decide) rfl ?_
  refine wl_cSH (y' := m_L_sharing) [vr (some (nm 40 0)), vr (some (nm 71 0))] [] 80 500 dL_law_3242 ml_L_331 st_L_sharing okH_L_sharing rfl (Nat.le_of_ble_eq_true rfl) rfl (Nat.le_of_ble_eq_true rfl) (d' := 99) (by decide) (by omega) (by omega) (g_sharing hS (by omega) C A.2 (by decide) (Nat.le_refl _) (Nat.le_refl _) (fun h1 C1 F1 O1 w1 => contL_ret ?_))
  have D1 := D.fr (h' := h1) (fun a ha => F1 a (by omega) (by unfold nm; omega))
  have J1 : JC h1 := J.fr (fun i => F1 _ (by unfold nm; omega) (by unfold nm; omega))
  have A1 : ARR h1 := ⟨⟨(ce_k (F1 (nm 70 0) (by unfold nm; omega) (by unfold nm; omega))).trans A.1.1, (ce_n (F1 (nm 70 0) (by unfold nm; omega) (by unfold nm; omega))).trans A.1.2⟩, O1⟩
  refine wl_istore (i := 6) (lv' := (6, vi (o_sharing V).1) :: lvA c) dL_law_3245 (by decide) (by decide) rfl ?_
  refine wl_aload_n (i := 2) dL_law_3247 rfl (by decide) rfl ?_
  obtain ⟨K1, fK⟩ := D1.2.2.2.2
  refine wl_cV (y' := m_X16_sharing) 17 [] [] 1 (sMd V + 1) dL_law_3248 ml_L_334 im_X16_sharing se_X16_sharing (by decide) D1.hk ok_X16_sharing rfl (Nat.le_of_ble_eq_true rfl) rfl (Nat.le_of_ble_eq_true rfl) (d' := 99) (by decide) (by omega) (by omega) (c_X16_sharing D1.1 hW.1 hW.2.nd (by omega) (b := nm 72 K1) (fK K1 (Nat.le_refl _)) (by decide) (Nat.le_refl _) (Nat.le_refl _) (fun h2 e2 V2 => contL_ret ?_))
  obtain ⟨D2, F2⟩ := D1.ofS fK e2 V2
  have t2 : h_I h2 (nm 1 0) 0 = (o_sharing V).1 := by rw [ce_I (e2 (nm 1 0) (by unfold nm; omega))]; exact gI_wI.trans (if_pos ⟨rfl, rfl⟩)
  have A2 := A1.fg F2
  refine wl_fstore (i := 7) (lv' := (7, vf (o_sharing V).2) :: (6, vi (o_sharing V).1) :: lvA c) dL_law_3251 (by decide) (by decide) rfl ?_
  have fin : WL G w m_L_law 100 3302 ((7, vf (o_sharing V).2) :: (6, vi (o_sharing V).1) :: lvA c) [] h2 (bc - 80 - 1) (bs - 500 - (sMd V + 1)) Q := by
    refine wl_goto 3305 dL_law_3302 (by decide) ?_
    exact l_next K (J1.fg F2) (C1.fg F2) D2 A2 (B.same hc (Nat.le_succ _) (Nat.le_refl _)) (by have := U.go hc (mc := 80 + 1) (ms := 500 + (sMd V + 1)) (R' := R) (by decide) (by omega); rwa [Nat.sub_add_eq, Nat.sub_add_eq] at this) lvA_in
  refine wl_aload_n (i := 2) dL_law_3253 rfl (by decide) rfl ?_
  refine wl_cV (y' := m_X16_thrown) 17 [] [] 0 0 dL_law_3254 ml_L_178 im_X16_thrown se_X16_thrown (by decide) D2.hk ok_X16_thrown rfl (Nat.le_of_ble_eq_true rfl) rfl (Nat.le_of_ble_eq_true rfl) (d' := 99) (by decide) (Nat.zero_le _) (Nat.zero_le _) (c_X16_thrown D2.hk t2 (contL_ret ?_))
  refine wl_iload (i := 6) dL_law_3257 (by decide) rfl ?_
  refine wl_icmp_eq 3264 dL_law_3259 (by decide) (fun _ => ?_) (fun c9 => absurd rfl c9)
  refine wl_iload (i := 6) dL_law_3264 (by decide) rfl ?_
  refine wl_if_ne 3302 dL_law_3266 (by decide) (fun _ => fin) (fun c13 => ?_)
  have f1 := f2d_ok (sh_n32 hS.1 c13)
  refine wl_aload (i := 4) dL_law_3269 (by decide) rfl ?_
  refine wl_iconst (nI 0) dL_law_3271 (by decide) ?_
  refine wl_daload dL_law_3272 A2.2.1 (by rw [A2.2.2]; exact vp_in_nI (by decide) (by decide)) ?_
  rw [nI_clamp (by decide), show h_F h2 (nm 71 0) 0 = FP.f2d (o_sharing V).2 from by rw [ce_F (F2 (nm 71 0) (by unfold nm; omega))]; exact w1 c13]
  refine wl_fload (i := 7) dL_law_3273 (by decide) rfl ?_
  refine wl_f2d dL_law_3275 f1.1 ?_
  refine wl_dcmp dL_law_3276 ?_
  rw [f1.2]
  exact wl_if_eq 3302 dL_law_3277 (by decide) (fun _ => fin) (fun c9 => absurd rfl c9)
theorem and63 (x : Int32) : ∃ k, k < 64 ∧ x &&& nI 63 = nI k := by
  refine ⟨x.toBitVec.toNat % 64, Nat.mod_lt _ (by decide), ?_⟩
  apply Int32.toBitVec_inj.mp
  rw [Int32.toBitVec_and]
  apply BitVec.eq_of_toNat_eq
  rw [BitVec.toNat_and]
  show x.toBitVec.toNat &&& (2 ^ 6 - 1) = (x.toBitVec.toNat % 64) % 2 ^ 32
  rw [Nat.and_two_pow_sub_one_eq_mod]
  omega
theorem len_gt {L i : Nat} (hL : L < 2 ^ 31) (hi : i < 2 ^ 31) (h : ¬ nI L - nI 5 < nI i) : i + 5 ≤ L := by
  rcases Nat.lt_or_ge L 5 with e | e
  · have h0 : (0 : Int32) ≤ nI i := Int32.not_lt.mp (nI_nn hi)
    have : L = 0 ∨ L = 1 ∨ L = 2 ∨ L = 3 ∨ L = 4 := by omega
    exact absurd (Int32.lt_of_lt_of_le (show nI L - nI 5 < 0 from by rcases this with q | q | q | q | q <;> subst q <;> decide) h0) h
  · rw [pk_sub e] at h
    have h2 : ¬ L - 5 < i := fun z => h ((nI_ltI (by omega) hi).mpr z)
    omega
set_option maxRecDepth 100000 in
set_option maxHeartbeats 4000000 in
theorem l_case {G : GG} {w c bc bs M n k : Nat} {h : Hp} {Q : Pst} {V : SV} {x : Nat → QIS} {R : RS} (hk : k < 64) (hw : w = G.2.2.2.2.1) (hL : slen G < 2 ^ 31) (hi5 : 5 * c + 5 ≤ slen G) (hc : c < 512) (J : JC h) (C : CLS h V M n x R) (D : MDL h V n x R) (A : ARR h) (B : PUR c V M n x R) (U : BUD c n x R bc bs) (K : NXT G w (c + 1) Q) : WL G w m_L_law 100 44 (lvA c) [vi (nI k)] h bc bs Q := by
  have hk : k = 0 ∨ k = 1 ∨ k = 2 ∨ k = 3 ∨ k = 4 ∨ k = 5 ∨ k = 6 ∨ k = 7 ∨ k = 8 ∨ k = 9 ∨ k = 10 ∨ k = 11 ∨ k = 12 ∨ k = 13 ∨ k = 14 ∨ k = 15 ∨ k = 16 ∨ k = 17 ∨ k = 18 ∨ k = 19 ∨ k = 20 ∨ k = 21 ∨ k = 22 ∨ k = 23 ∨ k = 24 ∨ k = 25 ∨ k = 26 ∨ k = 27 ∨ k = 28 ∨ k = 29 ∨ k = 30 ∨ k = 31 ∨ k = 32 ∨ k = 33 ∨ k = 34 ∨ k = 35 ∨ k = 36 ∨ k = 37 ∨ k = 38 ∨ k = 39 ∨ k = 40 ∨ k = 41 ∨ k = 42 ∨ k = 43 ∨ k = 44 ∨ k = 45 ∨ k = 46 ∨ k = 47 ∨ k = 48 ∨ k = 49 ∨ k = 50 ∨ k = 51 ∨ k = 52 ∨ k = 53 ∨ k = 54 ∨ k = 55 ∨ k = 56 ∨ k = 57 ∨ k = 58 ∨ k = 59 ∨ k = 60 ∨ k = 61 ∨ k = 62 ∨ k = 63 := by omega
  rcases hk with e | e | e | e | e | e | e | e | e | e | e | e | e | e | e | e | e | e | e | e | e | e | e | e | e | e | e | e | e | e | e | e | e | e | e | e | e | e | e | e | e | e | e | e | e | e | e | e | e | e | e | e | e | e | e | e | e | e | e | e | e | e | e | e <;> subst e
  · exact wl_tableIn (off := 212) 256 dL_law_44 (by decide) (by decide) (by decide +kernel) (by decide) (x_vector hw hL hi5 hc J C D A B U K)
  · exact wl_tableIn (off := 256) 300 dL_law_44 (by decide) (by decide) (by decide +kernel) (by decide) (x_append hw hL hi5 hc J C D A B U K)
  · exact wl_tableIn (off := 324) 368 dL_law_44 (by decide) (by decide) (by decide +kernel) (by decide) (x_set hw hL hi5 hc J C D A B U K)
  · exact wl_tableIn (off := 404) 448 dL_law_44 (by decide) (by decide) (by decide +kernel) (by decide) (x_cut hw hL hi5 hc J C D A B U K)
  · exact wl_tableIn (off := 460) 504 dL_law_44 (by decide) (by decide) (by decide +kernel) (by decide) (x_depth hw hL hi5 hc J C D A B U K)
  · exact wl_tableIn (off := 516) 560 dL_law_44 (by decide) (by decide) (by decide +kernel) (by decide) (x_open hw hL hi5 hc J C D A B U K)
  · exact wl_tableIn (off := 572) 616 dL_law_44 (by decide) (by decide) (by decide +kernel) (by decide) (x_appendTo hw hL hi5 hc J C D A B U K)
  · exact wl_tableIn (off := 640) 684 dL_law_44 (by decide) (by decide) (by decide +kernel) (by decide) (x_setIn hw hL hi5 hc J C D A B U K)
  · exact wl_tableIn (off := 720) 764 dL_law_44 (by decide) (by decide) (by decide +kernel) (by decide) (x_makeLasting hw hL hi5 hc J C D A B U K)
  · exact wl_tableIn (off := 776) 820 dL_law_44 (by decide) (by decide) (by decide +kernel) (by decide) (x_isOpen hw hL hi5 hc J C D A B U K)
  · exact wl_tableIn (off := 839) 883 dL_law_44 (by decide) (by decide) (by decide +kernel) (by decide) (x_map hw hL hi5 hc J C D A B U K)
  · exact wl_tableIn (off := 883) 927 dL_law_44 (by decide) (by decide) (by decide +kernel) (by decide) (x_put hw hL hi5 hc J C D A B U K)
  · exact wl_tableIn (off := 963) 1007 dL_law_44 (by decide) (by decide) (by decide +kernel) (by decide) (x_without hw hL hi5 hc J C D A B U K)
  · exact wl_tableIn (off := 1031) 1075 dL_law_44 (by decide) (by decide) (by decide +kernel) (by decide) (x_get hw hL hi5 hc J C D A B U K)
  · exact wl_tableIn (off := 1099) 1143 dL_law_44 (by decide) (by decide) (by decide +kernel) (by decide) (x_getPlain hw hL hi5 hc J C D A B U K)
  · exact wl_tableIn (off := 1167) 1211 dL_law_44 (by decide) (by decide) (by decide +kernel) (by decide) (x_levelOf hw hL hi5 hc J C D A B U K)
  · exact wl_tableIn (off := 1235) 1279 dL_law_44 (by decide) (by decide) (by decide +kernel) (by decide) (x_size hw hL hi5 hc J C D A B U K)
  · exact wl_tableIn (off := 1291) 1335 dL_law_44 (by decide) (by decide) (by decide +kernel) (by decide) (x_nodes hw hL hi5 hc J C D A B U K)
  · exact wl_tableIn (off := 1347) 1391 dL_law_44 (by decide) (by decide) (by decide +kernel) (by decide) (x_shared hw hL hi5 hc J C D A B U K)
  · exact wl_tableIn (off := 1415) 1459 dL_law_44 (by decide) (by decide) (by decide +kernel) (by decide) (x_areSame hw hL hi5 hc J C D A B U K)
  · exact wl_tableIn (off := 1490) 1534 dL_law_44 (by decide) (by decide) (by decide +kernel) (by decide) (x_made hw hL hi5 hc J C D A B U K)
  · exact wl_tableIn (off := 1504) 1548 dL_law_44 (by decide) (by decide) (by decide +kernel) (by decide) (x_range hw hL hi5 hc J C D A B U K)
  · exact wl_tableIn (off := 1584) 1628 dL_law_44 (by decide) (by decide) (by decide +kernel) (by decide) (x_over hw hL hi5 hc J C D A B U K)
  · exact wl_tableIn (off := 1666) 1710 dL_law_44 (by decide) (by decide) (by decide +kernel) (by decide) (x_at hw hL hi5 hc J C D A B U K)
  · exact wl_tableIn (off := 1734) 1778 dL_law_44 (by decide) (by decide) (by decide +kernel) (by decide) (x_all hw hL hi5 hc J C D A B U K)
  · exact wl_tableIn (off := 1790) 1834 dL_law_44 (by decide) (by decide) (by decide +kernel) (by decide) (x_realised hw hL hi5 hc J C D A B U K)
  · exact wl_tableIn (off := 1846) 1890 dL_law_44 (by decide) (by decide) (by decide +kernel) (by decide) (x_chunks hw hL hi5 hc J C D A B U K)
  · exact wl_tableIn (off := 1902) 1946 dL_law_44 (by decide) (by decide) (by decide +kernel) (by decide) (x_collect hw hL hi5 hc J C D A B U K)
  · exact wl_tableIn (off := 1958) 2002 dL_law_44 (by decide) (by decide) (by decide +kernel) (by decide) (x_addReference hw hL hi5 hc J C D A B U K)
  · exact wl_tableIn (off := 2038) 2082 dL_law_44 (by decide) (by decide) (by decide +kernel) (by decide) (x_begin hw hL hi5 hc J C D A B U K)
  · exact wl_tableIn (off := 2094) 2138 dL_law_44 (by decide) (by decide) (by decide +kernel) (by decide) (x_read hw hL hi5 hc J C D A B U K)
  · exact wl_tableIn (off := 2162) 2206 dL_law_44 (by decide) (by decide) (by decide +kernel) (by decide) (x_write hw hL hi5 hc J C D A B U K)
  · exact wl_tableIn (off := 2249) 2293 dL_law_44 (by decide) (by decide) (by decide +kernel) (by decide) (x_ensure hw hL hi5 hc J C D A B U K)
  · exact wl_tableIn (off := 2324) 2368 dL_law_44 (by decide) (by decide) (by decide +kernel) (by decide) (x_add hw hL hi5 hc J C D A B U K)
  · exact wl_tableIn (off := 2411) 2455 dL_law_44 (by decide) (by decide) (by decide +kernel) (by decide) (x_commit hw hL hi5 hc J C D A B U K)
  · exact wl_tableIn (off := 2467) 2511 dL_law_44 (by decide) (by decide) (by decide +kernel) (by decide) (x_end hw hL hi5 hc J C D A B U K)
  · exact wl_tableIn (off := 2523) 2567 dL_law_44 (by decide) (by decide) (by decide +kernel) (by decide) (x_sentBack hw hL hi5 hc J C D A B U K)
  · exact wl_tableIn (off := 2579) 2623 dL_law_44 (by decide) (by decide) (by decide +kernel) (by decide) (x_valueOf hw hL hi5 hc J C D A B U K)
  · exact wl_tableIn (off := 2635) 2679 dL_law_44 (by decide) (by decide) (by decide +kernel) (by decide) (x_valueByLog hw hL hi5 hc J C D A B U K)
  · exact wl_tableIn (off := 2691) 2735 dL_law_44 (by decide) (by decide) (by decide +kernel) (by decide) (x_history hw hL hi5 hc J C D A B U K)
  · exact wl_tableIn (off := 2747) 2791 dL_law_44 (by decide) (by decide) (by decide +kernel) (by decide) (x_moment hw hL hi5 hc J C D A B U K)
  · exact wl_tableIn (off := 2760) 2804 dL_law_44 (by decide) (by decide) (by decide +kernel) (by decide) (x_logged hw hL hi5 hc J C D A B U K)
  · exact wl_tableIn (off := 2773) 2817 dL_law_44 (by decide) (by decide) (by decide +kernel) (by decide) (x_logAt hw hL hi5 hc J C D A B U K)
  · exact wl_tableIn (off := 2841) 2885 dL_law_44 (by decide) (by decide) (by decide +kernel) (by decide) (x_addAgent hw hL hi5 hc J C D A B U K)
  · exact wl_tableIn (off := 2935) 2979 dL_law_44 (by decide) (by decide) (by decide +kernel) (by decide) (x_send hw hL hi5 hc J C D A B U K)
  · exact wl_tableIn (off := 3015) 3059 dL_law_44 (by decide) (by decide) (by decide +kernel) (by decide) (x_act hw hL hi5 hc J C D A B U K)
  · exact wl_tableIn (off := 3071) 3115 dL_law_44 (by decide) (by decide) (by decide +kernel) (by decide) (x_beginAnew hw hL hi5 hc J C D A B U K)
  · exact wl_tableIn (off := 3139) 3183 dL_law_44 (by decide) (by decide) (by decide +kernel) (by decide) (x_errors hw hL hi5 hc J C D A B U K)
  · exact wl_tableIn (off := 3195) 3239 dL_law_44 (by decide) (by decide) (by decide +kernel) (by decide) (x_sharing hw hL hi5 hc J C D A B U K)
  · exact wl_tableOut 3305 dL_law_44 (by decide) (by decide) (l_next K J C D A (B.same hc (Nat.le_refl _) (Nat.le_succ _)) (by have := U.go hc (mc := 0) (ms := 0) (R' := R) (by decide) (by omega); exact this) (fun _ z => z))
  · exact wl_tableOut 3305 dL_law_44 (by decide) (by decide) (l_next K J C D A (B.same hc (Nat.le_refl _) (Nat.le_succ _)) (by have := U.go hc (mc := 0) (ms := 0) (R' := R) (by decide) (by omega); exact this) (fun _ z => z))
  · exact wl_tableOut 3305 dL_law_44 (by decide) (by decide) (l_next K J C D A (B.same hc (Nat.le_refl _) (Nat.le_succ _)) (by have := U.go hc (mc := 0) (ms := 0) (R' := R) (by decide) (by omega); exact this) (fun _ z => z))
  · exact wl_tableOut 3305 dL_law_44 (by decide) (by decide) (l_next K J C D A (B.same hc (Nat.le_refl _) (Nat.le_succ _)) (by have := U.go hc (mc := 0) (ms := 0) (R' := R) (by decide) (by omega); exact this) (fun _ z => z))
  · exact wl_tableOut 3305 dL_law_44 (by decide) (by decide) (l_next K J C D A (B.same hc (Nat.le_refl _) (Nat.le_succ _)) (by have := U.go hc (mc := 0) (ms := 0) (R' := R) (by decide) (by omega); exact this) (fun _ z => z))
  · exact wl_tableOut 3305 dL_law_44 (by decide) (by decide) (l_next K J C D A (B.same hc (Nat.le_refl _) (Nat.le_succ _)) (by have := U.go hc (mc := 0) (ms := 0) (R' := R) (by decide) (by omega); exact this) (fun _ z => z))
  · exact wl_tableOut 3305 dL_law_44 (by decide) (by decide) (l_next K J C D A (B.same hc (Nat.le_refl _) (Nat.le_succ _)) (by have := U.go hc (mc := 0) (ms := 0) (R' := R) (by decide) (by omega); exact this) (fun _ z => z))
  · exact wl_tableOut 3305 dL_law_44 (by decide) (by decide) (l_next K J C D A (B.same hc (Nat.le_refl _) (Nat.le_succ _)) (by have := U.go hc (mc := 0) (ms := 0) (R' := R) (by decide) (by omega); exact this) (fun _ z => z))
  · exact wl_tableOut 3305 dL_law_44 (by decide) (by decide) (l_next K J C D A (B.same hc (Nat.le_refl _) (Nat.le_succ _)) (by have := U.go hc (mc := 0) (ms := 0) (R' := R) (by decide) (by omega); exact this) (fun _ z => z))
  · exact wl_tableOut 3305 dL_law_44 (by decide) (by decide) (l_next K J C D A (B.same hc (Nat.le_refl _) (Nat.le_succ _)) (by have := U.go hc (mc := 0) (ms := 0) (R' := R) (by decide) (by omega); exact this) (fun _ z => z))
  · exact wl_tableOut 3305 dL_law_44 (by decide) (by decide) (l_next K J C D A (B.same hc (Nat.le_refl _) (Nat.le_succ _)) (by have := U.go hc (mc := 0) (ms := 0) (R' := R) (by decide) (by omega); exact this) (fun _ z => z))
  · exact wl_tableOut 3305 dL_law_44 (by decide) (by decide) (l_next K J C D A (B.same hc (Nat.le_refl _) (Nat.le_succ _)) (by have := U.go hc (mc := 0) (ms := 0) (R' := R) (by decide) (by omega); exact this) (fun _ z => z))
  · exact wl_tableOut 3305 dL_law_44 (by decide) (by decide) (l_next K J C D A (B.same hc (Nat.le_refl _) (Nat.le_succ _)) (by have := U.go hc (mc := 0) (ms := 0) (R' := R) (by decide) (by omega); exact this) (fun _ z => z))
  · exact wl_tableOut 3305 dL_law_44 (by decide) (by decide) (l_next K J C D A (B.same hc (Nat.le_refl _) (Nat.le_succ _)) (by have := U.go hc (mc := 0) (ms := 0) (R' := R) (by decide) (by omega); exact this) (fun _ z => z))
  · exact wl_tableOut 3305 dL_law_44 (by decide) (by decide) (l_next K J C D A (B.same hc (Nat.le_refl _) (Nat.le_succ _)) (by have := U.go hc (mc := 0) (ms := 0) (R' := R) (by decide) (by omega); exact this) (fun _ z => z))
set_option maxRecDepth 100000 in
set_option maxHeartbeats 4000000 in
theorem l_head {G : GG} {w c : Nat} {Q : Pst} (hw : w = G.2.2.2.2.1) (hL : slen G ≤ 2560) (hc : c ≤ 512) (hQ : ∀ h, Q (oRet (vi (nI 1))) h) (K : c < 512 → NXT G w (c + 1) Q) : NXT G w c Q := by
  intro h V M n x R bc bs J C D A B U
  refine wl_iload (i := 5) dL_law_28 (by decide) rfl ?_
  refine wl_slen hw dL_law_30 dL_law_31 ?_
  refine wl_iconst (nI 5) dL_law_32 (by decide) ?_
  refine wl_isub dL_law_33 ?_
  refine wl_icmp_gt 3311 dL_law_34 (by decide) (fun _ => ?_) (fun e => ?_)
  · refine wl_iconst (nI 1) dL_law_3311 (by decide) ?_
    exact wl_zreturn dL_law_3312 rfl rfl (hQ h)
  · have hi5 := len_gt (by omega) (by omega) e
    have hc2 : c < 512 := by omega
    refine wl_cell0 (i := 5 * c) hw dL_law_37 dL_law_38 dL_law_40 rfl (c5 (k := 0) hi5 (by decide)) (Nat.lt_of_le_of_lt hL (by decide)) ?_
    refine wl_bipush (nI 63) dL_law_41 (by decide) ?_
    refine wl_iand dL_law_43 ?_
    obtain ⟨k, hk, e2⟩ := and63 (G.2.2.2.2.2.2 (5 * c))
    rw [e2]
    exact l_case hk hw (by omega) (by omega) hc2 J C D A B U (K hc2)
theorem l_loop {G : GG} {w : Nat} {Q : Pst} (hw : w = G.2.2.2.2.1) (hL : slen G ≤ 2560) (hQ : ∀ h, Q (oRet (vi (nI 1))) h) : ∀ r c, c + r = 512 → NXT G w c Q := by
  intro r
  induction r with
  | zero => intro c hc; exact l_head hw hL (by omega) hQ (fun z => absurd z (by omega))
  | succ r ih => intro c hc; exact l_head hw hL (by omega) hQ (fun _ => ih (c + 1) (by omega))
def q00 : Nat → QIS := fun _ => ((0, 0, 0, 0, 0), [], false, 0, 0)
def r00 : Nat → ORS := fun _ => (0, 0, 0, 0, [])
def a00 : Nat → OAS := fun _ => (0, 0, 0, 0, false, 0, [])
def k00 : Nat → KRS := fun _ => (0, 0, 0, 0, 0, fun _ => 0, fun _ => 0)
def ka0 : Nat → KAS := fun _ => (0, 0, 0, false, 0, false, 0, fun _ => 0)
theorem RB_00 : RB 0 (RS0 r00 a00) := ⟨⟨by decide, by decide, by decide, Nat.le_refl _, Nat.le_refl _, Nat.le_refl _, fun q h => nomatch h⟩, fun t _ => ⟨Nat.le_refl _, Nat.le_refl _, Nat.le_refl _, fun q h => nomatch h⟩, fun r h => absurd h (Nat.not_lt_zero _), fun a h => absurd h (Nat.not_lt_zero _)⟩
theorem flg_00 : flg (RS0 r00 a00) = 0 := by
  have e : cgN OT0 6 0 = 0 := cgN_z 6 0 (fun j _ _ => rfl)
  show cgN OT0 6 0 + cgN OT0 6 0 + cgN OT0 6 0 = 0
  rw [e]
set_option maxRecDepth 100000 in
set_option maxHeartbeats 4000000 in
theorem l_all {G : GG} {w : Nat} {h : Hp} {Q : Pst} (hw : w = G.2.2.2.2.1) (hL : slen G ≤ 2560) (hQ : ∀ h, Q (oRet (vi (nI 1))) h) (J : JC h) (hf : ∀ a, a % 128 ≠ 0 → h_k h a = 0) : WL G w m_L_law 100 0 [] [] h 601000 7293000 Q := by
  refine wl_new 12 dL_law_0 (by decide) kl_L_8 ins_X11 ini_X11 (by decide) (by decide) (nm 40 0) (hf _ (by unfold nm; omega)) ?_
  refine wl_dup dL_law_3 ?_
  refine wl_cI (y' := m_X11_init) [] [vr (some (nm 40 0))] 150 1500 dL_law_4 ml_L_168 im_X11_init rfl rfl ok_X11_init rfl (Nat.le_of_ble_eq_true rfl) rfl (Nat.le_of_ble_eq_true rfl) (d' := 99) (by decide) (by decide) (by decide) (c_X11_init (fun a h1 h2 _ => hf a (by omega)) J (by decide) (Nat.le_refl _) (Nat.le_refl _) (fun h1 c1 c2 c3 F1 => contL_void ?_))
  refine wl_astore_n (i := 1) (lv' := [(1, vr (some (nm 40 0)))]) dL_law_7 rfl (by decide) (by decide) rfl ?_
  have f1 : ∀ a, a % 128 ≠ 0 → ¬ WCD a → h_k h1 a = 0 := fun a h0 h2 => (ce_k (F1 a h2)).trans (hf a h0)
  have J1 : JC h1 := J.fr (fun i => F1 _ (by unfold WCD nm; omega))
  refine wl_new 17 dL_law_8 (by decide) kl_L_169 ins_X16 ini_X16 (by decide) (by decide) (nm 1 0) (f1 _ (by unfold nm; omega) (by unfold WCD nm; omega)) ?_
  refine wl_dup dL_law_11 ?_
  refine wl_cI (y' := m_X16_init) [] [vr (some (nm 1 0))] 60 160000 dL_law_12 ml_L_171 im_X16_init rfl rfl ok_X16_init rfl (Nat.le_of_ble_eq_true rfl) rfl (Nat.le_of_ble_eq_true rfl) (d' := 99) (by decide) (by decide) (by decide) (c_X16_init (fun a h2 _ => f1 a (by unfold WMD at h2; omega) (by unfold WMD at h2; unfold WCD; omega)) J1 (by decide) (Nat.le_refl _) (Nat.le_refl _) (fun h2 m1 m2 m3 m4 F2 => contL_void ?_))
  refine wl_astore_n (i := 2) (lv' := [(2, vr (some (nm 1 0))), (1, vr (some (nm 40 0)))]) dL_law_15 rfl (by decide) (by decide) rfl ?_
  have f2 : ∀ a, a % 128 ≠ 0 → ¬ WCD a → ¬ WMD a → h_k h2 a = 0 := fun a h0 h3 h4 => (ce_k (F2 a h4)).trans (f1 a h0 h3)
  have J2 : JC h2 := J1.fr (fun i => F2 _ (by unfold WMD nm; omega))
  refine wl_iconst (nI 1) dL_law_16 (by decide) ?_
  refine wl_newarray 104 1 .long dL_law_17 rfl rfl aw_long (by decide) (by decide) (by decide) (by decide) pl_long (by decide) (by decide) (nm 70 0) (f2 _ (by unfold nm; omega) (by unfold WCD nm; omega) (by unfold WMD nm; omega)) ?_
  refine wl_astore_n (i := 3) (lv' := [(3, vr (some (nm 70 0))), (2, vr (some (nm 1 0))), (1, vr (some (nm 40 0)))]) dL_law_19 rfl (by decide) (by decide) rfl ?_
  have e3 : ∀ a, a ≠ nm 70 0 → ce (mk h2 (nm 70 0) 104 1) a = ce h2 a := fun a ha => ce_mk ha
  refine wl_iconst (nI 1) dL_law_20 (by decide) ?_
  refine wl_newarray 105 1 .double dL_law_21 rfl rfl aw_double (by decide) (by decide) (by decide) (by decide) pl_double (by decide) (by decide) (nm 71 0) ((ce_k (e3 (nm 71 0) (by unfold nm; omega))).trans (f2 _ (by unfold nm; omega) (by unfold WCD nm; omega) (by unfold WMD nm; omega))) ?_
  refine wl_astore (i := 4) (lv' := [(4, vr (some (nm 71 0))), (3, vr (some (nm 70 0))), (2, vr (some (nm 1 0))), (1, vr (some (nm 40 0)))]) dL_law_23 (by decide) (by decide) rfl ?_
  refine wl_iconst (nI 0) dL_law_25 (by decide) ?_
  refine wl_istore (i := 5) (lv' := [(5, vi (nI 0)), (4, vr (some (nm 71 0))), (3, vr (some (nm 70 0))), (2, vr (some (nm 1 0))), (1, vr (some (nm 40 0)))]) dL_law_26 (by decide) (by decide) rfl ?_
  have e4 : ∀ a, a ≠ nm 70 0 → a ≠ nm 71 0 → ce (mk (mk h2 (nm 70 0) 104 1) (nm 71 0) 105 1) a = ce h2 a := fun a h1 h2 => (ce_mk h2).trans (e3 a h1)
  have C2 : CLS h2 SV0 0 0 q00 (RS0 r00 a00) := (show CLS h1 SV0 0 0 q00 (RS0 r00 a00) from ⟨⟨_, c3 k00 ka0, SIM.init⟩, c2 q00, c1⟩).fr (fun a ha => F2 a (by unfold WMD; omega))
  have D2 : MDL h2 SV0 0 q00 (RS0 r00 a00) := ⟨m1, m3 q00, m2 r00 a00, m4, 0, fun i _ => f2 (nm 72 i) (by unfold nm; omega) (by unfold WCD nm; omega) (by unfold WMD nm; omega)⟩
  have J4 : JC (mk (mk h2 (nm 70 0) 104 1) (nm 71 0) 105 1) := J2.fr (fun i => e4 _ (by unfold nm; omega) (by unfold nm; omega))
  have C4 := C2.fr (h' := mk (mk h2 (nm 70 0) 104 1) (nm 71 0) 105 1) (fun a ha => e4 a (by unfold nm; omega) (by unfold nm; omega))
  have D4 := D2.fr (h' := mk (mk h2 (nm 70 0) 104 1) (nm 71 0) 105 1) (fun a ha => e4 a (by unfold nm; omega) (by unfold nm; omega))
  have n01 : nm 70 0 ≠ nm 71 0 := by unfold nm; omega
  have A4 : ARR (mk (mk h2 (nm 70 0) 104 1) (nm 71 0) 105 1) := ⟨⟨gk_mk.trans ((if_neg n01).trans (gk_mk.trans (if_pos rfl))), gn_mk.trans ((if_neg n01).trans (gn_mk.trans (if_pos rfl)))⟩, gk_mk.trans (if_pos rfl), gn_mk.trans (if_pos rfl)⟩
  have B0 : PUR 0 SV0 0 0 q00 (RS0 r00 a00) := ⟨WB.init.2, WB.init.1, Nat.le_refl _, Nat.le_refl _, QX.init, RB_00, by unfold LF; rw [flg_00]; exact Nat.le_refl _⟩
  have U0 : BUD 0 0 q00 (RS0 r00 a00) (601000 - 1 - 150 - 1 - 60 - 1 - 1) (7293000 - clN 12 - 1500 - clN 17 - 160000 - 1 - 1) := by
    unfold BUD
    rw [flg_00]
    exact ⟨Nat.le_of_ble_eq_true rfl, Nat.le_of_ble_eq_true rfl⟩
  refine wl_sub (lvA 0) (sb_cons (.head _) (sb_cons (.tail _ (.tail _ (.tail _ (.tail _ (.head _))))) (sb_cons (.tail _ (.tail _ (.tail _ (.head _)))) (sb_cons (.tail _ (.tail _ (.head _))) (sb_cons (.tail _ (.head _)) sb_nil))))) ?_
  exact l_loop hw hL hQ 512 0 rfl _ _ _ _ _ _ _ _ J4 C4 D4 A4 B0 U0
