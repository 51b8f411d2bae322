/-! The model: sharing. -/
/-- one node seen: (which were seen, how many, how many unlike ones) -/
def stp (z : (Nat → Bool) × Nat × Nat) (nd : Nat) : (Nat → Bool) × Nat × Nat := (va_up z.1 nd true, z.2.1 + (if 0 < nd then 1 else 0), z.2.2 + (if 0 < nd ∧ z.1 nd = false then 1 else 0))
def sgI (S : SV) (v : Nat) (z : (Nat → Bool) × Nat × Nat) : Nat → (Nat → Bool) × Nat × Nat
  | 0 => z
  | s + 1 => stp (sgI S v z s) (ndN S v s)
def sgO (S : SV) : Nat → (Nat → Bool) × Nat × Nat
  | 0 => (fun _ => false, 0, 0)
  | v + 1 => sgI S v (sgO S v) (slN S v)
def o_sharing (S : SV) : Int32 × UInt32 := if (sgO S (sNv S)).2.1 = 0 then (nI 1, FP.fconst0) else (nI 0, FP.fdiv (FP.i2f (nI (sgO S (sNv S)).2.2)) (FP.i2f (nI (sgO S (sNv S)).2.1)))
theorem stp_le {z : (Nat → Bool) × Nat × Nat} {nd : Nat} : (stp z nd).2.1 ≤ z.2.1 + 1 ∧ (stp z nd).2.2 ≤ z.2.2 + 1 := by
  unfold stp; constructor
  · show z.2.1 + _ ≤ _; split <;> omega
  · show z.2.2 + _ ≤ _; split <;> omega
theorem sgI_le {S : SV} {v : Nat} {z : (Nat → Bool) × Nat × Nat} : ∀ s, (sgI S v z s).2.1 ≤ z.2.1 + s ∧ (sgI S v z s).2.2 ≤ z.2.2 + s := by
  intro s
  induction s with
  | zero => exact ⟨Nat.le_refl _, Nat.le_refl _⟩
  | succ s ih => have h := stp_le (z := sgI S v z s) (nd := ndN S v s); rw [sgI]; omega
theorem sgO_le {S : SV} : ∀ v, (sgO S v).2.1 ≤ 341 * v ∧ (sgO S v).2.2 ≤ 341 * v := by
  intro v
  induction v with
  | zero => exact ⟨Nat.le_refl _, Nat.le_refl _⟩
  | succ v ih => have h := sgI_le (S := S) (v := v) (z := sgO S v) (slN S v); have hl := slN_le (S := S) (v := v); rw [sgO]; omega
theorem fdiv_n {a b : Nat} (hb : 0 < b) (h2 : b < 2 ^ 31) : vf_n32 (FP.fdiv (FP.i2f (nI a)) (FP.i2f (nI b))) := by
  have h1 : ¬ FP.Core.fIsNaN (FP.fdiv (FP.i2f (nI a)) (FP.i2f (nI b))) = true := fun h => by
    rcases (FP.Core.fdiv_nan_iff _ _).mp h with g | g | ⟨x, y, g, -⟩ | ⟨-, g⟩
    · exact (FP.Core.i2f_fin (nI a)).ne_nan g
    · exact (FP.Core.i2f_fin (nI b)).ne_nan g
    · exact (FP.Core.i2f_fin (nI a)).ne_inf x g
    · have e := (FP.Core.zero_bits232 _).mp g
      refine FP.Core.i2f_ne_zero (v := nI b) (fun z => ?_) e
      have e3 := congrArg Int32.toNatClampNeg z
      rw [nI_clamp h2] at e3
      have e4 : b = 0 := e3
      omega
  rw [FP.Core.isNaN_bits32] at h1
  unfold vf_n32
  rw [UInt32.le_iff_toNat_le, UInt32.toNat_and]
  show _ &&& (2 ^ 31 - 1) ≤ _
  rw [Nat.and_two_pow_sub_one_eq_mod]
  show _ ≤ 2139095040
  omega
/-- a row of marks stands at b; all else is as it was -/
def SHL (h H : Hp) (m : Nat) (A : Nat → Nat) (b : Nat) (S : SV) (sn : Nat → Bool) : Prop := MP H m A S ∧ h_k H b = 102 ∧ h_n H b = sMd S + 1 ∧ (∀ x, h_I H b x = bI (sn x)) ∧ (∀ a, a ≠ b → ce H a = ce h a)
theorem MP.oth {h h' : Hp} {m b : Nat} {A : Nat → Nat} {S : SV} (H : MP h m A S) (hm : m ≠ b) (hA : ∀ i, 3 ≤ i → i ≤ 18 → i ≠ 15 → i ≠ 16 → A i ≠ b) (hc : ∀ a, a ≠ b → ce h' a = ce h a) : MP h' m A S := by
  obtain ⟨hM, e1, e2, e3, e4, e5, e6, e7, e8, e9, e10⟩ := H
  have q : ∀ i, 3 ≤ i → i ≤ 18 → i ≠ 15 → i ≠ 16 → ce h' (A i) = ce h (A i) := fun i h1 h2 h3 h4 => hc _ (hA i h1 h2 h3 h4)
  refine ⟨⟨by rw [ce_k (hc _ hm)]; exact hM.1, fun i h1 h2 h3 h4 => by rw [ce_R (hc _ hm), ce_k (q i h1 h2 h3 h4)]; exact hM.2.1 i h1 h2 h3 h4, fun i h1 h2 h3 => by rw [ce_n (q i h1 (by omega) (by omega) (by omega))]; exact hM.2.2.1 i h1 h2 h3, hM.2.2.2⟩, by rw [ce_I (hc _ hm)]; exact e1, by rw [ce_I (hc _ hm)]; exact e2,
    fun j => by rw [ce_I (q 3 (by decide) (by decide) (by decide) (by decide))]; exact e3 j, fun j => by rw [ce_I (q 4 (by decide) (by decide) (by decide) (by decide))]; exact e4 j, fun j => by rw [ce_I (q 5 (by decide) (by decide) (by decide) (by decide))]; exact e5 j, fun j => by rw [ce_I (q 6 (by decide) (by decide) (by decide) (by decide))]; exact e6 j,
    fun j => by rw [ce_I (q 7 (by decide) (by decide) (by decide) (by decide))]; exact e7 j, fun j => by rw [ce_I (q 8 (by decide) (by decide) (by decide) (by decide))]; exact e8 j, fun j => by rw [ce_I (q 9 (by decide) (by decide) (by decide) (by decide))]; exact e9 j, fun j => by rw [ce_I (q 10 (by decide) (by decide) (by decide) (by decide))]; exact e10 j⟩
theorem MP.apart {h : Hp} {m b : Nat} {A : Nat → Nat} {S : SV} (H : MP h m A S) (hb : h_k h b = 0) : m ≠ b ∧ ∀ i, 3 ≤ i → i ≤ 18 → i ≠ 15 → i ≠ 16 → A i ≠ b := by
  refine ⟨fun e => ?_, fun i h1 h2 h3 h4 e => ?_⟩
  · have := H.1.1; rw [e, hb] at this; cases this
  · have g := H.1.k i h1 h2 h3 h4
    rw [e, hb] at g
    have : mkd i ≠ 0 := by
      have : i = 3 ∨ i = 4 ∨ i = 5 ∨ i = 6 ∨ i = 7 ∨ i = 8 ∨ i = 9 ∨ i = 10 ∨ i = 11 ∨ i = 12 ∨ i = 13 ∨ i = 14 ∨ i = 17 ∨ i = 18 := by omega
      rcases this with e | e | e | e | e | e | e | e | e | e | e | e | e | e <;> (subst e; decide)
    exact this g.symm
theorem SHL.st {h H : Hp} {m b n : Nat} {A : Nat → Nat} {S : SV} {sn : Nat → Bool} (L : SHL h H m A b S sn) (hm : m ≠ b) (hA : ∀ i, 3 ≤ i → i ≤ 18 → i ≠ 15 → i ≠ 16 → A i ≠ b) : SHL h (wI H b n (nI 1)) m A b S (va_up sn n true) :=
  ⟨L.1.oth hm hA (fun a ha => ce_wI ha), L.2.1, L.2.2.1, fun x => by
    rw [va_up_app]
    split
    · next e => rw [e]; exact wI_ss
    · next e => rw [wI_sn e]; exact L.2.2.2.1 x, fun a ha => (ce_wI ha).trans (L.2.2.2.2 a ha)⟩
theorem ce_w0 {h H : Hp} {m : Nat} {x y : Int32} (e : ce H m = ce (wI h m 0 x) m) : ce (wI H m 0 y) m = ce (wI h m 0 y) m := by
  have e1 := ce_k e; have e2 := ce_n e; have e3 := ce_I e; have e4 := ce_R e; have e5 := ce_L e; have e6 := ce_F e
  show (h_k H m, h_n H m, up2 (h_I H) m 0 y m, h_R H m, h_L H m, h_F H m) = (h_k h m, h_n h m, up2 (h_I h) m 0 y m, h_R h m, h_L h m, h_F h m)
  have q : up2 (h_I H) m 0 y m = up2 (h_I h) m 0 y m := by
    rw [nu_self, nu_self]
    funext j
    rw [va_up_app, va_up_app]
    split
    · rfl
    · next z => have := congrFun e3 j; rw [wI_sn z] at this; exact this
  rw [q, show h_k H m = h_k h m from e1, show h_n H m = h_n h m from e2, show h_R H m = h_R h m from e4, show h_L H m = h_L h m from e5, show h_F H m = h_F h m from e6]
set_option maxRecDepth 100000 in
set_option maxHeartbeats 4000000 in
theorem l_X16_sharing1 {G : GG} {d bc bs : Nat} {h : Hp} {Q : Pst} {m b : Nat} {A : Nat → Nat} {S : SV} (hS : SB S) (hN : ∀ v s, ndN S v s ≤ sMd S) (hmd : sMd S < 60000) (hbm : m ≠ b) (hbA : ∀ i, 3 ≤ i → i ≤ 18 → i ≠ 15 → i ≠ 16 → A i ≠ b) {v : Nat} {z : (Nat → Bool) × Nat × Nat} (hz : z.2.1 ≤ 341 * v) (hv : v < 60) (hd : 4 ≤ d) (hq : ∀ H, SHL h H m A b S (sgI S v z (slN S v)).1 → WP G m_X16_sharing d 98 [(4, vi (nI v)), (3, vi (nI ((sgI S v z ((slN S v))).2.2))), (2, vi (nI ((sgI S v z ((slN S v))).2.1))), (1, vr (some b)), (0, vr (some m))] [] H bc bs Q) : ∀ n s H, n + s = slN S v → SHL h H m A b S (sgI S v z s).1 → WP G m_X16_sharing d 33 [(5, vi (nI s)), (4, vi (nI v)), (3, vi (nI ((sgI S v z s).2.2))), (2, vi (nI ((sgI S v z s).2.1))), (1, vr (some b)), (0, vr (some m))] [] H bc bs Q := by
  have hl := slN_le (S := S) (v := v)
  intro n
  induction n with
  | zero =>
    intro s H hs hL
    have hM := hL.1
    have hs : s = slN S v := by omega
    subst hs
    refine wp_iload (i := 5) dX16_sharing_33 rfl ?_
    refine wp_aload_n (i := 0) dX16_sharing_35 rfl rfl ?_
    refine wp_iload (i := 4) dX16_sharing_36 rfl ?_
    refine wp_cV (y' := m_X16_slots) 17 [vi (nI v)] [vi (nI (slN S v))] 0 0 dX16_sharing_38 ml_X16_159 im_X16_slots se_X16_slots (by decide) hM.1.1 ok_X16_slots rfl (Nat.le_of_ble_eq_true rfl) rfl (Nat.le_of_ble_eq_true rfl) (d' := d - 1) (by omega) (Nat.zero_le _) (Nat.zero_le _) (c_X16_slots hM hS (by omega) (cont_ret ?_))
    refine wp_icmp_geN 98 dX16_sharing_41 (by decide) (by omega) (by omega) (fun c_41 => ?_) (fun c_41 => absurd c_41 (by omega))
    refine wp_sub [(4, vi (nI v)), (3, vi (nI ((sgI S v z ((slN S v))).2.2))), (2, vi (nI ((sgI S v z ((slN S v))).2.1))), (1, vr (some b)), (0, vr (some m))] (sb_cons (.tail _ (.head _)) (sb_cons (.tail _ (.tail _ (.head _))) (sb_cons (.tail _ (.tail _ (.tail _ (.head _)))) (sb_cons (.tail _ (.tail _ (.tail _ (.tail _ (.head _))))) (sb_cons (.tail _ (.tail _ (.tail _ (.tail _ (.tail _ (.head _)))))) sb_nil))))) ?_
    exact hq _ hL
  | succ n ih =>
    intro s H hs hL
    have hM := hL.1
    have hsl := slN_21 (S := S) (v := v) (s := s) (by omega)
    have hnd := hN v s
    have hle := sgI_le (S := S) (v := v) (z := z) s
    refine wp_iload (i := 5) dX16_sharing_33 rfl ?_
    refine wp_aload_n (i := 0) dX16_sharing_35 rfl rfl ?_
    refine wp_iload (i := 4) dX16_sharing_36 rfl ?_
    refine wp_cV (y' := m_X16_slots) 17 [vi (nI v)] [vi (nI s)] 0 0 dX16_sharing_38 ml_X16_159 im_X16_slots se_X16_slots (by decide) hM.1.1 ok_X16_slots rfl (Nat.le_of_ble_eq_true rfl) rfl (Nat.le_of_ble_eq_true rfl) (d' := d - 1) (by omega) (Nat.zero_le _) (Nat.zero_le _) (c_X16_slots hM hS (by omega) (cont_ret ?_))
    refine wp_icmp_geN 98 dX16_sharing_41 (by decide) (by omega) (by omega) (fun c_41 => absurd c_41 (by omega)) (fun c_41 => ?_)
    refine wp_aload_n (i := 0) dX16_sharing_44 rfl rfl ?_
    refine wp_iload (i := 4) dX16_sharing_45 rfl ?_
    refine wp_iload (i := 5) dX16_sharing_47 rfl ?_
    refine wp_cV (y' := m_X16_nodeAt) 17 [vi (nI v), vi (nI s)] [] 0 0 dX16_sharing_49 ml_X16_162 im_X16_nodeAt se_X16_nodeAt (by decide) hM.1.1 ok_X16_nodeAt rfl (Nat.le_of_ble_eq_true rfl) rfl (Nat.le_of_ble_eq_true rfl) (d' := d - 1) (by omega) (Nat.zero_le _) (Nat.zero_le _) (c_X16_nodeAt hM hS (by omega) (by omega) (by omega) (cont_ret ?_))
    refine wp_istore (i := 6) (lv' := [(6, vi (nI (ndN S v s))), (5, vi (nI s)), (4, vi (nI v)), (3, vi (nI ((sgI S v z s).2.2))), (2, vi (nI ((sgI S v z s).2.1))), (1, vr (some b)), (0, vr (some m))]) dX16_sharing_52 (by decide) rfl ?_
    refine wp_iload_n (i := 2) dX16_sharing_54 rfl rfl ?_
    refine wp_iload (i := 6) dX16_sharing_55 rfl ?_
    refine wp_if_leN 64 dX16_sharing_57 (by decide) (by omega) (fun c_57 => ?_) (fun c_57 => ?_)
    · skip
      refine wp_iconst (nI 0) dX16_sharing_64 (by decide) ?_
      refine wp_iaddN dX16_sharing_65 ?_
      refine wp_istore_n (i := 2) (lv' := [(2, vi (nI (((sgI S v z s).2.1) + 0))), (6, vi (nI (ndN S v s))), (5, vi (nI s)), (4, vi (nI v)), (3, vi (nI ((sgI S v z s).2.2))), (1, vr (some b)), (0, vr (some m))]) dX16_sharing_66 rfl (by decide) rfl ?_
      refine wp_iload_n (i := 3) dX16_sharing_67 rfl rfl ?_
      refine wp_iload (i := 6) dX16_sharing_68 rfl ?_
      refine wp_if_leN 84 dX16_sharing_70 (by decide) (by omega) (fun c_70 => ?_) (fun c_70 => absurd c_70 (by omega))
      refine wp_iconst (nI 0) dX16_sharing_84 (by decide) ?_
      refine wp_iaddN dX16_sharing_85 ?_
      refine wp_istore_n (i := 3) (lv' := [(3, vi (nI (((sgI S v z s).2.2) + 0))), (2, vi (nI (((sgI S v z s).2.1) + 0))), (6, vi (nI (ndN S v s))), (5, vi (nI s)), (4, vi (nI v)), (1, vr (some b)), (0, vr (some m))]) dX16_sharing_86 rfl (by decide) rfl ?_
      refine wp_aload_n (i := 1) dX16_sharing_87 rfl rfl ?_
      refine wp_iload (i := 6) dX16_sharing_88 rfl ?_
      refine wp_iconst (nI 1) dX16_sharing_90 (by decide) ?_
      refine wp_zastoreN (sMd S + 1) dX16_sharing_91 hL.2.1 hL.2.2.1 (by omega) (by omega) (by decide) ?_
      refine wp_iincN (a := s) (lv' := [(5, vi (nI (s + 1))), (3, vi (nI (((sgI S v z s).2.2) + 0))), (2, vi (nI (((sgI S v z s).2.1) + 0))), (6, vi (nI (ndN S v s))), (4, vi (nI v)), (1, vr (some b)), (0, vr (some m))]) 1 dX16_sharing_92 rfl (by decide) (by decide) rfl ?_
      refine wp_goto 33 dX16_sharing_95 (by decide) ?_
      refine wp_sub [(5, vi (nI (s + 1))), (4, vi (nI v)), (3, vi (nI (((sgI S v z s).2.2) + 0))), (2, vi (nI (((sgI S v z s).2.1) + 0))), (1, vr (some b)), (0, vr (some m))] (sb_cons (.head _) (sb_cons (.tail _ (.tail _ (.tail _ (.tail _ (.head _))))) (sb_cons (.tail _ (.head _)) (sb_cons (.tail _ (.tail _ (.head _))) (sb_cons (.tail _ (.tail _ (.tail _ (.tail _ (.tail _ (.head _)))))) (sb_cons (.tail _ (.tail _ (.tail _ (.tail _ (.tail _ (.tail _ (.head _))))))) sb_nil)))))) ?_
      have e1 : (sgI S v z (s + 1)).2.1 = (sgI S v z s).2.1 := (show (sgI S v z (s + 1)).2.1 = (sgI S v z s).2.1 + (if 0 < ndN S v s then 1 else 0) from rfl).trans (congrArg (fun y => (sgI S v z s).2.1 + y) (if_neg (fun y => absurd y (by omega))))
      have e2 : (sgI S v z (s + 1)).2.2 = (sgI S v z s).2.2 := (show (sgI S v z (s + 1)).2.2 = (sgI S v z s).2.2 + (if 0 < ndN S v s ∧ (sgI S v z s).1 (ndN S v s) = false then 1 else 0) from rfl).trans (congrArg (fun y => (sgI S v z s).2.2 + y) (if_neg (fun y => absurd y.1 (by omega))))
      have ih2 := ih (s + 1) _ (by omega) (hL.st (n := ndN S v s) hbm hbA)
      rw [e1, e2] at ih2
      exact ih2
    · skip
      refine wp_iconst (nI 1) dX16_sharing_60 (by decide) ?_
      refine wp_goto 65 dX16_sharing_61 (by decide) ?_
      refine wp_iaddN dX16_sharing_65 ?_
      refine wp_istore_n (i := 2) (lv' := [(2, vi (nI (((sgI S v z s).2.1) + 1))), (6, vi (nI (ndN S v s))), (5, vi (nI s)), (4, vi (nI v)), (3, vi (nI ((sgI S v z s).2.2))), (1, vr (some b)), (0, vr (some m))]) dX16_sharing_66 rfl (by decide) rfl ?_
      refine wp_iload_n (i := 3) dX16_sharing_67 rfl rfl ?_
      refine wp_iload (i := 6) dX16_sharing_68 rfl ?_
      refine wp_if_leN 84 dX16_sharing_70 (by decide) (by omega) (fun c_70 => absurd c_70 (by omega)) (fun c_70 => ?_)
      refine wp_aload_n (i := 1) dX16_sharing_73 rfl rfl ?_
      refine wp_iload (i := 6) dX16_sharing_74 rfl ?_
      refine wp_zaloadN (sMd S + 1) (bI ((sgI S v z s).1 (ndN S v s))) dX16_sharing_76 hL.2.1 hL.2.2.1 (by omega) (by omega) (hL.2.2.2.1 _) ?_
      refine wp_if_neB 84 dX16_sharing_77 (by decide) (fun c_77 => ?_) (fun c_77 => ?_)
      · skip
        refine wp_iconst (nI 0) dX16_sharing_84 (by decide) ?_
        refine wp_iaddN dX16_sharing_85 ?_
        refine wp_istore_n (i := 3) (lv' := [(3, vi (nI (((sgI S v z s).2.2) + 0))), (2, vi (nI (((sgI S v z s).2.1) + 1))), (6, vi (nI (ndN S v s))), (5, vi (nI s)), (4, vi (nI v)), (1, vr (some b)), (0, vr (some m))]) dX16_sharing_86 rfl (by decide) rfl ?_
        refine wp_aload_n (i := 1) dX16_sharing_87 rfl rfl ?_
        refine wp_iload (i := 6) dX16_sharing_88 rfl ?_
        refine wp_iconst (nI 1) dX16_sharing_90 (by decide) ?_
        refine wp_zastoreN (sMd S + 1) dX16_sharing_91 hL.2.1 hL.2.2.1 (by omega) (by omega) (by decide) ?_
        refine wp_iincN (a := s) (lv' := [(5, vi (nI (s + 1))), (3, vi (nI (((sgI S v z s).2.2) + 0))), (2, vi (nI (((sgI S v z s).2.1) + 1))), (6, vi (nI (ndN S v s))), (4, vi (nI v)), (1, vr (some b)), (0, vr (some m))]) 1 dX16_sharing_92 rfl (by decide) (by decide) rfl ?_
        refine wp_goto 33 dX16_sharing_95 (by decide) ?_
        refine wp_sub [(5, vi (nI (s + 1))), (4, vi (nI v)), (3, vi (nI (((sgI S v z s).2.2) + 0))), (2, vi (nI (((sgI S v z s).2.1) + 1))), (1, vr (some b)), (0, vr (some m))] (sb_cons (.head _) (sb_cons (.tail _ (.tail _ (.tail _ (.tail _ (.head _))))) (sb_cons (.tail _ (.head _)) (sb_cons (.tail _ (.tail _ (.head _))) (sb_cons (.tail _ (.tail _ (.tail _ (.tail _ (.tail _ (.head _)))))) (sb_cons (.tail _ (.tail _ (.tail _ (.tail _ (.tail _ (.tail _ (.head _))))))) sb_nil)))))) ?_
        have e1 : (sgI S v z (s + 1)).2.1 = (sgI S v z s).2.1 + 1 := (show (sgI S v z (s + 1)).2.1 = (sgI S v z s).2.1 + (if 0 < ndN S v s then 1 else 0) from rfl).trans (congrArg (fun y => (sgI S v z s).2.1 + y) (if_pos (show 0 < ndN S v s by omega)))
        have e2 : (sgI S v z (s + 1)).2.2 = (sgI S v z s).2.2 := (show (sgI S v z (s + 1)).2.2 = (sgI S v z s).2.2 + (if 0 < ndN S v s ∧ (sgI S v z s).1 (ndN S v s) = false then 1 else 0) from rfl).trans (congrArg (fun y => (sgI S v z s).2.2 + y) (if_neg (fun y => Bool.false_ne_true (y.2.symm.trans c_77))))
        have ih2 := ih (s + 1) _ (by omega) (hL.st (n := ndN S v s) hbm hbA)
        rw [e1, e2] at ih2
        exact ih2
      · skip
        refine wp_iconst (nI 1) dX16_sharing_80 (by decide) ?_
        refine wp_goto 85 dX16_sharing_81 (by decide) ?_
        refine wp_iaddN dX16_sharing_85 ?_
        refine wp_istore_n (i := 3) (lv' := [(3, vi (nI (((sgI S v z s).2.2) + 1))), (2, vi (nI (((sgI S v z s).2.1) + 1))), (6, vi (nI (ndN S v s))), (5, vi (nI s)), (4, vi (nI v)), (1, vr (some b)), (0, vr (some m))]) dX16_sharing_86 rfl (by decide) rfl ?_
        refine wp_aload_n (i := 1) dX16_sharing_87 rfl rfl ?_
        refine wp_iload (i := 6) dX16_sharing_88 rfl ?_
        refine wp_iconst (nI 1) dX16_sharing_90 (by decide) ?_
        refine wp_zastoreN (sMd S + 1) dX16_sharing_91 hL.2.1 hL.2.2.1 (by omega) (by omega) (by decide) ?_
        refine wp_iincN (a := s) (lv' := [(5, vi (nI (s + 1))), (3, vi (nI (((sgI S v z s).2.2) + 1))), (2, vi (nI (((sgI S v z s).2.1) + 1))), (6, vi (nI (ndN S v s))), (4, vi (nI v)), (1, vr (some b)), (0, vr (some m))]) 1 dX16_sharing_92 rfl (by decide) (by decide) rfl ?_
        refine wp_goto 33 dX16_sharing_95 (by decide) ?_
        refine wp_sub [(5, vi (nI (s + 1))), (4, vi (nI v)), (3, vi (nI (((sgI S v z s).2.2) + 1))), (2, vi (nI (((sgI S v z s).2.1) + 1))), (1, vr (some b)), (0, vr (some m))] (sb_cons (.head _) (sb_cons (.tail _ (.tail _ (.tail _ (.tail _ (.head _))))) (sb_cons (.tail _ (.head _)) (sb_cons (.tail _ (.tail _ (.head _))) (sb_cons (.tail _ (.tail _ (.tail _ (.tail _ (.tail _ (.head _)))))) (sb_cons (.tail _ (.tail _ (.tail _ (.tail _ (.tail _ (.tail _ (.head _))))))) sb_nil)))))) ?_
        have e1 : (sgI S v z (s + 1)).2.1 = (sgI S v z s).2.1 + 1 := (show (sgI S v z (s + 1)).2.1 = (sgI S v z s).2.1 + (if 0 < ndN S v s then 1 else 0) from rfl).trans (congrArg (fun y => (sgI S v z s).2.1 + y) (if_pos (show 0 < ndN S v s by omega)))
        have e2 : (sgI S v z (s + 1)).2.2 = (sgI S v z s).2.2 + 1 := (show (sgI S v z (s + 1)).2.2 = (sgI S v z s).2.2 + (if 0 < ndN S v s ∧ (sgI S v z s).1 (ndN S v s) = false then 1 else 0) from rfl).trans (congrArg (fun y => (sgI S v z s).2.2 + y) (if_pos ⟨show 0 < ndN S v s by omega, c_77⟩))
        have ih2 := ih (s + 1) _ (by omega) (hL.st (n := ndN S v s) hbm hbA)
        rw [e1, e2] at ih2
        exact ih2
set_option maxRecDepth 100000 in
set_option maxHeartbeats 4000000 in
theorem l_X16_sharing2 {G : GG} {d bc bs : Nat} {h : Hp} {Q : Pst} {m b : Nat} {A : Nat → Nat} {S : SV} (hS : SB S) (hN : ∀ v s, ndN S v s ≤ sMd S) (hmd : sMd S < 60000) (hbm : m ≠ b) (hbA : ∀ i, 3 ≤ i → i ≤ 18 → i ≠ 15 → i ≠ 16 → A i ≠ b) (hd : 4 ≤ d) (hq : ∀ H, SHL h H m A b S (sgO S (sNv S)).1 → WP G m_X16_sharing d 104 [(3, vi (nI ((sgO S ((sNv S))).2.2))), (2, vi (nI ((sgO S ((sNv S))).2.1))), (1, vr (some b)), (0, vr (some m))] [] H bc bs Q) : ∀ n v H, n + v = sNv S → SHL h H m A b S (sgO S v).1 → WP G m_X16_sharing d 21 [(4, vi (nI v)), (3, vi (nI ((sgO S v).2.2))), (2, vi (nI ((sgO S v).2.1))), (1, vr (some b)), (0, vr (some m))] [] H bc bs Q := by
  have hnv := hS.1
  intro n
  induction n with
  | zero =>
    intro v H hs hL
    have hM := hL.1
    have hs : v = sNv S := by omega
    subst hs
    refine wp_iload (i := 4) dX16_sharing_21 rfl ?_
    refine wp_aload_n (i := 0) dX16_sharing_23 rfl rfl ?_
    refine wp_get 17 1 (vi (nI (sNv S))) dX16_sharing_24 hM.1.1 (by decide) (by decide) fl_X16_67 (congrArg (fun z => toV (vi z)) (hM.2.1)) ?_
    refine wp_icmp_geN 104 dX16_sharing_27 (by decide) (by omega) (by omega) (fun c_27 => ?_) (fun c_27 => absurd c_27 (by omega))
    refine wp_sub [(3, vi (nI ((sgO S ((sNv S))).2.2))), (2, vi (nI ((sgO S ((sNv S))).2.1))), (1, vr (some b)), (0, vr (some m))] (sb_cons (.tail _ (.head _)) (sb_cons (.tail _ (.tail _ (.head _))) (sb_cons (.tail _ (.tail _ (.tail _ (.head _)))) (sb_cons (.tail _ (.tail _ (.tail _ (.tail _ (.head _))))) sb_nil)))) ?_
    exact hq _ hL
  | succ n ih =>
    intro v H hs hL
    have hM := hL.1
    have hle := sgO_le (S := S) v
    refine wp_iload (i := 4) dX16_sharing_21 rfl ?_
    refine wp_aload_n (i := 0) dX16_sharing_23 rfl rfl ?_
    refine wp_get 17 1 (vi (nI (sNv S))) dX16_sharing_24 hM.1.1 (by decide) (by decide) fl_X16_67 (congrArg (fun z => toV (vi z)) (hM.2.1)) ?_
    refine wp_icmp_geN 104 dX16_sharing_27 (by decide) (by omega) (by omega) (fun c_27 => absurd c_27 (by omega)) (fun c_27 => ?_)
    refine wp_iconst (nI 0) dX16_sharing_30 (by decide) ?_
    refine wp_istore (i := 5) (lv' := [(5, vi (nI 0)), (4, vi (nI v)), (3, vi (nI ((sgO S v).2.2))), (2, vi (nI ((sgO S v).2.1))), (1, vr (some b)), (0, vr (some m))]) dX16_sharing_31 (by decide) rfl ?_
    refine wp_sub [(5, vi (nI 0)), (4, vi (nI v)), (3, vi (nI ((sgO S v).2.2))), (2, vi (nI ((sgO S v).2.1))), (1, vr (some b)), (0, vr (some m))] (sb_cons (.head _) (sb_cons (.tail _ (.head _)) (sb_cons (.tail _ (.tail _ (.head _))) (sb_cons (.tail _ (.tail _ (.tail _ (.head _)))) (sb_cons (.tail _ (.tail _ (.tail _ (.tail _ (.head _))))) (sb_cons (.tail _ (.tail _ (.tail _ (.tail _ (.tail _ (.head _)))))) sb_nil)))))) ?_
    refine l_X16_sharing1 hS hN hmd hbm hbA (z := sgO S v) hle.1 (by omega) hd (fun H1 L1 => ?_) (slN S v) 0 H (by omega) hL
    refine wp_iincN (a := v) (lv' := [(4, vi (nI (v + 1))), (3, vi (nI ((sgI S v (sgO S v) (slN S v)).2.2))), (2, vi (nI ((sgI S v (sgO S v) (slN S v)).2.1))), (1, vr (some b)), (0, vr (some m))]) 1 dX16_sharing_98 rfl (by decide) (by decide) rfl ?_
    refine wp_goto 21 dX16_sharing_101 (by decide) ?_
    refine wp_sub [(4, vi (nI (v + 1))), (3, vi (nI ((sgI S v (sgO S v) (slN S v)).2.2))), (2, vi (nI ((sgI S v (sgO S v) (slN S v)).2.1))), (1, vr (some b)), (0, vr (some m))] (sb_cons (.head _) (sb_cons (.tail _ (.head _)) (sb_cons (.tail _ (.tail _ (.head _))) (sb_cons (.tail _ (.tail _ (.tail _ (.head _)))) (sb_cons (.tail _ (.tail _ (.tail _ (.tail _ (.head _))))) sb_nil))))) ?_
    exact ih (v + 1) H1 (by omega) L1
set_option maxRecDepth 100000 in
set_option maxHeartbeats 4000000 in
theorem c_X16_sharing {G : GG} {d bc bs : Nat} {h : Hp} {Q : Pst} {m : Nat} {A : Nat → Nat} {S : SV} (hM : MP h m A S) (hS : SB S) (hN : ∀ v s, ndN S v s ≤ sMd S) (hmd : sMd S < 59999) {b : Nat} (hb : h_k h b = 0) (hd : 6 ≤ d) (hbc : 1 ≤ bc) (hbs : sMd S + 1 ≤ bs) (hq : ∀ H, (∀ a, a ≠ b → ce H a = ce (wI h m 0 (o_sharing S).1) a) → MP H m A S → Q (oRet (vf (o_sharing S).2)) H) : WP G m_X16_sharing d 0 (aargs 0 [vr (some m)]) [] h bc bs Q := by
  have hnv := hS.1
  obtain ⟨hbm, hbA⟩ := hM.apart hb
  refine wp_sub [(0, vr (some m))] (fun _ hz => hz) ?_
  refine wp_aload_n (i := 0) dX16_sharing_0 rfl rfl ?_
  refine wp_iconst (nI 0) dX16_sharing_1 (by decide) ?_
  refine wp_putI 17 0 dX16_sharing_2 hM.1.1 (by decide) (by decide) (by decide) fl_X16_63 rfl (fun _ _ => rfl) rfl rfl ?_
  have hM1 := hM.w0 (x := (nI 0))
  refine wp_aload_n (i := 0) dX16_sharing_5 rfl rfl ?_
  refine wp_get 17 2 (vi (nI (sMd S))) dX16_sharing_6 hM1.1.1 (by decide) (by decide) fl_X16_84 (congrArg (fun z => toV (vi z)) (hM1.2.2.1)) ?_
  refine wp_iconst (nI 1) dX16_sharing_9 (by decide) ?_
  refine wp_iaddN dX16_sharing_10 ?_
  refine wp_newarray 102 ((sMd S) + 1) .boolean dX16_sharing_11 rfl rfl aw_boolean (nI_nn (by omega)) (nI_clamp (by omega)) (by omega) (by decide) pl_boolean (by omega) (by omega) b (show h_k h b = 0 from hb) ?_
  refine wp_astore_n (i := 1) (lv' := [(1, vr (some b)), (0, vr (some m))]) dX16_sharing_13 rfl (by decide) rfl ?_
  refine wp_iconst (nI 0) dX16_sharing_14 (by decide) ?_
  refine wp_istore_n (i := 2) (lv' := [(2, vi (nI 0)), (1, vr (some b)), (0, vr (some m))]) dX16_sharing_15 rfl (by decide) rfl ?_
  refine wp_iconst (nI 0) dX16_sharing_16 (by decide) ?_
  refine wp_istore_n (i := 3) (lv' := [(3, vi (nI 0)), (2, vi (nI 0)), (1, vr (some b)), (0, vr (some m))]) dX16_sharing_17 rfl (by decide) rfl ?_
  refine wp_iconst (nI 0) dX16_sharing_18 (by decide) ?_
  refine wp_istore (i := 4) (lv' := [(4, vi (nI 0)), (3, vi (nI 0)), (2, vi (nI 0)), (1, vr (some b)), (0, vr (some m))]) dX16_sharing_19 (by decide) rfl ?_
  refine wp_sub [(4, vi (nI 0)), (3, vi (nI 0)), (2, vi (nI 0)), (1, vr (some b)), (0, vr (some m))] (sb_cons (.head _) (sb_cons (.tail _ (.head _)) (sb_cons (.tail _ (.tail _ (.head _))) (sb_cons (.tail _ (.tail _ (.tail _ (.head _)))) (sb_cons (.tail _ (.tail _ (.tail _ (.tail _ (.head _))))) sb_nil))))) ?_
  have L0 : SHL (wI h m 0 (nI 0)) (mk (wI h m 0 (nI 0)) b 102 (sMd S + 1)) m A b S (sgO S 0).1 := ⟨hM1.oth hbm hbA (fun a ha => ce_mk ha), by rw [gk_mk, if_pos rfl], by rw [gn_mk, if_pos rfl], fun x => by rw [gI_mk, if_pos rfl]; rfl, fun a ha => ce_mk ha⟩
  refine l_X16_sharing2 hS hN (by omega) hbm hbA (by omega) (fun H hL => ?_) (sNv S) 0 _ (by omega) L0
  have hT : h_I H m 0 = nI 0 := by rw [ce_I (hL.2.2.2.2 m hbm)]; exact wI_ss
  have hle := sgO_le (S := S) (sNv S)
  refine wp_aload_n (i := 0) dX16_sharing_104 rfl rfl ?_
  refine wp_iload_n (i := 2) dX16_sharing_105 rfl rfl ?_
  refine wp_if_neN 113 dX16_sharing_106 (by decide) (by omega) (fun c_106 => ?_) (fun c_106 => ?_)
  · skip
    refine wp_iconst (nI 0) dX16_sharing_113 (by decide) ?_
    refine wp_iconst (nI 1) dX16_sharing_114 (by decide) ?_
    refine wp_cV (y' := m_X16_fails) 17 [vi (nI 0), vi (nI 1)] [] 0 0 dX16_sharing_115 ml_X16_102 im_X16_fails se_X16_fails (by decide) hL.1.1.1 ok_X16_fails rfl (Nat.le_of_ble_eq_true rfl) rfl (Nat.le_of_ble_eq_true rfl) (d' := d - 1) (by omega) (Nat.zero_le _) (Nat.zero_le _) (c_X16_failsF hL.1 hS hT (nI 1) (by decide) (cont_ret ?_))
    skip
    refine wp_if_eqN 125 dX16_sharing_118 (by decide) (by decide) (fun c_118 => ?_) (fun c_118 => absurd c_118 (by decide))
    refine wp_iload_n (i := 3) dX16_sharing_125 rfl rfl ?_
    refine wp_i2f dX16_sharing_126 ?_
    refine wp_iload_n (i := 2) dX16_sharing_127 rfl rfl ?_
    refine wp_i2f dX16_sharing_128 ?_
    refine wp_fdiv dX16_sharing_129 (fdiv_n (by omega) (by omega)) ?_
    refine wp_freturn dX16_sharing_130 rfl ?_
    rw [show o_sharing S = (nI 0, FP.fdiv (FP.i2f (nI (sgO S (sNv S)).2.2)) (FP.i2f (nI (sgO S (sNv S)).2.1))) from if_neg (by omega)] at hq
    exact hq _ hL.2.2.2.2 hL.1
  · skip
    refine wp_iconst (nI 1) dX16_sharing_109 (by decide) ?_
    refine wp_goto 114 dX16_sharing_110 (by decide) ?_
    refine wp_iconst (nI 1) dX16_sharing_114 (by decide) ?_
    refine wp_cV (y' := m_X16_fails) 17 [vi (nI 1), vi (nI 1)] [] 0 0 dX16_sharing_115 ml_X16_102 im_X16_fails se_X16_fails (by decide) hL.1.1.1 ok_X16_fails rfl (Nat.le_of_ble_eq_true rfl) rfl (Nat.le_of_ble_eq_true rfl) (d' := d - 1) (by omega) (Nat.zero_le _) (Nat.zero_le _) (c_X16_failsT hL.1 hS hT (nI 1) (by decide) (cont_ret ?_))
    have hM3 := hL.1.w0 (x := nI 1)
    refine wp_if_eqN 125 dX16_sharing_118 (by decide) (by decide) (fun c_118 => absurd c_118 (by decide)) (fun c_118 => ?_)
    refine wp_fconst0 dX16_sharing_121 ?_
    refine wp_goto 130 dX16_sharing_122 (by decide) ?_
    refine wp_freturn dX16_sharing_130 rfl ?_
    rw [show o_sharing S = (nI 1, FP.fconst0) from if_pos (by omega)] at hq
    exact hq _ (fun a ha => by
      by_cases e : a = m
      · rw [e]; exact ce_w0 (hL.2.2.2.2 m hbm)
      · rw [ce_wI e, ce_wI e]; exact (hL.2.2.2.2 a ha).trans (ce_wI e)) hM3
