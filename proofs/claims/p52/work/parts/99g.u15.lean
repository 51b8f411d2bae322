/-! The class: maps, a key put in, the whole. -/
section FIN
variable {hs : Nat → Bool} {of : Nat → Int32} {mn mn' : Nat → Nat} {key l b M k : Nat} {e : Int32} {t : Bool} {x : KNS}
/-- a node of another block is what it was -/
theorem MNk.off (H : MNk M k hs of mn l b x) (hl : l ≤ 4) (hb : b < 2 ^ (2 * l)) (hne : ¬ btN key l = b) (hmn : ∀ L B, L ≤ 4 → B < 2 ^ (2 * L) → B ≠ btN key L → mn' (lst L + B) = mn (lst L + B)) : MNk M k (va_up hs key t) (va_up of key e) mn' l b x := by
  have ec := ct_off (hs := hs) (t := t) hne
  rcases H.2 with ⟨h1, h2, h3⟩ | ⟨h1, h2, h3, L, g1, g2, g3, g4⟩
  · refine ⟨H.1, Or.inl ⟨h1, by rw [ec]; exact h2, fun q hq => (h3 q hq).off hb h1 hq (fun z => hne ((btN_i hb).mp z).1) hmn⟩⟩
  · subst h1
    refine ⟨H.1, Or.inr ⟨rfl, by rw [ec]; exact h2, by rw [ec]; exact h3, L, ?_, by rw [ec]; exact g2, ?_, by rw [ec]; exact g4⟩⟩
    · intro i hi
      rw [ec] at hi
      obtain ⟨c1, c2, c3, c4, c5⟩ := g1 i hi
      have hLk : L i ≠ key := fun z => hne (by rw [← z]; exact c3)
      rw [va_ne hLk, va_ne hLk]
      exact ⟨c1, c2, c3, c4, c5⟩
    · intro j j1 j2 j3
      have hjk : j ≠ key := fun z => hne (by rw [← z]; exact j3)
      rw [va_ne hjk] at j2
      rw [ec]; exact g3 j j1 j2 j3
theorem MTf.fin {h h2 : Hp} (T : MTf h M hs of mn) (hmn : ∀ L B, L ≤ 4 → B < 2 ^ (2 * L) → B ≠ btN key L → mn' (lst L + B) = mn (lst L + B)) (hF : ∀ i, i ≤ 4 → (i = 0 ∨ 1 < ct (va_up hs key t) i (btN key i)) → FrN h (mn' (sltN key i))) (F : Fr h h2 (WMt (va_up hs key t) mn' key 0)) (Z : ∀ i, i ≤ 4 → (i = 0 ∨ 1 < ct (va_up hs key t) i (btN key i)) → ∃ x, KN h2 (mn' (sltN key i)) x ∧ MNk M (mn' (sltN key i)) (va_up hs key t) (va_up of key e) mn' i (btN key i) x) : MTf h2 M (va_up hs key t) (va_up of key e) mn' := by
  intro L B h1 h2' h3
  by_cases hB : B = btN key L
  · subst hB
    exact Z L h1 h3
  · have hne : ¬ btN key L = B := fun z => hB z.symm
    have hL0 : L ≠ 0 := fun z => by
      subst z
      have : B = 0 := by have : B < 1 := h2'; omega
      exact hB (by rw [this, btN_0])
    rw [ct_off hne] at h3
    obtain ⟨x, hO, hx⟩ := T L B h1 h2' h3
    have f : ∀ r, 45 ≤ r → r ≤ 48 → ce h2 (nm r (mn (lst L + B))) = ce h (nm r (mn (lst L + B))) := fun r q1 q2 => F _ (fun z => z.elim (fun z => by unfold nm at z; omega) (fun ⟨i, i1, i2, i3, i4⟩ => CNo_n (fun y => T.ne (hF i i2 i3).1 h1 h2' h3 y.2.2) (by omega) i4))
    rw [hmn L B h1 h2' hB]
    exact ⟨x, hO.frm (f 45 (by decide) (by decide)) (f 46 (by decide) (by decide)) (f 47 (by decide) (by decide)) (f 48 (by decide) (by decide)), hx.off h1 h2' hne hmn⟩
end FIN
theorem slt0 {key : Nat} : sltN key 0 = 0 := by unfold sltN; rw [btN_0]; rfl
theorem c_X2_holderOf0 {G : GG} {d bc bs : Nat} {h : Hp} {Q : Pst} {M key : Nat} {hs : Nat → Bool} {of : Nat → Int32} {mn : Nat → Nat} (hl : 0 ≤ 4) (hk : key < 1000) (T : MTp h M hs of mn key 0) (hd : 5 ≤ d) (hq : Q (oRet (vr (if hs key = true then some (nm 45 (mn (sltN key (hlF hs key (4 - 0) 0)))) else none))) h) : WP G m_X2_holderOf d 0 (aargs 0 [vr (some (nm 45 (mn 0))), vi (nI key)]) [] h bc bs Q := by
  have := c_X2_holderOf (G := G) (bc := bc) (bs := bs) (l := 0) hl hk T hd hq
  rw [slt0] at this
  exact this
set_option maxRecDepth 100000 in
set_option maxHeartbeats 4000000 in
theorem c_X2_withPair {G : GG} {d bc bs : Nat} {h : Hp} {Q : Pst} {M key c : Nat} {hs : Nat → Bool} {of : Nat → Int32} {mn mn' : Nat → Nat} {e : Int32} (T : MTf h M hs of mn) (hk : key < 1000) (hmn : ∀ L B, L ≤ 4 → B < 2 ^ (2 * L) → B ≠ btN key L → mn' (lst L + B) = mn (lst L + B)) (hF : ∀ i, i ≤ 4 → (i = 0 ∨ 1 < ct (va_up hs key true) i (btN key i)) → FrN h (mn' (sltN key i))) (hdst : ∀ i j, i < j → j ≤ 4 → 1 < ct (va_up hs key true) j (btN key j) → mn' (sltN key i) ≠ mn' (sltN key j)) (hM : MKR h c) (hc : c < 700000) (h40 : ct (va_up hs key true) 4 (btN key 4) ≤ 40) (hd : 9 ≤ d) (hbc : 20 ≤ bc) (hbs : 460 ≤ bs) (hq : ∀ h', MTf h' M (va_up hs key true) (va_up of key e) mn' → MKR h' (c + (1 + crM (va_up hs key true) key 4 0)) → Fr h h' (WMt (va_up hs key true) mn' key 0) → Q (oRet (vr (some (nm 45 (mn' 0))))) h') : WP G m_X2_withPair d 0 (aargs 0 [vr (some (nm 40 2)), vr (some (nm 45 (mn 0))), vi (nI key), vi e]) [] h bc bs Q := by
  have hf0 := hF 0 (by decide) (Or.inl rfl)
  obtain ⟨xr, hOr, hxr⟩ := T 0 (btN key 0) (by decide) (btN_lt key 0) (Or.inl rfl)
  rw [show lst 0 + btN key 0 = 0 from slt0 (key := key)] at hOr hxr
  have hne := T.ne hf0.1 (l := 0) (b := btN key 0) (by decide) (btN_lt key 0) (Or.inl rfl)
  rw [show lst 0 + btN key 0 = 0 from slt0 (key := key)] at hne
  have hcj : ∀ q v, chAq xr q = some v → h_k h v = 6 ∧ ¬ CNo (mn' (sltN key 0)) v := fun q v hv => by
    obtain ⟨z1, z2, z3, z4⟩ := hxr.ch hv
    obtain ⟨y, hy, -⟩ := T 1 _ (by decide) (blk_lt (btN_lt key 0) z2) (Or.inr z3)
    have hn := T.ne hf0.1 (l := 1) (by decide) (blk_lt (btN_lt key 0) z2) (Or.inr z3)
    subst z4
    exact ⟨hy.k0, CNo_n (fun q => hn q.2.2) (by decide)⟩
  refine wp_sub [(0, vr (some (nm 40 2))), (1, vr (some (nm 45 (mn 0)))), (2, vi (nI key)), (3, vi e)] (fun _ hz => hz) ?_
  cases hh : hs key with
  | true =>
    refine wp_aload_n (i := 1) dX2_withPair_0 rfl rfl ?_
    refine wp_iload_n (i := 2) dX2_withPair_1 rfl rfl ?_
    skip
    refine wp_cS (y' := m_X2_holderOf) [vr (some (nm 45 (mn 0))), vi (nI key)] [] 0 0 dX2_withPair_2 ml_X2_29 st_X2_holderOf ok_X2_holderOf rfl (Nat.le_of_ble_eq_true rfl) rfl (Nat.le_of_ble_eq_true rfl) (d' := d - 1) (by omega) (Nat.zero_le _) (Nat.zero_le _) (c_X2_holderOf0 (by decide) hk T.p (by omega) (cont_ret ?_))
    rw [if_pos hh]
    refine wp_ifnonnull 12 dX2_withPair_5 (by decide) (fun a_5 c_5 => ?_) (fun c_5 => absurd c_5 (fun z => nomatch z))
    refine wp_iconst (nI 0) dX2_withPair_12 (by decide) ?_
    refine wp_istore (i := 4) (lv' := [(4, vi (nI 0)), (0, vr (some (nm 40 2))), (1, vr (some (nm 45 (mn 0)))), (2, vi (nI key)), (3, vi e)]) dX2_withPair_13 (by decide) rfl ?_
    refine wp_aload_n (i := 0) dX2_withPair_15 rfl rfl ?_
    refine wp_aload_n (i := 1) dX2_withPair_16 rfl rfl ?_
    refine wp_iconst (-1) dX2_withPair_17 (by decide) ?_
    refine wp_cV (y' := m_X4_copyOf) 6 [vr (some (nm 45 (mn 0))), vi (-1)] [] 4 91 dX2_withPair_18 ml_X2_33 im_X4_copyOf se_X4_copyOf (by decide) hM.1 ok_X4_copyOf rfl (Nat.le_of_ble_eq_true rfl) rfl (Nat.le_of_ble_eq_true rfl) (d' := d - 1) (by omega) (by omega) (by omega) (c_X4_copyOf (k := mn' (sltN key 0)) hOr hxr.wf hM (by omega) hne hf0 hcj (by omega) (by omega) (by omega) (fun h1 x1 K1 C1 M1 F1 => cont_ret ?_))
    refine wp_astore (i := 5) (lv' := [(5, vr (some (nm 45 (mn' (sltN key 0))))), (4, vi (nI 0)), (0, vr (some (nm 40 2))), (1, vr (some (nm 45 (mn 0)))), (2, vi (nI key)), (3, vi e)]) dX2_withPair_21 (by decide) rfl ?_
    refine wp_aload (i := 5) dX2_withPair_23 rfl ?_
    refine wp_astore (i := 6) (lv' := [(6, vr (some (nm 45 (mn' (sltN key 0))))), (5, vr (some (nm 45 (mn' (sltN key 0))))), (4, vi (nI 0)), (0, vr (some (nm 40 2))), (1, vr (some (nm 45 (mn 0)))), (2, vi (nI key)), (3, vi e)]) dX2_withPair_25 (by decide) rfl ?_
    refine wp_iconst (nI 0) dX2_withPair_27 (by decide) ?_
    refine wp_istore (i := 7) (lv' := [(7, vi (nI 0)), (6, vr (some (nm 45 (mn' (sltN key 0))))), (5, vr (some (nm 45 (mn' (sltN key 0))))), (4, vi (nI 0)), (0, vr (some (nm 40 2))), (1, vr (some (nm 45 (mn 0)))), (2, vi (nI key)), (3, vi e)]) dX2_withPair_28 (by decide) rfl ?_
    refine wp_sub [(7, vi (nI 0)), (6, vr (some (nm 45 (mn' (sltN key 0))))), (5, vr (some (nm 45 (mn' (sltN key 0))))), (4, vi (nI 0)), (2, vi (nI key)), (3, vi e), (0, vr (some (nm 40 2)))] (sb_cons (.head _) (sb_cons (.tail _ (.head _)) (sb_cons (.tail _ (.tail _ (.head _))) (sb_cons (.tail _ (.tail _ (.tail _ (.head _)))) (sb_cons (.tail _ (.tail _ (.tail _ (.tail _ (.tail _ (.tail _ (.head _))))))) (sb_cons (.tail _ (.tail _ (.tail _ (.tail _ (.tail _ (.tail _ (.tail _ (.head _)))))))) (sb_cons (.tail _ (.tail _ (.tail _ (.tail _ (.head _))))) sb_nil))))))) ?_
    have f1 : ∀ r i, 45 ≤ r → r ≤ 48 → i ≠ mn' (sltN key 0) → ce h1 (nm r i) = ce h (nm r i) := fun r i r1 r2 i1 => F1 _ (W1_n (fun z => i1 z.2.2) (by omega) (by omega))
    have hS : ∀ L B, L ≤ 4 → B < 2 ^ (2 * L) → (L = 0 ∨ 1 < ct hs L B) → mn (lst L + B) ≠ mn' (sltN key 0) := fun L B g1 g2 g3 => T.ne hf0.1 g1 g2 g3
    refine l_X2_withPair (mo := 0) hk (by rw [hh]; rfl) hmn hdst h40 (by omega) 4 0 rfl h1 _ _ _ x1 (fun i i1 i2 i3 => (hF i i2 (Or.inr i3)).frm (fun r q1 q2 => f1 r _ q1 q2 (fun z => hdst 0 i i1 i2 i3 z.symm))) (T.frm (fun L B r g1 g2 g3 q1 q2 => f1 r _ q1 q2 (hS L B g1 g2 g3))) hS K1 (hxr.cp C1) M1 (by omega) (by omega) (by omega) (fun h2 Z2 M2 F2 => ?_)
    have F8 : Fr h h2 (WMt (va_up hs key true) mn' key 0) := fun a ha => (F2 a ha).trans (F1 a (fun z => ha (z.elim (fun z => Or.inr ⟨0, Nat.le_refl _, by decide, Or.inl rfl, z⟩) Or.inl)))
    rw [slt0]
    exact hq h2 (T.fin hmn hF F8 (fun i i1 i2 => Z2 i (Nat.zero_le _) i1 i2)) (by rw [← Nat.add_assoc]; exact M2) F8
  | false =>
    refine wp_aload_n (i := 1) dX2_withPair_0 rfl rfl ?_
    refine wp_iload_n (i := 2) dX2_withPair_1 rfl rfl ?_
    skip
    refine wp_cS (y' := m_X2_holderOf) [vr (some (nm 45 (mn 0))), vi (nI key)] [] 0 0 dX2_withPair_2 ml_X2_29 st_X2_holderOf ok_X2_holderOf rfl (Nat.le_of_ble_eq_true rfl) rfl (Nat.le_of_ble_eq_true rfl) (d' := d - 1) (by omega) (Nat.zero_le _) (Nat.zero_le _) (c_X2_holderOf0 (by decide) hk T.p (by omega) (cont_ret ?_))
    rw [if_neg (by rw [hh]; decide)]
    refine wp_ifnonnull 12 dX2_withPair_5 (by decide) (fun a_5 c_5 => absurd c_5 (fun z => nomatch z)) (fun c_5 => ?_)
    refine wp_iconst (nI 1) dX2_withPair_8 (by decide) ?_
    refine wp_goto 13 dX2_withPair_9 (by decide) ?_
    refine wp_istore (i := 4) (lv' := [(4, vi (nI 1)), (0, vr (some (nm 40 2))), (1, vr (some (nm 45 (mn 0)))), (2, vi (nI key)), (3, vi e)]) dX2_withPair_13 (by decide) rfl ?_
    refine wp_aload_n (i := 0) dX2_withPair_15 rfl rfl ?_
    refine wp_aload_n (i := 1) dX2_withPair_16 rfl rfl ?_
    refine wp_iconst (-1) dX2_withPair_17 (by decide) ?_
    refine wp_cV (y' := m_X4_copyOf) 6 [vr (some (nm 45 (mn 0))), vi (-1)] [] 4 91 dX2_withPair_18 ml_X2_33 im_X4_copyOf se_X4_copyOf (by decide) hM.1 ok_X4_copyOf rfl (Nat.le_of_ble_eq_true rfl) rfl (Nat.le_of_ble_eq_true rfl) (d' := d - 1) (by omega) (by omega) (by omega) (c_X4_copyOf (k := mn' (sltN key 0)) hOr hxr.wf hM (by omega) hne hf0 hcj (by omega) (by omega) (by omega) (fun h1 x1 K1 C1 M1 F1 => cont_ret ?_))
    refine wp_astore (i := 5) (lv' := [(5, vr (some (nm 45 (mn' (sltN key 0))))), (4, vi (nI 1)), (0, vr (some (nm 40 2))), (1, vr (some (nm 45 (mn 0)))), (2, vi (nI key)), (3, vi e)]) dX2_withPair_21 (by decide) rfl ?_
    refine wp_aload (i := 5) dX2_withPair_23 rfl ?_
    refine wp_astore (i := 6) (lv' := [(6, vr (some (nm 45 (mn' (sltN key 0))))), (5, vr (some (nm 45 (mn' (sltN key 0))))), (4, vi (nI 1)), (0, vr (some (nm 40 2))), (1, vr (some (nm 45 (mn 0)))), (2, vi (nI key)), (3, vi e)]) dX2_withPair_25 (by decide) rfl ?_
    refine wp_iconst (nI 0) dX2_withPair_27 (by decide) ?_
    refine wp_istore (i := 7) (lv' := [(7, vi (nI 0)), (6, vr (some (nm 45 (mn' (sltN key 0))))), (5, vr (some (nm 45 (mn' (sltN key 0))))), (4, vi (nI 1)), (0, vr (some (nm 40 2))), (1, vr (some (nm 45 (mn 0)))), (2, vi (nI key)), (3, vi e)]) dX2_withPair_28 (by decide) rfl ?_
    refine wp_sub [(7, vi (nI 0)), (6, vr (some (nm 45 (mn' (sltN key 0))))), (5, vr (some (nm 45 (mn' (sltN key 0))))), (4, vi (nI 1)), (2, vi (nI key)), (3, vi e), (0, vr (some (nm 40 2)))] (sb_cons (.head _) (sb_cons (.tail _ (.head _)) (sb_cons (.tail _ (.tail _ (.head _))) (sb_cons (.tail _ (.tail _ (.tail _ (.head _)))) (sb_cons (.tail _ (.tail _ (.tail _ (.tail _ (.tail _ (.tail _ (.head _))))))) (sb_cons (.tail _ (.tail _ (.tail _ (.tail _ (.tail _ (.tail _ (.tail _ (.head _)))))))) (sb_cons (.tail _ (.tail _ (.tail _ (.tail _ (.head _))))) sb_nil))))))) ?_
    have f1 : ∀ r i, 45 ≤ r → r ≤ 48 → i ≠ mn' (sltN key 0) → ce h1 (nm r i) = ce h (nm r i) := fun r i r1 r2 i1 => F1 _ (W1_n (fun z => i1 z.2.2) (by omega) (by omega))
    have hS : ∀ L B, L ≤ 4 → B < 2 ^ (2 * L) → (L = 0 ∨ 1 < ct hs L B) → mn (lst L + B) ≠ mn' (sltN key 0) := fun L B g1 g2 g3 => T.ne hf0.1 g1 g2 g3
    refine l_X2_withPair (mo := 1) hk (by rw [hh]; rfl) hmn hdst h40 (by omega) 4 0 rfl h1 _ _ _ x1 (fun i i1 i2 i3 => (hF i i2 (Or.inr i3)).frm (fun r q1 q2 => f1 r _ q1 q2 (fun z => hdst 0 i i1 i2 i3 z.symm))) (T.frm (fun L B r g1 g2 g3 q1 q2 => f1 r _ q1 q2 (hS L B g1 g2 g3))) hS K1 (hxr.cp C1) M1 (by omega) (by omega) (by omega) (fun h2 Z2 M2 F2 => ?_)
    have F8 : Fr h h2 (WMt (va_up hs key true) mn' key 0) := fun a ha => (F2 a ha).trans (F1 a (fun z => ha (z.elim (fun z => Or.inr ⟨0, Nat.le_refl _, by decide, Or.inl rfl, z⟩) Or.inl)))
    rw [slt0]
    exact hq h2 (T.fin hmn hF F8 (fun i i1 i2 => Z2 i (Nat.zero_le _) i1 i2)) (by rw [← Nat.add_assoc]; exact M2) F8
