/-! The class: maps, where a key is. -/
theorem slR_n {x : KNS} {key : Nat} : ∀ n i, (∀ j, i ≤ j → j < i + n → ¬ kyA x j = nI key) → slR x key n i = -1 := by
  intro n
  induction n with
  | zero => intro i _; rfl
  | succ n ih =>
    intro i h
    rw [slR, if_neg (h i (Nat.le_refl _) (by omega))]
    exact ih (i + 1) (fun j h1 h2 => h j (by omega) (by omega))
theorem slR_y {x : KNS} {key : Nat} : ∀ n i, (∃ j, i ≤ j ∧ j < i + n ∧ kyA x j = nI key) → ∃ j, i ≤ j ∧ j < i + n ∧ slR x key n i = nI j ∧ kyA x j = nI key := by
  intro n
  induction n with
  | zero => rintro i ⟨j, h1, h2, -⟩; omega
  | succ n ih =>
    rintro i ⟨j, h1, h2, h3⟩
    rw [slR]
    by_cases e : kyA x i = nI key
    · rw [if_pos e]; exact ⟨i, Nat.le_refl _, by omega, rfl, e⟩
    · rw [if_neg e]
      have hj : j ≠ i := fun z => e (by rw [← z]; exact h3)
      obtain ⟨j', a1, a2, a3, a4⟩ := ih (i + 1) ⟨j, by omega, by omega, h3⟩
      exact ⟨j', by omega, by omega, a3, a4⟩
theorem MNk.rr {M k b i : Nat} {hs : Nat → Bool} {of : Nat → Int32} {mn : Nat → Nat} {x : KNS} (H : MNk M k hs of mn 4 b x) (hi : i < 40) : kyA x i = KN_ky x i ∧ elA x i = KN_el x i := by
  rcases H.2 with ⟨h1, -⟩ | ⟨-, h2, -⟩
  · exact absurd h1 (by decide)
  · obtain ⟨-, -, -, ⟨a1, a2, a3⟩, ⟨b1, b2, b3⟩, -⟩ := h2
    refine ⟨?_, ?_⟩
    · unfold kyA; rw [if_neg (by rw [a1]; exact fun z => nomatch z), if_pos (by rw [a3]; exact hi)]
    · unfold elA; rw [if_neg (by rw [b1]; exact fun z => nomatch z), if_pos (by rw [b3]; exact hi)]
/-- the key is here -/
theorem MNk.here {M k l key : Nat} {hs : Nat → Bool} {of : Nat → Int32} {mn : Nat → Nat} {x : KNS} (H : MNk M k hs of mn l (btN key l) x) (hl : l ≤ 4) (hk : key < 1000) (hh : hs key = true) (hc : l = 4 ∨ ct hs (l + 1) (btN key (l + 1)) ≤ 1) : ∃ i, i < 40 ∧ slO x key = nI i ∧ elA x i = of key ∧ kyA x i = nI key ∧ (l < 4 → i = plN key l) ∧ (l = 4 → i < ct hs 4 (btN key 4)) := by
  by_cases h4 : l = 4
  · subst h4
    rcases H.2 with ⟨h1, -⟩ | ⟨-, h2, h3, L, g1, g2, g3, g4⟩
    · exact absurd h1 (by decide)
    · obtain ⟨i, hi, hL⟩ := g3 key hk hh rfl
      have r : ∀ j, j < ct hs 4 (btN key 4) → kyA x j = nI (L j) ∧ elA x j = of (L j) := fun j hj => by
        obtain ⟨r1, r2⟩ := H.rr (show j < 40 by omega)
        rw [r1, r2]; exact ⟨(g1 j hj).2.2.2.1, (g1 j hj).2.2.2.2⟩
      obtain ⟨j, j1, j2, j3, j4⟩ := slR_y (x := x) (key := key) (KN_kc x) 0 ⟨i, Nat.zero_le _, by rw [H.kc]; omega, by rw [(r i hi).1, hL]⟩
      rw [H.kc] at j2
      have ej : L j = key := nI_j (by have := (g1 j (by omega)).1; omega) (by omega) ((r j (by omega)).1.symm.trans j4)
      refine ⟨j, by omega, ?_, by rw [(r j (by omega)).2, ej], j4, fun z => absurd z (by decide), fun _ => by omega⟩
      unfold slO
      rw [if_neg (by rw [H.lev]; decide)]
      exact j3
  · have hl4 : l < 4 := by omega
    have hp := plN_lt (k := key) (l := l)
    obtain ⟨r1, r2, r3, r4⟩ := H.ra hl4 hp
    unfold PLx at r4
    rw [← btN_s] at r4
    have hc1 := ct_pos (l := l + 1) hk hh rfl
    rcases r4 with z | ⟨z1, ⟨k', k1, k2, k3, k4, k5⟩, z3⟩ | z
    · omega
    · have ek : k' = key := ct_un (by omega) k1 hk k2 hh k3 rfl
      subst ek
      refine ⟨plN k' l, by omega, ?_, by rw [r2]; exact k5, by rw [r1]; exact k4, fun _ => rfl, fun z => absurd z h4⟩
      unfold slO
      rw [if_pos (by rw [H.lev]; exact hl4), H.lev, if_pos (by rw [r1]; exact k4)]
    · rcases hc with e | e
      · exact absurd e h4
      · omega
theorem nI_inj {i j : Nat} (hi : i < 1000) (hj : j < 1000) (e : nI i = nI j) : i = j := nI_j (by omega) (by omega) e
/-- the key is not here -/
theorem MNk.away {M k l key : Nat} {hs : Nat → Bool} {of : Nat → Int32} {mn : Nat → Nat} {x : KNS} (H : MNk M k hs of mn l (btN key l) x) (hl : l ≤ 4) (hk : key < 1000) (hc : hs key = false ∨ (l < 4 ∧ 1 < ct hs (l + 1) (btN key (l + 1)))) : slO x key = -1 ∧ chAq x (plN key l) = (if l < 4 ∧ 1 < ct hs (l + 1) (btN key (l + 1)) then some (nm 45 (mn (sltN key (l + 1)))) else none) := by
  by_cases h4 : l = 4
  · subst h4
    have hh : hs key = false := hc.resolve_right (fun z => absurd z.1 (by decide))
    rcases H.2 with ⟨h1, -⟩ | ⟨-, h2, h3, L, g1, g2, g3, g4⟩
    · exact absurd h1 (by decide)
    · refine ⟨?_, ?_⟩
      · unfold slO
        rw [if_neg (by rw [H.lev]; decide)]
        refine slR_n _ _ (fun j _ hj e => ?_)
        rw [H.kc, Nat.zero_add] at hj
        rw [(H.rr (show j < 40 by omega)).1, (g1 j hj).2.2.2.1] at e
        have := nI_inj (g1 j hj).1 hk e
        rw [← this, (g1 j hj).2.1] at hh; cases hh
      · rw [if_neg (fun z => absurd z.1 (by decide))]
        unfold chAq; exact if_pos h2.2.2.2.2.2.1
  · have hl4 : l < 4 := by omega
    have hp := plN_lt (k := key) (l := l)
    obtain ⟨r1, r2, r3, r4⟩ := H.ra hl4 hp
    unfold PLx at r4
    rw [← btN_s] at r4
    rw [r3]
    have hs1 : ∀ v, KN_ky x (plN key l) = v → ¬ v = nI key → slO x key = -1 := fun v e1 e2 => by
      unfold slO
      rw [if_pos (by rw [H.lev]; exact hl4), H.lev, if_neg (by rw [r1, e1]; exact e2)]
    rcases r4 with ⟨z1, z2, z3, z4⟩ | ⟨z1, ⟨k', k1, k2, k3, k4, k5⟩, z3⟩ | ⟨z1, z2, z3, z4⟩
    · exact ⟨hs1 _ z2 (fun e => nI_m1 (by omega) e.symm), by rw [z4, if_neg (by omega)]⟩
    · refine ⟨hs1 _ k4 (fun e => ?_), by rw [z3, if_neg (by omega)]⟩
      have ek := nI_inj k1 hk e
      subst ek
      rcases hc with y | y
      · rw [k2] at y; cases y
      · omega
    · refine ⟨hs1 _ z2 (fun e => nI_m1 (by omega) e.symm), ?_⟩
      rw [z4, if_pos ⟨hl4, z1⟩]; rfl
/-- the level at which a key is -/
def hlF (hs : Nat → Bool) (key : Nat) : Nat → Nat → Nat
  | 0, l => l
  | m + 1, l => if l < 4 ∧ 1 < ct hs (l + 1) (btN key (l + 1)) then hlF hs key m (l + 1) else l
/-- the nodes on the way of a key -/
def MTp (h : Hp) (M : Nat) (hs : Nat → Bool) (of : Nat → Int32) (mn : Nat → Nat) (key l0 : Nat) : Prop := ∀ l, l0 ≤ l → l ≤ 4 → (l = l0 ∨ 1 < ct hs l (btN key l)) → ∃ x, KN h (mn (sltN key l)) x ∧ MNk M (mn (sltN key l)) hs of mn l (btN key l) x
theorem hlF_sp {hs : Nat → Bool} {key : Nat} : ∀ m l, l + m = 4 → l ≤ hlF hs key m l ∧ hlF hs key m l ≤ 4 ∧ (hlF hs key m l = l ∨ 1 < ct hs (hlF hs key m l) (btN key (hlF hs key m l))) ∧ (hlF hs key m l = 4 ∨ ct hs (hlF hs key m l + 1) (btN key (hlF hs key m l + 1)) ≤ 1) := by
  intro m
  induction m with
  | zero => intro l h; exact ⟨Nat.le_refl _, by unfold hlF; omega, Or.inl rfl, Or.inl (by unfold hlF; omega)⟩
  | succ m ih =>
    intro l h
    rw [hlF]
    by_cases e : l < 4 ∧ 1 < ct hs (l + 1) (btN key (l + 1))
    · rw [if_pos e]
      obtain ⟨a1, a2, a3, a4⟩ := ih (l + 1) (by omega)
      exact ⟨by omega, a2, Or.inr (a3.elim (fun z => by rw [z]; exact e.2) id), a4⟩
    · rw [if_neg e]
      refine ⟨Nat.le_refl _, by omega, Or.inl rfl, ?_⟩
      by_cases q : l = 4
      · exact Or.inl q
      · right
        by_cases q2 : 1 < ct hs (l + 1) (btN key (l + 1))
        · exact absurd ⟨by omega, q2⟩ e
        · omega
set_option maxRecDepth 100000 in
set_option maxHeartbeats 4000000 in
theorem l_X2_holdNull {G : GG} {d bc bs : Nat} {h : Hp} {Q : Pst} {i key : Nat} (hi : i ≤ 5) (hq : Q (oRet (vr none)) h) : WP G m_X2_holderOf d 19 [(3, vi (nI i)), (2, vr none), (1, vi (nI key))] [] h bc bs Q := by
  refine wp_iload_n (i := 3) dX2_holderOf_19 rfl rfl ?_
  refine wp_iconst (nI 5) dX2_holderOf_20 (by decide) ?_
  refine wp_icmp_geN 58 dX2_holderOf_21 (by decide) (by omega) (by decide) (fun c_21 => ?_) (fun c_21 => ?_)
  · skip
    refine wp_null dX2_holderOf_58 ?_
    refine wp_areturn dX2_holderOf_59 rfl (Or.inl ⟨_, rfl⟩) ?_
    exact hq
  · skip
    refine wp_aload_n (i := 2) dX2_holderOf_24 rfl rfl ?_
    refine wp_ifnull 58 dX2_holderOf_25 (by decide) (fun c_25 => ?_) (fun a_25 c_25 => absurd c_25 (fun z => nomatch z))
    refine wp_null dX2_holderOf_58 ?_
    refine wp_areturn dX2_holderOf_59 rfl (Or.inl ⟨_, rfl⟩) ?_
    exact hq
set_option maxRecDepth 100000 in
set_option maxHeartbeats 4000000 in
theorem l_X2_holderOf {G : GG} {d bc bs : Nat} {h : Hp} {Q : Pst} {M key : Nat} {hs : Nat → Bool} {of : Nat → Int32} {mn : Nat → Nat} (hk : key < 1000) (hd : 5 ≤ d) : ∀ m l i, l + m = 4 → i ≤ l → MTp h M hs of mn key l → Q (oRet (vr (if hs key = true then some (nm 45 (mn (sltN key (hlF hs key m l)))) else none))) h → WP G m_X2_holderOf d 19 [(3, vi (nI i)), (2, vr (some (nm 45 (mn (sltN key l))))), (1, vi (nI key))] [] h bc bs Q := by
  intro m
  induction m with
  | zero =>
    intro l i hl hi T hq
    obtain ⟨x, hO, hx⟩ := T l (Nat.le_refl _) (by omega) (Or.inl rfl)
    by_cases hh : hs key = true ∧ (l = 4 ∨ ct hs (l + 1) (btN key (l + 1)) ≤ 1)
    · obtain ⟨j, h2, h3, -⟩ := hx.here (by omega) hk hh.1 hh.2
      refine wp_iload_n (i := 3) dX2_holderOf_19 rfl rfl ?_
      refine wp_iconst (nI 5) dX2_holderOf_20 (by decide) ?_
      refine wp_icmp_geN 58 dX2_holderOf_21 (by decide) (by omega) (by decide) (fun c_21 => absurd c_21 (by omega)) (fun c_21 => ?_)
      refine wp_aload_n (i := 2) dX2_holderOf_24 rfl rfl ?_
      refine wp_ifnull 58 dX2_holderOf_25 (by decide) (fun c_25 => absurd c_25 (fun z => nomatch z)) (fun a_25 c_25 => ?_)
      refine wp_aload_n (i := 2) dX2_holderOf_28 rfl rfl ?_
      refine wp_iload_n (i := 1) dX2_holderOf_29 rfl rfl ?_
      refine wp_cV (y' := m_X3_slotOf) 5 [vi (nI key)] [] 0 0 dX2_holderOf_30 ml_X2_9 im_X3_slotOf se_X3_slotOf (by decide) hO.k0 ok_X3_slotOf rfl (Nat.le_of_ble_eq_true rfl) rfl (Nat.le_of_ble_eq_true rfl) (d' := d - 1) (by omega) (Nat.zero_le _) (Nat.zero_le _) (c_X3_slotOf hO hx.wf (by omega) (by omega) (cont_ret ?_))
      rw [h3]
      refine wp_iconst (-1) dX2_holderOf_33 (by decide) ?_
      refine wp_icmp_eq 39 dX2_holderOf_34 (by decide) (fun c_34 => absurd c_34 (nI_m1 (by omega))) (fun c_34 => ?_)
      refine wp_aload_n (i := 2) dX2_holderOf_37 rfl rfl ?_
      refine wp_areturn dX2_holderOf_38 rfl (Or.inl ⟨_, rfl⟩) ?_
      rw [if_pos hh.1] at hq
      exact hq
    · have hc : hs key = false ∨ (l < 4 ∧ 1 < ct hs (l + 1) (btN key (l + 1))) := by
        cases e : hs key with
        | false => exact Or.inl rfl
        | true =>
          by_cases q : l = 4
          · exact absurd ⟨e, Or.inl q⟩ hh
          · by_cases q2 : ct hs (l + 1) (btN key (l + 1)) ≤ 1
            · exact absurd ⟨e, Or.inr q2⟩ hh
            · exact Or.inr ⟨by omega, by omega⟩
      obtain ⟨h3, h4⟩ := hx.away (by omega) hk hc
      have hf : hs key = false := hc.resolve_right (fun z => by omega)
      rw [if_neg (by rw [hf]; decide)] at hq
      rw [if_neg (fun z => by omega)] at h4
      refine wp_iload_n (i := 3) dX2_holderOf_19 rfl rfl ?_
      refine wp_iconst (nI 5) dX2_holderOf_20 (by decide) ?_
      refine wp_icmp_geN 58 dX2_holderOf_21 (by decide) (by omega) (by decide) (fun c_21 => absurd c_21 (by omega)) (fun c_21 => ?_)
      refine wp_aload_n (i := 2) dX2_holderOf_24 rfl rfl ?_
      refine wp_ifnull 58 dX2_holderOf_25 (by decide) (fun c_25 => absurd c_25 (fun z => nomatch z)) (fun a_25 c_25 => ?_)
      refine wp_aload_n (i := 2) dX2_holderOf_28 rfl rfl ?_
      refine wp_iload_n (i := 1) dX2_holderOf_29 rfl rfl ?_
      refine wp_cV (y' := m_X3_slotOf) 5 [vi (nI key)] [] 0 0 dX2_holderOf_30 ml_X2_9 im_X3_slotOf se_X3_slotOf (by decide) hO.k0 ok_X3_slotOf rfl (Nat.le_of_ble_eq_true rfl) rfl (Nat.le_of_ble_eq_true rfl) (d' := d - 1) (by omega) (Nat.zero_le _) (Nat.zero_le _) (c_X3_slotOf hO hx.wf (by omega) (by omega) (cont_ret ?_))
      rw [h3]
      refine wp_iconst (-1) dX2_holderOf_33 (by decide) ?_
      refine wp_icmp_eq 39 dX2_holderOf_34 (by decide) (fun c_34 => ?_) (fun c_34 => absurd c_34 (fun z => z rfl))
      refine wp_aload_n (i := 2) dX2_holderOf_39 rfl rfl ?_
      refine wp_iload_n (i := 1) dX2_holderOf_40 rfl rfl ?_
      refine wp_aload_n (i := 2) dX2_holderOf_41 rfl rfl ?_
      refine wp_get 5 0 (vi (nI l)) dX2_holderOf_42 hO.k0 (by decide) (by decide) fl_X2_15 (congrArg (fun z => toV (vi z)) (hO.f_lev.trans (congrArg nI hx.lev))) ?_
      refine wp_cS (y' := m_X2_placeOf) [vi (nI key), vi (nI l)] [vr (some (nm 45 (mn (sltN key l))))] 0 0 dX2_holderOf_45 ml_X2_19 st_X2_placeOf ok_X2_placeOf rfl (Nat.le_of_ble_eq_true rfl) rfl (Nat.le_of_ble_eq_true rfl) (d' := d - 1) (by omega) (Nat.zero_le _) (Nat.zero_le _) (c_X2_placeOf (by omega) (by omega) (cont_ret ?_))
      refine wp_cV (y' := m_X3_childAt) 5 [vi (nI (plN key l))] [] 0 0 dX2_holderOf_48 ml_X2_25 im_X3_childAt se_X3_childAt (by decide) hO.k0 ok_X3_childAt rfl (Nat.le_of_ble_eq_true rfl) rfl (Nat.le_of_ble_eq_true rfl) (d' := d - 1) (by omega) (Nat.zero_le _) (Nat.zero_le _) (c_X3_childAt hO hx.wf.2.2.1 (by have := plN_lt (k := key) (l := l); omega) (cont_ret ?_))
      rw [h4]
      refine wp_astore_n (i := 2) (lv' := [(2, vr none), (3, vi (nI i)), (1, vi (nI key))]) dX2_holderOf_51 rfl (by decide) rfl ?_
      refine wp_iincN (a := i) (lv' := [(3, vi (nI (i + 1))), (2, vr none), (1, vi (nI key))]) 1 dX2_holderOf_52 rfl (by decide) (by decide) rfl ?_
      refine wp_goto 19 dX2_holderOf_55 (by decide) ?_
      refine wp_sub [(3, vi (nI (i + 1))), (2, vr none), (1, vi (nI key))] (sb_cons (.head _) (sb_cons (.tail _ (.head _)) (sb_cons (.tail _ (.tail _ (.head _))) sb_nil))) ?_
      exact l_X2_holdNull (by omega) hq
  | succ m ih =>
    intro l i hl hi T hq
    obtain ⟨x, hO, hx⟩ := T l (Nat.le_refl _) (by omega) (Or.inl rfl)
    by_cases hh : hs key = true ∧ (l = 4 ∨ ct hs (l + 1) (btN key (l + 1)) ≤ 1)
    · obtain ⟨j, h2, h3, -⟩ := hx.here (by omega) hk hh.1 hh.2
      refine wp_iload_n (i := 3) dX2_holderOf_19 rfl rfl ?_
      refine wp_iconst (nI 5) dX2_holderOf_20 (by decide) ?_
      refine wp_icmp_geN 58 dX2_holderOf_21 (by decide) (by omega) (by decide) (fun c_21 => absurd c_21 (by omega)) (fun c_21 => ?_)
      refine wp_aload_n (i := 2) dX2_holderOf_24 rfl rfl ?_
      refine wp_ifnull 58 dX2_holderOf_25 (by decide) (fun c_25 => absurd c_25 (fun z => nomatch z)) (fun a_25 c_25 => ?_)
      refine wp_aload_n (i := 2) dX2_holderOf_28 rfl rfl ?_
      refine wp_iload_n (i := 1) dX2_holderOf_29 rfl rfl ?_
      refine wp_cV (y' := m_X3_slotOf) 5 [vi (nI key)] [] 0 0 dX2_holderOf_30 ml_X2_9 im_X3_slotOf se_X3_slotOf (by decide) hO.k0 ok_X3_slotOf rfl (Nat.le_of_ble_eq_true rfl) rfl (Nat.le_of_ble_eq_true rfl) (d' := d - 1) (by omega) (Nat.zero_le _) (Nat.zero_le _) (c_X3_slotOf hO hx.wf (by omega) (by omega) (cont_ret ?_))
      rw [h3]
      refine wp_iconst (-1) dX2_holderOf_33 (by decide) ?_
      refine wp_icmp_eq 39 dX2_holderOf_34 (by decide) (fun c_34 => absurd c_34 (nI_m1 (by omega))) (fun c_34 => ?_)
      refine wp_aload_n (i := 2) dX2_holderOf_37 rfl rfl ?_
      refine wp_areturn dX2_holderOf_38 rfl (Or.inl ⟨_, rfl⟩) ?_
      rw [if_pos hh.1] at hq
      rw [hlF, if_neg (fun z => hh.2.elim (fun y => by omega) (fun y => by omega))] at hq
      exact hq
    · have hc : hs key = false ∨ (l < 4 ∧ 1 < ct hs (l + 1) (btN key (l + 1))) := by
        cases e : hs key with
        | false => exact Or.inl rfl
        | true =>
          by_cases q : l = 4
          · exact absurd ⟨e, Or.inl q⟩ hh
          · by_cases q2 : ct hs (l + 1) (btN key (l + 1)) ≤ 1
            · exact absurd ⟨e, Or.inr q2⟩ hh
            · exact Or.inr ⟨by omega, by omega⟩
      obtain ⟨h3, h4⟩ := hx.away (by omega) hk hc
      by_cases hg : l < 4 ∧ 1 < ct hs (l + 1) (btN key (l + 1))
      · refine wp_iload_n (i := 3) dX2_holderOf_19 rfl rfl ?_
        refine wp_iconst (nI 5) dX2_holderOf_20 (by decide) ?_
        refine wp_icmp_geN 58 dX2_holderOf_21 (by decide) (by omega) (by decide) (fun c_21 => absurd c_21 (by omega)) (fun c_21 => ?_)
        refine wp_aload_n (i := 2) dX2_holderOf_24 rfl rfl ?_
        refine wp_ifnull 58 dX2_holderOf_25 (by decide) (fun c_25 => absurd c_25 (fun z => nomatch z)) (fun a_25 c_25 => ?_)
        refine wp_aload_n (i := 2) dX2_holderOf_28 rfl rfl ?_
        refine wp_iload_n (i := 1) dX2_holderOf_29 rfl rfl ?_
        refine wp_cV (y' := m_X3_slotOf) 5 [vi (nI key)] [] 0 0 dX2_holderOf_30 ml_X2_9 im_X3_slotOf se_X3_slotOf (by decide) hO.k0 ok_X3_slotOf rfl (Nat.le_of_ble_eq_true rfl) rfl (Nat.le_of_ble_eq_true rfl) (d' := d - 1) (by omega) (Nat.zero_le _) (Nat.zero_le _) (c_X3_slotOf hO hx.wf (by omega) (by omega) (cont_ret ?_))
        rw [h3]
        refine wp_iconst (-1) dX2_holderOf_33 (by decide) ?_
        refine wp_icmp_eq 39 dX2_holderOf_34 (by decide) (fun c_34 => ?_) (fun c_34 => absurd c_34 (fun z => z rfl))
        refine wp_aload_n (i := 2) dX2_holderOf_39 rfl rfl ?_
        refine wp_iload_n (i := 1) dX2_holderOf_40 rfl rfl ?_
        refine wp_aload_n (i := 2) dX2_holderOf_41 rfl rfl ?_
        refine wp_get 5 0 (vi (nI l)) dX2_holderOf_42 hO.k0 (by decide) (by decide) fl_X2_15 (congrArg (fun z => toV (vi z)) (hO.f_lev.trans (congrArg nI hx.lev))) ?_
        refine wp_cS (y' := m_X2_placeOf) [vi (nI key), vi (nI l)] [vr (some (nm 45 (mn (sltN key l))))] 0 0 dX2_holderOf_45 ml_X2_19 st_X2_placeOf ok_X2_placeOf rfl (Nat.le_of_ble_eq_true rfl) rfl (Nat.le_of_ble_eq_true rfl) (d' := d - 1) (by omega) (Nat.zero_le _) (Nat.zero_le _) (c_X2_placeOf (by omega) (by omega) (cont_ret ?_))
        refine wp_cV (y' := m_X3_childAt) 5 [vi (nI (plN key l))] [] 0 0 dX2_holderOf_48 ml_X2_25 im_X3_childAt se_X3_childAt (by decide) hO.k0 ok_X3_childAt rfl (Nat.le_of_ble_eq_true rfl) rfl (Nat.le_of_ble_eq_true rfl) (d' := d - 1) (by omega) (Nat.zero_le _) (Nat.zero_le _) (c_X3_childAt hO hx.wf.2.2.1 (by have := plN_lt (k := key) (l := l); omega) (cont_ret ?_))
        rw [h4, if_pos hg]
        refine wp_astore_n (i := 2) (lv' := [(2, vr (some (nm 45 (mn (sltN key (l + 1)))))), (3, vi (nI i)), (1, vi (nI key))]) dX2_holderOf_51 rfl (by decide) rfl ?_
        refine wp_iincN (a := i) (lv' := [(3, vi (nI (i + 1))), (2, vr (some (nm 45 (mn (sltN key (l + 1)))))), (1, vi (nI key))]) 1 dX2_holderOf_52 rfl (by decide) (by decide) rfl ?_
        refine wp_goto 19 dX2_holderOf_55 (by decide) ?_
        refine wp_sub [(3, vi (nI (i + 1))), (2, vr (some (nm 45 (mn (sltN key (l + 1)))))), (1, vi (nI key))] (sb_cons (.head _) (sb_cons (.tail _ (.head _)) (sb_cons (.tail _ (.tail _ (.head _))) sb_nil))) ?_
        rw [hlF, if_pos hg] at hq
        exact ih (l + 1) (i + 1) (by omega) (by omega) (fun l1 a1 a2 a3 => T l1 (by omega) a2 (Or.inr (a3.elim (fun z => by rw [z]; exact hg.2) id))) hq
      · have hf : hs key = false := hc.resolve_right hg
        rw [if_neg (by rw [hf]; decide)] at hq
        refine wp_iload_n (i := 3) dX2_holderOf_19 rfl rfl ?_
        refine wp_iconst (nI 5) dX2_holderOf_20 (by decide) ?_
        refine wp_icmp_geN 58 dX2_holderOf_21 (by decide) (by omega) (by decide) (fun c_21 => absurd c_21 (by omega)) (fun c_21 => ?_)
        refine wp_aload_n (i := 2) dX2_holderOf_24 rfl rfl ?_
        refine wp_ifnull 58 dX2_holderOf_25 (by decide) (fun c_25 => absurd c_25 (fun z => nomatch z)) (fun a_25 c_25 => ?_)
        refine wp_aload_n (i := 2) dX2_holderOf_28 rfl rfl ?_
        refine wp_iload_n (i := 1) dX2_holderOf_29 rfl rfl ?_
        refine wp_cV (y' := m_X3_slotOf) 5 [vi (nI key)] [] 0 0 dX2_holderOf_30 ml_X2_9 im_X3_slotOf se_X3_slotOf (by decide) hO.k0 ok_X3_slotOf rfl (Nat.le_of_ble_eq_true rfl) rfl (Nat.le_of_ble_eq_true rfl) (d' := d - 1) (by omega) (Nat.zero_le _) (Nat.zero_le _) (c_X3_slotOf hO hx.wf (by omega) (by omega) (cont_ret ?_))
        rw [h3]
        refine wp_iconst (-1) dX2_holderOf_33 (by decide) ?_
        refine wp_icmp_eq 39 dX2_holderOf_34 (by decide) (fun c_34 => ?_) (fun c_34 => absurd c_34 (fun z => z rfl))
        refine wp_aload_n (i := 2) dX2_holderOf_39 rfl rfl ?_
        refine wp_iload_n (i := 1) dX2_holderOf_40 rfl rfl ?_
        refine wp_aload_n (i := 2) dX2_holderOf_41 rfl rfl ?_
        refine wp_get 5 0 (vi (nI l)) dX2_holderOf_42 hO.k0 (by decide) (by decide) fl_X2_15 (congrArg (fun z => toV (vi z)) (hO.f_lev.trans (congrArg nI hx.lev))) ?_
        refine wp_cS (y' := m_X2_placeOf) [vi (nI key), vi (nI l)] [vr (some (nm 45 (mn (sltN key l))))] 0 0 dX2_holderOf_45 ml_X2_19 st_X2_placeOf ok_X2_placeOf rfl (Nat.le_of_ble_eq_true rfl) rfl (Nat.le_of_ble_eq_true rfl) (d' := d - 1) (by omega) (Nat.zero_le _) (Nat.zero_le _) (c_X2_placeOf (by omega) (by omega) (cont_ret ?_))
        refine wp_cV (y' := m_X3_childAt) 5 [vi (nI (plN key l))] [] 0 0 dX2_holderOf_48 ml_X2_25 im_X3_childAt se_X3_childAt (by decide) hO.k0 ok_X3_childAt rfl (Nat.le_of_ble_eq_true rfl) rfl (Nat.le_of_ble_eq_true rfl) (d' := d - 1) (by omega) (Nat.zero_le _) (Nat.zero_le _) (c_X3_childAt hO hx.wf.2.2.1 (by have := plN_lt (k := key) (l := l); omega) (cont_ret ?_))
        rw [h4, if_neg hg]
        refine wp_astore_n (i := 2) (lv' := [(2, vr none), (3, vi (nI i)), (1, vi (nI key))]) dX2_holderOf_51 rfl (by decide) rfl ?_
        refine wp_iincN (a := i) (lv' := [(3, vi (nI (i + 1))), (2, vr none), (1, vi (nI key))]) 1 dX2_holderOf_52 rfl (by decide) (by decide) rfl ?_
        refine wp_goto 19 dX2_holderOf_55 (by decide) ?_
        refine wp_sub [(3, vi (nI (i + 1))), (2, vr none), (1, vi (nI key))] (sb_cons (.head _) (sb_cons (.tail _ (.head _)) (sb_cons (.tail _ (.tail _ (.head _))) sb_nil))) ?_
        exact l_X2_holdNull (by omega) hq
set_option maxRecDepth 100000 in
set_option maxHeartbeats 4000000 in
theorem c_X2_holderOf {G : GG} {d bc bs : Nat} {h : Hp} {Q : Pst} {M key : Nat} {hs : Nat → Bool} {of : Nat → Int32} {mn : Nat → Nat} {l : Nat} (hl : l ≤ 4) (hk : key < 1000) (T : MTp h M hs of mn key l) (hd : 5 ≤ d) (hq : Q (oRet (vr (if hs key = true then some (nm 45 (mn (sltN key (hlF hs key (4 - l) l)))) else none))) h) : WP G m_X2_holderOf d 0 (aargs 0 [vr (some (nm 45 (mn (sltN key l)))), vi (nI key)]) [] h bc bs Q := by
  refine wp_sub [(0, vr (some (nm 45 (mn (sltN key l))))), (1, vi (nI key))] (fun _ hz => hz) ?_
  refine wp_iload_n (i := 1) dX2_holderOf_0 rfl rfl ?_
  refine wp_if_ltN 11 dX2_holderOf_1 (by decide) (by omega) (fun c_1 => absurd c_1 (id)) (fun c_1 => ?_)
  refine wp_iload_n (i := 1) dX2_holderOf_4 rfl rfl ?_
  refine wp_sipush (nI 999) dX2_holderOf_5 (by decide) ?_
  refine wp_icmp_leN 15 dX2_holderOf_8 (by decide) (by omega) (by decide) (fun c_8 => ?_) (fun c_8 => absurd c_8 (by omega))
  refine wp_aload_n (i := 0) dX2_holderOf_15 rfl rfl ?_
  refine wp_astore_n (i := 2) (lv' := [(2, vr (some (nm 45 (mn (sltN key l))))), (0, vr (some (nm 45 (mn (sltN key l))))), (1, vi (nI key))]) dX2_holderOf_16 rfl (by decide) rfl ?_
  refine wp_iconst (nI 0) dX2_holderOf_17 (by decide) ?_
  refine wp_istore_n (i := 3) (lv' := [(3, vi (nI 0)), (2, vr (some (nm 45 (mn (sltN key l))))), (0, vr (some (nm 45 (mn (sltN key l))))), (1, vi (nI key))]) dX2_holderOf_18 rfl (by decide) rfl ?_
  refine wp_sub [(3, vi (nI 0)), (2, vr (some (nm 45 (mn (sltN key l))))), (1, vi (nI key))] (sb_cons (.head _) (sb_cons (.tail _ (.head _)) (sb_cons (.tail _ (.tail _ (.tail _ (.head _)))) sb_nil))) ?_
  exact l_X2_holderOf hk hd (4 - l) l 0 (by omega) (Nat.zero_le _) T hq
theorem ix1000 {u : Int32} (h : ixB u 1000 = false) (h0 : ¬ u < 0) : ¬ u ≤ nI 999 := fun z => by
  obtain ⟨k, hk, rfl⟩ := nI_of h0
  rw [i32_le, nI_toInt hk, nI_toInt (by decide)] at z
  rw [ixB_of (by omega) (by decide)] at h; cases h
set_option maxRecDepth 100000 in
set_option maxHeartbeats 4000000 in
theorem l_X2_holdNull2 {G : GG} {d bc bs : Nat} {h : Hp} {Q : Pst} {i : Nat} {u : Int32} (hi : i ≤ 5) (hq : Q (oRet (vr none)) h) : WP G m_X2_holderOf d 19 [(3, vi (nI i)), (2, vr none), (1, vi u)] [] h bc bs Q := by
  refine wp_iload_n (i := 3) dX2_holderOf_19 rfl rfl ?_
  refine wp_iconst (nI 5) dX2_holderOf_20 (by decide) ?_
  refine wp_icmp_geN 58 dX2_holderOf_21 (by decide) (by omega) (by decide) (fun c_21 => ?_) (fun c_21 => ?_)
  · skip
    refine wp_null dX2_holderOf_58 ?_
    refine wp_areturn dX2_holderOf_59 rfl (Or.inl ⟨_, rfl⟩) ?_
    exact hq
  · skip
    refine wp_aload_n (i := 2) dX2_holderOf_24 rfl rfl ?_
    refine wp_ifnull 58 dX2_holderOf_25 (by decide) (fun c_25 => ?_) (fun a_25 c_25 => absurd c_25 (fun z => nomatch z))
    refine wp_null dX2_holderOf_58 ?_
    refine wp_areturn dX2_holderOf_59 rfl (Or.inl ⟨_, rfl⟩) ?_
    exact hq
set_option maxRecDepth 100000 in
set_option maxHeartbeats 4000000 in
theorem c_X2_holderNo {G : GG} {d bc bs : Nat} {h : Hp} {Q : Pst} {u : Int32} {r : Option Nat} (hu : ixB u 1000 = false) (hq : Q (oRet (vr none)) h) : WP G m_X2_holderOf d 0 (aargs 0 [vr r, vi u]) [] h bc bs Q := by
  refine wp_sub [(0, vr r), (1, vi u)] (fun _ hz => hz) ?_
  refine wp_iload_n (i := 1) dX2_holderOf_0 rfl rfl ?_
  refine wp_if_lt 11 dX2_holderOf_1 (by decide) (fun c_1 => ?_) (fun c_1 => ?_)
  · skip
    refine wp_null dX2_holderOf_11 ?_
    refine wp_goto 16 dX2_holderOf_12 (by decide) ?_
    refine wp_astore_n (i := 2) (lv' := [(2, vr none), (0, vr r), (1, vi u)]) dX2_holderOf_16 rfl (by decide) rfl ?_
    refine wp_iconst (nI 0) dX2_holderOf_17 (by decide) ?_
    refine wp_istore_n (i := 3) (lv' := [(3, vi (nI 0)), (2, vr none), (0, vr r), (1, vi u)]) dX2_holderOf_18 rfl (by decide) rfl ?_
    refine wp_sub [(3, vi (nI 0)), (2, vr none), (1, vi u)] (sb_cons (.head _) (sb_cons (.tail _ (.head _)) (sb_cons (.tail _ (.tail _ (.tail _ (.head _)))) sb_nil))) ?_
    exact l_X2_holdNull2 (by omega) hq
  · skip
    refine wp_iload_n (i := 1) dX2_holderOf_4 rfl rfl ?_
    refine wp_sipush (nI 999) dX2_holderOf_5 (by decide) ?_
    refine wp_icmp_le 15 dX2_holderOf_8 (by decide) (fun c_8 => absurd c_8 (ix1000 hu c_1)) (fun c_8 => ?_)
    refine wp_null dX2_holderOf_11 ?_
    refine wp_goto 16 dX2_holderOf_12 (by decide) ?_
    refine wp_astore_n (i := 2) (lv' := [(2, vr none), (0, vr r), (1, vi u)]) dX2_holderOf_16 rfl (by decide) rfl ?_
    refine wp_iconst (nI 0) dX2_holderOf_17 (by decide) ?_
    refine wp_istore_n (i := 3) (lv' := [(3, vi (nI 0)), (2, vr none), (0, vr r), (1, vi u)]) dX2_holderOf_18 rfl (by decide) rfl ?_
    refine wp_sub [(3, vi (nI 0)), (2, vr none), (1, vi u)] (sb_cons (.head _) (sb_cons (.tail _ (.head _)) (sb_cons (.tail _ (.tail _ (.tail _ (.head _)))) sb_nil))) ?_
    exact l_X2_holdNull2 (by omega) hq
