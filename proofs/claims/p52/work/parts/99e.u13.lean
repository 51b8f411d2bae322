/-! The class: maps, a key put in: what the nodes hold then. -/
theorem ct_pk {hs : Nat → Bool} {key L B : Nat} (hk : key < 1000) : ct (va_up hs key true) L B = ct hs L B + if btN key L = B then (if hs key = true then 0 else 1) else 0 := by
  cases e : hs key with
  | true =>
    rw [up_same e]
    by_cases q : btN key L = B
    · rw [if_pos q, if_pos rfl, Nat.add_zero]
    · rw [if_neg q, Nat.add_zero]
  | false =>
    rw [ct_up1 hk e]
    by_cases q : btN key L = B
    · rw [if_pos q, if_pos q, if_neg (show ¬ false = true by decide)]
    · rw [if_neg q, if_neg q]
theorem va_ne {α : Type} {f : Nat → α} {a b : Nat} {v : α} (h : b ≠ a) : va_up f a v b = f b := va_up_ne _ _ h
section PUT
variable {hs : Nat → Bool} {of : Nat → Int32} {mn mn' : Nat → Nat} {key l : Nat} {e : Int32} {t : Bool}
/-- another place holds what it held -/
theorem PLx.off {b q : Nat} {ky el : Int32} {bl : Option Nat} (H : PLx hs of mn l b q ky el bl) (hb : b < 2 ^ (2 * l)) (hl : l < 4) (hq : q < 4) (hne : ¬ btN key (l + 1) = b + 2 ^ (2 * l) * q) (hmn : ∀ L B, L ≤ 4 → B < 2 ^ (2 * L) → B ≠ btN key L → mn' (lst L + B) = mn (lst L + B)) : PLx (va_up hs key t) (va_up of key e) mn' l b q ky el bl := by
  unfold PLx at H ⊢
  rw [ct_off hne]
  rcases H with z | ⟨z1, ⟨k, k1, k2, k3, k4, k5⟩, z3⟩ | ⟨z1, z2, z3, z4⟩
  · exact Or.inl z
  · have hkk : k ≠ key := fun q => hne (by rw [← q]; exact k3)
    exact Or.inr (Or.inl ⟨z1, ⟨k, k1, by rw [va_ne hkk]; exact k2, k3, k4, by rw [va_ne hkk]; exact k5⟩, z3⟩)
  · exact Or.inr (Or.inr ⟨z1, z2, z3, by rw [z4, hmn (l + 1) _ (by omega) (blk_lt hb hq) (fun q => hne q.symm)]⟩)
variable {M k : Nat} {x : KNS}
theorem MNk.put1 (H : MNk M k hs of mn l (btN key l) x) (hl : l < 4) (hk : key < 1000) (hmn : ∀ L B, L ≤ 4 → B < 2 ^ (2 * L) → B ≠ btN key L → mn' (lst L + B) = mn (lst L + B)) (h1 : ct (va_up hs key true) (l + 1) (btN key (l + 1)) = 1) (hbl : KN_bl x (plN key l) = none) {n : Nat} (hn : n = ct (va_up hs key true) l (btN key l)) : MNk M k (va_up hs key true) (va_up of key e) mn' l (btN key l) (KN_uel (KN_uky (KN_ukc x n) (plN key l) (nI key)) (plN key l) e) := by
  rcases H.2 with ⟨-, ⟨a1, a2, a3, a4, a5, a6, a7⟩, h3⟩ | ⟨h4, -⟩
  · refine ⟨H.1, Or.inl ⟨hl, ⟨a1, a2, hn, a4, a5, a6, fun _ _ => ⟨rfl, rfl, rfl⟩⟩, fun q hq => ?_⟩⟩
    show PLx _ _ mn' l _ q (va_up (KN_ky x) (plN key l) (nI key) q) (va_up (KN_el x) (plN key l) e q) (KN_bl x q)
    rw [va_up_app, va_up_app]
    by_cases z : q = plN key l
    · rw [if_pos z, if_pos z, z, hbl]
      refine Or.inr (Or.inl ⟨by rw [← btN_s]; exact h1, ⟨key, hk, va_up_self _ _ _, btN_s, rfl, (va_up_self _ _ _).symm⟩, rfl⟩)
    · rw [if_neg z, if_neg z]
      exact (h3 q hq).off (btN_lt key l) hl hq (fun y => z ((btN_i (btN_lt key l)).mp y).2.symm) hmn
  · omega
theorem MNk.put2 (H : MNk M k hs of mn l (btN key l) x) (hl : l < 4) (hmn : ∀ L B, L ≤ 4 → B < 2 ^ (2 * L) → B ≠ btN key L → mn' (lst L + B) = mn (lst L + B)) (h1 : 1 < ct (va_up hs key t) (l + 1) (btN key (l + 1))) {n : Nat} (hn : n = ct (va_up hs key t) l (btN key l)) : MNk M k (va_up hs key t) (va_up of key e) mn' l (btN key l) (KN_ubl (KN_uel (KN_uky (KN_ukc x n) (plN key l) (-1)) (plN key l) (nI 0)) (plN key l) (some (nm 45 (mn' (sltN key (l + 1)))))) := by
  rcases H.2 with ⟨-, ⟨a1, a2, a3, a4, a5, a6, a7⟩, h3⟩ | ⟨h4, -⟩
  · refine ⟨H.1, Or.inl ⟨hl, ⟨a1, a2, hn, a4, a5, a6, fun _ _ => ⟨rfl, rfl, rfl⟩⟩, fun q hq => ?_⟩⟩
    show PLx _ _ mn' l _ q (va_up (KN_ky x) (plN key l) (-1) q) (va_up (KN_el x) (plN key l) (nI 0) q) (va_up (KN_bl x) (plN key l) (some (nm 45 (mn' (sltN key (l + 1))))) q)
    rw [va_up_app, va_up_app, va_up_app]
    by_cases z : q = plN key l
    · rw [if_pos z, if_pos z, if_pos z, z]
      refine Or.inr (Or.inr ⟨by rw [← btN_s]; exact h1, rfl, rfl, by rw [← btN_s]; rfl⟩)
    · rw [if_neg z, if_neg z, if_neg z]
      exact (h3 q hq).off (btN_lt key l) hl hq (fun y => z ((btN_i (btN_lt key l)).mp y).2.symm) hmn
  · omega
theorem MNk.putR (H : MNk M k hs of mn 4 (btN key 4) x) (hk : key < 1000) {s n : Nat} (hs1 : hs key = true → s < ct hs 4 (btN key 4) ∧ KN_ky x s = nI key) (hs2 : hs key = false → s = ct hs 4 (btN key 4)) (hn : n = ct (va_up hs key true) 4 (btN key 4)) (hn40 : n ≤ 40) : MNk M k (va_up hs key true) (va_up of key e) mn' 4 (btN key 4) (KN_ukc (KN_uel (KN_uky x s (nI key)) s e) n) := by
  have hct := ct_pk (hs := hs) (L := 4) (B := btN key 4) hk
  rw [if_pos rfl] at hct
  rcases H.2 with ⟨h4, -⟩ | ⟨-, ⟨a1, a2, a3, a4, a5, a6, a7⟩, h3, L, g1, g2, g3, g4⟩
  · exact absurd h4 (by decide)
  · cases hh : hs key with
    | true =>
      obtain ⟨s1, s2⟩ := hs1 hh
      rw [hh, if_pos rfl, Nat.add_zero] at hct
      have eL : L s = key := nI_inj (g1 s s1).1 hk ((g1 s s1).2.2.2.1.symm.trans s2)
      have ekk : va_up hs key true = hs := up_same hh
      refine ⟨H.1, Or.inr ⟨rfl, ⟨a1, a2, hn, a4, a5, a6, fun _ _ => ⟨rfl, rfl⟩⟩, by rw [hct]; exact h3, L, ?_, by rw [hct]; exact g2, by rw [hct, ekk]; exact g3, ?_⟩⟩
      · intro i hi
        rw [hct] at hi
        obtain ⟨c1, c2, c3, c4, c5⟩ := g1 i hi
        refine ⟨c1, by rw [ekk]; exact c2, c3, ?_, ?_⟩
        · show va_up (KN_ky x) s (nI key) i = _
          rw [va_up_app]
          by_cases z : i = s
          · rw [if_pos z, z, eL]
          · rw [if_neg z]; exact c4
        · show va_up (KN_el x) s e i = va_up of key e (L i)
          rw [va_up_app, va_up_app]
          by_cases z : i = s
          · rw [if_pos z, z, if_pos eL]
          · rw [if_neg z, if_neg (fun y => z (g2 i s hi s1 (y.trans eL.symm)))]; exact c5
      · intro i hi h40
        rw [hct] at hi
        show va_up (KN_ky x) s (nI key) i = -1
        rw [va_up_app, if_neg (by omega)]; exact g4 i hi h40
    | false =>
      have s2 := hs2 hh
      rw [hh, if_neg (by decide)] at hct
      refine ⟨H.1, Or.inr ⟨rfl, ⟨a1, a2, hn, a4, a5, a6, fun _ _ => ⟨rfl, rfl⟩⟩, by omega, va_up L s key, ?_, ?_, ?_, ?_⟩⟩
      · intro i hi
        show va_up L s key i < 1000 ∧ va_up hs key true (va_up L s key i) = true ∧ btN (va_up L s key i) 4 = btN key 4 ∧ va_up (KN_ky x) s (nI key) i = nI (va_up L s key i) ∧ va_up (KN_el x) s e i = va_up of key e (va_up L s key i)
        by_cases z : i = s
        · subst z
          rw [va_up_self, va_up_self, va_up_self, va_up_self, va_up_self]
          exact ⟨hk, rfl, rfl, rfl, rfl⟩
        · obtain ⟨c1, c2, c3, c4, c5⟩ := g1 i (by omega)
          have hLk : L i ≠ key := fun y => by rw [← y, c2] at hh; cases hh
          rw [va_ne z, va_ne z, va_ne z, va_ne hLk, va_ne hLk]
          exact ⟨c1, c2, c3, c4, c5⟩
      · intro i j hi hj
        rw [va_up_app, va_up_app]
        by_cases z : i = s
        · rw [if_pos z]
          by_cases y : j = s
          · rw [z, y]; exact fun _ => rfl
          · rw [if_neg y]
            intro q
            obtain ⟨c1, c2, c3, c4, c5⟩ := g1 j (by omega)
            rw [← q, hh] at c2; cases c2
        · rw [if_neg z]
          by_cases y : j = s
          · rw [if_pos y]
            intro q
            obtain ⟨c1, c2, c3, c4, c5⟩ := g1 i (by omega)
            rw [q, hh] at c2; cases c2
          · rw [if_neg y]; exact g2 i j (by omega) (by omega)
      · intro j j1 j2 j3
        by_cases z : j = key
        · exact ⟨s, by omega, by rw [va_up_self, z]⟩
        · rw [va_ne z] at j2
          obtain ⟨i, i1, i2⟩ := g3 j j1 j2 j3
          exact ⟨i, by omega, by rw [va_ne (by omega)]; exact i2⟩
      · intro i hi h40
        show va_up (KN_ky x) s (nI key) i = -1
        rw [va_ne (by omega)]; exact g4 i (by omega) h40
end PUT
