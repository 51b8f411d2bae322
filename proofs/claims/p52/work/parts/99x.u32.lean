/-! The class: a map is kept; its rows. -/
/-- a map more is kept -/
theorem CV.mapEnd {h h3 h4 : Hp} {S S' : SV} {M K a b z : Nat} {L : Nat → Nat} {f g : Nat → Int32} (hC : CV h S M) (hn : sNv S' = sNv S + 1) (ht : sTy S' (sNv S) = 109) (hz : sSz S' (sNv S) = z) (hv : ∀ v, v < sNv S → vp S' v = vp S v) (hc : sMd S ≤ sMd S') (fK : FreeI h 43 K) (F3 : Fr h h3 (fun b => VX K (sMd S) (sMd S') b ∨ b = nm 42 (sNv S))) (Ra : PRr h3 (nm 43 a) z f) (Rb : PRr h3 (nm 43 b) z g) (P : PLs (hsv S' (sNv S)) (ofv S' (sNv S)) z L f g)
    (T : MTf h3 M (hsv S' (sNv S)) (ofv S' (sNv S)) (mnv S' (sNv S))) (hM : MKR h3 (sMd S')) (C4 : CVh h4 (sNv S + 1) M) (K4 : KU h4 (sNv S) (2, some (nm 45 (mnv S' (sNv S) 0)), z, some (nm 43 a), some (nm 43 b))) (G4 : ∀ b, b ≠ nm 40 0 → b ≠ nm 40 1 → b ≠ nm 42 (sNv S) → ce h4 b = ce h3 b) (V4 : FRV h3 h4) : CV h4 S' M ∧ FRV h h4 := by
  have g45 : ∀ r i, 43 ≤ r → r ≤ 48 → ce h4 (nm r i) = ce h3 (nm r i) := fun r i r1 r2 => G4 _ (by unfold nm; omega) (by unfold nm; omega) (by unfold nm; omega)
  have ty : p_ty (vp S' (sNv S)) = 109 := ht
  have sz : p_sz (vp S' (sNv S)) = z := hz
  refine ⟨hC.addF hn hc hv C4 (hM.frm (G4 _ (by unfold nm; omega) (by unfold nm; omega) (by unfold nm; omega))) ⟨_, K4, sz.symm, Or.inr (Or.inr (Or.inr ⟨ty, rfl, rfl, a, b, L, f, g, rfl, rfl, ?_, ?_, ?_⟩))⟩ ⟨fun q => absurd q (by unfold pvec; rw [ty]; decide), fun _ => ?_⟩ (fun b hb => ?_) fK, (FRV.of F3 (fun a ha => by unfold VX VN nm at ha; unfold nm; omega)).tr V4⟩
  · rw [sz]; exact Ra.frm (g45 _ _ (by decide) (by decide))
  · rw [sz]; exact Rb.frm (g45 _ _ (by decide) (by decide))
  · rw [sz]; exact P
  · exact T.frm (fun l b r _ _ _ r1 r2 => g45 r _ (by omega) r2)
  · exact (G4 b (fun z => hb (Or.inl z)) (fun z => hb (Or.inr (Or.inl z))) (fun z => hb (Or.inr (Or.inr (Or.inr (Or.inl z)))))).trans (F3 b (fun z => z.elim (fun z => hb z.w) (fun z => hb (Or.inr (Or.inr (Or.inr (Or.inl z)))))))
/-- the rows, a key put in -/
theorem PLs.new {hs : Nat → Bool} {of : Nat → Int32} {n key : Nat} {L : Nat → Nat} {f g : Nat → Int32} {e : Int32} (H : PLs hs of n L f g) (hk : key < 1000) (hh : hs key = false) : PLs (va_up hs key true) (va_up of key e) (n + 1) (va_up L n key) (va_up f n (nI key)) (va_up g n e) := by
  obtain ⟨h1, h2, h3⟩ := H
  have ne : ∀ i, i < n → L i ≠ key := fun i hi z => by
    have := (h1 i hi).2.1
    rw [z, hh] at this; cases this
  refine ⟨fun i hi => ?_, fun i j hi hj => ?_, fun k k1 k2 => ?_⟩
  · simp only [va_up_app]
    by_cases z : i = n
    · rw [if_pos z, if_pos z, if_pos z, if_pos rfl, if_pos rfl]; exact ⟨hk, rfl, rfl, rfl⟩
    · rw [if_neg z, if_neg z, if_neg z, if_neg (ne i (by omega)), if_neg (ne i (by omega))]; exact h1 i (by omega)
  · simp only [va_up_app]
    by_cases z : i = n <;> by_cases y : j = n
    · intro _; omega
    · rw [if_pos z, if_neg y]; exact fun q => absurd q.symm (ne j (by omega))
    · rw [if_neg z, if_pos y]; exact fun q => absurd q (ne i (by omega))
    · rw [if_neg z, if_neg y]; exact h2 i j (by omega) (by omega)
  · rw [va_up_app] at k2
    by_cases z : k = key
    · exact ⟨n, by omega, by rw [va_up_self, z]⟩
    · rw [if_neg z] at k2
      obtain ⟨i, i1, i2⟩ := h3 k k1 k2
      exact ⟨i, by omega, by rw [va_ne (by omega)]; exact i2⟩
theorem PLs.old {hs : Nat → Bool} {of : Nat → Int32} {n key s : Nat} {L : Nat → Nat} {f g : Nat → Int32} {e : Int32} (H : PLs hs of n L f g) (hs1 : s < n) (hL : L s = key) : PLs (va_up hs key true) (va_up of key e) n L (va_up f s (nI key)) (va_up g s e) := by
  obtain ⟨h1, h2, h3⟩ := H
  have a := h1 s hs1
  rw [hL] at a
  refine ⟨fun i hi => ?_, h2, fun k k1 k2 => ?_⟩
  · simp only [va_up_app]
    by_cases z : i = s
    · rw [if_pos z, if_pos z, z, hL, if_pos rfl, if_pos rfl]; exact ⟨a.1, rfl, rfl, rfl⟩
    · have : L i ≠ key := fun q => z (h2 i s hi hs1 (q.trans hL.symm))
      rw [if_neg z, if_neg z, if_neg this, if_neg this]; exact h1 i hi
  · rw [va_up_app] at k2
    by_cases z : k = key
    · exact ⟨s, hs1, hL.trans z.symm⟩
    · rw [if_neg z] at k2; exact h3 k k1 k2
theorem PLs.same {hs hs' : Nat → Bool} {of of' : Nat → Int32} {n : Nat} {L : Nat → Nat} {f g : Nat → Int32} (H : PLs hs of n L f g) (e1 : ∀ k, hs' k = hs k) (e2 : ∀ k, of' k = of k) : PLs hs' of' n L f g := by
  rw [show hs' = hs from funext e1, show of' = of from funext e2]; exact H
theorem PLs.del {hs : Nat → Bool} {of : Nat → Int32} {n key s : Nat} {L : Nat → Nat} {f g : Nat → Int32} (H : PLs hs of n L f g) (hs1 : s < n) (hL : L s = key) : PLs (va_up hs key false) (va_up of key (nI 0)) (n - 1) (fun j => if j < s then L j else L (j + 1)) (fun j => if j < s then f j else f (j + 1)) (fun j => if j < s then g j else g (j + 1)) := by
  obtain ⟨h1, h2, h3⟩ := H
  have key1 : ∀ i, i < n → i ≠ s → L i < 1000 ∧ va_up hs key false (L i) = true ∧ f i = nI (L i) ∧ g i = va_up of key (nI 0) (L i) := fun i hi hne => by
    have : L i ≠ key := fun q => hne (h2 i s hi hs1 (q.trans hL.symm))
    rw [va_ne this, va_ne this]; exact h1 i hi
  refine ⟨fun i hi => ?_, fun i j hi hj => ?_, fun k k1 k2 => ?_⟩
  · by_cases z : i < s
    · simp only [if_pos z]; exact key1 i (by omega) (by omega)
    · simp only [if_neg z]; exact key1 (i + 1) (by omega) (by omega)
  · by_cases z : i < s <;> by_cases y : j < s
    · simp only [if_pos z, if_pos y]; exact h2 i j (by omega) (by omega)
    · simp only [if_pos z, if_neg y]; exact fun q => by have := h2 i (j + 1) (by omega) (by omega) q; omega
    · simp only [if_neg z, if_pos y]; exact fun q => by have := h2 (i + 1) j (by omega) (by omega) q; omega
    · simp only [if_neg z, if_neg y]; exact fun q => by have := h2 (i + 1) (j + 1) (by omega) (by omega) q; omega
  · rw [va_up_app] at k2
    by_cases z : k = key
    · rw [if_pos z] at k2; cases k2
    · rw [if_neg z] at k2
      obtain ⟨i, i1, i2⟩ := h3 k k1 k2
      have : i ≠ s := fun q => z (by rw [← i2, q, hL])
      by_cases y : i < s
      · exact ⟨i, by omega, by simp only [if_pos y]; exact i2⟩
      · exact ⟨i - 1, by omega, by
          show (if i - 1 < s then L (i - 1) else L (i - 1 + 1)) = k
          rw [if_neg (by omega), show i - 1 + 1 = i by omega]; exact i2⟩
section MST
variable {G : GG} {d bc bs : Nat} {h h2 : Hp} {Q : Pst} {S S' : SV} {M k : Nat}
theorem ct_top {hs : Nat → Bool} {key : Nat} : ct hs 4 (btN key 4) ≤ ct hs 0 0 := by
  have := ct_dn3 (hs := hs) (key := key) (show 0 ≤ 4 by decide)
  rwa [btN_0] at this
theorem c_pairN (hC : CV h S M) (hk : k < sNv S) (ht : sTy S k = 109) (hr : sMd S < 700000) {key z : Nat} {e : Int32} (hkey : key < 1000) (N : MNF S S' k key z (va_up (hsv S k) key true) (va_up (ofv S k) key e)) (h40 : ct (va_up (hsv S k) key true) 0 0 ≤ 40) (G2 : ∀ r i, (45 ≤ r ∧ r ≤ 48) ∨ (r = 40 ∧ i = 2) → ce h2 (nm r i) = ce h (nm r i)) (hd : 9 ≤ d) (hbc : 20 ≤ bc) (hbs : 460 ≤ bs)
    (hq : ∀ h3, MTf h3 M (hsv S' (sNv S)) (ofv S' (sNv S)) (mnv S' (sNv S)) → MKR h3 (sMd S') → Fr h2 h3 (VN (sMd S) (sMd S')) → Q (oRet (vr (some (nm 45 (mnv S' (sNv S) 0))))) h3) : WP G m_X2_withPair d 0 (aargs 0 [vr (some (nm 40 2)), vr (some (nm 45 (mnv S k 0))), vi (nI key), vi e]) [] h2 bc bs Q := by
  have e2 : ∀ r i, 45 ≤ r → r ≤ 48 → ce h2 (nm r i) = ce h (nm r i) := fun r i r1 r2 => G2 r i (Or.inl ⟨r1, r2⟩)
  have hT := ((hC.2.2.1 k hk).2.2 ht).frm (fun l b r _ _ _ r1 r2 => e2 r _ r1 r2)
  obtain ⟨⟨-, -, -, a4, a5, -⟩, b1, b2, b3, b4, -⟩ := N
  refine c_X2_withPair (mn' := mnv S' (sNv S)) (c := sMd S) hT hkey b1 (fun i hi hp => (hC.2.2.2.2.2.1 _ (b2 i hi hp).1).frm (fun r r1 r2 => e2 r _ r1 r2)) b3 (hC.2.1.frm (G2 40 2 (Or.inr ⟨rfl, rfl⟩))) hr (Nat.le_trans ct_top h40) hd hbc hbs (fun h3 T3 M3 F3 => hq h3 (by rw [a4, a5]; exact T3) (by rw [b4]; exact M3) (fun b hb => F3 b (fun z => hb (z.elim Or.inl (fun ⟨i, i1, i2, i3, q⟩ => Or.inr (by have := b2 i i2 i3; unfold CNo at q; omega))))))
theorem c_lessK (hC : CV h S M) (hk : k < sNv S) (ht : sTy S k = 109) (hr : sMd S < 700000) {key z : Nat} (hkey : key < 1000) (hh : hsv S k key = true) (N : MNF S S' k key z (va_up (hsv S k) key false) (va_up (ofv S k) key (nI 0))) (hd : 10 ≤ d) (hbc : 20 ≤ bc) (hbs : 460 ≤ bs)
    (hq : ∀ h3, MTf h3 M (hsv S' (sNv S)) (ofv S' (sNv S)) (mnv S' (sNv S)) → MKR h3 (sMd S') → Fr h h3 (VN (sMd S) (sMd S')) → Q (oRet (vr (some (nm 45 (mnv S' (sNv S) 0))))) h3) : WP G m_X2_withoutKey d 0 (aargs 0 [vr (some (nm 40 2)), vr (some (nm 45 (mnv S k 0))), vi (nI key)]) [] h bc bs Q := by
  have hT := (hC.2.2.1 k hk).2.2 ht
  obtain ⟨⟨-, -, -, a4, a5, -⟩, b1, b2, b3, b4, -⟩ := N
  refine c_X2_withoutKey (mn' := mnv S' (sNv S)) (c := sMd S) hT hkey hh b1 (fun i hi hp => hC.2.2.2.2.2.1 _ (b2 i hi hp).1) b3 hC.2.1 hr hd hbc hbs (fun h3 T3 M3 F3 => hq h3 (by rw [a4, a5]; exact T3) (by rw [b4]; exact M3) (fun b hb => F3 b (fun z => hb (z.elim Or.inl (fun ⟨i, i1, i2, i3, q⟩ => Or.inr (by have := b2 i i2 i3; unfold CNo at q; omega))))))
end MST
theorem MNF.le {S S' : SV} {k key z : Nat} {hs' : Nat → Bool} {of' : Nat → Int32} (N : MNF S S' k key z hs' of') : sMd S ≤ sMd S' := by rw [N.2.2.2.2.1]; omega
