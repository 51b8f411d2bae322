/-! Lists of rows of ints; lists of named objects; lists of small Integers. -/
/-- a is a row of the ints e, made for good -/
def PEr (h : Hp) (a : Nat) (e : List Int32) : Prop := (∃ k, a = nm 22 k) ∧ h_k h a = 101 ∧ h_n h a = e.length ∧ ∀ m, (hm : m < e.length) → h_I h a m = e[m]
/-- l is an ArrayList of such rows -/
def LRw (h : Hp) (l ρ i : Nat) (xs : List (List Int32)) : Prop := ∃ g D f, AL h l ρ i g xs.length D f ∧ ∀ j, (hj : j < xs.length) → PEr h (f j) xs[j]
theorem PEr.fr {h h' : Hp} {a : Nat} {e : List Int32} (H : PEr h a e) (hc : ce h' a = ce h a) : PEr h' a e :=
  ⟨H.1, (ce_k hc).trans H.2.1, (ce_n hc).trans H.2.2.1, fun m hm => by rw [ce_I hc]; exact H.2.2.2 m hm⟩
theorem PEr.z {h : Hp} {a : Nat} {e : List Int32} (H : PEr h a e) : h_k h a ≠ 0 := by rw [H.2.1]; decide
theorem AL.frm {h h' : Hp} {l ρ i g n D : Nat} {f : Nat → Nat} (A : AL h l ρ i g n D f) (h0 : ce h' 0 = ce h 0) (h1 : ce h' l = ce h l) (h2 : ∀ z, ce h' (nm ρ (16 * z + i)) = ce h (nm ρ (16 * z + i))) : AL h' l ρ i g n D f := by
  have hD : ce h' D = ce h D := by
    rcases A.2.1 with z | ⟨-, g0, -, e⟩
    · rw [z.1]; exact h0
    · rw [e]; exact h2 g0
  exact ⟨⟨(ce_k h1).trans A.k, by rw [ce_R h1]; exact A.d, by rw [ce_I h1]; exact A.s, (ce_k hD).trans A.dk, by rw [ce_n hD]; exact A.le, by rw [ce_n hD]; exact A.c, fun j hj => by rw [ce_R hD]; exact A.e j hj⟩, by rw [ce_n hD]; exact A.2.1, fun g' hg => (ce_k (h2 g')).trans (A.2.2 g' hg)⟩
theorem LRw.frm {h h' : Hp} {l ρ i : Nat} {xs : List (List Int32)} (H : LRw h l ρ i xs) (h0 : ce h' 0 = ce h 0) (h1 : ce h' l = ce h l) (h2 : ∀ z, ce h' (nm ρ (16 * z + i)) = ce h (nm ρ (16 * z + i))) (h3 : ∀ k, h_k h (nm 22 k) ≠ 0 → ce h' (nm 22 k) = ce h (nm 22 k)) : LRw h' l ρ i xs := by
  obtain ⟨g, D, f, A, hE⟩ := H
  refine ⟨g, D, f, A.frm h0 h1 h2, fun j hj => ?_⟩
  have := hE j hj
  obtain ⟨k, e⟩ := this.1
  exact this.fr (by rw [e]; exact h3 k (by rw [← e]; exact this.z))
theorem AL.nil {h : Hp} {l ρ i g : Nat} {f : Nat → Nat} (hk : h_k h l = 3) (hR : h_R h l 1 = some 0) (hs : h_I h l 2 = nI 0) (k0 : h_k h 0 = 118) (n0 : h_n h 0 = 0) (hf : ∀ g', g ≤ g' → h_k h (nm ρ (16 * g' + i)) = 0) : AL h l ρ i g 0 0 f :=
  ⟨⟨hk, hR, hs, k0, Nat.zero_le _, by rw [n0]; decide, fun j hj => absurd hj (Nat.not_lt_zero _)⟩, Or.inl ⟨rfl, n0⟩, hf⟩
theorem nm_ne {r s i j : Nat} (e : r ≠ s) (hr : r < 128) (hs : s < 128) : nm r i ≠ nm s j := by unfold nm; omega
theorem nm_nei {r i j : Nat} (e : i ≠ j) : nm r i ≠ nm r j := by unfold nm; omega
section LPC
variable {G : GG} {d bc bs : Nat} {h : Hp} {Q : Pst} {l ρ i : Nat} {xs : List (List Int32)}
theorem c_LP_size (H : LRw h l ρ i xs) (hq : Q (oRet (vi (nI xs.length))) h) : WP G m_Jx4a65c_size_8abf5 d 0 (aargs 0 [vr (some l)]) [] h bc bs Q :=
  H.elim fun _ z => z.elim fun _ z => z.elim fun _ z => c_AL_size z.1 hq
theorem c_LP_get (H : LRw h l ρ i xs) {j : Nat} (hj : j < xs.length) (hd : 3 ≤ d) (hq : ∀ a, PEr h a xs[j] → Q (oRet (vr (some a))) h) : WP G m_Jx4a65c_get_915e3 d 0 (aargs 0 [vr (some l), vi (nI j)]) [] h bc bs Q :=
  H.elim fun _ z => z.elim fun _ z => z.elim fun _ z => c_AL_get z.1 hj hd (hq _ (z.2 j hj))
theorem c_LP_add (H : LRw h l ρ i xs) {a : Nat} {e : List Int32} (E : PEr h a e) (hn : xs.length < 20000) (hρ : ρ ≠ 22) (hρ2 : ρ < 128) (hd : 7 ≤ d) (hbc : 1 ≤ bc) (hbs : 10 + 2 * xs.length ≤ bs) (hq : ∀ h', LRw h' l ρ i (xs ++ [e]) → (∀ b, b ≠ l → (∀ z, b ≠ nm ρ (16 * z + i)) → ce h' b = ce h b) → Q (oRet (vi (nI 1))) h') : WP G m_Jx4a65c_add_9ea2d d 0 (aargs 0 [vr (some l), vr (some a)]) [] h bc bs Q := by
  obtain ⟨g, D, f, A, hE⟩ := H
  have hpl : ∀ b e', PEr h b e' → b ≠ l := fun b e' z q => by have := z.2.1; rw [q, A.k] at this; cases this
  have hpg : ∀ b e', PEr h b e' → ∀ z, b ≠ nm ρ (16 * z + i) := fun b e' z y q => z.1.elim fun k hk => nm_ne (fun x => hρ x.symm) (by decide) hρ2 (hk.symm.trans q)
  refine c_AL_add A hn ⟨E.z, by rw [E.2.1]; decide⟩ (hpg _ _ E) (hpl _ _ E) hd hbc hbs (fun h' g' D' A' hF => hq h' ⟨g', D', va_up f xs.length a, ?_, fun j hj => ?_⟩ hF)
  · rw [List.length_append]; exact A'
  · rw [va_up_app]
    by_cases ej : j = xs.length
    · subst ej
      rw [if_pos rfl]
      have e1 : (xs ++ [e])[xs.length] = e := by rw [List.getElem_append_right (Nat.le_refl _)]; simp
      rw [e1]
      exact E.fr (hF a (hpl _ _ E) (hpg _ _ E))
    · have hj2 : j < xs.length := by rw [List.length_append] at hj; simp at hj; omega
      rw [if_neg ej, List.getElem_append_left hj2]
      have := hE j hj2
      exact this.fr (hF _ (hpl _ _ this) (hpg _ _ this))
theorem LRw.k {h : Hp} {l ρ i : Nat} {xs : List (List Int32)} (H : LRw h l ρ i xs) : h_k h l = 3 := H.elim fun _ z => z.elim fun _ z => z.elim fun _ z => z.1.k
end LPC
/-! lists of objects: the j-th has the name nm r j -/
def LOb (h : Hp) (l ρ i r n : Nat) : Prop := ∃ g D, AL h l ρ i g n D (fun j => nm r j)
theorem LOb.frm {h h' : Hp} {l ρ i r n : Nat} (H : LOb h l ρ i r n) (h0 : ce h' 0 = ce h 0) (h1 : ce h' l = ce h l) (h2 : ∀ z, ce h' (nm ρ (16 * z + i)) = ce h (nm ρ (16 * z + i))) : LOb h' l ρ i r n :=
  H.elim fun g z => z.elim fun D z => ⟨g, D, z.frm h0 h1 h2⟩
section LOC
variable {G : GG} {d bc bs : Nat} {h : Hp} {Q : Pst} {l ρ i r n : Nat}
theorem c_LO_size (H : LOb h l ρ i r n) (hq : Q (oRet (vi (nI n))) h) : WP G m_Jx4a65c_size_8abf5 d 0 (aargs 0 [vr (some l)]) [] h bc bs Q :=
  H.elim fun _ z => z.elim fun _ z => c_AL_size z hq
theorem c_LO_get (H : LOb h l ρ i r n) {j : Nat} (hj : j < n) (hd : 3 ≤ d) (hq : Q (oRet (vr (some (nm r j)))) h) : WP G m_Jx4a65c_get_915e3 d 0 (aargs 0 [vr (some l), vi (nI j)]) [] h bc bs Q :=
  H.elim fun _ z => z.elim fun _ z => c_AL_get z hj hd hq
theorem c_LO_add (H : LOb h l ρ i r n) (hx : h_k h (nm r n) ≠ 0) (hx3 : h_k h (nm r n) ≠ 3 ∧ h_k h (nm r n) ≠ 200) (hn : n < 20000) (hρ : ρ ≠ r) (hρ2 : ρ < 128) (hr2 : r < 128) (hd : 7 ≤ d) (hbc : 1 ≤ bc) (hbs : 10 + 2 * n ≤ bs) (hq : ∀ h', LOb h' l ρ i r (n + 1) → (∀ b, b ≠ l → (∀ z, b ≠ nm ρ (16 * z + i)) → ce h' b = ce h b) → Q (oRet (vi (nI 1))) h') : WP G m_Jx4a65c_add_9ea2d d 0 (aargs 0 [vr (some l), vr (some (nm r n))]) [] h bc bs Q := by
  obtain ⟨g, D, A⟩ := H
  refine c_AL_add A hn ⟨hx, hx3.2⟩ (fun z => nm_ne (fun e => hρ e.symm) hr2 hρ2) (fun e => hx3.1 (by rw [e]; exact A.k)) hd hbc hbs (fun h' g' D' A' hF => hq h' ⟨g', D', ?_⟩ hF)
  have : va_up (fun j => nm r j) n (nm r n) = fun j => nm r j := by
    funext j
    rw [va_up_app]
    split
    · next e => rw [e]
    · rfl
  rw [this] at A'
  exact A'
end LOC
/-! lists of small Integers -/
def iq (x : Int32) : Nat := (x.toInt + 128).toNat
def LNm (h : Hp) (l ρ i : Nat) (xs : List Int32) : Prop := (∃ g D, AL h l ρ i g xs.length D (fun j => nm 0 (iq (xs.getD j 0) + 1))) ∧ ∀ x ∈ xs, -128 ≤ x.toInt ∧ x.toInt ≤ 127
theorem LNm.frm {h h' : Hp} {l ρ i : Nat} {xs : List Int32} (H : LNm h l ρ i xs) (h0 : ce h' 0 = ce h 0) (h1 : ce h' l = ce h l) (h2 : ∀ z, ce h' (nm ρ (16 * z + i)) = ce h (nm ρ (16 * z + i))) : LNm h' l ρ i xs :=
  ⟨H.1.elim fun g z => z.elim fun D z => ⟨g, D, z.frm h0 h1 h2⟩, H.2⟩
section WC
variable {G : GG} {y : MI} {d pc : Nat} {lv : LV} {st : List AV} {h : Hp} {bc bs : Nat} {Q : Pst}
/-- what stands at the JDK's own names -/
def JC (h : Hp) : Prop := h_k h 0 = 118 ∧ h_n h 0 = 0 ∧ ∀ i, i < 2 → h_k h (nm 0 (i + 1)) = 200 ∧ h_I h (nm 0 (i + 1)) 0 = h_I h (nm 0 (i + 1)) 0
theorem wp_consts (K : JC h → WP G y d pc lv st h bc bs Q) : WP G y d pc lv st h bc bs Q := fun α hp oN ol os Q0 oU =>
  (K ⟨oN.2.2.2.2.1, oN.2.2.2.2.2.1, fun i hi => ⟨(oN.2.2.2.2.2.2 i hi).2.1, rfl⟩⟩) α hp oN ol os Q0 oU
end WC
theorem iq_lt {x : Int32} (h1 : -128 ≤ x.toInt) (h2 : x.toInt ≤ 127) : iq x < 256 := by unfold iq; omega
theorem iq_v {x : Int32} (h1 : -128 ≤ x.toInt) (h2 : x.toInt ≤ 127) : nI (iq x) - nI 128 = x := by
  apply Int32.toInt_inj.mp
  have e1 : (nI (iq x)).toInt = ((iq x : Nat) : Int) := nI_toInt (by have := iq_lt h1 h2; omega)
  have e2 : (nI 128).toInt = 128 := by decide
  rw [Int32.toInt_sub, e1, e2]
  unfold iq
  rw [Int.toNat_of_nonneg (by omega), show x.toInt + 128 - 128 = x.toInt by omega]
  exact Int.bmod_eq_of_le (by omega) (by omega)
theorem iq_a {x : Int32} (h1 : -128 ≤ x.toInt) (h2 : x.toInt ≤ 127) : x + nI 128 = nI (iq x) := by
  have := iq_v h1 h2
  rw [← this]
  rw [show iq (nI (iq x) - nI 128) = iq x by rw [this]]
  exact Int32.sub_add_cancel _ _
section LNC
variable {G : GG} {d bc bs : Nat} {h : Hp} {Q : Pst} {l ρ i : Nat} {xs : List Int32}
theorem c_LN_size (H : LNm h l ρ i xs) (hq : Q (oRet (vi (nI xs.length))) h) : WP G m_Jx4a65c_size_8abf5 d 0 (aargs 0 [vr (some l)]) [] h bc bs Q :=
  H.1.elim fun _ z => z.elim fun _ z => c_AL_size z hq
end LNC
