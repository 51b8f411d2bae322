/-! The class: what holds of the values is kept. -/
theorem SVI.addG {S S' : SV} {k : Nat} (H : SVI S) (hn : sNv S' = sNv S + 1) (h60 : sNv S < 60) (hc : sMd S ≤ sMd S') (hv : ∀ v, v < sNv S → vp S' v = vp S v ∨ ((∀ σ, NG (vp S' v) σ = 0) ∧ p_ty (vp S' v) ≠ 111 ∧ PVi (vp S' v))) (hP : PVi (vp S' (sNv S))) (ho : p_ty (vp S' (sNv S)) = 111 → ∀ σ, p_ow (vp S' (sNv S)) σ = false)
    (hN : ∀ σ, 0 < NG (vp S' (sNv S)) σ → (k < sNv S ∧ p_ty (vp S' k) ≠ 111 ∧ NG (vp S' (sNv S)) σ = NG (vp S k) σ) ∨ (sMd S < NG (vp S' (sNv S)) σ ∧ ∀ τ, NG (vp S' (sNv S)) σ = NG (vp S' (sNv S)) τ → σ = τ)) (hB : ∀ σ, NG (vp S' (sNv S)) σ ≤ sMd S') : SVI S' := by
  obtain ⟨a1, a2, a3, a4, a5⟩ := H
  have key : ∀ v, v < sNv S' → v = sNv S ∨ (v < sNv S ∧ vp S' v = vp S v) ∨ ((∀ σ, NG (vp S' v) σ = 0) ∧ p_ty (vp S' v) ≠ 111 ∧ PVi (vp S' v)) := fun v h => by
    by_cases z : v = sNv S
    · exact Or.inl z
    · rcases hv v (by omega) with q | q
      · exact Or.inr (Or.inl ⟨by omega, q⟩)
      · exact Or.inr (Or.inr q)
  refine ⟨by omega, fun v h => ?_, fun v w σ τ h1 h2 h3 h4 => ?_, fun v σ h => ?_, fun v w σ τ h1 h2 h3 h4 h5 h6 h7 => ?_⟩
  · rcases key v h with z | ⟨z1, z2⟩ | z
    · rw [z]; exact hP
    · rw [z2]; exact a2 v z1
    · exact z.2.2
  · rcases key v h1 with z | ⟨z1, z2⟩ | z
    · rcases key w h2 with y | ⟨y1, y2⟩ | y
      · rw [z] at h3 h4; rw [y] at h4
        rcases hN σ h3 with q | q
        · rcases hN τ (by rw [← h4]; exact h3) with r | r
          · exact a3 k k σ τ q.1 q.1 (by rw [← q.2.2]; exact h3) (by rw [← q.2.2, h4, r.2.2])
          · exact (r.2 σ h4.symm).symm
        · exact q.2 τ h4
      · rw [z] at h3 h4; rw [y2] at h4
        rcases hN σ h3 with q | q
        · exact a3 k w σ τ q.1 y1 (by rw [← q.2.2]; exact h3) (by rw [← q.2.2]; exact h4)
        · have := a4 w τ y1; omega
      · rw [y.1 τ] at h4; omega
    · rcases key w h2 with y | ⟨y1, y2⟩ | y
      · rw [z2] at h3 h4; rw [y] at h4
        rcases hN τ (by rw [← h4]; exact h3) with q | q
        · exact a3 v k σ τ z1 q.1 h3 (by rw [← q.2.2]; exact h4)
        · have := a4 v σ z1; omega
      · rw [z2] at h3 h4; rw [y2] at h4
        exact a3 v w σ τ z1 y1 h3 h4
      · rw [y.1 τ] at h4; omega
    · rw [z.1 σ] at h3; omega
  · rcases key v h with z | ⟨z1, z2⟩ | z
    · rw [z]; exact hB σ
    · rw [z2]; exact Nat.le_trans (a4 v σ z1) hc
    · rw [z.1 σ]; exact Nat.zero_le _
  · rcases key v h1 with z | ⟨z1, z2⟩ | z
    · intro _
      rw [z] at h4 h6
      rw [ho h4 σ] at h6; cases h6
    · rcases key w h2 with y | ⟨y1, y2⟩ | y
      · rw [y]
        intro e
        have h4' := h4
        rw [z2] at h4 h6 h7 e
        rcases hN τ (by rw [e]; exact h7) with q | q
        · have hkv : v ≠ k := fun z => q.2.1 (by rw [← z]; exact h4')
          exact a5 v k σ τ z1 q.1 hkv h4 h5 h6 h7 (by rw [← q.2.2]; exact e)
        · have := a4 v σ z1; omega
      · rw [z2] at h4 h6 h7 ⊢
        rw [y2]; exact a5 v w σ τ z1 y1 h3 h4 h5 h6 h7
      · intro e; rw [y.1 τ] at e; omega
    · exact absurd h4 z.2.1
theorem NG_v0 {P : VPr} (hv : pvec P) {σ : Nat} (h : 0 < NG P σ) : σ < 21 ∧ ith σ (p_sz P) = true ∧ NG P σ = p_nd P σ := by
  unfold NG at h ⊢
  rw [if_pos (show p_ty P = 118 ∨ p_ty P = 111 from hv)] at h ⊢
  by_cases e : σ < 21 ∧ ith σ (p_sz P) = true
  · rw [if_pos e]; exact ⟨e.1, e.2, rfl⟩
  · rw [if_neg e] at h; exact absurd h (Nat.lt_irrefl _)
theorem NG_m0 {P : VPr} (hm : p_ty P = 109) {σ : Nat} (h : 0 < NG P σ) : ∃ l b, l ≤ 4 ∧ b < 2 ^ (2 * l) ∧ σ = 21 + (lst l + b) ∧ NG P σ = p_mn P (lst l + b) := by
  unfold NG at h ⊢
  rw [if_neg (by rw [hm]; decide), if_pos hm] at h ⊢
  by_cases e : 21 ≤ σ ∧ σ < 362
  · rw [if_pos e]
    obtain ⟨l, b, l1, b1, e2⟩ := lst_ex (show σ - 21 < 341 by omega)
    exact ⟨l, b, l1, b1, by omega, by rw [e2]⟩
  · rw [if_neg e] at h; exact absurd h (Nat.lt_irrefl _)
theorem PVi.v {S : SV} {v : Nat} (ht : sTy S v = 118 ∨ sTy S v = 111) (hz : sSz S v ≤ 64) (hn : ∀ s, s < 21 → ith s (sSz S v) = true → 1 ≤ ndv S v s) : PVi (vp S v) :=
  ⟨ht.elim Or.inl (fun z => Or.inr (Or.inl z)), hz, fun z => by rcases ht with q | q <;> (have q2 : p_ty (vp S v) = _ := q; rw [q2] at z; cases z), fun z => by rcases ht with q | q <;> (have q2 : p_ty (vp S v) = _ := q; rw [q2] at z; cases z), fun _ => hn⟩
section NVK
variable {S S' : SV} {k c pl n' : Nat} {el' : Nat → Int32}
theorem psl_inj {pl i j : Nat} (hp : pl < 64) (i1 : 1 ≤ i) (i3 : i ≤ 3) (j1 : 1 ≤ j) (j3 : j ≤ 3) (h : i ≠ j) : psl pl i ≠ psl pl j := by
  by_cases q : i < j
  · have := psl_m hp i1 q j3; omega
  · have := psl_m hp j1 (show j < i by omega) i3; omega
/-- a vector more, changed on a path -/
theorem NVF.svi (H : SVI S) (N : NVF S S' c k pl n' el') (h60 : sNv S < 60) (hk : k < sNv S) (hv : pvec (vp S k)) (hko : sTy S k ≠ 111) (hc : c = 118 ∨ c = 111) (hp : pl < 64) (hn : n' ≤ 64) (hi : ∀ s, s < 21 → ith s n' = true → offp pl s → ith s (sSz S k) = true) : SVI S' := by
  obtain ⟨⟨b1, b2, b3, b4, b5, b6⟩, N2, N3, N4, N5⟩ := N
  have hle : sMd S ≤ sMd S' := by rw [N5]; omega
  have pos : ∀ s, s < 21 → ith s (sSz S k) = true → 1 ≤ ndv S k s := fun s h1 h2 => (H.2.1 k hk).2.2.2.2 hv s h1 h2
  have hv' : pvec (vp S' (sNv S)) := by
    rcases hc with q | q
    · exact Or.inl (b2.trans q)
    · exact Or.inr (b2.trans q)
  have bd : ∀ s, s < 21 → ith s n' = true → offp pl s → ndv S' (sNv S) s = NG (vp S k) s := fun s h1 h2 h3 => by
    rw [N2 s h1 h2 h3, NG_v hv h1 (hi s h1 h2 h3)]; rfl
  refine H.addG (k := k) b1 h60 hle (fun v hv2 => Or.inl (b5 v hv2)) (PVi.v (by rw [b2]; exact hc) (by rw [b3]; exact hn) (fun s h1 h2 => ?_)) (fun _ => b6) (fun σ hσ => ?_) (fun σ => ?_)
  · rw [b3] at h2
    by_cases q : offp pl s
    · rw [N2 s h1 h2 q]; exact pos s h1 (hi s h1 h2 q)
    · obtain ⟨i, i1, i3, e⟩ := offp_not q
      rw [e] at h2 ⊢
      have := (N3 i i1 i3 h2).1; omega
  · obtain ⟨s1, s2, s3⟩ := NG_v0 hv' hσ
    rw [show p_sz (vp S' (sNv S)) = n' from b3] at s2
    by_cases q : offp pl σ
    · exact Or.inl ⟨hk, by rw [b5 k hk]; exact hko, s3.trans (bd σ s1 s2 q)⟩
    · obtain ⟨i, i1, i3, e⟩ := offp_not q
      subst e
      refine Or.inr ⟨by rw [s3]; exact (N3 i i1 i3 s2).1, fun τ hτ => ?_⟩
      obtain ⟨t1, t2, t3⟩ := NG_v0 hv' (σ := τ) (by rw [← hτ]; exact hσ)
      rw [show p_sz (vp S' (sNv S)) = n' from b3] at t2
      rw [s3, t3] at hτ
      have n1 := (N3 i i1 i3 s2).1
      by_cases r : offp pl τ
      · have e2 : p_nd (vp S' (sNv S)) τ = NG (vp S k) τ := bd τ t1 t2 r
        have := H.2.2.2.1 k τ hk
        have e3 : p_nd (vp S' (sNv S)) (psl pl i) = ndv S' (sNv S) (psl pl i) := rfl
        omega
      · obtain ⟨j, j1, j3, e⟩ := offp_not r
        subst e
        by_cases z : i = j
        · rw [z]
        · exfalso
          by_cases zz : i < j
          · exact N4 i j i1 zz j3 s2 t2 hτ
          · exact N4 j i j1 (by omega) i3 t2 s2 hτ.symm
  · by_cases z : 0 < NG (vp S' (sNv S)) σ
    · obtain ⟨s1, s2, s3⟩ := NG_v0 hv' z
      rw [show p_sz (vp S' (sNv S)) = n' from b3] at s2
      by_cases q : offp pl σ
      · have e2 : p_nd (vp S' (sNv S)) σ = NG (vp S k) σ := bd σ s1 s2 q
        have := H.2.2.2.1 k σ hk
        omega
      · obtain ⟨i, i1, i3, e⟩ := offp_not q
        subst e
        rw [s3]; exact (N3 i i1 i3 s2).2
    · omega
theorem NVS.svi (H : SVI S) (N : NVS S S' c k el') (h60 : sNv S < 60) (hk : k < sNv S) (hv : pvec (vp S k)) (hko : sTy S k ≠ 111) (hc : c = 118 ∨ c = 111) : SVI S' := by
  obtain ⟨⟨b1, b2, b3, b4, b5, b6⟩, N2, N5⟩ := N
  have hv' : pvec (vp S' (sNv S)) := by
    rcases hc with q | q
    · exact Or.inl (b2.trans q)
    · exact Or.inr (b2.trans q)
  have e : ∀ σ, 0 < NG (vp S' (sNv S)) σ → NG (vp S' (sNv S)) σ = NG (vp S k) σ := fun σ hσ => by
    obtain ⟨s1, s2, s3⟩ := NG_v0 hv' hσ
    rw [show p_sz (vp S' (sNv S)) = sSz S k from b3] at s2
    rw [s3, NG_v hv s1 s2]; exact N2 σ s1 s2
  refine H.addG (k := k) b1 h60 (by rw [N5]; exact Nat.le_refl _) (fun v hv2 => Or.inl (b5 v hv2)) (PVi.v (by rw [b2]; exact hc) (by rw [b3]; exact (H.2.1 k hk).2.1) (fun s h1 h2 => ?_)) (fun _ => b6) (fun σ hσ => Or.inl ⟨hk, by rw [b5 k hk]; exact hko, e σ hσ⟩) (fun σ => ?_)
  · rw [b3] at h2
    rw [N2 s h1 h2]; exact (H.2.1 k hk).2.2.2.2 hv s h1 h2
  · by_cases z : 0 < NG (vp S' (sNv S)) σ
    · rw [e σ z, N5]; exact H.2.2.2.1 k σ hk
    · omega
/-- an open vector made lasting -/
theorem last_svi (H : SVI S) (h60 : sNv S < 60) (hk : k < sNv S) (ht : sTy S k = 111) : SVI (s_4 (s_3 (s_nf (s_dup S 118 k) (sNv S) k) k 120) k 0) := by
  have N := NVS.dup (S := S) (c := 118) (k := k) hk
  generalize s_nf (s_dup S 118 k) (sNv S) k = S9 at N
  obtain ⟨⟨b1, b2, b3, b4, b5, b6⟩, N2, N5⟩ := N
  have hv : pvec (vp S k) := Or.inr ht
  have hne : sNv S ≠ k := by omega
  have ev : ∀ v, v ≠ k → vp (s_4 (s_3 S9 k 120) k 0) v = vp S9 v := fun v h => (vp_4 h).trans (vp_3 h)
  have ty : p_ty (vp (s_4 (s_3 S9 k 120) k 0) k) = 120 := va_up_self _ _ _
  have sz : p_sz (vp (s_4 (s_3 S9 k 120) k 0) k) = 0 := va_up_self _ _ _
  have hv' : pvec (vp S9 (sNv S)) := Or.inl b2
  have e : ∀ σ, 0 < NG (vp S9 (sNv S)) σ → NG (vp S9 (sNv S)) σ = NG (vp S k) σ := fun σ hσ => by
    obtain ⟨s1, s2, s3⟩ := NG_v0 hv' hσ
    rw [show p_sz (vp S9 (sNv S)) = sSz S k from b3] at s2
    rw [s3, NG_v hv s1 s2]; exact N2 σ s1 s2
  refine H.addG (k := k) b1 h60 (by show sMd S ≤ sMd S9; rw [N5]; exact Nat.le_refl _) (fun v hv2 => ?_) ?_ ?_ ?_ ?_
  · by_cases z : v = k
    · subst z
      refine Or.inr ⟨fun σ => ?_, by rw [ty]; decide, ⟨Or.inr (Or.inr (Or.inr ty)), by rw [sz]; decide, fun _ => sz, fun z => (by rw [ty] at z; cases z), fun z => ?_⟩⟩
      · unfold NG; rw [if_neg (by rw [ty]; decide), if_neg (by rw [ty]; decide)]
      · rcases z with z | z <;> rw [ty] at z <;> cases z
    · exact Or.inl ((ev v z).trans (b5 v hv2))
  · rw [ev _ hne]
    refine PVi.v (Or.inl b2) (by rw [b3]; exact (H.2.1 k hk).2.1) (fun s h1 h2 => ?_)
    rw [b3] at h2
    rw [N2 s h1 h2]; exact (H.2.1 k hk).2.2.2.2 hv s h1 h2
  · rw [ev _ hne]; exact fun _ => b6
  · rw [ev _ hne]; exact fun σ hσ => Or.inl ⟨hk, by rw [ty]; decide, e σ hσ⟩
  · rw [ev _ hne]
    intro σ
    show NG (vp S9 (sNv S)) σ ≤ sMd S9
    by_cases z : 0 < NG (vp S9 (sNv S)) σ
    · rw [e σ z, N5]; exact H.2.2.2.1 k σ hk
    · omega
/-- a vector more, all its nodes new -/
theorem new_svi (H : SVI S) (h60 : sNv S < 60) (b1 : sNv S' = sNv S + 1) (b2 : sTy S' (sNv S) = 118) (b3 : sSz S' (sNv S) = n') (hn : n' ≤ 64) (b5 : ∀ v, v < sNv S → vp S' v = vp S v) (b6 : ∀ s, owv S' (sNv S) s = false) (hle : sMd S ≤ sMd S') (hnd : ∀ s, s < 21 → ith s n' = true → sMd S < ndv S' (sNv S) s ∧ ndv S' (sNv S) s ≤ sMd S') (hinj : ∀ s t, s < 21 → t < 21 → ith s n' = true → ith t n' = true → ndv S' (sNv S) s = ndv S' (sNv S) t → s = t) : SVI S' := by
  have hv' : pvec (vp S' (sNv S)) := Or.inl b2
  have sz : p_sz (vp S' (sNv S)) = n' := b3
  refine H.addG (k := 0) b1 h60 hle (fun v hv2 => Or.inl (b5 v hv2)) (PVi.v (Or.inl b2) (by rw [b3]; exact hn) (fun s h1 h2 => by rw [b3] at h2; have := (hnd s h1 h2).1; omega)) (fun _ => b6) (fun σ hσ => Or.inr ?_) (fun σ => ?_)
  · obtain ⟨s1, s2, s3⟩ := NG_v0 hv' hσ
    rw [sz] at s2
    refine ⟨by rw [s3]; exact (hnd σ s1 s2).1, fun τ hτ => ?_⟩
    obtain ⟨t1, t2, t3⟩ := NG_v0 hv' (σ := τ) (by rw [← hτ]; exact hσ)
    rw [sz] at t2
    rw [s3, t3] at hτ
    exact hinj σ τ s1 t1 s2 t2 hτ
  · by_cases z : 0 < NG (vp S' (sNv S)) σ
    · obtain ⟨s1, s2, s3⟩ := NG_v0 hv' z
      rw [sz] at s2
      rw [s3]; exact (hnd σ s1 s2).2
    · omega
theorem vec_svi (H : SVI S) (h60 : sNv S < 60) : SVI (s_vec S) := by
  obtain ⟨e1, e2, e3, e4, e5, e6⟩ := vec_f (S := S)
  refine new_svi H h60 rfl e1 e2 (by decide) e3 e6 (by rw [e5]; omega) (fun s _ h2 => ?_) (fun s t _ _ h1 h2 _ => ?_)
  · rw [ith_0.mp h2, e4, e5]; omega
  · rw [ith_0.mp h1, ith_0.mp h2]
theorem col_svi (H : SVI S) (h60 : sNv S < 60) {xs : List (List Int32)} (ht : tot xs ≤ 64) : SVI (colS S xs) := by
  obtain ⟨f1, f2, f3, f4, f5, f6, f7, f8, f9⟩ := col_f (S := S) (xs := xs) ht
  exact new_svi H h60 f1 f2 f3 ht f4 f9 (by rw [f8]; omega) f6 f7
/-- an open vector changed -/
theorem CHF.svi (H : SVI S) (N : CHF S S' k pl n' el' (ruO S k)) (hk : k < sNv S) (ht : sTy S k = 111) (hp : pl < n') (hn4 : n' ≤ 64) (hn : (n' = sSz S k ∧ pl < sSz S k) ∨ (n' = sSz S k + 1 ∧ pl = sSz S k)) : SVI S' := by
  obtain ⟨⟨b1, b2, b3, b4, b5⟩, N2, N3, N4, N5, N6⟩ := N
  obtain ⟨a1, a2, a3, a4, a5⟩ := H
  have hv : pvec (vp S k) := Or.inr ht
  have ht' : sTy S' k = 111 := by rw [b2]; exact ht
  have hv' : pvec (vp S' k) := Or.inr ht'
  have sz : p_sz (vp S' k) = n' := b3
  have hle : sMd S ≤ sMd S' := by rw [N6]; omega
  have d3 := dOf_b n'
  -- a node of k: an old one (owned if it was), or a new one
  have cls : ∀ σ, 0 < NG (vp S' k) σ → (NG (vp S' k) σ = NG (vp S k) σ ∧ (owv S' k σ = true → owv S k σ = true) ∧ σ < 21) ∨ (sMd S < NG (vp S' k) σ ∧ NG (vp S' k) σ ≤ sMd S' ∧ ∀ τ, NG (vp S' k) σ = NG (vp S' k) τ → σ = τ) := fun σ hσ => by
    have one : ∀ σ, 0 < NG (vp S' k) σ → (NG (vp S' k) σ = NG (vp S k) σ ∧ (owv S' k σ = true → owv S k σ = true) ∧ σ < 21) ∨ (∃ i, 1 ≤ i ∧ i ≤ dOf n' ∧ σ = psl pl i ∧ ruO S k (psl pl i) = false ∧ NG (vp S' k) σ = ndv S' k (psl pl i)) := fun σ hσ => by
      obtain ⟨s1, s2, s3⟩ := NG_v0 hv' hσ
      rw [sz] at s2
      by_cases q : offp pl σ
      · exact Or.inl ⟨by rw [s3, NG_v hv s1 (off_up hn hn4 σ s1 s2 q)]; exact N2 σ s1 q s2, fun z => by rw [← N3 σ s1 q]; exact z, s1⟩
      · obtain ⟨i, i1, i3, e⟩ := offp_not q
        subst e
        have i2 : i ≤ dOf n' := by rw [ith_iff, psl_h (by omega) i1 i3] at s2; exact s2.1
        obtain ⟨c1, c2, c3⟩ := N4 i i1 i2
        cases r : ruO S k (psl pl i) with
        | true =>
          have r2 := r
          unfold ruO at r2
          rw [Bool.and_eq_true] at r2
          exact Or.inl ⟨by rw [s3, NG_v hv s1 r2.1]; exact c2 r, fun _ => r2.2, s1⟩
        | false => exact Or.inr ⟨i, i1, i2, rfl, r, s3⟩
    rcases one σ hσ with q | ⟨i, i1, i2, e, r, s3⟩
    · exact Or.inl q
    · have c3 := (N4 i i1 i2).2.2 r
      refine Or.inr ⟨by rw [s3]; exact c3.1, by rw [s3]; exact c3.2, fun τ hτ => ?_⟩
      rcases one τ (by rw [← hτ]; exact hσ) with q | ⟨j, j1, j2, e2, r2, t3⟩
      · have := a4 k τ hk
        rw [q.1, s3] at hτ; omega
      · rw [s3, t3] at hτ
        by_cases z : i = j
        · rw [e, e2, z]
        · exfalso
          by_cases zz : i < j
          · exact N5 i j i1 zz j2 r r2 hτ
          · exact N5 j i j1 (by omega) i2 r2 r hτ.symm
  refine ⟨by rw [b1]; exact a1, fun v h => ?_, fun v w σ τ h1 h2 h3 h4 => ?_, fun v σ h => ?_, fun v w σ τ h1 h2 h3 h4 h5 h6 h7 => ?_⟩
  · by_cases z : v = k
    · subst z
      refine PVi.v (Or.inr ht') (by rw [b3]; exact hn4) (fun s s1 s2 => ?_)
      rw [b3] at s2
      by_cases q : offp pl s
      · rw [N2 s s1 q s2]; exact (a2 v hk).2.2.2.2 hv s s1 (off_up hn hn4 s s1 s2 q)
      · obtain ⟨i, i1, i3, e⟩ := offp_not q
        subst e
        have i2 : i ≤ dOf n' := by rw [ith_iff, psl_h (by omega) i1 i3] at s2; exact s2.1
        obtain ⟨c1, c2, c3⟩ := N4 i i1 i2
        cases r : ruO S v (psl pl i) with
        | true =>
          have r2 := r
          unfold ruO at r2
          rw [Bool.and_eq_true] at r2
          rw [c2 r]; exact (a2 v hk).2.2.2.2 hv _ s1 r2.1
        | false => have := (c3 r).1; omega
    · rw [b5 v z]; exact a2 v (by omega)
  · rw [b1] at h1 h2
    by_cases z : v = k <;> by_cases y : w = k
    · rw [z] at h3 h4; rw [y] at h4
      rcases cls σ h3 with q | q
      · rcases cls τ (by rw [← h4]; exact h3) with r | r
        · exact a3 k k σ τ hk hk (by rw [← q.1]; exact h3) (by rw [← q.1, h4, r.1])
        · exact (r.2.2 σ h4.symm).symm
      · exact q.2.2 τ h4
    · rw [z] at h3 h4; rw [b5 w y] at h4
      rcases cls σ h3 with q | q
      · exact a3 k w σ τ hk h2 (by rw [← q.1]; exact h3) (by rw [← q.1]; exact h4)
      · have := a4 w τ h2; omega
    · rw [b5 v z] at h3 h4; rw [y] at h4
      rcases cls τ (by rw [← h4]; exact h3) with q | q
      · exact a3 v k σ τ h1 hk h3 (by rw [← q.1]; exact h4)
      · have := a4 v σ h1; omega
    · rw [b5 v z] at h3 h4; rw [b5 w y] at h4
      exact a3 v w σ τ h1 h2 h3 h4
  · rw [b1] at h
    by_cases z : v = k
    · rw [z]
      by_cases q : 0 < NG (vp S' k) σ
      · rcases cls σ q with r | r
        · rw [r.1]; exact Nat.le_trans (a4 k σ hk) hle
        · exact r.2.1
      · omega
    · rw [b5 v z]; exact Nat.le_trans (a4 v σ h) hle
  · rw [b1] at h1 h2
    intro e
    by_cases z : v = k
    · have y : w ≠ k := fun q => h3 (z.trans q.symm)
      rw [z] at h4 h6 h7 e; rw [b5 w y] at e
      rcases cls σ h7 with q | q
      · exact a5 k w σ τ hk h2 (fun r => y r.symm) ht h5 (q.2.1 h6) (by rw [← q.1]; exact h7) (by rw [← q.1]; exact e)
      · have := a4 w τ h2; omega
    · rw [b5 v z] at h4 h6 h7 e
      by_cases y : w = k
      · rw [y] at e
        rcases cls τ (by rw [e]; exact h7) with q | q
        · exact a5 v k σ τ h1 hk z h4 h5 h6 h7 (by rw [← q.1]; exact e)
        · have := a4 v σ h1; omega
      · rw [b5 w y] at e
        exact a5 v w σ τ h1 h2 h3 h4 h5 h6 h7 e
theorem ct_of9 {hs hs' : Nat → Bool} {key L B : Nat} (h : ∀ j, j ≠ key → hs' j = hs j) (hb : B ≠ btN key L) : ct hs' L B = ct hs L B := sumN_c 1000 (fun j _ => by
  unfold ctK
  by_cases z : j = key
  · rw [if_neg (fun y => hb (by rw [← y.2, z])), if_neg (fun y => hb (by rw [← y.2, z]))]
  · rw [h j z])
theorem PVi.m {S : SV} {v : Nat} (ht : sTy S v = 109) (hz : sSz S v = ct (hsv S v) 0 0) (h40 : sSz S v ≤ 40) (hm : ∀ L B, L ≤ 4 → B < 2 ^ (2 * L) → ((L = 0 ∨ 1 < ct (hsv S v) L B) ↔ 0 < mnv S v (lst L + B))) (ho : ∀ k, hsv S v k = false → ofv S v k = nI 0) : PVi (vp S v) :=
  ⟨Or.inr (Or.inr (Or.inl ht)), by show sSz S v ≤ 64; omega, fun z => (by have q : p_ty (vp S v) = 109 := ht; rw [q] at z; cases z), fun _ => ⟨hz, h40, hm, ho⟩, fun z => by rcases z with z | z <;> (have q : p_ty (vp S v) = 109 := ht; rw [q] at z; cases z)⟩
/-- a map more -/
theorem MNF.svi {key z : Nat} {hs' : Nat → Bool} {of' : Nat → Int32} (H : SVI S) (N : MNF S S' k key z hs' of') (h60 : sNv S < 60) (hk : k < sNv S) (hm : sTy S k = 109) (hz : z = ct hs' 0 0) (h40 : z ≤ 40) (hs : ∀ j, j ≠ key → hs' j = hsv S k j) (ho : ∀ j, hs' j = false → of' j = nI 0) : SVI S' := by
  obtain ⟨⟨b1, b2, b3, b4, b5, b6⟩, N2, N3, N4, N5, N6⟩ := N
  have hle : sMd S ≤ sMd S' := by rw [N5]; omega
  have pk := (H.2.1 k hk).2.2.2.1 hm
  have ty : p_ty (vp S' (sNv S)) = 109 := b2
  -- each node
  have cls : ∀ l b, l ≤ 4 → b < 2 ^ (2 * l) → (b ≠ btN key l ∧ mnv S' (sNv S) (lst l + b) = NG (vp S k) (21 + (lst l + b))) ∨ (b = btN key l ∧ ((l = 0 ∨ 1 < ct hs' l (btN key l)) ∧ sMd S < mnv S' (sNv S) (lst l + b) ∧ mnv S' (sNv S) (lst l + b) ≤ sMd S' ∨ ¬ (l = 0 ∨ 1 < ct hs' l (btN key l)) ∧ mnv S' (sNv S) (lst l + b) = 0)) := fun l b l1 b1 => by
    by_cases e : b = btN key l
    · subst e
      by_cases q : l = 0 ∨ 1 < ct hs' l (btN key l)
      · exact Or.inr ⟨rfl, Or.inl ⟨q, N3 l l1 q⟩⟩
      · exact Or.inr ⟨rfl, Or.inr ⟨q, N6 l l1 q⟩⟩
    · exact Or.inl ⟨e, (N2 l b l1 b1 e).trans (NG_m (P := vp S k) hm l1 b1).symm⟩
  refine H.addG (k := k) b1 h60 hle (fun v hv2 => Or.inl (b6 v hv2)) (PVi.m b2 (by rw [b3, b4]; exact hz) (by rw [b3]; exact h40) (fun l b l1 b1 => ?_) (by rw [b4, b5]; exact ho)) (fun q => by rw [ty] at q; cases q) (fun σ hσ => ?_) (fun σ => ?_)
  · rw [b4]
    rcases cls l b l1 b1 with ⟨c1, c2⟩ | ⟨c1, c2⟩
    · rw [N2 l b l1 b1 c1, ct_of9 hs c1]
      exact pk.2.2.1 l b l1 b1
    · subst c1
      rcases c2 with ⟨c3, c4⟩ | ⟨c3, c4⟩
      · exact ⟨fun _ => by omega, fun _ => c3⟩
      · exact ⟨fun q => absurd q c3, fun q => by omega⟩
  · obtain ⟨l, b, l1, b1, e, s3⟩ := NG_m0 ty hσ
    have s4 : p_mn (vp S' (sNv S)) (lst l + b) = mnv S' (sNv S) (lst l + b) := rfl
    rcases cls l b l1 b1 with ⟨c1, c2⟩ | ⟨c1, c2⟩
    · exact Or.inl ⟨hk, by rw [b6 k hk]; rw [show p_ty (vp S k) = 109 from hm]; decide, by rw [s3, s4, c2, e]⟩
    · rcases c2 with ⟨c3, c4⟩ | ⟨c3, c4⟩
      · refine Or.inr ⟨by rw [s3, s4]; exact c4.1, fun τ hτ => ?_⟩
        obtain ⟨l2, b2', m1, n1, e2, t3⟩ := NG_m0 ty (σ := τ) (by rw [← hτ]; exact hσ)
        have t4 : p_mn (vp S' (sNv S)) (lst l2 + b2') = mnv S' (sNv S) (lst l2 + b2') := rfl
        rw [s3, t3, s4, t4] at hτ
        rcases cls l2 b2' m1 n1 with ⟨d1, d2⟩ | ⟨d1, d2⟩
        · have := H.2.2.2.1 k (21 + (lst l2 + b2')) hk
          omega
        · rcases d2 with ⟨d3, d4⟩ | ⟨d3, d4⟩
          · by_cases z : l = l2
            · subst z; rw [e, e2, c1, d1]
            · exfalso
              rw [c1, d1] at hτ
              by_cases zz : l < l2
              · exact N4 l l2 zz m1 (d3.resolve_left (by omega)) hτ
              · exact N4 l2 l (by omega) l1 (c3.resolve_left (by omega)) hτ.symm
          · omega
      · rw [s3, s4, c4] at hσ; exact absurd hσ (Nat.lt_irrefl _)
  · by_cases q : 0 < NG (vp S' (sNv S)) σ
    · obtain ⟨l, b, l1, b1, e, s3⟩ := NG_m0 ty q
      have s4 : p_mn (vp S' (sNv S)) (lst l + b) = mnv S' (sNv S) (lst l + b) := rfl
      rw [s3, s4]
      rcases cls l b l1 b1 with ⟨c1, c2⟩ | ⟨c1, c2⟩
      · rw [c2]; exact Nat.le_trans (H.2.2.2.1 k _ hk) hle
      · rcases c2 with ⟨c3, c4⟩ | ⟨c3, c4⟩
        · exact c4.2
        · omega
    · omega
theorem MNS.svi {z : Nat} {hs' : Nat → Bool} {of' : Nat → Int32} (H : SVI S) (N : MNS S S' k z hs' of') (h60 : sNv S < 60) (hk : k < sNv S) (hm : sTy S k = 109) (hz : z = sSz S k) (hs : ∀ j, hs' j = hsv S k j) (ho : ∀ j, of' j = ofv S k j) : SVI S' := by
  obtain ⟨⟨b1, b2, b3, b4, b5, b6⟩, N2, N5⟩ := N
  have pk := (H.2.1 k hk).2.2.2.1 hm
  have ty : p_ty (vp S' (sNv S)) = 109 := b2
  have q1 : hsv S' (sNv S) = hsv S k := b4.trans (funext hs)
  have q2 : ofv S' (sNv S) = ofv S k := b5.trans (funext ho)
  have q3 : mnv S' (sNv S) = mnv S k := funext N2
  have e : ∀ σ, NG (vp S' (sNv S)) σ = NG (vp S k) σ := fun σ => by
    have ty2 : p_ty (vp S k) = 109 := hm
    have g : ∀ P : VPr, p_ty P = 109 → NG P σ = if 21 ≤ σ ∧ σ < 362 then p_mn P (σ - 21) else 0 := fun P h => by
      unfold NG; rw [if_neg (by rw [h]; decide), if_pos h]
    rw [g _ ty, g _ ty2]
    by_cases r : 21 ≤ σ ∧ σ < 362
    · rw [if_pos r, if_pos r]; exact N2 _
    · rw [if_neg r, if_neg r]
  exact H.addG (k := k) b1 h60 (by rw [N5]; exact Nat.le_refl _) (fun v hv2 => Or.inl (b6 v hv2)) (PVi.m b2 (by rw [b3, q1, hz]; exact pk.1) (by rw [b3, hz]; exact pk.2.1) (by rw [q1, q3]; exact pk.2.2.1) (by rw [q1, q2]; exact pk.2.2.2)) (fun q => by rw [ty] at q; cases q) (fun σ hσ => Or.inl ⟨hk, by rw [b6 k hk, show p_ty (vp S k) = 109 from hm]; decide, e σ⟩) (fun σ => by rw [e σ, N5]; exact H.2.2.2.1 k σ hk)
theorem SVI.cg (H : SVI S) (h1 : sNv S' = sNv S) (h2 : sMd S' = sMd S) (h3 : ∀ v, vp S' v = vp S v) : SVI S' := by
  have e : vp S' = vp S := funext h3
  unfold SVI; rw [e, h1, h2]; exact H
theorem map_svi (H : SVI S) (h60 : sNv S < 60) : SVI (s_map S) := by
  obtain ⟨e1, e2, e3, e4, e5, e6⟩ := map_f (S := S)
  have c0 : ∀ l b, ct (hsv (s_map S) (sNv S)) l b = 0 := fun l b => ct_none (fun k _ => e3 k)
  have ty : p_ty (vp (s_map S) (sNv S)) = 109 := e1
  have md : sMd (s_map S) = sMd S + 1 := rfl
  have mn : ∀ l b, l ≤ 4 → b < 2 ^ (2 * l) → mnv (s_map S) (sNv S) (lst l + b) = if l = 0 then sMd S + 1 else 0 := fun l b l1 b1 => by
    by_cases z : l = 0
    · subst z
      have b1 : b < 1 := b1
      have : b = 0 := by omega
      subst this
      rw [if_pos rfl]; exact e5
    · rw [if_neg z]
      refine e6 _ ?_
      have hl : l = 1 ∨ l = 2 ∨ l = 3 ∨ l = 4 := by omega
      rcases hl with rfl | rfl | rfl | rfl
      · show 0 < 1 + b; omega
      · show 0 < 5 + b; omega
      · show 0 < 21 + b; omega
      · show 0 < 85 + b; omega
  have one : ∀ σ, 0 < NG (vp (s_map S) (sNv S)) σ → σ = 21 ∧ NG (vp (s_map S) (sNv S)) σ = sMd S + 1 := fun σ hσ => by
    obtain ⟨l, b, l1, b1, e, s3⟩ := NG_m0 ty hσ
    have s4 : p_mn (vp (s_map S) (sNv S)) (lst l + b) = mnv (s_map S) (sNv S) (lst l + b) := rfl
    rw [s3, s4, mn l b l1 b1] at hσ
    by_cases z : l = 0
    · subst z
      have b1' : b < 1 := b1
      have : b = 0 := by omega
      subst this
      exact ⟨e, by rw [s3, s4, mn 0 0 l1 b1, if_pos rfl]⟩
    · rw [if_neg z] at hσ; exact absurd hσ (Nat.lt_irrefl _)
  refine H.addG (k := 0) rfl h60 (by rw [md]; omega) (fun v hv => Or.inl (e4 v hv)) (PVi.m e1 (by rw [e2, c0]) (by rw [e2]; decide) (fun l b l1 b1 => ?_) (fun k _ => ?_)) (fun q => by rw [ty] at q; cases q) (fun σ hσ => Or.inr ⟨by rw [(one σ hσ).2]; omega, fun τ hτ => by rw [(one σ hσ).1, (one τ (by rw [← hτ]; exact hσ)).1]⟩) (fun σ => ?_)
  · rw [c0, mn l b l1 b1]
    by_cases z : l = 0
    · rw [if_pos z]; exact ⟨fun _ => by omega, fun _ => Or.inl z⟩
    · rw [if_neg z]; exact ⟨fun q => q.elim (fun y => absurd y z) (fun y => absurd y (by decide)), fun q => absurd q (Nat.lt_irrefl _)⟩
  · unfold ofv
    by_cases e : k < 1000
    · rw [if_pos e]
      show blk (sOf S) (fun _ => nI 0) 1000 (sNv S) 1000 (1000 * sNv S + k) = _
      exact blk_i e
    · rw [if_neg e]
  · by_cases q : 0 < NG (vp (s_map S) (sNv S)) σ
    · rw [(one σ q).2, md]; exact Nat.le_refl _
    · omega
end NVK
