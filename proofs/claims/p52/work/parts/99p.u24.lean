/-! The class: one value of a state, after a change. -/
theorem vp_ext {S S' : SV} {v : Nat} (h1 : sTy S' v = sTy S v) (h2 : sSz S' v = sSz S v) (h3 : ∀ s, s < 21 → sNd S' (21 * v + s) = sNd S (21 * v + s)) (h4 : ∀ j, j < 64 → sEl S' (64 * v + j) = sEl S (64 * v + j)) (h5 : ∀ s, s < 21 → sOw S' (21 * v + s) = sOw S (21 * v + s)) (h6 : ∀ k, k < 1000 → sHs S' (1000 * v + k) = sHs S (1000 * v + k)) (h7 : ∀ k, k < 1000 → sOf S' (1000 * v + k) = sOf S (1000 * v + k)) (h8 : ∀ s, s < 341 → sMn S' (341 * v + s) = sMn S (341 * v + s)) : vp S' v = vp S v := by
  have g : ∀ {α : Type} {a b : Nat → α} {z : α} {n : Nat}, (∀ s, s < n → a s = b s) → (fun s => if s < n then a s else z) = fun s => if s < n then b s else z := fun h => funext fun s => by
    split
    · next q => exact h s q
    · rfl
  show (_, _, (fun s => if s < 21 then sNd S' (21 * v + s) else 0), (fun j => if j < 64 then sEl S' (64 * v + j) else nI 0), (fun s => if s < 21 then sOw S' (21 * v + s) else false), (fun k => if k < 1000 then sHs S' (1000 * v + k) else false), (fun k => if k < 1000 then sOf S' (1000 * v + k) else nI 0), (fun s => if s < 341 then sMn S' (341 * v + s) else 0)) = _
  rw [h1, h2, g h3, g h4, g h5, g h6, g h7, g h8]; rfl
section PRM
variable {S : SV} {v w : Nat}
theorem vp_new {c : Nat} (h : v ≠ sNv S) : vp (s_new S c) v = vp S v := vp_ext (va_ne h) (va_ne h) (fun _ _ => rfl) (fun _ _ => rfl) (fun _ _ => rfl) (fun _ _ => rfl) (fun _ _ => rfl) (fun _ _ => rfl)
theorem cpE_at {f : Nat → Int32} {a b j : Nat} (hj : j < 64) : cpE f a b 64 (64 * a + j) = f (64 * b + j) := by
  unfold cpE; rw [if_pos (by omega), Nat.add_sub_cancel_left]
theorem cpE_ot {f : Nat → Int32} {a b v j : Nat} (h : v ≠ a) (hj : j < 64) : cpE f a b 64 (64 * v + j) = f (64 * v + j) := by
  unfold cpE; rw [if_neg (by omega)]
theorem vp_cp {a b : Nat} (h : v ≠ a) : vp (s_cp S a b) v = vp S v := vp_ext rfl (va_ne h) (fun _ _ => rfl) (fun j hj => cpE_ot h hj) (fun _ _ => rfl) (fun _ _ => rfl) (fun _ _ => rfl) (fun _ _ => rfl)
theorem vp_3 {x : Nat} (h : v ≠ w) : vp (s_3 S w x) v = vp S v := vp_ext (va_ne h) rfl (fun _ _ => rfl) (fun _ _ => rfl) (fun _ _ => rfl) (fun _ _ => rfl) (fun _ _ => rfl) (fun _ _ => rfl)
theorem vp_4 {x : Nat} (h : v ≠ w) : vp (s_4 S w x) v = vp S v := vp_ext rfl (va_ne h) (fun _ _ => rfl) (fun _ _ => rfl) (fun _ _ => rfl) (fun _ _ => rfl) (fun _ _ => rfl) (fun _ _ => rfl)
theorem vp_5 {j : Nat} {x : Int32} (h : v ≠ w) (hj : j < 64) : vp (s_5 S (64 * w + j) x) v = vp S v := vp_ext rfl rfl (fun _ _ => rfl) (fun i hi => va_ne (by omega)) (fun _ _ => rfl) (fun _ _ => rfl) (fun _ _ => rfl) (fun _ _ => rfl)
theorem vp_8 {j : Nat} {x : Bool} (h : v ≠ w) (hj : j < 1000) : vp (s_8 S (1000 * w + j) x) v = vp S v := vp_ext rfl rfl (fun _ _ => rfl) (fun _ _ => rfl) (fun _ _ => rfl) (fun i hi => va_ne (by omega)) (fun _ _ => rfl) (fun _ _ => rfl)
theorem vp_9 {j : Nat} {x : Int32} (h : v ≠ w) (hj : j < 1000) : vp (s_9 S (1000 * w + j) x) v = vp S v := vp_ext rfl rfl (fun _ _ => rfl) (fun _ _ => rfl) (fun _ _ => rfl) (fun _ _ => rfl) (fun i hi => va_ne (by omega)) (fun _ _ => rfl)
theorem vp_10 {j x : Nat} (h : v ≠ w) (hj : j < 341) : vp (s_10 S (341 * w + j) x) v = vp S v := vp_ext rfl rfl (fun _ _ => rfl) (fun _ _ => rfl) (fun _ _ => rfl) (fun _ _ => rfl) (fun _ _ => rfl) (fun i hi => va_ne (by omega))
theorem vp_2 {x : Nat} : vp (s_2 S x) v = vp S v := rfl
theorem vp_nf {sm : Nat → Bool} {sh : Nat → Nat} (h : v ≠ w) : vp (nfS S w sm sh 21) v = vp S v := vp_ext rfl rfl (fun s hs => nfN_ot h 21 s hs (Nat.le_refl _)) (fun _ _ => rfl) (fun s hs => nfO_ot h 21 s hs (Nat.le_refl _)) (fun _ _ => rfl) (fun _ _ => rfl) (fun _ _ => rfl)
theorem elv_cp {a b : Nat} : elv (s_cp S a b) a = elv S b := funext fun j => by
  unfold elv
  by_cases e : j < 64
  · rw [if_pos e, if_pos e]; exact cpE_at e
  · rw [if_neg e, if_neg e]
theorem elv_5 {j : Nat} {x : Int32} (hj : j < 64) : elv (s_5 S (64 * w + j) x) w = va_up (elv S w) j x := funext fun i => by
  rw [va_up_app]
  unfold elv
  by_cases e : i < 64
  · rw [if_pos e, if_pos e]
    show va_up (sEl S) (64 * w + j) x (64 * w + i) = _
    rw [va_up_app]
    by_cases q : i = j
    · rw [if_pos (by omega), if_pos q]
    · rw [if_neg (by omega), if_neg q]
  · rw [if_neg e, if_neg (by omega), if_neg e]
theorem owv_nf {sm : Nat → Bool} {sh : Nat → Nat} : owv (nfS S w sm sh 21) w = fun _ => false := funext fun s => by
  unfold owv
  by_cases e : s < 21
  · rw [if_pos e]; exact nfO_at 21 s e (Nat.le_refl _)
  · rw [if_neg e]
theorem ndv_nf {sm : Nat → Bool} {sh : Nat → Nat} {s : Nat} (hs : s < 21) : ndv (nfS S w sm sh 21) w s = if ith s (sSz S w) = true then (if sm s = true then sh s else nfM S w sm s + 1) else 0 := by
  unfold ndv
  rw [if_pos hs]; exact nfN_at 21 s hs (Nat.le_refl _)
end PRM
/-- off a path -/
def offp (pl t : Nat) : Prop := ∀ i, 1 ≤ i → i ≤ 3 → t ≠ psl pl i
def onp (n pl : Nat) : Nat := (if ith (psl pl 1) n = true then 1 else 0) + (if ith (psl pl 2) n = true then 1 else 0) + (if ith (psl pl 3) n = true then 1 else 0)
/-- the numbers of a new vector that differs from another on a path -/
theorem nf_path {T : SV} {w k pl : Nat} (hp : pl < 64) (hs : ∀ s, s < 21 → ith s (sSz T w) = true → ((ith s (sSz T k) = true ∧ smP (sSz T k) (sSz T w) (elv T k) (elv T w) s) ↔ offp pl s)) :
    (∀ t, t < 21 → ith t (sSz T w) = true → offp pl t → ndv (s_nf T w k) w t = ndv T k t) ∧ (∀ i, 1 ≤ i → i ≤ 3 → ith (psl pl i) (sSz T w) = true → sMd T < ndv (s_nf T w k) w (psl pl i) ∧ ndv (s_nf T w k) w (psl pl i) ≤ sMd (s_nf T w k)) ∧
    (∀ i j, 1 ≤ i → i < j → j ≤ 3 → ith (psl pl i) (sSz T w) = true → ith (psl pl j) (sSz T w) = true → ndv (s_nf T w k) w (psl pl i) ≠ ndv (s_nf T w k) w (psl pl j)) ∧ sMd (s_nf T w k) = sMd T + onp (sSz T w) pl := by
  have sm0 : ∀ s, s < 21 → ith s (sSz T w) = true → (smO T w k s = true ↔ offp pl s) := fun s h1 h2 => smO_iff.trans (hs s h1 h2)
  have smf : ∀ i, 1 ≤ i → i ≤ 3 → ith (psl pl i) (sSz T w) = true → smO T w k (psl pl i) = false := fun i i1 i3 h => by
    cases e : smO T w k (psl pl i) with
    | false => rfl
    | true => exact absurd rfl ((sm0 _ (psl_lt hp) h).mp e i i1 i3)
  have nw : ∀ i, 1 ≤ i → i ≤ 3 → ith (psl pl i) (sSz T w) = true → ndv (s_nf T w k) w (psl pl i) = nfM T w (smO T w k) (psl pl i) + 1 := fun i i1 i3 h => by
    rw [ndv_nf (psl_lt hp), if_pos h, if_neg (by rw [smf i i1 i3 h]; decide)]
  refine ⟨fun t ht hi ho => ?_, fun i i1 i3 h => ?_, fun i j i1 i2 i3 h1 h2 => ?_, ?_⟩
  · rw [ndv_nf ht, if_pos hi, if_pos ((sm0 t ht hi).mpr ho)]
    unfold shO ndv
    rw [if_pos ht]
  · rw [nw i i1 i3 h]
    have a := nfM_mono (S := T) (v := w) (sm := smO T w k) (Nat.zero_le (psl pl i))
    have b := nfM_new (k := 21) h (smf i i1 i3 h) (psl_lt hp)
    have a0 : nfM T w (smO T w k) 0 = sMd T := rfl
    exact ⟨by omega, b⟩
  · rw [nw i i1 (by omega) h1, nw j (by omega) i3 h2]
    have hij : psl pl i < psl pl j := by
      have hi : i = 1 ∨ i = 2 := by omega
      have hj : j = 2 ∨ j = 3 := by omega
      rcases hi with z | z <;> subst z <;> rcases hj with y | y <;> subst y
      · rw [psl_1, psl_2]; omega
      · rw [psl_1, psl_3]; omega
      · omega
      · rw [psl_2, psl_3]; omega
    have := nfM_new (k := psl pl j) h1 (smf i i1 (by omega) h1) hij
    omega
  · show nfM T w (smO T w k) 21 = _
    rw [nfM_sum]
    unfold onp
    rw [sum_path hp (fun s => ith s (sSz T w)) (fun s h1 h2 h3 => ?_) (fun s h1 h2 => ?_)]
    · refine if_pos ?_
      have h2 : ith s (sSz T w) = true := h2
      obtain ⟨i, i1, i3, e⟩ := h3
      rw [h2, e, smf i i1 i3 (by rw [← e]; exact h2)]; rfl
    · refine if_neg (fun z => h2 ?_)
      rw [Bool.and_eq_true, Bool.not_eq_true'] at z
      refine ⟨z.1, ?_⟩
      by_cases q : ∃ i, 1 ≤ i ∧ i ≤ 3 ∧ s = psl pl i
      · exact q
      · have := (sm0 s h1 z.1).mpr (fun i i1 i3 e => q ⟨i, i1, i3, e⟩)
        rw [z.2] at this; cases this
/-- of one that is the same -/
theorem nf_same {T : SV} {w k : Nat} (hs : ∀ s, s < 21 → ith s (sSz T w) = true → ith s (sSz T k) = true ∧ smP (sSz T k) (sSz T w) (elv T k) (elv T w) s) : (∀ t, t < 21 → ith t (sSz T w) = true → ndv (s_nf T w k) w t = ndv T k t) ∧ sMd (s_nf T w k) = sMd T := by
  refine ⟨fun t ht hi => ?_, ?_⟩
  · rw [ndv_nf ht, if_pos hi, if_pos (smO_iff.mpr (hs t ht hi))]
    unfold shO ndv
    rw [if_pos ht]
  · show nfM T w (smO T w k) 21 = _
    rw [nfM_sum, show sumN (fun s => if (ith s (sSz T w) && !smO T w k s) = true then 1 else 0) 21 = sumN (fun _ => 0) 21 from sumN_c 21 (fun s h => if_neg (fun z => by
      rw [Bool.and_eq_true, Bool.not_eq_true'] at z
      rw [smO_iff.mpr (hs s h z.1)] at z
      exact absurd z.2 (by decide))), sum_zero]; rfl
/-- a value more, its nodes another's or new -/
theorem SVI.add {S S' : SV} {k : Nat} (H : SVI S) (hn : sNv S' = sNv S + 1) (h60 : sNv S < 60) (hc : sMd S ≤ sMd S') (hv : ∀ v, v < sNv S → vp S' v = vp S v) (hP : PVi (vp S' (sNv S))) (hk : k < sNv S) (hko : p_ty (vp S k) ≠ 111) (ho : ∀ σ, p_ow (vp S' (sNv S)) σ = false)
    (hN : ∀ σ, 0 < NG (vp S' (sNv S)) σ → NG (vp S' (sNv S)) σ = NG (vp S k) σ ∨ (sMd S < NG (vp S' (sNv S)) σ ∧ ∀ τ, NG (vp S' (sNv S)) σ = NG (vp S' (sNv S)) τ → σ = τ)) (hB : ∀ σ, NG (vp S' (sNv S)) σ ≤ sMd S') : SVI S' := by
  obtain ⟨a1, a2, a3, a4, a5⟩ := H
  have key : ∀ v, v < sNv S' → v = sNv S ∨ (v < sNv S ∧ vp S' v = vp S v) := fun v h => by
    by_cases z : v = sNv S
    · exact Or.inl z
    · exact Or.inr ⟨by omega, hv v (by omega)⟩
  refine ⟨by omega, fun v h => ?_, fun v w σ τ h1 h2 h3 h4 => ?_, fun v σ h => ?_, fun v w σ τ h1 h2 h3 h4 h5 h6 h7 => ?_⟩
  · rcases key v h with z | ⟨z1, z2⟩
    · rw [z]; exact hP
    · rw [z2]; exact a2 v z1
  · rcases key v h1 with z | ⟨z1, z2⟩ <;> rcases key w h2 with y | ⟨y1, y2⟩
    · rw [z] at h3 h4; rw [y] at h4
      rcases hN σ h3 with q | q
      · rcases hN τ (by rw [← h4]; exact h3) with r | r
        · exact a3 k k σ τ hk hk (by rw [← q]; exact h3) (by rw [← q, h4, r])
        · exact (r.2 σ h4.symm).symm
      · exact q.2 τ h4
    · rw [z] at h3 h4; rw [y2] at h4
      rcases hN σ h3 with q | q
      · exact a3 k w σ τ hk y1 (by rw [← q]; exact h3) (by rw [← q]; exact h4)
      · have := a4 w τ y1; omega
    · rw [z2] at h3 h4; rw [y] at h4
      rcases hN τ (by rw [← h4]; exact h3) with q | q
      · exact a3 v k σ τ z1 hk h3 (by rw [← q]; exact h4)
      · have := a4 v σ z1; omega
    · rw [z2] at h3 h4; rw [y2] at h4
      exact a3 v w σ τ z1 y1 h3 h4
  · rcases key v h with z | ⟨z1, z2⟩
    · rw [z]; exact hB σ
    · rw [z2]; exact Nat.le_trans (a4 v σ z1) hc
  · rcases key v h1 with z | ⟨z1, z2⟩
    · intro _
      rw [z, ho σ] at h6; cases h6
    · rw [z2] at h4 h6 h7 ⊢
      rcases key w h2 with y | ⟨y1, y2⟩
      · rw [y]
        intro e
        rcases hN τ (by rw [e]; exact h7) with q | q
        · have hkv : v ≠ k := fun z => hko (by rw [← z]; exact h4)
          exact a5 v k σ τ z1 hk hkv h4 h5 h6 h7 (by rw [← q]; exact e)
        · have := a4 v σ z1; omega
      · rw [y2]; exact a5 v w σ τ z1 y1 h3 h4 h5 h6 h7
