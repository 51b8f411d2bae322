/-! What is made of another value has as many new nodes as it doesn't share. -/
theorem sum_up {f : Nat → Nat} {a : Nat} : ∀ n, (∀ s, a ≤ s → s < a + n → f s = 0) → sumN f (a + n) = sumN f a := by
  intro n
  induction n with
  | zero => intro _; rfl
  | succ n ih =>
    intro h
    show sumN f (a + n) + f (a + n) = _
    rw [h (a + n) (by omega) (by omega), ih (fun s h1 h2 => h s h1 (by omega)), Nat.add_zero]
theorem sum_pts {p f : Nat → Nat} : ∀ m N, (∀ i, i < m → p i < N) → (∀ i j, i < j → j < m → p i < p j) → (∀ s, s < N → (∀ i, i < m → s ≠ p i) → f s = 0) → sumN f N = sumN (fun i => f (p i)) m := by
  intro m
  induction m with
  | zero =>
    intro N _ _ h
    have := sum_up (f := f) (a := 0) N (fun s _ h2 => h s (by omega) (fun i hi => absurd hi (by omega)))
    rw [Nat.zero_add] at this
    exact this
  | succ m ih =>
    intro N h1 h2 h3
    have ha := h1 m (by omega)
    obtain ⟨r, rfl⟩ : ∃ r, N = p m + 1 + r := ⟨N - (p m + 1), by omega⟩
    rw [sum_up r (fun s s1 s2 => h3 s s2 (fun i hi e => by
      rcases Nat.lt_or_ge i m with q | q
      · have := h2 i m q (by omega); omega
      · have : i = m := by omega
        subst this; omega))]
    show sumN f (p m) + f (p m) = sumN (fun i => f (p i)) m + f (p m)
    rw [ih (p m) (fun i hi => h2 i m hi (by omega)) (fun i j a b => h2 i j a (by omega)) (fun s hs hne => h3 s (by omega) (fun i hi e => by
      rcases Nat.lt_or_ge i m with q | q
      · exact hne i q e
      · have : i = m := by omega
        subst this; omega))]
theorem made_of {V : SV} {v k : Nat} {f : Nat → Nat} (hsl : slN V v = slN V k) (h : ∀ s, s < slN V v → (if 0 < ndN V v s then 1 else 0) = (if 0 < ndN V v s ∧ ndN V v s = ndN V k s then 1 else 0) + f s) : nsN V v = shN V v k + sumN f (slN V v) := by
  unfold nsN shN
  rw [if_pos hsl, sumN_c _ h, sumN_a]
theorem sh_sym {V : SV} {v k : Nat} : shN V v k = shN V k v := by
  unfold shN
  by_cases e : slN V v = slN V k
  · rw [if_pos e, if_pos e.symm, e]
    refine sumN_c _ (fun j _ => ?_)
    by_cases z : ndN V v j = ndN V k j
    · rw [z]
    · rw [if_neg (fun q => z q.2), if_neg (fun q => z q.2.symm)]
  · rw [if_neg e, if_neg (fun z => e z.symm)]
    rfl
theorem sh_self {V : SV} {v : Nat} : shN V v v = nsN V v := by
  unfold shN nsN
  rw [if_pos rfl]
  refine sumN_c _ (fun j _ => ?_)
  by_cases z : 0 < ndN V v j
  · rw [if_pos ⟨z, rfl⟩, if_pos z]
  · rw [if_neg (fun q => z q.1), if_neg z]
section MD
variable {S S' : SV} {c k : Nat}
theorem slN_v {S : SV} {v : Nat} (h : pvec (vp S v)) : slN S v = 21 := by
  unfold slN
  have h : sTy S v = 118 ∨ sTy S v = 111 := h
  rw [if_neg (by omega)]
theorem ndN_v {S : SV} {v s : Nat} (h : pvec (vp S v)) (hs : s < 21) : ndN S v s = if ith s (sSz S v) = true then ndv S v s else 0 := by
  have h : sTy S v = 118 ∨ sTy S v = 111 := h
  have hv : vecB S v = true := by
    unfold vecB
    rcases h with h | h <;> rw [h] <;> rfl
  unfold ndN ndv
  rw [if_neg (by omega), hv, Bool.true_and, if_pos hs]
theorem ndN_vp {S S' : SV} {v s : Nat} (e : vp S' v = vp S v) (h : pvec (vp S v)) (hs : s < 21) : ndN S' v s = ndN S v s := by
  rw [ndN_v h hs, ndN_v (by rw [e]; exact h) hs, show sSz S' v = sSz S v from congrArg p_sz e, show ndv S' v = ndv S v from congrArg p_nd e]
theorem ndN_mdle {S : SV} (H : SVI S) {v s : Nat} (hv : v < sNv S) (hs : s < slN S v) : ndN S v s ≤ sMd S := by
  rw [ndN_NG hs]
  exact H.2.2.2.1 v _ hv
/-- the answer of isMade -/
def mdI (S S' : SV) (k : Nat) : Prop := nsN S' (sNv S) = shN S' (sNv S) k + (sMd S' - sMd S) ∧ sMd S ≤ sMd S'
theorem NVF.made {pl n' : Nat} {el' : Nat → Int32} (H : SVI S) (N : NVF S S' c k pl n' el') (hk : k < sNv S) (hv : pvec (vp S k)) (hc : c = 118 ∨ c = 111) (hp : pl < 64) (hi : ∀ s, s < 21 → ith s n' = true → offp pl s → ith s (sSz S k) = true) : mdI S S' k := by
  obtain ⟨⟨n1, n2, n3, n4, n5, n6⟩, m1, m2, m3, m4⟩ := N
  have ek := n5 k hk
  have hv' : pvec (vp S' k) := by rw [ek]; exact hv
  have hvn : pvec (vp S' (sNv S)) := by
    show sTy S' (sNv S) = 118 ∨ sTy S' (sNv S) = 111
    rw [n2]; exact hc
  have sl := slN_v hvn
  have sk := slN_v hv'
  have sk0 := slN_v hv
  refine ⟨?_, by omega⟩
  rw [made_of (k := k) (f := fun s => if ith s n' = true ∧ (s = psl pl 1 ∨ s = psl pl 2 ∨ s = psl pl 3) then 1 else 0) (by rw [sl, sk]) (fun s hs => ?_)]
  · congr 1
    rw [sl, m4, Nat.add_sub_cancel_left]
    have l12 : psl pl 1 < psl pl 2 := by rw [psl_1, psl_2]; omega
    have l23 : psl pl 2 < psl pl 3 := by rw [psl_2, psl_3]; omega
    rw [sum_pts (p := fun i => psl pl (i + 1)) 3 21 (fun i _ => psl_lt hp) (fun i j hij hj => ?_) (fun s hs hne => if_neg (fun z => ?_))]
    · show 0 + (if _ then 1 else 0) + (if _ then 1 else 0) + (if _ then 1 else 0) = onp n' pl
      unfold onp
      rw [Nat.zero_add]
      simp only [Nat.zero_add, Nat.reduceAdd, true_or, or_true, and_true]
    · show psl pl (i + 1) < psl pl (j + 1)
      have hj' : (i = 0 ∧ j = 1) ∨ (i = 0 ∧ j = 2) ∨ (i = 1 ∧ j = 2) := by omega
      rcases hj' with ⟨rfl, rfl⟩ | ⟨rfl, rfl⟩ | ⟨rfl, rfl⟩
      · exact l12
      · exact Nat.lt_trans l12 l23
      · exact l23
    · rcases z.2 with e | e | e
      · exact hne 0 (by decide) e
      · exact hne 1 (by decide) e
      · exact hne 2 (by decide) e
  · rw [sl] at hs
    rw [ndN_v hvn hs, n3, ndN_vp ek hv hs]
    by_cases hi1 : ith s n' = true
    · rw [if_pos hi1]
      by_cases hon : s = psl pl 1 ∨ s = psl pl 2 ∨ s = psl pl 3
      · have hf : sMd S < ndv S' (sNv S) s := by
          rcases hon with e | e | e
          · rw [e]; exact (m2 1 (by decide) (by decide) (by rw [← e]; exact hi1)).1
          · rw [e]; exact (m2 2 (by decide) (by decide) (by rw [← e]; exact hi1)).1
          · rw [e]; exact (m2 3 (by decide) (by decide) (by rw [← e]; exact hi1)).1
        have hle := ndN_mdle H hk (s := s) (by rw [sk0]; exact hs)
        rw [if_pos (by omega), if_neg (by omega)]
        show 1 = 0 + (if _ then 1 else 0)
        rw [if_pos ⟨hi1, hon⟩]
      · have hoff : offp pl s := fun i i1 i3 e => hon (by
          have : i = 1 ∨ i = 2 ∨ i = 3 := by omega
          rcases this with z | z | z <;> subst z
          · exact Or.inl e
          · exact Or.inr (Or.inl e)
          · exact Or.inr (Or.inr e))
        have hik := hi s hs hi1 hoff
        have hpos : 1 ≤ ndv S k s := (H.2.1 k hk).2.2.2.2 hv s hs hik
        rw [m1 s hs hi1 hoff, ndN_v hv hs, if_pos hik, if_pos (by omega), if_pos ⟨by omega, rfl⟩]
        show 1 = 1 + (if _ then 1 else 0)
        rw [if_neg (fun z => hon z.2)]
    · rw [if_neg hi1, if_neg (Nat.lt_irrefl 0), if_neg (fun z => absurd z.1 (Nat.lt_irrefl 0))]
      show 0 = 0 + (if _ then 1 else 0)
      rw [if_neg (fun z => hi1 z.1)]
theorem NVS.made {el' : Nat → Int32} (H : SVI S) (N : NVS S S' c k el') (hk : k < sNv S) (hv : pvec (vp S k)) (hc : c = 118 ∨ c = 111) : mdI S S' k := by
  obtain ⟨⟨n1, n2, n3, n4, n5, n6⟩, m1, m4⟩ := N
  have ek := n5 k hk
  have hv' : pvec (vp S' k) := by rw [ek]; exact hv
  have hvn : pvec (vp S' (sNv S)) := by
    show sTy S' (sNv S) = 118 ∨ sTy S' (sNv S) = 111
    rw [n2]; exact hc
  refine ⟨?_, by omega⟩
  rw [made_of (k := k) (f := fun _ => 0) (by rw [slN_v hvn, slN_v hv']) (fun s hs => ?_), sum_zero, m4, Nat.sub_self]
  rw [slN_v hvn] at hs
  rw [ndN_v hvn hs, n3, ndN_vp ek hv hs, ndN_v hv hs]
  by_cases hi1 : ith s (sSz S k) = true
  · have hpos : 1 ≤ ndv S k s := (H.2.1 k hk).2.2.2.2 hv s hs hi1
    rw [if_pos hi1, m1 s hs hi1, if_pos hi1, if_pos (by omega), if_pos ⟨by omega, rfl⟩]
  · rw [if_neg hi1, if_neg (by omega), if_neg (by omega)]
theorem ndN_m {S : SV} {v s : Nat} (h : sTy S v = 109) (hs : s < 341) : ndN S v s = mnv S v s := by
  unfold ndN mnv
  rw [if_pos h, if_pos hs]
theorem MNF.made {key z : Nat} {hs' : Nat → Bool} {of' : Nat → Int32} (H : SVI S) (N : MNF S S' k key z hs' of') (hk : k < sNv S) (hm : sTy S k = 109) : mdI S S' k := by
  obtain ⟨⟨n1, n2, n3, n4, n5, n6⟩, m1, m2, m3, m4, m5⟩ := N
  have ek := n6 k hk
  have tk : sTy S' k = 109 := (show sTy S' k = sTy S k from congrArg p_ty ek).trans hm
  have emn : mnv S' k = mnv S k := congrArg p_mn ek
  refine ⟨?_, by omega⟩
  rw [made_of (k := k) (f := fun s => if 0 < mnv S' (sNv S) s ∧ mnv S' (sNv S) s ≠ mnv S k s then 1 else 0) (by rw [slN_m n2, slN_m tk]) (fun s hs => ?_)]
  · congr 1
    rw [slN_m n2, m4, Nat.add_sub_cancel_left, ← cP_5]
    rw [sum_pts (p := fun i => sltN key i) 5 341 (fun i hi => sltN_lt (by omega)) (fun i j hij hj => ?_) (fun s hs hne => if_neg (fun z => ?_))]
    · unfold cP
      refine sumN_c _ (fun i hi => ?_)
      by_cases hpr : prM hs' key i
      · rw [if_pos hpr]
        have hf := (m2 i (by omega) hpr).1
        have hle := ndN_mdle H hk (s := sltN key i) (by rw [slN_m hm]; exact sltN_lt (by omega))
        rw [ndN_m hm (sltN_lt (by omega))] at hle
        exact if_pos ⟨by omega, by omega⟩
      · rw [if_neg hpr]
        exact if_neg (fun q => by have := m5 i (by omega) hpr; omega)
    · show sltN key i < sltN key j
      have hb := btN_lt key i
      unfold sltN
      have h5 : (i = 0 ∧ (j = 1 ∨ j = 2 ∨ j = 3 ∨ j = 4)) ∨ (i = 1 ∧ (j = 2 ∨ j = 3 ∨ j = 4)) ∨ (i = 2 ∧ (j = 3 ∨ j = 4)) ∨ (i = 3 ∧ j = 4) := by omega
      have b0 : btN key 0 < 1 := btN_lt key 0
      have b1 : btN key 1 < 4 := btN_lt key 1
      have b2 : btN key 2 < 16 := btN_lt key 2
      have b3 : btN key 3 < 64 := btN_lt key 3
      have t0 : lst 0 = 0 := rfl
      have t1 : lst 1 = 1 := rfl
      have t2 : lst 2 = 5 := rfl
      have t3 : lst 3 = 21 := rfl
      have t4 : lst 4 = 85 := rfl
      rcases h5 with ⟨rfl, rfl | rfl | rfl | rfl⟩ | ⟨rfl, rfl | rfl | rfl⟩ | ⟨rfl, rfl | rfl⟩ | ⟨rfl, rfl⟩ <;> omega
    · obtain ⟨L, B, hL, hB, e⟩ := lst_ex hs
      have hne' : B ≠ btN key L := fun q => hne L (by omega) (by show s = lst L + btN key L; rw [← q]; exact e)
      rw [e, m1 L B hL hB hne'] at z
      exact z.2 rfl
  · rw [slN_m n2] at hs
    rw [ndN_m n2 hs, ndN_m tk hs, emn]
    by_cases h0 : 0 < mnv S' (sNv S) s
    · by_cases h1 : mnv S' (sNv S) s = mnv S k s
      · rw [if_pos h0, if_pos ⟨h0, h1⟩]
        show 1 = 1 + (if _ then 1 else 0)
        rw [if_neg (fun q => q.2 h1)]
      · rw [if_pos h0, if_neg (fun q => h1 q.2)]
        show 1 = 0 + (if _ then 1 else 0)
        rw [if_pos ⟨h0, h1⟩]
    · rw [if_neg h0, if_neg (fun q => h0 q.1)]
      show 0 = 0 + (if _ then 1 else 0)
      rw [if_neg (fun q => h0 q.1)]
theorem MNS.made {z : Nat} {hs' : Nat → Bool} {of' : Nat → Int32} (N : MNS S S' k z hs' of') (hk : k < sNv S) (hm : sTy S k = 109) : mdI S S' k := by
  obtain ⟨⟨n1, n2, n3, n4, n5, n6⟩, m1, m4⟩ := N
  have ek := n6 k hk
  have tk : sTy S' k = 109 := (show sTy S' k = sTy S k from congrArg p_ty ek).trans hm
  have emn : mnv S' k = mnv S k := congrArg p_mn ek
  refine ⟨?_, by omega⟩
  rw [made_of (k := k) (f := fun _ => 0) (by rw [slN_m n2, slN_m tk]) (fun s hs => ?_), sum_zero, m4, Nat.sub_self]
  rw [slN_m n2] at hs
  rw [ndN_m n2 hs, ndN_m tk hs, emn, m1 s]
  by_cases h0 : 0 < mnv S k s
  · rw [if_pos h0, if_pos ⟨h0, rfl⟩]
  · rw [if_neg h0, if_neg (fun q => h0 q.1)]
end MD
