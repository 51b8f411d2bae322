/-! The class: what holds of the values is kept by every call. -/
def VK (S S' : SV) : Prop := SVI S' ∧ sMd S ≤ sMd S' ∧ sMd S' ≤ sMd S + 25
theorem onp_le {n pl : Nat} : onp n pl ≤ 3 := by unfold onp; (repeat' split) <;> omega
theorem crM_le {hs : Nat → Bool} {key : Nat} : ∀ m l, crM hs key m l ≤ m := by
  intro m
  induction m with
  | zero => intro l; exact Nat.le_refl _
  | succ m ih => intro l; rw [crM]; split
                 · have := ih (l + 1); omega
                 · omega
section VKS
variable {S S' : SV} {k : Nat} {u : Int32}
theorem VK.rf (H : SVI S) : VK S S := ⟨H, Nat.le_refl _, by omega⟩
theorem nb_t9 {b : Bool} (h : ¬ (!b) = true) : b = true := by revert h; cases b <;> decide
theorem k_vector (H : SVI S) : VK S (o_vector S).2.2 := by
  have h60 := H.1
  unfold o_vector
  split
  · exact VK.rf H
  · have e := vec_f (S := S)
    exact ⟨vec_svi H (by omega), by show sMd S ≤ sMd (s_vec S); rw [e.2.2.2.2.1]; omega, by show sMd (s_vec S) ≤ _; rw [e.2.2.2.2.1]; omega⟩
theorem k_append {e : Int32} (H : SVI S) (hu : ixB u (sNv S) = true → u = nI k ∧ k < sNv S) : VK S (o_append S u k e).2.2 := by
  have h60 := H.1
  unfold o_append
  split
  · exact VK.rf H
  · next a =>
    have hk := (hu (nb_t9 a)).2
    split
    · exact VK.rf H
    · split
      · exact VK.rf H
      · next b =>
        have ht : sTy S k = 118 := by
          by_cases z : sTy S k = 118
          · exact z
          · exact absurd (Or.inl z) b
        have hz : sSz S k ≤ 64 := (H.2.1 k hk).2.1
        have hz2 : sSz S k < 64 := by
          by_cases z : sSz S k = 64
          · exact absurd (Or.inr z) b
          · omega
        split
        · exact VK.rf H
        · have N := NVF.append (c := 118) (e := e) hk hz2
          have := N.2.2.2.2
          have l3 := onp_le (n := sSz S k + 1) (pl := sSz S k)
          exact ⟨N.svi H (by omega) hk (Or.inl ht) (by omega) (Or.inl rfl) hz2 (by omega) (off_up (Or.inr ⟨rfl, rfl⟩) (by omega)), by show sMd S ≤ sMd (s_nf _ _ _); omega, by show sMd (s_nf _ _ _) ≤ _; omega⟩
theorem k_set {i : Int32} {j : Nat} {e : Int32} (H : SVI S) (hu : ixB u (sNv S) = true → u = nI k ∧ k < sNv S) (hi : ixB i (sSz S k) = true → i = nI j ∧ j < sSz S k) : VK S (o_set S u k i j e).2.2 := by
  have h60 := H.1
  unfold o_set
  split
  · exact VK.rf H
  · next a =>
    have hk := (hu (nb_t9 a)).2
    split
    · exact VK.rf H
    · split
      · exact VK.rf H
      · next b =>
        have ht : sTy S k = 118 := by omega
        have hz : sSz S k ≤ 64 := (H.2.1 k hk).2.1
        split
        · exact VK.rf H
        · next c =>
          have hj := (hi (by cases q : ixB i (sSz S k) with | true => rfl | false => exact absurd q c)).2
          split
          · exact VK.rf H
          · by_cases he : elv S k j = e
            · have N := NVS.set (c := 118) (e := e) hk (show j < 64 by omega) he
              have := N.2.2
              exact ⟨N.svi H (by omega) hk (Or.inl ht) (by omega) (Or.inl rfl), by show sMd S ≤ sMd (s_nf _ _ _); omega, by show sMd (s_nf _ _ _) ≤ _; omega⟩
            · have N := NVF.set (c := 118) (e := e) hk hz hj he
              have := N.2.2.2.2
              have l3 := onp_le (n := sSz S k) (pl := j)
              exact ⟨N.svi H (by omega) hk (Or.inl ht) (by omega) (Or.inl rfl) (by omega) (by omega) (off_up (Or.inl ⟨rfl, hj⟩) (by omega)), by show sMd S ≤ sMd (s_nf _ _ _); omega, by show sMd (s_nf _ _ _) ≤ _; omega⟩
theorem k_cut (H : SVI S) (hu : ixB u (sNv S) = true → u = nI k ∧ k < sNv S) : VK S (o_cut S u k).2.2 := by
  have h60 := H.1
  unfold o_cut
  split
  · exact VK.rf H
  · next a =>
    have hk := (hu (nb_t9 a)).2
    split
    · exact VK.rf H
    · next b =>
      have ht : sTy S k = 118 := by omega
      have hz : sSz S k ≤ 64 := (H.2.1 k hk).2.1
      split
      · exact VK.rf H
      · next c =>
        split
        · exact VK.rf H
        · obtain ⟨pl, ep⟩ : ∃ pl, sSz S k = pl + 1 := ⟨sSz S k - 1, by omega⟩
          have N := NVF.cut (c := 118) hk (show pl < 64 by omega) ep
          have := N.2.2.2.2
          have l3 := onp_le (n := pl) (pl := pl)
          exact ⟨N.svi H (by omega) hk (Or.inl ht) (by omega) (Or.inl rfl) (by omega) (by omega) (fun s hs hi ho => by rw [ep, ← ith_dn hs (by omega) ho]; exact hi), by show sMd S ≤ sMd (s_nf _ _ _); omega, by show sMd (s_nf _ _ _) ≤ _; omega⟩
theorem k_open (H : SVI S) (hu : ixB u (sNv S) = true → u = nI k ∧ k < sNv S) : VK S (o_open S u k).2.2 := by
  have h60 := H.1
  unfold o_open
  split
  · exact VK.rf H
  · next a =>
    have hk := (hu (nb_t9 a)).2
    split
    · exact VK.rf H
    · next b =>
      have ht : sTy S k = 118 := by omega
      split
      · exact VK.rf H
      · have N := NVS.dup (S := S) (c := 111) (k := k) hk
        have := N.2.2
        exact ⟨N.svi H (by omega) hk (Or.inl ht) (by omega) (Or.inr rfl), by show sMd S ≤ sMd (s_nf _ _ _); omega, by show sMd (s_nf _ _ _) ≤ _; omega⟩
theorem k_lasting (H : SVI S) (hu : ixB u (sNv S) = true → u = nI k ∧ k < sNv S) : VK S (o_lasting S u k).2.2 := by
  have h60 := H.1
  unfold o_lasting
  split
  · exact VK.rf H
  · next a =>
    have hk := (hu (nb_t9 a)).2
    split
    · exact VK.rf H
    · next b =>
      have ht : sTy S k = 111 := by omega
      split
      · exact VK.rf H
      · have N := NVS.dup (S := S) (c := 118) (k := k) hk
        have := N.2.2
        exact ⟨last_svi H (by omega) hk ht, by show sMd S ≤ sMd (s_nf _ _ _); omega, by show sMd (s_nf _ _ _) ≤ _; omega⟩
theorem k_appendTo {e : Int32} (H : SVI S) (hu : ixB u (sNv S) = true → u = nI k ∧ k < sNv S) : VK S (o_appendTo S u k e).2.2 := by
  unfold o_appendTo
  split
  · exact VK.rf H
  · next a =>
    have hk := (hu (nb_t9 a)).2
    split
    · exact VK.rf H
    · split
      · exact VK.rf H
      · next b =>
        have ht : sTy S k = 111 := by
          by_cases z : sTy S k = 111
          · exact z
          · exact absurd (Or.inl z) b
        have hz : sSz S k ≤ 64 := (H.2.1 k hk).2.1
        have hz2 : sSz S k < 64 := by
          by_cases z : sSz S k = 64
          · exact absurd (Or.inr z) b
          · omega
        have N := chX_a (S := S) (k := k) (e := e) hz2
        have := N.2.2.2.2.2
        have l3 := crN_le (ru := ruO S k) (pl := sSz S k) (dOf (sSz S k + 1) + 1)
        have d3 := dOf_b (sSz S k + 1)
        exact ⟨N.svi H hk ht (Nat.lt_succ_self _) (by omega) (Or.inr ⟨rfl, rfl⟩), by show sMd S ≤ sMd (chX _ _ _ _); omega, by show sMd (chX _ _ _ _) ≤ _; omega⟩
theorem k_setIn {i : Int32} {j : Nat} {e : Int32} (H : SVI S) (hu : ixB u (sNv S) = true → u = nI k ∧ k < sNv S) (hi : ixB i (sSz S k) = true → i = nI j ∧ j < sSz S k) : VK S (o_setIn S u k i j e).2.2 := by
  unfold o_setIn
  split
  · exact VK.rf H
  · next a =>
    have hk := (hu (nb_t9 a)).2
    split
    · exact VK.rf H
    · split
      · exact VK.rf H
      · next b =>
        have ht : sTy S k = 111 := by omega
        have hz : sSz S k ≤ 64 := (H.2.1 k hk).2.1
        split
        · exact VK.rf H
        · next c =>
          have hj := (hi (by cases q : ixB i (sSz S k) with | true => rfl | false => exact absurd q c)).2
          by_cases he : elv S k j = e
          · obtain ⟨q1, q2, q3⟩ := chX_s (S := S) (k := k) (e := e) hz hj he
            exact ⟨H.cg q1 q2 q3, by show sMd S ≤ sMd (chX _ _ _ _); omega, by show sMd (chX _ _ _ _) ≤ _; omega⟩
          · have N := chX_o (S := S) (k := k) (e := e) hz hj he
            have := N.2.2.2.2.2
            have l3 := crN_le (ru := ruO S k) (pl := j) (dOf (sSz S k) + 1)
            have d3 := dOf_b (sSz S k)
            exact ⟨N.svi H hk ht hj hz (Or.inl ⟨rfl, hj⟩), by show sMd S ≤ sMd (chX _ _ _ _); omega, by show sMd (chX _ _ _ _) ≤ _; omega⟩
theorem k_map (H : SVI S) : VK S (o_map S).2.2 := by
  have h60 := H.1
  unfold o_map
  split
  · exact VK.rf H
  · exact ⟨map_svi H (by omega), by show sMd S ≤ sMd S + 1; omega, by show sMd S + 1 ≤ _; omega⟩
theorem k_put {w : Int32} {j : Nat} {e : Int32} (H : SVI S) (hu : ixB u (sNv S) = true → u = nI k ∧ k < sNv S) (hw : ixB w 1000 = true → w = nI j ∧ j < 1000) : VK S (o_put S u k w j e).2.2 := by
  have h60 := H.1
  unfold o_put
  split
  · exact VK.rf H
  · next a =>
    have hk := (hu (nb_t9 a)).2
    split
    · exact VK.rf H
    · next b0 =>
      have hj : j < 1000 := (hw (by cases q : ixB w 1000 with | true => rfl | false => exact absurd (by rw [q]; rfl) b0)).2
      split
      · exact VK.rf H
      · next b =>
        have ht : sTy S k = 109 := by
          by_cases z : sTy S k = 109
          · exact z
          · exact absurd (Or.inl z) b
        have pk := (H.2.1 k hk).2.2.2.1 ht
        have p40 : sSz S k ≤ 40 := pk.2.1
        have pz : sSz S k = ct (hsv S k) 0 0 := pk.1
        have hsj := hsv_at (S := S) (v := k) hj
        split
        · exact VK.rf H
        · have N := pt_f (e := e) hk hj
          split
          · next c =>
            rw [if_pos c.1] at N
            have hh : hsv S k j = true := hsj.trans c.1
            have ho : ofv S k j = e := (ofv_at hj).trans c.2
            have := N.2.2
            refine ⟨N.svi H (by omega) hk ht rfl (fun i => ?_) (fun i => ?_), by show sMd S ≤ sMd (ptS _ _ _ _); omega, by show sMd (ptS _ _ _ _) ≤ _; omega⟩
            · rw [va_up_app]
              by_cases z : i = j
              · rw [if_pos z, z, hh]
              · rw [if_neg z]
            · rw [va_up_app]
              by_cases z : i = j
              · rw [if_pos z, z, ho]
              · rw [if_neg z]
          · have F := MNF.mk (key := j) N
            have := F.2.2.2.2.1
            have l3 := crM_le (hs := va_up (hsv S k) j true) (key := j) 4 0
            have zc : (sSz S k + if sHs S (1000 * k + j) = true then 0 else 1) = ct (va_up (hsv S k) j true) 0 0 := by
              rw [ct_pk hj, btN_0, if_pos rfl, ← pz, hsj]
            refine ⟨F.svi H (by omega) hk ht zc ?_ (fun i hi => va_ne hi) (fun i hi => ?_), by show sMd S ≤ sMd (cnS _ _ _ _); omega, by show sMd (cnS _ _ _ _) ≤ _; omega⟩
            · by_cases z : sHs S (1000 * k + j) = true
              · rw [if_pos z]; omega
              · rw [if_neg z]
                have : sSz S k ≠ 40 := fun y => b (Or.inr ⟨by cases q : sHs S (1000 * k + j) with | false => rfl | true => exact absurd q z, y⟩)
                omega
            · rw [va_up_app] at hi ⊢
              by_cases z : i = j
              · rw [if_pos z] at hi; cases hi
              · rw [if_neg z] at hi ⊢; exact pk.2.2.2 i hi
theorem k_without {w : Int32} {j : Nat} (H : SVI S) (hu : ixB u (sNv S) = true → u = nI k ∧ k < sNv S) (hw : ixB w 1000 = true → w = nI j ∧ j < 1000) : VK S (o_without S u k w j).2.2 := by
  have h60 := H.1
  unfold o_without
  split
  · exact VK.rf H
  · next a =>
    have hk := (hu (nb_t9 a)).2
    split
    · exact VK.rf H
    · next b =>
      have ht : sTy S k = 109 := by omega
      split
      · exact VK.rf H
      · next c =>
        have c2 : (ixB w 1000 && sHs S (1000 * k + j)) = true := by
          cases q : (ixB w 1000 && sHs S (1000 * k + j)) with
          | true => rfl
          | false => exact absurd q c
        rw [Bool.and_eq_true] at c2
        have hj := (hw c2.1).2
        have hh : hsv S k j = true := (hsv_at hj).trans c2.2
        have pk := (H.2.1 k hk).2.2.2.1 ht
        have p40 : sSz S k ≤ 40 := pk.2.1
        have pz : sSz S k = ct (hsv S k) 0 0 := pk.1
        split
        · exact VK.rf H
        · have F := MNF.mk (key := j) (wt_f hk hj)
          have := F.2.2.2.2.1
          have l3 := crM_le (hs := va_up (hsv S k) j false) (key := j) 4 0
          have zc : sSz S k - 1 = ct (va_up (hsv S k) j false) 0 0 := by
            have q := ct_pk (hs := va_up (hsv S k) j false) (L := 0) (B := 0) hj
            rw [btN_0, if_pos rfl, va_up_self, if_neg (by decide)] at q
            have e : va_up (va_up (hsv S k) j false) j true = hsv S k := funext fun i => by
              rw [va_up_app]
              by_cases z : i = j
              · rw [if_pos z, z, hh]
              · rw [if_neg z, va_ne z]
            rw [e, ← pz] at q
            omega
          refine ⟨F.svi H (by omega) hk ht zc (by omega) (fun i hi => va_ne hi) (fun i hi => ?_), by show sMd S ≤ sMd (cnS _ _ _ _); omega, by show sMd (cnS _ _ _ _) ≤ _; omega⟩
          rw [va_up_app] at hi ⊢
          by_cases z : i = j
          · rw [if_pos z]
          · rw [if_neg z] at hi ⊢; exact pk.2.2.2 i hi
theorem k_collect {n s : Nat} {x : Nat → QIS} (H : SVI S) (ht : ixB u n = true → tot (q_F (x s)) ≤ 64) : VK S (o_collect S n x u s).2.2.1 := by
  have h60 := H.1
  unfold o_collect
  split
  · exact VK.rf H
  · next a =>
    split
    · exact VK.rf H
    · split
      · exact VK.rf H
      · split
        · exact VK.rf H
        · have t64 := ht (nb_t9 a)
          have f := (col_f (S := S) (xs := q_F (x s)) t64).2.2.2.2.2.2.2.1
          have c21 : cn21 (tot (q_F (x s))) ≤ 21 := sum01 (fun s => by split <;> omega) 21
          exact ⟨col_svi H (by omega) t64, by show sMd S ≤ sMd (colS _ _); omega, by show sMd (colS _ _) ≤ _; omega⟩
end VKS
