/-! The law's rows: what a value is, as the law keeps it. -/
/-- an element that the law puts in -/
def smE (e : Int32) : Prop := ∃ p, p < 9 ∧ e = nI p - nI 4
theorem smE_all {P : Int32 → Prop} (h : ∀ p, p < 9 → P (nI p - nI 4)) {e : Int32} (he : smE e) : P e := by
  obtain ⟨p, hp, rfl⟩ := he
  exact h p hp
theorem all9 {P : Nat → Prop} (h0 : P 0) (h1 : P 1) (h2 : P 2) (h3 : P 3) (h4 : P 4) (h5 : P 5) (h6 : P 6) (h7 : P 7) (h8 : P 8) : ∀ p, p < 9 → P p := fun p hp => by
  have : p = 0 ∨ p = 1 ∨ p = 2 ∨ p = 3 ∨ p = 4 ∨ p = 5 ∨ p = 6 ∨ p = 7 ∨ p = 8 := by omega
  rcases this with z | z | z | z | z | z | z | z | z <;> subst z <;> assumption
theorem smE_elB {e : Int32} (he : smE e) : elB e = true := smE_all (P := fun e => elB e = true) (all9 (by decide) (by decide) (by decide) (by decide) (by decide) (by decide) (by decide) (by decide) (by decide)) he
theorem smE_ne {e : Int32} (he : smE e) : e ≠ nI 2000 ∧ e ≠ -20005 := smE_all (P := fun e => e ≠ nI 2000 ∧ e ≠ -20005) (all9 (by decide) (by decide) (by decide) (by decide) (by decide) (by decide) (by decide) (by decide) (by decide)) he
def RowP (P : VPr) (f : Nat → Int32) : Prop := f 0 = nI (p_ty P) ∧ f 1 = nI (p_sz P) ∧ (pvec P → ∀ j, j < p_sz P → f (2 + j) = p_el P j ∧ smE (p_el P j)) ∧
  (p_ty P = 109 → (∀ j, j < 40 → f (2 + j) = if p_hs P (25 * j) = true then p_of P (25 * j) else nI 2000) ∧ (∀ j, j % 25 ≠ 0 → p_hs P j = false) ∧ ∀ j, p_hs P j = true → smE (p_of P j))
section AN
variable {V : SV} {k : Nat}
theorem ixB_n1 {j n : Nat} (hj : j < n) (hn : n < 2 ^ 31) : ixB (nI j) n = true := by
  unfold ixB inB
  have e : nI n - 1 = nI (n - 1) := by
    rw [show nI n = nI (n - 1) + nI 1 by rw [nI_add]; congr 1; omega]
    exact Int32.add_sub_cancel _ _
  rw [Bool.and_eq_true, decide_eq_true_eq, decide_eq_true_eq, e]
  exact ⟨(nI_leI (a := 0) (by decide) (by omega)).mpr (Nat.zero_le _), (nI_leI (by omega) (by omega)).mpr (by omega)⟩
theorem ixB_n0 {j n : Nat} (hj : n ≤ j) (hj2 : j < 2 ^ 31) : ixB (nI j) n = false := by
  cases h : ixB (nI j) n with
  | false => rfl
  | true => have := (ixk hj2 (by omega) h).2; omega
theorem ixB_m {n : Nat} (hn : n < 2 ^ 31) : ixB (-1) n = false := ixm hn
theorem an_size (hk : k < sNv V) (hn : sNv V < 2 ^ 31) : dA [-20001] (o_size V (nI k) k) = nI (sSz V k) := by
  unfold o_size
  rw [ixB_n1 hk hn]
  rfl
theorem an_sizeN (hk : sNv V ≤ k) (hn : k < 2 ^ 31) : dA [-20001] (o_size V (nI k) k) = -20001 := by
  unfold o_size
  rw [ixB_n0 hk hn]
  rfl
theorem an_isOpen (hk : k < sNv V) (hn : sNv V < 2 ^ 31) : dA [-20001] (o_isOpen V (nI k) k) = bI (decide (sTy V k = 111)) := by
  unfold o_isOpen
  rw [ixB_n1 hk hn]
  rfl
theorem an_depth (hk : k < sNv V) (hn : sNv V < 2 ^ 31) : dA [-20001, -20004] (o_depth V (nI k) k) = if vecB V k = true then nI (dOf (sSz V k)) else -20004 := by
  unfold o_depth
  rw [ixB_n1 hk hn]
  cases vecB V k <;> rfl
theorem an_nodes (hk : k < sNv V) (hn : sNv V < 2 ^ 31) : dA [-20001] (o_nodes V (nI k) k) = nI (nsN V k) := by
  unfold o_nodes
  rw [ixB_n1 hk hn]
  rfl
theorem an_shared {w : Nat} (hk : k < sNv V) (hw : w < sNv V) (hn : sNv V < 2 ^ 31) : dA [-20001] (o_shared V (nI k) k (nI w) w) = nI (shN V k w) := by
  unfold o_shared
  rw [ixB_n1 hk hn, ixB_n1 hw hn]
  rfl
theorem an_get {w : Int32} {j : Nat} (hk : k < sNv V) (hn : sNv V < 2 ^ 31) : dA [-20001, -20005] (o_get V (nI k) k w j) = if hasB V k w j = true then getV V k j else -20005 := by
  unfold o_get
  rw [ixB_n1 hk hn]
  cases hasB V k w j <;> rfl
theorem an_level {w : Int32} {j : Nat} (hk : k < sNv V) (hn : sNv V < 2 ^ 31) (ht : sTy V k = 109) : dA [-20001, -20004, -20005] (o_levelOf V (nI k) k w j) = if hasB V k w j = true then nI (lvF V k j 4 0) else -20005 := by
  unfold o_levelOf
  rw [ixB_n1 hk hn, if_neg (by decide), if_neg (by omega)]
  cases hasB V k w j <;> rfl
theorem lvF_leL {v key : Nat} : ∀ m l, lvF V v key m l ≤ m + l := by
  intro m
  induction m with
  | zero => intro l; unfold lvF; omega
  | succ m ih =>
    intro l
    unfold lvF
    split
    · have := ih (l + 1); omega
    · omega
theorem dOf_le3 {n : Nat} : dOf n ≤ 3 := by unfold dOf; (repeat' split) <;> omega
theorem nI_ne (n : Nat) (hn : n < 2 ^ 31) (z : Int32) (hz : z < 0) : nI n ≠ z := fun e => nI_nn hn (by rw [e]; exact hz)
theorem ns_pos (H : SVI V) (hk : k < sNv V) (ht : sTy V k ≠ 120) : 0 < nsN V k := by
  have P := H.2.1 k hk
  have h0 : 0 < ndN V k 0 := by
    rcases P.1 with h | h | h | h
    · have hv : pvec (vp V k) := Or.inl h
      have hi : ith 0 (sSz V k) = true := by unfold ith dOf hOf frm; simp; (repeat' split) <;> omega
      rw [ndN_v hv (by decide), if_pos hi]
      exact P.2.2.2.2 hv 0 (by decide) hi
    · have hv : pvec (vp V k) := Or.inr h
      have hi : ith 0 (sSz V k) = true := by unfold ith dOf hOf frm; simp; (repeat' split) <;> omega
      rw [ndN_v hv (by decide), if_pos hi]
      exact P.2.2.2.2 hv 0 (by decide) hi
    · have h : sTy V k = 109 := h
      rw [ndN_m h (by decide)]
      exact ((P.2.2.2.1 h).2.2.1 0 0 (by decide) (by decide)).mp (Or.inl rfl)
    · exact absurd h ht
  unfold nsN
  have hs : 0 < slN V k := by unfold slN; split <;> decide
  obtain ⟨m, hm⟩ : ∃ m, slN V k = 1 + m := ⟨slN V k - 1, by omega⟩
  rw [hm]
  have key : ∀ m, 0 < sumN (fun s => if 0 < ndN V k s then 1 else 0) (1 + m) := by
    intro m
    induction m with
    | zero => show 0 < 0 + (if 0 < ndN V k 0 then 1 else 0); rw [if_pos h0]; decide
    | succ m ih => exact Nat.lt_of_lt_of_le ih (Nat.le_add_right _ _)
  exact key m
theorem sumN_01 {f : Nat → Nat} (h : ∀ j, f j ≤ 1) : ∀ n, sumN f n ≤ n := by
  intro n
  induction n with
  | zero => exact Nat.le_refl _
  | succ n ih => have := h n; show sumN f n + f n ≤ n + 1; omega
theorem ns_le : nsN V k ≤ 341 := by
  unfold nsN
  refine Nat.le_trans (sumN_01 (fun j => by split <;> omega) _) ?_
  unfold slN; split <;> decide
theorem sh_le {w : Nat} : shN V k w ≤ 341 := by
  unfold shN
  refine Nat.le_trans (sumN_01 (fun j => by split <;> omega) _) ?_
  have : slN V k ≤ 341 := by unfold slN; split <;> decide
  split <;> omega
theorem ns_x (ht : sTy V k = 120) : nsN V k = 0 := by
  unfold nsN
  rw [show sumN (fun s => if 0 < ndN V k s then 1 else 0) (slN V k) = sumN (fun _ => 0) (slN V k) from sumN_c _ (fun s _ => if_neg (fun z => by
    unfold ndN vecB at z
    rw [ht] at z
    simp at z)), sum_zero]
/-- what is found at a place of a vector -/
theorem has_v {j : Nat} (ht : sTy V k ≠ 109) (hj : j < sSz V k) (hs : sSz V k ≤ 64) : hasB V k (nI j) j = true ∧ getV V k j = elv V k j := by
  unfold hasB getV elv
  rw [if_neg ht, if_neg ht, if_pos (by omega)]
  exact ⟨ixB_n1 hj (by omega), rfl⟩
theorem hasN_v {j : Nat} {w : Int32} (ht : sTy V k ≠ 109) (h : ixB w (sSz V k) = false) : hasB V k w j = false := by
  unfold hasB
  rw [if_neg ht]
  exact h
theorem has_m {j : Nat} (ht : sTy V k = 109) (hj : j < 1000) : hasB V k (nI j) j = hsv V k j ∧ getV V k j = ofv V k j := by
  unfold hasB getV hsv ofv
  rw [if_pos ht, if_pos ht, if_pos hj, if_pos hj, ixB_n1 hj (by decide), Bool.true_and]
  exact ⟨rfl, rfl⟩
theorem hasN_m {j : Nat} {w : Int32} (ht : sTy V k = 109) (h : ixB w 1000 = false) : hasB V k w j = false := by
  unfold hasB
  rw [if_pos ht, h]
  rfl
end AN
