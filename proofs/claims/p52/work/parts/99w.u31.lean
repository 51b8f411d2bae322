/-! The class: one map more. -/
theorem lst_inj {l L b B : Nat} (hl : l ≤ 4) (hL : L ≤ 4) (hb : b < 2 ^ (2 * l)) (hB : B < 2 ^ (2 * L)) (e : lst l + b = lst L + B) : l = L ∧ b = B := by
  have h : l = 0 ∨ l = 1 ∨ l = 2 ∨ l = 3 ∨ l = 4 := by omega
  have g : L = 0 ∨ L = 1 ∨ L = 2 ∨ L = 3 ∨ L = 4 := by omega
  have p0 : (2 : Nat) ^ (2 * 0) = 1 := rfl
  have p1 : (2 : Nat) ^ (2 * 1) = 4 := rfl
  have p2 : (2 : Nat) ^ (2 * 2) = 16 := rfl
  have p3 : (2 : Nat) ^ (2 * 3) = 64 := rfl
  have p4 : (2 : Nat) ^ (2 * 4) = 256 := rfl
  rcases h with rfl | rfl | rfl | rfl | rfl <;> rcases g with rfl | rfl | rfl | rfl | rfl <;> simp only [lst, p0, p1, p2, p3, p4] at hb hB e <;> (first | exact ⟨rfl, by simpa using e⟩ | (exfalso; revert e; simp; omega))
/-- a key's node is there -/
abbrev prM (hs : Nat → Bool) (key i : Nat) : Prop := i = 0 ∨ 1 < ct hs i (btN key i)
def cP (hs : Nat → Bool) (key l : Nat) : Nat := sumN (fun i => if prM hs key i then 1 else 0) l
theorem cP_5 {hs : Nat → Bool} {key : Nat} : cP hs key 5 = 1 + crM hs key 4 0 := by
  have h1 := ct_dn (hs := hs) (key := key) (l := 1)
  have h2 := ct_dn (hs := hs) (key := key) (l := 2)
  have h3 := ct_dn (hs := hs) (key := key) (l := 3)
  simp only [cP, sumN, crM, prM, Nat.zero_add]
  simp only [show (1 : Nat) + 1 = 2 from rfl, show (2 : Nat) + 1 = 3 from rfl, show (3 : Nat) + 1 = 4 from rfl] at *
  by_cases a1 : 1 < ct hs 1 (btN key 1) <;> by_cases a2 : 1 < ct hs 2 (btN key 2) <;> by_cases a3 : 1 < ct hs 3 (btN key 3) <;> by_cases a4 : 1 < ct hs 4 (btN key 4) <;> simp [a1, a2, a3, a4] <;> omega
section CNL
variable {T : SV} {n key : Nat}
theorem cnS_al {l : Nat} : alN T n key l = ct (hsv T n) l (btN key l) := by rw [alN_ct, ct_hsv]
theorem cnS_st : ∀ l, (cnS T n key (l + 1)) = if prM (hsv T n) key l then s_10 (s_2 (cnS T n key l) (sMd (cnS T n key l) + 1)) (341 * n + sltN key l) (sMd (cnS T n key l) + 1) else s_10 (cnS T n key l) (341 * n + sltN key l) 0 := fun l => by
  rw [cnS]
  show (if l = 0 ∨ 1 < alN T n key l then _ else _) = _
  rw [cnS_al]
theorem cnS_vp {v : Nat} (hv : v ≠ n) : ∀ l, l ≤ 5 → vp (cnS T n key l) v = vp T v := by
  intro l
  induction l with
  | zero => intro _; rfl
  | succ l ih =>
    intro hl
    rw [cnS_st]
    have hs := sltN_lt (k := key) (l := l) (by omega)
    split
    · rw [vp_10 hv hs]; exact ih (by omega)
    · rw [vp_10 hv hs]; exact ih (by omega)
theorem cnS_sm : ∀ l, sNv (cnS T n key l) = sNv T ∧ sTy (cnS T n key l) = sTy T ∧ sSz (cnS T n key l) = sSz T ∧ sHs (cnS T n key l) = sHs T ∧ sOf (cnS T n key l) = sOf T ∧ sOw (cnS T n key l) = sOw T ∧ sMd (cnS T n key l) = sMd T + cP (hsv T n) key l := by
  intro l
  induction l with
  | zero => exact ⟨rfl, rfl, rfl, rfl, rfl, rfl, rfl⟩
  | succ l ih =>
    obtain ⟨a1, a2, a3, a4, a5, a6, a7⟩ := ih
    rw [cnS_st]
    split
    · next q =>
      refine ⟨a1, a2, a3, a4, a5, a6, ?_⟩
      show sMd (cnS T n key l) + 1 = _
      rw [a7, cP, cP, sumN, if_pos q]; rfl
    · next q =>
      refine ⟨a1, a2, a3, a4, a5, a6, ?_⟩
      show sMd (cnS T n key l) = _
      rw [a7, cP, cP, sumN, if_neg q]; rfl
theorem slt_ne {i l : Nat} (hi : i ≤ 4) (hl : l ≤ 4) (h : i ≠ l) : sltN key i ≠ sltN key l := fun e => h (lst_inj hi hl (btN_lt key i) (btN_lt key l) e).1
theorem cnS_mn : ∀ l, l ≤ 5 → (∀ s, (∀ i, i < l → s ≠ sltN key i) → sMn (cnS T n key l) (341 * n + s) = sMn T (341 * n + s)) ∧ (∀ i, i < l → sMn (cnS T n key l) (341 * n + sltN key i) = if prM (hsv T n) key i then sMd T + cP (hsv T n) key i + 1 else 0) := by
  intro l
  induction l with
  | zero => intro _; exact ⟨fun _ _ => rfl, fun i h => absurd h (Nat.not_lt_zero _)⟩
  | succ l ih =>
    intro hl
    obtain ⟨h1, h2⟩ := ih (by omega)
    have hm := (cnS_sm (T := T) (n := n) (key := key) l).2.2.2.2.2.2
    rw [cnS_st]
    refine ⟨fun s hs => ?_, fun i hi => ?_⟩
    · have e : ∀ x, va_up (sMn (cnS T n key l)) (341 * n + sltN key l) x (341 * n + s) = sMn T (341 * n + s) := fun x => by
        rw [va_up_ne _ _ (by have := hs l (by omega); omega)]; exact h1 s (fun i hi => hs i (by omega))
      split
      · exact e _
      · exact e _
    · by_cases z : i = l
      · subst z
        split
        · next q => show va_up _ _ _ _ = _; rw [va_up_self, hm]
        · next q => show va_up _ _ _ _ = _; rw [va_up_self]
      · have e : ∀ x, va_up (sMn (cnS T n key l)) (341 * n + sltN key l) x (341 * n + sltN key i) = sMn (cnS T n key l) (341 * n + sltN key i) := fun x => va_up_ne _ _ (by have := slt_ne (key := key) (i := i) (l := l) (by omega) (by omega) z; omega)
        split
        · exact (e _).trans (h2 i (by omega))
        · exact (e _).trans (h2 i (by omega))
end CNL
theorem cP_mono {hs : Nat → Bool} {key a b : Nat} (h : a ≤ b) : cP hs key a ≤ cP hs key b := by
  induction b with
  | zero => rw [Nat.le_zero.mp h]; exact Nat.le_refl _
  | succ b ih =>
    by_cases e : a = b + 1
    · rw [e]; exact Nat.le_refl _
    · refine Nat.le_trans (ih (by omega)) ?_
      rw [cP, cP, sumN]; omega
theorem cP_s {hs : Nat → Bool} {key a b : Nat} (h : a < b) (hp : prM hs key a) : cP hs key a + 1 ≤ cP hs key b := by
  have := cP_mono (hs := hs) (key := key) (show a + 1 ≤ b by omega)
  have e : cP hs key (a + 1) = cP hs key a + 1 := by rw [cP, cP, sumN, if_pos hp]
  omega
/-- a map more, whose nodes are another's but for a key's way -/
def MNF (S S' : SV) (k key z : Nat) (hs' : Nat → Bool) (of' : Nat → Int32) : Prop := (sNv S' = sNv S + 1 ∧ sTy S' (sNv S) = 109 ∧ sSz S' (sNv S) = z ∧ hsv S' (sNv S) = hs' ∧ ofv S' (sNv S) = of' ∧ (∀ v, v < sNv S → vp S' v = vp S v)) ∧
    (∀ L B, L ≤ 4 → B < 2 ^ (2 * L) → B ≠ btN key L → mnv S' (sNv S) (lst L + B) = mnv S k (lst L + B)) ∧ (∀ i, i ≤ 4 → (i = 0 ∨ 1 < ct hs' i (btN key i)) → sMd S < mnv S' (sNv S) (sltN key i) ∧ mnv S' (sNv S) (sltN key i) ≤ sMd S') ∧ (∀ i j, i < j → j ≤ 4 → 1 < ct hs' j (btN key j) → mnv S' (sNv S) (sltN key i) ≠ mnv S' (sNv S) (sltN key j)) ∧ sMd S' = sMd S + (1 + crM hs' key 4 0) ∧ (∀ i, i ≤ 4 → ¬ (i = 0 ∨ 1 < ct hs' i (btN key i)) → mnv S' (sNv S) (sltN key i) = 0)
def MNS (S S' : SV) (k z : Nat) (hs' : Nat → Bool) (of' : Nat → Int32) : Prop := (sNv S' = sNv S + 1 ∧ sTy S' (sNv S) = 109 ∧ sSz S' (sNv S) = z ∧ hsv S' (sNv S) = hs' ∧ ofv S' (sNv S) = of' ∧ (∀ v, v < sNv S → vp S' v = vp S v)) ∧ (∀ s, mnv S' (sNv S) s = mnv S k s) ∧ sMd S' = sMd S
theorem MNF.mk {S T : SV} {k key z : Nat} {hs' : Nat → Bool} {of' : Nat → Int32} (N : MNS S T k z hs' of') : MNF S (cnS T (sNv S) key 5) k key z hs' of' := by
  obtain ⟨⟨a1, a2, a3, a4, a5, a6⟩, a7, a8⟩ := N
  obtain ⟨b1, b2, b3, b4, b5, b6, b7⟩ := cnS_sm (T := T) (n := sNv S) (key := key) 5
  obtain ⟨c1, c2⟩ := cnS_mn (T := T) (n := sNv S) (key := key) 5 (Nat.le_refl _)
  have hs5 : hsv (cnS T (sNv S) key 5) (sNv S) = hs' := by unfold hsv; rw [b4]; exact a4
  have mn5 : ∀ s, s < 341 → mnv (cnS T (sNv S) key 5) (sNv S) s = sMn (cnS T (sNv S) key 5) (341 * sNv S + s) := fun s h => if_pos h
  have nw : ∀ i, i ≤ 4 → mnv (cnS T (sNv S) key 5) (sNv S) (sltN key i) = if prM hs' key i then sMd S + cP hs' key i + 1 else 0 := fun i hi => by
    rw [mn5 _ (sltN_lt hi), c2 i (by omega), a4, a8]
  rw [a4, a8] at b7
  refine ⟨⟨b1.trans a1, by rw [b2]; exact a2, by rw [b3]; exact a3, hs5, by unfold ofv; rw [b5]; exact a5, fun v hv => (cnS_vp (by omega) 5 (Nat.le_refl _)).trans (a6 v hv)⟩, fun L B hL hB hne => ?_, fun i hi hp => ?_, fun i j hij hj hp => ?_, by rw [b7, cP_5], fun i hi hp => ?_⟩
  · have hlt := lst_lt hL hB
    rw [mn5 _ hlt, c1 _ (fun i hi e => ?_)]
    · exact (show mnv T (sNv S) (lst L + B) = sMn T (341 * sNv S + (lst L + B)) from if_pos hlt).symm.trans (a7 _)
    · obtain ⟨z1, z2⟩ := lst_inj hL (by omega) hB (btN_lt key i) e
      subst z1; exact hne z2
  · rw [nw i hi, if_pos (show prM hs' key i from hp), b7]
    have := cP_s (show i < 5 by omega) (show prM hs' key i from hp)
    omega
  · rw [nw i (by omega), nw j hj, if_pos (show prM hs' key j from Or.inr hp)]
    split
    · next q => have := cP_s hij q; omega
    · omega
  · rw [nw i hi, if_neg (show ¬ prM hs' key i from hp)]
section MPL
variable {S : SV} {k : Nat}
theorem mapS_f (hk : k < sNv S) : MNS S (s_mapS S k) k (sSz S k) (hsv S k) (ofv S k) := by
  refine ⟨⟨rfl, va_up_self _ _ _, va_up_self _ _ _, funext fun j => ?_, funext fun j => ?_, fun v hv => ?_⟩, fun s => ?_, rfl⟩
  · unfold hsv
    by_cases e : j < 1000
    · rw [if_pos e, if_pos e]
      show blk (sHs S) (fun i => sHs S (1000 * k + i)) 1000 (sNv S) 1000 (1000 * sNv S + j) = _
      exact blk_i e
    · rw [if_neg e, if_neg e]
  · unfold ofv
    by_cases e : j < 1000
    · rw [if_pos e, if_pos e]
      show blk (sOf S) (fun i => sOf S (1000 * k + i)) 1000 (sNv S) 1000 (1000 * sNv S + j) = _
      exact blk_i e
    · rw [if_neg e, if_neg e]
  · exact vp_ext (va_ne (by omega)) ((va_ne (by omega)).trans (va_ne (by omega))) (fun _ _ => rfl) (fun _ _ => rfl) (fun _ _ => rfl) (fun i hi => show blk (sHs S) (fun i => sHs S (1000 * k + i)) 1000 (sNv S) 1000 (1000 * v + i) = _ from blk_o (by omega)) (fun i hi => show blk (sOf S) (fun i => sOf S (1000 * k + i)) 1000 (sNv S) 1000 (1000 * v + i) = _ from blk_o (by omega)) (fun i hi => show blk (sMn S) (fun i => sMn S (341 * k + i)) 341 (sNv S) 341 (341 * v + i) = _ from blk_o (by omega))
  · unfold mnv
    by_cases e : s < 341
    · rw [if_pos e, if_pos e]
      show blk (sMn S) (fun i => sMn S (341 * k + i)) 341 (sNv S) 341 (341 * sNv S + s) = _
      exact blk_i e
    · rw [if_neg e, if_neg e]
theorem hsv_8 (hk : k < sNv S) {T : SV} {n key : Nat} {b : Bool} (hkey : key < 1000) : hsv (s_8 T (1000 * n + key) b) n = va_up (hsv T n) key b := funext fun j => by
  rw [va_up_app]
  unfold hsv
  by_cases e : j < 1000
  · rw [if_pos e, if_pos e]
    show va_up (sHs T) (1000 * n + key) b (1000 * n + j) = _
    rw [va_up_app]
    by_cases q : j = key
    · rw [if_pos (by omega), if_pos q]
    · rw [if_neg (by omega), if_neg q]
  · rw [if_neg e, if_neg (by omega), if_neg e]
theorem ofv_9 (hk : k < sNv S) {T : SV} {n key : Nat} {b : Int32} (hkey : key < 1000) : ofv (s_9 T (1000 * n + key) b) n = va_up (ofv T n) key b := funext fun j => by
  rw [va_up_app]
  unfold ofv
  by_cases e : j < 1000
  · rw [if_pos e, if_pos e]
    show va_up (sOf T) (1000 * n + key) b (1000 * n + j) = _
    rw [va_up_app]
    by_cases q : j = key
    · rw [if_pos (by omega), if_pos q]
    · rw [if_neg (by omega), if_neg q]
  · rw [if_neg e, if_neg (by omega), if_neg e]
theorem pt_f (hk : k < sNv S) {key : Nat} {e : Int32} (hkey : key < 1000) : MNS S (ptS S k key e) k (sSz S k + if sHs S (1000 * k + key) = true then 0 else 1) (va_up (hsv S k) key true) (va_up (ofv S k) key e) := by
  obtain ⟨⟨a1, a2, a3, a4, a5, a6⟩, a7, a8⟩ := mapS_f hk
  refine ⟨⟨a1, a2, va_up_self _ _ _, ?_, ?_, fun v hv => ?_⟩, a7, a8⟩
  · rw [← a4]; exact hsv_8 (T := s_4 (s_mapS S k) (sNv S) (sSz S k + if sHs S (1000 * k + key) = true then 0 else 1)) hk hkey
  · rw [← a5]; exact ofv_9 (T := s_8 (s_4 (s_mapS S k) (sNv S) (sSz S k + if sHs S (1000 * k + key) = true then 0 else 1)) (1000 * sNv S + key) true) hk hkey
  · exact (vp_9 (by omega) hkey).trans ((vp_8 (by omega) hkey).trans ((vp_4 (by omega)).trans (a6 v hv)))
theorem wt_f (hk : k < sNv S) {key : Nat} (hkey : key < 1000) : MNS S (wtS S k key) k (sSz S k - 1) (va_up (hsv S k) key false) (va_up (ofv S k) key (nI 0)) := by
  obtain ⟨⟨a1, a2, a3, a4, a5, a6⟩, a7, a8⟩ := mapS_f hk
  refine ⟨⟨a1, a2, va_up_self _ _ _, ?_, ?_, fun v hv => ?_⟩, a7, a8⟩
  · rw [← a4]; exact hsv_8 (T := s_mapS S k) hk hkey
  · rw [← a5]; exact ofv_9 (T := s_8 (s_mapS S k) (1000 * sNv S + key) false) hk hkey
  · exact (vp_4 (by omega)).trans ((vp_9 (by omega) hkey).trans ((vp_8 (by omega) hkey).trans (a6 v hv)))
end MPL
