/-! What each call makes of the rows. -/
theorem crN_1 {ru : Nat → Bool} {pl : Nat} : ∀ n, crN ru pl (n + 1) ≤ n := by
  intro n
  induction n with
  | zero => exact Nat.le_refl _
  | succ n ih =>
    rw [crN_s (by omega)]
    split <;> omega
section PVV
variable {V : SV} {k : Nat} {f : Nat → Int32}
/-- one value more: the others as they were -/
def More (V V' : SV) : Prop := sNv V' = sNv V + 1 ∧ ∀ v, v < sNv V → vp V' v = vp V v
theorem RowP.vec {w : Nat} (h0 : f 0 = nI (sTy V w)) (h1 : f 1 = nI (sSz V w)) (ht : sTy V w ≠ 109) (h : ∀ j, j < sSz V w → f (2 + j) = elv V w j ∧ smE (elv V w j)) : RowP (vp V w) f := ⟨h0, h1, fun _ => h, fun z => absurd z ht⟩
theorem el_up {g : Nat → Int32} {p j : Nat} {e : Int32} : va_up g p e j = if j = p then e else g j := va_up_app ..
theorem vec_el (hP : RowP (vp V k) f) (ht : sTy V k = 118 ∨ sTy V k = 111) {j : Nat} (hj : j < sSz V k) : f (2 + j) = elv V k j ∧ smE (elv V k j) := hP.2.2.1 ht j hj
theorem pv_append (H : SVI V) (hk : k < sNv V) (ht : sTy V k = 118) (hz : sSz V k < 64) (h60 : sNv V < 60) {e : Int32} (he : smE e) (hP : RowP (vp V k) f) :
    ∃ V', o_append V (nI k) k e = (nI 0, nI (sNv V), V') ∧ More V V' ∧ mdI V V' k ∧ RowP (vp V' (sNv V)) (va_up (va_up f (2 + sSz V k) e) 1 (nI (sSz V k + 1))) := by
  have N := NVF.append (c := 118) (S := V) (e := e) hk hz
  refine ⟨_, ?_, ⟨N.1.1, N.1.2.2.2.2.1⟩, N.made H hk (Or.inl ht) (Or.inl rfl) hz (off_up (Or.inr ⟨rfl, rfl⟩) (by omega)), ?_⟩
  · unfold o_append
    rw [ixB_n1 hk (by omega), if_neg (by decide), smE_elB he, if_neg (by decide), if_neg (by omega), if_neg (by omega)]
  · refine RowP.vec ?_ ?_ (by rw [N.1.2.1]; decide) (fun j hj => ?_)
    · rw [N.1.2.1, el_up, if_neg (by decide), el_up, if_neg (by omega), hP.1]
      exact congrArg nI ht
    · rw [N.1.2.2.1, el_up, if_pos rfl]
    · rw [N.1.2.2.1] at hj
      rw [N.1.2.2.2.1, el_up, if_neg (by omega), el_up, el_up]
      by_cases q : j = sSz V k
      · rw [if_pos (by omega), if_pos q]
        exact ⟨rfl, he⟩
      · rw [if_neg (by omega), if_neg q]
        exact vec_el hP (Or.inl ht) (by omega)
theorem pv_appendN (hk : k < sNv V) (hn : sNv V ≤ 60) (hz : sSz V k = 64) {e : Int32} (he : smE e) : o_append V (nI k) k e = (nI 3, nI 0, V) := by
  unfold o_append
  rw [ixB_n1 hk (by omega), if_neg (by decide), smE_elB he, if_neg (by decide), if_pos (Or.inr hz)]
theorem pv_set (H : SVI V) (hk : k < sNv V) (ht : sTy V k = 118) {j : Nat} (hj : j < sSz V k) (h60 : sNv V < 60) {e : Int32} (he : smE e) (hP : RowP (vp V k) f) :
    ∃ V', o_set V (nI k) k (nI j) j e = (nI 0, nI (sNv V), V') ∧ More V V' ∧ mdI V V' k ∧ RowP (vp V' (sNv V)) (va_up f (2 + j) e) := by
  have hz : sSz V k ≤ 64 := (H.2.1 k hk).2.1
  have eo : o_set V (nI k) k (nI j) j e = (nI 0, nI (sNv V), s_nf (s_5 (s_dup V 118 k) (64 * sNv V + j) e) (sNv V) k) := by
    unfold o_set
    rw [ixB_n1 hk (by omega), if_neg (by decide), smE_elB he, if_neg (by decide), if_neg (by omega), ixB_n1 hj (by omega), if_neg (by decide), if_neg (by omega)]
  by_cases q : elv V k j = e
  · have N := NVS.set (c := 118) (S := V) (e := e) hk (show j < 64 by omega) q
    refine ⟨_, eo, ⟨N.1.1, N.1.2.2.2.2.1⟩, N.made H hk (Or.inl ht) (Or.inl rfl), ?_⟩
    refine RowP.vec ?_ ?_ (by rw [N.1.2.1]; decide) (fun i hi => ?_)
    · rw [N.1.2.1, el_up, if_neg (by omega), hP.1]
      exact congrArg nI ht
    · rw [N.1.2.2.1, el_up, if_neg (by omega)]
      exact hP.2.1
    · rw [N.1.2.2.1] at hi
      have hv := vec_el hP (Or.inl ht) hi
      rw [N.1.2.2.2.1, el_up]
      by_cases z : i = j
      · subst z
        rw [if_pos rfl]
        exact ⟨q.symm, hv.2⟩
      · rw [if_neg (by omega)]
        exact hv
  · have N := NVF.set (c := 118) (S := V) (e := e) hk hz hj q
    refine ⟨_, eo, ⟨N.1.1, N.1.2.2.2.2.1⟩, N.made H hk (Or.inl ht) (Or.inl rfl) (by omega) (off_up (Or.inl ⟨rfl, hj⟩) (by omega)), ?_⟩
    refine RowP.vec ?_ ?_ (by rw [N.1.2.1]; decide) (fun i hi => ?_)
    · rw [N.1.2.1, el_up, if_neg (by omega), hP.1]
      exact congrArg nI ht
    · rw [N.1.2.2.1, el_up, if_neg (by omega)]
      exact hP.2.1
    · rw [N.1.2.2.1] at hi
      rw [N.1.2.2.2.1, el_up, el_up]
      by_cases z : i = j
      · rw [if_pos (by omega), if_pos z]
        exact ⟨rfl, he⟩
      · rw [if_neg (by omega), if_neg z]
        exact vec_el hP (Or.inl ht) hi
theorem pv_setN (hk : k < sNv V) (hn : sNv V ≤ 60) (ht : sTy V k = 118) {j : Nat} (hj : sSz V k ≤ j) (hj2 : j < 2 ^ 31) {e : Int32} (he : smE e) : o_set V (nI k) k (nI j) j e = (nI 4, nI 0, V) := by
  unfold o_set
  rw [ixB_n1 hk (by omega), if_neg (by decide), smE_elB he, if_neg (by decide), if_neg (by omega), ixB_n0 hj hj2, if_pos rfl]
theorem pv_cut (H : SVI V) (hk : k < sNv V) (ht : sTy V k = 118) {pl : Nat} (ep : sSz V k = pl + 1) (h60 : sNv V < 60) (hP : RowP (vp V k) f) :
    ∃ V', o_cut V (nI k) k = (nI 0, nI (sNv V), V') ∧ More V V' ∧ mdI V V' k ∧ RowP (vp V' (sNv V)) (va_up f 1 (nI pl)) := by
  have hz : sSz V k ≤ 64 := (H.2.1 k hk).2.1
  have N := NVF.cut (c := 118) (S := V) hk (show pl < 64 by omega) ep
  refine ⟨_, ?_, ⟨N.1.1, N.1.2.2.2.2.1⟩, N.made H hk (Or.inl ht) (Or.inl rfl) (by omega) (fun s hs hi ho => by rw [ep, ← ith_dn hs (by omega) ho]; exact hi), ?_⟩
  · unfold o_cut
    rw [ixB_n1 hk (by omega), if_neg (by decide), if_neg (by omega), if_neg (by omega), if_neg (by omega)]
  · refine RowP.vec ?_ ?_ (by rw [N.1.2.1]; decide) (fun j hj => ?_)
    · rw [N.1.2.1, el_up, if_neg (by decide), hP.1]
      exact congrArg nI ht
    · rw [N.1.2.2.1, el_up, if_pos rfl]
    · rw [N.1.2.2.1] at hj
      rw [N.1.2.2.2.1, el_up, if_neg (by omega)]
      exact vec_el hP (Or.inl ht) (by omega)
theorem pv_cutN (hk : k < sNv V) (hn : sNv V ≤ 60) (ht : sTy V k = 118) (hz : sSz V k = 0) : o_cut V (nI k) k = (nI 3, nI 0, V) := by
  unfold o_cut
  rw [ixB_n1 hk (by omega), if_neg (by decide), if_neg (by omega), if_pos hz]
theorem pv_open (H : SVI V) (hk : k < sNv V) (ht : sTy V k = 118) (h60 : sNv V < 60) (hP : RowP (vp V k) f) :
    ∃ V', o_open V (nI k) k = (nI 0, nI (sNv V), V') ∧ More V V' ∧ mdI V V' k ∧ RowP (vp V' (sNv V)) (va_up f 0 (nI 111)) ∧ sMd V' = sMd V := by
  have N := NVS.dup (c := 111) (S := V) hk
  refine ⟨_, ?_, ⟨N.1.1, N.1.2.2.2.2.1⟩, N.made H hk (Or.inl ht) (Or.inr rfl), ?_, N.2.2⟩
  · unfold o_open
    rw [ixB_n1 hk (by omega), if_neg (by decide), if_neg (by omega), if_neg (by omega)]
  · refine RowP.vec ?_ ?_ (by rw [N.1.2.1]; decide) (fun j hj => ?_)
    · rw [N.1.2.1, el_up, if_pos rfl]
    · rw [N.1.2.2.1, el_up, if_neg (by decide)]
      exact hP.2.1
    · rw [N.1.2.2.1] at hj
      rw [N.1.2.2.2.1, el_up, if_neg (by omega)]
      exact vec_el hP (Or.inl ht) hj
theorem pv_x (hk : k < sNv V) (hn : sNv V ≤ 60) (ht : sTy V k ≠ 118) (ht2 : sTy V k ≠ 111) : o_open V (nI k) k = (nI 2, nI 0, V) ∧ o_lasting V (nI k) k = (nI 2, nI 0, V) ∧ o_appendTo V (nI k) k (nI 0) = (nI 3, nI 0, V) := by
  refine ⟨?_, ?_, ?_⟩
  · unfold o_open
    rw [ixB_n1 hk (by omega), if_neg (by decide), if_pos ht]
  · unfold o_lasting
    rw [ixB_n1 hk (by omega), if_neg (by decide), if_pos ht2]
  · unfold o_appendTo
    rw [ixB_n1 hk (by omega), if_neg (by decide), show elB (nI 0) = true from by decide, if_neg (by decide), if_pos (Or.inl ht2)]
theorem pv_lasting (H : SVI V) (hk : k < sNv V) (ht : sTy V k = 111) (h60 : sNv V < 60) (hP : RowP (vp V k) f) :
    ∃ V', o_lasting V (nI k) k = (nI 0, nI (sNv V), V') ∧ (sNv V' = sNv V + 1 ∧ ∀ v, v < sNv V → v ≠ k → vp V' v = vp V v) ∧ sMd V' = sMd V ∧ RowP (vp V' (sNv V)) (va_up f 0 (nI 118)) ∧ RowP (vp V' k) (va_up (va_up f 0 (nI 120)) 1 (nI 0)) ∧ sTy V' k = 120 := by
  have N := NVS.dup (c := 118) (S := V) hk
  generalize eW : s_nf (s_dup V 118 k) (sNv V) k = W at N
  have hne : sNv V ≠ k := by omega
  have tk : sTy (s_4 (s_3 W k 120) k 0) k = 120 := va_up_self _ _ _
  have sk : sSz (s_4 (s_3 W k 120) k 0) k = 0 := va_up_self _ _ _
  have vo : ∀ v, v ≠ k → vp (s_4 (s_3 W k 120) k 0) v = vp W v := fun v hv => by
    show (va_up (sTy W) k 120 v, va_up (sSz W) k 0 v, _, _, _, _, _, _) = _
    rw [va_up_ne _ _ hv, va_up_ne _ _ hv]
    rfl
  refine ⟨s_4 (s_3 W k 120) k 0, ?_, ⟨N.1.1, fun v hv hvk => (vo v hvk).trans (N.1.2.2.2.2.1 v hv)⟩, N.2.2, ?_, ?_, tk⟩
  · unfold o_lasting
    rw [ixB_n1 hk (by omega), if_neg (by decide), if_neg (by omega), if_neg (by omega), eW]
  · rw [vo _ hne]
    refine RowP.vec ?_ ?_ (by rw [N.1.2.1]; decide) (fun j hj => ?_)
    · rw [N.1.2.1, el_up, if_pos rfl]
    · rw [N.1.2.2.1, el_up, if_neg (by decide)]
      exact hP.2.1
    · rw [N.1.2.2.1] at hj
      rw [N.1.2.2.2.1, el_up, if_neg (by omega)]
      exact vec_el hP (Or.inr ht) hj
  · refine RowP.vec ?_ ?_ (by rw [tk]; decide) (fun j hj => ?_)
    · rw [tk, el_up, if_neg (by decide), el_up, if_pos rfl]
    · rw [sk, el_up, if_pos rfl]
    · rw [sk] at hj
      omega
theorem pv_lastX {w : Nat} (ht : sTy V k = 120) (hk : k < sNv V) (hw : w < sNv V) (hn : sNv V ≤ 60) : dA [-20001, -20005] (o_areSame V (nI k) k (nI w) w) = -20005 ∧ shN V k w = 0 := by
  refine ⟨?_, ?_⟩
  · unfold o_areSame
    rw [ixB_n1 hk (by omega), ixB_n1 hw (by omega), if_neg (by decide), if_pos (Or.inl ht)]
    rfl
  · unfold shN
    rw [show (sumN (fun s => if 0 < ndN V k s ∧ ndN V k s = ndN V w s then 1 else 0) (if slN V k = slN V w then slN V k else 0)) = sumN (fun _ => 0) (if slN V k = slN V w then slN V k else 0) from sumN_c _ (fun s _ => if_neg (fun z => by
      have z1 := z.1
      unfold ndN vecB at z1
      rw [ht] at z1
      simp at z1)), sum_zero]
theorem pv_chg {j n' : Nat} {e : Int32} {V' : SV} (ht : sTy V k = 111) (hj : j < n') (hn : (n' = sSz V k ∧ j < sSz V k) ∨ (n' = sSz V k + 1 ∧ j = sSz V k)) (hT : sTy V' k = sTy V k) (hS : sSz V' k = n') (hE : elv V' k = va_up (elv V k) j e) (he : smE e) (hP : RowP (vp V k) f) : RowP (vp V' k) (va_up (va_up f (2 + j) e) 1 (nI n')) := by
  refine RowP.vec ?_ ?_ (by rw [hT, ht]; decide) (fun i hi => ?_)
  · rw [hT, el_up, if_neg (by decide), el_up, if_neg (by omega)]
    exact hP.1
  · rw [hS, el_up, if_pos rfl]
  · rw [hS] at hi
    rw [hE, el_up, if_neg (by omega), el_up, el_up]
    by_cases q : i = j
    · rw [if_pos (by omega), if_pos q]
      exact ⟨rfl, he⟩
    · rw [if_neg (by omega), if_neg q]
      exact vec_el hP (Or.inr ht) (by omega)
theorem pv_appendTo (H : SVI V) (hk : k < sNv V) (ht : sTy V k = 111) (hz : sSz V k < 64) {e : Int32} (he : smE e) (hP : RowP (vp V k) f) :
    ∃ V' m, o_appendTo V (nI k) k e = (nI 0, nI m, V') ∧ m ≤ 3 ∧ sMd V' = sMd V + m ∧ (sNv V' = sNv V ∧ ∀ v, v ≠ k → vp V' v = vp V v) ∧ sTy V' k = 111 ∧ RowP (vp V' k) (va_up (va_up f (2 + sSz V k) e) 1 (nI (sSz V k + 1))) := by
  have N := chX_a (S := V) (k := k) (e := e) hz
  have hn60 := H.1
  have hm : sMd V ≤ sMd (chX V k (sSz V k) e) ∧ sMd (chX V k (sSz V k) e) ≤ sMd V + 3 := by
    have a := N.2.2.2.2.2
    have b := crN_1 (ru := ruO V k) (pl := sSz V k) (dOf (sSz V k + 1))
    have c := @dOf_le3 (sSz V k + 1)
    omega
  refine ⟨chX V k (sSz V k) e, sMd (chX V k (sSz V k) e) - sMd V, ?_, by omega, by omega, ⟨N.1.1, N.1.2.2.2.2⟩, by rw [N.1.2.1]; exact ht, pv_chg ht (Nat.lt_succ_self _) (Or.inr ⟨rfl, rfl⟩) (by rw [N.1.2.1]) N.1.2.2.1 N.1.2.2.2.1 he hP⟩
  unfold o_appendTo
  rw [ixB_n1 hk (by omega), if_neg (by decide), smE_elB he, if_neg (by decide), if_neg (by omega)]
theorem pv_appendToN (hk : k < sNv V) (hn : sNv V ≤ 60) (hz : sSz V k = 64) {e : Int32} (he : smE e) : o_appendTo V (nI k) k e = (nI 3, nI 0, V) := by
  unfold o_appendTo
  rw [ixB_n1 hk (by omega), if_neg (by decide), smE_elB he, if_neg (by decide), if_pos (Or.inr hz)]
theorem pv_appendD (hk : k < sNv V) (hn : sNv V ≤ 60) (ht : sTy V k = 111) : o_append V (nI k) k (nI 0) = (nI 3, nI 0, V) := by
  unfold o_append
  rw [ixB_n1 hk (by omega), if_neg (by decide), show elB (nI 0) = true from by decide, if_neg (by decide), if_pos (Or.inl (by omega))]
theorem pv_setIn (H : SVI V) (hk : k < sNv V) (ht : sTy V k = 111) {j : Nat} (hj : j < sSz V k) {e : Int32} (he : smE e) (hP : RowP (vp V k) f) :
    ∃ V' m, o_setIn V (nI k) k (nI j) j e = (nI 0, nI m, V') ∧ m ≤ 3 ∧ sMd V' = sMd V + m ∧ (sNv V' = sNv V ∧ ∀ v, v ≠ k → vp V' v = vp V v) ∧ sTy V' k = 111 ∧ RowP (vp V' k) (va_up (va_up f (2 + j) e) 1 (nI (sSz V k))) := by
  have hn60 := H.1
  have hz : sSz V k ≤ 64 := (H.2.1 k hk).2.1
  have eo : o_setIn V (nI k) k (nI j) j e = (nI 0, nI (sMd (chX V k j e) - sMd V), chX V k j e) := by
    unfold o_setIn
    rw [ixB_n1 hk (by omega), if_neg (by decide), smE_elB he, if_neg (by decide), if_neg (by omega), ixB_n1 hj (by omega), if_neg (by decide)]
  by_cases q : elv V k j = e
  · obtain ⟨n1, n2, n3⟩ := chX_s (S := V) (k := k) hz hj q
    refine ⟨_, _, eo, by omega, by omega, ⟨n1, fun v _ => n3 v⟩, (show sTy (chX V k j e) k = sTy V k from congrArg p_ty (n3 k)).trans ht, ?_⟩
    rw [n3 k]
    refine RowP.vec ?_ ?_ (by omega) (fun i hi => ?_)
    · rw [el_up, if_neg (by decide), el_up, if_neg (by omega)]
      exact hP.1
    · rw [el_up, if_pos rfl]
    · have hv := vec_el hP (Or.inr ht) hi
      rw [el_up, if_neg (by omega), el_up]
      by_cases z : i = j
      · subst z
        rw [if_pos rfl]
        exact ⟨q.symm, hv.2⟩
      · rw [if_neg (by omega)]
        exact hv
  · have N := chX_o (S := V) (k := k) (e := e) hz hj q
    have a := N.2.2.2.2.2
    have b := crN_1 (ru := ruO V k) (pl := j) (dOf (sSz V k))
    have c := @dOf_le3 (sSz V k)
    have hm : sMd V ≤ sMd (chX V k j e) ∧ sMd (chX V k j e) ≤ sMd V + 3 := by omega
    exact ⟨_, _, eo, by omega, by omega, ⟨N.1.1, N.1.2.2.2.2⟩, by rw [N.1.2.1]; exact ht, pv_chg ht hj (Or.inl ⟨rfl, hj⟩) (by rw [N.1.2.1]) N.1.2.2.1 N.1.2.2.2.1 he hP⟩
theorem pv_vector (h60 : sNv V < 60) (hf0 : f 0 = nI 118) (hf1 : f 1 = nI 0) :
    ∃ V', o_vector V = (nI 0, nI (sNv V), V') ∧ More V V' ∧ sMd V' = sMd V + 1 ∧ RowP (vp V' (sNv V)) f := by
  have N := vec_f (S := V)
  refine ⟨s_vec V, by unfold o_vector; rw [if_neg (by omega)], ⟨rfl, N.2.2.1⟩, N.2.2.2.2.1, RowP.vec (by rw [N.1]; exact hf0) (by rw [N.2.1]; exact hf1) (by rw [N.1]; decide) (fun j hj => ?_)⟩
  rw [N.2.1] at hj
  omega
theorem pv_map (h60 : sNv V < 60) (hf0 : f 0 = nI 109) (hf1 : f 1 = nI 0) (hf : ∀ j, j < 40 → f (2 + j) = nI 2000) :
    ∃ V', o_map V = (nI 0, nI (sNv V), V') ∧ More V V' ∧ sMd V' = sMd V + 1 ∧ RowP (vp V' (sNv V)) f := by
  have N := map_f (S := V)
  refine ⟨s_map V, by unfold o_map; rw [if_neg (by omega)], ⟨rfl, N.2.2.2.1⟩, rfl, (show f 0 = nI (sTy (s_map V) (sNv V)) by rw [N.1]; exact hf0), (show f 1 = nI (sSz (s_map V) (sNv V)) by rw [N.2.1]; exact hf1), fun z => ?_, fun _ => ⟨fun j hj => ?_, fun j _ => N.2.2.1 j, fun j hj => ?_⟩⟩
  · have z : sTy (s_map V) (sNv V) = 118 ∨ sTy (s_map V) (sNv V) = 111 := z
    rw [N.1] at z
    omega
  · show f (2 + j) = if hsv (s_map V) (sNv V) (25 * j) = true then _ else _
    rw [N.2.2.1, if_neg (by decide)]
    exact hf j hj
  · have hj : hsv (s_map V) (sNv V) j = true := hj
    rw [N.2.2.1] at hj
    cases hj
theorem pv_full (h : sNv V = 60) : o_vector V = (nI 1, nI 0, V) ∧ o_map V = (nI 1, nI 0, V) := by
  unfold o_vector o_map
  rw [if_pos h, if_pos h]
  exact ⟨rfl, rfl⟩
theorem row_map (hP : RowP (vp V k) f) (ht : sTy V k = 109) : (∀ j, j < 40 → f (2 + j) = if hsv V k (25 * j) = true then ofv V k (25 * j) else nI 2000) ∧ (∀ j, j % 25 ≠ 0 → hsv V k j = false) ∧ ∀ j, hsv V k j = true → smE (ofv V k j) := hP.2.2.2 ht
/-- a key is there as the row says -/
theorem row_has (hP : RowP (vp V k) f) (ht : sTy V k = 109) {j : Nat} (hj : j < 40) : (f (2 + j) = nI 2000 ↔ hsv V k (25 * j) = false) := by
  have R := row_map hP ht
  have e := R.1 j hj
  cases h : hsv V k (25 * j) with
  | false => rw [h, if_neg (by decide)] at e; exact ⟨fun _ => rfl, fun _ => e⟩
  | true =>
    rw [h, if_pos rfl] at e
    rw [e]
    exact ⟨fun z => absurd z (smE_ne (R.2.2 _ h)).1, fun z => nomatch z⟩
/-- a map made of another, with one key set or left out -/
theorem pv_mrow {V' : SV} {w z j : Nat} {b : Bool} {e y : Int32} (hj : j < 40) (ht : sTy V k = 109) (hP : RowP (vp V k) f) (hT : sTy V' w = 109) (hS : sSz V' w = z) (hH : hsv V' w = va_up (hsv V k) (25 * j) b) (hO : ofv V' w = va_up (ofv V k) (25 * j) e) (hb : b = true → smE e) (hy : y = if b = true then e else nI 2000) : RowP (vp V' w) (va_up (va_up f 1 (nI z)) (2 + j) y) := by
  have R := row_map hP ht
  refine ⟨?_, ?_, fun q => ?_, fun _ => ⟨fun i hi => ?_, fun i hi => ?_, fun i hi => ?_⟩⟩
  · show _ = nI (sTy V' w)
    rw [hT, el_up, if_neg (by omega), el_up, if_neg (by decide), hP.1]
    exact congrArg nI ht
  · show _ = nI (sSz V' w)
    rw [hS, el_up, if_neg (by omega), el_up, if_pos rfl]
  · have q : sTy V' w = 118 ∨ sTy V' w = 111 := q
    rw [hT] at q
    omega
  · show _ = if hsv V' w (25 * i) = true then ofv V' w (25 * i) else nI 2000
    rw [hH, hO, el_up]
    by_cases q : i = j
    · subst q
      rw [if_pos rfl, va_up_self, va_up_self]
      exact hy
    · rw [if_neg (by omega), el_up, if_neg (by omega), va_up_ne _ _ (by omega), va_up_ne _ _ (by omega)]
      exact R.1 i hi
  · show hsv V' w i = false
    rw [hH, va_up_ne _ _ (by omega)]
    exact R.2.1 i hi
  · have hi : hsv V' w i = true := hi
    show smE (ofv V' w i)
    rw [hH] at hi
    rw [hO]
    by_cases q : i = 25 * j
    · subst q
      rw [va_up_self] at hi ⊢
      exact hb hi
    · rw [va_up_ne _ _ q] at hi ⊢
      exact R.2.2 i hi
theorem pv_put (H : SVI V) (hk : k < sNv V) (ht : sTy V k = 109) {j : Nat} (hj : j < 40) (hz : hsv V k (25 * j) = false → sSz V k < 40) (h60 : sNv V < 60) {e : Int32} (he : smE e) (hP : RowP (vp V k) f) :
    ∃ V', o_put V (nI k) k (nI (25 * j)) (25 * j) e = (nI 0, nI (sNv V), V') ∧ More V V' ∧ mdI V V' k ∧ RowP (vp V' (sNv V)) (va_up (va_up f 1 (nI (sSz V k + if hsv V k (25 * j) = true then 0 else 1))) (2 + j) e) := by
  have hx : hsv V k (25 * j) = sHs V (1000 * k + 25 * j) := if_pos (by omega)
  have eo : o_put V (nI k) k (nI (25 * j)) (25 * j) e = (nI 0, nI (sNv V), if sHs V (1000 * k + 25 * j) = true ∧ sOf V (1000 * k + 25 * j) = e then ptS V k (25 * j) e else cnS (ptS V k (25 * j) e) (sNv V) (25 * j) 5) := by
    unfold o_put
    rw [ixB_n1 hk (by omega), if_neg (by decide), ixB_n1 (show 25 * j < 1000 by omega) (by decide), smE_elB he, if_neg (by decide), if_neg (fun z => z.elim (fun q => q ht) (fun q => by have := hz (hx.trans q.1); omega)), if_neg (by omega)]
  have P := pt_f (S := V) (e := e) hk (show 25 * j < 1000 by omega)
  rw [← hx] at P
  by_cases q : sHs V (1000 * k + 25 * j) = true ∧ sOf V (1000 * k + 25 * j) = e
  · rw [if_pos q] at eo
    refine ⟨_, eo, ⟨P.1.1, P.1.2.2.2.2.2⟩, ?_, pv_mrow hj ht hP P.1.2.1 P.1.2.2.1 P.1.2.2.2.1 P.1.2.2.2.2.1 (fun _ => he) (if_pos rfl).symm⟩
    exact MNS.made P hk ht
  · rw [if_neg q] at eo
    have N := MNF.mk (key := 25 * j) P
    exact ⟨_, eo, ⟨N.1.1, N.1.2.2.2.2.2⟩, N.made H hk ht, pv_mrow hj ht hP N.1.2.1 N.1.2.2.1 N.1.2.2.2.1 N.1.2.2.2.2.1 (fun _ => he) (if_pos rfl).symm⟩
theorem pv_without (H : SVI V) (hk : k < sNv V) (ht : sTy V k = 109) {j : Nat} (hj : j < 40) (hh : hsv V k (25 * j) = true) (h60 : sNv V < 60) (hP : RowP (vp V k) f) :
    ∃ V', o_without V (nI k) k (nI (25 * j)) (25 * j) = (nI 0, nI (sNv V), V') ∧ More V V' ∧ mdI V V' k ∧ RowP (vp V' (sNv V)) (va_up (va_up f 1 (nI (sSz V k - 1))) (2 + j) (nI 2000)) := by
  have hx : hsv V k (25 * j) = sHs V (1000 * k + 25 * j) := if_pos (by omega)
  have eo : o_without V (nI k) k (nI (25 * j)) (25 * j) = (nI 0, nI (sNv V), cnS (wtS V k (25 * j)) (sNv V) (25 * j) 5) := by
    unfold o_without
    rw [ixB_n1 hk (by omega), if_neg (by decide), if_neg (by omega), ixB_n1 (show 25 * j < 1000 by omega) (by decide), ← hx, hh, if_neg (by decide), if_neg (by omega)]
  have N := MNF.mk (key := 25 * j) (wt_f (S := V) hk (show 25 * j < 1000 by omega))
  exact ⟨_, eo, ⟨N.1.1, N.1.2.2.2.2.2⟩, N.made H hk ht, pv_mrow (b := false) hj ht hP N.1.2.1 N.1.2.2.1 N.1.2.2.2.1 N.1.2.2.2.2.1 (fun z => nomatch z) (if_neg (by decide)).symm⟩
/-- the first value is a lasting vector, or a map, and stays it -/
def IN0 (V : SV) : Prop := 0 < sNv V → sTy V 0 ≠ 120 ∧ sTy V 0 ≠ 111
theorem IN0.more {V' : SV} (H : IN0 V) (mo : ∀ v, v < sNv V → vp V' v = vp V v) (hp : 0 < sNv V) : IN0 V' := fun _ => by
  rw [show sTy V' 0 = sTy V 0 from congrArg p_ty (mo 0 hp)]
  exact H hp
theorem IN0.but {V' : SV} (H : IN0 V) (hk : k < sNv V) (ht : sTy V k = 111) (mo : ∀ v, v < sNv V → v ≠ k → vp V' v = vp V v) : IN0 V' := fun _ => by
  have hp : 0 < sNv V := by omega
  have h0 : 0 ≠ k := fun e => (H hp).2 (by rw [e]; exact ht)
  rw [show sTy V' 0 = sTy V 0 from congrArg p_ty (mo 0 hp h0)]
  exact H hp
theorem IN0.new {V' : SV} {T : Nat} (hT : nI T ≠ nI 120 ∧ nI T ≠ nI 111) (H : IN0 V) (mo : More V V') (rp : nI T = nI (sTy V' (sNv V))) : IN0 V' := fun w => by
  by_cases z : sNv V = 0
  · rw [z] at rp
    exact ⟨fun e => hT.1 (by rw [rp, e]), fun e => hT.2 (by rw [rp, e])⟩
  · exact IN0.more H mo.2 (by omega) w
end PVV
