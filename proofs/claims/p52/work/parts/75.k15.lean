/-! The class: the changes are written down. -/
theorem CR.addL {h h' : Hp} {X : CS} {q : Nat × Nat × Int32 × Int32} (H : CR h X) (hE : LOb h' (nm 40 11) 69 0 68 ((CS_lg X).length + 1)) (hK : KL h' (CS_lg X).length q) (hF : ∀ b, b ≠ nm 40 11 → (∀ z, b ≠ nm 69 (16 * z + 0)) → b ≠ nm 68 (CS_lg X).length → ce h' b = ce h b) : CR h' (CS_ulg X (CS_lg X ++ [q])) ∧ FRK h h' := by
  have ep : ∀ i, i ≠ 11 → ce h' (nm 40 i) = ce h (nm 40 i) := fun i hi => hF _ (by unfold nm; omega) (fun z => by unfold nm; omega) (by unfold nm; omega)
  have er : ∀ r i, 53 ≤ r → r ≤ 67 → ce h' (nm r i) = ce h (nm r i) := fun r i h1 h2 => hF _ (by unfold nm; omega) (fun z => by unfold nm; omega) (by unfold nm; omega)
  have e8 : ∀ i, i ≠ (CS_lg X).length → ce h' (nm 68 i) = ce h (nm 68 i) := fun i hi => hF _ (by unfold nm; omega) (fun z => by unfold nm; omega) (by unfold nm; omega)
  have hl : (CS_lg X ++ [q]).length = (CS_lg X).length + 1 := by rw [List.length_append]; rfl
  obtain ⟨p0, p1, p2, p3, p4, ⟨g1, g2, g3, g4, g5, g6, g7⟩⟩ := H
  refine ⟨⟨p0.fr (ep _ (by decide)), p1.fr (ep _ (by decide)) (ep _ (by decide)) (ep _ (by decide)), p2.fr (ep _ (by decide)) (ep _ (by decide)) (ep _ (by decide)), p3.fr er, ⟨?_, fun i hi => ?_⟩, ⟨g1.fr (fun i _ => er _ _ (by decide) (by decide)), g2.fr (fun i _ => er _ _ (by decide) (by decide)), g3.fr (fun i _ => er _ _ (by decide) (by decide)), g4.fr (fun i _ => er _ _ (by decide) (by decide)), g5.fr (fun i _ => er _ _ (by decide) (by decide)), g6.fr (fun i _ => er _ _ (by decide) (by decide)), fun i hi => ?_⟩⟩, ?_⟩
  · show LOb h' (nm 40 11) 69 0 68 (CS_lg X ++ [q]).length
    rw [hl]; exact hE
  · have hi : i < (CS_lg X ++ [q]).length := hi
    show KL h' i (CS_lg X ++ [q])[i]
    by_cases e : i < (CS_lg X).length
    · rw [List.getElem_append_left e]; exact (p4.2 i e).frm (e8 i (by omega))
    · have : i = (CS_lg X).length := by omega
      subst this
      rw [List.getElem_append_right (Nat.le_refl _)]
      simpa using hK
  · have hi : (CS_lg X ++ [q]).length ≤ i := hi
    exact (ce_k (e8 i (by omega))).trans (g7 i (by omega))
  · exact ⟨fun a ha => hF a (fun e => ha (by rw [e]; unfold WK; omega)) (fun z e => ha (by rw [e]; unfold WK nm; omega)) (fun e => ha (by rw [e]; unfold WK nm; omega)), ⟨ce_k (ep 0 (by decide)), ce_n (ep 0 (by decide)), ce_R (ep 0 (by decide)), ce_L (ep 0 (by decide)), ce_F (ep 0 (by decide))⟩, fun j _ _ _ _ => by rw [ce_I (ep 0 (by decide))]⟩
theorem cmH_len2 {hs : List (Nat × Int32)} {lim : Nat} {q : Nat × Int32} (h1 : 1 ≤ hs.length) (h2 : hs.length ≤ lim) : 1 ≤ (cmH hs lim q).length ∧ (cmH hs lim q).length ≤ lim := by
  unfold cmH
  have hl : (hs ++ [q]).length = hs.length + 1 := by rw [List.length_append]; rfl
  split
  · rw [List.length_tail, hl]; omega
  · rw [hl]; omega
theorem cmH_mem {hs : List (Nat × Int32)} {lim : Nat} {q z : Nat × Int32} (h : z ∈ cmH hs lim q) : z ∈ hs ∨ z = q := by
  have h2 : z ∈ hs ++ [q] := by
    unfold cmH at h
    split at h
    · exact List.mem_of_mem_tail h
    · exact h
  rcases List.mem_append.mp h2 with y | y
  · exact Or.inl y
  · exact Or.inr (List.mem_singleton.mp y)
theorem RB_rec {n : Nat} {S : RS} (H : RB n S) {r : Nat} (hr : r < RS_rn S) {x v : Int32} (hl : (RS_lg S).length + 1 ≤ 6 * n) : RB n (RS_urr1 (RS_ulg S (RS_lg S ++ [(RS_mo S, r, x, v)])) r (OR_uhs (RS_rr S r) (cmH (OR_hs (RS_rr S r)) (OR_lim (RS_rr S r)) (RS_mo S, v)))) := by
  obtain ⟨⟨a1, a2, a3, a4, a5, a6, a7⟩, b, c, d⟩ := H
  refine ⟨⟨a1, a2, a3, a4, a5, ?_, fun q hq => ?_⟩, b, fun u hu => ?_, d⟩
  · show (RS_lg S ++ [_]).length ≤ _
    rw [List.length_append]; exact hl
  · have hq : q ∈ RS_lg S ++ [(RS_mo S, r, x, v)] := hq
    rcases List.mem_append.mp hq with y | y
    · exact a7 q y
    · rw [List.mem_singleton.mp y]; show r < 6; omega
  · have hu : u < RS_rn S := hu
    obtain ⟨c1, c2, c3, c4⟩ := c u hu
    have e : RS_rr (RS_urr1 (RS_ulg S (RS_lg S ++ [(RS_mo S, r, x, v)])) r (OR_uhs (RS_rr S r) (cmH (OR_hs (RS_rr S r)) (OR_lim (RS_rr S r)) (RS_mo S, v)))) u = if u = r then OR_uhs (RS_rr S r) (cmH (OR_hs (RS_rr S r)) (OR_lim (RS_rr S r)) (RS_mo S, v)) else RS_rr S u := va_up_app
    rw [e]
    by_cases z : u = r
    · rw [if_pos z]
      subst z
      have hc := cmH_len2 (q := (RS_mo S, v)) c1 c2
      refine ⟨hc.1, hc.2, c3, fun q hq => ?_⟩
      rcases cmH_mem hq with y | y
      · exact c4 q y
      · rw [y]; exact a4
    · rw [if_neg z]; exact ⟨c1, c2, c3, c4⟩
theorem getD_tail {l : List (Nat × Int32)} {j : Nat} : l.tail.getD j (0, 0) = l.getD (j + 1) (0, 0) := by cases l <;> rfl
theorem SR.come {x : KRS} {y : ORS} (H : SR x y) (h1 : 1 ≤ (OR_hs y).length) (h2 : (OR_hs y).length ≤ OR_lim y) {v : Int32} {m : Nat} : SR (kcome x v m) (OR_uhs y (cmH (OR_hs y) (OR_lim y) (m, v))) := by
  obtain ⟨a1, a2, a3, a4, a5, a6⟩ := H
  have hl : (OR_hs y ++ [(m, v)]).length = (OR_hs y).length + 1 := by rw [List.length_append]; rfl
  unfold kcome cmH
  rw [a4, a5]
  by_cases c : OR_lim y ≤ (OR_hs y).length
  · rw [if_pos c, if_pos (by omega)]
    have ht : ((OR_hs y ++ [(m, v)]).tail).length = (OR_hs y).length := by rw [List.length_tail, hl]; omega
    refine ⟨a1, a2, a3, ?_, rfl, fun j hj => ?_⟩
    · show (OR_hs y).length = ((OR_hs y ++ [(m, v)]).tail).length; exact ht.symm
    · have hj : j < ((OR_hs y ++ [(m, v)]).tail).length := hj
      rw [ht] at hj
      show va_up (shF (KR_pv x) (OR_hs y).length) ((OR_hs y).length - 1) v j = (((OR_hs y ++ [(m, v)]).tail).getD j (0, 0)).2 ∧ va_up (shF (KR_pm x) (OR_hs y).length) ((OR_hs y).length - 1) (nI m) j = nI (((OR_hs y ++ [(m, v)]).tail).getD j (0, 0)).1
      rw [va_up_app, va_up_app, getD_tail, getD_app]
      by_cases e : j = (OR_hs y).length - 1
      · rw [if_pos e, if_pos e, if_neg (by omega), if_pos (by omega)]; exact ⟨rfl, rfl⟩
      · rw [if_neg e, if_neg e, if_pos (by omega)]
        unfold shF
        rw [if_pos (by omega), if_pos (by omega)]
        exact a6 (j + 1) (by omega)
  · rw [if_neg c, if_neg (by omega)]
    refine ⟨a1, a2, a3, ?_, rfl, fun j hj => ?_⟩
    · show (OR_hs y).length + 1 = (OR_hs y ++ [(m, v)]).length; exact hl.symm
    · have hj : j < (OR_hs y ++ [(m, v)]).length := hj
      rw [hl] at hj
      show va_up (KR_pv x) (OR_hs y).length v j = ((OR_hs y ++ [(m, v)]).getD j (0, 0)).2 ∧ va_up (KR_pm x) (OR_hs y).length (nI m) j = nI ((OR_hs y ++ [(m, v)]).getD j (0, 0)).1
      rw [va_up_app, va_up_app, getD_app]
      by_cases e : j = (OR_hs y).length
      · rw [if_pos e, if_pos e, if_neg (by omega), if_pos e]; exact ⟨rfl, rfl⟩
      · have hj2 : j < (OR_hs y).length := by omega
        rw [if_pos hj2, if_neg e, if_neg e]; exact a6 j hj2
theorem SIM.log {X : CS} {S : RS} (H : SIM X S) {q : Nat × Nat × Int32 × Int32} : SIM (CS_ulg X (CS_lg X ++ [q])) (RS_ulg S (RS_lg S ++ [q])) := by
  obtain ⟨⟨a1, a2, a3, a4, a5⟩, b⟩ := H
  exact ⟨⟨a1, a2, a3, a4, congrArg (· ++ [q]) a5⟩, b⟩
theorem SIM.pr {X : CS} {S : RS} (H : SIM X S) {m : Nat} : SIM (CS_upr X m) (RS_umo S m) := by
  obtain ⟨⟨a1, a2, a3, a4, a5⟩, b⟩ := H
  exact ⟨⟨a1, a2, a3, rfl, a5⟩, b⟩
set_option maxRecDepth 100000 in
set_option maxHeartbeats 4000000 in
theorem c_X1_init {G : GG} {d bc bs : Nat} {h : Hp} {Q : Pst} {i m r : Nat} {x y : Int32} (hd : 2 ≤ d) (hq : ∀ h', KL h' i (m, r, x, y) → (∀ b, b ≠ nm 68 i → ce h' b = ce h b) → Q oVoid h') : WP G m_X1_init d 0 (aargs 0 [vr (some (nm 68 i)), vi (nI m), vi (nI r), vi x, vi y]) [] (mk h (nm 68 i) 5 0) bc bs Q := by
  refine wp_sub [(0, vr (some (nm 68 i))), (1, vi (nI m)), (2, vi (nI r)), (3, vi x), (4, vi y)] (fun _ hz => hz) ?_
  refine wp_aload_n (i := 0) dX1_init_0 rfl rfl ?_
  refine wp_objInit dX1_init_1 ml_X1_1 im_java_lang_Object__init____V co_obj (by omega) (by decide) ?_
  refine wp_aload_n (i := 0) dX1_init_4 rfl rfl ?_
  refine wp_iload_n (i := 1) dX1_init_5 rfl rfl ?_
  refine wp_putIF 4 0 dX1_init_6 (by simp [gI_wI, gI_wR, gI_mk, gR_wI, gR_wR, gR_mk, gk_wI, gk_wR, gk_mk, gn_wI, gn_wR, gn_mk, nm_eq, nm_i]) (by decide) (by decide) (by decide) fl_X1_7 rfl rfl rfl (fun _ _ => rfl) rfl rfl ?_
  refine wp_aload_n (i := 0) dX1_init_9 rfl rfl ?_
  refine wp_iload_n (i := 2) dX1_init_10 rfl rfl ?_
  refine wp_putIF 4 1 dX1_init_11 (by simp [gI_wI, gI_wR, gI_mk, gR_wI, gR_wR, gR_mk, gk_wI, gk_wR, gk_mk, gn_wI, gn_wR, gn_mk, nm_eq, nm_i]) (by decide) (by decide) (by decide) fl_X1_13 rfl rfl rfl (fun _ _ => rfl) rfl rfl ?_
  refine wp_aload_n (i := 0) dX1_init_14 rfl rfl ?_
  refine wp_iload_n (i := 3) dX1_init_15 rfl rfl ?_
  refine wp_putIF 4 2 dX1_init_16 (by simp [gI_wI, gI_wR, gI_mk, gR_wI, gR_wR, gR_mk, gk_wI, gk_wR, gk_mk, gn_wI, gn_wR, gn_mk, nm_eq, nm_i]) (by decide) (by decide) (by decide) fl_X1_16 rfl rfl rfl (fun _ _ => rfl) rfl rfl ?_
  refine wp_aload_n (i := 0) dX1_init_19 rfl rfl ?_
  refine wp_iload (i := 4) dX1_init_20 rfl ?_
  refine wp_putIF 4 3 dX1_init_22 (by simp [gI_wI, gI_wR, gI_mk, gR_wI, gR_wR, gR_mk, gk_wI, gk_wR, gk_mk, gn_wI, gn_wR, gn_mk, nm_eq, nm_i]) (by decide) (by decide) (by decide) fl_X1_19 rfl rfl rfl (fun _ _ => rfl) rfl rfl ?_
  refine wp_return dX1_init_25 rfl ?_
  exact hq _ ⟨by simp [gI_wI, gI_wR, gI_mk, gR_wI, gR_wR, gR_mk, gk_wI, gk_wR, gk_mk, gn_wI, gn_wR, gn_mk, nm_eq, nm_i], by simp [gI_wI, gI_wR, gI_mk, gR_wI, gR_wR, gR_mk, gk_wI, gk_wR, gk_mk, gn_wI, gn_wR, gn_mk, nm_eq, nm_i], by simp [gI_wI, gI_wR, gI_mk, gR_wI, gR_wR, gR_mk, gk_wI, gk_wR, gk_mk, gn_wI, gn_wR, gn_mk, nm_eq, nm_i], by simp [gI_wI, gI_wR, gI_mk, gR_wI, gR_wR, gR_mk, gk_wI, gk_wR, gk_mk, gn_wI, gn_wR, gn_mk, nm_eq, nm_i], by simp [gI_wI, gI_wR, gI_mk, gR_wI, gR_wR, gR_mk, gk_wI, gk_wR, gk_mk, gn_wI, gn_wR, gn_mk, nm_eq, nm_i]⟩ (fun b hb => (ce_wI hb).trans ((ce_wI hb).trans ((ce_wI hb).trans ((ce_wI hb).trans (ce_mk hb)))))
