/-! The class: nodes counted, nodes shared. -/
/-- the tree of a value -/
def NTV (h : Hp) (S : SV) (v : Nat) (tp : Option Nat) : Prop := (tp = none ∧ ∀ s, s < slN S v → ndN S v s = 0) ∨ ∃ (α : Type) (num : α → Nat) (ch : α → Nat → Option α) (f : Nat) (t : α) (sl : List Nat), tp = some (nm 45 (num t)) ∧ f ≤ 5 ∧ TRE h num ch f t ∧ (trL ch f t).map num = sl.map (ndN S v) ∧ sl.Nodup ∧ (∀ s, s ∈ sl ↔ s < slN S v ∧ 0 < ndN S v s)
/-- the slot of a node among all -/
def sgm (S : SV) (v s : Nat) : Nat := if sTy S v = 109 then 21 + s else s
theorem ndN_NG {S : SV} {v s : Nat} (h : s < slN S v) : ndN S v s = NG (vp S v) (sgm S v s) := by
  unfold ndN NG sgm vecB slN at *
  show _ = if sTy S v = 118 ∨ sTy S v = 111 then _ else if sTy S v = 109 then _ else 0
  by_cases e : sTy S v = 109
  · rw [if_pos e] at h
    rw [if_pos e, if_pos e, if_neg (by rw [e]; decide), if_pos e, if_pos (by omega), Nat.add_sub_cancel_left]
    exact (show mnv S v s = sMn S (341 * v + s) from if_pos h).symm
  · rw [if_neg e] at h
    rw [if_neg e, if_neg e, if_neg e]
    by_cases q : sTy S v = 118 ∨ sTy S v = 111
    · have qb : (decide (sTy S v = 118) || decide (sTy S v = 111)) = true := by
        rcases q with q | q
        · rw [decide_eq_true q]; rfl
        · rw [decide_eq_true q, Bool.or_true]
      rw [if_pos q, qb, Bool.true_and]
      by_cases i : ith s (sSz S v) = true
      · rw [if_pos i, if_pos ⟨h, i⟩]; exact (show ndv S v s = sNd S (21 * v + s) from if_pos h).symm
      · rw [if_neg i, if_neg (fun z => i z.2)]
    · have qb : (decide (sTy S v = 118) || decide (sTy S v = 111)) = false := by
        rw [decide_eq_false (fun z => q (Or.inl z)), decide_eq_false (fun z => q (Or.inr z))]; rfl
      rw [if_neg q, qb, Bool.false_and, if_neg (by decide)]
theorem ndN_uq {S : SV} (hS : SVI S) {v w s t : Nat} (hv : v < sNv S) (hw : w < sNv S) (h1 : s < slN S v) (h2 : t < slN S w) (hp : 0 < ndN S v s) (e : ndN S v s = ndN S w t) : slN S v = slN S w ∧ s = t := by
  have u := hS.2.2.1 v w (sgm S v s) (sgm S w t) hv hw (by rw [← ndN_NG h1]; exact hp) (by rw [← ndN_NG h1, ← ndN_NG h2]; exact e)
  unfold sgm at u
  unfold slN at *
  by_cases a : sTy S v = 109 <;> by_cases b : sTy S w = 109
  · rw [if_pos a, if_pos b] at *; exact ⟨rfl, by omega⟩
  · rw [if_pos a, if_neg b] at u; rw [if_neg b] at h2; omega
  · rw [if_neg a, if_pos b] at u; rw [if_neg a] at h1; omega
  · rw [if_neg a, if_neg b] at *; exact ⟨rfl, u⟩
theorem NTV.of {h : Hp} {S : SV} {M v : Nat} {x : KUS} (hS : SVI S) (hC : CV h S M) (hv : v < sNv S) (hx : VAv h (vp S v) x ∨ VAo h v (vp S v) x ∨ VAx (vp S v) x ∨ VAm h (vp S v) x) : NTV h S v (KU_tp x) := by
  have hP := hS.2.1 v hv
  have hT := (hC.2.2.1 v hv).2
  by_cases m : sTy S v = 109
  · have T := hT.2 m
    obtain ⟨-, -, v1, -⟩ := VAP.m hx m
    have sl := slM (hs := hsv S v)
    refine Or.inr ⟨Nat × Nat, nuM (mnv S v), chM (hsv S v), 5, (0, 0), (trL (chM (hsv S v)) 5 (0, 0)).map (fun q => lst q.1 + q.2), v1, Nat.le_refl _, T.tre 5 0 0 rfl (by decide) (by decide) (Or.inl rfl), ?_, sl.1, fun s => ?_⟩
    · rw [List.map_map]
      refine List.map_congr_left (fun q hq => ?_)
      obtain ⟨-, a2, a3, -⟩ := (mem_chM 5 0 0 rfl (by decide) (by decide) q).mp hq
      show mnv S v (lst q.1 + q.2) = ndN S v (lst q.1 + q.2)
      rw [show ndN S v (lst q.1 + q.2) = sMn S (341 * v + (lst q.1 + q.2)) from if_pos m]
      exact if_pos (lst_lt a2 a3)
    · rw [sl.2 s, show slN S v = 341 from if_pos m]
      have e : s < 341 → ndN S v s = mnv S v s := fun h => (show ndN S v s = sMn S (341 * v + s) from if_pos m).trans (show mnv S v s = _ from if_pos h).symm
      constructor
      · rintro ⟨h1, l, b, l1, b1, rfl, hp⟩
        exact ⟨h1, by rw [e h1]; exact ((hP.2.2.2.1 m).2.2.1 l b l1 b1).mp hp⟩
      · rintro ⟨h1, h2⟩
        rw [e h1] at h2
        obtain ⟨l, b, l1, b1, rfl⟩ := lst_ex h1
        exact ⟨h1, l, b, l1, b1, rfl, ((hP.2.2.2.1 m).2.2.1 l b l1 b1).mpr h2⟩
  · have e21 : slN S v = 21 := if_neg m
    by_cases pv : pvec (vp S v)
    · have V := (hT.1 pv).1
      have h64 : sSz S v ≤ 64 := hP.2.1
      obtain ⟨n1, n2, n3⟩ := chW_l (sSz S v) (by omega)
      have e : ∀ s, s < 21 → ndN S v s = if ith s (sSz S v) = true then ndv S v s else 0 := fun s hs => by
        rw [ndN_NG (by rw [e21]; exact hs), show sgm S v s = s from if_neg m]
        unfold NG
        rw [if_pos (show p_ty (vp S v) = 118 ∨ p_ty (vp S v) = 111 from pv)]
        by_cases i : ith s (sSz S v) = true
        · rw [if_pos i, if_pos ⟨hs, i⟩]; rfl
        · rw [if_neg i, if_neg (fun z => i z.2)]
      refine Or.inr ⟨Nat, ndv S v, chW (sSz S v), 3, rtS (sSz S v), trL (chW (sSz S v)) 3 (rtS (sSz S v)), VAP.top hx pv, by decide, V.tre 3 _ rtS_lt rtS_i (by unfold hOf; split <;> (try split) <;> omega), ?_, n1, fun s => ?_⟩
      · refine List.map_congr_left (fun s hs => ?_)
        have h1 := n3 s hs
        rw [e s h1, if_pos ((n2 s h1).mp hs)]
      · rw [e21]
        constructor
        · intro hs
          have h1 := n3 s hs
          have h2 := (n2 s h1).mp hs
          exact ⟨h1, by rw [e s h1, if_pos h2]; exact hP.2.2.2.2 pv s h1 h2⟩
        · rintro ⟨h1, h2⟩
          rw [e s h1] at h2
          by_cases i : ith s (sSz S v) = true
          · exact (n2 s h1).mpr i
          · rw [if_neg i] at h2; exact absurd h2 (Nat.lt_irrefl _)
    · have x120 : p_ty (vp S v) = 120 := by
        rcases hP.1 with z | z | z | z
        · exact absurd (Or.inl z) pv
        · exact absurd (Or.inr z) pv
        · exact absurd z m
        · exact z
      refine Or.inl ⟨(VAP.x hx x120).2.2.1, fun s hs => ?_⟩
      rw [ndN_NG hs]
      unfold NG
      rw [if_neg (show ¬ (p_ty (vp S v) = 118 ∨ p_ty (vp S v) = 111) from pv), if_neg (show ¬ p_ty (vp S v) = 109 from m)]
theorem NTV.fm {h h' : Hp} {S : SV} {v mk : Nat} {tp : Option Nat} (H : NTV h S v tp) (F : FM mk h h') : NTV h' S v tp := H.imp id (fun ⟨α, num, ch, f, t, sl, h1, h2, h3, h4⟩ => ⟨α, num, ch, f, t, sl, h1, h2, h3.fm F, h4⟩)
section CNT
variable {G : GG} {d bc bs : Nat} {h : Hp} {Q : Pst} {S : SV} {v : Nat} {tp : Option Nat}
theorem c_countV (N : NTV h S v tp) (hd : 6 ≤ d) (hq : Q (oRet (vi (nI (nsN S v)))) h) : WP G m_X11_countNodes d 0 (aargs 0 [vr tp, vi (nI 1)]) [] h bc bs Q := by
  rcases N with ⟨rfl, h0⟩ | ⟨α, num, ch, f, t, sl, rfl, h2, h3, h4, h5, h6⟩
  · refine c_X11_countNull ?_
    rw [show nsN S v = 0 from (sumN_c _ (fun s hs => if_neg (by rw [h0 s hs]; decide))).trans (sum_zero _)] at hq
    exact hq
  · refine c_X11_countNodes (Q := Q) f t 1 d bc bs Q h3 (by omega) (by omega) ?_
    have e : (trL ch f t).length = nsN S v := by
      have := congrArg List.length h4
      rw [List.length_map, List.length_map] at this
      have l := lsum (P := fun _ => true) (N := slN S v) sl h5 (fun s hs => ((h6 s).mp hs).1)
      rw [List.filter_eq_self.mpr (fun _ _ => rfl)] at l
      rw [this, l]
      exact sumN_c _ (fun s hs => by
        by_cases q : 0 < ndN S v s
        · rw [if_pos q, if_pos ⟨(h6 s).mpr ⟨hs, q⟩, rfl⟩]
        · rw [if_neg q, if_neg (fun z => q ((h6 s).mp z.1).2)])
    rw [e]; exact hq
/-- how many nodes of a value are not marked -/
def umN (S : SV) (v : Nat) (D : Nat → Bool) : Nat := sumN (fun s => if 0 < ndN S v s ∧ D (ndN S v s) = false then 1 else 0) (slN S v)
theorem c_markV {mk : Nat} {D : Nat → Bool} (hS : SVI S) (hv : v < sNv S) (hmk : mk < 1000000) (N : NTV h S v tp) (hD : MKD h mk D) (hd : 6 ≤ d) (hq : ∀ h' D', FM mk h h' → MKD h' mk D' → (∀ k, D' k = true ↔ D k = true ∨ ∃ s, s < slN S v ∧ 0 < ndN S v s ∧ ndN S v s = k) → Q (oRet (vi (nI (umN S v D)))) h') : WP G m_X11_markNodes d 0 (aargs 0 [vr tp, vi (nI mk), vi (nI 1)]) [] h bc bs Q := by
  rcases N with ⟨rfl, h0⟩ | ⟨α, num, ch, f, t, sl, rfl, h2, h3, h4, h5, h6⟩
  · refine c_X11_markNull ?_
    have := hq h D FM.rf hD (fun k => ⟨Or.inl, fun z => z.resolve_right (fun ⟨s, s1, s2, _⟩ => by rw [h0 s s1] at s2; exact absurd s2 (by decide))⟩)
    rw [show umN S v D = 0 from (sumN_c _ (fun s hs => if_neg (by rw [h0 s hs]; exact fun z => absurd z.1 (by decide)))).trans (sum_zero _)] at this
    exact this
  · refine c_X11_markNodes hmk f t 1 d bc bs h D Q h3 hD (by omega) (by omega) (fun h' F D9 => ?_)
    rw [h4] at D9 ⊢
    have nn : (sl.map (ndN S v)).Nodup := by
      unfold List.Nodup
      rw [List.pairwise_map]
      refine List.Pairwise.imp_of_mem (fun {a b} ha hb hab e => hab ?_) h5
      exact (ndN_uq hS hv hv ((h6 a).mp ha).1 ((h6 b).mp hb).1 ((h6 a).mp ha).2 e).2
    obtain ⟨m1, m2⟩ := mrL_n (sl.map (ndN S v)) D nn
    have := hq h' _ F D9 (fun k => by
      rw [m2 k, List.mem_map]
      exact ⟨fun z => z.imp id (fun ⟨s, s1, s2⟩ => ⟨s, ((h6 s).mp s1).1, ((h6 s).mp s1).2, s2⟩), fun z => z.imp id (fun ⟨s, s1, s2, s3⟩ => ⟨s, (h6 s).mpr ⟨s1, s2⟩, s3⟩)⟩)
    rw [m1, List.filter_map, List.length_map, show (fun k => !D k) ∘ ndN S v = fun s => !D (ndN S v s) from rfl, lsum (P := fun s => !D (ndN S v s)) (N := slN S v) sl h5 (fun s hs => ((h6 s).mp hs).1)]
    rw [show umN S v D = sumN (fun s => if s ∈ sl ∧ (!D (ndN S v s)) = true then 1 else 0) (slN S v) from sumN_c _ (fun s hs => by
      by_cases q : 0 < ndN S v s ∧ D (ndN S v s) = false
      · rw [if_pos q, if_pos ⟨(h6 s).mpr ⟨hs, q.1⟩, by rw [q.2]; rfl⟩]
      · rw [if_neg q, if_neg (fun z => q ⟨((h6 s).mp z.1).2, by have := z.2; rw [Bool.not_eq_true'] at this; exact this⟩)])] at this
    exact this
end CNT
/-- a mark more -/
theorem KN.vt {h h' : Hp} {M n : Nat} {nd : Nat → Nat} {el : Nat → Int32} {ow : Nat → Bool} {o : Int32} (V : VT h M n nd el ow o) (F : FM (M + 1) h h') : VT h' (M + 1) n nd el ow o := fun s hs hi => by
  obtain ⟨x, hO, ⟨⟨m, m1, m2⟩, hx⟩, ho⟩ := V s hs hi
  refine ⟨_, hO.fm F, ⟨?_, hx⟩, ho⟩
  rcases F.2.2 (nd s) with z | z
  · exact ⟨m, by omega, by show h_I h' (nm 45 (nd s)) 6 = nI m; rw [z, hO.f_mk]; exact m2⟩
  · exact ⟨M + 1, Nat.le_refl _, z⟩
theorem KN.mt {h h' : Hp} {M : Nat} {hs : Nat → Bool} {of : Nat → Int32} {mn : Nat → Nat} (T : MTf h M hs of mn) (F : FM (M + 1) h h') : MTf h' (M + 1) hs of mn := fun l b hl hb hp => by
  obtain ⟨x, hO, ⟨m, m1, m2⟩, hx⟩ := T l b hl hb hp
  refine ⟨_, hO.fm F, ?_, hx⟩
  rcases F.2.2 (mn (lst l + b)) with z | z
  · exact ⟨m, by omega, by show h_I h' (nm 45 (mn (lst l + b))) 6 = nI m; rw [z, hO.f_mk]; exact m2⟩
  · exact ⟨M + 1, Nat.le_refl _, z⟩
theorem CV.mark {h h' : Hp} {S : SV} {M : Nat} (H : CV h S M) (F : FM (M + 1) (wI h (nm 40 0) 3 (nI (M + 1))) h') : CV h' S (M + 1) ∧ FRV h h' := by
  obtain ⟨⟨⟨a1, a2, a3, a4, a5⟩, ⟨b1, b2⟩, c⟩, hM, hV, f1, f2, f3, K, f4⟩ := H
  have e : ∀ a, a % 128 ≠ 45 → a ≠ nm 40 0 → ce h' a = ce h a := fun a h1 h2 => (F.cc h1).trans (ce_wI h2)
  have e0 : ce h' (nm 40 0) = ce (wI h (nm 40 0) 3 (nI (M + 1))) (nm 40 0) := F.cc (by decide)
  have hk : h_k h' = h_k h := F.1.1
  have e1 := e (nm 40 1) (by decide) (by decide)
  -- the same heap, the parlour's marks apart
  have er : ∀ r i, 42 ≤ r → r ≤ 48 → r ≠ 45 → ce h' (nm r i) = ce h (nm r i) := fun r i r1 r2 r3 => e _ (by unfold nm; omega) (by unfold nm; omega)
  have w0 : ∀ r i, 41 ≤ r → r < 128 → ce (wI h (nm 40 0) 3 (nI (M + 1))) (nm r i) = ce h (nm r i) := fun r i r1 r2 => ce_wI (by unfold nm; omega)
  refine ⟨⟨⟨⟨by rw [hk]; exact a1, by rw [ce_R e0]; exact a2, by rw [ce_I e0, gI_wI, if_neg (fun z => absurd z.2 (by decide))]; exact a3, by rw [ce_R e0]; exact a4, by rw [ce_I e0, gI_wI, if_pos ⟨rfl, rfl⟩]⟩, ⟨(ce_k e1).trans b1, (ce_n e1).trans b2⟩, fun v hv => by rw [ce_R e1]; exact c v hv⟩, hM.frm (e _ (by decide) (by decide)), fun v hv => ⟨(hV v hv).1.frm (er _ _ (by decide) (by decide) (by decide)) (er _ _ (by decide) (by decide) (by decide)) (fun a _ => er _ _ (by decide) (by decide) (by decide)), fun pv => ⟨?_, fun s s1 s2 => ?_⟩, fun m => ?_⟩, fun i hi => by rw [hk]; exact f1 i hi, fun i hi => by rw [hk]; exact f2 i hi, fun k hk2 => by unfold FrN; rw [hk]; exact f3 k hk2, K, fun i hi => by rw [hk]; exact f4 i hi⟩, fun a ha => ?_, ⟨by rw [hk], ?_, ?_, ?_, ?_⟩, fun j j1 j3 => ?_⟩
  · exact KN.vt (((hV v hv).2.1 pv).1.frm (fun s r _ _ r1 r2 => w0 r _ (by omega) (by omega))) F
  · rw [F.2.1 _ 1 (Or.inr (by decide)), ce_I (w0 45 _ (by decide) (by decide))]
    exact ((hV v hv).2.1 pv).2 s s1 s2
  · exact KN.mt (((hV v hv).2.2 m).frm (fun l b r _ _ _ r1 r2 => w0 r _ (by omega) (by omega))) F
  · exact e a (fun z => ha (Or.inr (Or.inr (Or.inr ⟨by omega, by omega⟩)))) (fun z => ha (Or.inl z))
  · exact (ce_n e0).trans rfl
  · exact (ce_R e0).trans rfl
  · exact (ce_L e0).trans rfl
  · exact (ce_F e0).trans rfl
  · rw [ce_I e0, gI_wI, if_neg (fun z => j3 z.2)]
/-- nothing bears a new mark -/
theorem CV.nomark {h : Hp} {S : SV} {M : Nat} (H : ∀ k, h_k h (nm 45 k) = 6 → ∃ m, m ≤ M ∧ h_I h (nm 45 k) 6 = nI m) (hM : M < 1000000) : MKD h (M + 1) (fun _ => false) := fun k hk => by
  obtain ⟨m, m1, m2⟩ := H k hk
  rw [m2]
  exact ⟨fun z => by have := nI_j (by omega) (by omega) z; omega, fun z => nomatch z⟩
set_option maxRecDepth 100000 in
set_option maxHeartbeats 4000000 in
theorem c_X11_nodes {G : GG} {d bc bs : Nat} {h : Hp} {Q : Pst} {S : SV} {M : Nat} (hS : SVI S) (hC : CV h S M) (hr : sMd S < 700000) {u : Int32} {k : Nat} (hu : ixB u (sNv S) = true → u = nI k ∧ k < sNv S) (hd : 10 ≤ d) (hbc : 6 ≤ bc) (hbs : 40 ≤ bs) (hq : KOV Q h ["java/lang/IndexOutOfBoundsException"] M (o_nodes S u k)) : WP G m_X11_nodes d 0 (aargs 0 [vr (some (nm 40 0)), vi u]) [] h bc bs Q := by
  have q8 : clN 10 = 5 := rfl
  have hn60 := hS.1
  obtain ⟨K, fK⟩ := hC.2.2.2.2.2.2
  refine wp_sub [(0, vr (some (nm 40 0))), (1, vi u)] (fun _ hz => hz) ?_
  refine wp_aload_n (i := 0) dX11_nodes_0 rfl rfl ?_
  refine wp_iload_n (i := 1) dX11_nodes_1 rfl rfl ?_
  refine wp_cV (y' := m_X11_valueNumbered) 12 [vi u] [] 1 6 dX11_nodes_2 ml_X11_87 im_X11_valueNumbered se_X11_valueNumbered (by decide) hC.1.1.1 ok_X11_valueNumbered rfl (Nat.le_of_ble_eq_true rfl) rfl (Nat.le_of_ble_eq_true rfl) (d' := d - 1) (by omega) (by omega) (by omega) (c_X11_valueNumbered hC.1 (by omega) (v := u) (t := k) hu (by omega) (by omega) (by omega) (fun g_s => cont_thr rfl ?_) (fun b_s eu hk => cont_ret ?_))
  · rw [show o_nodes S u k = (nI 1, nI 0, S) from by unfold o_nodes; rw [if_pos (by rw [g_s]; rfl)]] at hq
    exact (hq h M (Nat.le_refl _) (by omega) hC FRV.rf).1 0 _ rfl rfl
  · subst eu
    obtain ⟨⟨x, hO, hsz, hx⟩, hT⟩ := hC.2.2.1 k hk
    have hP := hS.2.1 k hk
    have hkd := VAP.kd hx
    have hk4 : KU_kd x < 4 := by rw [hkd]; exact (kdN_v hP.1).2.2.2.2.1
    have hz64 : sSz S k ≤ 64 := hP.2.1
    have hzs : KU_sz x = sSz S k := hsz
    refine wp_get 10 1 (vr (KU_tp x)) dX11_nodes_5 hO.k0 (by decide) (by decide) fl_X11_116 (congrArg (fun z => toV (vr z)) (hO.o_tp)) ?_
    refine wp_iconst (nI 1) dX11_nodes_8 (by decide) ?_
    refine wp_cS (y' := m_X11_countNodes) [vr (KU_tp x), vi (nI 1)] [] 0 0 dX11_nodes_9 ml_X11_240 st_X11_countNodes ok_X11_countNodes rfl (Nat.le_of_ble_eq_true rfl) rfl (Nat.le_of_ble_eq_true rfl) (d' := d - 1) (by omega) (Nat.zero_le _) (Nat.zero_le _) (c_countV (NTV.of hS hC hk hx) (by omega) (cont_ret ?_))
    refine wp_ireturn dX11_nodes_12 rfl ?_
    rw [show o_nodes S (nI k) k = (nI 0, nI (nsN S k), S) from by unfold o_nodes; rw [if_neg (by rw [b_s]; decide)]] at hq
    exact (hq h M (Nat.le_refl _) (by omega) (hC) (FRV.rf)).2 rfl
