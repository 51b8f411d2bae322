/-! The class: one vector more. -/
/-- what a call about values is held to -/
def KOV (Q : Pst) (h : Hp) (E : List String) (M : Nat) (o : Int32 × Int32 × SV) : Prop := ∀ h' M', M ≤ M' → M' ≤ M + 1 → CV h' o.2.2 M' → FRV h h' → (∀ i e, o.1 = nI (i + 1) → E[i]? = some e → Q (oThr e) h') ∧ (o.1 = nI 0 → Q (oRet (vi o.2.1)) h')
/-- the class's number of a kind -/
def kdN (t : Nat) : Nat := if t = 118 then 0 else if t = 111 then 1 else if t = 109 then 2 else 3
theorem VAP.kd {h : Hp} {v : Nat} {P : VPr} {x : KUS} (hx : VAv h P x ∨ VAo h v P x ∨ VAx P x ∨ VAm h P x) : KU_kd x = kdN (p_ty P) := by
  rcases hx with ⟨a, b, -⟩ | ⟨a, b, -⟩ | ⟨a, b, -⟩ | ⟨a, b, -⟩ <;> rw [a, b] <;> rfl
theorem VAP.v {h : Hp} {v : Nat} {P : VPr} {x : KUS} (hx : VAv h P x ∨ VAo h v P x ∨ VAx P x ∨ VAm h P x) (e : p_ty P = 118) : VAv h P x := by
  rcases hx with a | ⟨a, -⟩ | ⟨a, -⟩ | ⟨a, -⟩
  · exact a
  all_goals (rw [e] at a; cases a)
theorem VAP.o {h : Hp} {v : Nat} {P : VPr} {x : KUS} (hx : VAv h P x ∨ VAo h v P x ∨ VAx P x ∨ VAm h P x) (e : p_ty P = 111) : VAo h v P x := by
  rcases hx with ⟨a, -⟩ | a | ⟨a, -⟩ | ⟨a, -⟩
  · rw [e] at a; cases a
  · exact a
  all_goals (rw [e] at a; cases a)
theorem VAP.x {h : Hp} {v : Nat} {P : VPr} {x : KUS} (hx : VAv h P x ∨ VAo h v P x ∨ VAx P x ∨ VAm h P x) (e : p_ty P = 120) : VAx P x := by
  rcases hx with ⟨a, -⟩ | ⟨a, -⟩ | a | ⟨a, -⟩
  · rw [e] at a; cases a
  · rw [e] at a; cases a
  · exact a
  · rw [e] at a; cases a
theorem VAP.m {h : Hp} {v : Nat} {P : VPr} {x : KUS} (hx : VAv h P x ∨ VAo h v P x ∨ VAx P x ∨ VAm h P x) (e : p_ty P = 109) : VAm h P x := by
  rcases hx with ⟨a, -⟩ | ⟨a, -⟩ | ⟨a, -⟩ | a
  · rw [e] at a; cases a
  · rw [e] at a; cases a
  · rw [e] at a; cases a
  · exact a
theorem kdN_v {t : Nat} (ht : t = 118 ∨ t = 111 ∨ t = 109 ∨ t = 120) : (kdN t = 0 ↔ t = 118) ∧ (kdN t = 1 ↔ t = 111) ∧ (kdN t = 2 ↔ t = 109) ∧ (kdN t = 3 ↔ t = 120) ∧ kdN t < 4 ∧ (kdN t < 2 ↔ t = 118 ∨ t = 111) := by
  rcases ht with rfl | rfl | rfl | rfl <;> decide
/-- what the calls write, a value n more -/
def VW (n a c c' b : Nat) : Prop := b = nm 40 0 ∨ b = nm 40 1 ∨ b = nm 40 2 ∨ b = nm 42 n ∨ b = nm 43 a ∨ b = nm 43 (a + 1) ∨ b = nm 44 n ∨ (45 ≤ b % 128 ∧ b % 128 ≤ 48 ∧ c < b / 128 ∧ b / 128 ≤ c')
theorem CV.addF {h h' : Hp} {S S' : SV} {M a : Nat} (H : CV h S M) (hn : sNv S' = sNv S + 1) (hc : sMd S ≤ sMd S') (hv : ∀ v, v < sNv S → vp S' v = vp S v) (C : CVh h' (sNv S + 1) M) (hM : MKR h' (sMd S')) (A : VAP h' (sNv S) (vp S' (sNv S))) (T : TRP h' M (sNv S + 1) (sNv S) (vp S' (sNv S)))
    (hF : Fr h h' (VW (sNv S) a (sMd S) (sMd S'))) (fa : FreeI h 43 a) : CV h' S' M := by
  refine H.add hn hc hv C hM A T (fun v hv => hF _ (by unfold VW nm; omega)) (fun v hv => hF _ (by unfold VW nm; omega)) (fun b hb => hF _ (fun z => hb (fa b (by unfold VW nm at z; omega)))) (fun k r hk r1 r2 => hF _ (fun z => by unfold VW nm at z; omega)) (fun k hk => (H.2.2.2.2.2.1 k (by omega)).frm (fun r r1 r2 => hF _ (by unfold VW nm; omega))) ⟨a + 2, fun i hi => (ce_k (hF _ (by unfold VW nm; omega))).trans (fa i (by omega))⟩
theorem VT.cg {h : Hp} {M n : Nat} {nd nd' : Nat → Nat} {el el' : Nat → Int32} {ow ow' : Nat → Bool} {o o' : Int32} (V : VT h M n nd el ow o) (hd : ∀ s, s < 21 → ith s n = true → nd' s = nd s) (he : ∀ j, j < n → el' j = el j) (ho : ∀ s, s < 21 → ith s n = true → o' = -1 ∨ (h_I h (nm 45 (nd s)) 1 = o' ↔ ow' s = true)) : VT h M n nd' el' ow' o' := fun s hs hi => by
  obtain ⟨x, hO, hx, -⟩ := V s hs hi
  rw [hd s hs hi]
  refine ⟨x, hO, hx.tr (fun _ p hp => ?_) (fun h16 p hp => ?_), ?_⟩
  · unfold elV
    by_cases z : 4 * s + p < n
    · rw [if_pos z, if_pos z]; exact he _ z
    · rw [if_neg z, if_neg z]
  · unfold chV
    by_cases z : ith (chs s p) n = true
    · rw [if_pos z, if_pos z, hd _ (chs_lt h16 hs hp).1 z]
    · rw [if_neg z, if_neg z]
  · rw [← hO.f_own]; exact ho s hs hi
theorem TRP.vec {h : Hp} {M n v : Nat} {P : VPr} {ow : Nat → Bool} (hty : p_ty P = 118) (V : VT h M (p_sz P) (p_nd P) (p_el P) ow (-1)) (O : ∀ s, s < 21 → ith s (p_sz P) = true → OB n (h_I h (nm 45 (p_nd P s)) 1)) : TRP h M n v P := by
  refine ⟨fun _ => ⟨?_, O⟩, fun z => by rw [hty] at z; cases z⟩
  rw [show onr v P = -1 from if_neg (by rw [hty]; decide)]
  exact V.cg (fun _ _ _ => rfl) (fun _ _ => rfl) (fun _ _ _ => Or.inl rfl)
theorem VAP.vec {h : Hp} {v a : Nat} {P : VPr} (hty : p_ty P = 118) (K : KU h v (0, some (nm 45 (p_nd P (rtS (p_sz P)))), p_sz P, none, some (nm 43 a))) (R : PRr h (nm 43 a) (p_sz P) (p_el P)) : VAP h v P := ⟨_, K, rfl, Or.inl ⟨hty, rfl, rfl, rfl, a, rfl, R⟩⟩
/-- a vector more whose nodes differ from k's on a path -/
def NVF (S S' : SV) (c k pl n' : Nat) (el' : Nat → Int32) : Prop := (sNv S' = sNv S + 1 ∧ sTy S' (sNv S) = c ∧ sSz S' (sNv S) = n' ∧ elv S' (sNv S) = el' ∧ (∀ v, v < sNv S → vp S' v = vp S v) ∧ ∀ s, owv S' (sNv S) s = false) ∧
    (∀ t, t < 21 → ith t n' = true → offp pl t → ndv S' (sNv S) t = ndv S k t) ∧ (∀ i, 1 ≤ i → i ≤ 3 → ith (psl pl i) n' = true → sMd S < ndv S' (sNv S) (psl pl i) ∧ ndv S' (sNv S) (psl pl i) ≤ sMd S') ∧ (∀ i j, 1 ≤ i → i < j → j ≤ 3 → ith (psl pl i) n' = true → ith (psl pl j) n' = true → ndv S' (sNv S) (psl pl i) ≠ ndv S' (sNv S) (psl pl j)) ∧ sMd S' = sMd S + onp n' pl
/-- one with the nodes of k -/
def NVS (S S' : SV) (c k : Nat) (el' : Nat → Int32) : Prop := (sNv S' = sNv S + 1 ∧ sTy S' (sNv S) = c ∧ sSz S' (sNv S) = sSz S k ∧ elv S' (sNv S) = el' ∧ (∀ v, v < sNv S → vp S' v = vp S v) ∧ ∀ s, owv S' (sNv S) s = false) ∧ (∀ t, t < 21 → ith t (sSz S k) = true → ndv S' (sNv S) t = ndv S k t) ∧ sMd S' = sMd S
theorem NVF.mk {S T : SV} {c k pl n' : Nat} {el' : Nat → Int32} (hk : k < sNv S) (h1 : sNv T = sNv S + 1) (h2 : sTy T (sNv S) = c) (h3 : sSz T (sNv S) = n') (h4 : elv T (sNv S) = el') (h5 : ∀ v, v < sNv S → vp T v = vp S v) (h6 : sMd T = sMd S) (hp : pl < 64) (hs : ∀ s, s < 21 → ith s n' = true → ((ith s (sSz S k) = true ∧ smP (sSz S k) n' (elv S k) el' s) ↔ offp pl s)) : NVF S (s_nf T (sNv S) k) c k pl n' el' := by
  have e1 := h5 k hk
  have e2 : sSz T k = sSz S k := congrArg p_sz e1
  have e3 : elv T k = elv S k := congrArg p_el e1
  have e4 : ndv T k = ndv S k := congrArg p_nd e1
  have P := nf_path (T := T) (w := sNv S) (k := k) hp (by rw [h3, h4, e2, e3]; exact hs)
  rw [h3, e4, h6] at P
  exact ⟨⟨h1, h2, h3, h4, fun v hv => (vp_nf (by omega)).trans (h5 v hv), fun s => by rw [owv_nf]⟩, P.1, P.2.1, P.2.2.1, P.2.2.2⟩
theorem NVS.mk {S T : SV} {c k : Nat} {el' : Nat → Int32} (hk : k < sNv S) (h1 : sNv T = sNv S + 1) (h2 : sTy T (sNv S) = c) (h3 : sSz T (sNv S) = sSz S k) (h4 : elv T (sNv S) = el') (h5 : ∀ v, v < sNv S → vp T v = vp S v) (h6 : sMd T = sMd S) (he : ∀ j, j < sSz S k → el' j = elv S k j) : NVS S (s_nf T (sNv S) k) c k el' := by
  have e1 := h5 k hk
  have e2 : sSz T k = sSz S k := congrArg p_sz e1
  have e3 : elv T k = elv S k := congrArg p_el e1
  have e4 : ndv T k = ndv S k := congrArg p_nd e1
  have P := nf_same (T := T) (w := sNv S) (k := k) (by rw [h3, h4, e2, e3]; exact fun s _ hi => ⟨hi, rfl, fun j _ hj => he j (by omega)⟩)
  rw [h3, e4, h6] at P
  exact ⟨⟨h1, h2, h3, h4, fun v hv => (vp_nf (by omega)).trans (h5 v hv), fun s => by rw [owv_nf]⟩, P⟩
section DUP
variable {S : SV} {c k : Nat}
theorem dup_vp (hk : k < sNv S) {v : Nat} (hv : v < sNv S) : vp (s_dup S c k) v = vp S v := (vp_cp (by omega)).trans (vp_new (by omega))
theorem dup_el (hk : k < sNv S) : elv (s_dup S c k) (sNv S) = elv S k := elv_cp.trans (congrArg p_el (vp_new (show k ≠ sNv S by omega)))
theorem dup_ty (hk : k < sNv S) : sTy (s_dup S c k) (sNv S) = c := va_up_self _ _ _
theorem NVF.append (hk : k < sNv S) {e : Int32} (hz : sSz S k < 64) : NVF S (s_nf (s_4 (s_5 (s_dup S c k) (64 * sNv S + sSz S k) e) (sNv S) (sSz S k + 1)) (sNv S) k) c k (sSz S k) (sSz S k + 1) (va_up (elv S k) (sSz S k) e) :=
  NVF.mk hk rfl (dup_ty hk) (va_up_self _ _ _) ((elv_5 hz).trans (by rw [dup_el hk])) (fun v hv => (vp_4 (by omega)).trans ((vp_5 (by omega) hz).trans (dup_vp hk hv))) rfl hz (fun s hs hi => smP_up hs (by omega) (Or.inr ⟨rfl, rfl⟩) (fun j hj => va_ne hj) hi)
theorem NVF.set (hk : k < sNv S) {j : Nat} {e : Int32} (hz : sSz S k ≤ 64) (hj : j < sSz S k) (he : elv S k j ≠ e) : NVF S (s_nf (s_5 (s_dup S c k) (64 * sNv S + j) e) (sNv S) k) c k j (sSz S k) (va_up (elv S k) j e) :=
  NVF.mk hk rfl (dup_ty hk) (dup_sz hk) ((elv_5 (by omega)).trans (by rw [dup_el hk])) (fun v hv => (vp_5 (by omega) (by omega)).trans (dup_vp hk hv)) rfl (by omega) (fun s hs hi => smP_up hs hz (Or.inl ⟨rfl, hj, by rw [va_up_self]; exact fun z => he z.symm⟩) (fun i hi => va_ne hi) hi)
theorem NVF.cut (hk : k < sNv S) {pl : Nat} (hz : pl < 64) (he : sSz S k = pl + 1) : NVF S (s_nf (s_4 (s_dup S c k) (sNv S) (sSz S k - 1)) (sNv S) k) c k pl pl (elv S k) := by
  rw [he]
  exact NVF.mk hk rfl (dup_ty hk) (va_up_self _ _ _) (dup_el hk) (fun v hv => (vp_4 (by omega)).trans (dup_vp hk hv)) rfl hz (fun s hs hi => by rw [he]; exact smP_dn hs hz hi)
theorem NVS.set (hk : k < sNv S) {j : Nat} {e : Int32} (hj : j < 64) (he : elv S k j = e) : NVS S (s_nf (s_5 (s_dup S c k) (64 * sNv S + j) e) (sNv S) k) c k (elv S k) := by
  refine NVS.mk hk rfl (dup_ty hk) (dup_sz hk) ((elv_5 hj).trans ?_) (fun v hv => (vp_5 (by omega) (by omega)).trans (dup_vp hk hv)) rfl (fun _ _ => rfl)
  rw [dup_el hk]
  funext i
  rw [va_up_app]
  by_cases z : i = j
  · rw [if_pos z, z, he]
  · rw [if_neg z]
theorem NVS.dup (hk : k < sNv S) : NVS S (s_nf (s_dup S c k) (sNv S) k) c k (elv S k) := NVS.mk hk rfl (dup_ty hk) (dup_sz hk) (dup_el hk) (fun v hv => dup_vp hk hv) rfl (fun _ _ => rfl)
end DUP
theorem onp_in {n pl : Nat} (hp : pl < n) (hn : n ≤ 64) : onp n pl = dOf n := by
  have e : ∀ i, 1 ≤ i → i ≤ 3 → (ith (psl pl i) n = true ↔ i ≤ dOf n) := fun i i1 i3 => ⟨fun z => by rw [ith_iff, psl_h (by omega) i1 i3] at z; exact z.1, fun z => psl_i hp hn i1 z⟩
  have d := dOf_b n
  unfold onp
  rw [if_pos ((e 1 (by decide) (by decide)).mpr d.1)]
  by_cases h2 : 2 ≤ dOf n
  · rw [if_pos ((e 2 (by decide) (by decide)).mpr h2)]
    by_cases h3 : 3 ≤ dOf n
    · rw [if_pos ((e 3 (by decide) (by decide)).mpr h3)]; omega
    · rw [if_neg (fun z => h3 ((e 3 (by decide) (by decide)).mp z))]; omega
  · rw [if_neg (fun z => h2 ((e 2 (by decide) (by decide)).mp z)), if_neg (fun z => h2 (by have := (e 3 (by decide) (by decide)).mp z; omega))]; omega
theorem crN_no {pl : Nat} : ∀ D, crN (fun _ => false) pl (D + 1) = D := by
  intro D
  induction D with
  | zero => rfl
  | succ D ih => rw [crN_s (by omega), ih]; rfl
theorem crL_on {pl : Nat} : crL pl pl 3 = onp pl pl := by
  unfold onp
  simp only [crL, Nat.zero_add]
/-- nodes on the path are new -/
theorem NVF.nq {h : Hp} {S S' : SV} {c k pl n' M : Nat} {el' : Nat → Int32} (H : CV h S M) (N : NVF S S' c k pl n' el') (hp : pl < n') (hn : n' ≤ 64) : NDq h (sSz S k) (ndv S k) (ndv S' (sNv S)) (fun _ => false) pl (dOf n') := by
  have e : ∀ i, 1 ≤ i → i ≤ dOf n' → ith (psl pl i) n' = true := fun i i1 i2 => psl_i hp hn i1 i2
  have d := dOf_b n'
  exact ⟨fun i i1 i2 => ⟨(fun z => nomatch z), fun _ => H.2.2.2.2.2.1 _ (N.2.2.1 i i1 (by omega) (e i i1 i2)).1⟩, fun i j i1 i2 i3 => N.2.2.2.1 i j i1 i2 (by omega) (e i i1 (by omega)) (e j (by omega) i3)⟩
theorem SVI.inj {S : SV} (H : SVI S) {k : Nat} (hk : k < sNv S) (hv : pvec (vp S k)) : ∀ s t, s < 21 → t < 21 → ith s (sSz S k) = true → ith t (sSz S k) = true → ndv S k s = ndv S k t → s = t := fun s t hs ht h1 h2 e => by
  have g : ∀ r, r < 21 → ith r (sSz S k) = true → NG (vp S k) r = ndv S k r ∧ 0 < ndv S k r := fun r hr hi => ⟨by unfold NG; rw [if_pos (show p_ty (vp S k) = 118 ∨ p_ty (vp S k) = 111 from hv), if_pos ⟨hr, hi⟩]; rfl, (H.2.1 k hk).2.2.2.2 hv r hr hi⟩
  exact H.2.2.1 k k s t hk hk (by rw [(g s hs h1).1]; exact (g s hs h1).2) (by rw [(g s hs h1).1, (g t ht h2).1, e])
theorem offp_not {pl s : Nat} (h : ¬ offp pl s) : ∃ i, 1 ≤ i ∧ i ≤ 3 ∧ s = psl pl i := by
  by_cases q : ∃ i, 1 ≤ i ∧ i ≤ 3 ∧ s = psl pl i
  · exact q
  · exact absurd (fun i i1 i3 e => q ⟨i, i1, i3, e⟩) h
/-- the owners of a vector's nodes -/
theorem NVF.ob {h h' : Hp} {S S' : SV} {c k pl n' n : Nat} {el' : Nat → Int32} (N : NVF S S' c k pl n' el') (hn : sNv S ≤ n) (hi : ∀ s, s < 21 → ith s n' = true → offp pl s → ith s (sSz S k) = true) (T : ∀ s, s < 21 → ith s (sSz S k) = true → OB (sNv S) (h_I h (nm 45 (ndv S k s)) 1) ∧ ce h' (nm 45 (ndv S k s)) = ce h (nm 45 (ndv S k s))) (hO : ∀ i, 1 ≤ i → i ≤ 3 → ith (psl pl i) n' = true → h_I h' (nm 45 (ndv S' (sNv S) (psl pl i))) 1 = -1) : ∀ s, s < 21 → ith s n' = true → OB n (h_I h' (nm 45 (ndv S' (sNv S) s)) 1) := fun s hs h1 => by
  by_cases q : offp pl s
  · obtain ⟨t1, t2⟩ := T s hs (hi s hs h1 q)
    rw [N.2.1 s hs h1 q, ce_I t2]; exact t1.mono hn
  · obtain ⟨i, i1, i3, e⟩ := offp_not q
    rw [e] at h1 ⊢
    exact Or.inl (hO i i1 i3 h1)
/-- what the work on nodes writes; with rows -/
def VN (c c' b : Nat) : Prop := b = nm 40 2 ∨ (45 ≤ b % 128 ∧ b % 128 ≤ 48 ∧ c < b / 128 ∧ b / 128 ≤ c')
def VX (K c c' b : Nat) : Prop := VN c c' b ∨ b = nm 43 K ∨ b = nm 43 (K + 1)
theorem VX.w {K n c c' b : Nat} (H : VX K c c' b) : VW n K c c' b := by unfold VX VN at H; unfold VW; omega
theorem FRV.vx {h h' : Hp} {K c c' : Nat} (F : Fr h h' (VX K c c')) : FRV h h' := FRV.of F (fun a ha => by unfold VX VN nm at ha; unfold nm; omega)
/-- a vector more is kept -/
theorem CV.vecEnd {h h3 h4 : Hp} {S S' : SV} {M K a n' : Nat} {el' : Nat → Int32} {ow : Nat → Bool} (hC : CV h S M) (hn : sNv S' = sNv S + 1) (ht : sTy S' (sNv S) = 118) (hs : sSz S' (sNv S) = n') (he : elv S' (sNv S) = el') (hv : ∀ v, v < sNv S → vp S' v = vp S v) (hc : sMd S ≤ sMd S') (fK : FreeI h 43 K) (F3 : Fr h h3 (VX K (sMd S) (sMd S'))) (R3 : PRr h3 (nm 43 a) n' el') (V : VT h3 M n' (ndv S' (sNv S)) el' ow (-1))
    (O : ∀ s, s < 21 → ith s n' = true → OB (sNv S + 1) (h_I h3 (nm 45 (ndv S' (sNv S) s)) 1)) (hM : MKR h3 (sMd S')) (C4 : CVh h4 (sNv S + 1) M) (K4 : KU h4 (sNv S) (0, some (nm 45 (ndv S' (sNv S) (rtS n'))), n', none, some (nm 43 a))) (G4 : ∀ b, b ≠ nm 40 0 → b ≠ nm 40 1 → b ≠ nm 42 (sNv S) → ce h4 b = ce h3 b) (V4 : FRV h3 h4) : CV h4 S' M ∧ FRV h h4 := by
  have g45 : ∀ r i, 43 ≤ r → r ≤ 48 → ce h4 (nm r i) = ce h3 (nm r i) := fun r i r1 r2 => G4 _ (by unfold nm; omega) (by unfold nm; omega) (by unfold nm; omega)
  refine ⟨hC.addF hn hc hv C4 (hM.frm (G4 _ (by unfold nm; omega) (by unfold nm; omega) (by unfold nm; omega))) (VAP.vec (a := a) ht ?_ ?_) (TRP.vec (ow := ow) ht ?_ ?_) (fun b hb => ?_) fK, (FRV.vx F3).tr V4⟩
  · show KU h4 (sNv S) (0, some (nm 45 (ndv S' (sNv S) (rtS (sSz S' (sNv S))))), sSz S' (sNv S), none, some (nm 43 a))
    rw [hs]; exact K4
  · show PRr h4 (nm 43 a) (sSz S' (sNv S)) (elv S' (sNv S))
    rw [hs, he]; exact R3.frm (g45 _ _ (by decide) (by decide))
  · show VT h4 M (sSz S' (sNv S)) (ndv S' (sNv S)) (elv S' (sNv S)) ow (-1)
    rw [hs, he]; exact V.frm (fun s r _ _ r1 r2 => g45 r _ (by omega) r2)
  · show ∀ s, s < 21 → ith s (sSz S' (sNv S)) = true → OB (sNv S + 1) (h_I h4 (nm 45 (ndv S' (sNv S) s)) 1)
    rw [hs]; exact fun s h1 h2 => by rw [ce_I (g45 45 _ (by decide) (by decide))]; exact O s h1 h2
  · exact (G4 b (fun z => hb (Or.inl z)) (fun z => hb (Or.inr (Or.inl z))) (fun z => hb (Or.inr (Or.inr (Or.inr (Or.inl z)))))).trans (F3 b (fun z => hb z.w))
theorem TRP.vt {h h2 : Hp} {M n v : Nat} {P : VPr} (H : TRP h M n v P) (hv : pvec P) (e : ∀ r i, 45 ≤ r → r ≤ 48 → ce h2 (nm r i) = ce h (nm r i)) : VT h2 M (p_sz P) (p_nd P) (p_el P) (fun _ => true) (-1) := ((H.1 hv).1.cg (fun _ _ _ => rfl) (fun _ _ => rfl) (fun _ _ _ => Or.inl rfl)).frm (fun s r _ _ r1 r2 => e r _ r1 r2)
theorem off_up {n n' pl : Nat} (hn : (n' = n ∧ pl < n) ∨ (n' = n + 1 ∧ pl = n)) (hn4 : n' ≤ 64) : ∀ s, s < 21 → ith s n' = true → offp pl s → ith s n = true := fun s hs hi ho => by rw [← ith_offN hs hn hn4 ho]; exact hi
section VST
variable {G : GG} {d bc bs : Nat} {h h2 : Hp} {Q : Pst} {S S' : SV} {M k c : Nat}
theorem VT.kle {h : Hp} {M n s : Nat} {nd : Nat → Nat} {el : Nat → Int32} {ow : Nat → Bool} {o : Int32} (V : VT h M n nd el ow o) {S : SV} (hC : CV h S M) (hs : s < 21) (hi : ith s n = true) : nd s ≤ sMd S := hC.kle (VNk.k V hs hi)
theorem c_moreN (hS : SVI S) (hC : CV h S M) (hk : k < sNv S) (hv : pvec (vp S k)) (hr : sMd S < 700000) (hz : sSz S k < 64) {e : Int32} (N : NVF S S' c k (sSz S k) (sSz S k + 1) (va_up (elv S k) (sSz S k) e)) (G2 : ∀ r i, (45 ≤ r ∧ r ≤ 48) ∨ (r = 40 ∧ i = 2) → ce h2 (nm r i) = ce h (nm r i)) (hd : 8 ≤ d) (hbc : 12 ≤ bc) (hbs : 273 ≤ bs)
    (hq : ∀ h3, VT h3 M (sSz S k + 1) (ndv S' (sNv S)) (va_up (elv S k) (sSz S k) e) (fun _ => true) (-1) → (∀ s, s < 21 → ith s (sSz S k + 1) = true → OB (sNv S + 1) (h_I h3 (nm 45 (ndv S' (sNv S) s)) 1)) → MKR h3 (sMd S') → Fr h2 h3 (VN (sMd S) (sMd S')) → Q (oRet (vr (some (nm 45 (ndv S' (sNv S) (rtS (sSz S k + 1))))))) h3) : WP G m_X9_withOneMore d 0 (aargs 0 [vr (some (nm 40 2)), vr (some (nm 45 (ndv S k (rtS (sSz S k))))), vi (nI (sSz S k)), vi e, vi (-1)]) [] h2 bc bs Q := by
  have hT := (hC.2.2.1 k hk).2
  have e2 : ∀ r i, 45 ≤ r → r ≤ 48 → ce h2 (nm r i) = ce h (nm r i) := fun r i r1 r2 => G2 r i (Or.inl ⟨r1, r2⟩)
  have d3 := dOf_b (sSz S k + 1)
  refine c_X9_withOneMore (ow := fun _ => true) (ow' := fun _ => true) (ru := fun _ => false) (nd' := ndv S' (sNv S)) (c := sMd S) (hT.vt hv e2) (by omega) (fun t => by simp) (hS.inj hk hv) N.2.1 ⟨fun i i1 i2 => ⟨((N.nq hC (Nat.lt_succ_self _) (by omega)).1 i i1 i2).1, fun z => (((N.nq hC (Nat.lt_succ_self _) (by omega)).1 i i1 i2).2 z).frm (fun r r1 r2 => e2 r _ r1 r2)⟩, (N.nq hC (Nat.lt_succ_self _) (by omega)).2⟩ (hC.2.1.frm (G2 40 2 (Or.inr ⟨rfl, rfl⟩))) hr (fun _ _ _ => rfl) (fun _ _ => rfl) hd hbc hbs (fun h3 V3 O3 M3 F3 => ?_)
  rw [rtS_p (Nat.lt_succ_self _)]
  have nw : ∀ i, 1 ≤ i → i ≤ dOf (sSz S k + 1) → sMd S < ndv S' (sNv S) (psl (sSz S k) i) ∧ ndv S' (sNv S) (psl (sSz S k) i) ≤ sMd S' := fun i i1 i2 => N.2.2.1 i i1 (by omega) (psl_i (Nat.lt_succ_self _) (by omega) i1 i2)
  have F9 : Fr h2 h3 (VN (sMd S) (sMd S')) := fun b hb => F3 b (fun z => hb (z.elim Or.inl (fun ⟨i, i1, i2, z⟩ => Or.inr (by have := nw i i1 i2; unfold CNo at z; omega))))
  refine hq h3 V3 (N.ob (by omega) (off_up (Or.inr ⟨rfl, rfl⟩) (by omega)) (fun s hs hi => ⟨(hT.1 hv).2 s hs hi, (F9 _ (fun z => ?_)).trans (e2 _ _ (by decide) (by decide))⟩) (fun i i1 i3 hi => O3 i i1 (by rw [ith_iff, psl_h (by omega) i1 i3] at hi; exact hi.1))) ?_ F9
  · have := (hT.1 hv).1.kle hC hs hi
    have e9 : p_nd (vp S k) = ndv S k := rfl
    rw [e9] at this
    unfold VN nm at z; omega
  · rw [crN_no, ← onp_in (Nat.lt_succ_self _) (by omega), ← N.2.2.2.2] at M3; exact M3
theorem c_otherN (hS : SVI S) (hC : CV h S M) (hk : k < sNv S) (hv : pvec (vp S k)) (hr : sMd S < 700000) (hz : sSz S k ≤ 64) {j : Nat} (hj : j < sSz S k) {e : Int32} (N : NVF S S' c k j (sSz S k) (va_up (elv S k) j e)) (G2 : ∀ r i, (45 ≤ r ∧ r ≤ 48) ∨ (r = 40 ∧ i = 2) → ce h2 (nm r i) = ce h (nm r i)) (hd : 8 ≤ d) (hbc : 12 ≤ bc) (hbs : 273 ≤ bs)
    (hq : ∀ h3, VT h3 M (sSz S k) (ndv S' (sNv S)) (va_up (elv S k) j e) (fun _ => true) (-1) → (∀ s, s < 21 → ith s (sSz S k) = true → OB (sNv S + 1) (h_I h3 (nm 45 (ndv S' (sNv S) s)) 1)) → MKR h3 (sMd S') → Fr h2 h3 (VN (sMd S) (sMd S')) → Q (oRet (vr (some (nm 45 (ndv S' (sNv S) (rtS (sSz S k))))))) h3) : WP G m_X9_withOther d 0 (aargs 0 [vr (some (nm 40 2)), vr (some (nm 45 (ndv S k (rtS (sSz S k))))), vi (nI (sSz S k)), vi (nI j), vi e, vi (-1)]) [] h2 bc bs Q := by
  have hT := (hC.2.2.1 k hk).2
  have e2 : ∀ r i, 45 ≤ r → r ≤ 48 → ce h2 (nm r i) = ce h (nm r i) := fun r i r1 r2 => G2 r i (Or.inl ⟨r1, r2⟩)
  have d3 := dOf_b (sSz S k)
  rw [show rtS (sSz S k) = psl j (dOf (sSz S k)) from (rtS_p hj).symm]
  refine c_X9_withOther (ow := fun _ => true) (ow' := fun _ => true) (ru := fun _ => false) (nd' := ndv S' (sNv S)) (c := sMd S) (hT.vt hv e2) hj (by omega) (fun t => by simp) (hS.inj hk hv) N.2.1 ⟨fun i i1 i2 => ⟨((N.nq hC hj (by omega)).1 i i1 i2).1, fun z => (((N.nq hC hj (by omega)).1 i i1 i2).2 z).frm (fun r r1 r2 => e2 r _ r1 r2)⟩, (N.nq hC hj (by omega)).2⟩ (hC.2.1.frm (G2 40 2 (Or.inr ⟨rfl, rfl⟩))) hr (fun _ _ _ => rfl) (fun _ _ => rfl) hd hbc hbs (fun h3 V3 O3 M3 F3 => ?_)
  have nw : ∀ i, 1 ≤ i → i ≤ dOf (sSz S k) → sMd S < ndv S' (sNv S) (psl j i) ∧ ndv S' (sNv S) (psl j i) ≤ sMd S' := fun i i1 i2 => N.2.2.1 i i1 (by omega) (psl_i hj (by omega) i1 i2)
  have F9 : Fr h2 h3 (VN (sMd S) (sMd S')) := fun b hb => F3 b (fun z => hb (z.elim Or.inl (fun ⟨i, i1, i2, z⟩ => Or.inr (by have := nw i i1 i2; unfold CNo at z; omega))))
  have hq9 := hq h3 V3 (N.ob (by omega) (off_up (Or.inl ⟨rfl, hj⟩) (by omega)) (fun s hs hi => ⟨(hT.1 hv).2 s hs hi, (F9 _ (fun z => ?_)).trans (e2 _ _ (by decide) (by decide))⟩) (fun i i1 i3 hi => O3 i i1 (by rw [ith_iff, psl_h (by omega) i1 i3] at hi; exact hi.1))) (by rw [crN_no, ← onp_in hj (by omega), ← N.2.2.2.2] at M3; exact M3) F9
  · rw [rtS_p hj]; exact hq9
  · have := (hT.1 hv).1.kle hC hs hi
    have e9 : p_nd (vp S k) = ndv S k := rfl
    rw [e9] at this
    unfold VN nm at z; omega
theorem c_lessN (hS : SVI S) (hC : CV h S M) (hk : k < sNv S) (hv : pvec (vp S k)) (hr : sMd S < 700000) {pl : Nat} (hz : pl < 64) (es : sSz S k = pl + 1) (N : NVF S S' c k pl pl (elv S k)) (hd : 8 ≤ d) (hbc : 12 ≤ bc) (hbs : 273 ≤ bs)
    (hq : ∀ h3, VT h3 M pl (ndv S' (sNv S)) (elv S k) (fun _ => true) (-1) → (∀ s, s < 21 → ith s pl = true → OB (sNv S + 1) (h_I h3 (nm 45 (ndv S' (sNv S) s)) 1)) → MKR h3 (sMd S') → Fr h h3 (VN (sMd S) (sMd S')) → Q (oRet (vr (some (nm 45 (ndv S' (sNv S) (rtS pl)))))) h3) : WP G m_X9_withOneLess d 0 (aargs 0 [vr (some (nm 40 2)), vr (some (nm 45 (ndv S k (rtS (pl + 1))))), vi (nI (pl + 1))]) [] h bc bs Q := by
  have hT := (hC.2.2.1 k hk).2
  have V0 : VT h M (pl + 1) (ndv S k) (elv S k) (fun _ => true) (-1) := by rw [← es]; exact hT.vt hv (fun _ _ _ _ => rfl)
  have nw : ∀ i, 1 ≤ i → i ≤ 3 → ith (psl pl i) pl = true → sMd S < ndv S' (sNv S) (psl pl i) ∧ ndv S' (sNv S) (psl pl i) ≤ sMd S' := fun i i1 i3 hi => N.2.2.1 i i1 i3 hi
  have hdst : ∀ i j, 1 ≤ i → i < j → j ≤ dOf pl → ith (psl pl i) pl = true → ndv S' (sNv S) (psl pl i) ≠ ndv S' (sNv S) (psl pl j) := fun i j i1 i2 i3 hi => by
    have d3 := dOf_b pl
    refine N.2.2.2.1 i j i1 i2 (by omega) hi ?_
    rw [ith_iff, psl_h hz (by omega) (by omega)]
    refine ⟨i3, ?_⟩
    have d2 : 5 ≤ pl := dOf_5 (by omega)
    rw [ith_iff] at hi
    have hij : (i = 1 ∧ j = 2) ∨ (i = 1 ∧ j = 3) ∨ (i = 2 ∧ j = 3) := by omega
    rcases hij with ⟨rfl, rfl⟩ | ⟨rfl, rfl⟩ | ⟨rfl, rfl⟩
    · rw [frm_p1 hz] at hi; rw [frm_p2 hz]; left
      rw [psl_1] at hi; omega
    · rw [psl_3]; left; show 0 < pl; omega
    · rw [psl_3]; left; show 0 < pl; omega
  refine c_X9_withOneLess (ow := fun _ => true) (ow' := fun _ => true) (nd' := ndv S' (sNv S)) (c := sMd S) V0 hz N.2.1 (fun i i1 i3 hi => hC.2.2.2.2.2.1 _ (nw i i1 i3 hi).1) hdst hC.2.1 hr hd hbc hbs (fun h3 V3 O3 M3 F3 => ?_)
  have F9 : Fr h h3 (VN (sMd S) (sMd S')) := fun b hb => F3 b (fun z => hb (z.elim Or.inl (fun ⟨i, i1, i2, i3, z⟩ => Or.inr (by have := nw i i1 i2 i3; unfold CNo at z; omega))))
  refine hq h3 V3 (N.ob (by omega) (fun s hs hi ho => by rw [es, ← ith_dn hs hz ho]; exact hi) (fun s hs hi => ⟨(hT.1 hv).2 s hs hi, F9 _ (fun z => ?_)⟩) O3) ?_ F9
  · have := (hT.1 hv).1.kle hC hs hi
    have e9 : p_nd (vp S k) = ndv S k := rfl
    rw [e9] at this
    unfold VN nm at z; omega
  · rw [crL_on, ← N.2.2.2.2] at M3; exact M3
end VST
