/-! The class: values as one state. -/
/-- all of one value: kind, size, numbers of nodes, elements, own nodes; keys, elements of keys, numbers of a map's nodes -/
abbrev VPr : Type := Nat × Nat × (Nat → Nat) × (Nat → Int32) × (Nat → Bool) × (Nat → Bool) × (Nat → Int32) × (Nat → Nat)
abbrev p_ty (P : VPr) : Nat := P.1
abbrev p_sz (P : VPr) : Nat := P.2.1
abbrev p_nd (P : VPr) : Nat → Nat := P.2.2.1
abbrev p_el (P : VPr) : Nat → Int32 := P.2.2.2.1
abbrev p_ow (P : VPr) : Nat → Bool := P.2.2.2.2.1
abbrev p_hs (P : VPr) : Nat → Bool := P.2.2.2.2.2.1
abbrev p_of (P : VPr) : Nat → Int32 := P.2.2.2.2.2.2.1
abbrev p_mn (P : VPr) : Nat → Nat := P.2.2.2.2.2.2.2
def ndv (S : SV) (v : Nat) : Nat → Nat := fun s => if s < 21 then sNd S (21 * v + s) else 0
def elv (S : SV) (v : Nat) : Nat → Int32 := fun j => if j < 64 then sEl S (64 * v + j) else nI 0
def owv (S : SV) (v : Nat) : Nat → Bool := fun s => if s < 21 then sOw S (21 * v + s) else false
def hsv (S : SV) (v : Nat) : Nat → Bool := fun k => if k < 1000 then sHs S (1000 * v + k) else false
def ofv (S : SV) (v : Nat) : Nat → Int32 := fun k => if k < 1000 then sOf S (1000 * v + k) else nI 0
def mnv (S : SV) (v : Nat) : Nat → Nat := fun s => if s < 341 then sMn S (341 * v + s) else 0
def vp (S : SV) (v : Nat) : VPr := (sTy S v, sSz S v, ndv S v, elv S v, owv S v, hsv S v, ofv S v, mnv S v)
/-- a vector, lasting or open -/
def pvec (P : VPr) : Prop := p_ty P = 118 ∨ p_ty P = 111
/-- the keys of a map, in the order of its rows -/
def PLs (hs : Nat → Bool) (of : Nat → Int32) (n : Nat) (L : Nat → Nat) (f g : Nat → Int32) : Prop := (∀ i, i < n → L i < 1000 ∧ hs (L i) = true ∧ f i = nI (L i) ∧ g i = of (L i)) ∧ (∀ i j, i < n → j < n → L i = L j → i = j) ∧ ∀ k, k < 1000 → hs k = true → ∃ i, i < n ∧ L i = k
/-- the value's object -/
def VAv (h : Hp) (P : VPr) (x : KUS) : Prop := p_ty P = 118 ∧ KU_kd x = 0 ∧ KU_tp x = some (nm 45 (p_nd P (rtS (p_sz P)))) ∧ KU_pk x = none ∧ ∃ a, KU_pe x = some (nm 43 a) ∧ PRr h (nm 43 a) (p_sz P) (p_el P)
def VAo (h : Hp) (v : Nat) (P : VPr) (x : KUS) : Prop := p_ty P = 111 ∧ KU_kd x = 1 ∧ KU_tp x = some (nm 45 (p_nd P (rtS (p_sz P)))) ∧ KU_pk x = none ∧ KU_pe x = some (nm 44 v) ∧ h_k h (nm 44 v) = 101 ∧ h_n h (nm 44 v) = 64 ∧ ∀ j, j < p_sz P → h_I h (nm 44 v) j = p_el P j
def VAx (P : VPr) (x : KUS) : Prop := p_ty P = 120 ∧ KU_kd x = 3 ∧ KU_tp x = none ∧ KU_pk x = none ∧ p_sz P = 0
def VAm (h : Hp) (P : VPr) (x : KUS) : Prop := p_ty P = 109 ∧ KU_kd x = 2 ∧ KU_tp x = some (nm 45 (p_mn P 0)) ∧ ∃ a b L f g, KU_pk x = some (nm 43 a) ∧ KU_pe x = some (nm 43 b) ∧ PRr h (nm 43 a) (p_sz P) f ∧ PRr h (nm 43 b) (p_sz P) g ∧ PLs (p_hs P) (p_of P) (p_sz P) L f g
def VAP (h : Hp) (v : Nat) (P : VPr) : Prop := ∃ x, KU h v x ∧ KU_sz x = p_sz P ∧ (VAv h P x ∨ VAo h v P x ∨ VAx P x ∨ VAm h P x)
/-- an owner of a node -/
def OB (n : Nat) (o : Int32) : Prop := o = -1 ∨ ∃ u, u < n ∧ o = nI u
def onr (v : Nat) (P : VPr) : Int32 := if p_ty P = 111 then nI v else -1
/-- the value's nodes -/
def TRP (h : Hp) (M n v : Nat) (P : VPr) : Prop := (pvec P → VT h M (p_sz P) (p_nd P) (p_el P) (p_ow P) (onr v P) ∧ ∀ s, s < 21 → ith s (p_sz P) = true → OB n (h_I h (nm 45 (p_nd P s)) 1)) ∧ (p_ty P = 109 → MTf h M (p_hs P) (p_of P) (p_mn P))
def CV (h : Hp) (S : SV) (M : Nat) : Prop := CVh h (sNv S) M ∧ MKR h (sMd S) ∧ (∀ v, v < sNv S → VAP h v (vp S v) ∧ TRP h M (sNv S) v (vp S v)) ∧ (FreeI h 42 (sNv S) ∧ FreeI h 44 (sNv S) ∧ (∀ k, sMd S < k → FrN h k) ∧ ∃ K, FreeI h 43 K)
/-! what is pure -/
def PVi (P : VPr) : Prop := (p_ty P = 118 ∨ p_ty P = 111 ∨ p_ty P = 109 ∨ p_ty P = 120) ∧ p_sz P ≤ 64 ∧ (p_ty P = 120 → p_sz P = 0) ∧ (p_ty P = 109 → p_sz P = ct (p_hs P) 0 0 ∧ p_sz P ≤ 40 ∧ (∀ L B, L ≤ 4 → B < 2 ^ (2 * L) → ((L = 0 ∨ 1 < ct (p_hs P) L B) ↔ 0 < p_mn P (lst L + B))) ∧ ∀ k, p_hs P k = false → p_of P k = nI 0) ∧ (pvec P → ∀ s, s < 21 → ith s (p_sz P) = true → 1 ≤ p_nd P s)
/-- the number of the node at a slot: vectors' slots first, then maps' -/
def NG (P : VPr) (σ : Nat) : Nat := if p_ty P = 118 ∨ p_ty P = 111 then (if σ < 21 ∧ ith σ (p_sz P) = true then p_nd P σ else 0) else if p_ty P = 109 then (if 21 ≤ σ ∧ σ < 362 then p_mn P (σ - 21) else 0) else 0
def UQ (n : Nat) (f : Nat → VPr) : Prop := ∀ v w σ τ, v < n → w < n → 0 < NG (f v) σ → NG (f v) σ = NG (f w) τ → σ = τ
def BDn (n c : Nat) (f : Nat → VPr) : Prop := ∀ v σ, v < n → NG (f v) σ ≤ c
def OWn (n : Nat) (f : Nat → VPr) : Prop := ∀ v w σ τ, v < n → w < n → v ≠ w → p_ty (f v) = 111 → σ < 21 → p_ow (f v) σ = true → 0 < NG (f v) σ → NG (f w) τ ≠ NG (f v) σ
def SVI (S : SV) : Prop := sNv S ≤ 60 ∧ (∀ v, v < sNv S → PVi (vp S v)) ∧ UQ (sNv S) (vp S) ∧ BDn (sNv S) (sMd S) (vp S) ∧ OWn (sNv S) (vp S)
theorem OB.mono {n m : Nat} {o : Int32} (H : OB n o) (h : n ≤ m) : OB m o := H.imp id (fun ⟨u, h1, h2⟩ => ⟨u, by omega, h2⟩)
theorem VAP.frm {h h' : Hp} {v : Nat} {P : VPr} (H : VAP h v P) (e42 : ce h' (nm 42 v) = ce h (nm 42 v)) (e44 : ce h' (nm 44 v) = ce h (nm 44 v)) (e43 : ∀ a, h_k h (nm 43 a) ≠ 0 → ce h' (nm 43 a) = ce h (nm 43 a)) : VAP h' v P := by
  obtain ⟨x, hO, hs, hx⟩ := H
  have pr : ∀ a n f, PRr h (nm 43 a) n f → PRr h' (nm 43 a) n f := fun a n f q => q.frm (e43 a (by rw [q.1]; decide))
  refine ⟨x, hO.frm e42, hs, ?_⟩
  rcases hx with ⟨a1, a2, a3, a4, a, a5, a6⟩ | ⟨a1, a2, a3, a4, a5, a6, a7, a8⟩ | hx | ⟨a1, a2, a3, a, b, L, f, g, a4, a5, a6, a7, a8⟩
  · exact Or.inl ⟨a1, a2, a3, a4, a, a5, pr _ _ _ a6⟩
  · exact Or.inr (Or.inl ⟨a1, a2, a3, a4, a5, (ce_k e44).trans a6, (ce_n e44).trans a7, fun j hj => by rw [ce_I e44]; exact a8 j hj⟩)
  · exact Or.inr (Or.inr (Or.inl hx))
  · exact Or.inr (Or.inr (Or.inr ⟨a1, a2, a3, a, b, L, f, g, a4, a5, pr _ _ _ a6, pr _ _ _ a7, a8⟩))
theorem VT.frm {h h' : Hp} {M n : Nat} {nd : Nat → Nat} {el : Nat → Int32} {ow : Nat → Bool} {o : Int32} (V : VT h M n nd el ow o) (e : ∀ s r, s < 21 → ith s n = true → 45 ≤ r → r ≤ 48 → ce h' (nm r (nd s)) = ce h (nm r (nd s))) : VT h' M n nd el ow o := fun s h1 h3 => by
  obtain ⟨x, hO, hx⟩ := V s h1 h3
  exact ⟨x, hO.frm (e s 45 h1 h3 (by decide) (by decide)) (e s 46 h1 h3 (by decide) (by decide)) (e s 47 h1 h3 (by decide) (by decide)) (e s 48 h1 h3 (by decide) (by decide)), hx⟩
theorem TRP.frm {h h' : Hp} {M n m v : Nat} {P : VPr} (H : TRP h M n v P) (hnm : n ≤ m) (e : ∀ k r, h_k h (nm 45 k) = 6 → 45 ≤ r → r ≤ 48 → ce h' (nm r k) = ce h (nm r k)) : TRP h' M m v P := by
  refine ⟨fun hv => ?_, fun hm => ?_⟩
  · obtain ⟨V, O⟩ := H.1 hv
    refine ⟨V.frm (fun s r h1 h3 r1 r2 => e _ r (VNk.k V h1 h3) r1 r2), fun s h1 h3 => ?_⟩
    rw [ce_I (e _ 45 (VNk.k V h1 h3) (by decide) (by decide))]
    exact (O s h1 h3).mono hnm
  · have T := H.2 hm
    exact T.frm (fun l b r h1 h2 h3 r1 r2 => e _ r ((T l b h1 h2 h3).elim fun _ z => z.1.k0) r1 r2)
/-- the calls about the rest leave the values -/
theorem CV.rest {h h' : Hp} {S : SV} {M : Nat} (H : CV h S M) (e0 : h_k h' (nm 40 0) = h_k h (nm 40 0) ∧ h_R h' (nm 40 0) = h_R h (nm 40 0)) (e1 : ∀ j, j = 1 ∨ j = 3 → h_I h' (nm 40 0) j = h_I h (nm 40 0) j) (e : ∀ a, a = nm 40 1 ∨ a = nm 40 2 ∨ (42 ≤ a % 128 ∧ a % 128 ≤ 48) → ce h' a = ce h a) : CV h' S M := by
  obtain ⟨⟨⟨a1, a2, a3, a4, a5⟩, ⟨b1, b2⟩, c⟩, hM, hV, f1, f2, f3, K, f4⟩ := H
  have er : ∀ r i, 42 ≤ r → r ≤ 48 → ce h' (nm r i) = ce h (nm r i) := fun r i h1 h2 => e _ (Or.inr (Or.inr (by unfold nm; omega)))
  have e41 := e (nm 40 1) (Or.inl rfl)
  refine ⟨⟨⟨e0.1.trans a1, by rw [e0.2]; exact a2, by rw [e1 1 (Or.inl rfl)]; exact a3, by rw [e0.2]; exact a4, by rw [e1 3 (Or.inr rfl)]; exact a5⟩, ⟨(ce_k e41).trans b1, (ce_n e41).trans b2⟩, fun v hv => by rw [ce_R e41]; exact c v hv⟩, hM.frm (e _ (Or.inr (Or.inl rfl))), fun v hv => ⟨(hV v hv).1.frm (er _ _ (by decide) (by decide)) (er _ _ (by decide) (by decide)) (fun a _ => er _ _ (by decide) (by decide)), (hV v hv).2.frm (Nat.le_refl _) (fun k r _ r1 r2 => er _ _ (by omega) r2)⟩,
    f1.fr (fun i _ => er _ _ (by decide) (by decide)), f2.fr (fun i _ => er _ _ (by decide) (by decide)), fun k hk => (f3 k hk).frm (fun r r1 r2 => er _ _ (by omega) r2), K, f4.fr (fun i _ => er _ _ (by decide) (by decide))⟩
theorem CV.frK {h h' : Hp} {S : SV} {M : Nat} (H : CV h S M) (F : FRK h h') : CV h' S M := H.rest ⟨F.2.1.1, F.2.1.2.2.1⟩ (fun j hj => F.2.2 j (by omega) (by omega) (by omega) (by omega)) (fun a ha => F.1 a (by unfold WK nm; unfold nm at ha; omega))
theorem CV.frQ {h h' : Hp} {S : SV} {M : Nat} (H : CV h S M) (F : FRKQ h h') : CV h' S M := H.rest ⟨F.2.1.1, F.2.1.2.2.1⟩ (fun j hj => F.2.2 j (by omega)) (fun a ha => F.1 a (by unfold WKQ nm; unfold nm at ha; omega))
/-- nodes there are have numbers up to the count -/
theorem CV.kle {h : Hp} {S : SV} {M k : Nat} (H : CV h S M) (hk : h_k h (nm 45 k) = 6) : k ≤ sMd S := by
  by_cases z : sMd S < k
  · have := (H.2.2.2.2.2.1 k z).1
    rw [hk] at this; cases this
  · omega
/-- one value more -/
theorem CV.add {h h' : Hp} {S S' : SV} {M : Nat} (H : CV h S M) (hn : sNv S' = sNv S + 1) (hc : sMd S ≤ sMd S') (hv : ∀ v, v < sNv S → vp S' v = vp S v) (C : CVh h' (sNv S + 1) M) (hM : MKR h' (sMd S')) (A : VAP h' (sNv S) (vp S' (sNv S))) (T : TRP h' M (sNv S + 1) (sNv S) (vp S' (sNv S)))
    (e42 : ∀ v, v ≠ sNv S → ce h' (nm 42 v) = ce h (nm 42 v)) (e44 : ∀ v, v ≠ sNv S → ce h' (nm 44 v) = ce h (nm 44 v)) (e43 : ∀ a, h_k h (nm 43 a) ≠ 0 → ce h' (nm 43 a) = ce h (nm 43 a)) (ek : ∀ k r, k ≤ sMd S → 45 ≤ r → r ≤ 48 → ce h' (nm r k) = ce h (nm r k)) (fk : ∀ k, sMd S' < k → FrN h' k) (f43 : ∃ K, FreeI h' 43 K) : CV h' S' M := by
  refine ⟨by rw [hn]; exact C, hM, fun v hv2 => ?_, ?_, ?_, fk, f43⟩
  · rw [hn] at hv2 ⊢
    by_cases z : v = sNv S
    · subst z; exact ⟨A, T⟩
    · rw [hv v (by omega)]
      exact ⟨(H.2.2.1 v (by omega)).1.frm (e42 v z) (e44 v z) e43, (H.2.2.1 v (by omega)).2.frm (by omega) (fun k r hk r1 r2 => ek k r (H.kle hk) r1 r2)⟩
  · rw [hn]; exact fun i hi => (ce_k (e42 i (by omega))).trans (H.2.2.2.1 i (by omega))
  · rw [hn]; exact fun i hi => (ce_k (e44 i (by omega))).trans (H.2.2.2.2.1 i (by omega))
