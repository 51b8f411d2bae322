/-! The model: references, transactions, agents, the log, as one state. -/
abbrev RS : Type := (Nat) × (Nat → ORS) × (Nat) × (Nat → OAS) × (Nat → OTS) × (List (Nat × Nat × Int32 × Int32)) × (Nat) × (Nat)
abbrev RS_rn (S : RS) : Nat := S.1
abbrev RS_rr (S : RS) : Nat → ORS := S.2.1
abbrev RS_an (S : RS) : Nat := S.2.2.1
abbrev RS_aa (S : RS) : Nat → OAS := S.2.2.2.1
abbrev RS_tt (S : RS) : Nat → OTS := S.2.2.2.2.1
abbrev RS_lg (S : RS) : List (Nat × Nat × Int32 × Int32) := S.2.2.2.2.2.1
abbrev RS_mo (S : RS) : Nat := S.2.2.2.2.2.2.1
abbrev RS_bg (S : RS) : Nat := S.2.2.2.2.2.2.2
abbrev RS_urn (S : RS) (v : Nat) : RS := (v, RS_rr S, RS_an S, RS_aa S, RS_tt S, RS_lg S, RS_mo S, RS_bg S)
abbrev RS_urr (S : RS) (v : Nat → ORS) : RS := (RS_rn S, v, RS_an S, RS_aa S, RS_tt S, RS_lg S, RS_mo S, RS_bg S)
abbrev RS_uan (S : RS) (v : Nat) : RS := (RS_rn S, RS_rr S, v, RS_aa S, RS_tt S, RS_lg S, RS_mo S, RS_bg S)
abbrev RS_uaa (S : RS) (v : Nat → OAS) : RS := (RS_rn S, RS_rr S, RS_an S, v, RS_tt S, RS_lg S, RS_mo S, RS_bg S)
abbrev RS_utt (S : RS) (v : Nat → OTS) : RS := (RS_rn S, RS_rr S, RS_an S, RS_aa S, v, RS_lg S, RS_mo S, RS_bg S)
abbrev RS_ulg (S : RS) (v : List (Nat × Nat × Int32 × Int32)) : RS := (RS_rn S, RS_rr S, RS_an S, RS_aa S, RS_tt S, v, RS_mo S, RS_bg S)
abbrev RS_umo (S : RS) (v : Nat) : RS := (RS_rn S, RS_rr S, RS_an S, RS_aa S, RS_tt S, RS_lg S, v, RS_bg S)
abbrev RS_ubg (S : RS) (v : Nat) : RS := (RS_rn S, RS_rr S, RS_an S, RS_aa S, RS_tt S, RS_lg S, RS_mo S, v)
abbrev RS_utt1 (S : RS) (t : Nat) (x : OTS) : RS := RS_utt S (va_up (RS_tt S) t x)
abbrev RS_urr1 (S : RS) (t : Nat) (x : ORS) : RS := RS_urr S (va_up (RS_rr S) t x)
abbrev RS_uaa1 (S : RS) (t : Nat) (x : OAS) : RS := RS_uaa S (va_up (RS_aa S) t x)
def lgL (l : List (Nat × Nat × Int32 × Int32)) : List (List Int32) := l.map (fun q => [nI q.1, nI q.2.1, q.2.2.1, q.2.2.2])
/-- the heaps are alike but at the names of W -/
def Fr (h h' : Hp) (W : Nat → Prop) : Prop := ∀ a, ¬ W a → ce h' a = ce h a
theorem Fr.rf {h : Hp} {W : Nat → Prop} : Fr h h W := fun _ _ => rfl
theorem Fr.tr {h h1 h2 : Hp} {W : Nat → Prop} (a : Fr h h1 W) (b : Fr h1 h2 W) : Fr h h2 W := fun x hx => (b x hx).trans (a x hx)
theorem Fr.up {h h' : Hp} {W V : Nat → Prop} (a : Fr h h' W) (hv : ∀ b, W b → V b) : Fr h h' V := fun x hx => a x (fun z => hx (hv x z))
theorem Fr.wI {h h' : Hp} {W : Nat → Prop} (a : Fr h h' W) {b k : Nat} {x : Int32} (hb : W b) : Fr h (wI h' b k x) W := fun y hy => (ce_wI (fun e => hy (by rw [e]; exact hb))).trans (a y hy)
theorem Fr.wR {h h' : Hp} {W : Nat → Prop} (a : Fr h h' W) {b k : Nat} {x : Option Nat} (hb : W b) : Fr h (wR h' b k x) W := fun y hy => (ce_wR (fun e => hy (by rw [e]; exact hb))).trans (a y hy)
theorem Fr.mk {h h' : Hp} {W : Nat → Prop} (a : Fr h h' W) {b k n : Nat} (hb : W b) : Fr h (mk h' b k n) W := fun y hy => (ce_mk (fun e => hy (by rw [e]; exact hb))).trans (a y hy)
theorem Fr.of {h h' : Hp} {W : Nat → Prop} {l ρ i : Nat} (a : ∀ b, b ≠ l → (∀ z, b ≠ nm ρ (16 * z + i)) → ce h' b = ce h b) (h1 : W l) (h2 : ∀ z, W (nm ρ (16 * z + i))) : Fr h h' W := fun y hy => a y (fun e => hy (by rw [e]; exact h1)) (fun z e => hy (by rw [e]; exact h2 z))
/-- what a transaction, a reference, an agent take -/
def WT (t : Nat) : Nat → Prop := fun a => (6 ≤ a % 128 ∧ a % 128 ≤ 12 ∧ a / 128 = t) ∨ (a % 128 = 24 ∧ a / 128 % 16 = t)
def WRf (t : Nat) : Nat → Prop := fun a => (4 ≤ a % 128 ∧ a % 128 ≤ 5 ∧ a / 128 = t) ∨ (a % 128 = 23 ∧ a / 128 % 16 = t)
def WAg (t : Nat) : Nat → Prop := fun a => (13 ≤ a % 128 ∧ a % 128 ≤ 14 ∧ a / 128 = t) ∨ (a % 128 = 25 ∧ a / 128 % 16 = t)
def FreeI (h : Hp) (r n : Nat) : Prop := ∀ i, n ≤ i → h_k h (nm r i) = 0
def FreeL (h : Hp) (r n : Nat) : Prop := ∀ i, n ≤ i → i < 16 → ∀ z, h_k h (nm r (16 * z + i)) = 0
def MR (h : Hp) (S : RS) : Prop :=
  (MF h (nm 1 0) (nm 1) ∧ h_n h (nm 1 17) = 3 ∧ (∀ t, t < 3 → h_R h (nm 1 17) t = some (nm 6 t)) ∧ h_I h (nm 1 0) 15 = nI (RS_mo S) ∧ h_I h (nm 1 0) 16 = nI (RS_bg S)) ∧
  (LOb h (nm 1 13) 27 0 4 (RS_rn S) ∧ (∀ r, r < RS_rn S → OR h r (RS_rr S r)) ∧ FreeI h 4 (RS_rn S) ∧ FreeI h 5 (RS_rn S) ∧ FreeL h 23 (RS_rn S)) ∧
  (LOb h (nm 1 18) 28 0 13 (RS_an S) ∧ (∀ r, r < RS_an S → OA h r (RS_aa S r)) ∧ FreeI h 13 (RS_an S) ∧ FreeI h 14 (RS_an S) ∧ FreeL h 25 (RS_an S)) ∧
  (∀ t, t < 3 → OT h t (RS_tt S t)) ∧ LRw h (nm 1 14) 29 0 (lgL (RS_lg S))
/-- the pools: rows of ints, iterators -/
def PO2 (h : Hp) : Prop := (∃ K, FreeI h 22 K) ∧ ∃ K, FreeI h 30 K
section MRA
variable {h h' : Hp} {S : RS}
theorem MR.mf (H : MR h S) : MF h (nm 1 0) (nm 1) := H.1.1
theorem MR.mk (H : MR h S) : h_k h (nm 1 0) = 18 := H.1.1.1
theorem MR.tn (H : MR h S) : h_n h (nm 1 17) = 3 := H.1.2.1
theorem MR.tr (H : MR h S) {t : Nat} (ht : t < 3) : h_R h (nm 1 17) t = some (nm 6 t) := H.1.2.2.1 t ht
theorem MR.mo (H : MR h S) : h_I h (nm 1 0) 15 = nI (RS_mo S) := H.1.2.2.2.1
theorem MR.bg (H : MR h S) : h_I h (nm 1 0) 16 = nI (RS_bg S) := H.1.2.2.2.2
theorem MR.rl (H : MR h S) : LOb h (nm 1 13) 27 0 4 (RS_rn S) := H.2.1.1
theorem MR.r (H : MR h S) {r : Nat} (hr : r < RS_rn S) : OR h r (RS_rr S r) := H.2.1.2.1 r hr
theorem MR.al (H : MR h S) : LOb h (nm 1 18) 28 0 13 (RS_an S) := H.2.2.1.1
theorem MR.a (H : MR h S) {r : Nat} (hr : r < RS_an S) : OA h r (RS_aa S r) := H.2.2.1.2.1 r hr
theorem MR.t (H : MR h S) {t : Nat} (ht : t < 3) : OT h t (RS_tt S t) := H.2.2.2.1 t ht
theorem MR.lg (H : MR h S) : LRw h (nm 1 14) 29 0 (lgL (RS_lg S)) := H.2.2.2.2
theorem MR.ref (H : MR h S) (i : Nat) (h1 : 3 ≤ i) (h2 : i ≤ 18) (h3 : i ≠ 15) (h4 : i ≠ 16) : h_R h (nm 1 0) i = some (nm 1 i) := H.1.1.r i h1 h2 h3 h4
theorem MR.k17 (H : MR h S) : h_k h (nm 1 17) = 117 := H.1.1.k 17 (by decide) (by decide) (by decide) (by decide)
theorem LOb.k {h : Hp} {l ρ i r n : Nat} (H : LOb h l ρ i r n) : h_k h l = 3 := H.elim fun _ z => z.elim fun _ z => z.k
theorem FreeI.fr {r n : Nat} (H : FreeI h r n) (hF : ∀ i, n ≤ i → ce h' (nm r i) = ce h (nm r i)) : FreeI h' r n := fun i hi => (ce_k (hF i hi)).trans (H i hi)
theorem FreeL.fr {r n : Nat} (H : FreeL h r n) (hF : ∀ i, n ≤ i → i < 16 → ∀ z, ce h' (nm r (16 * z + i)) = ce h (nm r (16 * z + i))) : FreeL h' r n := fun i hi h16 z => (ce_k (hF i hi h16 z)).trans (H i hi h16 z)
theorem MF.fr {h h' : Hp} {m : Nat} {A : Nat → Nat} (H : MF h m A) (h0 : h_k h' m = h_k h m) (h1 : h_R h' m = h_R h m) (h2 : ∀ i, 3 ≤ i → i ≤ 18 → h_k h' (A i) = h_k h (A i) ∧ h_n h' (A i) = h_n h (A i)) : MF h' m A :=
  ⟨h0.trans H.1, fun i a b c d => by rw [h1, (h2 i a b).1]; exact H.2.1 i a b c d, fun i a b c => by rw [(h2 i a (by omega)).2]; exact H.2.2.1 i a b c, H.2.2.2⟩
/-- kinds, lengths, references of the model itself, and of its rows, stay -/
def MK (h h' : Hp) : Prop := h_k h' (nm 1 0) = h_k h (nm 1 0) ∧ h_R h' (nm 1 0) = h_R h (nm 1 0) ∧ (∀ i, 3 ≤ i → i ≤ 18 → h_k h' (nm 1 i) = h_k h (nm 1 i) ∧ h_n h' (nm 1 i) = h_n h (nm 1 i)) ∧ h_R h' (nm 1 17) = h_R h (nm 1 17)
theorem MK.of {h h' : Hp} (hc : ∀ i, i ≤ 18 → ce h' (nm 1 i) = ce h (nm 1 i)) : MK h h' :=
  ⟨ce_k (hc 0 (by decide)), ce_R (hc 0 (by decide)), fun i _ h2 => ⟨ce_k (hc i h2), ce_n (hc i h2)⟩, ce_R (hc 17 (by decide))⟩
theorem MK.w {h : Hp} {a k : Nat} {x : Int32} : MK h (wI h a k x) := ⟨rfl, rfl, fun _ _ _ => ⟨rfl, rfl⟩, rfl⟩
theorem MR.all (H : MR h S) (hm : MK h h') (hmo : h_I h' (nm 1 0) 15 = h_I h (nm 1 0) 15) (hbg : h_I h' (nm 1 0) 16 = h_I h (nm 1 0) 16) (h0 : ce h' 0 = ce h 0) (h22 : ∀ k, h_k h (nm 22 k) ≠ 0 → ce h' (nm 22 k) = ce h (nm 22 k))
    (h1 : ce h' (nm 1 13) = ce h (nm 1 13)) (h2 : ce h' (nm 1 18) = ce h (nm 1 18)) (h3 : ce h' (nm 1 14) = ce h (nm 1 14)) (hr : ∀ r i, 4 ≤ r → r ≤ 14 → ce h' (nm r i) = ce h (nm r i)) (hr2 : ∀ r i, 23 ≤ r → r ≤ 29 → r ≠ 26 → ce h' (nm r i) = ce h (nm r i)) : MR h' S := by
  refine ⟨⟨H.mf.fr hm.1 hm.2.1 hm.2.2.1, (hm.2.2.1 17 (by decide) (by decide)).2.trans H.tn, fun t ht => by rw [hm.2.2.2]; exact H.tr ht, hmo.trans H.mo, hbg.trans H.bg⟩, ⟨H.rl.frm h0 h1 (fun z => hr2 _ _ (by decide) (by decide) (by decide)), fun r hr' => (H.r hr').frm (hr _ _ (by decide) (by decide)) (hr _ _ (by decide) (by decide)) (fun z => hr2 _ _ (by decide) (by decide) (by decide)) h0 h22, H.2.1.2.2.1.fr (fun _ _ => hr _ _ (by decide) (by decide)), H.2.1.2.2.2.1.fr (fun _ _ => hr _ _ (by decide) (by decide)), H.2.1.2.2.2.2.fr (fun _ _ _ _ => hr2 _ _ (by decide) (by decide) (by decide))⟩,
    ⟨H.al.frm h0 h2 (fun z => hr2 _ _ (by decide) (by decide) (by decide)), fun r hr' => (H.a hr').frm (hr _ _ (by decide) (by decide)) (hr _ _ (by decide) (by decide)) (fun z => hr2 _ _ (by decide) (by decide) (by decide)) h0 h22, H.2.2.1.2.2.1.fr (fun _ _ => hr _ _ (by decide) (by decide)), H.2.2.1.2.2.2.1.fr (fun _ _ => hr _ _ (by decide) (by decide)), H.2.2.1.2.2.2.2.fr (fun _ _ _ _ => hr2 _ _ (by decide) (by decide) (by decide))⟩,
    fun t ht => (H.t ht).frm (hr _ _ (by decide) (by decide)) (hr _ _ (by decide) (by decide)) (hr _ _ (by decide) (by decide)) (hr _ _ (by decide) (by decide)) (hr _ _ (by decide) (by decide)) (hr _ _ (by decide) (by decide)) (hr _ _ (by decide) (by decide)) (fun z => hr2 _ _ (by decide) (by decide) (by decide)) h0 h22, H.lg.frm h0 h3 (fun z => hr2 _ _ (by decide) (by decide) (by decide)) h22⟩
theorem MR.w0 (H : MR h S) {x : Int32} : MR (wI h (nm 1 0) 0 x) S := by
  have c : ∀ a, a ≠ nm 1 0 → ce (wI h (nm 1 0) 0 x) a = ce h a := fun a e => ce_wI e
  refine H.all MK.w ?_ ?_ (c _ (by unfold nm; omega)) (fun k _ => c _ (by unfold nm; omega)) (c _ (by unfold nm; omega)) (c _ (by unfold nm; omega)) (c _ (by unfold nm; omega)) (fun r i _ _ => c _ (by unfold nm; omega)) (fun r i _ _ _ => c _ (by unfold nm; omega))
  · rw [gI_wI, if_neg (fun z => absurd z.2 (by decide))]
  · rw [gI_wI, if_neg (fun z => absurd z.2 (by decide))]
theorem MR.wmo (H : MR h S) {x : Nat} : MR (wI h (nm 1 0) 15 (nI x)) (RS_umo S x) := by
  have c : ∀ a, a ≠ nm 1 0 → ce (wI h (nm 1 0) 15 (nI x)) a = ce h a := fun a e => ce_wI e
  have Z : MR (wI h (nm 1 0) 0 (nI x)) S := H.w0
  obtain ⟨⟨a1, a2, a3, a4, a5⟩, a6⟩ := Z
  refine ⟨⟨a1, a2, a3, ?_, ?_⟩, ?_⟩
  · rw [gI_wI, if_pos ⟨rfl, rfl⟩]
  · rw [gI_wI, if_neg (fun z => absurd z.2 (by decide))]; exact H.bg
  · have d : ∀ a, a ≠ nm 1 0 → ce (wI h (nm 1 0) 15 (nI x)) a = ce (wI h (nm 1 0) 0 (nI x)) a := fun a e => (c a e).trans (ce_wI e).symm
    have e22 : ∀ k, h_k (wI h (nm 1 0) 0 (nI x)) (nm 22 k) ≠ 0 → ce (wI h (nm 1 0) 15 (nI x)) (nm 22 k) = ce (wI h (nm 1 0) 0 (nI x)) (nm 22 k) := fun k _ => d _ (by unfold nm; omega)
    have e0 := d 0 (by unfold nm; omega)
    have er : ∀ r i, 4 ≤ r → r ≤ 30 → ce (wI h (nm 1 0) 15 (nI x)) (nm r i) = ce (wI h (nm 1 0) 0 (nI x)) (nm r i) := fun r i _ _ => d _ (by unfold nm; omega)
    obtain ⟨⟨b1, b2, b3, b4, b5⟩, ⟨b6, b7, b8, b9, b10⟩, b11, b12⟩ := a6
    exact ⟨⟨b1.frm e0 (d _ (by unfold nm; omega)) (fun z => er _ _ (by decide) (by decide)), fun r hr => (b2 r hr).frm (er _ _ (by decide) (by decide)) (er _ _ (by decide) (by decide)) (fun z => er _ _ (by decide) (by decide)) e0 e22, b3.fr (fun _ _ => er _ _ (by decide) (by decide)), b4.fr (fun _ _ => er _ _ (by decide) (by decide)), b5.fr (fun _ _ _ _ => er _ _ (by decide) (by decide))⟩,
      ⟨b6.frm e0 (d _ (by unfold nm; omega)) (fun z => er _ _ (by decide) (by decide)), fun r hr => (b7 r hr).frm (er _ _ (by decide) (by decide)) (er _ _ (by decide) (by decide)) (fun z => er _ _ (by decide) (by decide)) e0 e22, b8.fr (fun _ _ => er _ _ (by decide) (by decide)), b9.fr (fun _ _ => er _ _ (by decide) (by decide)), b10.fr (fun _ _ _ _ => er _ _ (by decide) (by decide))⟩,
      fun t ht => (b11 t ht).frm (er _ _ (by decide) (by decide)) (er _ _ (by decide) (by decide)) (er _ _ (by decide) (by decide)) (er _ _ (by decide) (by decide)) (er _ _ (by decide) (by decide)) (er _ _ (by decide) (by decide)) (er _ _ (by decide) (by decide)) (fun z => er _ _ (by decide) (by decide)) e0 e22, b12.frm e0 (d _ (by unfold nm; omega)) (fun z => er _ _ (by decide) (by decide)) e22⟩
theorem MR.wbg (H : MR h S) {x : Nat} : MR (wI h (nm 1 0) 16 (nI x)) (RS_ubg S x) := by
  have c : ∀ a, a ≠ nm 1 0 → ce (wI h (nm 1 0) 16 (nI x)) a = ce h a := fun a e => ce_wI e
  have Z : MR (wI h (nm 1 0) 0 (nI x)) S := H.w0
  obtain ⟨⟨a1, a2, a3, a4, a5⟩, a6⟩ := Z
  refine ⟨⟨a1, a2, a3, ?_, ?_⟩, ?_⟩
  · rw [gI_wI, if_neg (fun z => absurd z.2 (by decide))]; exact H.mo
  · rw [gI_wI, if_pos ⟨rfl, rfl⟩]
  · have d : ∀ a, a ≠ nm 1 0 → ce (wI h (nm 1 0) 16 (nI x)) a = ce (wI h (nm 1 0) 0 (nI x)) a := fun a e => (c a e).trans (ce_wI e).symm
    have e22 : ∀ k, h_k (wI h (nm 1 0) 0 (nI x)) (nm 22 k) ≠ 0 → ce (wI h (nm 1 0) 16 (nI x)) (nm 22 k) = ce (wI h (nm 1 0) 0 (nI x)) (nm 22 k) := fun k _ => d _ (by unfold nm; omega)
    have e0 := d 0 (by unfold nm; omega)
    have er : ∀ r i, 4 ≤ r → r ≤ 30 → ce (wI h (nm 1 0) 16 (nI x)) (nm r i) = ce (wI h (nm 1 0) 0 (nI x)) (nm r i) := fun r i _ _ => d _ (by unfold nm; omega)
    obtain ⟨⟨b1, b2, b3, b4, b5⟩, ⟨b6, b7, b8, b9, b10⟩, b11, b12⟩ := a6
    exact ⟨⟨b1.frm e0 (d _ (by unfold nm; omega)) (fun z => er _ _ (by decide) (by decide)), fun r hr => (b2 r hr).frm (er _ _ (by decide) (by decide)) (er _ _ (by decide) (by decide)) (fun z => er _ _ (by decide) (by decide)) e0 e22, b3.fr (fun _ _ => er _ _ (by decide) (by decide)), b4.fr (fun _ _ => er _ _ (by decide) (by decide)), b5.fr (fun _ _ _ _ => er _ _ (by decide) (by decide))⟩,
      ⟨b6.frm e0 (d _ (by unfold nm; omega)) (fun z => er _ _ (by decide) (by decide)), fun r hr => (b7 r hr).frm (er _ _ (by decide) (by decide)) (er _ _ (by decide) (by decide)) (fun z => er _ _ (by decide) (by decide)) e0 e22, b8.fr (fun _ _ => er _ _ (by decide) (by decide)), b9.fr (fun _ _ => er _ _ (by decide) (by decide)), b10.fr (fun _ _ _ _ => er _ _ (by decide) (by decide))⟩,
      fun t ht => (b11 t ht).frm (er _ _ (by decide) (by decide)) (er _ _ (by decide) (by decide)) (er _ _ (by decide) (by decide)) (er _ _ (by decide) (by decide)) (er _ _ (by decide) (by decide)) (er _ _ (by decide) (by decide)) (er _ _ (by decide) (by decide)) (fun z => er _ _ (by decide) (by decide)) e0 e22, b12.frm e0 (d _ (by unfold nm; omega)) (fun z => er _ _ (by decide) (by decide)) e22⟩
theorem WT_n {t r i : Nat} (h : ¬ ((6 ≤ r ∧ r ≤ 12 ∧ i = t) ∨ (r = 24 ∧ i % 16 = t))) (hr : r < 128) : ¬ WT t (nm r i) := by unfold WT nm; omega
theorem WRf_n {t r i : Nat} (h : ¬ ((4 ≤ r ∧ r ≤ 5 ∧ i = t) ∨ (r = 23 ∧ i % 16 = t))) (hr : r < 128) : ¬ WRf t (nm r i) := by unfold WRf nm; omega
theorem WAg_n {t r i : Nat} (h : ¬ ((13 ≤ r ∧ r ≤ 14 ∧ i = t) ∨ (r = 25 ∧ i % 16 = t))) (hr : r < 128) : ¬ WAg t (nm r i) := by unfold WAg nm; omega
theorem MR.upT {t : Nat} {x : OTS} (H : MR h S) (ht : t < 3) (hF : Fr h h' (WT t)) (X : OT h' t x) (h16 : RS_rn S ≤ 16 ∧ RS_an S ≤ 16) : MR h' (RS_utt1 S t x) := by
  have hm : MK h h' := MK.of (fun i hi => hF _ (WT_n (by omega) (by decide)))
  refine ⟨⟨H.mf.fr hm.1 hm.2.1 hm.2.2.1, (hm.2.2.1 17 (by decide) (by decide)).2.trans H.tn, fun t ht => by rw [hm.2.2.2]; exact H.tr ht, by rw [ce_I (hF _ (WT_n (by omega) (by decide)))]; exact H.mo, by rw [ce_I (hF _ (WT_n (by omega) (by decide)))]; exact H.bg⟩, ⟨H.rl.frm (hF 0 (by unfold WT; omega)) (hF _ (WT_n (by omega) (by decide))) (fun z => hF _ (WT_n (by omega) (by decide))), ?_, H.2.1.2.2.1.fr (fun i hi => hF _ (WT_n (by omega) (by decide))), H.2.1.2.2.2.1.fr (fun i hi => hF _ (WT_n (by omega) (by decide))), H.2.1.2.2.2.2.fr (fun i hi h16 z => hF _ (WT_n (by omega) (by decide)))⟩, ⟨H.al.frm (hF 0 (by unfold WT; omega)) (hF _ (WT_n (by omega) (by decide))) (fun z => hF _ (WT_n (by omega) (by decide))), ?_, H.2.2.1.2.2.1.fr (fun i hi => hF _ (WT_n (by omega) (by decide))), H.2.2.1.2.2.2.1.fr (fun i hi => hF _ (WT_n (by omega) (by decide))), H.2.2.1.2.2.2.2.fr (fun i hi h16 z => hF _ (WT_n (by omega) (by decide)))⟩, ?_, H.lg.frm (hF 0 (by unfold WT; omega)) (hF _ (WT_n (by omega) (by decide))) (fun z => hF _ (WT_n (by omega) (by decide))) (fun k _ => hF _ (WT_n (by omega) (by decide)))⟩
  · intro j hj
    have hj : j < RS_rn S := hj
    exact (H.r hj).frm (hF _ (WT_n (by omega) (by decide))) (hF _ (WT_n (by omega) (by decide))) (fun z => hF _ (WT_n (by omega) (by decide))) (hF 0 (by unfold WT; omega)) (fun k _ => hF _ (WT_n (by omega) (by decide)))
  · intro j hj
    have hj : j < RS_an S := hj
    exact (H.a hj).frm (hF _ (WT_n (by omega) (by decide))) (hF _ (WT_n (by omega) (by decide))) (fun z => hF _ (WT_n (by omega) (by decide))) (hF 0 (by unfold WT; omega)) (fun k _ => hF _ (WT_n (by omega) (by decide)))
  · intro j hj
    have hj : j < 3 := hj
    show OT h' j (va_up (RS_tt S) t x j)
    rw [va_up_app]
    by_cases e : j = t
    · rw [if_pos e, e]; exact X
    · have hj2 : j < 16 := by omega
      have ht2 : t < 16 := by omega
      rw [if_neg e]; exact (H.t hj).frm (hF _ (WT_n (by omega) (by decide))) (hF _ (WT_n (by omega) (by decide))) (hF _ (WT_n (by omega) (by decide))) (hF _ (WT_n (by omega) (by decide))) (hF _ (WT_n (by omega) (by decide))) (hF _ (WT_n (by omega) (by decide))) (hF _ (WT_n (by omega) (by decide))) (fun z => hF _ (WT_n (by omega) (by decide))) (hF 0 (by unfold WT; omega)) (fun k _ => hF _ (WT_n (by omega) (by decide)))
theorem MR.upR {t : Nat} {x : ORS} (H : MR h S) (ht : t < RS_rn S) (hF : Fr h h' (WRf t)) (X : OR h' t x) (h16 : RS_rn S ≤ 16 ∧ RS_an S ≤ 16) : MR h' (RS_urr1 S t x) := by
  have hm : MK h h' := MK.of (fun i hi => hF _ (WRf_n (by omega) (by decide)))
  refine ⟨⟨H.mf.fr hm.1 hm.2.1 hm.2.2.1, (hm.2.2.1 17 (by decide) (by decide)).2.trans H.tn, fun t ht => by rw [hm.2.2.2]; exact H.tr ht, by rw [ce_I (hF _ (WRf_n (by omega) (by decide)))]; exact H.mo, by rw [ce_I (hF _ (WRf_n (by omega) (by decide)))]; exact H.bg⟩, ⟨H.rl.frm (hF 0 (by unfold WRf; omega)) (hF _ (WRf_n (by omega) (by decide))) (fun z => hF _ (WRf_n (by omega) (by decide))), ?_, H.2.1.2.2.1.fr (fun i hi => hF _ (WRf_n (by omega) (by decide))), H.2.1.2.2.2.1.fr (fun i hi => hF _ (WRf_n (by omega) (by decide))), H.2.1.2.2.2.2.fr (fun i hi h16 z => hF _ (WRf_n (by omega) (by decide)))⟩, ⟨H.al.frm (hF 0 (by unfold WRf; omega)) (hF _ (WRf_n (by omega) (by decide))) (fun z => hF _ (WRf_n (by omega) (by decide))), ?_, H.2.2.1.2.2.1.fr (fun i hi => hF _ (WRf_n (by omega) (by decide))), H.2.2.1.2.2.2.1.fr (fun i hi => hF _ (WRf_n (by omega) (by decide))), H.2.2.1.2.2.2.2.fr (fun i hi h16 z => hF _ (WRf_n (by omega) (by decide)))⟩, ?_, H.lg.frm (hF 0 (by unfold WRf; omega)) (hF _ (WRf_n (by omega) (by decide))) (fun z => hF _ (WRf_n (by omega) (by decide))) (fun k _ => hF _ (WRf_n (by omega) (by decide)))⟩
  · intro j hj
    have hj : j < RS_rn S := hj
    show OR h' j (va_up (RS_rr S) t x j)
    rw [va_up_app]
    by_cases e : j = t
    · rw [if_pos e, e]; exact X
    · have hj2 : j < 16 := by omega
      have ht2 : t < 16 := by omega
      rw [if_neg e]; exact (H.r hj).frm (hF _ (WRf_n (by omega) (by decide))) (hF _ (WRf_n (by omega) (by decide))) (fun z => hF _ (WRf_n (by omega) (by decide))) (hF 0 (by unfold WRf; omega)) (fun k _ => hF _ (WRf_n (by omega) (by decide)))
  · intro j hj
    have hj : j < RS_an S := hj
    exact (H.a hj).frm (hF _ (WRf_n (by omega) (by decide))) (hF _ (WRf_n (by omega) (by decide))) (fun z => hF _ (WRf_n (by omega) (by decide))) (hF 0 (by unfold WRf; omega)) (fun k _ => hF _ (WRf_n (by omega) (by decide)))
  · intro j hj
    have hj : j < 3 := hj
    exact (H.t hj).frm (hF _ (WRf_n (by omega) (by decide))) (hF _ (WRf_n (by omega) (by decide))) (hF _ (WRf_n (by omega) (by decide))) (hF _ (WRf_n (by omega) (by decide))) (hF _ (WRf_n (by omega) (by decide))) (hF _ (WRf_n (by omega) (by decide))) (hF _ (WRf_n (by omega) (by decide))) (fun z => hF _ (WRf_n (by omega) (by decide))) (hF 0 (by unfold WRf; omega)) (fun k _ => hF _ (WRf_n (by omega) (by decide)))
theorem MR.upA {t : Nat} {x : OAS} (H : MR h S) (ht : t < RS_an S) (hF : Fr h h' (WAg t)) (X : OA h' t x) (h16 : RS_rn S ≤ 16 ∧ RS_an S ≤ 16) : MR h' (RS_uaa1 S t x) := by
  have hm : MK h h' := MK.of (fun i hi => hF _ (WAg_n (by omega) (by decide)))
  refine ⟨⟨H.mf.fr hm.1 hm.2.1 hm.2.2.1, (hm.2.2.1 17 (by decide) (by decide)).2.trans H.tn, fun t ht => by rw [hm.2.2.2]; exact H.tr ht, by rw [ce_I (hF _ (WAg_n (by omega) (by decide)))]; exact H.mo, by rw [ce_I (hF _ (WAg_n (by omega) (by decide)))]; exact H.bg⟩, ⟨H.rl.frm (hF 0 (by unfold WAg; omega)) (hF _ (WAg_n (by omega) (by decide))) (fun z => hF _ (WAg_n (by omega) (by decide))), ?_, H.2.1.2.2.1.fr (fun i hi => hF _ (WAg_n (by omega) (by decide))), H.2.1.2.2.2.1.fr (fun i hi => hF _ (WAg_n (by omega) (by decide))), H.2.1.2.2.2.2.fr (fun i hi h16 z => hF _ (WAg_n (by omega) (by decide)))⟩, ⟨H.al.frm (hF 0 (by unfold WAg; omega)) (hF _ (WAg_n (by omega) (by decide))) (fun z => hF _ (WAg_n (by omega) (by decide))), ?_, H.2.2.1.2.2.1.fr (fun i hi => hF _ (WAg_n (by omega) (by decide))), H.2.2.1.2.2.2.1.fr (fun i hi => hF _ (WAg_n (by omega) (by decide))), H.2.2.1.2.2.2.2.fr (fun i hi h16 z => hF _ (WAg_n (by omega) (by decide)))⟩, ?_, H.lg.frm (hF 0 (by unfold WAg; omega)) (hF _ (WAg_n (by omega) (by decide))) (fun z => hF _ (WAg_n (by omega) (by decide))) (fun k _ => hF _ (WAg_n (by omega) (by decide)))⟩
  · intro j hj
    have hj : j < RS_rn S := hj
    exact (H.r hj).frm (hF _ (WAg_n (by omega) (by decide))) (hF _ (WAg_n (by omega) (by decide))) (fun z => hF _ (WAg_n (by omega) (by decide))) (hF 0 (by unfold WAg; omega)) (fun k _ => hF _ (WAg_n (by omega) (by decide)))
  · intro j hj
    have hj : j < RS_an S := hj
    show OA h' j (va_up (RS_aa S) t x j)
    rw [va_up_app]
    by_cases e : j = t
    · rw [if_pos e, e]; exact X
    · have hj2 : j < 16 := by omega
      have ht2 : t < 16 := by omega
      rw [if_neg e]; exact (H.a hj).frm (hF _ (WAg_n (by omega) (by decide))) (hF _ (WAg_n (by omega) (by decide))) (fun z => hF _ (WAg_n (by omega) (by decide))) (hF 0 (by unfold WAg; omega)) (fun k _ => hF _ (WAg_n (by omega) (by decide)))
  · intro j hj
    have hj : j < 3 := hj
    exact (H.t hj).frm (hF _ (WAg_n (by omega) (by decide))) (hF _ (WAg_n (by omega) (by decide))) (hF _ (WAg_n (by omega) (by decide))) (hF _ (WAg_n (by omega) (by decide))) (hF _ (WAg_n (by omega) (by decide))) (hF _ (WAg_n (by omega) (by decide))) (hF _ (WAg_n (by omega) (by decide))) (fun z => hF _ (WAg_n (by omega) (by decide))) (hF 0 (by unfold WAg; omega)) (fun k _ => hF _ (WAg_n (by omega) (by decide)))
end MRA
