/-! The class: references, transactions, agents, the log, as one state. -/
abbrev CS : Type := (Nat) × (Nat → KRS) × (Nat) × (Nat → KAS) × (Nat → KTS) × (Nat → KWS) × (List (Nat × Nat × Int32 × Int32)) × (Nat) × (Nat)
abbrev CS_rn (S : CS) : Nat := S.1
abbrev CS_rr (S : CS) : Nat → KRS := S.2.1
abbrev CS_an (S : CS) : Nat := S.2.2.1
abbrev CS_aa (S : CS) : Nat → KAS := S.2.2.2.1
abbrev CS_tt (S : CS) : Nat → KTS := S.2.2.2.2.1
abbrev CS_ww (S : CS) : Nat → KWS := S.2.2.2.2.2.1
abbrev CS_lg (S : CS) : List (Nat × Nat × Int32 × Int32) := S.2.2.2.2.2.2.1
abbrev CS_bi (S : CS) : Nat := S.2.2.2.2.2.2.2.1
abbrev CS_pr (S : CS) : Nat := S.2.2.2.2.2.2.2.2
abbrev CS_urn (S : CS) (v : Nat) : CS := (v, CS_rr S, CS_an S, CS_aa S, CS_tt S, CS_ww S, CS_lg S, CS_bi S, CS_pr S)
abbrev CS_urr (S : CS) (v : Nat → KRS) : CS := (CS_rn S, v, CS_an S, CS_aa S, CS_tt S, CS_ww S, CS_lg S, CS_bi S, CS_pr S)
abbrev CS_uan (S : CS) (v : Nat) : CS := (CS_rn S, CS_rr S, v, CS_aa S, CS_tt S, CS_ww S, CS_lg S, CS_bi S, CS_pr S)
abbrev CS_uaa (S : CS) (v : Nat → KAS) : CS := (CS_rn S, CS_rr S, CS_an S, v, CS_tt S, CS_ww S, CS_lg S, CS_bi S, CS_pr S)
abbrev CS_utt (S : CS) (v : Nat → KTS) : CS := (CS_rn S, CS_rr S, CS_an S, CS_aa S, v, CS_ww S, CS_lg S, CS_bi S, CS_pr S)
abbrev CS_uww (S : CS) (v : Nat → KWS) : CS := (CS_rn S, CS_rr S, CS_an S, CS_aa S, CS_tt S, v, CS_lg S, CS_bi S, CS_pr S)
abbrev CS_ulg (S : CS) (v : List (Nat × Nat × Int32 × Int32)) : CS := (CS_rn S, CS_rr S, CS_an S, CS_aa S, CS_tt S, CS_ww S, v, CS_bi S, CS_pr S)
abbrev CS_ubi (S : CS) (v : Nat) : CS := (CS_rn S, CS_rr S, CS_an S, CS_aa S, CS_tt S, CS_ww S, CS_lg S, v, CS_pr S)
abbrev CS_upr (S : CS) (v : Nat) : CS := (CS_rn S, CS_rr S, CS_an S, CS_aa S, CS_tt S, CS_ww S, CS_lg S, CS_bi S, v)
abbrev CS_utt1 (S : CS) (t : Nat) (x : KTS) : CS := CS_utt S (va_up (CS_tt S) t x)
abbrev CS_urr1 (S : CS) (t : Nat) (x : KRS) : CS := CS_urr S (va_up (CS_rr S) t x)
abbrev CS_uaa1 (S : CS) (t : Nat) (x : KAS) : CS := CS_uaa S (va_up (CS_aa S) t x)
abbrev CS_uww1 (S : CS) (t : Nat) (x : KWS) : CS := CS_uww S (va_up (CS_ww S) t x)
def CT (t : Nat) : Nat → Prop := fun a => 56 ≤ a % 128 ∧ a % 128 ≤ 62 ∧ a / 128 = t
def CRf (t : Nat) : Nat → Prop := fun a => 53 ≤ a % 128 ∧ a % 128 ≤ 55 ∧ a / 128 = t
def CA (t : Nat) : Nat → Prop := fun a => 65 ≤ a % 128 ∧ a % 128 ≤ 67 ∧ a / 128 = t
def CWr (t : Nat) : Nat → Prop := fun a => 63 ≤ a % 128 ∧ a % 128 ≤ 64 ∧ a / 128 = t
theorem CT_n {t r i : Nat} (h : ¬ (56 ≤ r ∧ r ≤ 62 ∧ i = t)) (hr : r < 128) : ¬ CT t (nm r i) := by unfold CT nm; omega
theorem CRf_n {t r i : Nat} (h : ¬ (53 ≤ r ∧ r ≤ 55 ∧ i = t)) (hr : r < 128) : ¬ CRf t (nm r i) := by unfold CRf nm; omega
theorem CA_n {t r i : Nat} (h : ¬ (65 ≤ r ∧ r ≤ 67 ∧ i = t)) (hr : r < 128) : ¬ CA t (nm r i) := by unfold CA nm; omega
theorem CWr_n {t r i : Nat} (h : ¬ (63 ≤ r ∧ r ≤ 64 ∧ i = t)) (hr : r < 128) : ¬ CWr t (nm r i) := by unfold CWr nm; omega
/-- an entry of the log -/
def KL (h : Hp) (i : Nat) (q : Nat × Nat × Int32 × Int32) : Prop := h_k h (nm 68 i) = 5 ∧ h_I h (nm 68 i) 0 = nI q.1 ∧ h_I h (nm 68 i) 1 = nI q.2.1 ∧ h_I h (nm 68 i) 2 = q.2.2.1 ∧ h_I h (nm 68 i) 3 = q.2.2.2
theorem KL.frm {h h' : Hp} {i : Nat} {q : Nat × Nat × Int32 × Int32} (H : KL h i q) (e : ce h' (nm 68 i) = ce h (nm 68 i)) : KL h' i q := ⟨(ce_k e).trans H.1, by rw [ce_I e]; exact H.2.1, by rw [ce_I e]; exact H.2.2.1, by rw [ce_I e]; exact H.2.2.2.1, by rw [ce_I e]; exact H.2.2.2.2⟩
/-- the parlour itself -/
def CP0 (h : Hp) (X : CS) : Prop := h_k h (nm 40 0) = 13 ∧ h_R h (nm 40 0) 6 = some (nm 40 6) ∧ h_R h (nm 40 0) 8 = some (nm 40 8) ∧ h_R h (nm 40 0) 11 = some (nm 40 11) ∧ h_R h (nm 40 0) 12 = some (nm 40 12) ∧ h_I h (nm 40 0) 7 = nI (CS_rn X) ∧ h_I h (nm 40 0) 13 = nI (CS_an X) ∧ h_I h (nm 40 0) 9 = nI (CS_bi X) ∧ h_I h (nm 40 0) 10 = nI (CS_pr X)
def CP1 (h : Hp) : Prop := h_k h (nm 40 6) = 112 ∧ h_n h (nm 40 6) = 6 ∧ h_k h (nm 40 8) = 113 ∧ h_n h (nm 40 8) = 3 ∧ h_k h (nm 40 12) = 114 ∧ h_n h (nm 40 12) = 4
def CP2 (h : Hp) (X : CS) : Prop := (∀ r, r < CS_rn X → h_R h (nm 40 6) r = some (nm 53 r)) ∧ (∀ t, t < 3 → h_R h (nm 40 8) t = some (nm 56 t)) ∧ (∀ a, a < CS_an X → h_R h (nm 40 12) a = some (nm 65 a))
def CP3 (h : Hp) (X : CS) : Prop := (∀ r, r < CS_rn X → KR h r (CS_rr X r)) ∧ (∀ t, t < 3 → KT h t (CS_tt X t)) ∧ (∀ a, a < CS_an X → KA h a (CS_aa X a)) ∧ (∀ i, i < 12 → KW h i (CS_ww X i))
def CP4 (h : Hp) (X : CS) : Prop := LOb h (nm 40 11) 69 0 68 (CS_lg X).length ∧ ∀ i, (hi : i < (CS_lg X).length) → KL h i (CS_lg X)[i]
def CP5 (h : Hp) (X : CS) : Prop := FreeI h 53 (CS_rn X) ∧ FreeI h 54 (CS_rn X) ∧ FreeI h 55 (CS_rn X) ∧ FreeI h 65 (CS_an X) ∧ FreeI h 66 (CS_an X) ∧ FreeI h 67 (CS_an X) ∧ FreeI h 68 (CS_lg X).length
def CR (h : Hp) (X : CS) : Prop := CP0 h X ∧ CP1 h ∧ CP2 h X ∧ CP3 h X ∧ CP4 h X ∧ CP5 h X
/-- what the calls about references may change -/
def WK (a : Nat) : Prop := a = nm 40 0 ∨ a = nm 40 6 ∨ a = nm 40 11 ∨ a = nm 40 12 ∨ (53 ≤ a % 128 ∧ a % 128 ≤ 69)
def FRK (h h' : Hp) : Prop := (∀ a, ¬ WK a → ce h' a = ce h a) ∧ (h_k h' (nm 40 0) = h_k h (nm 40 0) ∧ h_n h' (nm 40 0) = h_n h (nm 40 0) ∧ h_R h' (nm 40 0) = h_R h (nm 40 0) ∧ h_L h' (nm 40 0) = h_L h (nm 40 0) ∧ h_F h' (nm 40 0) = h_F h (nm 40 0)) ∧ ∀ j, j ≠ 7 → j ≠ 9 → j ≠ 10 → j ≠ 13 → h_I h' (nm 40 0) j = h_I h (nm 40 0) j
theorem FRK.rf {h : Hp} : FRK h h := ⟨fun _ _ => rfl, ⟨rfl, rfl, rfl, rfl, rfl⟩, fun _ _ _ _ _ => rfl⟩
theorem FRK.tr {h h1 h2 : Hp} (a : FRK h h1) (b : FRK h1 h2) : FRK h h2 := ⟨fun x hx => (b.1 x hx).trans (a.1 x hx), ⟨b.2.1.1.trans a.2.1.1, b.2.1.2.1.trans a.2.1.2.1, b.2.1.2.2.1.trans a.2.1.2.2.1, b.2.1.2.2.2.1.trans a.2.1.2.2.2.1, b.2.1.2.2.2.2.trans a.2.1.2.2.2.2⟩, fun j h7 h9 h10 h13 => (b.2.2 j h7 h9 h10 h13).trans (a.2.2 j h7 h9 h10 h13)⟩
theorem FRK.of {h h' : Hp} {W : Nat → Prop} (hF : Fr h h' W) (hW : ∀ a, W a → 53 ≤ a % 128 ∧ a % 128 ≤ 69) : FRK h h' := by
  have e : ce h' (nm 40 0) = ce h (nm 40 0) := hF _ (fun z => by have := hW _ z; unfold nm at this; omega)
  exact ⟨fun a ha => hF a (fun z => ha (Or.inr (Or.inr (Or.inr (Or.inr (hW a z)))))), ⟨ce_k e, ce_n e, ce_R e, ce_L e, ce_F e⟩, fun j _ _ _ _ => by rw [ce_I e]⟩
theorem FRK.oT {h h' : Hp} {t : Nat} (hF : Fr h h' (CT t)) : FRK h h' := FRK.of hF (fun a z => by unfold CT at z; omega)
theorem FRK.oR {h h' : Hp} {t : Nat} (hF : Fr h h' (CRf t)) : FRK h h' := FRK.of hF (fun a z => by unfold CRf at z; omega)
theorem FRK.oA {h h' : Hp} {t : Nat} (hF : Fr h h' (CA t)) : FRK h h' := FRK.of hF (fun a z => by unfold CA at z; omega)
theorem FRK.oW {h h' : Hp} {t : Nat} (hF : Fr h h' (CWr t)) : FRK h h' := FRK.of hF (fun a z => by unfold CWr at z; omega)
theorem FRK.w {h : Hp} {k : Nat} {x : Int32} (hk : k = 7 ∨ k = 9 ∨ k = 10 ∨ k = 13) : FRK h (wI h (nm 40 0) k x) := ⟨fun a ha => ce_wI (fun e => ha (Or.inl e)), ⟨rfl, rfl, rfl, rfl, rfl⟩, fun j h7 h9 h10 h13 => by rw [gI_wI, if_neg (fun z => by have := z.2; omega)]⟩
section CRA
variable {h h' : Hp} {X : CS}
theorem CP0.fr (H : CP0 h X) (e : ce h' (nm 40 0) = ce h (nm 40 0)) : CP0 h' X := by
  obtain ⟨a1, a2, a3, a4, a5, a6, a7, a8, a9⟩ := H
  unfold CP0; rw [ce_k e, ce_R e, ce_I e]; exact ⟨a1, a2, a3, a4, a5, a6, a7, a8, a9⟩
theorem CP1.fr (H : CP1 h) (e1 : ce h' (nm 40 6) = ce h (nm 40 6)) (e2 : ce h' (nm 40 8) = ce h (nm 40 8)) (e3 : ce h' (nm 40 12) = ce h (nm 40 12)) : CP1 h' := by
  unfold CP1; rw [ce_k e1, ce_n e1, ce_k e2, ce_n e2, ce_k e3, ce_n e3]; exact H
theorem CP2.fr (H : CP2 h X) (e1 : ce h' (nm 40 6) = ce h (nm 40 6)) (e2 : ce h' (nm 40 8) = ce h (nm 40 8)) (e3 : ce h' (nm 40 12) = ce h (nm 40 12)) : CP2 h' X := by
  unfold CP2; rw [ce_R e1, ce_R e2, ce_R e3]; exact H
theorem CP4.fr (H : CP4 h X) (e0 : ce h' 0 = ce h 0) (e1 : ce h' (nm 40 11) = ce h (nm 40 11)) (er : ∀ r i, 68 ≤ r → r ≤ 69 → ce h' (nm r i) = ce h (nm r i)) : CP4 h' X :=
  ⟨H.1.frm e0 e1 (fun z => er _ _ (by decide) (by decide)), fun i hi => (H.2 i hi).frm (er _ _ (by decide) (by decide))⟩
theorem CP5.fr (H : CP5 h X) (er : ∀ r i, (r = 53 ∨ r = 54 ∨ r = 55) → CS_rn X ≤ i → ce h' (nm r i) = ce h (nm r i)) (er2 : ∀ r i, (r = 65 ∨ r = 66 ∨ r = 67) → CS_an X ≤ i → ce h' (nm r i) = ce h (nm r i)) (er3 : ∀ i, ce h' (nm 68 i) = ce h (nm 68 i)) : CP5 h' X :=
  ⟨H.1.fr (fun i hi => er _ i (by decide) hi), H.2.1.fr (fun i hi => er _ i (by decide) hi), H.2.2.1.fr (fun i hi => er _ i (by decide) hi), H.2.2.2.1.fr (fun i hi => er2 _ i (by decide) hi), H.2.2.2.2.1.fr (fun i hi => er2 _ i (by decide) hi), H.2.2.2.2.2.1.fr (fun i hi => er2 _ i (by decide) hi), H.2.2.2.2.2.2.fr (fun i _ => er3 i)⟩
theorem CP3.fr (H : CP3 h X) (er : ∀ r i, 53 ≤ r → r ≤ 67 → ce h' (nm r i) = ce h (nm r i)) : CP3 h' X :=
  ⟨fun r hr => (H.1 r hr).frm (er _ _ (by decide) (by decide)) (er _ _ (by decide) (by decide)) (er _ _ (by decide) (by decide)), fun r hr => (H.2.1 r hr).frm (er _ _ (by decide) (by decide)) (er _ _ (by decide) (by decide)) (er _ _ (by decide) (by decide)) (er _ _ (by decide) (by decide)) (er _ _ (by decide) (by decide)) (er _ _ (by decide) (by decide)) (er _ _ (by decide) (by decide)), fun r hr => (H.2.2.1 r hr).frm (er _ _ (by decide) (by decide)) (er _ _ (by decide) (by decide)) (er _ _ (by decide) (by decide)), fun r hr => (H.2.2.2 r hr).frm (er _ _ (by decide) (by decide)) (er _ _ (by decide) (by decide))⟩
theorem CR.all (H : CR h X) (e0 : ce h' 0 = ce h 0) (ep : ∀ i, (i = 0 ∨ i = 6 ∨ i = 8 ∨ i = 11 ∨ i = 12) → ce h' (nm 40 i) = ce h (nm 40 i)) (er : ∀ r i, 53 ≤ r → r ≤ 69 → ce h' (nm r i) = ce h (nm r i)) : CR h' X :=
  ⟨H.1.fr (ep _ (by decide)), H.2.1.fr (ep _ (by decide)) (ep _ (by decide)) (ep _ (by decide)), H.2.2.1.fr (ep _ (by decide)) (ep _ (by decide)) (ep _ (by decide)), H.2.2.2.1.fr (fun r i h1 h2 => er r i h1 (by omega)), H.2.2.2.2.1.fr e0 (ep _ (by decide)) (fun r i h1 h2 => er r i (by omega) (by omega)), H.2.2.2.2.2.fr (fun r i h1 _ => er r i (by omega) (by omega)) (fun r i h1 _ => er r i (by omega) (by omega)) (fun i => er _ i (by decide) (by decide))⟩
theorem CR.mk (H : CR h X) : h_k h (nm 40 0) = 13 := H.1.1
theorem CR.f6 (H : CR h X) : h_R h (nm 40 0) 6 = some (nm 40 6) := H.1.2.1
theorem CR.f8 (H : CR h X) : h_R h (nm 40 0) 8 = some (nm 40 8) := H.1.2.2.1
theorem CR.f11 (H : CR h X) : h_R h (nm 40 0) 11 = some (nm 40 11) := H.1.2.2.2.1
theorem CR.f12 (H : CR h X) : h_R h (nm 40 0) 12 = some (nm 40 12) := H.1.2.2.2.2.1
theorem CR.i7 (H : CR h X) : h_I h (nm 40 0) 7 = nI (CS_rn X) := H.1.2.2.2.2.2.1
theorem CR.i13 (H : CR h X) : h_I h (nm 40 0) 13 = nI (CS_an X) := H.1.2.2.2.2.2.2.1
theorem CR.i9 (H : CR h X) : h_I h (nm 40 0) 9 = nI (CS_bi X) := H.1.2.2.2.2.2.2.2.1
theorem CR.i10 (H : CR h X) : h_I h (nm 40 0) 10 = nI (CS_pr X) := H.1.2.2.2.2.2.2.2.2
theorem CR.k6 (H : CR h X) : h_k h (nm 40 6) = 112 := H.2.1.1
theorem CR.n6 (H : CR h X) : h_n h (nm 40 6) = 6 := H.2.1.2.1
theorem CR.k8 (H : CR h X) : h_k h (nm 40 8) = 113 := H.2.1.2.2.1
theorem CR.n8 (H : CR h X) : h_n h (nm 40 8) = 3 := H.2.1.2.2.2.1
theorem CR.k12 (H : CR h X) : h_k h (nm 40 12) = 114 := H.2.1.2.2.2.2.1
theorem CR.n12 (H : CR h X) : h_n h (nm 40 12) = 4 := H.2.1.2.2.2.2.2
theorem CR.q6 (H : CR h X) {r : Nat} (hr : r < CS_rn X) : h_R h (nm 40 6) r = some (nm 53 r) := H.2.2.1.1 r hr
theorem CR.q8 (H : CR h X) {r : Nat} (hr : r < 3) : h_R h (nm 40 8) r = some (nm 56 r) := H.2.2.1.2.1 r hr
theorem CR.q12 (H : CR h X) {r : Nat} (hr : r < CS_an X) : h_R h (nm 40 12) r = some (nm 65 r) := H.2.2.1.2.2 r hr
theorem CR.r (H : CR h X) {r : Nat} (hr : r < CS_rn X) : KR h r (CS_rr X r) := H.2.2.2.1.1 r hr
theorem CR.t (H : CR h X) {r : Nat} (hr : r < 3) : KT h r (CS_tt X r) := H.2.2.2.1.2.1 r hr
theorem CR.a (H : CR h X) {r : Nat} (hr : r < CS_an X) : KA h r (CS_aa X r) := H.2.2.2.1.2.2.1 r hr
theorem CR.w (H : CR h X) {r : Nat} (hr : r < 12) : KW h r (CS_ww X r) := H.2.2.2.1.2.2.2 r hr
theorem CR.lg (H : CR h X) : LOb h (nm 40 11) 69 0 68 (CS_lg X).length := H.2.2.2.2.1.1
theorem CR.le (H : CR h X) {i : Nat} (hi : i < (CS_lg X).length) : KL h i (CS_lg X)[i] := H.2.2.2.2.1.2 i hi
theorem CR.upT {t : Nat} {x : KTS} (H : CR h X) (ht : t < 3) (hF : Fr h h' (CT t)) (Y : KT h' t x) : CR h' (CS_utt1 X t x) := by
  refine ⟨H.1.fr (hF _ (CT_n (by omega) (by decide))), H.2.1.fr (hF _ (CT_n (by omega) (by decide))) (hF _ (CT_n (by omega) (by decide))) (hF _ (CT_n (by omega) (by decide))), H.2.2.1.fr (hF _ (CT_n (by omega) (by decide))) (hF _ (CT_n (by omega) (by decide))) (hF _ (CT_n (by omega) (by decide))), ⟨fun j hj => (H.2.2.2.1.1 j hj).frm (hF _ (CT_n (by omega) (by decide))) (hF _ (CT_n (by omega) (by decide))) (hF _ (CT_n (by omega) (by decide))),
  fun j hj => by
    show KT h' j (va_up (CS_tt X) t x j)
    rw [va_up_app]
    by_cases e : j = t
    · rw [if_pos e, e]; exact Y
    · rw [if_neg e]; exact (H.2.2.2.1.2.1 j hj).frm (hF _ (CT_n (by omega) (by decide))) (hF _ (CT_n (by omega) (by decide))) (hF _ (CT_n (by omega) (by decide))) (hF _ (CT_n (by omega) (by decide))) (hF _ (CT_n (by omega) (by decide))) (hF _ (CT_n (by omega) (by decide))) (hF _ (CT_n (by omega) (by decide))),
  fun j hj => (H.2.2.2.1.2.2.1 j hj).frm (hF _ (CT_n (by omega) (by decide))) (hF _ (CT_n (by omega) (by decide))) (hF _ (CT_n (by omega) (by decide))),
  fun j hj => (H.2.2.2.1.2.2.2 j hj).frm (hF _ (CT_n (by omega) (by decide))) (hF _ (CT_n (by omega) (by decide)))⟩, H.2.2.2.2.1.fr (hF 0 (by unfold CT; omega)) (hF _ (CT_n (by omega) (by decide))) (fun r i h1 h2 => (hF _ (CT_n (by omega) (by omega)))), H.2.2.2.2.2.fr (fun r i h1 h2 => (hF _ (CT_n (by omega) (by omega)))) (fun r i h1 h2 => (hF _ (CT_n (by omega) (by omega)))) (fun i => (hF _ (CT_n (by omega) (by decide))))⟩
theorem CR.upR {t : Nat} {x : KRS} (H : CR h X) (ht : t < CS_rn X) (hF : Fr h h' (CRf t)) (Y : KR h' t x) : CR h' (CS_urr1 X t x) := by
  refine ⟨H.1.fr (hF _ (CRf_n (by omega) (by decide))), H.2.1.fr (hF _ (CRf_n (by omega) (by decide))) (hF _ (CRf_n (by omega) (by decide))) (hF _ (CRf_n (by omega) (by decide))), H.2.2.1.fr (hF _ (CRf_n (by omega) (by decide))) (hF _ (CRf_n (by omega) (by decide))) (hF _ (CRf_n (by omega) (by decide))), ⟨fun j hj => by
    show KR h' j (va_up (CS_rr X) t x j)
    rw [va_up_app]
    by_cases e : j = t
    · rw [if_pos e, e]; exact Y
    · rw [if_neg e]; exact (H.2.2.2.1.1 j hj).frm (hF _ (CRf_n (by omega) (by decide))) (hF _ (CRf_n (by omega) (by decide))) (hF _ (CRf_n (by omega) (by decide))),
  fun j hj => (H.2.2.2.1.2.1 j hj).frm (hF _ (CRf_n (by omega) (by decide))) (hF _ (CRf_n (by omega) (by decide))) (hF _ (CRf_n (by omega) (by decide))) (hF _ (CRf_n (by omega) (by decide))) (hF _ (CRf_n (by omega) (by decide))) (hF _ (CRf_n (by omega) (by decide))) (hF _ (CRf_n (by omega) (by decide))),
  fun j hj => (H.2.2.2.1.2.2.1 j hj).frm (hF _ (CRf_n (by omega) (by decide))) (hF _ (CRf_n (by omega) (by decide))) (hF _ (CRf_n (by omega) (by decide))),
  fun j hj => (H.2.2.2.1.2.2.2 j hj).frm (hF _ (CRf_n (by omega) (by decide))) (hF _ (CRf_n (by omega) (by decide)))⟩, H.2.2.2.2.1.fr (hF 0 (by unfold CRf; omega)) (hF _ (CRf_n (by omega) (by decide))) (fun r i h1 h2 => (hF _ (CRf_n (by omega) (by omega)))), H.2.2.2.2.2.fr (fun r i h1 h2 => (hF _ (CRf_n (by omega) (by omega)))) (fun r i h1 h2 => (hF _ (CRf_n (by omega) (by omega)))) (fun i => (hF _ (CRf_n (by omega) (by decide))))⟩
theorem CR.upA {t : Nat} {x : KAS} (H : CR h X) (ht : t < CS_an X) (hF : Fr h h' (CA t)) (Y : KA h' t x) : CR h' (CS_uaa1 X t x) := by
  refine ⟨H.1.fr (hF _ (CA_n (by omega) (by decide))), H.2.1.fr (hF _ (CA_n (by omega) (by decide))) (hF _ (CA_n (by omega) (by decide))) (hF _ (CA_n (by omega) (by decide))), H.2.2.1.fr (hF _ (CA_n (by omega) (by decide))) (hF _ (CA_n (by omega) (by decide))) (hF _ (CA_n (by omega) (by decide))), ⟨fun j hj => (H.2.2.2.1.1 j hj).frm (hF _ (CA_n (by omega) (by decide))) (hF _ (CA_n (by omega) (by decide))) (hF _ (CA_n (by omega) (by decide))),
  fun j hj => (H.2.2.2.1.2.1 j hj).frm (hF _ (CA_n (by omega) (by decide))) (hF _ (CA_n (by omega) (by decide))) (hF _ (CA_n (by omega) (by decide))) (hF _ (CA_n (by omega) (by decide))) (hF _ (CA_n (by omega) (by decide))) (hF _ (CA_n (by omega) (by decide))) (hF _ (CA_n (by omega) (by decide))),
  fun j hj => by
    show KA h' j (va_up (CS_aa X) t x j)
    rw [va_up_app]
    by_cases e : j = t
    · rw [if_pos e, e]; exact Y
    · rw [if_neg e]; exact (H.2.2.2.1.2.2.1 j hj).frm (hF _ (CA_n (by omega) (by decide))) (hF _ (CA_n (by omega) (by decide))) (hF _ (CA_n (by omega) (by decide))),
  fun j hj => (H.2.2.2.1.2.2.2 j hj).frm (hF _ (CA_n (by omega) (by decide))) (hF _ (CA_n (by omega) (by decide)))⟩, H.2.2.2.2.1.fr (hF 0 (by unfold CA; omega)) (hF _ (CA_n (by omega) (by decide))) (fun r i h1 h2 => (hF _ (CA_n (by omega) (by omega)))), H.2.2.2.2.2.fr (fun r i h1 h2 => (hF _ (CA_n (by omega) (by omega)))) (fun r i h1 h2 => (hF _ (CA_n (by omega) (by omega)))) (fun i => (hF _ (CA_n (by omega) (by decide))))⟩
theorem CR.upW {t : Nat} {x : KWS} (H : CR h X) (ht : t < 12) (hF : Fr h h' (CWr t)) (Y : KW h' t x) : CR h' (CS_uww1 X t x) := by
  refine ⟨H.1.fr (hF _ (CWr_n (by omega) (by decide))), H.2.1.fr (hF _ (CWr_n (by omega) (by decide))) (hF _ (CWr_n (by omega) (by decide))) (hF _ (CWr_n (by omega) (by decide))), H.2.2.1.fr (hF _ (CWr_n (by omega) (by decide))) (hF _ (CWr_n (by omega) (by decide))) (hF _ (CWr_n (by omega) (by decide))), ⟨fun j hj => (H.2.2.2.1.1 j hj).frm (hF _ (CWr_n (by omega) (by decide))) (hF _ (CWr_n (by omega) (by decide))) (hF _ (CWr_n (by omega) (by decide))),
  fun j hj => (H.2.2.2.1.2.1 j hj).frm (hF _ (CWr_n (by omega) (by decide))) (hF _ (CWr_n (by omega) (by decide))) (hF _ (CWr_n (by omega) (by decide))) (hF _ (CWr_n (by omega) (by decide))) (hF _ (CWr_n (by omega) (by decide))) (hF _ (CWr_n (by omega) (by decide))) (hF _ (CWr_n (by omega) (by decide))),
  fun j hj => (H.2.2.2.1.2.2.1 j hj).frm (hF _ (CWr_n (by omega) (by decide))) (hF _ (CWr_n (by omega) (by decide))) (hF _ (CWr_n (by omega) (by decide))),
  fun j hj => by
    show KW h' j (va_up (CS_ww X) t x j)
    rw [va_up_app]
    by_cases e : j = t
    · rw [if_pos e, e]; exact Y
    · rw [if_neg e]; exact (H.2.2.2.1.2.2.2 j hj).frm (hF _ (CWr_n (by omega) (by decide))) (hF _ (CWr_n (by omega) (by decide)))⟩, H.2.2.2.2.1.fr (hF 0 (by unfold CWr; omega)) (hF _ (CWr_n (by omega) (by decide))) (fun r i h1 h2 => (hF _ (CWr_n (by omega) (by omega)))), H.2.2.2.2.2.fr (fun r i h1 h2 => (hF _ (CWr_n (by omega) (by omega)))) (fun r i h1 h2 => (hF _ (CWr_n (by omega) (by omega)))) (fun i => (hF _ (CWr_n (by omega) (by decide))))⟩
theorem CR.wbi (H : CR h X) {x : Nat} : CR (wI h (nm 40 0) 9 (nI x)) (CS_ubi X x) := by
  have hc : ∀ a, a ≠ nm 40 0 → ce (wI h (nm 40 0) 9 (nI x)) a = ce h a := fun a e => ce_wI e
  have ep : ∀ i, i ≠ 0 → ce (wI h (nm 40 0) 9 (nI x)) (nm 40 i) = ce h (nm 40 i) := fun i e => hc _ (by unfold nm; omega)
  have er : ∀ r i, 53 ≤ r → r ≤ 69 → ce (wI h (nm 40 0) 9 (nI x)) (nm r i) = ce h (nm r i) := fun r i _ _ => hc _ (by unfold nm; omega)
  obtain ⟨a1, a2, a3, a4, a5, a6, a7, a8, a9⟩ := H.1
  have b0 : CP0 (wI h (nm 40 0) 9 (nI x)) (CS_ubi X x) := ⟨a1, a2, a3, a4, a5, by rw [gI_wI, if_neg (fun z => absurd z.2 (by decide))]; exact a6, by rw [gI_wI, if_neg (fun z => absurd z.2 (by decide))]; exact a7, by rw [gI_wI, if_pos ⟨rfl, rfl⟩], by rw [gI_wI, if_neg (fun z => absurd z.2 (by decide))]; exact a9⟩
  have b3 : CP3 (wI h (nm 40 0) 9 (nI x)) X := H.2.2.2.1.fr (fun r i h1 h2 => er r i h1 (by omega))
  have b4 : CP4 (wI h (nm 40 0) 9 (nI x)) X := H.2.2.2.2.1.fr (hc 0 (by unfold nm; omega)) (ep _ (by decide)) (fun r i h1 h2 => er r i (by omega) (by omega))
  have b5 : CP5 (wI h (nm 40 0) 9 (nI x)) X := H.2.2.2.2.2.fr (fun r i h1 _ => er r i (by omega) (by omega)) (fun r i h1 _ => er r i (by omega) (by omega)) (fun i => er _ i (by decide) (by decide))
  exact ⟨b0, H.2.1.fr (ep _ (by decide)) (ep _ (by decide)) (ep _ (by decide)), H.2.2.1.fr (ep _ (by decide)) (ep _ (by decide)) (ep _ (by decide)), b3, b4, b5⟩
theorem CR.wpr (H : CR h X) {x : Nat} : CR (wI h (nm 40 0) 10 (nI x)) (CS_upr X x) := by
  have hc : ∀ a, a ≠ nm 40 0 → ce (wI h (nm 40 0) 10 (nI x)) a = ce h a := fun a e => ce_wI e
  have ep : ∀ i, i ≠ 0 → ce (wI h (nm 40 0) 10 (nI x)) (nm 40 i) = ce h (nm 40 i) := fun i e => hc _ (by unfold nm; omega)
  have er : ∀ r i, 53 ≤ r → r ≤ 69 → ce (wI h (nm 40 0) 10 (nI x)) (nm r i) = ce h (nm r i) := fun r i _ _ => hc _ (by unfold nm; omega)
  obtain ⟨a1, a2, a3, a4, a5, a6, a7, a8, a9⟩ := H.1
  have b0 : CP0 (wI h (nm 40 0) 10 (nI x)) (CS_upr X x) := ⟨a1, a2, a3, a4, a5, by rw [gI_wI, if_neg (fun z => absurd z.2 (by decide))]; exact a6, by rw [gI_wI, if_neg (fun z => absurd z.2 (by decide))]; exact a7, by rw [gI_wI, if_neg (fun z => absurd z.2 (by decide))]; exact a8, by rw [gI_wI, if_pos ⟨rfl, rfl⟩]⟩
  have b3 : CP3 (wI h (nm 40 0) 10 (nI x)) X := H.2.2.2.1.fr (fun r i h1 h2 => er r i h1 (by omega))
  have b4 : CP4 (wI h (nm 40 0) 10 (nI x)) X := H.2.2.2.2.1.fr (hc 0 (by unfold nm; omega)) (ep _ (by decide)) (fun r i h1 h2 => er r i (by omega) (by omega))
  have b5 : CP5 (wI h (nm 40 0) 10 (nI x)) X := H.2.2.2.2.2.fr (fun r i h1 _ => er r i (by omega) (by omega)) (fun r i h1 _ => er r i (by omega) (by omega)) (fun i => er _ i (by decide) (by decide))
  exact ⟨b0, H.2.1.fr (ep _ (by decide)) (ep _ (by decide)) (ep _ (by decide)), H.2.2.1.fr (ep _ (by decide)) (ep _ (by decide)) (ep _ (by decide)), b3, b4, b5⟩
end CRA
