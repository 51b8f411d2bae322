/-! Both sides in one heap: what stays where the other side, or the law, writes. -/
def FK (h h' : Hp) : Prop := ∀ a, ¬ (40 ≤ a % 128 ∧ a % 128 ≤ 69) → ce h' a = ce h a
def FC (h h' : Hp) : Prop := ∀ a, ¬ (40 ≤ a % 128 ∧ a % 128 ≤ 70) → ce h' a = ce h a
def FG (h h' : Hp) : Prop := ∀ a, ¬ ((1 ≤ a % 128 ∧ a % 128 ≤ 31) ∨ a % 128 = 72) → ce h' a = ce h a
theorem FK.rf {h : Hp} : FK h h := fun _ _ => rfl
theorem FK.tr {h h1 h2 : Hp} (a : FK h h1) (b : FK h1 h2) : FK h h2 := fun x hx => (b x hx).trans (a x hx)
theorem FK.fc {h h' : Hp} (F : FK h h') : FC h h' := fun a ha => F a (by omega)
theorem FRK.fk {h h' : Hp} (F : FRK h h') : FK h h' := fun a ha => F.1 a (by unfold WK nm; omega)
theorem FRKQ.fk {h h' : Hp} (F : FRKQ h h') : FK h h' := fun a ha => F.1 a (by unfold WKQ nm; omega)
theorem FRV.fk {h h' : Hp} (F : FRV h h') : FK h h' := fun a ha => F.1 a (by unfold WV nm; omega)
/-- the class's state in the heap -/
def CLS (h : Hp) (V : SV) (M n : Nat) (x : Nat → QIS) (R : RS) : Prop := (∃ X, CR h X ∧ SIM X R) ∧ CQR h n x ∧ CV h V M
/-- the model's state in the heap -/
def MDL (h : Hp) (V : SV) (n : Nat) (x : Nat → QIS) (R : RS) : Prop := MP h (nm 1 0) (nm 1) V ∧ MSQ h n x ∧ MR h R ∧ PO2 h ∧ ∃ K, FreeI h 72 K
/-- the law's two rows -/
def ARR (h : Hp) : Prop := (h_k h (nm 70 0) = 104 ∧ h_n h (nm 70 0) = 1) ∧ h_k h (nm 71 0) = 105 ∧ h_n h (nm 71 0) = 1
section FRM
variable {h h' : Hp} {V V' : SV} {M n n' : Nat} {x x' : Nat → QIS} {R R' : RS}
theorem CQR.all (H : CQR h n x) (er : ∀ r i, 40 ≤ r → r ≤ 69 → ce h' (nm r i) = ce h (nm r i)) : CQR h' n x := by
  obtain ⟨⟨a1, a2, a3, a4, a5⟩, b, c, g1, g2, g3⟩ := H
  have e0 := er 40 0 (by decide) (by decide)
  have e4 := er 40 4 (by decide) (by decide)
  exact ⟨⟨(ce_k e0).trans a1, by rw [ce_R e0]; exact a2, by rw [ce_I e0]; exact a3, (ce_k e4).trans a4, (ce_n e4).trans a5⟩, fun s hs => by rw [ce_R e4]; exact b s hs, fun s hs => (c s hs).frm (er _ _ (by decide) (by decide)) (er _ _ (by decide) (by decide)) (er _ _ (by decide) (by decide)),
    g1.fr (fun i _ => er _ _ (by decide) (by decide)), g2.fr (fun i _ => er _ _ (by decide) (by decide)), g3.fr (fun i _ => er _ _ (by decide) (by decide))⟩
theorem CLS.fr (H : CLS h V M n x R) (e : ∀ a, a % 128 = 0 ∨ (40 ≤ a % 128 ∧ a % 128 ≤ 69) → ce h' a = ce h a) : CLS h' V M n x R := by
  obtain ⟨⟨X, a, b⟩, c, d⟩ := H
  have er : ∀ r i, 40 ≤ r → r ≤ 69 → ce h' (nm r i) = ce h (nm r i) := fun r i h1 h2 => e _ (by unfold nm; omega)
  have e0 := er 40 0 (by decide) (by decide)
  refine ⟨⟨X, a.all (e 0 (by omega)) (fun i _ => er _ _ (by decide) (by decide)) (fun r i h1 h2 => er r i (by omega) h2), b⟩, c.all er, d.rest ⟨ce_k e0, ce_R e0⟩ (fun j _ => by rw [ce_I e0]) (fun a ha => e a ?_)⟩
  unfold nm at ha
  omega
theorem MP.f2 {h h' : Hp} {S : SV} (H : MP h (nm 1 0) (nm 1) S) (hM : MF h' (nm 1 0) (nm 1)) (h1 : h_I h' (nm 1 0) 1 = h_I h (nm 1 0) 1) (h2 : h_I h' (nm 1 0) 2 = h_I h (nm 1 0) 2) (hr : ∀ i, 3 ≤ i → i ≤ 10 → ce h' (nm 1 i) = ce h (nm 1 i)) : MP h' (nm 1 0) (nm 1) S := by
  obtain ⟨-, e1, e2, e3, e4, e5, e6, e7, e8, e9, e10⟩ := H
  exact ⟨hM, h1.trans e1, h2.trans e2, fun j => by rw [ce_I (hr 3 (by decide) (by decide))]; exact e3 j, fun j => by rw [ce_I (hr 4 (by decide) (by decide))]; exact e4 j, fun j => by rw [ce_I (hr 5 (by decide) (by decide))]; exact e5 j, fun j => by rw [ce_I (hr 6 (by decide) (by decide))]; exact e6 j, fun j => by rw [ce_I (hr 7 (by decide) (by decide))]; exact e7 j, fun j => by rw [ce_I (hr 8 (by decide) (by decide))]; exact e8 j, fun j => by rw [ce_I (hr 9 (by decide) (by decide))]; exact e9 j, fun j => by rw [ce_I (hr 10 (by decide) (by decide))]; exact e10 j⟩
theorem MSQ.f2 (H : MSQ h n x) (hM : MF h' (nm 1 0) (nm 1)) (h0 : ce h' 0 = ce h 0) (h11 : ce h' (nm 1 11) = ce h (nm 1 11)) (h22 : ∀ k, h_k h (nm 22 k) ≠ 0 → ce h' (nm 22 k) = ce h (nm 22 k)) (hr : ∀ r i, r = 2 ∨ r = 3 ∨ r = 26 ∨ r = 31 → ce h' (nm r i) = ce h (nm r i)) : MSQ h' n x :=
  ⟨hM, H.2.1.frm h0 h11 (fun z => hr _ _ (by decide)),
    fun s hs => ⟨(H.2.2.1 s hs).1.frm (hr _ _ (by decide)), (H.2.2.1 s hs).2.frm h0 (hr _ _ (by decide)) (fun z => hr _ _ (by decide)) h22⟩,
    H.2.2.2.1.fr (fun i _ => hr _ _ (by decide)), H.2.2.2.2.1.fr (fun i _ => hr _ _ (by decide)), H.2.2.2.2.2.fr (fun i _ _ z => hr _ _ (by decide))⟩
theorem MR.f2 {S : RS} (H : MR h S) (hM : MF h' (nm 1 0) (nm 1)) (hn : h_n h' (nm 1 17) = h_n h (nm 1 17)) (hq : h_R h' (nm 1 17) = h_R h (nm 1 17)) (hmo : h_I h' (nm 1 0) 15 = h_I h (nm 1 0) 15) (hbg : h_I h' (nm 1 0) 16 = h_I h (nm 1 0) 16) (h0 : ce h' 0 = ce h 0) (h22 : ∀ k, h_k h (nm 22 k) ≠ 0 → ce h' (nm 22 k) = ce h (nm 22 k))
    (h1 : ce h' (nm 1 13) = ce h (nm 1 13)) (h2 : ce h' (nm 1 18) = ce h (nm 1 18)) (h3 : ce h' (nm 1 14) = ce h (nm 1 14)) (hr : ∀ r i, 4 ≤ r → r ≤ 14 → ce h' (nm r i) = ce h (nm r i)) (hr2 : ∀ r i, 23 ≤ r → r ≤ 29 → r ≠ 26 → ce h' (nm r i) = ce h (nm r i)) : MR h' S := by
  refine ⟨⟨hM, hn.trans H.tn, fun t ht => by rw [hq]; exact H.tr ht, hmo.trans H.mo, hbg.trans H.bg⟩, ⟨H.rl.frm h0 h1 (fun z => hr2 _ _ (by decide) (by decide) (by decide)), fun r hr' => (H.r hr').frm (hr _ _ (by decide) (by decide)) (hr _ _ (by decide) (by decide)) (fun z => hr2 _ _ (by decide) (by decide) (by decide)) h0 h22, H.2.1.2.2.1.fr (fun _ _ => hr _ _ (by decide) (by decide)), H.2.1.2.2.2.1.fr (fun _ _ => hr _ _ (by decide) (by decide)), H.2.1.2.2.2.2.fr (fun _ _ _ _ => hr2 _ _ (by decide) (by decide) (by decide))⟩,
    ⟨H.al.frm h0 h2 (fun z => hr2 _ _ (by decide) (by decide) (by decide)), fun r hr' => (H.a hr').frm (hr _ _ (by decide) (by decide)) (hr _ _ (by decide) (by decide)) (fun z => hr2 _ _ (by decide) (by decide) (by decide)) h0 h22, H.2.2.1.2.2.1.fr (fun _ _ => hr _ _ (by decide) (by decide)), H.2.2.1.2.2.2.1.fr (fun _ _ => hr _ _ (by decide) (by decide)), H.2.2.1.2.2.2.2.fr (fun _ _ _ _ => hr2 _ _ (by decide) (by decide) (by decide))⟩,
    fun t ht => (H.t ht).frm (hr _ _ (by decide) (by decide)) (hr _ _ (by decide) (by decide)) (hr _ _ (by decide) (by decide)) (hr _ _ (by decide) (by decide)) (hr _ _ (by decide) (by decide)) (hr _ _ (by decide) (by decide)) (hr _ _ (by decide) (by decide)) (fun z => hr2 _ _ (by decide) (by decide) (by decide)) h0 h22, H.lg.frm h0 h3 (fun z => hr2 _ _ (by decide) (by decide) (by decide)) h22⟩
theorem PO2.f2 (H : PO2 h) (h1 : ∀ k, ce h' (nm 22 k) = ce h (nm 22 k)) (h2 : ∀ k, ce h' (nm 30 k) = ce h (nm 30 k)) : PO2 h' := ⟨H.1.elim fun K z => ⟨K, z.fr (fun i _ => h1 i)⟩, H.2.elim fun K z => ⟨K, z.fr (fun i _ => h2 i)⟩⟩
theorem MDL.fr (H : MDL h V n x R) (e : ∀ a, a % 128 ≤ 31 ∨ a % 128 = 72 → ce h' a = ce h a) : MDL h' V n x R := by
  obtain ⟨a, b, c, d, K, f⟩ := H
  have er : ∀ r i, r ≤ 31 ∨ r = 72 → ce h' (nm r i) = ce h (nm r i) := fun r i h1 => e _ (by unfold nm; omega)
  have hM : MF h' (nm 1 0) (nm 1) := a.1.fr (ce_k (er 1 0 (by decide))) (ce_R (er 1 0 (by decide))) (fun i _ _ => ⟨ce_k (er 1 i (by decide)), ce_n (er 1 i (by decide))⟩)
  have e1 := er 1 0 (by decide)
  exact ⟨a.f2 hM (by rw [ce_I e1]) (by rw [ce_I e1]) (fun i _ _ => er _ _ (by decide)), b.f2 hM (e 0 (by decide)) (er _ _ (by decide)) (fun k _ => er _ _ (by decide)) (fun r i hr => er _ _ (by omega)),
    c.f2 hM (ce_n (er _ _ (by decide))) (ce_R (er _ _ (by decide))) (by rw [ce_I e1]) (by rw [ce_I e1]) (e 0 (by decide)) (fun k _ => er _ _ (by decide)) (er _ _ (by decide)) (er _ _ (by decide)) (er _ _ (by decide)) (fun r i _ _ => er _ _ (by omega)) (fun r i _ _ _ => er _ _ (by omega)),
    d.f2 (fun k => er _ _ (by decide)) (fun k => er _ _ (by decide)), K, f.fr (fun i _ => er _ _ (by decide))⟩
/-- the model's calls about references -/
theorem MDL.ofR (H : MDL h V n x R) (F : FRR h h') (hR : MR h' R') (hP : PO2 h') : MDL h' V n x R' ∧ FG h h' := by
  obtain ⟨a, b, c, d, K, f⟩ := H
  have er : ∀ r i, r < 128 → ¬ WRR (nm r i) → ce h' (nm r i) = ce h (nm r i) := fun r i _ h1 => F.1 _ h1
  refine ⟨⟨a.f2 hR.mf (F.2.2.2 1 (by decide) (by decide) (by decide)) (F.2.2.2 2 (by decide) (by decide) (by decide)) (fun i h1 h2 => er _ _ (by decide) (by unfold WRR nm; omega)), b.f2 hR.mf (F.1 0 (by unfold WRR nm; omega)) (er _ _ (by decide) (by unfold WRR nm; omega)) F.2.1 (fun r i hr => er _ _ (by omega) (by unfold WRR nm; omega)), hR, hP, K, f.fr (fun i _ => er _ _ (by decide) (by unfold WRR nm; omega))⟩, fun a ha => F.1 a (by unfold WRR nm; omega)⟩
/-- .. about values -/
theorem MDL.ofV (H : MDL h V n x R) (e : IB h h' (mW (nm 1 0) (nm 1))) (hV : MP h' (nm 1 0) (nm 1) V') : MDL h' V' n x R ∧ FG h h' := by
  obtain ⟨a, b, c, d, K, f⟩ := H
  have er : ∀ r i, r < 128 → (r ≠ 1 ∨ 10 < i) → ce h' (nm r i) = ce h (nm r i) := fun r i h1 h2 => e.ce (fun j => mW_no h1 h2)
  have e0 : ce h' 0 = ce h 0 := er 0 0 (by decide) (by decide)
  refine ⟨⟨hV, b.ib e, c.f2 hV.1 (ce_n (er _ _ (by decide) (by decide))) (ce_R (er _ _ (by decide) (by decide))) (e.2.2.2.2.2 _ _ ?_) (e.2.2.2.2.2 _ _ ?_) e0 (fun k _ => er _ _ (by decide) (by omega)) (er _ _ (by decide) (by decide)) (er _ _ (by decide) (by decide)) (er _ _ (by decide) (by decide)) (fun r i _ _ => er _ _ (by omega) (by omega)) (fun r i _ _ _ => er _ _ (by omega) (by omega)), d.ib e, K, f.fr (fun i _ => er _ _ (by decide) (by omega))⟩, fun a ha => e.ce (fun j => ?_)⟩
  · rintro (⟨-, h1⟩ | ⟨i, h1, h2, h3⟩)
    · omega
    · unfold nm at h3; omega
  · rintro (⟨-, h1⟩ | ⟨i, h1, h2, h3⟩)
    · omega
    · unfold nm at h3; omega
  · rintro (⟨h1, -⟩ | ⟨i, h1, h2, h3⟩)
    · unfold nm at h1; omega
    · unfold nm at h3; omega
/-- .. about sequences -/
theorem MDL.ofQ (H : MDL h V n x R) (F : FRS h h') (hM : MSQ h' n' x') (hP : PO2 h') : MDL h' V n' x' R ∧ FG h h' := by
  obtain ⟨a, b, c, d, K, f⟩ := H
  have er : ∀ r i, r < 128 → ¬ WSQ (nm r i) → ce h' (nm r i) = ce h (nm r i) := fun r i _ h1 => F.1 _ h1
  refine ⟨⟨a.fs hM F, hM, c.f2 hM.1 (ce_n (er _ _ (by decide) (by unfold WSQ nm; omega))) (ce_R (er _ _ (by decide) (by unfold WSQ nm; omega))) (F.2.2.2 15 (by decide)) (F.2.2.2 16 (by decide)) (F.1 0 (by unfold WSQ nm; omega)) F.2.1 (er _ _ (by decide) (by unfold WSQ nm; omega)) (er _ _ (by decide) (by unfold WSQ nm; omega)) (er _ _ (by decide) (by unfold WSQ nm; omega)) (fun r i _ _ => er _ _ (by omega) (by unfold WSQ nm; omega)) (fun r i _ _ _ => er _ _ (by omega) (by unfold WSQ nm; omega)), hP, K, f.fr (fun i _ => er _ _ (by decide) (by unfold WSQ nm; omega))⟩, fun a ha => F.1 a (by unfold WSQ nm; omega)⟩
/-- collect -/
theorem MDL.ofC (H : MDL h V n x R) (F : WCF h h') (hV : MP h' (nm 1 0) (nm 1) V') (hM : MSQ h' n' x') (hP : PO2 h') : MDL h' V' n' x' R ∧ FG h h' := by
  obtain ⟨a, b, c, d, K, f⟩ := H
  have er : ∀ r i, r < 128 → ¬ WSQ (nm r i) → (r ≠ 1 ∨ 10 < i) → ce h' (nm r i) = ce h (nm r i) := fun r i h0 h1 h2 => F.1 _ h1 (fun j => mW_no h0 h2)
  refine ⟨⟨hV, hM, c.f2 hM.1 (ce_n (er _ _ (by decide) (by unfold WSQ nm; omega) (by decide))) (ce_R (er _ _ (by decide) (by unfold WSQ nm; omega) (by decide))) (F.2.2.2 15 (by decide)) (F.2.2.2 16 (by decide)) (er 0 0 (by decide) (by unfold WSQ nm; omega) (by decide)) F.2.1 (er _ _ (by decide) (by unfold WSQ nm; omega) (by decide)) (er _ _ (by decide) (by unfold WSQ nm; omega) (by decide)) (er _ _ (by decide) (by unfold WSQ nm; omega) (by decide)) (fun r i _ _ => er _ _ (by omega) (by unfold WSQ nm; omega) (by omega)) (fun r i _ _ _ => er _ _ (by omega) (by unfold WSQ nm; omega) (by omega)), hP, K, f.fr (fun i _ => er _ _ (by decide) (by unfold WSQ nm; omega) (by omega))⟩, fun a ha => F.1 a (by unfold WSQ nm; omega) (fun j => ?_)⟩
  rintro (⟨h1, -⟩ | ⟨i, h1, h2, h3⟩)
  · unfold nm at h1; omega
  · unfold nm at h3; omega
/-- sharing: a row is made and left -/
theorem MDL.ofS {K : Nat} {c : Int32} (H : MDL h V n x R) (fK : FreeI h 72 K) (F : ∀ a, a ≠ nm 72 K → ce h' a = ce (wI h (nm 1 0) 0 c) a) (hV : MP h' (nm 1 0) (nm 1) V) : MDL h' V n x R ∧ FG h h' := by
  obtain ⟨a, b, c9, d, -, -⟩ := H
  have er : ∀ a, a ≠ nm 72 K → a ≠ nm 1 0 → ce h' a = ce h a := fun a h1 h2 => (F a h1).trans (ce_wI h2)
  have en : ∀ r i, r < 128 → r ≠ 72 → (r ≠ 1 ∨ i ≠ 0) → ce h' (nm r i) = ce h (nm r i) := fun r i h0 h1 h2 => er _ (by unfold nm; omega) (by unfold nm; omega)
  have e1 : ∀ j, j ≠ 0 → h_I h' (nm 1 0) j = h_I h (nm 1 0) j := fun j hj => by rw [ce_I (F (nm 1 0) (by unfold nm; omega))]; exact gI_wI.trans (if_neg (fun z => hj z.2))
  refine ⟨⟨hV, b.f2 hV.1 (en 0 0 (by decide) (by decide) (by decide)) (en _ _ (by decide) (by decide) (by omega)) (fun k _ => en _ _ (by decide) (by decide) (by omega)) (fun r i hr => en _ _ (by omega) (by omega) (by omega)),
    c9.f2 hV.1 (ce_n (en _ _ (by decide) (by decide) (by omega))) (ce_R (en _ _ (by decide) (by decide) (by omega))) (e1 15 (by decide)) (e1 16 (by decide)) (en 0 0 (by decide) (by decide) (by decide)) (fun k _ => en _ _ (by decide) (by decide) (by omega)) (en _ _ (by decide) (by decide) (by omega)) (en _ _ (by decide) (by decide) (by omega)) (en _ _ (by decide) (by decide) (by omega)) (fun r i _ _ => en _ _ (by omega) (by omega) (by omega)) (fun r i _ _ _ => en _ _ (by omega) (by omega) (by omega)),
    d.f2 (fun k => en _ _ (by decide) (by decide) (by omega)) (fun k => en _ _ (by decide) (by decide) (by omega)), K + 1, fun i hi => ?_⟩, fun a ha => er a (by unfold nm; omega) (by unfold nm; omega)⟩
  have := er (nm 72 i) (by unfold nm; omega) (by unfold nm; omega)
  exact (ce_k this).trans (fK i (by omega))
end FRM
/-- a truth value as the law writes it -/
def zL (a : Int32) : Int64 := if a = 0 then 0 else 1
/-- what the law's helper owes: the code, the answer in its row, the class's new state -/
def HQ (Q : Pst) (h : Hp) (cd : Int32) (w : Int64) (M : Nat) (V' : SV) (n' : Nat) (x' : Nat → QIS) (R' : RS) : Prop :=
  ∀ h' M', M ≤ M' → M' ≤ M + 1 → CLS h' V' M' n' x' R' → FC h h' → (h_k h' (nm 70 0) = 104 ∧ h_n h' (nm 70 0) = 1) → (cd = nI 0 → h_L h' (nm 70 0) 0 = w) → Q (oRet (vi cd)) h'
section HQS
variable {Q : Pst} {h h' : Hp} {cd : Int32} {w : Int64} {M M' : Nat} {V' : SV} {n' : Nat} {x' : Nat → QIS} {R' : RS}
theorem nI_ne9 {i : Nat} (hi : i < 9) : ¬ nI (i + 1) = nI 0 := by
  have : i = 0 ∨ i = 1 ∨ i = 2 ∨ i = 3 ∨ i = 4 ∨ i = 5 ∨ i = 6 ∨ i = 7 ∨ i = 8 := by omega
  rcases this with e | e | e | e | e | e | e | e | e <;> subst e <;> decide
theorem HQ.thr (hq : HQ Q h cd w M V' n' x' R') {i : Nat} (h1 : cd = nI (i + 1)) (hi : i < 9) (h2 : M ≤ M') (h3 : M' ≤ M + 1) (C : CLS h' V' M' n' x' R') (F : FK h h') (O : h_k h (nm 70 0) = 104 ∧ h_n h (nm 70 0) = 1) : Q (oRet (vi (nI (i + 1)))) h' := by
  have e := F (nm 70 0) (by unfold nm; omega)
  have := hq h' M' h2 h3 C F.fc ⟨(ce_k e).trans O.1, (ce_n e).trans O.2⟩ (fun z => absurd (h1.symm.trans z) (nI_ne9 hi))
  rwa [h1] at this
theorem HQ.ret (hq : HQ Q h cd w M V' n' x' R') (h1 : cd = nI 0) (h2 : M ≤ M') (h3 : M' ≤ M + 1) (C : CLS h' V' M' n' x' R') (F : FK h h') (O : h_k h (nm 70 0) = 104 ∧ h_n h (nm 70 0) = 1) : Q (oRet (vi (nI 0))) (wL h' (nm 70 0) 0 w) := by
  have e := F (nm 70 0) (by unfold nm; omega)
  have e2 : ∀ a, a ≠ nm 70 0 → ce (wL h' (nm 70 0) 0 w) a = ce h' a := fun a ha => by
    show (h_k h' a, h_n h' a, h_I h' a, h_R h' a, up2 (h_L h') (nm 70 0) 0 w a, h_F h' a) = _
    rw [nu_ne ha]
  have := hq (wL h' (nm 70 0) 0 w) M' h2 h3 (C.fr (fun a ha => e2 a (by unfold nm; omega))) (fun a ha => (e2 a (by unfold nm; omega)).trans (F a (by omega))) ⟨(ce_k e).trans O.1, (ce_n e).trans O.2⟩ (fun _ => gL_wL.trans (if_pos ⟨rfl, rfl⟩))
  rwa [h1] at this
end HQS
