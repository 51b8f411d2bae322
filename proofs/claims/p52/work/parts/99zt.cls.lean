/-! Both sides in one heap: what stays where the other side, or the law, writes. -/
def FK (h h' : Hp) : Prop := ∀ a, ¬ (40 ≤ a % 128 ∧ a % 128 ≤ 69) → ce h' a = ce h a
theorem FK.rf {h : Hp} : FK h h := fun _ _ => rfl
theorem FK.tr {h h1 h2 : Hp} (a : FK h h1) (b : FK h1 h2) : FK h h2 := fun x hx => (b x hx).trans (a x hx)
theorem FRK.fk {h h' : Hp} (F : FRK h h') : FK h h' := fun a ha => F.1 a (by unfold WK nm; omega)
theorem FRKQ.fk {h h' : Hp} (F : FRKQ h h') : FK h h' := fun a ha => F.1 a (by unfold WKQ nm; omega)
theorem FRV.fk {h h' : Hp} (F : FRV h h') : FK h h' := fun a ha => F.1 a (by unfold WV nm; omega)
/-- the class's state in the heap -/
def CLS (h : Hp) (V : SV) (M n : Nat) (x : Nat → QIS) (R : RS) : Prop := (∃ X, CR h X ∧ SIM X R) ∧ CQR h n x ∧ CV h V M
section FRM
variable {h h' : Hp} {V V' : SV} {M n n' : Nat} {x x' : Nat → QIS} {R R' : RS}
theorem CQR.all (H : CQR h n x) (er : ∀ r i, 40 ≤ r → r ≤ 69 → ce h' (nm r i) = ce h (nm r i)) : CQR h' n x := by
  obtain ⟨⟨a1, a2, a3, a4, a5⟩, b, c, g1, g2, g3⟩ := H
  have e0 := er 40 0 (by decide) (by decide)
  have e4 := er 40 4 (by decide) (by decide)
  exact ⟨⟨(ce_k e0).trans a1, by rw [ce_R e0]; exact a2, by rw [ce_I e0]; exact a3, (ce_k e4).trans a4, (ce_n e4).trans a5⟩, fun s hs => by rw [ce_R e4]; exact b s hs, fun s hs => (c s hs).frm (er _ _ (by decide) (by decide)) (er _ _ (by decide) (by decide)) (er _ _ (by decide) (by decide)),
    g1.fr (fun i _ => er _ _ (by decide) (by decide)), g2.fr (fun i _ => er _ _ (by decide) (by decide)), g3.fr (fun i _ => er _ _ (by decide) (by decide))⟩
theorem CLS.fr (H : CLS h V M n x R) (e : ∀ a, a % 128 = 0 ∨ (40 ≤ a % 128 ∧ a % 128 ≤ 69) → ce h' a = ce h a) : CLS h' V M n x R := by
  obtain ⟨⟨X, a, b⟩, c, d⟩ := H
  have er : ∀ r i, 40 ≤ r → r ≤ 69 → ce h' (nm r i) = ce h (nm r i) := fun r i h1 h2 => e _ (by unfold nm; omega)
  have e0 := er 40 0 (by decide) (by decide)
  refine ⟨⟨X, a.all (e 0 (by omega)) (fun i _ => er _ _ (by decide) (by decide)) (fun r i h1 h2 => er r i (by omega) h2), b⟩, c.all er, d.rest ⟨ce_k e0, ce_R e0⟩ (fun j _ => by rw [ce_I e0]) (fun a ha => e a ?_)⟩
  unfold nm at ha
  omega
theorem MP.f2 {h h' : Hp} {S : SV} (H : MP h (nm 1 0) (nm 1) S) (hM : MF h' (nm 1 0) (nm 1)) (h1 : h_I h' (nm 1 0) 1 = h_I h (nm 1 0) 1) (h2 : h_I h' (nm 1 0) 2 = h_I h (nm 1 0) 2) (hr : ∀ i, 3 ≤ i → i ≤ 10 → ce h' (nm 1 i) = ce h (nm 1 i)) : MP h' (nm 1 0) (nm 1) S := by
  obtain ⟨-, e1, e2, e3, e4, e5, e6, e7, e8, e9, e10⟩ := H
  exact ⟨hM, h1.trans e1, h2.trans e2, fun j => by rw [ce_I (hr 3 (by decide) (by decide))]; exact e3 j, fun j => by rw [ce_I (hr 4 (by decide) (by decide))]; exact e4 j, fun j => by rw [ce_I (hr 5 (by decide) (by decide))]; exact e5 j, fun j => by rw [ce_I (hr 6 (by decide) (by decide))]; exact e6 j, fun j => by rw [ce_I (hr 7 (by decide) (by decide))]; exact e7 j, fun j => by rw [ce_I (hr 8 (by decide) (by decide))]; exact e8 j, fun j => by rw [ce_I (hr 9 (by decide) (by decide))]; exact e9 j, fun j => by rw [ce_I (hr 10 (by decide) (by decide))]; exact e10 j⟩
theorem MSQ.f2 (H : MSQ h n x) (hM : MF h' (nm 1 0) (nm 1)) (h0 : ce h' 0 = ce h 0) (h11 : ce h' (nm 1 11) = ce h (nm 1 11)) (h22 : ∀ k, h_k h (nm 22 k) ≠ 0 → ce h' (nm 22 k) = ce h (nm 22 k)) (hr : ∀ r i, r = 2 ∨ r = 3 ∨ r = 26 ∨ r = 31 → ce h' (nm r i) = ce h (nm r i)) : MSQ h' n x :=
  ⟨hM, H.2.1.frm h0 h11 (fun z => hr _ _ (by decide)),
    fun s hs => ⟨(H.2.2.1 s hs).1.frm (hr _ _ (by decide)), (H.2.2.1 s hs).2.frm h0 (hr _ _ (by decide)) (fun z => hr _ _ (by decide)) h22⟩,
    H.2.2.2.1.fr (fun i _ => hr _ _ (by decide)), H.2.2.2.2.1.fr (fun i _ => hr _ _ (by decide)), H.2.2.2.2.2.fr (fun i _ _ z => hr _ _ (by decide))⟩
theorem MR.f2 {S : RS} (H : MR h S) (hM : MF h' (nm 1 0) (nm 1)) (hn : h_n h' (nm 1 17) = h_n h (nm 1 17)) (hq : h_R h' (nm 1 17) = h_R h (nm 1 17)) (hmo : h_I h' (nm 1 0) 15 = h_I h (nm 1 0) 15) (hbg : h_I h' (nm 1 0) 16 = h_I h (nm 1 0) 16) (h0 : ce h' 0 = ce h 0) (h22 : ∀ k, h_k h (nm 22 k) ≠ 0 → ce h' (nm 22 k) = ce h (nm 22 k))
    (h1 : ce h' (nm 1 13) = ce h (nm 1 13)) (h2 : ce h' (nm 1 18) = ce h (nm 1 18)) (h3 : ce h' (nm 1 14) = ce h (nm 1 14)) (hr : ∀ r i, 4 ≤ r → r ≤ 14 → ce h' (nm r i) = ce h (nm r i)) (hr2 : ∀ r i, 23 ≤ r → r ≤ 29 → r ≠ 26 → ce h' (nm r i) = ce h (nm r i)) : MR h' S := by
  refine ⟨⟨hM, hn.trans H.tn, fun t ht => by rw [hq]; exact H.tr ht, hmo.trans H.mo, hbg.trans H.bg⟩, ⟨H.rl.frm h0 h1 (fun z => hr2 _ _ (by decide) (by decide) (by decide)), fun r hr' => (H.r hr').frm (hr _ _ (by decide) (by decide)) (hr _ _ (by decide) (by decide)) (fun z => hr2 _ _ (by decide) (by decide) (by decide)) h0 h22, H.2.1.2.2.1.fr (fun _ _ => hr _ _ (by decide) (by decide)), H.2.1.2.2.2.1.fr (fun _ _ => hr _ _ (by decide) (by decide)), H.2.1.2.2.2.2.fr (fun _ _ _ _ => hr2 _ _ (by decide) (by decide) (by decide))⟩,
    ⟨H.al.frm h0 h2 (fun z => hr2 _ _ (by decide) (by decide) (by decide)), fun r hr' => (H.a hr').frm (hr _ _ (by decide) (by decide)) (hr _ _ (by decide) (by decide)) (fun z => hr2 _ _ (by decide) (by decide) (by decide)) h0 h22, H.2.2.1.2.2.1.fr (fun _ _ => hr _ _ (by decide) (by decide)), H.2.2.1.2.2.2.1.fr (fun _ _ => hr _ _ (by decide) (by decide)), H.2.2.1.2.2.2.2.fr (fun _ _ _ _ => hr2 _ _ (by decide) (by decide) (by decide))⟩,
    fun t ht => (H.t ht).frm (hr _ _ (by decide) (by decide)) (hr _ _ (by decide) (by decide)) (hr _ _ (by decide) (by decide)) (hr _ _ (by decide) (by decide)) (hr _ _ (by decide) (by decide)) (hr _ _ (by decide) (by decide)) (hr _ _ (by decide) (by decide)) (fun z => hr2 _ _ (by decide) (by decide) (by decide)) h0 h22, H.lg.frm h0 h3 (fun z => hr2 _ _ (by decide) (by decide) (by decide)) h22⟩
theorem PO2.f2 (H : PO2 h) (h1 : ∀ k, ce h' (nm 22 k) = ce h (nm 22 k)) (h2 : ∀ k, ce h' (nm 30 k) = ce h (nm 30 k)) : PO2 h' := ⟨H.1.elim fun K z => ⟨K, z.fr (fun i _ => h1 i)⟩, H.2.elim fun K z => ⟨K, z.fr (fun i _ => h2 i)⟩⟩
end FRM
/-- a truth value as the law writes it -/
def zL (a : Int32) : Int64 := if a = 0 then 0 else 1
section HQS
variable {Q : Pst} {h h' : Hp} {cd : Int32} {w : Int64} {M M' : Nat} {V' : SV} {n' : Nat} {x' : Nat → QIS} {R' : RS}
theorem nI_ne9 {i : Nat} (hi : i < 9) : ¬ nI (i + 1) = nI 0 := by
  have : i = 0 ∨ i = 1 ∨ i = 2 ∨ i = 3 ∨ i = 4 ∨ i = 5 ∨ i = 6 ∨ i = 7 ∨ i = 8 := by omega
  rcases this with e | e | e | e | e | e | e | e | e <;> subst e <;> decide
end HQS
