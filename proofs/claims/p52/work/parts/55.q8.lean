/-! The model: realising up to a place; at, all, realised, chunks. -/
def WSQ (a : Nat) : Prop := a % 128 = 2 ∨ a % 128 = 3 ∨ a % 128 = 22 ∨ a % 128 = 26 ∨ a % 128 = 30 ∨ a % 128 = 31 ∨ a = nm 1 0 ∨ a = nm 1 11 ∨ a = nm 1 12
/-- what calls about sequences may change -/
def FRS (h h' : Hp) : Prop := (∀ a, ¬ WSQ a → ce h' a = ce h a) ∧ (∀ k, h_k h (nm 22 k) ≠ 0 → ce h' (nm 22 k) = ce h (nm 22 k)) ∧ (h_k h' (nm 1 0) = h_k h (nm 1 0) ∧ h_n h' (nm 1 0) = h_n h (nm 1 0) ∧ h_R h' (nm 1 0) = h_R h (nm 1 0) ∧ h_L h' (nm 1 0) = h_L h (nm 1 0) ∧ h_F h' (nm 1 0) = h_F h (nm 1 0)) ∧ ∀ j, j ≠ 0 → h_I h' (nm 1 0) j = h_I h (nm 1 0) j
theorem FRS.rf {h : Hp} : FRS h h := ⟨fun _ _ => rfl, fun _ _ => rfl, ⟨rfl, rfl, rfl, rfl, rfl⟩, fun _ _ => rfl⟩
theorem FRS.tr {h h1 h2 : Hp} (a : FRS h h1) (b : FRS h1 h2) : FRS h h2 :=
  ⟨fun x hx => (b.1 x hx).trans (a.1 x hx), fun k hk => (b.2.1 k (by rw [ce_k (a.2.1 k hk)]; exact hk)).trans (a.2.1 k hk), ⟨b.2.2.1.1.trans a.2.2.1.1, b.2.2.1.2.1.trans a.2.2.1.2.1, b.2.2.1.2.2.1.trans a.2.2.1.2.2.1, b.2.2.1.2.2.2.1.trans a.2.2.1.2.2.2.1, b.2.2.1.2.2.2.2.trans a.2.2.1.2.2.2.2⟩, fun j h1 => (b.2.2.2 j h1).trans (a.2.2.2 j h1)⟩
theorem FRS.w0 {h : Hp} {v : Int32} : FRS h (wI h (nm 1 0) 0 v) :=
  ⟨fun a ha => ce_wI (fun e => ha (by rw [e]; unfold WSQ; omega)), fun j _ => ce_wI (nm_ne (by decide) (by decide) (by decide)), ⟨rfl, rfl, rfl, rfl, rfl⟩, fun j h1 => by rw [gI_wI, if_neg (fun z => h1 z.2)]⟩
theorem FRS.of {h h' : Hp} (h0 : ce h' (nm 1 0) = ce h (nm 1 0)) (ha : ∀ a, ¬ WSQ a → ce h' a = ce h a) (hb : ∀ k, h_k h (nm 22 k) ≠ 0 → ce h' (nm 22 k) = ce h (nm 22 k)) : FRS h h' :=
  ⟨ha, hb, ⟨ce_k h0, ce_n h0, ce_R h0, ce_L h0, ce_F h0⟩, fun j _ => by rw [ce_I h0]⟩
theorem FRS.q {h h' : Hp} (H : FRQ h h') : FRS h h' := FRS.of (H.1 _ (by unfold WQQ nm; omega)) (fun a ha => H.1 a (fun z => ha (by unfold WQQ at z; unfold WSQ; omega))) H.2
theorem FRS.k12 {h h' : Hp} (H : ∀ b, b ≠ nm 1 12 → ce h' b = ce h b) : FRS h h' := FRS.of (H _ (nm_nei (by decide))) (fun a ha => H a (fun e => ha (by rw [e]; unfold WSQ; omega))) (fun k _ => H _ (nm_ne (by decide) (by decide) (by decide)))
theorem FRQ.th {h h' : Hp} (H : FRQ h h') : h_I h' (nm 1 0) 0 = h_I h (nm 1 0) 0 := by rw [ce_I (H.1 _ (by unfold WQQ nm; omega))]
theorem k12_th {h h' : Hp} (H : ∀ b, b ≠ nm 1 12 → ce h' b = ce h b) : h_I h' (nm 1 0) 0 = h_I h (nm 1 0) 0 := by rw [ce_I (H _ (nm_nei (by decide)))]
theorem PO2.k12 {h h' : Hp} (P : PO2 h) (H : ∀ b, b ≠ nm 1 12 → ce h' b = ce h b) : PO2 h' :=
  ⟨P.1.elim fun K z => ⟨K, z.fr (fun _ _ => H _ (nm_ne (by decide) (by decide) (by decide)))⟩, P.2.elim fun K z => ⟨K, z.fr (fun _ _ => H _ (nm_ne (by decide) (by decide) (by decide)))⟩⟩
abbrev rcx (x : Nat → QIS) : Nat → Nat := fun j => q_rc (x j)
/-- sequences as they are between two calls -/
def QX (n : Nat) (x : Nat → QIS) : Prop := QOK n x ∧ QV n x (rcx x) ∧ ∀ s, s < n → cp (q_rc (x s)) ≤ q_cp (x s)
theorem QX.st {h : Hp} {n : Nat} {x : Nat → QIS} (H : QX n x) (hM : MSQ h n x) : MSQ h n (setR x (rcx x)) :=
  hM.eq (fun s hs => by unfold setR capR; rw [Nat.max_eq_left (H.2.2 s hs)])
/-- what an operation on sequences answers -/
def QO (Q : Pst) (h : Hp) (o : Int32 × Int32 × Nat × (Nat → QIS)) : Prop := ∀ h', FRS h h' → h_I h' (nm 1 0) 0 = o.1 → MSQ h' o.2.2.1 o.2.2.2 → PO2 h' → Q (oRet (vi o.2.1)) h'
def atR (x : Nat → QIS) (s : Nat) (v : Int32) (p : Nat) : Nat → Nat := if v < 0 ∨ tot (q_F (x s)) ≤ p then enR x s (rcx x) else rs0 x (s + 1) s (cf (q_F (x s)) p) (rcx x)
def o_at (n : Nat) (x : Nat → QIS) (u : Int32) (s : Nat) (v : Int32) (p : Nat) : Int32 × Int32 × Nat × (Nat → QIS) :=
  if (!ixB u n) = true then (nI 1, nI 0, n, x) else if v < 0 ∨ tot (q_F (x s)) ≤ p then (if q_B (x s) = true then nI 2 else nI 3, nI 0, n, gst x (rcx x) (capR x (enR x s (rcx x))))
  else (nI 0, atF (q_F (x s)) p, n, setR x (rs0 x (s + 1) s (cf (q_F (x s)) p) (rcx x)))
def o_all (n : Nat) (x : Nat → QIS) (u : Int32) (s : Nat) : Int32 × Int32 × Nat × (Nat → QIS) :=
  if (!ixB u n) = true then (nI 1, nI 0, n, x) else if q_B (x s) = true then (nI 2, nI 0, n, gst x (rcx x) (capR x (enR x s (rcx x))))
  else (nI 0, nI (tot (q_F (x s))), n, setR x (enR x s (rcx x)))
def o_realised (n : Nat) (x : Nat → QIS) (u : Int32) (s : Nat) : Int32 × Int32 × Nat × (Nat → QIS) :=
  if (!ixB u n) = true then (nI 1, nI 0, n, x) else (nI 0, nI (pre (q_F (x s)) (q_rc (x s))), n, x)
def o_chunks (n : Nat) (x : Nat → QIS) (u : Int32) (s : Nat) : Int32 × Int32 × Nat × (Nat → QIS) :=
  if (!ixB u n) = true then (nI 1, nI 0, n, x) else (nI 0, nI (q_rc (x s)), n, x)
