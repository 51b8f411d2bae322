/-! The model: transactions, their helpers. -/
def WRR (a : Nat) : Prop := a = nm 1 0 ∨ (4 ≤ a % 128 ∧ a % 128 ≤ 14) ∨ (22 ≤ a % 128 ∧ a % 128 ≤ 30 ∧ a % 128 ≠ 26) ∨ a = nm 1 13 ∨ a = nm 1 14 ∨ a = nm 1 18
/-- what the second half of the model may change -/
def FRR (h h' : Hp) : Prop := (∀ a, ¬ WRR a → ce h' a = ce h a) ∧ (∀ k, h_k h (nm 22 k) ≠ 0 → ce h' (nm 22 k) = ce h (nm 22 k)) ∧ (h_k h' (nm 1 0) = h_k h (nm 1 0) ∧ h_n h' (nm 1 0) = h_n h (nm 1 0) ∧ h_R h' (nm 1 0) = h_R h (nm 1 0) ∧ h_L h' (nm 1 0) = h_L h (nm 1 0) ∧ h_F h' (nm 1 0) = h_F h (nm 1 0)) ∧ ∀ j, j ≠ 0 → j ≠ 15 → j ≠ 16 → h_I h' (nm 1 0) j = h_I h (nm 1 0) j
theorem FRR.rf {h : Hp} : FRR h h := ⟨fun _ _ => rfl, fun _ _ => rfl, ⟨rfl, rfl, rfl, rfl, rfl⟩, fun _ _ _ _ => rfl⟩
theorem FRR.tr {h h1 h2 : Hp} (a : FRR h h1) (b : FRR h1 h2) : FRR h h2 :=
  ⟨fun x hx => (b.1 x hx).trans (a.1 x hx), fun k hk => (b.2.1 k (by rw [ce_k (a.2.1 k hk)]; exact hk)).trans (a.2.1 k hk), ⟨b.2.2.1.1.trans a.2.2.1.1, b.2.2.1.2.1.trans a.2.2.1.2.1, b.2.2.1.2.2.1.trans a.2.2.1.2.2.1, b.2.2.1.2.2.2.1.trans a.2.2.1.2.2.2.1, b.2.2.1.2.2.2.2.trans a.2.2.1.2.2.2.2⟩, fun j h1 h2 h3 => (b.2.2.2 j h1 h2 h3).trans (a.2.2.2 j h1 h2 h3)⟩
theorem FRR.m {h : Hp} {k : Nat} {x : Int32} (hk : k = 0 ∨ k = 15 ∨ k = 16) : FRR h (wI h (nm 1 0) k x) :=
  ⟨fun a ha => ce_wI (fun e => ha (Or.inl e)), fun j _ => ce_wI (nm_ne (by decide) (by decide) (by decide)), ⟨rfl, rfl, rfl, rfl, rfl⟩, fun j h1 h2 h3 => by rw [gI_wI, if_neg (fun z => by omega)]⟩
theorem FRR.w0 {h : Hp} {x : Int32} : FRR h (wI h (nm 1 0) 0 x) := FRR.m (Or.inl rfl)
theorem FRR.w15 {h : Hp} {x : Int32} : FRR h (wI h (nm 1 0) 15 x) := FRR.m (Or.inr (Or.inl rfl))
theorem FRR.w16 {h : Hp} {x : Int32} : FRR h (wI h (nm 1 0) 16 x) := FRR.m (Or.inr (Or.inr rfl))
theorem FRR.fr {h h' : Hp} {W : Nat → Prop} (hF : Fr h h' W) (hW : ∀ a, W a → WRR a) (h1 : ¬ W (nm 1 0)) (h2 : ∀ k, ¬ W (nm 22 k)) : FRR h h' :=
  ⟨fun a ha => hF a (fun z => ha (hW a z)), fun k _ => hF _ (h2 k), ⟨ce_k (hF _ h1), ce_n (hF _ h1), ce_R (hF _ h1), ce_L (hF _ h1), ce_F (hF _ h1)⟩, fun j _ _ _ => by rw [ce_I (hF _ h1)]⟩
theorem FRR.oT {h h' : Hp} {t : Nat} (hF : Fr h h' (WT t)) : FRR h h' := FRR.fr hF (fun a ha => by unfold WT at ha; unfold WRR; omega) (WT_n (by omega) (by decide)) (fun k => WT_n (by omega) (by decide))
theorem FRR.oR {h h' : Hp} {t : Nat} (hF : Fr h h' (WRf t)) : FRR h h' := FRR.fr hF (fun a ha => by unfold WRf at ha; unfold WRR; omega) (WRf_n (by omega) (by decide)) (fun k => WRf_n (by omega) (by decide))
theorem FRR.oA {h h' : Hp} {t : Nat} (hF : Fr h h' (WAg t)) : FRR h h' := FRR.fr hF (fun a ha => by unfold WAg at ha; unfold WRR; omega) (WAg_n (by omega) (by decide)) (fun k => WAg_n (by omega) (by decide))
theorem PO2.fr {h h' : Hp} {W : Nat → Prop} (H : PO2 h) (hF : Fr h h' W) (h1 : ∀ k, ¬ W (nm 22 k)) (h2 : ∀ k, ¬ W (nm 30 k)) : PO2 h' :=
  ⟨H.1.elim fun K z => ⟨K, z.fr (fun _ _ => hF _ (h1 _))⟩, H.2.elim fun K z => ⟨K, z.fr (fun _ _ => hF _ (h2 _))⟩⟩
theorem PO2.m {h : Hp} {a k : Nat} {x : Int32} (H : PO2 h) : PO2 (wI h a k x) := H
theorem PO2.oT {h h' : Hp} {t : Nat} (H : PO2 h) (hF : Fr h h' (WT t)) : PO2 h' := H.fr hF (fun k => WT_n (by omega) (by decide)) (fun k => WT_n (by omega) (by decide))
theorem PO2.oR {h h' : Hp} {t : Nat} (H : PO2 h) (hF : Fr h h' (WRf t)) : PO2 h' := H.fr hF (fun k => WRf_n (by omega) (by decide)) (fun k => WRf_n (by omega) (by decide))
theorem PO2.oA {h h' : Hp} {t : Nat} (H : PO2 h) (hF : Fr h h' (WAg t)) : PO2 h' := H.fr hF (fun k => WAg_n (by omega) (by decide)) (fun k => WAg_n (by omega) (by decide))
theorem OT.rfT {h : Hp} {t : Nat} {x : OTS} (_ : OT h t x) : Fr h h (WT t) := Fr.rf
theorem OR.rfR {h : Hp} {t : Nat} {x : ORS} (_ : OR h t x) : Fr h h (WRf t) := Fr.rf
theorem OA.rfA {h : Hp} {t : Nat} {x : OAS} (_ : OA h t x) : Fr h h (WAg t) := Fr.rf
theorem LNm.k {h : Hp} {l ρ i : Nat} {xs : List Int32} (H : LNm h l ρ i xs) : h_k h l = 3 := H.1.elim fun _ z => z.elim fun _ z => z.k
theorem ixB_3 (v : Int32) : inB v (nI 0) (nI 2) = ixB v 3 := rfl
theorem ixB_n (v : Int32) (n : Nat) : inB v (nI 0) (nI n - nI 1) = ixB v n := rfl
def fgB (k : Nat) (f : Nat → Bool) : Nat → Bool := fun j => if j < k then false else f j
def fgI (k : Nat) (f : Nat → Int32) : Nat → Int32 := fun j => if j < k then nI 0 else f j
def fgK (x : OTS) (k : Nat) : OTS := (OT_op x, OT_pt x, OT_ag x, OT_bk x, fgB k (OT_wr x), fgI k (OT_wn x), fgB k (OT_en x), fgB k (OT_ad x), fgI k (OT_sm x), OT_sq x)
/-- a transaction that has forgotten -/
abbrev fgt (x : OTS) : OTS := OT_usq (fgK x 6) []
theorem fgB_s {k : Nat} {f : Nat → Bool} : va_up (fgB k f) k false = fgB (k + 1) f := by
  funext j
  rw [va_up_app]
  unfold fgB
  by_cases e : j = k
  · rw [if_pos e, if_pos (by omega)]
  · rw [if_neg e]
    by_cases e2 : j < k
    · rw [if_pos e2, if_pos (by omega)]
    · rw [if_neg e2, if_neg (by omega)]
theorem fgI_s {k : Nat} {f : Nat → Int32} : va_up (fgI k f) k (nI 0) = fgI (k + 1) f := by
  funext j
  rw [va_up_app]
  unfold fgI
  by_cases e : j = k
  · rw [if_pos e, if_pos (by omega)]
  · rw [if_neg e]
    by_cases e2 : j < k
    · rw [if_pos e2, if_pos (by omega)]
    · rw [if_neg e2, if_neg (by omega)]
theorem fgB_0 {f : Nat → Bool} : fgB 0 f = f := by funext j; unfold fgB; rw [if_neg (by omega)]
theorem fgI_0 {f : Nat → Int32} : fgI 0 f = f := by funext j; unfold fgI; rw [if_neg (by omega)]
/-- a transaction that is sent back -/
abbrev sbk (x : OTS) (mo : Nat) : OTS := OT_ubk (OT_upt (fgt x) mo) (OT_bk x + 1)
