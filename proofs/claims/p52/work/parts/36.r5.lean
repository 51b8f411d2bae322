/-! The model: read, valueByLog. -/
theorem MR.it {h h' : Hp} {S : RS} {K : Nat} (H : MR h S) (hc : ∀ b, b ≠ nm 30 K → ce h' b = ce h b) : MR h' S :=
  H.all (MK.of (fun i _ => hc _ (nm_ne (by decide) (by decide) (by decide)))) (by rw [ce_I (hc _ (nm_ne (by decide) (by decide) (by decide)))]) (by rw [ce_I (hc _ (nm_ne (by decide) (by decide) (by decide)))]) (hc 0 (by unfold nm; omega)) (fun k _ => hc _ (nm_ne (by decide) (by decide) (by decide))) (hc _ (nm_ne (by decide) (by decide) (by decide))) (hc _ (nm_ne (by decide) (by decide) (by decide))) (hc _ (nm_ne (by decide) (by decide) (by decide))) (fun r i h1 h2 => hc _ (nm_ne (by omega) (by omega) (by decide))) (fun r i h1 h2 _ => hc _ (nm_ne (by omega) (by omega) (by decide)))
theorem FRR.it {h h' : Hp} {K : Nat} (hc : ∀ b, b ≠ nm 30 K → ce h' b = ce h b) : FRR h h' :=
  FRR.fr (W := fun b => b = nm 30 K) (fun a ha => hc a ha) (fun a ha => by rw [ha]; unfold WRR nm; omega) (by unfold nm; omega) (fun k => by unfold nm; omega)
/-- the pools, while the K-th iterator goes *)-/
def PI (h : Hp) (K : Nat) : Prop := (∃ K2, FreeI h 22 K2) ∧ FreeI h 30 (K + 1)
theorem PI.of {h h' : Hp} {K : Nat} (H : PO2 h) (hK : FreeI h 30 K) (hc : ∀ b, b ≠ nm 30 K → ce h' b = ce h b) : PI h' K :=
  ⟨H.1.elim fun K2 z => ⟨K2, z.fr (fun _ _ => hc _ (nm_ne (by decide) (by decide) (by decide)))⟩, fun i hi => (ce_k (hc _ (nm_nei (by omega)))).trans (hK i (by omega))⟩
theorem PI.it {h h' : Hp} {K : Nat} (H : PI h K) (hc : ∀ b, b ≠ nm 30 K → ce h' b = ce h b) : PI h' K :=
  ⟨H.1.elim fun K2 z => ⟨K2, z.fr (fun _ _ => hc _ (nm_ne (by decide) (by decide) (by decide)))⟩, fun i hi => (ce_k (hc _ (nm_nei (by omega)))).trans (H.2 i hi)⟩
theorem PI.po {h : Hp} {K : Nat} (H : PI h K) : PO2 h := ⟨H.1, _, H.2⟩
theorem th_it {h h' : Hp} {K : Nat} (hc : ∀ b, b ≠ nm 30 K → ce h' b = ce h b) : h_I h' (nm 1 0) 0 = h_I h (nm 1 0) 0 := by rw [ce_I (hc _ (nm_ne (by decide) (by decide) (by decide)))]
/-- the newest value that a point may read: whether there is one, and it -/
def rdF (pt : Nat) : List (Nat × Int32) → Bool × Int32 → Bool × Int32
  | [], a => a
  | q :: l, a => rdF pt l (if q.1 ≤ pt then (true, q.2) else a)
theorem getD_cons {α : Type} {l : List α} {c : Nat} (hc : c < l.length) (z : α) : l.drop c = l.getD c z :: l.drop (c + 1) := by
  rw [List.drop_eq_getElem_cons hc]
  congr 1
  simp [List.getD, List.getElem?_eq_getElem hc]
theorem getD_mem {α : Type} {l : List α} {c : Nat} (hc : c < l.length) (z : α) : l.getD c z ∈ l := by
  have : l.getD c z = l[c] := by simp [List.getD, List.getElem?_eq_getElem hc]
  rw [this]; exact List.getElem_mem hc
theorem rdF_step {pt c : Nat} {l : List (Nat × Int32)} {a : Bool × Int32} (hc : c < l.length) : rdF pt (l.drop c) a = rdF pt (l.drop (c + 1)) (if (l.getD c (0, 0)).1 ≤ pt then (true, (l.getD c (0, 0)).2) else a) := by
  rw [getD_cons hc (0, 0)]; rfl
def vbF (r : Nat) : List (Nat × Nat × Int32 × Int32) → Int32 → Int32
  | [], z => z
  | q :: l, z => vbF r l (if q.2.1 = r then q.2.2.2 else z)
theorem vbF_step {r c : Nat} {l : List (Nat × Nat × Int32 × Int32)} {z : Int32} (hc : c < l.length) : vbF r (l.drop c) z = vbF r (l.drop (c + 1)) (if (l.getD c (0, 0, 0, 0)).2.1 = r then (l.getD c (0, 0, 0, 0)).2.2.2 else z) := by
  rw [getD_cons hc (0, 0, 0, 0)]; rfl
def o_read (S : RS) (v : Int32) (t : Nat) (u : Int32) (r : Nat) : Int32 × Int32 × RS :=
  if (!ixB v 3) = true then (nI 1, nI 0, S) else if (!ixB u (RS_rn S)) = true then (nI 2, nI 0, S) else if (!OT_op (RS_tt S t)) = true then (nI 3, nI 0, S)
  else if OT_wr (RS_tt S t) r = true then (nI 0, OT_wn (RS_tt S t) r, S)
  else if (rdF (OT_pt (RS_tt S t)) (OR_hs (RS_rr S r)) (false, nI 0)).1 = true then (nI 0, (rdF (OT_pt (RS_tt S t)) (OR_hs (RS_rr S r)) (false, nI 0)).2 + OT_sm (RS_tt S t) r, S)
  else (nI 0, (-10000), RS_utt1 (RS_urr1 S r (OR_ulim (RS_rr S r) (OR_lim (RS_rr S r) + if OR_lim (RS_rr S r) < 8 then 1 else 0))) t (sbk (RS_tt S t) (RS_mo S)))
def o_valueByLog (S : RS) (u : Int32) (r : Nat) : Int32 × Int32 × RS :=
  if (!ixB u (RS_rn S)) = true then (nI 1, nI 0, S) else (nI 0, vbF r (RS_lg S) (OR_fst (RS_rr S r)), S)
