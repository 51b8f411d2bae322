/-! The model: sequences on the heap. -/
/-- the model's sequences: n of them, x -/
def MSQ (h : Hp) (n : Nat) (x : Nat → QIS) : Prop :=
  MF h (nm 1 0) (nm 1) ∧ LOb h (nm 1 11) 31 0 2 n ∧ (∀ s, s < n → OF h s (q_o (x s)) ∧ LRc h (nm 3 s) 26 s ((q_F (x s)).take (q_rc (x s))) (q_cp (x s))) ∧ FreeI h 2 n ∧ FreeI h 3 n ∧ FreeL h 26 n
theorem MSQ.all {h h' : Hp} {n : Nat} {x : Nat → QIS} (H : MSQ h n x) (hm : ∀ i, i ≤ 18 → ce h' (nm 1 i) = ce h (nm 1 i)) (h0 : ce h' 0 = ce h 0) (h22 : ∀ k, h_k h (nm 22 k) ≠ 0 → ce h' (nm 22 k) = ce h (nm 22 k)) (hr : ∀ r i, r = 2 ∨ r = 3 ∨ r = 26 ∨ r = 31 → ce h' (nm r i) = ce h (nm r i)) : MSQ h' n x :=
  ⟨H.1.fr (ce_k (hm 0 (by decide))) (ce_R (hm 0 (by decide))) (fun i _ hi => ⟨ce_k (hm i hi), ce_n (hm i hi)⟩), H.2.1.frm h0 (hm 11 (by decide)) (fun z => hr _ _ (by decide)),
    fun s hs => ⟨(H.2.2.1 s hs).1.frm (hr _ _ (by decide)), (H.2.2.1 s hs).2.frm h0 (hr _ _ (by decide)) (fun z => hr _ _ (by decide)) h22⟩,
    H.2.2.2.1.fr (fun i _ => hr _ _ (by decide)), H.2.2.2.2.1.fr (fun i _ => hr _ _ (by decide)), H.2.2.2.2.2.fr (fun i _ _ z => hr _ _ (by decide))⟩
def WQQ (a : Nat) : Prop := a % 128 = 3 ∨ a % 128 = 26 ∨ a % 128 = 22 ∨ a % 128 = 30
/-- what realising may change -/
def FRQ (h h' : Hp) : Prop := (∀ a, ¬ WQQ a → ce h' a = ce h a) ∧ ∀ k, h_k h (nm 22 k) ≠ 0 → ce h' (nm 22 k) = ce h (nm 22 k)
theorem FRQ.rf {h : Hp} : FRQ h h := ⟨fun _ _ => rfl, fun _ _ => rfl⟩
theorem FRQ.tr {h h1 h2 : Hp} (a : FRQ h h1) (b : FRQ h1 h2) : FRQ h h2 :=
  ⟨fun x hx => (b.1 x hx).trans (a.1 x hx), fun k hk => (b.2 k (by rw [ce_k (a.2 k hk)]; exact hk)).trans (a.2 k hk)⟩
section MQI
variable {h h' : Hp} {n K : Nat} {x : Nat → QIS}
theorem MSQ.it (H : MSQ h n x) (hc : ∀ b, b ≠ nm 30 K → ce h' b = ce h b) : MSQ h' n x :=
  H.all (fun i _ => hc _ (nm_ne (by decide) (by decide) (by decide))) (hc 0 (by unfold nm; omega)) (fun k _ => hc _ (nm_ne (by decide) (by decide) (by decide))) (fun r i hr => hc _ (nm_ne (by omega) (by omega) (by decide)))
theorem FRQ.it (hc : ∀ b, b ≠ nm 30 K → ce h' b = ce h b) : FRQ h h' := ⟨fun a ha => hc a (fun e => ha (by rw [e]; unfold WQQ nm; omega)), fun k _ => hc _ (nm_ne (by decide) (by decide) (by decide))⟩
theorem MSQ.row (H : MSQ h n x) (hf : h_k h (nm 22 K) = 0) (hc : ∀ b, b ≠ nm 22 K → ce h' b = ce h b) : MSQ h' n x :=
  H.all (fun i _ => hc _ (nm_ne (by decide) (by decide) (by decide))) (hc 0 (by unfold nm; omega)) (fun k hk => hc _ (fun e => hk (by rw [e]; exact hf))) (fun r i hr => hc _ (nm_ne (by omega) (by omega) (by decide)))
theorem FRQ.row (hf : h_k h (nm 22 K) = 0) (hc : ∀ b, b ≠ nm 22 K → ce h' b = ce h b) : FRQ h h' := ⟨fun a ha => hc a (fun e => ha (by rw [e]; unfold WQQ nm; omega)), fun k hk => hc _ (fun e => hk (by rw [e]; exact hf))⟩
theorem PO2.itq {K : Nat} (H : PO2 h) (hK : FreeI h 30 K) (hc : ∀ b, b ≠ nm 30 K → ce h' b = ce h b) : PO2 h' := (PI.of H hK hc).po
end MQI
theorem take_gD : ∀ (F : List (List Int32)) (k : Nat), k < F.length → F.take (k + 1) = F.take k ++ [F.getD k []]
  | [], _, h => absurd h (Nat.not_lt_zero _)
  | a :: F, 0, _ => by simp
  | a :: F, k + 1, h => by
    rw [List.take_succ_cons, List.take_succ_cons, take_gD F k (by simpa using h), List.getD_cons_succ, List.cons_append]
theorem gD_eq {xs : List (List Int32)} {c : Nat} (hc : c < xs.length) : xs[c] = xs.getD c [] := by simp [List.getD, List.getElem?_eq_getElem hc]
theorem gI_eq {e : List Int32} {c : Nat} (hc : c < e.length) : e[c] = e.getD c (nI 0) := by simp [List.getD, List.getElem?_eq_getElem hc]
theorem tot_drop {xs : List (List Int32)} {c : Nat} (hc : c < xs.length) : tot (xs.drop c) = (xs.getD c []).length + tot (xs.drop (c + 1)) := by rw [getD_cons hc [], tot]
theorem atF_drop {xs : List (List Int32)} {c p : Nat} (hc : c < xs.length) : atF (xs.drop c) p = if p < (xs.getD c []).length then (xs.getD c []).getD p (nI 0) else atF (xs.drop (c + 1)) (p - (xs.getD c []).length) := by rw [getD_cons hc [], atF]
theorem MSQ.add {h h' : Hp} {n s : Nat} {x : Nat → QIS} {r : Nat → Nat} {c : List Int32} (H : MSQ h n (setR x r)) (hs : s < n) (hn : n ≤ 16) (hr : r s < (q_F (x s)).length) (h24 : r s < 24) (hc : (q_F (x s)).getD (r s) [] = c) (hcap : capB (q_cp (x s)))
    (L : LRc h' (nm 3 s) 26 s ((q_F (x s)).take (r s) ++ [c]) (gcN (r s) (capR x r s))) (hF : ∀ a, a ≠ nm 3 s → (∀ z, a ≠ nm 26 (16 * z + s)) → ce h' a = ce h a) : MSQ h' n (setR x (va_up r s (r s + 1))) := by
  have h0 : ce h' 0 = ce h 0 := hF 0 (by unfold nm; omega) (fun z => by unfold nm; omega)
  refine ⟨H.1.fr (ce_k (hF _ (nm_ne (by decide) (by decide) (by decide)) (fun z => nm_ne (by decide) (by decide) (by decide)))) (ce_R (hF _ (nm_ne (by decide) (by decide) (by decide)) (fun z => nm_ne (by decide) (by decide) (by decide)))) (fun i _ hi => ⟨ce_k (hF _ (nm_ne (by decide) (by decide) (by decide)) (fun z => nm_ne (by decide) (by decide) (by decide))), ce_n (hF _ (nm_ne (by decide) (by decide) (by decide)) (fun z => nm_ne (by decide) (by decide) (by decide)))⟩),
    H.2.1.frm h0 (hF _ (nm_ne (by decide) (by decide) (by decide)) (fun z => nm_ne (by decide) (by decide) (by decide))) (fun z => hF _ (nm_ne (by decide) (by decide) (by decide)) (fun z => nm_ne (by decide) (by decide) (by decide))), fun t ht => ⟨?_, ?_⟩,
    H.2.2.2.1.fr (fun i _ => hF _ (nm_ne (by decide) (by decide) (by decide)) (fun z => nm_ne (by decide) (by decide) (by decide))), H.2.2.2.2.1.fr (fun i hi => hF _ (nm_nei (by omega)) (fun z => nm_ne (by decide) (by decide) (by decide))), H.2.2.2.2.2.fr (fun i hi h16 z => hF _ (nm_ne (by decide) (by decide) (by decide)) (fun z => nm_nei (by omega)))⟩
  · exact (H.2.2.1 t ht).1.frm (hF _ (nm_ne (by decide) (by decide) (by decide)) (fun z => nm_ne (by decide) (by decide) (by decide)))
  · by_cases e : t = s
    · subst e
      have e1 : va_up r t (r t + 1) t = r t + 1 := by rw [va_up_app, if_pos rfl]
      show LRc h' (nm 3 t) 26 t ((q_F (x t)).take (va_up r t (r t + 1) t)) (max (q_cp (x t)) (cp (va_up r t (r t + 1) t)))
      rw [e1, take_gD _ _ hr, hc, ← (cp_st _ hcap.in (r t) h24).1]
      exact L
    · have e1 : va_up r s (r s + 1) t = r t := by rw [va_up_app, if_neg e]
      show LRc h' (nm 3 t) 26 t ((q_F (x t)).take (va_up r s (r s + 1) t)) (max (q_cp (x t)) (cp (va_up r s (r s + 1) t)))
      rw [e1]
      exact (H.2.2.1 t ht).2.frm h0 (hF _ (nm_nei e) (fun z => nm_ne (by decide) (by decide) (by decide))) (fun z => hF _ (nm_ne (by decide) (by decide) (by decide)) (fun z => nm_nei (by omega))) (fun k _ => hF _ (nm_ne (by decide) (by decide) (by decide)) (fun z => nm_ne (by decide) (by decide) (by decide)))
theorem FRQ.add {h h' : Hp} {s : Nat} (hF : ∀ a, a ≠ nm 3 s → (∀ z, a ≠ nm 26 (16 * z + s)) → ce h' a = ce h a) : FRQ h h' :=
  ⟨fun a ha => hF a (fun e => ha (by rw [e]; unfold WQQ nm; omega)) (fun z e => ha (by rw [e]; unfold WQQ nm; omega)), fun k _ => hF _ (nm_ne (by decide) (by decide) (by decide)) (fun z => nm_ne (by decide) (by decide) (by decide))⟩
