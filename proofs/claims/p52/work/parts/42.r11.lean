/-! The model: an entry more in the log; a reference comes. -/
theorem MR.lgadd {h h' : Hp} {S : RS} {v : List (Nat × Nat × Int32 × Int32)} (H : MR h S) (ec : ∀ s i, s < 128 → ¬ ((s = 1 ∧ i = 14) ∨ s = 29) → ce h' (nm s i) = ce h (nm s i)) (L : LRw h' (nm 1 14) 29 0 (lgL v)) : MR h' (RS_ulg S v) := by
  have e22 : ∀ k, h_k h (nm 22 k) ≠ 0 → ce h' (nm 22 k) = ce h (nm 22 k) := fun k hk => ec _ _ (by decide) (by omega)
  have e0 : ce h' 0 = ce h 0 := ec 0 0 (by decide) (by omega)
  have em : ce h' (nm 1 0) = ce h (nm 1 0) := ec _ _ (by decide) (by omega)
  have e17 : ce h' (nm 1 17) = ce h (nm 1 17) := ec _ _ (by decide) (by omega)
  refine ⟨⟨⟨(ce_k em).trans H.mk, fun i a b c d => ?_, fun i a b c => ?_, H.mf.2.2.2⟩, (ce_n e17).trans H.tn, fun t ht => by rw [ce_R e17]; exact H.tr ht, by rw [ce_I em]; exact H.mo, by rw [ce_I em]; exact H.bg⟩, ⟨H.rl.frm e0 (ec _ _ (by decide) (by omega)) (fun z => ec _ _ (by decide) (by omega)), fun r hr => ?_, H.2.1.2.2.1.fr (fun _ _ => ec _ _ (by decide) (by omega)), H.2.1.2.2.2.1.fr (fun _ _ => ec _ _ (by decide) (by omega)), H.2.1.2.2.2.2.fr (fun _ _ _ _ => ec _ _ (by decide) (by omega))⟩, ⟨H.al.frm e0 (ec _ _ (by decide) (by omega)) (fun z => ec _ _ (by decide) (by omega)), fun r hr => ?_, H.2.2.1.2.2.1.fr (fun _ _ => ec _ _ (by decide) (by omega)), H.2.2.1.2.2.2.1.fr (fun _ _ => ec _ _ (by decide) (by omega)), H.2.2.1.2.2.2.2.fr (fun _ _ _ _ => ec _ _ (by decide) (by omega))⟩, fun t ht => ?_, L⟩
  · have h1 := H.mf.2.1 i a b c d
    rw [ce_R em]
    refine ⟨h1.1, ?_⟩
    by_cases e : i = 14
    · rw [e]; exact L.k
    · rw [ce_k (ec 1 i (by decide) (by omega))]; exact h1.2
  · rw [ce_n (ec 1 i (by decide) (by omega))]; exact H.mf.2.2.1 i a b c
  · have hr : r < RS_rn S := hr
    exact (H.r hr).frm (ec _ _ (by decide) (by omega)) (ec _ _ (by decide) (by omega)) (fun z => ec _ _ (by decide) (by omega)) e0 e22
  · have hr : r < RS_an S := hr
    exact (H.a hr).frm (ec _ _ (by decide) (by omega)) (ec _ _ (by decide) (by omega)) (fun z => ec _ _ (by decide) (by omega)) e0 e22
  · exact (H.t ht).frm (ec _ _ (by decide) (by omega)) (ec _ _ (by decide) (by omega)) (ec _ _ (by decide) (by omega)) (ec _ _ (by decide) (by omega)) (ec _ _ (by decide) (by omega)) (ec _ _ (by decide) (by omega)) (ec _ _ (by decide) (by omega)) (fun z => ec _ _ (by decide) (by omega)) e0 e22
theorem MR.upRc {h h' : Hp} {S : RS} {r K : Nat} {x : ORS} (H : MR h S) (hr : r < RS_rn S) (h16 : RS_rn S ≤ 16 ∧ RS_an S ≤ 16) (hf : h_k h (nm 22 K) = 0) (hF : Fr h h' (WC r K)) (X : OR h' r x) : MR h' (RS_urr1 S r x) := by
  have ec : ∀ s i, s < 128 → ¬ ((4 ≤ s ∧ s ≤ 5 ∧ i = r) ∨ (s = 23 ∧ i % 16 = r) ∨ (s = 22 ∧ i = K)) → ce h' (nm s i) = ce h (nm s i) := fun s i hs hn => hF _ (WC_n hn hs)
  have e22 : ∀ k, h_k h (nm 22 k) ≠ 0 → ce h' (nm 22 k) = ce h (nm 22 k) := fun k hk => by
    have hk2 : k ≠ K := fun e => hk (by rw [e]; exact hf)
    exact ec _ _ (by decide) (by omega)
  have e0 : ce h' 0 = ce h 0 := ec 0 0 (by decide) (by omega)
  have em : ce h' (nm 1 0) = ce h (nm 1 0) := ec _ _ (by decide) (by omega)
  have e17 : ce h' (nm 1 17) = ce h (nm 1 17) := ec _ _ (by decide) (by omega)
  refine ⟨⟨⟨(ce_k em).trans H.mk, fun i a b c d => ?_, fun i a b c => ?_, H.mf.2.2.2⟩, (ce_n e17).trans H.tn, fun t ht => by rw [ce_R e17]; exact H.tr ht, by rw [ce_I em]; exact H.mo, by rw [ce_I em]; exact H.bg⟩, ⟨H.rl.frm e0 (ec _ _ (by decide) (by omega)) (fun z => ec _ _ (by decide) (by omega)), fun j hj => ?_, H.2.1.2.2.1.fr (fun i hi => ec _ _ (by decide) (by omega)), H.2.1.2.2.2.1.fr (fun i hi => ec _ _ (by decide) (by omega)), H.2.1.2.2.2.2.fr (fun i hi hi2 z => ec _ _ (by decide) (by omega))⟩, ⟨H.al.frm e0 (ec _ _ (by decide) (by omega)) (fun z => ec _ _ (by decide) (by omega)), fun j hj => ?_, H.2.2.1.2.2.1.fr (fun _ _ => ec _ _ (by decide) (by omega)), H.2.2.1.2.2.2.1.fr (fun _ _ => ec _ _ (by decide) (by omega)), H.2.2.1.2.2.2.2.fr (fun _ _ _ _ => ec _ _ (by decide) (by omega))⟩, fun t ht => ?_, H.lg.frm e0 (ec _ _ (by decide) (by omega)) (fun z => ec _ _ (by decide) (by omega)) e22⟩
  · have h1 := H.mf.2.1 i a b c d
    rw [ce_R em, ce_k (ec 1 i (by decide) (by omega))]
    exact h1
  · rw [ce_n (ec 1 i (by decide) (by omega))]; exact H.mf.2.2.1 i a b c
  · have hj : j < RS_rn S := hj
    show OR h' j (va_up (RS_rr S) r x j)
    rw [va_up_app]
    by_cases e : j = r
    · rw [if_pos e, e]; exact X
    · rw [if_neg e]
      exact (H.r hj).frm (ec _ _ (by decide) (by omega)) (ec _ _ (by decide) (by omega)) (fun z => ec _ _ (by decide) (by omega)) e0 e22
  · have hj : j < RS_an S := hj
    exact (H.a hj).frm (ec _ _ (by decide) (by omega)) (ec _ _ (by decide) (by omega)) (fun z => ec _ _ (by decide) (by omega)) e0 e22
  · exact (H.t ht).frm (ec _ _ (by decide) (by omega)) (ec _ _ (by decide) (by omega)) (ec _ _ (by decide) (by omega)) (ec _ _ (by decide) (by omega)) (ec _ _ (by decide) (by omega)) (ec _ _ (by decide) (by omega)) (ec _ _ (by decide) (by omega)) (fun z => ec _ _ (by decide) (by omega)) e0 e22
theorem FRR.oC {h h' : Hp} {r K : Nat} (hf : h_k h (nm 22 K) = 0) (hF : Fr h h' (WC r K)) : FRR h h' :=
  FRR.ec (K := K) (fun k hk => hF _ (WC_n (by have : k ≠ K := fun e => hk (by rw [e]; exact hf)
                                              omega) (by decide))) (fun a ha => hF a (fun z => ha (by unfold WC WRf at z; unfold WRR; unfold nm at *; omega))) (hF _ (WC_n (by omega) (by decide)))
theorem FRR.olg {h h' : Hp} (hc : ∀ b, b ≠ nm 1 14 → (∀ z, b ≠ nm 29 (16 * z + 0)) → ce h' b = ce h b) : FRR h h' :=
  FRR.ec (K := 0) (fun k _ => hc _ (by unfold nm; omega) (fun z => by unfold nm; omega)) (fun a ha => hc a (fun z => ha (by rw [z]; unfold WRR nm; omega)) (fun z e => ha (by rw [e]; unfold WRR nm; omega))) (hc _ (by unfold nm; omega) (fun z => by unfold nm; omega))
theorem PEr.mk4 {h : Hp} {K : Nat} {a b c d : Int32} : PEr (wI (wI (wI (wI (mk h (nm 22 K) 101 4) (nm 22 K) 0 a) (nm 22 K) 1 b) (nm 22 K) 2 c) (nm 22 K) 3 d) (nm 22 K) [a, b, c, d] := by
  refine ⟨⟨K, rfl⟩, by show h_k (mk h (nm 22 K) 101 4) (nm 22 K) = 101; rw [gk_mk, if_pos rfl], by show h_n (mk h (nm 22 K) 101 4) (nm 22 K) = 4; rw [gn_mk, if_pos rfl], fun m hm => ?_⟩
  match m, hm with
  | 0, _ => rw [gI_wI, if_neg (fun z => absurd z.2 (by decide)), gI_wI, if_neg (fun z => absurd z.2 (by decide)), gI_wI, if_neg (fun z => absurd z.2 (by decide)), gI_wI, if_pos ⟨rfl, rfl⟩]; rfl
  | 1, _ => rw [gI_wI, if_neg (fun z => absurd z.2 (by decide)), gI_wI, if_neg (fun z => absurd z.2 (by decide)), gI_wI, if_pos ⟨rfl, rfl⟩]; rfl
  | 2, _ => rw [gI_wI, if_neg (fun z => absurd z.2 (by decide)), gI_wI, if_pos ⟨rfl, rfl⟩]; rfl
  | 3, _ => rw [gI_wI, if_pos ⟨rfl, rfl⟩]; rfl
/-- what the changes of t make of the log and the references, from the r-th on -/
def cmC (t : Nat) : Nat → Nat → RS → RS
  | 0, _, S => S
  | m + 1, r, S => cmC t m (r + 1) (if chg (RS_tt S t) r = true then RS_urr1 (RS_ulg S (RS_lg S ++ [(RS_mo S, r, (lastq (RS_rr S r)).2, vth (RS_tt S t) (RS_rr S r) r)])) r (OR_uhs (RS_rr S r) (cmH (OR_hs (RS_rr S r)) (OR_lim (RS_rr S r)) (RS_mo S, vth (RS_tt S t) (RS_rr S r) r))) else S)
/-- what comes to the agents -/
def dlF : List (Nat × Int32) → (Nat → OAS) → Nat → OAS
  | [], A => A
  | q :: l, A => dlF l (va_up A q.1 (OA_urow (A q.1) (tkL (OA_row (A q.1)) q.2)))
