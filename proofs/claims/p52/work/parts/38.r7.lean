/-! The model: a new reference, a new agent, what is sent. -/
theorem JC.w {h : Hp} {a k : Nat} {x : Int32} (J : JC h) (ha : a % 128 ≠ 0) : JC (wI h a k x) := J.fr (fun i => ce_wI (by unfold nm; omega))
theorem MR.row {h h' : Hp} {S : RS} {K : Nat} (H : MR h S) (hf : h_k h (nm 22 K) = 0) (hc : ∀ b, b ≠ nm 22 K → ce h' b = ce h b) : MR h' S :=
  H.all (MK.of (fun i _ => hc _ (nm_ne (by decide) (by decide) (by decide)))) (by rw [ce_I (hc _ (nm_ne (by decide) (by decide) (by decide)))]) (by rw [ce_I (hc _ (nm_ne (by decide) (by decide) (by decide)))]) (hc 0 (by unfold nm; omega)) (fun k hk => hc _ (fun e => hk (by rw [e]; exact hf))) (hc _ (nm_ne (by decide) (by decide) (by decide))) (hc _ (nm_ne (by decide) (by decide) (by decide))) (hc _ (nm_ne (by decide) (by decide) (by decide))) (fun r i h1 h2 => hc _ (nm_ne (by omega) (by omega) (by decide))) (fun r i h1 h2 _ => hc _ (nm_ne (by omega) (by omega) (by decide)))
theorem FRR.row {h h' : Hp} {K : Nat} (hf : h_k h (nm 22 K) = 0) (hc : ∀ b, b ≠ nm 22 K → ce h' b = ce h b) : FRR h h' :=
  ⟨fun a ha => hc a (fun e => ha (by rw [e]; unfold WRR nm; omega)), fun k hk => hc _ (fun e => hk (by rw [e]; exact hf)), ⟨ce_k (hc _ (nm_ne (by decide) (by decide) (by decide))), ce_n (hc _ (nm_ne (by decide) (by decide) (by decide))), ce_R (hc _ (nm_ne (by decide) (by decide) (by decide))), ce_L (hc _ (nm_ne (by decide) (by decide) (by decide))), ce_F (hc _ (nm_ne (by decide) (by decide) (by decide)))⟩, fun j _ _ _ => by rw [ce_I (hc _ (nm_ne (by decide) (by decide) (by decide)))]⟩
theorem PO2.row {h h' : Hp} {K K3 : Nat} (hK : FreeI h 22 K) (hK3 : FreeI h 30 K3) (hc : ∀ b, b ≠ nm 22 K → ce h' b = ce h b) : PO2 h' :=
  ⟨⟨K + 1, fun i hi => (ce_k (hc _ (nm_nei (by omega)))).trans (hK i (by omega))⟩, ⟨K3, hK3.fr (fun i _ => hc _ (nm_ne (by decide) (by decide) (by decide)))⟩⟩
theorem th_row {h h' : Hp} {K : Nat} (hc : ∀ b, b ≠ nm 22 K → ce h' b = ce h b) : h_I h' (nm 1 0) 0 = h_I h (nm 1 0) 0 := by rw [ce_I (hc _ (nm_ne (by decide) (by decide) (by decide)))]
theorem MR.addR {h h' : Hp} {S : RS} {K : Nat} {x : ORS} (H : MR h S) (hn : RS_rn S < 16) (ha : RS_an S ≤ 16) (h22 : h_k h (nm 22 K) = 0) (ec : ∀ s i, s < 128 → ¬ ((4 ≤ s ∧ s ≤ 5 ∧ i = RS_rn S) ∨ (s = 23 ∧ i % 16 = RS_rn S) ∨ (s = 22 ∧ i = K) ∨ (s = 1 ∧ i = 13) ∨ s = 27) → ce h' (nm s i) = ce h (nm s i)) (L : LOb h' (nm 1 13) 27 0 4 (RS_rn S + 1)) (O : OR h' (RS_rn S) x) : MR h' (RS_urr (RS_urn S (RS_rn S + 1)) (va_up (RS_rr S) (RS_rn S) x)) := by
  have e22 : ∀ k, h_k h (nm 22 k) ≠ 0 → ce h' (nm 22 k) = ce h (nm 22 k) := fun k hk => by
    have hk2 : k ≠ K := fun e => hk (by rw [e]; exact h22)
    exact ec _ _ (by decide) (by omega)
  have e0 : ce h' 0 = ce h 0 := ec 0 0 (by decide) (by omega)
  have em : ce h' (nm 1 0) = ce h (nm 1 0) := ec _ _ (by decide) (by omega)
  have e17 : ce h' (nm 1 17) = ce h (nm 1 17) := ec _ _ (by decide) (by omega)
  have e13 : h_k h' (nm 1 13) = h_k h (nm 1 13) ∧ h_n h' (nm 1 13) = h_n h' (nm 1 13) := ⟨L.k.trans H.rl.k.symm, rfl⟩
  refine ⟨⟨⟨(ce_k em).trans H.mk, fun i a b c d => ?_, fun i a b c => ?_, H.mf.2.2.2⟩, (ce_n e17).trans H.tn, fun t ht => by rw [ce_R e17]; exact H.tr ht, by rw [ce_I em]; exact H.mo, by rw [ce_I em]; exact H.bg⟩, ⟨L, fun r hr => ?_, fun i hi => ?_, fun i hi => ?_, fun i hi h16 z => ?_⟩, ⟨H.al.frm e0 (ec _ _ (by decide) (by omega)) (fun z => ec _ _ (by decide) (by omega)), fun r hr => ?_, H.2.2.1.2.2.1.fr (fun _ _ => ec _ _ (by decide) (by omega)), H.2.2.1.2.2.2.1.fr (fun _ _ => ec _ _ (by decide) (by omega)), H.2.2.1.2.2.2.2.fr (fun _ _ _ _ => ec _ _ (by decide) (by omega))⟩, fun t ht => ?_, H.lg.frm e0 (ec _ _ (by decide) (by omega)) (fun z => ec _ _ (by decide) (by omega)) e22⟩
  · have h1 := H.mf.2.1 i a b c d
    rw [ce_R em]
    refine ⟨h1.1, ?_⟩
    by_cases e : i = 13
    · rw [e]; exact L.k
    · rw [ce_k (ec 1 i (by decide) (by omega))]; exact h1.2
  · rw [ce_n (ec 1 i (by decide) (by omega))]; exact H.mf.2.2.1 i a b c
  · show OR h' r (va_up (RS_rr S) (RS_rn S) x r)
    have hr : r < RS_rn S + 1 := hr
    rw [va_up_app]
    by_cases e : r = RS_rn S
    · rw [if_pos e, e]; exact O
    · rw [if_neg e]
      exact (H.r (by omega)).frm (ec _ _ (by decide) (by omega)) (ec _ _ (by decide) (by omega)) (fun z => ec _ _ (by decide) (by omega)) e0 e22
  · have hi : RS_rn S + 1 ≤ i := hi
    exact (ce_k (ec _ _ (by decide) (by omega))).trans (H.2.1.2.2.1 i (by omega))
  · have hi : RS_rn S + 1 ≤ i := hi
    exact (ce_k (ec _ _ (by decide) (by omega))).trans (H.2.1.2.2.2.1 i (by omega))
  · have hi : RS_rn S + 1 ≤ i := hi
    exact (ce_k (ec _ _ (by decide) (by omega))).trans (H.2.1.2.2.2.2 i (by omega) h16 z)
  · have hr : r < RS_an S := hr
    exact (H.a hr).frm (ec _ _ (by decide) (by omega)) (ec _ _ (by decide) (by omega)) (fun z => ec _ _ (by decide) (by omega)) e0 e22
  · exact (H.t ht).frm (ec _ _ (by decide) (by omega)) (ec _ _ (by decide) (by omega)) (ec _ _ (by decide) (by omega)) (ec _ _ (by decide) (by omega)) (ec _ _ (by decide) (by omega)) (ec _ _ (by decide) (by omega)) (ec _ _ (by decide) (by omega)) (fun z => ec _ _ (by decide) (by omega)) e0 e22
theorem MR.addA {h h' : Hp} {S : RS} {x : OAS} (H : MR h S) (hn : RS_an S < 16) (ha : RS_rn S ≤ 16) (ec : ∀ s i, s < 128 → ¬ ((13 ≤ s ∧ s ≤ 14 ∧ i = RS_an S) ∨ (s = 25 ∧ i % 16 = RS_an S) ∨ (s = 1 ∧ i = 18) ∨ s = 28) → ce h' (nm s i) = ce h (nm s i)) (L : LOb h' (nm 1 18) 28 0 13 (RS_an S + 1)) (O : OA h' (RS_an S) x) : MR h' (RS_uaa (RS_uan S (RS_an S + 1)) (va_up (RS_aa S) (RS_an S) x)) := by
  have e22 : ∀ k, h_k h (nm 22 k) ≠ 0 → ce h' (nm 22 k) = ce h (nm 22 k) := fun k hk => ec _ _ (by decide) (by omega)
  have e0 : ce h' 0 = ce h 0 := ec 0 0 (by decide) (by omega)
  have em : ce h' (nm 1 0) = ce h (nm 1 0) := ec _ _ (by decide) (by omega)
  have e17 : ce h' (nm 1 17) = ce h (nm 1 17) := ec _ _ (by decide) (by omega)
  refine ⟨⟨⟨(ce_k em).trans H.mk, fun i a b c d => ?_, fun i a b c => ?_, H.mf.2.2.2⟩, (ce_n e17).trans H.tn, fun t ht => by rw [ce_R e17]; exact H.tr ht, by rw [ce_I em]; exact H.mo, by rw [ce_I em]; exact H.bg⟩, ⟨H.rl.frm e0 (ec _ _ (by decide) (by omega)) (fun z => ec _ _ (by decide) (by omega)), fun r hr => ?_, H.2.1.2.2.1.fr (fun _ _ => ec _ _ (by decide) (by omega)), H.2.1.2.2.2.1.fr (fun _ _ => ec _ _ (by decide) (by omega)), H.2.1.2.2.2.2.fr (fun _ _ _ _ => ec _ _ (by decide) (by omega))⟩, ⟨L, fun r hr => ?_, fun i hi => ?_, fun i hi => ?_, fun i hi h16 z => ?_⟩, fun t ht => ?_, H.lg.frm e0 (ec _ _ (by decide) (by omega)) (fun z => ec _ _ (by decide) (by omega)) e22⟩
  · have h1 := H.mf.2.1 i a b c d
    rw [ce_R em]
    refine ⟨h1.1, ?_⟩
    by_cases e : i = 18
    · rw [e]; exact L.k
    · rw [ce_k (ec 1 i (by decide) (by omega))]; exact h1.2
  · rw [ce_n (ec 1 i (by decide) (by omega))]; exact H.mf.2.2.1 i a b c
  · have hr : r < RS_rn S := hr
    exact (H.r hr).frm (ec _ _ (by decide) (by omega)) (ec _ _ (by decide) (by omega)) (fun z => ec _ _ (by decide) (by omega)) e0 e22
  · show OA h' r (va_up (RS_aa S) (RS_an S) x r)
    have hr : r < RS_an S + 1 := hr
    rw [va_up_app]
    by_cases e : r = RS_an S
    · rw [if_pos e, e]; exact O
    · rw [if_neg e]
      exact (H.a (by omega)).frm (ec _ _ (by decide) (by omega)) (ec _ _ (by decide) (by omega)) (fun z => ec _ _ (by decide) (by omega)) e0 e22
  · have hi : RS_an S + 1 ≤ i := hi
    exact (ce_k (ec _ _ (by decide) (by omega))).trans (H.2.2.1.2.2.1 i (by omega))
  · have hi : RS_an S + 1 ≤ i := hi
    exact (ce_k (ec _ _ (by decide) (by omega))).trans (H.2.2.1.2.2.2.1 i (by omega))
  · have hi : RS_an S + 1 ≤ i := hi
    exact (ce_k (ec _ _ (by decide) (by omega))).trans (H.2.2.1.2.2.2.2 i (by omega) h16 z)
  · exact (H.t ht).frm (ec _ _ (by decide) (by omega)) (ec _ _ (by decide) (by omega)) (ec _ _ (by decide) (by omega)) (ec _ _ (by decide) (by omega)) (ec _ _ (by decide) (by omega)) (ec _ _ (by decide) (by omega)) (ec _ _ (by decide) (by omega)) (fun z => ec _ _ (by decide) (by omega)) e0 e22
theorem FRR.ec {h h' : Hp} {K : Nat} (h22 : ∀ k, h_k h (nm 22 k) ≠ 0 → ce h' (nm 22 k) = ce h (nm 22 k)) (ec : ∀ a, ¬ WRR a → ce h' a = ce h a) (em : ce h' (nm 1 0) = ce h (nm 1 0)) : FRR h h' :=
  ⟨ec, h22, ⟨ce_k em, ce_n em, ce_R em, ce_L em, ce_F em⟩, fun j _ _ _ => by rw [ce_I em]⟩
theorem nI_nej {a b : Nat} (ha : a < 2 ^ 31) (hb : b < 2 ^ 31) (h : a ≠ b) : nI a ≠ nI b := fun e => h (by have e2 := congrArg Int32.toNatClampNeg e; rwa [nI_clamp ha, nI_clamp hb] at e2)
def abB (v lo hi : Int32) : Bool := elB lo && elB hi && inB v lo hi
def o_addReference (S : RS) (v lo hi : Int32) : Int32 × Int32 × RS :=
  if abB v lo hi = false then (nI 1, nI 0, S) else if RS_rn S = 6 then (nI 2, nI 0, S)
  else (nI 0, nI (RS_rn S), RS_urr (RS_urn S (RS_rn S + 1)) (va_up (RS_rr S) (RS_rn S) (lo, hi, 2, v, [(0, v)])))
def o_addAgent (S : RS) (v lo hi md : Int32) : Int32 × Int32 × RS :=
  if abB v lo hi = false ∨ (md ≠ nI 102 ∧ md ≠ nI 99) then (nI 1, nI 0, S) else if RS_an S = 4 then (nI 2, nI 0, S)
  else (nI 0, nI (RS_an S), RS_uaa (RS_uan S (RS_an S + 1)) (va_up (RS_aa S) (RS_an S) (v, lo, hi, md, false, 0, [])))
