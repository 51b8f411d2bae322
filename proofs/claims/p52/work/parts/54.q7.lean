/-! The model: what is kept and taken back; realising up to a place. -/
theorem MSQ.wI {h : Hp} {n : Nat} {x : Nat → QIS} (H : MSQ h n x) {i k : Nat} {v : Int32} (hi : i ≠ 11) : MSQ (wI h (nm 1 i) k v) n x :=
  ⟨H.1.fr rfl rfl (fun _ _ _ => ⟨rfl, rfl⟩), H.2.1.frm (ce_wI (by unfold nm; omega)) (ce_wI (nm_nei (fun e => hi e.symm))) (fun z => ce_wI (nm_ne (by decide) (by decide) (by decide))),
    fun s hs => ⟨(H.2.2.1 s hs).1.frm (ce_wI (nm_ne (by decide) (by decide) (by decide))), (H.2.2.1 s hs).2.frm (ce_wI (by unfold nm; omega)) (ce_wI (nm_ne (by decide) (by decide) (by decide))) (fun z => ce_wI (nm_ne (by decide) (by decide) (by decide))) (fun k _ => ce_wI (nm_ne (by decide) (by decide) (by decide)))⟩,
    H.2.2.2.1, H.2.2.2.2.1, H.2.2.2.2.2⟩
/-- the same sequences, ρ of their chunks realised, κ the capacities -/
def gst (x : Nat → QIS) (ρ κ : Nat → Nat) : Nat → QIS := fun j => (q_o (x j), q_F (x j), q_B (x j), ρ j, κ j)
theorem MSQ.pop {h h' : Hp} {n s c : Nat} {x : Nat → QIS} {ρ κ : Nat → Nat} (H : MSQ h n (gst x ρ κ)) (hs : s < n) (hn : n ≤ 16) (L : LRc h' (nm 3 s) 26 s ((q_F (x s)).take c) (κ s)) (hF : ∀ a, a ≠ nm 3 s → (∀ z, a ≠ nm 26 (16 * z + s)) → ce h' a = ce h a) : MSQ h' n (gst x (va_up ρ s c) κ) := by
  have h0 : ce h' 0 = ce h 0 := hF 0 (by unfold nm; omega) (fun z => by unfold nm; omega)
  have hX : ∀ r i, r < 128 → r ≠ 3 → r ≠ 26 → ce h' (nm r i) = ce h (nm r i) := fun r i h1 h2 h3 => hF _ (nm_ne h2 h1 (by decide)) (fun z => nm_ne h3 h1 (by decide))
  refine ⟨H.1.fr (ce_k (hX 1 0 (by decide) (by decide) (by decide))) (ce_R (hX 1 0 (by decide) (by decide) (by decide))) (fun i _ hi => ⟨ce_k (hX 1 i (by decide) (by decide) (by decide)), ce_n (hX 1 i (by decide) (by decide) (by decide))⟩),
    H.2.1.frm h0 (hX 1 11 (by decide) (by decide) (by decide)) (fun z => hX 31 _ (by decide) (by decide) (by decide)), fun t ht => ⟨?_, ?_⟩,
    H.2.2.2.1.fr (fun i _ => hX 2 _ (by decide) (by decide) (by decide)), H.2.2.2.2.1.fr (fun i hi => hF _ (nm_nei (by omega)) (fun z => nm_ne (by decide) (by decide) (by decide))), H.2.2.2.2.2.fr (fun i hi h16 z => hF _ (nm_ne (by decide) (by decide) (by decide)) (fun z => nm_nei (by omega)))⟩
  · exact (H.2.2.1 t ht).1.frm (hX 2 _ (by decide) (by decide) (by decide))
  · by_cases e : t = s
    · subst e
      show LRc h' (nm 3 t) 26 t ((q_F (x t)).take (va_up ρ t c t)) (κ t)
      rw [va_up_app, if_pos rfl]
      exact L
    · show LRc h' (nm 3 t) 26 t ((q_F (x t)).take (va_up ρ s c t)) (κ t)
      rw [va_up_app, if_neg e]
      exact (H.2.2.1 t ht).2.frm h0 (hF _ (nm_nei e) (fun z => nm_ne (by decide) (by decide) (by decide))) (fun z => hF _ (nm_ne (by decide) (by decide) (by decide)) (fun z => nm_nei (by omega))) (fun k _ => hX 22 _ (by decide) (by decide) (by decide))
theorem gst_c {x : Nat → QIS} {ρ ρ' κ : Nat → Nat} {s : Nat} (h : ρ s = ρ' s) : gst x ρ κ s = gst x ρ' κ s := by unfold gst; rw [h]
theorem take_er : ∀ (F : List (List Int32)) (c : Nat), c < F.length → (F.take (c + 1)).eraseIdx c = F.take c
  | [], _, h => absurd h (Nat.not_lt_zero _)
  | a :: F, 0, _ => by simp
  | a :: F, c + 1, h => by
    rw [List.take_succ_cons, List.take_succ_cons, List.eraseIdx_cons_succ, take_er F c (by simpa using h)]
theorem MSQ.eq {h : Hp} {n : Nat} {x y : Nat → QIS} (H : MSQ h n x) (e : ∀ s, s < n → x s = y s) : MSQ h n y :=
  ⟨H.1, H.2.1, fun s hs => by rw [← e s hs]; exact H.2.2.1 s hs, H.2.2.2⟩
theorem vu_mix {r0 r1 : Nat → Nat} {k : Nat} : va_up (fun j => if j < k then r0 j else r1 j) k (r0 k) = fun j => if j < k + 1 then r0 j else r1 j := by
  funext j
  rw [va_up_app]
  by_cases e : j = k
  · rw [if_pos e, if_pos (by omega), e]
  · rw [if_neg e]
    by_cases e2 : j < k
    · rw [if_pos e2, if_pos (by omega)]
    · rw [if_neg e2, if_neg (by omega)]
