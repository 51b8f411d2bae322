/-! The model: collect. -/
theorem IB.ce {h h' : Hp} (H : IB h h' (mW (nm 1 0) (nm 1))) {b : Nat} (hb : ∀ j, ¬ mW (nm 1 0) (nm 1) b j) : ce h' b = ce h b := by
  obtain ⟨e1, e2, e3, e4, e5, e6⟩ := H
  have e7 : h_I h' b = h_I h b := funext fun j => e6 b j (hb j)
  show (h_k h' b, h_n h' b, h_I h' b, h_R h' b, h_L h' b, h_F h' b) = _
  rw [e1, e2, e7, e3, e4, e5]
theorem mW_no {r i j : Nat} (hr : r < 128) (h : r ≠ 1 ∨ 10 < i) : ¬ mW (nm 1 0) (nm 1) (nm r i) j := by
  rintro (⟨e, -⟩ | ⟨q, h1, h2, e⟩) <;> unfold nm at e <;> omega
theorem MSQ.ib {h h' : Hp} {n : Nat} {x : Nat → QIS} (H : MSQ h n x) (e : IB h h' (mW (nm 1 0) (nm 1))) : MSQ h' n x :=
  ⟨H.1.ib e, H.2.1.frm (e.ce (fun j => by rw [show (0 : Nat) = nm 0 0 from rfl]; exact mW_no (by decide) (Or.inl (by decide)))) (e.ce (fun j => mW_no (by decide) (Or.inr (by decide)))) (fun z => e.ce (fun j => mW_no (by decide) (Or.inl (by decide)))),
    fun s hs => ⟨(H.2.2.1 s hs).1.frm (e.ce (fun j => mW_no (by decide) (Or.inl (by decide)))), (H.2.2.1 s hs).2.frm (e.ce (fun j => by rw [show (0 : Nat) = nm 0 0 from rfl]; exact mW_no (by decide) (Or.inl (by decide)))) (e.ce (fun j => mW_no (by decide) (Or.inl (by decide)))) (fun z => e.ce (fun j => mW_no (by decide) (Or.inl (by decide)))) (fun k _ => e.ce (fun j => mW_no (by decide) (Or.inl (by decide))))⟩,
    H.2.2.2.1.fr (fun i _ => e.ce (fun j => mW_no (by decide) (Or.inl (by decide)))), H.2.2.2.2.1.fr (fun i _ => e.ce (fun j => mW_no (by decide) (Or.inl (by decide)))), H.2.2.2.2.2.fr (fun i _ _ z => e.ce (fun j => mW_no (by decide) (Or.inl (by decide))))⟩
theorem PO2.ib {h h' : Hp} (H : PO2 h) (e : IB h h' (mW (nm 1 0) (nm 1))) : PO2 h' :=
  ⟨H.1.elim fun K z => ⟨K, z.fr (fun _ _ => e.ce (fun j => mW_no (by decide) (Or.inl (by decide))))⟩, H.2.elim fun K z => ⟨K, z.fr (fun _ _ => e.ce (fun j => mW_no (by decide) (Or.inl (by decide))))⟩⟩
/-- the values stay where only sequences change -/
theorem MP.fq {h h' : Hp} {S : SV} (H : MP h (nm 1 0) (nm 1) S) (hM : MF h' (nm 1 0) (nm 1)) (h0 : ∀ j, j ≠ 0 → h_I h' (nm 1 0) j = h_I h (nm 1 0) j) (hr : ∀ i, 3 ≤ i → i ≤ 10 → ce h' (nm 1 i) = ce h (nm 1 i)) : MP h' (nm 1 0) (nm 1) S := by
  obtain ⟨-, e1, e2, e3, e4, e5, e6, e7, e8, e9, e10⟩ := H
  exact ⟨hM, (h0 1 (by decide)).trans e1, (h0 2 (by decide)).trans e2, fun j => by rw [ce_I (hr 3 (by decide) (by decide))]; exact e3 j, fun j => by rw [ce_I (hr 4 (by decide) (by decide))]; exact e4 j, fun j => by rw [ce_I (hr 5 (by decide) (by decide))]; exact e5 j, fun j => by rw [ce_I (hr 6 (by decide) (by decide))]; exact e6 j, fun j => by rw [ce_I (hr 7 (by decide) (by decide))]; exact e7 j, fun j => by rw [ce_I (hr 8 (by decide) (by decide))]; exact e8 j, fun j => by rw [ce_I (hr 9 (by decide) (by decide))]; exact e9 j, fun j => by rw [ce_I (hr 10 (by decide) (by decide))]; exact e10 j⟩
theorem MP.fs {h h' : Hp} {S : SV} {n : Nat} {x : Nat → QIS} (H : MP h (nm 1 0) (nm 1) S) (hM : MSQ h' n x) (hG : FRS h h') : MP h' (nm 1 0) (nm 1) S :=
  H.fq hM.1 hG.2.2.2 (fun i h1 h2 => hG.1 _ (by unfold WSQ nm; omega))
theorem MSQ.lst {h : Hp} {n s : Nat} {y : Nat → QIS} {xs : List (List Int32)} (H : MSQ h n y) (hs : s < n) (hxs : (q_F (y s)).take (q_rc (y s)) = xs) : LRw h (nm 3 s) 26 s xs := by rw [← hxs]; exact (H.2.2.1 s hs).2.w
/-- whether one of the first elements is no element -/
def outK (xs : List (List Int32)) : Nat → Bool
  | 0 => false
  | k + 1 => outK xs k || !elB (atF xs k)
/-- the state with the elements of xs at v -/
def colK (S : SV) (xs : List (List Int32)) (z k : Nat) : SV := (sNv S, sMd S, sTy S, va_up (sSz S) (sNv S - 1) z, blk (sEl S) (fun i => atF xs i) 64 (sNv S - 1) k, sNd S, sOw S, sHs S, sOf S, sMn S)
def colS (S : SV) (xs : List (List Int32)) : SV := nfS (colK (s_new S 118) xs (tot xs) (tot xs)) (sNv S) (fun _ => false) (fun _ => 0) 21
def o_collect (S : SV) (n : Nat) (x : Nat → QIS) (u : Int32) (s : Nat) : Int32 × Int32 × SV × Nat × (Nat → QIS) :=
  if (!ixB u n) = true then (nI 1, nI 0, S, n, x) else if q_B (x s) = true then (nI 2, nI 0, S, n, gst x (rcx x) (capR x (enR x s (rcx x))))
  else if outK (q_F (x s)) (tot (q_F (x s))) = true then (nI 3, nI 0, S, n, gst x (rcx x) (capR x (enR x s (rcx x))))
  else if sNv S = 60 then (nI 4, nI 0, S, n, gst x (rcx x) (capR x (enR x s (rcx x))))
  else (nI 0, nI (sNv S), colS S (q_F (x s)), n, setR x (enR x s (rcx x)))
/-- what collecting may change: what calls about sequences may, and the values -/
def WCF (h h' : Hp) : Prop := (∀ a, ¬ WSQ a → (∀ j, ¬ mW (nm 1 0) (nm 1) a j) → ce h' a = ce h a) ∧ (∀ k, h_k h (nm 22 k) ≠ 0 → ce h' (nm 22 k) = ce h (nm 22 k)) ∧ (h_k h' (nm 1 0) = h_k h (nm 1 0) ∧ h_n h' (nm 1 0) = h_n h (nm 1 0) ∧ h_R h' (nm 1 0) = h_R h (nm 1 0) ∧ h_L h' (nm 1 0) = h_L h (nm 1 0) ∧ h_F h' (nm 1 0) = h_F h (nm 1 0)) ∧ ∀ j, 2 < j → h_I h' (nm 1 0) j = h_I h (nm 1 0) j
theorem mW_no2 {j : Nat} (hj : 2 < j) : ¬ mW (nm 1 0) (nm 1) (nm 1 0) j := by
  rintro (⟨-, e⟩ | ⟨q, h1, h2, e⟩)
  · omega
  · unfold nm at e; omega
theorem WCF.tr {h h1 h2 : Hp} (a : WCF h h1) (b : WCF h1 h2) : WCF h h2 := ⟨fun x h3 h4 => (b.1 x h3 h4).trans (a.1 x h3 h4), fun k hk => (b.2.1 k (by rw [ce_k (a.2.1 k hk)]; exact hk)).trans (a.2.1 k hk),
  ⟨b.2.2.1.1.trans a.2.2.1.1, b.2.2.1.2.1.trans a.2.2.1.2.1, b.2.2.1.2.2.1.trans a.2.2.1.2.2.1, b.2.2.1.2.2.2.1.trans a.2.2.1.2.2.2.1, b.2.2.1.2.2.2.2.trans a.2.2.1.2.2.2.2⟩, fun j hj => (b.2.2.2 j hj).trans (a.2.2.2 j hj)⟩
theorem WCF.s {h h' : Hp} (H : FRS h h') : WCF h h' := ⟨fun a h1 _ => H.1 a h1, H.2.1, H.2.2.1, fun j hj => H.2.2.2 j (by omega)⟩
theorem WCF.v {h h' : Hp} (H : IB h h' (mW (nm 1 0) (nm 1))) : WCF h h' := ⟨fun a _ h2 => H.ce h2, fun k _ => H.ce (fun j => mW_no (by decide) (Or.inl (by decide))), ⟨congrFun H.1 _, congrFun H.2.1 _, congrFun H.2.2.1 _, congrFun H.2.2.2.1 _, congrFun H.2.2.2.2.1 _⟩, fun j hj => H.2.2.2.2.2 _ j (mW_no2 hj)⟩
theorem colB {S : SV} {xs : List (List Int32)} {z k : Nat} (hS : SB S) (hn : sNv S < 60) (hz : z ≤ 64) : SB (colK (s_new S 118) xs z k) := by
  have h := hS.new (c := 118) (by decide) hn
  refine ⟨h.1, h.2.1, h.2.2.1, fun j => ?_, h.2.2.2.2.1, h.2.2.2.2.2⟩
  show va_up (sSz (s_new S 118)) _ z j ≤ 64
  rw [va_up_app]; split
  · exact hz
  · exact h.2.2.2.1 j
