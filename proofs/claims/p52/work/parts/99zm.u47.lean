/-! The bounds of the values are kept by every call. -/
/-- no number above the count -/
def NB (S : SV) : Prop := ∀ j, sNd S j ≤ sMd S ∧ sMn S j ≤ sMd S
def WB (S : SV) : Prop := SB S ∧ NB S
section WBS
variable {S S' : SV} {k : Nat} {u : Int32}
theorem WB.new {c : Nat} (H : WB S) (hc : c < 65536) (hn : sNv S < 60) : WB (s_new S c) := ⟨H.1.new hc hn, H.2⟩
theorem WB.cp {a b : Nat} (H : WB S) : WB (s_cp S a b) := ⟨H.1.cp, H.2⟩
theorem WB.w3 {x : Nat} (H : WB S) (hx : x < 65536) : WB (s_3 S k x) := ⟨H.1.w3 hx, H.2⟩
theorem WB.w4 {x : Nat} (H : WB S) (hx : x ≤ 64) : WB (s_4 S k x) := ⟨H.1.w4 hx, H.2⟩
theorem WB.w5 {x : Int32} (H : WB S) : WB (s_5 S k x) := H
theorem WB.w8 {x : Bool} (H : WB S) : WB (s_8 S k x) := H
theorem WB.w9 {x : Int32} (H : WB S) : WB (s_9 S k x) := H
theorem nfN_lb {v : Nat} {sm : Nat → Bool} {sh : Nat → Nat} (H : NB S) (hs : ∀ t, sh t ≤ sMd S) : ∀ k j, nfN S v sm sh k j ≤ nfM S v sm k := by
  intro k
  induction k with
  | zero => exact fun j => (H j).1
  | succ k ih =>
    intro j
    have m := nfM_mono (S := S) (v := v) (sm := sm) (Nat.zero_le k)
    have m0 : nfM S v sm 0 = sMd S := rfl
    have s := hs k
    have i := ih j
    rw [nfN, va_up_app, nfM]
    by_cases e : j = 21 * v + k
    · rw [if_pos e]
      cases a : ith k (sSz S v) <;> cases b : sm k <;> simp <;> omega
    · rw [if_neg e]
      split <;> omega
theorem WB.nfS {v : Nat} {sm : Nat → Bool} {sh : Nat → Nat} (H : WB S) (hmd : sMd S + 25 ≤ 1000000) (hs : ∀ t, sh t ≤ sMd S) : WB (nfS S v sm sh 21) := by
  refine ⟨H.1.nf (by omega) (fun s => by have := hs s; omega) (Nat.le_refl _), fun j => ⟨nfN_lb H.2 hs 21 j, ?_⟩⟩
  have m := nfM_mono (S := S) (v := v) (sm := sm) (Nat.zero_le 21)
  have m0 : nfM S v sm 0 = sMd S := rfl
  have := (H.2 j).2
  show sMn S j ≤ nfM S v sm 21
  omega
theorem WB.nf {v w : Nat} (H : WB S) (hmd : sMd S + 25 ≤ 1000000) : WB (s_nf S v w) := H.nfS hmd (fun t => (H.2 _).1)
theorem WB.up {S : SV} {j x : Nat} (H : NB S) : (∀ i, va_up (sNd S) j (sMd S + 1) i ≤ sMd S + 1) ∧ (∀ i, x ≤ sMd S + 1 → va_up (sMn S) j x i ≤ sMd S + 1) := by
  refine ⟨fun i => ?_, fun i hx => ?_⟩
  · rw [va_up_app]; split
    · exact Nat.le_refl _
    · have := (H i).1; omega
  · rw [va_up_app]; split
    · exact hx
    · have := (H i).2; omega
theorem chS_NB {v n0 pl : Nat} (H : NB S) : ∀ s, NB (chS S v n0 pl s) := by
  intro s
  induction s with
  | zero => exact H
  | succ s ih =>
    rw [chS]
    show NB (if _ then _ else _)
    split
    · exact fun j => ⟨(WB.up (x := 0) ih).1 j, by have := (ih j).2; show sMn (chS S v n0 pl s) j ≤ sMd (chS S v n0 pl s) + 1; omega⟩
    · exact ih
theorem cnS_NB {v key : Nat} (H : NB S) : ∀ l, NB (cnS S v key l) := by
  intro l
  induction l with
  | zero => exact H
  | succ l ih =>
    rw [cnS_st]
    split
    · exact fun j => ⟨by have := (ih j).1; show sNd (cnS S v key l) j ≤ sMd (cnS S v key l) + 1; omega, (WB.up ih).2 j (Nat.le_refl _)⟩
    · refine fun j => ⟨(ih j).1, ?_⟩
      show va_up (sMn (cnS S v key l)) _ 0 j ≤ sMd (cnS S v key l)
      rw [va_up_app]; split
      · exact Nat.zero_le _
      · exact (ih j).2
theorem WB.mapS {b : Nat} (H : WB S) (hn : sNv S < 60) : WB (s_mapS S b) := by
  refine ⟨H.1.map hn, fun j => ⟨(H.2 j).1, ?_⟩⟩
  show blk (sMn S) (fun i => sMn S (341 * b + i)) 341 (sNv S) 341 j ≤ sMd S
  unfold blk
  split
  · exact (H.2 _).2
  · exact (H.2 j).2
theorem WB.mapN (H : WB S) (hn : sNv S < 60) : WB (s_mapN S) := by
  refine ⟨mp_B (H.1.new (by decide) hn) (by decide) (fun _ => Nat.zero_le _), fun j => ⟨(H.2 j).1, ?_⟩⟩
  show blk (sMn S) (fun _ => 0) 341 (sNv S) 341 j ≤ sMd S
  unfold blk
  split
  · exact Nat.zero_le _
  · exact (H.2 j).2
theorem WB.ch {v n0 pl : Nat} (H : WB S) (hmd : sMd S + 25 ≤ 1000000) : WB (chS S v n0 pl 21) := ⟨chS_B H.1 (by omega) 21 (Nat.le_refl _), chS_NB H.2 21⟩
theorem WB.cn {v key : Nat} (H : WB S) (hmd : sMd S + 25 ≤ 1000000) : WB (cnS S v key 5) := ⟨cnS_B H.1 (by omega) 5 (Nat.le_refl _), cnS_NB H.2 5⟩
theorem chX_if {S : SV} {v pl : Nat} {e : Int32} : chX S v pl e = if pl < sSz S v ∧ sEl S (64 * v + pl) = e then chE S v pl e else chS (chE S v pl e) v (sSz S v) pl 21 := rfl
theorem WB.chX {j : Nat} {e : Int32} (H : WB S) (hmd : sMd S + 25 ≤ 1000000) (hj : j < 64) : WB (chX S k j e) := by
  have a : WB (chE S k j e) := by
    refine WB.w4 (S := s_5 S (64 * k + j) e) H ?_
    split
    · exact H.1.2.2.2.1 k
    · omega
  rw [chX_if]
  split
  · exact a
  · exact a.ch hmd
theorem b_vector (H : WB S) (hmd : sMd S + 25 ≤ 1000000) : WB (o_vector S).2.2 := by
  have h60 := H.1.1
  unfold o_vector
  split
  · exact H
  · exact (H.new (by decide) (by omega)).nfS hmd (fun _ => Nat.zero_le _)
theorem b_append {e : Int32} (H : WB S) (hmd : sMd S + 25 ≤ 1000000) : WB (o_append S u k e).2.2 := by
  have h60 := H.1.1
  have hz := H.1.2.2.2.1 k
  unfold o_append
  split
  · exact H
  · split
    · exact H
    · split
      · exact H
      · next b =>
        have : sSz S k ≠ 64 := fun z => b (Or.inr z)
        split
        · exact H
        · exact (WB.w4 (S := s_5 (s_dup S 118 k) (64 * sNv S + sSz S k) e) ((H.new (by decide) (by omega)).cp) (by omega)).nf hmd
theorem b_set {i : Int32} {j : Nat} {e : Int32} (H : WB S) (hmd : sMd S + 25 ≤ 1000000) : WB (o_set S u k i j e).2.2 := by
  have h60 := H.1.1
  unfold o_set
  (repeat' split) <;> first | exact H | exact (WB.w5 (S := s_dup S 118 k) ((H.new (by decide) (by omega)).cp)).nf hmd
theorem b_cut (H : WB S) (hmd : sMd S + 25 ≤ 1000000) : WB (o_cut S u k).2.2 := by
  have h60 := H.1.1
  have hz := H.1.2.2.2.1 k
  unfold o_cut
  (repeat' split) <;> first | exact H | exact (WB.w4 (S := s_dup S 118 k) ((H.new (by decide) (by omega)).cp) (by omega)).nf hmd
theorem b_open (H : WB S) (hmd : sMd S + 25 ≤ 1000000) : WB (o_open S u k).2.2 := by
  have h60 := H.1.1
  unfold o_open
  (repeat' split) <;> first | exact H | exact WB.nf (S := s_dup S 111 k) ((H.new (by decide) (by omega)).cp) hmd
theorem b_lasting (H : WB S) (hmd : sMd S + 25 ≤ 1000000) : WB (o_lasting S u k).2.2 := by
  have h60 := H.1.1
  unfold o_lasting
  (repeat' split) <;> first | exact H | exact ((WB.nf (S := s_dup S 118 k) ((H.new (by decide) (by omega)).cp) hmd).w3 (by decide)).w4 (by decide)
theorem b_appendTo {e : Int32} (H : WB S) (hmd : sMd S + 25 ≤ 1000000) : WB (o_appendTo S u k e).2.2 := by
  have hz := H.1.2.2.2.1 k
  unfold o_appendTo
  split
  · exact H
  · split
    · exact H
    · split
      · exact H
      · next b =>
        have : sSz S k ≠ 64 := fun z => b (Or.inr z)
        exact H.chX hmd (by omega)
theorem b_setIn {i : Int32} {j : Nat} {e : Int32} (H : WB S) (hmd : sMd S + 25 ≤ 1000000) (hi : ixB i (sSz S k) = true → i = nI j ∧ j < sSz S k) : WB (o_setIn S u k i j e).2.2 := by
  have hz := H.1.2.2.2.1 k
  unfold o_setIn
  split
  · exact H
  · split
    · exact H
    · split
      · exact H
      · split
        · exact H
        · next c =>
          have hj := (hi (by cases q : ixB i (sSz S k) with | true => rfl | false => exact absurd q c)).2
          exact H.chX hmd (by omega)
theorem b_map (H : WB S) (hmd : sMd S + 25 ≤ 1000000) : WB (o_map S).2.2 := by
  have h60 := H.1.1
  unfold o_map
  split
  · exact H
  · have M := H.mapN (show sNv S < 60 by omega)
    have e : sMd (s_mapN S) = sMd S := rfl
    exact ⟨(M.1.w2 (by omega)).w10 (by omega), fun j => ⟨by have := (M.2 j).1; show sNd (s_mapN S) j ≤ sMd S + 1; omega, (WB.up (x := sMd S + 1) M.2).2 j (Nat.le_refl _)⟩⟩
theorem b_put {w : Int32} {j : Nat} {e : Int32} (H : WB S) (hmd : sMd S + 25 ≤ 1000000) (h40 : ixB u (sNv S) = true → sTy S k = 109 → sSz S k ≤ 40) : WB (o_put S u k w j e).2.2 := by
  have h60 := H.1.1
  unfold o_put
  split
  · exact H
  · next b0 =>
    have h40 := h40 (nb_t9 b0)
    split
    · exact H
    · split
      · exact H
      · next b =>
        have ht : sTy S k = 109 := by
          by_cases z : sTy S k = 109
          · exact z
          · exact absurd (Or.inl z) b
        have := h40 ht
        split
        · exact H
        · have P : WB (ptS S k j e) := WB.w4 (S := s_mapS S k) (H.mapS (by omega)) (by split <;> omega)
          split
          · exact P
          · exact P.cn hmd
theorem b_without {w : Int32} {j : Nat} (H : WB S) (hmd : sMd S + 25 ≤ 1000000) : WB (o_without S u k w j).2.2 := by
  have h60 := H.1.1
  have hz := H.1.2.2.2.1 k
  unfold o_without
  split
  · exact H
  · split
    · exact H
    · split
      · exact H
      · split
        · exact H
        · have P : WB (wtS S k j) := WB.w4 (S := s_9 (s_8 (s_mapS S k) (1000 * sNv S + j) false) (1000 * sNv S + j) (nI 0)) (H.mapS (by omega)) (by omega)
          exact P.cn hmd
theorem b_collect {n s : Nat} {x : Nat → QIS} (H : WB S) (hmd : sMd S + 25 ≤ 1000000) (ht : ixB u n = true → tot (q_F (x s)) ≤ 64) : WB (o_collect S n x u s).2.2.1 := by
  have h60 := H.1.1
  unfold o_collect
  split
  · exact H
  · next a =>
    split
    · exact H
    · split
      · exact H
      · split
        · exact H
        · have N := H.new (c := 118) (by decide) (show sNv S < 60 by omega)
          have C : WB (colK (s_new S 118) (q_F (x s)) (tot (q_F (x s))) (tot (q_F (x s)))) := WB.w4 N (ht (nb_t9 a))
          exact C.nfS hmd (fun _ => Nat.zero_le _)
/-- the model's sharing asks this -/
theorem NB.nd (H : NB S) : ∀ v s, ndN S v s ≤ sMd S := fun v s => by
  unfold ndN
  split
  · exact (H _).2
  · split
    · exact (H _).1
    · exact Nat.zero_le _
theorem WB.init : WB SV0 ∧ SVI SV0 := ⟨⟨⟨by decide, by decide, fun _ => show 0 < 65536 by decide, fun _ => Nat.zero_le _, fun _ => Nat.zero_le _, fun _ => Nat.zero_le _⟩, fun _ => ⟨Nat.le_refl _, Nat.le_refl _⟩⟩, by decide, fun v hv => absurd hv (Nat.not_lt_zero _), fun v w _ _ hv => absurd hv (Nat.not_lt_zero _), fun v _ hv => absurd hv (Nat.not_lt_zero _), fun v w _ _ hv => absurd hv (Nat.not_lt_zero _)⟩
end WBS
