/-! The model: what waits; a reference comes; new references and agents. -/
theorem PEr.mk2 {h : Hp} {K : Nat} {a b : Int32} : PEr (wI (wI (mk h (nm 22 K) 101 2) (nm 22 K) 0 a) (nm 22 K) 1 b) (nm 22 K) [a, b] := by
  refine ⟨⟨K, rfl⟩, by rw [gk_wI, gk_wI, gk_mk, if_pos rfl], by rw [gn_wI, gn_wI, gn_mk, if_pos rfl]; rfl, fun m hm => ?_⟩
  match m, hm with
  | 0, _ => rw [gI_wI, if_neg (fun z => absurd z.2 (by decide)), gI_wI, if_pos ⟨rfl, rfl⟩]; rfl
  | 1, _ => rw [gI_wI, if_pos ⟨rfl, rfl⟩]; rfl
theorem ce_row2 {h : Hp} {q b : Nat} {x y : Int32} (e : b ≠ q) : ce (wI (wI (mk h q 101 2) q 0 x) q 1 y) b = ce h b := (ce_wI e).trans ((ce_wI e).trans (ce_mk e))
/-- one more number waits -/
def tkL (l : List Int32) (z : Int32) : List Int32 := if l.length < 12 then l ++ [z] else l
theorem lt_iff_i {x : Int32} (h1 : -128 ≤ x.toInt) : ¬ x < -128 := fun e => by
  have := i32_lt.mp e
  have e2 : (-128 : Int32).toInt = -128 := by decide
  omega
theorem gt_iff_i {x : Int32} (h1 : x.toInt ≤ 127) : ¬ 127 < x := fun e => by
  have := i32_lt.mp e
  have e2 : (127 : Int32).toInt = 127 := by decide
  omega
/-- the history, with q behind it -/
def cmH (hs : List (Nat × Int32)) (lim : Nat) (q : Nat × Int32) : List (Nat × Int32) := if lim < hs.length + 1 then (hs ++ [q]).tail else hs ++ [q]
def WC (r K : Nat) : Nat → Prop := fun a => WRf r a ∨ a = nm 22 K
theorem WC_n {r K s i : Nat} (h : ¬ ((4 ≤ s ∧ s ≤ 5 ∧ i = r) ∨ (s = 23 ∧ i % 16 = r) ∨ (s = 22 ∧ i = K))) (hs : s < 128) : ¬ WC r K (nm s i) := by unfold WC WRf nm; omega
theorem L2_app {l : List (Nat × Int32)} {q : Nat × Int32} : (l ++ [q]).map (fun q => [nI q.1, q.2]) = l.map (fun q => [nI q.1, q.2]) ++ [[nI q.1, q.2]] := by rw [List.map_append]; rfl
theorem L2_tl {l : List (Nat × Int32)} : (l.map (fun q => [nI q.1, q.2])).eraseIdx 0 = l.tail.map (fun q => [nI q.1, q.2]) := by
  cases l <;> rfl
theorem JC.fr {h h' : Hp} (J : JC h) (hc : ∀ i, ce h' (nm 0 i) = ce h (nm 0 i)) : JC h' := ⟨(ce_k (hc 0)).trans J.1, (ce_n (hc 0)).trans J.2.1, fun i hi => ⟨(ce_k (hc _)).trans (J.2.2 i hi).1, rfl⟩⟩
theorem nm_0' {r i : Nat} : (0 = nm r i) = (r = 0 ∧ i = 0) := by
  apply propext
  unfold nm
  omega
