/-! What is fixed in a run: the numbers of classes and slots, where the run's own heap begins, the JDK's constant objects, the script. -/
abbrev GG : Type := va_G × (FieldType → ClassId) × Nat × (Nat × Nat × Nat × (Nat → Nat)) × (Nat × Nat × (Nat → Int32))
abbrev gD (G : GG) : va_G := G.1
abbrev gC (G : GG) : FieldType → ClassId := G.2.1
abbrev gB (G : GG) : Nat := G.2.2.1
/-- the empty row of an ArrayList that nothing was added to; the class object of Object[]; the row of the small Integers, and they -/
abbrev gE (G : GG) : Nat := G.2.2.2.1.1
abbrev gM (G : GG) : Nat := G.2.2.2.1.2.1
abbrev gN (G : GG) : Nat := G.2.2.2.1.2.2.1
abbrev gI (G : GG) : Nat → Nat := G.2.2.2.1.2.2.2
abbrev gA (G : GG) : Nat → Prop := fun q => gB G ≤ q
abbrev gT (G : GG) : List (ClassId × FieldType) := arTys.map (fun ty => (gC G ty, ty))
def clX : List (String × String) := [("java/lang/IndexOutOfBoundsException", "java/lang/IllegalArgumentException"), ("java/lang/IndexOutOfBoundsException", "java/lang/IllegalStateException"), ("java/lang/IndexOutOfBoundsException", "java/lang/UnsupportedOperationException"), ("java/lang/IndexOutOfBoundsException", "java/util/NoSuchElementException"), ("java/lang/IllegalArgumentException", "java/lang/IndexOutOfBoundsException"), ("java/lang/IllegalArgumentException", "java/lang/IllegalStateException"), ("java/lang/IllegalArgumentException", "java/lang/UnsupportedOperationException"), ("java/lang/IllegalArgumentException", "java/util/NoSuchElementException"), ("java/lang/IllegalStateException", "java/lang/IndexOutOfBoundsException"), ("java/lang/IllegalStateException", "java/lang/IllegalArgumentException"), ("java/lang/IllegalStateException", "java/lang/UnsupportedOperationException"), ("java/lang/IllegalStateException", "java/util/NoSuchElementException"), ("java/lang/UnsupportedOperationException", "java/lang/IndexOutOfBoundsException"), ("java/lang/UnsupportedOperationException", "java/lang/IllegalArgumentException"), ("java/lang/UnsupportedOperationException", "java/lang/IllegalStateException"), ("java/lang/UnsupportedOperationException", "java/util/NoSuchElementException"), ("java/util/NoSuchElementException", "java/lang/IndexOutOfBoundsException"), ("java/util/NoSuchElementException", "java/lang/IllegalArgumentException"), ("java/util/NoSuchElementException", "java/lang/IllegalStateException"), ("java/util/NoSuchElementException", "java/lang/UnsupportedOperationException")]
def aoX : List String := ["PersistentParlour$Value", "PersistentParlour$Sequence", "PersistentParlour$Reference", "PersistentParlour$Transaction", "PersistentParlour$Agent", "PersistentParlour$WaitingRow", "PersistentParlour$Node", "PersistentParlour$Value", "java/lang/Object"]
def dwX : List Cond := lw_tbl.filter (fun w => match w with | .castable _ _ => true | .methodLinkNest _ _ _ _ => true | .fieldLinkNest _ _ _ _ _ _ => true | .declares _ => true | _ => false)
def srX : List (String × Nat × String) := lw_tbl.filterMap (fun w => match w with | .stringRef a b c => some (a, b, c) | _ => none)
/-- what the tables and the constant objects are, in a state of the run -/
def Sy (G : GG) (U : State) : Prop :=
  (∀ w ∈ dwX, va_Nw w U) ∧ (∀ C ∈ aoX, va_AO C U) ∧ (∀ q ∈ clX, va_Nc q.1 q.2 U) ∧ (∀ q ∈ srX, ∃ a, vk_R q.1 q.2.1 q.2.2 a U) ∧
  va_Z "java/util/ArrayList" "DEFAULTCAPACITY_EMPTY_ELEMENTDATA" "[Ljava/lang/Object;" (.ref (gE G)) (gA G) U U.heap ∧ va_Mi "[Ljava/lang/Object;" (gM G) U ∧
  vx_Zq Bundle.tN "UNASSIGNED_STACK" Bundle.steD (gA G) U U.heap ∧ vx_Zq Bundle.tN "SUPPRESSED_SENTINEL" Bundle.listD (gA G) U U.heap ∧
  vk_S 1 [4] [[97, 100, 107, 116]] (fun _ => gI G 1) (fun _ => gN G) (gA G) U U.heap ∧ va_Z "java/lang/String" "COMPACT_STRINGS" "Z" (.int 1) (gA G) U U.heap ∧
  ((∀ i, i < 2 → True ∧ gI G i < gB G) ∧ gI G 0 = G.2.2.2.2.1 ∧ (Cond.arrayOver (.array .int)).before #[] U = true) ∧ vk_R "PersistentParlourLaw" 207 "adkt" (gI G 1) U ∧ vx_Zq "jdk/internal/util/Preconditions" "SIOOBE_FORMATTER" "Ljava/util/function/BiFunction;" (gA G) U U.heap ∧
  va_X G.2.2.2.2.1 G.2.2.2.2.2.1 G.2.2.2.2.2.2 U U.heap ∧ G.2.2.2.2.1 < gB G
theorem va_Any.mv {E : String} {s U : State} {a : Nat} (hv : s.vm.Alike U.vm) (hH : U.heap[a]? = s.heap[a]?) (h : va_Any E s s.heap a) : va_Any E U U.heap a := by
  obtain ⟨cell, h1, h2, ⟨kC, h3⟩, h4⟩ := h
  refine ⟨cell, hH.trans h1, h2, ?_, fun comp hc => ?_⟩
  · have e := Vm.classes_bare U.vm cell.cls
    rw [hv.bare_eq, Vm.classes_bare, h3] at e
    cases hk : U.vm.classes[cell.cls]? with
    | none => rw [hk] at e; cases e
    | some k => exact ⟨k, rfl⟩
  · rw [hv.findClass] at hc
    rw [hv.assignable]
    exact h4 comp hc
theorem aoA_mv {s U : State} (hv : s.vm.Alike U.vm) (h : (Cond.arrayOver (.array .int)).before #[] s = true) : (Cond.arrayOver (.array .int)).before #[] U = true := by
  have e := Cond.arrayOver_setVmC (args := #[]) (s := s) hv (.array .int)
  rw [h] at e
  exact e
theorem dw_warm {s U : State} (hW : s.WarmedH U.vm) {w : Cond} (hw : w ∈ dwX) (h : va_Nw w s) : va_Nw w U := by
  have h2 := (List.mem_filter.mp hw).2
  cases w with
  | castable a b => exact va_Nw.warmC hW h
  | methodLinkNest a b c d => exact va_Nw.warmM hW h
  | fieldLinkNest a b c d e f => exact va_Nw.warmF hW h
  | declares a => exact va_Nw.warmD hW h
  | _ => cases h2
theorem Sy.moved {G : GG} {s U : State} (hB : gB G ≤ s.heap.size) (hW : s.WarmedH U.vm) (hH : ∀ q : Nat, q < gB G → U.heap[q]? = s.heap[q]?) (h : Sy G s) : Sy G U := by
  have hv := hW.alike
  have hq : ∀ a : Nat, a < s.heap.size → ¬ gA G a → U.heap[a]? = s.heap[a]? := fun a _ h2 => hH a (Nat.not_le.mp h2)
  obtain ⟨h1, h2, h3, h4, h5, h6, h7, h8, h9, h10, h11, h12, h13, h14, h15⟩ := h
  exact ⟨fun w hw => dw_warm hW hw (h1 w hw), fun C hC => (h2 C hC).moved hv, fun q hq => (h3 q hq).moved hv, fun q hq => (h4 q hq).elim fun a ha => ⟨a, ha.warm hW⟩,
    (h5.moved hv).kept hq, h6.moved hv, (h7.moved hv).kept hq, (h8.moved hv).kept hq, (h9.moved hv).kept hq, (h10.moved hv).kept hq, ⟨fun i hi => ⟨trivial, (h11.1 i hi).2⟩, h11.2.1, aoA_mv hv h11.2.2⟩, h12.warm hW, (h13.moved hv).kept hq, (h14.moved hv).kept (hH _ h15), h15⟩
def Sx (G : GG) (U : State) : Prop := va_K (gD G) vwCl (gT G) U ∧ gB G ≤ U.heap.size ∧ Sy G U
theorem Sx.moved {G : GG} {s U : State} (hW : s.WarmedH U.vm) (hz : gB G ≤ U.heap.size) (hH : ∀ q : Nat, q < gB G → U.heap[q]? = s.heap[q]?) (h : Sx G s) : Sx G U := ⟨va_K.moved hW.alike h.1, hz, Sy.moved h.2.1 hW hH h.2.2⟩
/-- what stands at an address -/
def encE (G : GG) (h : Hp) (a : Nat) : va_E := match arTy (h_k h a) with
  | some ty => .inl (gC G ty, encA h a ty)
  | none => .inr (h_k h a - 1, encO h a (h_k h a - 1))
/-- an object or row as far as a run's start knows it: its class, its fields or its length -/
def WkC (G : GG) (q : Nat × va_E) (H : Heap) : Prop := ∃ cell : Cell, H[q.1]? = some cell ∧ cell.vm.isStatics = false ∧ cell.vm ≠ .unknown ∧ (match q.2 with
  | .inl x => cell.cls = x.1 ∧ cell.slots.size.toInt32 = Int32.ofNat x.2.1
  | .inr o => cell.cls = (gD G).1 o.1 ∧ ∀ (k : Nat) (v : Value), o.2[k]? = some v → cell.slots[(gD G).2 o.1 k]? = some v)
theorem WkC.kept {G : GG} {q : Nat × va_E} {H H1 : Heap} (hw : WkC G q H) (e : H1[q.1]? = H[q.1]?) : WkC G q H1 := by
  obtain ⟨cell, q1, q2⟩ := hw
  exact ⟨cell, by rw [e]; exact q1, q2⟩
theorem WkC.lt {G : GG} {q : Nat × va_E} {H : Heap} (hw : WkC G q H) : q.1 < H.size := by
  obtain ⟨cell, q1, -⟩ := hw
  exact (Array.getElem?_eq_some_iff.mp q1).1
def Rep (G : GG) (h : Hp) (H : Heap) : Prop :=
  (∃ L : List Nat, (∀ a, a ∈ L ↔ (gB G ≤ a ∧ h_k h a ≠ 0)) ∧ va_P (gD G) vwCl (va_pl L (encE G h)) H ∧ va_D (gA G) (va_pl L (encE G h))) ∧
  (∀ a, a < gB G → h_k h a ≠ 0 → (WkC G (a, encE G h a) H ∧ (h_k h a = 1 ∨ (h_k h a = 118 ∧ h_n h a = 0))) ∨ (h_k h a = 200 ∧ ∃ i, i < 2 ∧ a = gI G i))
theorem Rep.at {G : GG} {h : Hp} {H : Heap} (hr : Rep G h H) {a : Nat} (ha : h_k h a ≠ 0) (hb : gB G ≤ a) : va_at (gD G) vwCl (a, encE G h a) H := by
  obtain ⟨L, hL, hP, -⟩ := hr.1
  have hm : (a, encE G h a) ∈ va_pl L (encE G h) := List.mem_map.mpr ⟨a, (hL a).mpr ⟨hb, ha⟩, rfl⟩
  obtain ⟨k, hk'⟩ := List.getElem?_of_mem hm
  exact hP k _ hk'
theorem Rep.one {G : GG} {h : Hp} {H : Heap} (hr : Rep G h H) {a : Nat} (ha : h_k h a ≠ 0) (hb : gB G ≤ a) : va_P (gD G) vwCl [(a, encE G h a)] H := by
  intro k q hq
  match k, hq with
  | 0, hq => cases hq; exact hr.at ha hb
theorem encE_obj {G : GG} {h : Hp} {a ci : Nat} (hc : h_k h a = ci + 1) (hci : ci < 18) : encE G h a = .inr (ci, encO h a ci) := by
  unfold encE
  rw [hc]
  have : arTy (ci + 1) = none := by
    match ci, hci with
    | 0, _ => rfl | 1, _ => rfl | 2, _ => rfl | 3, _ => rfl | 4, _ => rfl | 5, _ => rfl | 6, _ => rfl | 7, _ => rfl | 8, _ => rfl | 9, _ => rfl | 10, _ => rfl | 11, _ => rfl | 12, _ => rfl | 13, _ => rfl | 14, _ => rfl | 15, _ => rfl | 16, _ => rfl | 17, _ => rfl
    | n + 18, h => omega
  rw [this]
  rfl
theorem encE_arr {G : GG} {h : Hp} {a : Nat} {ty : FieldType} (hc : arTy (h_k h a) = some ty) : encE G h a = .inl (gC G ty, encA h a ty) := by
  unfold encE
  rw [hc]
theorem arTy0 {k : Nat} {ty : FieldType} (h : arTy k = some ty) : k ≠ 0 := by
  intro e; subst e; cases h
theorem encO_get {h : Hp} {a ci k : Nat} (hk' : k < clN ci) : (encO h a ci)[k]? = some (encF h a (clTy ci k) k) := by
  unfold encO
  rw [List.getElem?_map, List.getElem?_range hk']
  rfl
theorem encO_len {h : Hp} {a ci : Nat} : (encO h a ci).length = clN ci := by simp [encO]
theorem Rep.same {G : GG} {h h' : Hp} {H : Heap} (hr : Rep G h H) (hkk : h_k h' = h_k h) (hnn : h_n h' = h_n h) (he : ∀ a, encE G h' a = encE G h a) : Rep G h' H := by
  have e : encE G h' = encE G h := funext he
  obtain ⟨⟨L, h1, h2, h3⟩, h4⟩ := hr
  exact ⟨⟨L, by rw [hkk]; exact h1, by rw [e]; exact h2, by rw [e]; exact h3⟩, by rw [e, hkk, hnn]; exact h4⟩
/-- one object or row is written -/
theorem Rep.put {G : GG} {h h' : Hp} {H H1 : Heap} {L : List Nat} {a k : Nat} (hr : Rep G h H) (hL : ∀ a, a ∈ L ↔ (gB G ≤ a ∧ h_k h a ≠ 0)) (hP : va_P (gD G) vwCl (va_pl L (encE G h)) H) (hD : va_D (gA G) (va_pl L (encE G h))) (ha : a ∈ L) (hk1 : (va_pl L (encE G h))[k]? = some (a, encE G h a))
    (hkk : h_k h' = h_k h) (hnn : h_n h' = h_n h) {e : va_E} (he : encE G h' a = e) (ho : ∀ b, b ≠ a → encE G h' b = encE G h b) (hP1 : va_P (gD G) vwCl ((va_pl L (encE G h)).set k (a, e)) H1) (hD1 : va_D (gA G) ((va_pl L (encE G h)).set k (a, e))) (hH : ∀ q : Nat, q < gB G → H1[q]? = H[q]?) : Rep G h' H1 := by
  have hs : (va_pl L (encE G h)).set k (a, e) = va_pl L (encE G h') := by
    have h1 := va_pl_set (X := []) (e := e) hD ha hk1
    rw [show (va_pl L (encE G h)).set k (a, e) = ([] ++ va_pl L (encE G h)).set k (a, e) from rfl, h1]
    show va_pl L (va_up (encE G h) a e) = _
    refine va_pl_congr fun b => ?_
    by_cases hb : b = a
    · subst hb; rw [va_up_self, he]
    · rw [va_up_ne _ _ hb, ho b hb]
  rw [hs] at hP1 hD1
  refine ⟨⟨L, by rw [hkk]; exact hL, hP1, hD1⟩, fun b hb hb0 => ?_⟩
  rw [hkk] at hb0
  have hba : b ≠ a := fun q => by
    have := ((hL a).mp ha).1
    omega
  rw [ho b hba, hkk, hnn]
  exact (hr.2 b hb hb0).imp (fun g => ⟨g.1.kept (hH b hb), g.2⟩) id
/-- one object or row is made -/
theorem Rep.new {G : GG} {h : Hp} {H H1 : Heap} {q kd n : Nat} (hr : Rep G h H) (hq : H.size = q) (hb : gB G ≤ q) (hkd : kd ≠ 0) (he : va_at (gD G) vwCl (q, encE G (mk h q kd n) q) H1) (ho : ∀ a : Nat, a < q → H1[a]? = H[a]?) : h_k h q = 0 ∧ Rep G (mk h q kd n) H1 := by
  obtain ⟨⟨L, hL, hP, hD⟩, h4⟩ := id hr
  have hlt : ∀ a, a ∈ L → a < q := fun a ha => by
    obtain ⟨k, hk1⟩ := List.getElem?_of_mem (show (a, encE G h a) ∈ va_pl L (encE G h) from List.mem_map.mpr ⟨a, ha, rfl⟩)
    rw [← hq]
    exact (hP k _ hk1).lt
  have hqL : q ∉ L := fun hh => Nat.lt_irrefl _ (hlt q hh)
  have hq0 : h_k h q = 0 := by
    rcases Nat.eq_zero_or_pos (h_k h q) with e | e
    · exact e
    · exact absurd ((hL q).mpr ⟨hb, by omega⟩) hqL
  have hen : ∀ a, a ≠ q → encE G (mk h q kd n) a = encE G h a := fun a ha => by
    unfold encE encO encA encF
    simp only [h_k, h_n, h_I, h_R, h_L, h_F, mk, va_up_ne _ _ ha]
  refine ⟨hq0, ⟨L ++ [q], fun a => ?_, ?_, ?_⟩, fun a ha ha0 => ?_⟩
  · rw [List.mem_append, List.mem_singleton]
    by_cases e : a = q
    · subst e
      simp only [h_k, mk, va_up_self, or_true, true_iff]
      exact ⟨hb, hkd⟩
    · simp only [e, or_false, h_k, mk, va_up_ne _ _ e]
      exact hL a
  · have e1 : va_pl (L ++ [q]) (encE G (mk h q kd n)) = va_pl L (encE G h) ++ [(q, encE G (mk h q kd n) q)] := by
      simp only [va_pl, List.map_append, List.map_cons, List.map_nil]
      congr 1
      exact List.map_congr_left fun b hb' => by rw [hen b (fun e => hqL (e ▸ hb'))]
    rw [e1]
    refine (hP.kept fun k x hx => ho _ ?_).app ?_
    · obtain ⟨y, hy, e⟩ := List.mem_map.mp (List.mem_of_getElem? hx)
      rw [← e]
      exact hlt y hy
    · intro k x hx
      match k, hx with
      | 0, hx => cases hx; exact he
  · have e1 : va_pl (L ++ [q]) (encE G (mk h q kd n)) = va_pl L (encE G h) ++ [(q, encE G (mk h q kd n) q)] := by
      simp only [va_pl, List.map_append, List.map_cons, List.map_nil]
      congr 1
      exact List.map_congr_left fun b hb' => by rw [hen b (fun e => hqL (e ▸ hb'))]
    rw [e1]
    exact hD.push hP hq.symm hb
  · have e : a ≠ q := by omega
    rw [hen a e]
    simp only [h_k, h_n, mk, va_up_ne _ _ e] at ha0 ⊢
    exact (h4 a ha ha0).imp (fun g => ⟨g.1.kept (ho a (by omega)), g.2⟩) id
