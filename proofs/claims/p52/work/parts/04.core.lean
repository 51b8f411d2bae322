/-! THE WALK, SEEN FROM OUTSIDE: a method's state is its pc, locals, operand stack (as numbers and references) and ONE heap: total functions of addresses; the machine's own context is inside the word WP. -/
-- numbers and references, as the walk sees them: one word, or two
abbrev AV : Type := (Int32 ⊕ Option Nat ⊕ UInt32) ⊕ (Int64 ⊕ UInt64)
abbrev vi (x : Int32) : AV := .inl (.inl x)
abbrev vr (r : Option Nat) : AV := .inl (.inr (.inl r))
abbrev vf (x : UInt32) : AV := .inl (.inr (.inr x))
abbrev vl (x : Int64) : AV := .inr (.inl x)
abbrev vd (x : UInt64) : AV := .inr (.inr x)
def toV : AV → Value
  | .inl (.inl x) => .int x
  | .inl (.inr (.inl r)) => va_rf r
  | .inl (.inr (.inr x)) => .float x
  | .inr (.inl x) => .long x
  | .inr (.inr x) => .double x
def av2 : AV → Bool
  | .inl _ => false
  | .inr _ => true
theorem toV_cat (v : AV) : (toV v).category = if av2 v = true then 2 else 1 := by
  rcases v with (x | r | x) | (x | x) <;> first | rfl | (cases r <;> rfl)
theorem toV_cat2 (v : AV) : ((toV v).category == 2) = av2 v := by
  rw [toV_cat]; cases av2 v <;> rfl
-- locals
abbrev LV : Type := List (Nat × AV)
def lk : LV → Nat → Option AV
  | [], _ => none
  | (j, v) :: r, i => if j = i then some v else lk r i
def lset (lv : LV) (i : Nat) (v : AV) : LV := (i, v) :: lv.filter (fun q => !(q.1 == i) && !(q.1 + 1 == i && av2 q.2))
abbrev lmap (lv : LV) : List (Nat × Value) := lv.map (fun q => (q.1, toV q.2))
theorem lk_mem {lv : LV} {i : Nat} {v : AV} (h : lk lv i = some v) : (i, v) ∈ lv := by
  induction lv with
  | nil => cases h
  | cons q r ih =>
    obtain ⟨j, w⟩ := q
    unfold lk at h
    split at h
    · rename_i e
      cases h; subst e
      exact List.mem_cons_self
    · exact List.mem_cons_of_mem _ (ih h)
theorem lset_map (lv : LV) (i : Nat) (v : AV) : (i, toV v) :: (lmap lv).filter (fun q => !(q.1 == i) && !(q.1 + 1 == i && q.2.category == 2)) = lmap (lset lv i v) := by
  simp only [lset, lmap, List.map_cons, List.filter_map]
  congr 2
  apply List.filter_congr
  intro q _
  simp only [Function.comp_apply, toV_cat2]
theorem lk_get {ls : Array Slot} {n : Nat} {lv : LV} {i : Nat} {v : AV} (h : lv_has ls n (lmap lv)) (h_k : lk lv i = some v) : ls[i]? = some (.val (toV v)) := h.2.2 (i, toV v) (List.mem_map.mpr ⟨(i, v), lk_mem h_k, rfl⟩)
theorem lk_sub {ls : Array Slot} {n : Nat} {lv lv' : LV} (h : lv_has ls n (lmap lv)) (hs : ∀ q ∈ lv', q ∈ lv) : lv_has ls n (lmap lv') := by
  refine ⟨h.1, h.2.1, fun q hq => ?_⟩
  obtain ⟨z, hz, rfl⟩ := List.mem_map.mp hq
  exact h.2.2 _ (List.mem_map.mpr ⟨z, hs z hz, rfl⟩)
-- the heap: kinds, lengths, what places hold
abbrev Hp : Type := (Nat → Nat) × (Nat → Nat) × (Nat → Nat → Int32) × (Nat → Nat → Option Nat) × (Nat → Nat → Int64) × (Nat → Nat → UInt64)
abbrev h_k (h : Hp) : Nat → Nat := h.1
abbrev h_n (h : Hp) : Nat → Nat := h.2.1
abbrev h_I (h : Hp) : Nat → Nat → Int32 := h.2.2.1
abbrev h_R (h : Hp) : Nat → Nat → Option Nat := h.2.2.2.1
abbrev h_L (h : Hp) : Nat → Nat → Int64 := h.2.2.2.2.1
abbrev h_F (h : Hp) : Nat → Nat → UInt64 := h.2.2.2.2.2
def up2 {α : Type} (f : Nat → Nat → α) (a k : Nat) (v : α) : Nat → Nat → α := va_up f a (va_up (f a) k v)
abbrev wI (h : Hp) (a k : Nat) (v : Int32) : Hp := (h_k h, h_n h, up2 (h_I h) a k v, h_R h, h_L h, h_F h)
abbrev wR (h : Hp) (a k : Nat) (v : Option Nat) : Hp := (h_k h, h_n h, h_I h, up2 (h_R h) a k v, h_L h, h_F h)
abbrev wL (h : Hp) (a k : Nat) (v : Int64) : Hp := (h_k h, h_n h, h_I h, h_R h, up2 (h_L h) a k v, h_F h)
abbrev wF (h : Hp) (a k : Nat) (v : UInt64) : Hp := (h_k h, h_n h, h_I h, h_R h, h_L h, up2 (h_F h) a k v)
abbrev mk (h : Hp) (q kd n : Nat) : Hp := (va_up (h_k h) q kd, va_up (h_n h) q n, va_up (h_I h) q (fun _ => 0), va_up (h_R h) q (fun _ => none), va_up (h_L h) q (fun _ => 0), va_up (h_F h) q (fun _ => 0))
abbrev cpI (h : Hp) (a : Nat) (f : Nat → Int32) : Hp := (h_k h, h_n h, va_up (h_I h) a f, h_R h, h_L h, h_F h)
abbrev cpR (h : Hp) (a : Nat) (f : Nat → Option Nat) : Hp := (h_k h, h_n h, h_I h, va_up (h_R h) a f, h_L h, h_F h)
-- the kinds: objects of class ci: ci + 1; arrays from 101 on
def clTy : Nat → Nat → FieldType
  | 0 => tyJx4a65c | 1 => tyJx4a65c | 2 => tyJx4a65c | 3 => tyX0 | 4 => tyX1 | 5 => tyX3 | 6 => tyX4 | 7 => tyX5 | 8 => tyX6 | 9 => tyX7 | 10 => tyX8 | 11 => tyX10 | 12 => tyX11 | 13 => tyX0 | 14 => tyX0 | 15 => tyX0 | 16 => tyX0 | _ => tyX0
def clN : Nat → Nat
  | 0 => 3 | 1 => 3 | 2 => 3 | 3 => 7 | 4 => 4 | 5 => 7 | 6 => 1 | 7 => 7 | 8 => 9 | 9 => 10 | 10 => 5 | 11 => 2 | 12 => 14 | _ => 7
def arTy : Nat → Option FieldType
  | 101 => some .int | 102 => some .boolean 
  | 110 => some (.object "PersistentParlour$Value") | 111 => some (.object "PersistentParlour$Sequence") | 112 => some (.object "PersistentParlour$Reference") | 113 => some (.object "PersistentParlour$Transaction") | 114 => some (.object "PersistentParlour$Agent") | 115 => some (.object "PersistentParlour$WaitingRow") | 116 => some (.object "PersistentParlour$Node") | 118 => some (.object "java/lang/Object") | 119 => some (.array .int)
  | _ => none
def arTys : List FieldType := [.int, .boolean, .int, .int, .int, .object "PersistentParlour$Value", .object "PersistentParlour$Sequence", .object "PersistentParlour$Reference", .object "PersistentParlour$Transaction", .object "PersistentParlour$Agent", .object "PersistentParlour$WaitingRow", .object "PersistentParlour$Node", .object "PersistentParlour$Value", .object "java/lang/Object", .array .int]
theorem arTy_in {k : Nat} {ty : FieldType} (h : arTy k = some ty) : ty ∈ arTys := by
  unfold arTy at h
  split at h <;> cases h <;> decide
def encF (h : Hp) (a : Nat) (ty : FieldType) (k : Nat) : Value := match ty with
  | .long => .long (h_L h a k)
  | .double => .double (h_F h a k)
  | .float => .float 0
  | .object _ => va_rf (h_R h a k)
  | .array _ => va_rf (h_R h a k)
  | _ => .int (h_I h a k)
def encA (h : Hp) (a : Nat) (ty : FieldType) : vp_A := (h_n h a, match ty with
  | .long => .inr (.inl (h_L h a))
  | .double => .inr (.inr (.inr (.inl (h_F h a))))
  | .object _ => .inr (.inr (.inr (.inr (h_R h a))))
  | .array _ => .inr (.inr (.inr (.inr (h_R h a))))
  | _ => .inl (h_I h a))
def encO (h : Hp) (a ci : Nat) : List Value := (List.range (clN ci)).map (fun k => encF h a (clTy ci k) k)
