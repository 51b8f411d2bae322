/-! NAMES. The walk again, over a heap whose addresses are NAMES that the prover chooses: the name of a new object is any that nothing has yet. The machine's own addresses stay inside the word WP. The name nm r i = 128 * i + r; role 0 is the JDK's: 0 the empty row of an ArrayList, 128 * (i + 1) the small Integers. -/
abbrev nm (r i : Nat) : Nat := 128 * i + r
def am1 (α : Nat → Nat) : Int32 ⊕ Option Nat ⊕ UInt32 → Int32 ⊕ Option Nat ⊕ UInt32
  | .inl x => .inl x
  | .inr (.inl r) => .inr (.inl (r.map α))
  | .inr (.inr f) => .inr (.inr f)
def am (α : Nat → Nat) : AV → AV
  | .inl a => .inl (am1 α a)
  | .inr b => .inr b
theorem am_av2 {α : Nat → Nat} (v : AV) : av2 (am α v) = av2 v := by cases v <;> rfl
abbrev lm (α : Nat → Nat) (lv : LV) : LV := lv.map (fun q => (q.1, am α q.2))
abbrev sm (α : Nat → Nat) (st : List AV) : List AV := st.map (am α)
def inD (T : Hp) : AV → Prop
  | .inl (.inr (.inl r)) => ∀ a, r = some a → h_k T a ≠ 0
  | _ => True
def SI (T : Hp) (st : List AV) : Prop := ∀ v ∈ st, inD T v
def LI (T : Hp) (lv : LV) : Prop := ∀ q ∈ lv, inD T q.2
theorem SI.nil {T : Hp} : SI T [] := fun _ h => nomatch h
theorem SI.cons {T : Hp} {v : AV} {st : List AV} (h : SI T st) (hv : inD T v) : SI T (v :: st) := List.forall_mem_cons.mpr ⟨hv, h⟩
theorem SI.tl {T : Hp} {v : AV} {st : List AV} (h : SI T (v :: st)) : SI T st := (List.forall_mem_cons.mp h).2
theorem SI.hd {T : Hp} {v : AV} {st : List AV} (h : SI T (v :: st)) : inD T v := (List.forall_mem_cons.mp h).1
theorem lk_lm {α : Nat → Nat} {lv : LV} {i : Nat} {v : AV} (h : lk lv i = some v) : lk (lm α lv) i = some (am α v) := by
  induction lv with
  | nil => cases h
  | cons q r ih =>
    obtain ⟨j, x⟩ := q
    show (if j = i then some (am α x) else lk (lm α r) i) = _
    unfold lk at h
    split at h
    · next e => rw [if_pos e]; cases h; rfl
    · next e => rw [if_neg e]; exact ih h
theorem lset_lm {α : Nat → Nat} {lv : LV} {i : Nat} {v : AV} : lset (lm α lv) i (am α v) = lm α (lset lv i v) := by
  simp only [lset, lm, List.map_cons, List.filter_map]
  congr 2
  apply List.filter_congr
  intro q _
  simp only [Function.comp_apply, am_av2]
theorem lset2_lm {α : Nat → Nat} {lv : LV} {i : Nat} {v : AV} : lset2 (lm α lv) i (am α v) = lm α (lset2 lv i v) := by
  simp only [lset2, lm, List.map_cons, List.filter_map]
  congr 2
  apply List.filter_congr
  intro q _
  simp only [Function.comp_apply, am_av2]
theorem LI.get {T : Hp} {lv : LV} (h : LI T lv) {i : Nat} {v : AV} (hv : lk lv i = some v) : inD T v := h _ (lk_mem hv)
theorem LI.set {T : Hp} {lv : LV} (h : LI T lv) {i : Nat} {v : AV} (hv : inD T v) : LI T (lset lv i v) := by
  intro q hq
  rcases List.mem_cons.mp hq with e | e
  · rw [e]; exact hv
  · exact h q (List.mem_filter.mp e).1
theorem LI.set2 {T : Hp} {lv : LV} (h : LI T lv) {i : Nat} {v : AV} (hv : inD T v) : LI T (lset2 lv i v) := by
  intro q hq
  rcases List.mem_cons.mp hq with e | e
  · rw [e]; exact hv
  · exact h q (List.mem_filter.mp e).1
def NP (G : GG) (α : Nat → Nat) (T h : Hp) : Prop :=
  (∀ n, h_k T n ≠ 0 → h_k h (α n) = h_k T n ∧ h_n h (α n) = h_n T n ∧ h_I h (α n) = h_I T n ∧ h_R h (α n) = (fun j => (h_R T n j).map α) ∧ h_L h (α n) = h_L T n ∧ h_F h (α n) = h_F T n) ∧
  (∀ n n', h_k T n ≠ 0 → h_k T n' ≠ 0 → α n = α n' → n = n') ∧
  (∀ n j x, h_k T n ≠ 0 → h_R T n j = some x → h_k T x ≠ 0) ∧
  (α 0 = gE G ∧ h_k T 0 = 118 ∧ h_n T 0 = 0 ∧ ∀ i, i < 2 → α (nm 0 (i + 1)) = gI G i ∧ h_k T (nm 0 (i + 1)) = 200 ∧ ∀ n j x, h_k T n = 118 → h_R T n j = some x → h_k T x ≠ 200)
def ext (α : Nat → Nat) (T : Hp) (α' : Nat → Nat) (T' : Hp) : Prop := ∀ n, h_k T n ≠ 0 → h_k T' n ≠ 0 ∧ α' n = α n
theorem ext.rf {α : Nat → Nat} {T T' : Hp} (e : h_k T' = h_k T) : ext α T α T' := fun n h => ⟨by rw [e]; exact h, rfl⟩
theorem ext.tr {α α1 α2 : Nat → Nat} {T T1 T2 : Hp} (a : ext α T α1 T1) (b : ext α1 T1 α2 T2) : ext α T α2 T2 := fun n h => ⟨(b n (a n h).1).1, (b n (a n h).1).2.trans (a n h).2⟩
def om (α : Nat → Nat) : Out → Out
  | .inl v => .inl (v.map (am α))
  | .inr E => .inr E
def inO (T : Hp) : Out → Prop
  | .inl (some v) => inD T v
  | _ => True
def Up (G : GG) (α : Nat → Nat) (T : Hp) (Q Q' : Pst) : Prop := ∀ α' T' h' o, NP G α' T' h' → ext α T α' T' → inO T' o → Q o T' → Q' (om α' o) h'
theorem Up.st {G : GG} {α α1 : Nat → Nat} {T T1 : Hp} {Q Q' : Pst} (hU : Up G α T Q Q') (e : ext α T α1 T1) : Up G α1 T1 Q Q' := fun α' T' h' o a b c d => hU α' T' h' o a (e.tr b) c d
theorem inD_ext {α α' : Nat → Nat} {T T' : Hp} {v : AV} (h : inD T v) (e : ext α T α' T') : inD T' v ∧ am α' v = am α v := by
  rcases v with (x | r | x) | x
  · exact ⟨trivial, rfl⟩
  · refine ⟨fun a ha => (e a (h a ha)).1, ?_⟩
    cases r with
    | none => rfl
    | some a =>
      show (.inl (.inr (.inl (some (α' a)))) : AV) = .inl (.inr (.inl (some (α a))))
      rw [(e a (h a rfl)).2]
  · exact ⟨trivial, rfl⟩
  · exact ⟨trivial, rfl⟩
theorem LI.ext {α α' : Nat → Nat} {T T' : Hp} {lv : LV} (h : LI T lv) (e : ext α T α' T') : LI T' lv := fun q hq => (inD_ext (h q hq) e).1
theorem SI.ext {α α' : Nat → Nat} {T T' : Hp} {st : List AV} (h : SI T st) (e : ext α T α' T') : SI T' st := fun q hq => (inD_ext (h q hq) e).1
theorem lm_ext {α α' : Nat → Nat} {T T' : Hp} {lv : LV} (h : LI T lv) (e : ext α T α' T') : lm α' lv = lm α lv := List.map_congr_left fun q hq => by rw [(inD_ext (h q hq) e).2]
theorem sm_ext {α α' : Nat → Nat} {T T' : Hp} {st : List AV} (h : SI T st) (e : ext α T α' T') : sm α' st = sm α st := List.map_congr_left fun q hq => (inD_ext (h q hq) e).2
def WP (G : GG) (y : MI) (d pc : Nat) (lv : LV) (st : List AV) (h : Hp) (bc bs : Nat) (Q : Pst) : Prop :=
  ∀ (α : Nat → Nat) (h' : Hp), NP G α h h' → LI h lv → SI h st → ∀ Q' : Pst, Up G α h Q Q' → WQ G y d pc (lm α lv) (sm α st) h' bc bs Q'
def WX (G : GG) (y : MI) (d pc : Nat) (lv : LV) (h : Hp) (bc bs : Nat) (Q : Pst) (E : String) : Prop :=
  ∀ (α : Nat → Nat) (h' : Hp), NP G α h h' → LI h lv → ∀ Q' : Pst, Up G α h Q Q' → WXq G y d pc (lm α lv) h' bc bs Q' E
theorem nu_self {α : Type} {f : Nat → Nat → α} {a k : Nat} {v : α} : up2 f a k v a = va_up (f a) k v := by unfold up2; rw [va_up_self]
theorem nu_ne {α : Type} {f : Nat → Nat → α} {a k b : Nat} {v : α} (h : b ≠ a) : up2 f a k v b = f b := by unfold up2; rw [va_up_ne _ _ h]
theorem NP.inj {G : GG} {α : Nat → Nat} {T h : Hp} (hN : NP G α T h) {n a : Nat} (hn : h_k T n ≠ 0) (ha : h_k T a ≠ 0) (e : n ≠ a) : α n ≠ α a := fun q => e (hN.2.1 n a hn ha q)
theorem NP.wI {G : GG} {α : Nat → Nat} {T h : Hp} (hN : NP G α T h) {a k : Nat} {x : Int32} (ha : h_k T a ≠ 0) (h1 : h_k T a ≠ 1) : NP G α (wI T a k x) (wI h (α a) k x) := by
  refine ⟨fun n hn => ?_, hN.2.1, hN.2.2.1, hN.2.2.2.1, hN.2.2.2.2.1, hN.2.2.2.2.2.1, fun i hi => ⟨(hN.2.2.2.2.2.2 i hi).1, (hN.2.2.2.2.2.2 i hi).2.1, ?_⟩⟩
  · obtain ⟨e1, e2, e3, e4, e5, e6⟩ := hN.1 n hn
    refine ⟨e1, e2, ?_, e4, e5, e6⟩
    show up2 (h_I h) (α a) k x (α n) = up2 (h_I T) a k x n
    by_cases e : n = a
    · subst e; rw [nu_self, nu_self, e3]
    · rw [nu_ne (hN.inj hn ha e), nu_ne e, e3]
  · exact (hN.2.2.2.2.2.2 i hi).2.2
theorem NP.wL {G : GG} {α : Nat → Nat} {T h : Hp} (hN : NP G α T h) {a k : Nat} {x : Int64} (ha : h_k T a ≠ 0) : NP G α (wL T a k x) (wL h (α a) k x) := by
  refine ⟨fun n hn => ?_, hN.2.1, hN.2.2.1, hN.2.2.2⟩
  obtain ⟨e1, e2, e3, e4, e5, e6⟩ := hN.1 n hn
  refine ⟨e1, e2, e3, e4, ?_, e6⟩
  show up2 (h_L h) (α a) k x (α n) = up2 (h_L T) a k x n
  by_cases e : n = a
  · subst e; rw [nu_self, nu_self, e5]
  · rw [nu_ne (hN.inj hn ha e), nu_ne e, e5]
theorem NP.wF {G : GG} {α : Nat → Nat} {T h : Hp} (hN : NP G α T h) {a k : Nat} {x : UInt64} (ha : h_k T a ≠ 0) : NP G α (wF T a k x) (wF h (α a) k x) := by
  refine ⟨fun n hn => ?_, hN.2.1, hN.2.2.1, hN.2.2.2⟩
  obtain ⟨e1, e2, e3, e4, e5, e6⟩ := hN.1 n hn
  refine ⟨e1, e2, e3, e4, e5, ?_⟩
  show up2 (h_F h) (α a) k x (α n) = up2 (h_F T) a k x n
  by_cases e : n = a
  · subst e; rw [nu_self, nu_self, e6]
  · rw [nu_ne (hN.inj hn ha e), nu_ne e, e6]
theorem map_up {α : Nat → Nat} {f : Nat → Option Nat} {k : Nat} {x : Option Nat} : va_up (fun j => (f j).map α) k (x.map α) = fun j => (va_up f k x j).map α := by
  funext j
  by_cases e : j = k
  · subst e; rw [va_up_self, va_up_self]
  · rw [va_up_ne _ _ e, va_up_ne _ _ e]
theorem NP.wR {G : GG} {α : Nat → Nat} {T h : Hp} (hN : NP G α T h) {a k : Nat} {x : Option Nat} (ha : h_k T a ≠ 0) (hx : inD T (vr x)) (h118 : h_k T a = 118 → ∀ y, x = some y → h_k T y ≠ 200) : NP G α (wR T a k x) (wR h (α a) k (x.map α)) := by
  refine ⟨fun n hn => ?_, hN.2.1, fun n j y hn hy => ?_, hN.2.2.2.1, hN.2.2.2.2.1, hN.2.2.2.2.2.1, fun i hi => ⟨(hN.2.2.2.2.2.2 i hi).1, (hN.2.2.2.2.2.2 i hi).2.1, fun n j y hn hy => ?_⟩⟩
  · obtain ⟨e1, e2, e3, e4, e5, e6⟩ := hN.1 n hn
    refine ⟨e1, e2, e3, ?_, e5, e6⟩
    show up2 (h_R h) (α a) k (x.map α) (α n) = fun j => (up2 (h_R T) a k x n j).map α
    by_cases e : n = a
    · subst e; rw [nu_self, nu_self, e4, map_up]
    · rw [nu_ne (hN.inj hn ha e), nu_ne e, e4]
  · have hy : up2 (h_R T) a k x n j = some y := hy
    by_cases e : n = a
    · subst e
      rw [nu_self] at hy
      by_cases ej : j = k
      · subst ej; rw [va_up_self] at hy; exact hx y hy
      · rw [va_up_ne _ _ ej] at hy; exact hN.2.2.1 _ j y hn hy
    · rw [nu_ne e] at hy; exact hN.2.2.1 n j y hn hy
  · have hy : up2 (h_R T) a k x n j = some y := hy
    have hn : h_k T n = 118 := hn
    by_cases e : n = a
    · subst e
      rw [nu_self] at hy
      by_cases ej : j = k
      · subst ej; rw [va_up_self] at hy; exact h118 hn y hy
      · rw [va_up_ne _ _ ej] at hy; exact (hN.2.2.2.2.2.2 i hi).2.2 _ j y hn hy
    · rw [nu_ne e] at hy; exact (hN.2.2.2.2.2.2 i hi).2.2 n j y hn hy
theorem NP.cpI {G : GG} {α : Nat → Nat} {T h : Hp} (hN : NP G α T h) {a : Nat} {f : Nat → Int32} (ha : h_k T a ≠ 0) (h1 : h_k T a ≠ 1) : NP G α (cpI T a f) (cpI h (α a) f) := by
  refine ⟨fun n hn => ?_, hN.2.1, hN.2.2.1, hN.2.2.2.1, hN.2.2.2.2.1, hN.2.2.2.2.2.1, fun i hi => ⟨(hN.2.2.2.2.2.2 i hi).1, (hN.2.2.2.2.2.2 i hi).2.1, ?_⟩⟩
  · obtain ⟨e1, e2, e3, e4, e5, e6⟩ := hN.1 n hn
    refine ⟨e1, e2, ?_, e4, e5, e6⟩
    show va_up (h_I h) (α a) f (α n) = va_up (h_I T) a f n
    by_cases e : n = a
    · subst e; rw [va_up_self, va_up_self]
    · rw [va_up_ne _ _ (hN.inj hn ha e), va_up_ne _ _ e, e3]
  · exact (hN.2.2.2.2.2.2 i hi).2.2
theorem NP.cpR {G : GG} {α : Nat → Nat} {T h : Hp} (hN : NP G α T h) {a : Nat} {f : Nat → Option Nat} (ha : h_k T a ≠ 0) (hf : ∀ j, inD T (vr (f j))) (h118 : ∀ j y, f j = some y → h_k T y ≠ 200) : NP G α (cpR T a f) (cpR h (α a) (fun j => (f j).map α)) := by
  refine ⟨fun n hn => ?_, hN.2.1, fun n j y hn hy => ?_, hN.2.2.2.1, hN.2.2.2.2.1, hN.2.2.2.2.2.1, fun i hi => ⟨(hN.2.2.2.2.2.2 i hi).1, (hN.2.2.2.2.2.2 i hi).2.1, fun n j y hn hy => ?_⟩⟩
  · obtain ⟨e1, e2, e3, e4, e5, e6⟩ := hN.1 n hn
    refine ⟨e1, e2, e3, ?_, e5, e6⟩
    show va_up (h_R h) (α a) (fun j => (f j).map α) (α n) = fun j => (va_up (h_R T) a f n j).map α
    by_cases e : n = a
    · subst e; rw [va_up_self, va_up_self]
    · rw [va_up_ne _ _ (hN.inj hn ha e), va_up_ne _ _ e, e4]
  · have hy : va_up (h_R T) a f n j = some y := hy
    by_cases e : n = a
    · subst e; rw [va_up_self] at hy; exact hf j y hy
    · rw [va_up_ne _ _ e] at hy; exact hN.2.2.1 n j y hn hy
  · have hy : va_up (h_R T) a f n j = some y := hy
    have hn : h_k T n = 118 := hn
    by_cases e : n = a
    · subst e; rw [va_up_self] at hy; exact h118 j y hy
    · rw [va_up_ne _ _ e] at hy; exact (hN.2.2.2.2.2.2 i hi).2.2 n j y hn hy
theorem NP.make {G : GG} {α : Nat → Nat} {T h : Hp} (hN : NP G α T h) {q q' kd n : Nat} (hq : h_k T q = 0) (hq' : h_k h q' = 0) (hkd : kd ≠ 0) : NP G (va_up α q q') (mk T q kd n) (mk h q' kd n) ∧ ext α T (va_up α q q') (mk T q kd n) := by
  have hne : ∀ m, h_k T m ≠ 0 → m ≠ q := fun m hm e => hm (e ▸ hq)
  have hne' : ∀ m, h_k T m ≠ 0 → α m ≠ q' := fun m hm e => hm (by rw [← (hN.1 m hm).1, e, hq'])
  have hE : ext α T (va_up α q q') (mk T q kd n) := fun m hm => ⟨by show va_up (h_k T) q kd m ≠ 0; rw [va_up_ne _ _ (hne m hm)]; exact hm, va_up_ne _ _ (hne m hm)⟩
  have hk1 : ∀ m, h_k (mk T q kd n) m ≠ 0 → m ≠ q → h_k T m ≠ 0 := fun m hm e => by
    have hm : va_up (h_k T) q kd m ≠ 0 := hm
    rwa [va_up_ne _ _ e] at hm
  refine ⟨⟨fun m hm => ?_, fun m m' hm hm' e => ?_, fun m j x hm hx => ?_, ?_⟩, hE⟩
  · by_cases e : m = q
    · subst e
      rw [va_up_self]
      refine ⟨?_, ?_, ?_, ?_, ?_, ?_⟩ <;> simp only [h_k, h_n, h_I, h_R, h_L, h_F, va_up_self, Option.map_none]
    · have hm := hk1 m hm e
      obtain ⟨e1, e2, e3, e4, e5, e6⟩ := hN.1 m hm
      rw [va_up_ne _ _ e]
      have n1 := hne' m hm
      refine ⟨?_, ?_, ?_, ?_, ?_, ?_⟩
      · show va_up (h_k h) q' kd (α m) = va_up (h_k T) q kd m
        rw [va_up_ne _ _ n1, va_up_ne _ _ e, e1]
      · show va_up (h_n h) q' n (α m) = va_up (h_n T) q n m
        rw [va_up_ne _ _ n1, va_up_ne _ _ e, e2]
      · show va_up (h_I h) q' _ (α m) = va_up (h_I T) q _ m
        rw [va_up_ne _ _ n1, va_up_ne _ _ e, e3]
      · show va_up (h_R h) q' _ (α m) = fun j => (va_up (h_R T) q _ m j).map (va_up α q q')
        rw [va_up_ne _ _ n1, va_up_ne _ _ e, e4]
        funext j
        cases hx : h_R T m j with
        | none => rfl
        | some x =>
          show some (α x) = some (va_up α q q' x)
          rw [va_up_ne _ _ (hne x (hN.2.2.1 m j x hm hx))]
      · show va_up (h_L h) q' _ (α m) = va_up (h_L T) q _ m
        rw [va_up_ne _ _ n1, va_up_ne _ _ e, e5]
      · show va_up (h_F h) q' _ (α m) = va_up (h_F T) q _ m
        rw [va_up_ne _ _ n1, va_up_ne _ _ e, e6]
  · by_cases e1 : m = q
    · by_cases e2 : m' = q
      · rw [e1, e2]
      · exfalso
        rw [e1, va_up_self, va_up_ne _ _ e2] at e
        exact hne' m' (hk1 m' hm' e2) e.symm
    · by_cases e2 : m' = q
      · exfalso
        rw [e2, va_up_self, va_up_ne _ _ e1] at e
        exact hne' m (hk1 m hm e1) e
      · rw [va_up_ne _ _ e1, va_up_ne _ _ e2] at e
        exact hN.2.1 m m' (hk1 m hm e1) (hk1 m' hm' e2) e
  · by_cases e : m = q
    · subst e
      have hx : va_up (h_R T) m (fun _ => none) m j = some x := hx
      rw [va_up_self] at hx
      cases hx
    · have hx : va_up (h_R T) q (fun _ => none) m j = some x := hx
      rw [va_up_ne _ _ e] at hx
      exact (hE x (hN.2.2.1 m j x (hk1 m hm e) hx)).1
  · obtain ⟨c1, c2, c3, c4⟩ := hN.2.2.2
    have z0 : (0 : Nat) ≠ q := hne 0 (by rw [c2]; decide)
    refine ⟨by rw [va_up_ne _ _ z0]; exact c1, ?_, ?_, fun i hi => ?_⟩
    · show va_up (h_k T) q kd 0 = 118
      rw [va_up_ne _ _ z0]; exact c2
    · show va_up (h_n T) q n 0 = 0
      rw [va_up_ne _ _ z0]; exact c3
    · obtain ⟨d1, d2, d3⟩ := c4 i hi
      have zi : nm 0 (i + 1) ≠ q := hne _ (by rw [d2]; decide)
      refine ⟨by rw [va_up_ne _ _ zi]; exact d1, ?_, ?_⟩
      · show va_up (h_k T) q kd _ = 200
        rw [va_up_ne _ _ zi]; exact d2
      · intro m j x hm hx
        have hm : va_up (h_k T) q kd m = 118 := hm
        have hx : va_up (h_R T) q (fun _ => none) m j = some x := hx
        by_cases e : m = q
        · subst e
          rw [va_up_self] at hx
          cases hx
        · rw [va_up_ne _ _ e] at hx hm
          have hz := hN.2.2.1 m j x (by rw [hm]; decide) hx
          show va_up (h_k T) q kd x ≠ 200
          rw [va_up_ne _ _ (hne x hz)]
          exact d3 m j x hm hx
theorem rf_inj {r q : Option Nat} (h : va_rf r = va_rf q) : r = q := by
  cases r <;> cases q <;> first | rfl | (cases h; done) | (injection h with h; exact congrArg some h)
theorem enc_nm {G : GG} {α : Nat → Nat} {T h : Hp} (hN : NP G α T h) {a k : Nat} {ty : FieldType} {v : AV} (ha : h_k T a ≠ 0) (hv : encF T a ty k = toV v) : encF h (α a) ty k = toV (am α v) ∧ inD T v := by
  obtain ⟨-, -, e3, e4, e5, e6⟩ := hN.1 a ha
  have key : ∀ r, h_R T a k = r → va_rf r = toV v → va_rf (h_R h (α a) k) = toV (am α v) ∧ inD T v := by
    intro r hr hv
    rw [e4]
    show va_rf ((h_R T a k).map α) = _ ∧ _
    rw [hr]
    rcases v with (x | q | x) | (x | x)
    · cases r <;> cases hv
    · have := rf_inj hv
      subst this
      exact ⟨rfl, fun x hx => hN.2.2.1 a k x ha (hr.trans hx)⟩
    · cases r <;> cases hv
    · cases r <;> cases hv
    · cases r <;> cases hv
  have ki : Value.int (h_I T a k) = toV v → Value.int (h_I h (α a) k) = toV (am α v) ∧ inD T v := by
    intro hv
    rw [e3]
    rcases v with (x | q | x) | (x | x)
    · exact ⟨hv, trivial⟩
    · cases q <;> cases hv
    · cases hv
    · cases hv
    · cases hv
  cases ty with
  | long =>
    have hv : Value.long (h_L T a k) = toV v := hv
    show Value.long (h_L h (α a) k) = _ ∧ _
    rw [e5]
    rcases v with (x | q | x) | (x | x)
    · cases hv
    · cases q <;> cases hv
    · cases hv
    · exact ⟨hv, trivial⟩
    · cases hv
  | double =>
    have hv : Value.double (h_F T a k) = toV v := hv
    show Value.double (h_F h (α a) k) = _ ∧ _
    rw [e6]
    rcases v with (x | q | x) | (x | x)
    · cases hv
    · cases q <;> cases hv
    · cases hv
    · cases hv
    · exact ⟨hv, trivial⟩
  | float =>
    have hv : Value.float 0 = toV v := hv
    show Value.float 0 = _ ∧ _
    rcases v with (x | q | x) | (x | x)
    · cases hv
    · cases q <;> cases hv
    · exact ⟨hv, trivial⟩
    · cases hv
    · cases hv
  | object n => exact key _ rfl hv
  | array t => exact key _ rfl hv
  | int => exact ki hv
  | boolean => exact ki hv
  | char => exact ki hv
  | byte => exact ki hv
  | short => exact ki hv
theorem map_sm {α : Nat → Nat} {r : Option Nat} {b : Nat} (h : r.map α = some b) : ∃ a, r = some a ∧ b = α a := by
  cases r with
  | none => cases h
  | some a => cases h; exact ⟨a, rfl, rfl⟩
theorem map_inj {G : GG} {α : Nat → Nat} {T h : Hp} (hN : NP G α T h) {r q : Option Nat} (hr : inD T (vr r)) (hq : inD T (vr q)) (e : r.map α = q.map α) : r = q := by
  cases r with
  | none =>
    cases q with
    | none => rfl
    | some b => cases e
  | some a =>
    cases q with
    | none => cases e
    | some b =>
      have e : some (α a) = some (α b) := e
      injection e with e
      rw [hN.2.1 a b (hr a rfl) (hq b rfl) e]
theorem awords_am {α : Nat → Nat} (as : List AV) : awords (as.map (am α)) = awords as := by
  unfold awords
  rw [List.map_map]
  congr 1
  exact List.map_congr_left fun v _ => by simp only [Function.comp_apply, am_av2]
theorem cat_am {α : Nat → Nat} {as : List AV} (h : (as.map fun v => if av2 v = true then 2 else 1).sum ≤ 8) : ((sm α as).map fun v => if av2 v = true then 2 else 1).sum ≤ 8 := by
  have := awords_am (α := α) as
  unfold awords at this
  rw [this]
  exact h
theorem aargs_am {α : Nat → Nat} : ∀ (i : Nat) (as : List AV), aargs i (as.map (am α)) = lm α (aargs i as)
  | _, [] => rfl
  | i, v :: r => by
    show (i, am α v) :: aargs (if av2 (am α v) = true then i + 2 else i + 1) (r.map (am α)) = (i, am α v) :: lm α (aargs (if av2 v = true then i + 2 else i + 1) r)
    rw [am_av2, aargs_am]
theorem LI_aargs {T : Hp} : ∀ (i : Nat) (as : List AV), SI T as → LI T (aargs i as)
  | _, [], _ => fun _ h => nomatch h
  | i, v :: r, h => by
    intro q hq
    have hq : q ∈ (i, v) :: aargs (if av2 v = true then i + 2 else i + 1) r := hq
    rcases List.mem_cons.mp hq with e | e
    · rw [e]; exact h.hd
    · exact LI_aargs _ r h.tl q e
theorem WP.of {G : GG} {y : MI} {d pc : Nat} {lv : LV} {st : List AV} {α : Nat → Nat} {T h : Hp} {bc bs : Nat} {Q Q' : Pst} (K : WP G y d pc lv st T bc bs Q) (hN : NP G α T h) (hl : LI T lv) (hs : SI T st) (hU : Up G α T Q Q') {lv' : LV} {st' : List AV} (e1 : lm α lv = lv') (e2 : sm α st = st') : WQ G y d pc lv' st' h bc bs Q' := by
  subst e1; subst e2; exact K α h hN hl hs Q' hU
section NR
variable {G : GG} {y : MI} {d pc : Nat} {lv lv' : LV} {st : List AV} {h : Hp} {bc bs : Nat} {Q : Pst}
theorem wp_iconst {n : Int} (v : Int32) (hd : decode (mC y) pc = .ok (.iconst n, 1)) (hv : Int32.ofInt n = v) (K : WP G y d (pc + 1) lv (vi v :: st) h bc bs Q) : WP G y d pc lv (st) h bc bs Q := by
  intro α hp oN ol os Q0 oU
  show WQ G y d pc (lm α lv) (sm α st) hp bc bs Q0
  exact wq_iconst v hd hv (K.of oN ol ((os).cons (trivial)) oU rfl rfl)
theorem wp_bipush {n : Int} (v : Int32) (hd : decode (mC y) pc = .ok (.bipush n, 2)) (hv : (Int8.ofInt n).toInt32 = v) (K : WP G y d (pc + 2) lv (vi v :: st) h bc bs Q) : WP G y d pc lv (st) h bc bs Q := by
  intro α hp oN ol os Q0 oU
  show WQ G y d pc (lm α lv) (sm α st) hp bc bs Q0
  exact wq_bipush v hd hv (K.of oN ol ((os).cons (trivial)) oU rfl rfl)
theorem wp_sipush {n : Int} (v : Int32) (hd : decode (mC y) pc = .ok (.sipush n, 3)) (hv : (Int16.ofInt n).toInt32 = v) (K : WP G y d (pc + 3) lv (vi v :: st) h bc bs Q) : WP G y d pc lv (st) h bc bs Q := by
  intro α hp oN ol os Q0 oU
  show WQ G y d pc (lm α lv) (sm α st) hp bc bs Q0
  exact wq_sipush v hd hv (K.of oN ol ((os).cons (trivial)) oU rfl rfl)
theorem wp_lconst {n : Fin 2} (v : Int64) (hd : decode (mC y) pc = .ok (.lconst n, 1)) (hv : Int64.ofNat (n : Nat) = v) (K : WP G y d (pc + 1) lv (vl v :: st) h bc bs Q) : WP G y d pc lv (st) h bc bs Q := by
  intro α hp oN ol os Q0 oU
  show WQ G y d pc (lm α lv) (sm α st) hp bc bs Q0
  exact wq_lconst v hd hv (K.of oN ol ((os).cons (trivial)) oU rfl rfl)
theorem wp_fconst0  (hd : decode (mC y) pc = .ok (.fconst 0, 1)) (K : WP G y d (pc + 1) lv (vf FP.fconst0 :: st) h bc bs Q) : WP G y d pc lv (st) h bc bs Q := by
  intro α hp oN ol os Q0 oU
  show WQ G y d pc (lm α lv) (sm α st) hp bc bs Q0
  exact wq_fconst0 hd (K.of oN ol ((os).cons (trivial)) oU rfl rfl)
theorem wp_ldc {index : Nat} {v : Int32} (hd : decode (mC y) pc = .ok (.ldc index, 2)) (hw : Cond.constant (mN y).cls index v ∈ lw_good) (K : WP G y d (pc + 2) lv (vi v :: st) h bc bs Q) : WP G y d pc lv (st) h bc bs Q := by
  intro α hp oN ol os Q0 oU
  show WQ G y d pc (lm α lv) (sm α st) hp bc bs Q0
  exact wq_ldc hd hw (K.of oN ol ((os).cons (trivial)) oU rfl rfl)
theorem wp_ldc_w {index : Nat} {v : Int32} (hd : decode (mC y) pc = .ok (.ldc_w index, 3)) (hw : Cond.constant (mN y).cls index v ∈ lw_good) (K : WP G y d (pc + 3) lv (vi v :: st) h bc bs Q) : WP G y d pc lv (st) h bc bs Q := by
  intro α hp oN ol os Q0 oU
  show WQ G y d pc (lm α lv) (sm α st) hp bc bs Q0
  exact wq_ldc_w hd hw (K.of oN ol ((os).cons (trivial)) oU rfl rfl)
theorem wp_null  (hd : decode (mC y) pc = .ok (.aconst_null, 1)) (K : WP G y d (pc + 1) lv (vr none :: st) h bc bs Q) : WP G y d pc lv (st) h bc bs Q := by
  intro α hp oN ol os Q0 oU
  show WQ G y d pc (lm α lv) (sm α st) hp bc bs Q0
  exact wq_null hd (K.of oN ol ((os).cons (fun _ h => nomatch h)) oU rfl rfl)
theorem wp_iload_n {k : Fin 4} {i : Nat} {x : Int32} (hd : decode (mC y) pc = .ok (.iload_n k, 1)) (hi : (k : Nat) = i) (hv : lk lv i = some (vi x)) (K : WP G y d (pc + 1) lv (vi x :: st) h bc bs Q) : WP G y d pc lv (st) h bc bs Q := by
  intro α hp oN ol os Q0 oU
  show WQ G y d pc (lm α lv) (sm α st) hp bc bs Q0
  exact wq_iload_n hd hi (lk_lm hv) (K.of oN ol ((os).cons (trivial)) oU rfl rfl)
theorem wp_iload {i : Nat} {x : Int32} (hd : decode (mC y) pc = .ok (.iload i, 2)) (hv : lk lv i = some (vi x)) (K : WP G y d (pc + 2) lv (vi x :: st) h bc bs Q) : WP G y d pc lv (st) h bc bs Q := by
  intro α hp oN ol os Q0 oU
  show WQ G y d pc (lm α lv) (sm α st) hp bc bs Q0
  exact wq_iload hd (lk_lm hv) (K.of oN ol ((os).cons (trivial)) oU rfl rfl)
theorem wp_lload_n {k : Fin 4} {i : Nat} {x : Int64} (hd : decode (mC y) pc = .ok (.lload_n k, 1)) (hi : (k : Nat) = i) (hv : lk lv i = some (vl x)) (K : WP G y d (pc + 1) lv (vl x :: st) h bc bs Q) : WP G y d pc lv (st) h bc bs Q := by
  intro α hp oN ol os Q0 oU
  show WQ G y d pc (lm α lv) (sm α st) hp bc bs Q0
  exact wq_lload_n hd hi (lk_lm hv) (K.of oN ol ((os).cons (trivial)) oU rfl rfl)
theorem wp_lload {i : Nat} {x : Int64} (hd : decode (mC y) pc = .ok (.lload i, 2)) (hv : lk lv i = some (vl x)) (K : WP G y d (pc + 2) lv (vl x :: st) h bc bs Q) : WP G y d pc lv (st) h bc bs Q := by
  intro α hp oN ol os Q0 oU
  show WQ G y d pc (lm α lv) (sm α st) hp bc bs Q0
  exact wq_lload hd (lk_lm hv) (K.of oN ol ((os).cons (trivial)) oU rfl rfl)
theorem wp_fload_n {k : Fin 4} {i : Nat} {x : UInt32} (hd : decode (mC y) pc = .ok (.fload_n k, 1)) (hi : (k : Nat) = i) (hv : lk lv i = some (vf x)) (K : WP G y d (pc + 1) lv (vf x :: st) h bc bs Q) : WP G y d pc lv (st) h bc bs Q := by
  intro α hp oN ol os Q0 oU
  show WQ G y d pc (lm α lv) (sm α st) hp bc bs Q0
  exact wq_fload_n hd hi (lk_lm hv) (K.of oN ol ((os).cons (trivial)) oU rfl rfl)
theorem wp_fload {i : Nat} {x : UInt32} (hd : decode (mC y) pc = .ok (.fload i, 2)) (hv : lk lv i = some (vf x)) (K : WP G y d (pc + 2) lv (vf x :: st) h bc bs Q) : WP G y d pc lv (st) h bc bs Q := by
  intro α hp oN ol os Q0 oU
  show WQ G y d pc (lm α lv) (sm α st) hp bc bs Q0
  exact wq_fload hd (lk_lm hv) (K.of oN ol ((os).cons (trivial)) oU rfl rfl)
theorem wp_aload_n {k : Fin 4} {i : Nat} {r : Option Nat} (hd : decode (mC y) pc = .ok (.aload_n k, 1)) (hi : (k : Nat) = i) (hv : lk lv i = some (vr r)) (K : WP G y d (pc + 1) lv (vr r :: st) h bc bs Q) : WP G y d pc lv (st) h bc bs Q := by
  intro α hp oN ol os Q0 oU
  show WQ G y d pc (lm α lv) (sm α st) hp bc bs Q0
  exact wq_aload_n hd hi (lk_lm hv) (K.of oN ol ((os).cons (ol.get hv)) oU rfl rfl)
theorem wp_aload {i : Nat} {r : Option Nat} (hd : decode (mC y) pc = .ok (.aload i, 2)) (hv : lk lv i = some (vr r)) (K : WP G y d (pc + 2) lv (vr r :: st) h bc bs Q) : WP G y d pc lv (st) h bc bs Q := by
  intro α hp oN ol os Q0 oU
  show WQ G y d pc (lm α lv) (sm α st) hp bc bs Q0
  exact wq_aload hd (lk_lm hv) (K.of oN ol ((os).cons (ol.get hv)) oU rfl rfl)
theorem wp_istore_n {k : Fin 4} {i : Nat} {x : Int32} (hd : decode (mC y) pc = .ok (.istore_n k, 1)) (hi : (k : Nat) = i) (hb : i < mL y) (hv : lset lv i (vi x) = lv') (K : WP G y d (pc + 1) lv' st h bc bs Q) : WP G y d pc lv (vi x :: st) h bc bs Q := by
  intro α hp oN ol os Q0 oU
  show WQ G y d pc (lm α lv) (vi x :: sm α st) hp bc bs Q0
  have hv0 := lset_lm (α := α) (lv := lv) (i := i) (v := vi x)
  exact wq_istore_n hd hi hb (hv0.trans (congrArg (lm α) hv)) (K.of oN (hv ▸ ol.set (os.hd)) os.tl oU rfl rfl)
theorem wp_istore {i : Nat} {x : Int32} (hd : decode (mC y) pc = .ok (.istore i, 2)) (hb : i < mL y) (hv : lset lv i (vi x) = lv') (K : WP G y d (pc + 2) lv' st h bc bs Q) : WP G y d pc lv (vi x :: st) h bc bs Q := by
  intro α hp oN ol os Q0 oU
  show WQ G y d pc (lm α lv) (vi x :: sm α st) hp bc bs Q0
  have hv0 := lset_lm (α := α) (lv := lv) (i := i) (v := vi x)
  exact wq_istore hd hb (hv0.trans (congrArg (lm α) hv)) (K.of oN (hv ▸ ol.set (os.hd)) os.tl oU rfl rfl)
theorem wp_lstore_n {k : Fin 4} {i : Nat} {x : Int64} (hd : decode (mC y) pc = .ok (.lstore_n k, 1)) (hi : (k : Nat) = i) (hb : i + 1 < mL y) (hv : lset2 lv i (vl x) = lv') (K : WP G y d (pc + 1) lv' st h bc bs Q) : WP G y d pc lv (vl x :: st) h bc bs Q := by
  intro α hp oN ol os Q0 oU
  show WQ G y d pc (lm α lv) (vl x :: sm α st) hp bc bs Q0
  have hv0 := lset2_lm (α := α) (lv := lv) (i := i) (v := vl x)
  exact wq_lstore_n hd hi hb (hv0.trans (congrArg (lm α) hv)) (K.of oN (hv ▸ ol.set2 (os.hd)) os.tl oU rfl rfl)
theorem wp_lstore {i : Nat} {x : Int64} (hd : decode (mC y) pc = .ok (.lstore i, 2)) (hb : i + 1 < mL y) (hv : lset2 lv i (vl x) = lv') (K : WP G y d (pc + 2) lv' st h bc bs Q) : WP G y d pc lv (vl x :: st) h bc bs Q := by
  intro α hp oN ol os Q0 oU
  show WQ G y d pc (lm α lv) (vl x :: sm α st) hp bc bs Q0
  have hv0 := lset2_lm (α := α) (lv := lv) (i := i) (v := vl x)
  exact wq_lstore hd hb (hv0.trans (congrArg (lm α) hv)) (K.of oN (hv ▸ ol.set2 (os.hd)) os.tl oU rfl rfl)
theorem wp_fstore_n {k : Fin 4} {i : Nat} {x : UInt32} (hd : decode (mC y) pc = .ok (.fstore_n k, 1)) (hi : (k : Nat) = i) (hb : i < mL y) (hv : lset lv i (vf x) = lv') (K : WP G y d (pc + 1) lv' st h bc bs Q) : WP G y d pc lv (vf x :: st) h bc bs Q := by
  intro α hp oN ol os Q0 oU
  show WQ G y d pc (lm α lv) (vf x :: sm α st) hp bc bs Q0
  have hv0 := lset_lm (α := α) (lv := lv) (i := i) (v := vf x)
  exact wq_fstore_n hd hi hb (hv0.trans (congrArg (lm α) hv)) (K.of oN (hv ▸ ol.set (os.hd)) os.tl oU rfl rfl)
theorem wp_fstore {i : Nat} {x : UInt32} (hd : decode (mC y) pc = .ok (.fstore i, 2)) (hb : i < mL y) (hv : lset lv i (vf x) = lv') (K : WP G y d (pc + 2) lv' st h bc bs Q) : WP G y d pc lv (vf x :: st) h bc bs Q := by
  intro α hp oN ol os Q0 oU
  show WQ G y d pc (lm α lv) (vf x :: sm α st) hp bc bs Q0
  have hv0 := lset_lm (α := α) (lv := lv) (i := i) (v := vf x)
  exact wq_fstore hd hb (hv0.trans (congrArg (lm α) hv)) (K.of oN (hv ▸ ol.set (os.hd)) os.tl oU rfl rfl)
theorem wp_astore_n {k : Fin 4} {i : Nat} {r : Option Nat} (hd : decode (mC y) pc = .ok (.astore_n k, 1)) (hi : (k : Nat) = i) (hb : i < mL y) (hv : lset lv i (vr r) = lv') (K : WP G y d (pc + 1) lv' st h bc bs Q) : WP G y d pc lv (vr r :: st) h bc bs Q := by
  intro α hp oN ol os Q0 oU
  show WQ G y d pc (lm α lv) (vr (r.map α) :: sm α st) hp bc bs Q0
  have hv0 := lset_lm (α := α) (lv := lv) (i := i) (v := vr r)
  exact wq_astore_n hd hi hb (hv0.trans (congrArg (lm α) hv)) (K.of oN (hv ▸ ol.set (os.hd)) os.tl oU rfl rfl)
theorem wp_astore {i : Nat} {r : Option Nat} (hd : decode (mC y) pc = .ok (.astore i, 2)) (hb : i < mL y) (hv : lset lv i (vr r) = lv') (K : WP G y d (pc + 2) lv' st h bc bs Q) : WP G y d pc lv (vr r :: st) h bc bs Q := by
  intro α hp oN ol os Q0 oU
  show WQ G y d pc (lm α lv) (vr (r.map α) :: sm α st) hp bc bs Q0
  have hv0 := lset_lm (α := α) (lv := lv) (i := i) (v := vr r)
  exact wq_astore hd hb (hv0.trans (congrArg (lm α) hv)) (K.of oN (hv ▸ ol.set (os.hd)) os.tl oU rfl rfl)
theorem wp_iinc {i : Nat} {n : Int} {x : Int32} (v : Int32) (hd : decode (mC y) pc = .ok (.iinc i n, 3)) (hx : lk lv i = some (vi x)) (hv : x + Int32.ofInt n = v) (hb : i < mL y) (hw : lset lv i (vi v) = lv') (K : WP G y d (pc + 3) lv' st h bc bs Q) : WP G y d pc lv st h bc bs Q := by
  intro α h0 hN hl hs Q0 hU
  have hv0 := lset_lm (α := α) (lv := lv) (i := i) (v := vi v)
  exact wq_iinc v hd (lk_lm hx) hv hb (hv0.trans (congrArg (lm α) hw)) (K.of hN (hw ▸ hl.set (v := vi v) trivial) hs hU rfl rfl)
theorem wp_iadd {x z : Int32} (hd : decode (mC y) pc = .ok (.iadd, 1)) (K : WP G y d (pc + 1) lv (vi (x + z) :: st) h bc bs Q) : WP G y d pc lv (vi z :: vi x :: st) h bc bs Q := by
  intro α hp oN ol os Q0 oU
  show WQ G y d pc (lm α lv) (vi z :: vi x :: sm α st) hp bc bs Q0
  exact wq_iadd hd (K.of oN ol ((os.tl.tl).cons (trivial)) oU rfl rfl)
theorem wp_isub {x z : Int32} (hd : decode (mC y) pc = .ok (.isub, 1)) (K : WP G y d (pc + 1) lv (vi (x - z) :: st) h bc bs Q) : WP G y d pc lv (vi z :: vi x :: st) h bc bs Q := by
  intro α hp oN ol os Q0 oU
  show WQ G y d pc (lm α lv) (vi z :: vi x :: sm α st) hp bc bs Q0
  exact wq_isub hd (K.of oN ol ((os.tl.tl).cons (trivial)) oU rfl rfl)
theorem wp_imul {x z : Int32} (hd : decode (mC y) pc = .ok (.imul, 1)) (K : WP G y d (pc + 1) lv (vi (x * z) :: st) h bc bs Q) : WP G y d pc lv (vi z :: vi x :: st) h bc bs Q := by
  intro α hp oN ol os Q0 oU
  show WQ G y d pc (lm α lv) (vi z :: vi x :: sm α st) hp bc bs Q0
  exact wq_imul hd (K.of oN ol ((os.tl.tl).cons (trivial)) oU rfl rfl)
theorem wp_iand {x z : Int32} (hd : decode (mC y) pc = .ok (.iand, 1)) (K : WP G y d (pc + 1) lv (vi (x &&& z) :: st) h bc bs Q) : WP G y d pc lv (vi z :: vi x :: st) h bc bs Q := by
  intro α hp oN ol os Q0 oU
  show WQ G y d pc (lm α lv) (vi z :: vi x :: sm α st) hp bc bs Q0
  exact wq_iand hd (K.of oN ol ((os.tl.tl).cons (trivial)) oU rfl rfl)
theorem wp_ior {x z : Int32} (hd : decode (mC y) pc = .ok (.ior, 1)) (K : WP G y d (pc + 1) lv (vi (x ||| z) :: st) h bc bs Q) : WP G y d pc lv (vi z :: vi x :: st) h bc bs Q := by
  intro α hp oN ol os Q0 oU
  show WQ G y d pc (lm α lv) (vi z :: vi x :: sm α st) hp bc bs Q0
  exact wq_ior hd (K.of oN ol ((os.tl.tl).cons (trivial)) oU rfl rfl)
theorem wp_ixor {x z : Int32} (hd : decode (mC y) pc = .ok (.ixor, 1)) (K : WP G y d (pc + 1) lv (vi (x ^^^ z) :: st) h bc bs Q) : WP G y d pc lv (vi z :: vi x :: st) h bc bs Q := by
  intro α hp oN ol os Q0 oU
  show WQ G y d pc (lm α lv) (vi z :: vi x :: sm α st) hp bc bs Q0
  exact wq_ixor hd (K.of oN ol ((os.tl.tl).cons (trivial)) oU rfl rfl)
theorem wp_ishl {x z : Int32} (hd : decode (mC y) pc = .ok (.ishl, 1)) (K : WP G y d (pc + 1) lv (vi (x <<< (z &&& 31)) :: st) h bc bs Q) : WP G y d pc lv (vi z :: vi x :: st) h bc bs Q := by
  intro α hp oN ol os Q0 oU
  show WQ G y d pc (lm α lv) (vi z :: vi x :: sm α st) hp bc bs Q0
  exact wq_ishl hd (K.of oN ol ((os.tl.tl).cons (trivial)) oU rfl rfl)
theorem wp_ishr {x z : Int32} (hd : decode (mC y) pc = .ok (.ishr, 1)) (K : WP G y d (pc + 1) lv (vi (x >>> (z &&& 31)) :: st) h bc bs Q) : WP G y d pc lv (vi z :: vi x :: st) h bc bs Q := by
  intro α hp oN ol os Q0 oU
  show WQ G y d pc (lm α lv) (vi z :: vi x :: sm α st) hp bc bs Q0
  exact wq_ishr hd (K.of oN ol ((os.tl.tl).cons (trivial)) oU rfl rfl)
theorem wp_idiv {x z : Int32} (hd : decode (mC y) pc = .ok (.idiv, 1)) (hne : ¬ z = 0) (K : WP G y d (pc + 1) lv (vi (x / z) :: st) h bc bs Q) : WP G y d pc lv (vi z :: vi x :: st) h bc bs Q := by
  intro α hp oN ol os Q0 oU
  show WQ G y d pc (lm α lv) (vi z :: vi x :: sm α st) hp bc bs Q0
  exact wq_idiv hd hne (K.of oN ol ((os.tl.tl).cons (trivial)) oU rfl rfl)
theorem wp_irem {x z : Int32} (hd : decode (mC y) pc = .ok (.irem, 1)) (hne : ¬ z = 0) (K : WP G y d (pc + 1) lv (vi (x - x / z * z) :: st) h bc bs Q) : WP G y d pc lv (vi z :: vi x :: st) h bc bs Q := by
  intro α hp oN ol os Q0 oU
  show WQ G y d pc (lm α lv) (vi z :: vi x :: sm α st) hp bc bs Q0
  exact wq_irem hd hne (K.of oN ol ((os.tl.tl).cons (trivial)) oU rfl rfl)
theorem wp_ladd {x z : Int64} (hd : decode (mC y) pc = .ok (.ladd, 1)) (K : WP G y d (pc + 1) lv (vl (x + z) :: st) h bc bs Q) : WP G y d pc lv (vl z :: vl x :: st) h bc bs Q := by
  intro α hp oN ol os Q0 oU
  show WQ G y d pc (lm α lv) (vl z :: vl x :: sm α st) hp bc bs Q0
  exact wq_ladd hd (K.of oN ol ((os.tl.tl).cons (trivial)) oU rfl rfl)
theorem wp_lsub {x z : Int64} (hd : decode (mC y) pc = .ok (.lsub, 1)) (K : WP G y d (pc + 1) lv (vl (x - z) :: st) h bc bs Q) : WP G y d pc lv (vl z :: vl x :: st) h bc bs Q := by
  intro α hp oN ol os Q0 oU
  show WQ G y d pc (lm α lv) (vl z :: vl x :: sm α st) hp bc bs Q0
  exact wq_lsub hd (K.of oN ol ((os.tl.tl).cons (trivial)) oU rfl rfl)
theorem wp_fdiv {x z : UInt32} (hd : decode (mC y) pc = .ok (.fdiv, 1)) (hne : vf_n32 (FP.fdiv x z)) (K : WP G y d (pc + 1) lv (vf (FP.fdiv x z) :: st) h bc bs Q) : WP G y d pc lv (vf z :: vf x :: st) h bc bs Q := by
  intro α hp oN ol os Q0 oU
  show WQ G y d pc (lm α lv) (vf z :: vf x :: sm α st) hp bc bs Q0
  exact wq_fdiv hd hne (K.of oN ol ((os.tl.tl).cons (trivial)) oU rfl rfl)
theorem wp_fcmp {x z : UInt32} {op : CmpOp} (hd : decode (mC y) pc = .ok (.fcmp op, 1)) (K : WP G y d (pc + 1) lv (vi (Op.cmpValue (FP.fcmp x z) op) :: st) h bc bs Q) : WP G y d pc lv (vf z :: vf x :: st) h bc bs Q := by
  intro α hp oN ol os Q0 oU
  show WQ G y d pc (lm α lv) (vf z :: vf x :: sm α st) hp bc bs Q0
  exact wq_fcmp hd (K.of oN ol ((os.tl.tl).cons (trivial)) oU rfl rfl)
theorem wp_dcmp {x z : UInt64} {op : CmpOp} (hd : decode (mC y) pc = .ok (.dcmp op, 1)) (K : WP G y d (pc + 1) lv (vi (Op.cmpValue (FP.dcmp x z) op) :: st) h bc bs Q) : WP G y d pc lv (vd z :: vd x :: st) h bc bs Q := by
  intro α hp oN ol os Q0 oU
  show WQ G y d pc (lm α lv) (vd z :: vd x :: sm α st) hp bc bs Q0
  exact wq_dcmp hd (K.of oN ol ((os.tl.tl).cons (trivial)) oU rfl rfl)
theorem wp_lcmp {x z : Int64} (hd : decode (mC y) pc = .ok (.lcmp, 1)) (K : WP G y d (pc + 1) lv (vi (lg_cmp x z) :: st) h bc bs Q) : WP G y d pc lv (vl z :: vl x :: st) h bc bs Q := by
  intro α hp oN ol os Q0 oU
  show WQ G y d pc (lm α lv) (vl z :: vl x :: sm α st) hp bc bs Q0
  exact wq_lcmp hd (K.of oN ol ((os.tl.tl).cons (trivial)) oU rfl rfl)
theorem wp_ineg {x : Int32} (hd : decode (mC y) pc = .ok (.ineg, 1)) (K : WP G y d (pc + 1) lv (vi (-x) :: st) h bc bs Q) : WP G y d pc lv (vi x :: st) h bc bs Q := by
  intro α hp oN ol os Q0 oU
  show WQ G y d pc (lm α lv) (vi x :: sm α st) hp bc bs Q0
  exact wq_ineg hd (K.of oN ol ((os.tl).cons (trivial)) oU rfl rfl)
theorem wp_i2l {x : Int32} (hd : decode (mC y) pc = .ok (.i2l, 1)) (K : WP G y d (pc + 1) lv (vl x.toInt64 :: st) h bc bs Q) : WP G y d pc lv (vi x :: st) h bc bs Q := by
  intro α hp oN ol os Q0 oU
  show WQ G y d pc (lm α lv) (vi x :: sm α st) hp bc bs Q0
  exact wq_i2l hd (K.of oN ol ((os.tl).cons (trivial)) oU rfl rfl)
theorem wp_l2i {x : Int64} (hd : decode (mC y) pc = .ok (.l2i, 1)) (K : WP G y d (pc + 1) lv (vi x.toInt32 :: st) h bc bs Q) : WP G y d pc lv (vl x :: st) h bc bs Q := by
  intro α hp oN ol os Q0 oU
  show WQ G y d pc (lm α lv) (vl x :: sm α st) hp bc bs Q0
  exact wq_l2i hd (K.of oN ol ((os.tl).cons (trivial)) oU rfl rfl)
theorem wp_i2c {x : Int32} (hd : decode (mC y) pc = .ok (.i2c, 1)) (K : WP G y d (pc + 1) lv (vi (x.toUInt32 % 65536).toInt32 :: st) h bc bs Q) : WP G y d pc lv (vi x :: st) h bc bs Q := by
  intro α hp oN ol os Q0 oU
  show WQ G y d pc (lm α lv) (vi x :: sm α st) hp bc bs Q0
  exact wq_i2c hd (K.of oN ol ((os.tl).cons (trivial)) oU rfl rfl)
theorem wp_i2f {x : Int32} (hd : decode (mC y) pc = .ok (.i2f, 1)) (K : WP G y d (pc + 1) lv (vf (FP.i2f x) :: st) h bc bs Q) : WP G y d pc lv (vi x :: st) h bc bs Q := by
  intro α hp oN ol os Q0 oU
  show WQ G y d pc (lm α lv) (vi x :: sm α st) hp bc bs Q0
  exact wq_i2f hd (K.of oN ol ((os.tl).cons (trivial)) oU rfl rfl)
theorem wp_f2d {x : UInt32} (hd : decode (mC y) pc = .ok (.f2d, 1)) (hne : vf_n64 (FP.f2d x)) (K : WP G y d (pc + 1) lv (vd (FP.f2d x) :: st) h bc bs Q) : WP G y d pc lv (vf x :: st) h bc bs Q := by
  intro α hp oN ol os Q0 oU
  show WQ G y d pc (lm α lv) (vf x :: sm α st) hp bc bs Q0
  exact wq_f2d hd hne (K.of oN ol ((os.tl).cons (trivial)) oU rfl rfl)
theorem wp_dup {a : Int32 ⊕ Option Nat ⊕ UInt32} (hd : decode (mC y) pc = .ok (.dup, 1)) (K : WP G y d (pc + 1) lv (.inl a :: .inl a :: st) h bc bs Q) : WP G y d pc lv (.inl a :: st) h bc bs Q := by
  intro α hp oN ol os Q0 oU
  show WQ G y d pc (lm α lv) (.inl (am1 α a) :: sm α st) hp bc bs Q0
  exact wq_dup hd (K.of oN ol (os.cons os.hd) oU rfl rfl)
theorem wp_dup_x1 {a b : Int32 ⊕ Option Nat ⊕ UInt32} (hd : decode (mC y) pc = .ok (.dup_x1, 1)) (K : WP G y d (pc + 1) lv (.inl a :: .inl b :: .inl a :: st) h bc bs Q) : WP G y d pc lv (.inl a :: .inl b :: st) h bc bs Q := by
  intro α hp oN ol os Q0 oU
  show WQ G y d pc (lm α lv) (.inl (am1 α a) :: .inl (am1 α b) :: sm α st) hp bc bs Q0
  exact wq_dup_x1 hd (K.of oN ol (((os.tl.tl.cons os.hd).cons os.tl.hd).cons os.hd) oU rfl rfl)
theorem wp_dup2 {a b : Int32 ⊕ Option Nat ⊕ UInt32} (hd : decode (mC y) pc = .ok (.dup2, 1)) (K : WP G y d (pc + 1) lv (.inl a :: .inl b :: .inl a :: .inl b :: st) h bc bs Q) : WP G y d pc lv (.inl a :: .inl b :: st) h bc bs Q := by
  intro α hp oN ol os Q0 oU
  show WQ G y d pc (lm α lv) (.inl (am1 α a) :: .inl (am1 α b) :: sm α st) hp bc bs Q0
  exact wq_dup2 hd (K.of oN ol ((os.cons os.tl.hd).cons os.hd) oU rfl rfl)
theorem wp_pop {a : Int32 ⊕ Option Nat ⊕ UInt32} (hd : decode (mC y) pc = .ok (.pop, 1)) (K : WP G y d (pc + 1) lv (st) h bc bs Q) : WP G y d pc lv (.inl a :: st) h bc bs Q := by
  intro α hp oN ol os Q0 oU
  show WQ G y d pc (lm α lv) (.inl (am1 α a) :: sm α st) hp bc bs Q0
  exact wq_pop hd (K.of oN ol (os.tl) oU rfl rfl)
theorem wp_if_eq {x : Int32} {off : Int} (tgt : Nat) (hd : decode (mC y) pc = .ok (.ifCond .eq off, 3)) (ht : (pc : Int) + off = (tgt : Int)) (kt : x = 0 → WP G y d tgt lv st h bc bs Q) (kf : ¬ x = 0 → WP G y d (pc + 3) lv st h bc bs Q) : WP G y d pc lv (vi x :: st) h bc bs Q := by
  intro α hp oN ol os Q0 oU
  show WQ G y d pc (lm α lv) (vi x :: sm α st) hp bc bs Q0
  exact wq_if_eq tgt hd ht (fun c => (kt c).of oN ol (os.tl) oU rfl rfl) (fun c => (kf c).of oN ol (os.tl) oU rfl rfl)
theorem wp_icmp_eq {x z : Int32} {off : Int} (tgt : Nat) (hd : decode (mC y) pc = .ok (.if_icmp .eq off, 3)) (ht : (pc : Int) + off = (tgt : Int)) (kt : x = z → WP G y d tgt lv st h bc bs Q) (kf : ¬ x = z → WP G y d (pc + 3) lv st h bc bs Q) : WP G y d pc lv (vi z :: vi x :: st) h bc bs Q := by
  intro α hp oN ol os Q0 oU
  show WQ G y d pc (lm α lv) (vi z :: vi x :: sm α st) hp bc bs Q0
  exact wq_icmp_eq tgt hd ht (fun c => (kt c).of oN ol (os.tl.tl) oU rfl rfl) (fun c => (kf c).of oN ol (os.tl.tl) oU rfl rfl)
theorem wp_if_ne {x : Int32} {off : Int} (tgt : Nat) (hd : decode (mC y) pc = .ok (.ifCond .ne off, 3)) (ht : (pc : Int) + off = (tgt : Int)) (kt : ¬ x = 0 → WP G y d tgt lv st h bc bs Q) (kf : x = 0 → WP G y d (pc + 3) lv st h bc bs Q) : WP G y d pc lv (vi x :: st) h bc bs Q := by
  intro α hp oN ol os Q0 oU
  show WQ G y d pc (lm α lv) (vi x :: sm α st) hp bc bs Q0
  exact wq_if_ne tgt hd ht (fun c => (kt c).of oN ol (os.tl) oU rfl rfl) (fun c => (kf c).of oN ol (os.tl) oU rfl rfl)
theorem wp_icmp_ne {x z : Int32} {off : Int} (tgt : Nat) (hd : decode (mC y) pc = .ok (.if_icmp .ne off, 3)) (ht : (pc : Int) + off = (tgt : Int)) (kt : ¬ x = z → WP G y d tgt lv st h bc bs Q) (kf : x = z → WP G y d (pc + 3) lv st h bc bs Q) : WP G y d pc lv (vi z :: vi x :: st) h bc bs Q := by
  intro α hp oN ol os Q0 oU
  show WQ G y d pc (lm α lv) (vi z :: vi x :: sm α st) hp bc bs Q0
  exact wq_icmp_ne tgt hd ht (fun c => (kt c).of oN ol (os.tl.tl) oU rfl rfl) (fun c => (kf c).of oN ol (os.tl.tl) oU rfl rfl)
theorem wp_if_lt {x : Int32} {off : Int} (tgt : Nat) (hd : decode (mC y) pc = .ok (.ifCond .lt off, 3)) (ht : (pc : Int) + off = (tgt : Int)) (kt : x < 0 → WP G y d tgt lv st h bc bs Q) (kf : ¬ x < 0 → WP G y d (pc + 3) lv st h bc bs Q) : WP G y d pc lv (vi x :: st) h bc bs Q := by
  intro α hp oN ol os Q0 oU
  show WQ G y d pc (lm α lv) (vi x :: sm α st) hp bc bs Q0
  exact wq_if_lt tgt hd ht (fun c => (kt c).of oN ol (os.tl) oU rfl rfl) (fun c => (kf c).of oN ol (os.tl) oU rfl rfl)
theorem wp_icmp_lt {x z : Int32} {off : Int} (tgt : Nat) (hd : decode (mC y) pc = .ok (.if_icmp .lt off, 3)) (ht : (pc : Int) + off = (tgt : Int)) (kt : x < z → WP G y d tgt lv st h bc bs Q) (kf : ¬ x < z → WP G y d (pc + 3) lv st h bc bs Q) : WP G y d pc lv (vi z :: vi x :: st) h bc bs Q := by
  intro α hp oN ol os Q0 oU
  show WQ G y d pc (lm α lv) (vi z :: vi x :: sm α st) hp bc bs Q0
  exact wq_icmp_lt tgt hd ht (fun c => (kt c).of oN ol (os.tl.tl) oU rfl rfl) (fun c => (kf c).of oN ol (os.tl.tl) oU rfl rfl)
theorem wp_if_ge {x : Int32} {off : Int} (tgt : Nat) (hd : decode (mC y) pc = .ok (.ifCond .ge off, 3)) (ht : (pc : Int) + off = (tgt : Int)) (kt : 0 ≤ x → WP G y d tgt lv st h bc bs Q) (kf : ¬ 0 ≤ x → WP G y d (pc + 3) lv st h bc bs Q) : WP G y d pc lv (vi x :: st) h bc bs Q := by
  intro α hp oN ol os Q0 oU
  show WQ G y d pc (lm α lv) (vi x :: sm α st) hp bc bs Q0
  exact wq_if_ge tgt hd ht (fun c => (kt c).of oN ol (os.tl) oU rfl rfl) (fun c => (kf c).of oN ol (os.tl) oU rfl rfl)
theorem wp_icmp_ge {x z : Int32} {off : Int} (tgt : Nat) (hd : decode (mC y) pc = .ok (.if_icmp .ge off, 3)) (ht : (pc : Int) + off = (tgt : Int)) (kt : z ≤ x → WP G y d tgt lv st h bc bs Q) (kf : ¬ z ≤ x → WP G y d (pc + 3) lv st h bc bs Q) : WP G y d pc lv (vi z :: vi x :: st) h bc bs Q := by
  intro α hp oN ol os Q0 oU
  show WQ G y d pc (lm α lv) (vi z :: vi x :: sm α st) hp bc bs Q0
  exact wq_icmp_ge tgt hd ht (fun c => (kt c).of oN ol (os.tl.tl) oU rfl rfl) (fun c => (kf c).of oN ol (os.tl.tl) oU rfl rfl)
theorem wp_if_gt {x : Int32} {off : Int} (tgt : Nat) (hd : decode (mC y) pc = .ok (.ifCond .gt off, 3)) (ht : (pc : Int) + off = (tgt : Int)) (kt : 0 < x → WP G y d tgt lv st h bc bs Q) (kf : ¬ 0 < x → WP G y d (pc + 3) lv st h bc bs Q) : WP G y d pc lv (vi x :: st) h bc bs Q := by
  intro α hp oN ol os Q0 oU
  show WQ G y d pc (lm α lv) (vi x :: sm α st) hp bc bs Q0
  exact wq_if_gt tgt hd ht (fun c => (kt c).of oN ol (os.tl) oU rfl rfl) (fun c => (kf c).of oN ol (os.tl) oU rfl rfl)
theorem wp_icmp_gt {x z : Int32} {off : Int} (tgt : Nat) (hd : decode (mC y) pc = .ok (.if_icmp .gt off, 3)) (ht : (pc : Int) + off = (tgt : Int)) (kt : z < x → WP G y d tgt lv st h bc bs Q) (kf : ¬ z < x → WP G y d (pc + 3) lv st h bc bs Q) : WP G y d pc lv (vi z :: vi x :: st) h bc bs Q := by
  intro α hp oN ol os Q0 oU
  show WQ G y d pc (lm α lv) (vi z :: vi x :: sm α st) hp bc bs Q0
  exact wq_icmp_gt tgt hd ht (fun c => (kt c).of oN ol (os.tl.tl) oU rfl rfl) (fun c => (kf c).of oN ol (os.tl.tl) oU rfl rfl)
theorem wp_if_le {x : Int32} {off : Int} (tgt : Nat) (hd : decode (mC y) pc = .ok (.ifCond .le off, 3)) (ht : (pc : Int) + off = (tgt : Int)) (kt : x ≤ 0 → WP G y d tgt lv st h bc bs Q) (kf : ¬ x ≤ 0 → WP G y d (pc + 3) lv st h bc bs Q) : WP G y d pc lv (vi x :: st) h bc bs Q := by
  intro α hp oN ol os Q0 oU
  show WQ G y d pc (lm α lv) (vi x :: sm α st) hp bc bs Q0
  exact wq_if_le tgt hd ht (fun c => (kt c).of oN ol (os.tl) oU rfl rfl) (fun c => (kf c).of oN ol (os.tl) oU rfl rfl)
theorem wp_icmp_le {x z : Int32} {off : Int} (tgt : Nat) (hd : decode (mC y) pc = .ok (.if_icmp .le off, 3)) (ht : (pc : Int) + off = (tgt : Int)) (kt : x ≤ z → WP G y d tgt lv st h bc bs Q) (kf : ¬ x ≤ z → WP G y d (pc + 3) lv st h bc bs Q) : WP G y d pc lv (vi z :: vi x :: st) h bc bs Q := by
  intro α hp oN ol os Q0 oU
  show WQ G y d pc (lm α lv) (vi z :: vi x :: sm α st) hp bc bs Q0
  exact wq_icmp_le tgt hd ht (fun c => (kt c).of oN ol (os.tl.tl) oU rfl rfl) (fun c => (kf c).of oN ol (os.tl.tl) oU rfl rfl)
theorem wp_acmp_eq {r q : Option Nat} {off : Int} (tgt : Nat) (hd : decode (mC y) pc = .ok (.if_acmp .eq off, 3)) (ht : (pc : Int) + off = (tgt : Int)) (kt : r = q → WP G y d tgt lv st h bc bs Q) (kf : ¬ r = q → WP G y d (pc + 3) lv st h bc bs Q) : WP G y d pc lv (vr q :: vr r :: st) h bc bs Q := by
  intro α hp oN ol os Q0 oU
  show WQ G y d pc (lm α lv) (vr (q.map α) :: vr (r.map α) :: sm α st) hp bc bs Q0
  exact wq_acmp_eq tgt hd ht (fun c => (kt (map_inj oN os.tl.hd os.hd c)).of oN ol (os.tl.tl) oU rfl rfl) (fun c => (kf (fun e => c (congrArg (Option.map α) e))).of oN ol (os.tl.tl) oU rfl rfl)
theorem wp_acmp_ne {r q : Option Nat} {off : Int} (tgt : Nat) (hd : decode (mC y) pc = .ok (.if_acmp .ne off, 3)) (ht : (pc : Int) + off = (tgt : Int)) (kt : ¬ r = q → WP G y d tgt lv st h bc bs Q) (kf : r = q → WP G y d (pc + 3) lv st h bc bs Q) : WP G y d pc lv (vr q :: vr r :: st) h bc bs Q := by
  intro α hp oN ol os Q0 oU
  show WQ G y d pc (lm α lv) (vr (q.map α) :: vr (r.map α) :: sm α st) hp bc bs Q0
  exact wq_acmp_ne tgt hd ht (fun c => (kt (fun e => c (congrArg (Option.map α) e))).of oN ol (os.tl.tl) oU rfl rfl) (fun c => (kf (map_inj oN os.tl.hd os.hd c)).of oN ol (os.tl.tl) oU rfl rfl)
theorem wp_ifnull {r : Option Nat} {off : Int} (tgt : Nat) (hd : decode (mC y) pc = .ok (.ifnull off, 3)) (ht : (pc : Int) + off = (tgt : Int)) (kt : r = none → WP G y d tgt lv st h bc bs Q) (kf : ∀ a, r = some a → WP G y d (pc + 3) lv st h bc bs Q) : WP G y d pc lv (vr r :: st) h bc bs Q := by
  intro α hp oN ol os Q0 oU
  show WQ G y d pc (lm α lv) (vr (r.map α) :: sm α st) hp bc bs Q0
  exact wq_ifnull tgt hd ht (fun c => (kt (Option.map_eq_none_iff.mp c)).of oN ol (os.tl) oU rfl rfl) (fun b c => (map_sm c).elim fun a ha => (kf a ha.1).of oN ol (os.tl) oU rfl rfl)
theorem wp_ifnonnull {r : Option Nat} {off : Int} (tgt : Nat) (hd : decode (mC y) pc = .ok (.ifnonnull off, 3)) (ht : (pc : Int) + off = (tgt : Int)) (kt : ∀ a, r = some a → WP G y d tgt lv st h bc bs Q) (kf : r = none → WP G y d (pc + 3) lv st h bc bs Q) : WP G y d pc lv (vr r :: st) h bc bs Q := by
  intro α hp oN ol os Q0 oU
  show WQ G y d pc (lm α lv) (vr (r.map α) :: sm α st) hp bc bs Q0
  exact wq_ifnonnull tgt hd ht (fun b c => (map_sm c).elim fun a ha => (kt a ha.1).of oN ol (os.tl) oU rfl rfl) (fun c => (kf (Option.map_eq_none_iff.mp c)).of oN ol (os.tl) oU rfl rfl)
theorem wp_goto {off : Int} (tgt : Nat) (hd : decode (mC y) pc = .ok (.goto off, 3)) (ht : (pc : Int) + off = (tgt : Int)) (K : WP G y d tgt lv st h bc bs Q) : WP G y d pc lv st h bc bs Q := by
  intro α hp oN ol os Q0 oU
  exact wq_goto tgt hd ht (K.of oN ol (os) oU rfl rfl)
theorem wp_tableOut {dflt lo hi : Int} {offs : Array Int} {len : Nat} {x : Int32} (tgt : Nat) (hd : decode (mC y) pc = .ok (.tableswitch dflt lo hi offs, len)) (hx : x.toInt < lo ∨ hi < x.toInt) (ht : (pc : Int) + dflt = (tgt : Int)) (K : WP G y d tgt lv st h bc bs Q) : WP G y d pc lv (vi x :: st) h bc bs Q := by
  intro α hp oN ol os Q0 oU
  show WQ G y d pc (lm α lv) (vi x :: sm α st) hp bc bs Q0
  exact wq_tableOut tgt hd hx ht (K.of oN ol (os.tl) oU rfl rfl)
theorem wp_tableIn {dflt lo hi off : Int} {offs : Array Int} {len : Nat} {x : Int32} (tgt : Nat) (hd : decode (mC y) pc = .ok (.tableswitch dflt lo hi offs, len)) (h1 : ¬ x.toInt < lo) (h2 : ¬ hi < x.toInt) (ho : offs[(x.toInt - lo).toNat]? = some off) (ht : (pc : Int) + off = (tgt : Int)) (K : WP G y d tgt lv st h bc bs Q) : WP G y d pc lv (vi x :: st) h bc bs Q := by
  intro α hp oN ol os Q0 oU
  show WQ G y d pc (lm α lv) (vi x :: sm α st) hp bc bs Q0
  exact wq_tableIn tgt hd h1 h2 ho ht (K.of oN ol (os.tl) oU rfl rfl)
theorem wp_ireturn {x : Int32} (hd : decode (mC y) pc = .ok (.ireturn, 1)) (ht : mR y = some .int) (hq : Q (oRet (vi x)) h) : WP G y d pc lv [vi x] h bc bs Q := by
  intro α hp oN ol os Q0 oU
  show WQ G y d pc (lm α lv) [vi x] hp bc bs Q0
  exact wq_ireturn hd ht (oU α h hp (oRet (vi x)) oN (ext.rf rfl) trivial hq)
theorem wp_zreturn {x : Int32} {ty : FieldType} (hd : decode (mC y) pc = .ok (.ireturn, 1)) (ht : mR y = some ty) (hn : narrow ty (.int x) = .int x) (hq : Q (oRet (vi x)) h) : WP G y d pc lv [vi x] h bc bs Q := by
  intro α hp oN ol os Q0 oU
  show WQ G y d pc (lm α lv) [vi x] hp bc bs Q0
  exact wq_zreturn hd ht hn (oU α h hp (oRet (vi x)) oN (ext.rf rfl) trivial hq)
theorem wp_lreturn {x : Int64} (hd : decode (mC y) pc = .ok (.lreturn, 1)) (ht : mR y = some .long) (hq : Q (oRet (vl x)) h) : WP G y d pc lv [vl x] h bc bs Q := by
  intro α hp oN ol os Q0 oU
  show WQ G y d pc (lm α lv) [vl x] hp bc bs Q0
  exact wq_lreturn hd ht (oU α h hp (oRet (vl x)) oN (ext.rf rfl) trivial hq)
theorem wp_freturn {x : UInt32} (hd : decode (mC y) pc = .ok (.freturn, 1)) (ht : mR y = some .float) (hq : Q (oRet (vf x)) h) : WP G y d pc lv [vf x] h bc bs Q := by
  intro α hp oN ol os Q0 oU
  show WQ G y d pc (lm α lv) [vf x] hp bc bs Q0
  exact wq_freturn hd ht (oU α h hp (oRet (vf x)) oN (ext.rf rfl) trivial hq)
theorem wp_return (hd : decode (mC y) pc = .ok (.return_, 1)) (ht : mR y = none) (hq : Q oVoid h) : WP G y d pc lv [] h bc bs Q := by
  intro α hp oN ol os Q0 oU
  show WQ G y d pc (lm α lv) [] hp bc bs Q0
  exact wq_return hd ht (oU α h hp oVoid oN (ext.rf rfl) trivial hq)
theorem wp_areturn {r : Option Nat} {rt : FieldType} (hd : decode (mC y) pc = .ok (.areturn, 1)) (ht : mR y = some rt) (hrt : (∃ n, rt = .object n) ∨ ∃ t, rt = .array t) (hq : Q (oRet (vr r)) h) : WP G y d pc lv [vr r] h bc bs Q := by
  intro α hp oN ol os Q0 oU
  show WQ G y d pc (lm α lv) [vr (r.map α)] hp bc bs Q0
  exact wq_areturn hd ht hrt (oU α h hp (oRet (vr r)) oN (ext.rf rfl) os.hd hq)
theorem wp_get {a idx : Nat} (ci k : Nat) (v : AV) (hd : decode (mC y) pc = .ok (.getfield idx, 3)) (ho : h_k h a = ci + 1) (hci : ci < 18) (hk1 : k < clN ci) (hlink : Cond.fieldLink (mN y).cls idx (clT ci k).1 (clT ci k).2.1 (clT ci k).2.2.1 ∈ lw_good) (hv : encF h a (clTy ci k) k = toV v) (K : WP G y d (pc + 3) lv (v :: st) h bc bs Q) : WP G y d pc lv (vr (some a) :: st) h bc bs Q := by
  intro α hp oN ol os Q0 oU
  show WQ G y d pc (lm α lv) (vr (some (α a)) :: sm α st) hp bc bs Q0
  have ha : h_k h a ≠ 0 := by rw [ho]; exact Nat.succ_ne_zero _
  have ev := enc_nm oN ha hv
  exact wq_get ci k (am α v) hd ((oN.1 a ha).1.trans ho) hci hk1 hlink ev.1 (K.of oN ol (os.tl.cons ev.2) oU rfl rfl)
theorem wp_getN {a idx : Nat} (ci k : Nat) {host : String} (v : AV) (hd : decode (mC y) pc = .ok (.getfield idx, 3)) (ho : h_k h a = ci + 1) (hci : ci < 18) (hk1 : k < clN ci) (hlink : Cond.fieldLinkNest (mN y).cls idx (clT ci k).1 (clT ci k).2.1 (clT ci k).2.2.1 host ∈ dwX) (hv : encF h a (clTy ci k) k = toV v) (K : WP G y d (pc + 3) lv (v :: st) h bc bs Q) : WP G y d pc lv (vr (some a) :: st) h bc bs Q := by
  intro α hp oN ol os Q0 oU
  show WQ G y d pc (lm α lv) (vr (some (α a)) :: sm α st) hp bc bs Q0
  have ha : h_k h a ≠ 0 := by rw [ho]; exact Nat.succ_ne_zero _
  have ev := enc_nm oN ha hv
  exact wq_getN ci k (am α v) hd ((oN.1 a ha).1.trans ho) hci hk1 hlink ev.1 (K.of oN ol (os.tl.cons ev.2) oU rfl rfl)
theorem wp_getS {a idx : Nat} (ci k : Nat) {ref : String} (v : AV) (hd : decode (mC y) pc = .ok (.getfield idx, 3)) (ho : h_k h a = ci + 1) (hci : ci < 18) (hk1 : k < clN ci) (hlink : Cond.fieldLink (mN y).cls idx ref (clT ci k).2.1 (clT ci k).2.2.1 ∈ lw_good) (hsm : Cond.sameField ref (clT ci k).1 (clT ci k).2.1 (clT ci k).2.2.1 ∈ lw_good) (hv : encF h a (clTy ci k) k = toV v) (K : WP G y d (pc + 3) lv (v :: st) h bc bs Q) : WP G y d pc lv (vr (some a) :: st) h bc bs Q := by
  intro α hp oN ol os Q0 oU
  show WQ G y d pc (lm α lv) (vr (some (α a)) :: sm α st) hp bc bs Q0
  have ha : h_k h a ≠ 0 := by rw [ho]; exact Nat.succ_ne_zero _
  have ev := enc_nm oN ha hv
  exact wq_getS ci k (am α v) hd ((oN.1 a ha).1.trans ho) hci hk1 hlink hsm ev.1 (K.of oN ol (os.tl.cons ev.2) oU rfl rfl)
theorem wp_putI {a idx : Nat} {x : Int32} (ci k : Nat) (hd : decode (mC y) pc = .ok (.putfield idx, 3)) (ho : h_k h a = ci + 1) (hci : ci < 18) (h0 : ci ≠ 0) (hk1 : k < clN ci) (hlink : Cond.fieldLink (mN y).cls idx (clT ci k).1 (clT ci k).2.1 (clT ci k).2.2.1 ∈ lw_good) (hfin : (clT ci k).2.2.2 = false) (hI : ∀ (h' : Hp) (a : Nat), encF h' a (clTy ci k) k = .int (h_I h' a k)) (hnr : narrow (clTy ci k) (toV (vi x)) = toV (vi x)) (hft : fits (clTy ci k) (toV (vi x)) = true) (K : WP G y d (pc + 3) lv st (wI h a k x) bc bs Q) : WP G y d pc lv (vi x :: vr (some a) :: st) h bc bs Q := by
  intro α hp oN ol os Q0 oU
  show WQ G y d pc (lm α lv) (vi x :: vr (some (α a)) :: sm α st) hp bc bs Q0
  have ha : h_k h a ≠ 0 := by rw [ho]; exact Nat.succ_ne_zero _
  have ha1 : h_k h a ≠ 1 := by rw [ho]; omega
  exact wq_putI ci k hd ((oN.1 a ha).1.trans ho) hci h0 hk1 hlink hfin (fun h' => hI h' (α a)) hnr hft (K.of (oN.wI ha ha1) ol (os.tl.tl) (oU.st (ext.rf rfl)) rfl rfl)
theorem wp_putIF {a idx : Nat} {x : Int32} (ci k : Nat) (hd : decode (mC y) pc = .ok (.putfield idx, 3)) (ho : h_k h a = ci + 1) (hci : ci < 18) (h0 : ci ≠ 0) (hk1 : k < clN ci) (hlink : Cond.fieldLink (mN y).cls idx (clT ci k).1 (clT ci k).2.1 (clT ci k).2.2.1 ∈ lw_good) (hfin : (clT ci k).2.2.2 = true) (hin : (mN y).name = "<init>") (hdecl : (clT ci k).1 = (mN y).cls) (hI : ∀ (h' : Hp) (a : Nat), encF h' a (clTy ci k) k = .int (h_I h' a k)) (hnr : narrow (clTy ci k) (toV (vi x)) = toV (vi x)) (hft : fits (clTy ci k) (toV (vi x)) = true) (K : WP G y d (pc + 3) lv st (wI h a k x) bc bs Q) : WP G y d pc lv (vi x :: vr (some a) :: st) h bc bs Q := by
  intro α hp oN ol os Q0 oU
  show WQ G y d pc (lm α lv) (vi x :: vr (some (α a)) :: sm α st) hp bc bs Q0
  have ha : h_k h a ≠ 0 := by rw [ho]; exact Nat.succ_ne_zero _
  have ha1 : h_k h a ≠ 1 := by rw [ho]; omega
  exact wq_putIF ci k hd ((oN.1 a ha).1.trans ho) hci h0 hk1 hlink hfin hin hdecl (fun h' => hI h' (α a)) hnr hft (K.of (oN.wI ha ha1) ol (os.tl.tl) (oU.st (ext.rf rfl)) rfl rfl)
theorem cl_noO : ∀ ci, ci < 18 → clR ci ≠ "java/lang/Object" := by decide +kernel
theorem wp_putR {a idx : Nat} {x : Option Nat} (ci k : Nat) (hd : decode (mC y) pc = .ok (.putfield idx, 3)) (ho : h_k h a = ci + 1) (hci : ci < 18) (h0 : ci ≠ 0) (hk1 : k < clN ci) (hlink : Cond.fieldLink (mN y).cls idx (clT ci k).1 (clT ci k).2.1 (clT ci k).2.2.1 ∈ lw_good) (hfin : (clT ci k).2.2.2 = false) (hI : ∀ (h' : Hp) (a : Nat), encF h' a (clTy ci k) k = va_rf (h_R h' a k)) (hrk : refKind (clTy ci k) = true) (K : WP G y d (pc + 3) lv st (wR h a k x) bc bs Q) : WP G y d pc lv (vr x :: vr (some a) :: st) h bc bs Q := by
  intro α hp oN ol os Q0 oU
  show WQ G y d pc (lm α lv) (vr (x.map α) :: vr (some (α a)) :: sm α st) hp bc bs Q0
  have ha : h_k h a ≠ 0 := by rw [ho]; exact Nat.succ_ne_zero _
  exact wq_putR ci k hd ((oN.1 a ha).1.trans ho) hci h0 hk1 hlink hfin (fun h' => hI h' (α a)) (put_n _) (put_f hrk) (K.of (oN.wR ha os.hd (fun z => absurd (ho.symm.trans z) (by omega))) ol (os.tl.tl) (oU.st (ext.rf rfl)) rfl rfl)
theorem wp_putRF {a idx : Nat} {x : Option Nat} (ci k : Nat) (hd : decode (mC y) pc = .ok (.putfield idx, 3)) (ho : h_k h a = ci + 1) (hci : ci < 18) (h0 : ci ≠ 0) (hk1 : k < clN ci) (hlink : Cond.fieldLink (mN y).cls idx (clT ci k).1 (clT ci k).2.1 (clT ci k).2.2.1 ∈ lw_good) (hfin : (clT ci k).2.2.2 = true) (hin : (mN y).name = "<init>") (hdecl : (clT ci k).1 = (mN y).cls) (hI : ∀ (h' : Hp) (a : Nat), encF h' a (clTy ci k) k = va_rf (h_R h' a k)) (hrk : refKind (clTy ci k) = true) (K : WP G y d (pc + 3) lv st (wR h a k x) bc bs Q) : WP G y d pc lv (vr x :: vr (some a) :: st) h bc bs Q := by
  intro α hp oN ol os Q0 oU
  show WQ G y d pc (lm α lv) (vr (x.map α) :: vr (some (α a)) :: sm α st) hp bc bs Q0
  have ha : h_k h a ≠ 0 := by rw [ho]; exact Nat.succ_ne_zero _
  exact wq_putRF ci k hd ((oN.1 a ha).1.trans ho) hci h0 hk1 hlink hfin hin hdecl (fun h' => hI h' (α a)) (put_n _) (put_f hrk) (K.of (oN.wR ha os.hd (fun z => absurd (ho.symm.trans z) (by omega))) ol (os.tl.tl) (oU.st (ext.rf rfl)) rfl rfl)
theorem wp_putL {a idx : Nat} {x : Int64} (ci k : Nat) (hd : decode (mC y) pc = .ok (.putfield idx, 3)) (ho : h_k h a = ci + 1) (hci : ci < 18) (h0 : ci ≠ 0) (hk1 : k < clN ci) (hlink : Cond.fieldLink (mN y).cls idx (clT ci k).1 (clT ci k).2.1 (clT ci k).2.2.1 ∈ lw_good) (hfin : (clT ci k).2.2.2 = false) (hI : ∀ (h' : Hp) (a : Nat), encF h' a (clTy ci k) k = .long (h_L h' a k)) (hnr : narrow (clTy ci k) (toV (vl x)) = toV (vl x)) (hft : fits (clTy ci k) (toV (vl x)) = true) (K : WP G y d (pc + 3) lv st (wL h a k x) bc bs Q) : WP G y d pc lv (vl x :: vr (some a) :: st) h bc bs Q := by
  intro α hp oN ol os Q0 oU
  show WQ G y d pc (lm α lv) (vl x :: vr (some (α a)) :: sm α st) hp bc bs Q0
  have ha : h_k h a ≠ 0 := by rw [ho]; exact Nat.succ_ne_zero _
  exact wq_putL ci k hd ((oN.1 a ha).1.trans ho) hci h0 hk1 hlink hfin (fun h' => hI h' (α a)) hnr hft (K.of (oN.wL ha) ol (os.tl.tl) (oU.st (ext.rf rfl)) rfl rfl)
theorem wp_putLF {a idx : Nat} {x : Int64} (ci k : Nat) (hd : decode (mC y) pc = .ok (.putfield idx, 3)) (ho : h_k h a = ci + 1) (hci : ci < 18) (h0 : ci ≠ 0) (hk1 : k < clN ci) (hlink : Cond.fieldLink (mN y).cls idx (clT ci k).1 (clT ci k).2.1 (clT ci k).2.2.1 ∈ lw_good) (hfin : (clT ci k).2.2.2 = true) (hin : (mN y).name = "<init>") (hdecl : (clT ci k).1 = (mN y).cls) (hI : ∀ (h' : Hp) (a : Nat), encF h' a (clTy ci k) k = .long (h_L h' a k)) (hnr : narrow (clTy ci k) (toV (vl x)) = toV (vl x)) (hft : fits (clTy ci k) (toV (vl x)) = true) (K : WP G y d (pc + 3) lv st (wL h a k x) bc bs Q) : WP G y d pc lv (vl x :: vr (some a) :: st) h bc bs Q := by
  intro α hp oN ol os Q0 oU
  show WQ G y d pc (lm α lv) (vl x :: vr (some (α a)) :: sm α st) hp bc bs Q0
  have ha : h_k h a ≠ 0 := by rw [ho]; exact Nat.succ_ne_zero _
  exact wq_putLF ci k hd ((oN.1 a ha).1.trans ho) hci h0 hk1 hlink hfin hin hdecl (fun h' => hI h' (α a)) hnr hft (K.of (oN.wL ha) ol (os.tl.tl) (oU.st (ext.rf rfl)) rfl rfl)
theorem wp_putIS {a idx : Nat} {x : Int32} (ci k : Nat) {ref : String} (hd : decode (mC y) pc = .ok (.putfield idx, 3)) (ho : h_k h a = ci + 1) (hci : ci < 18) (h0 : ci ≠ 0) (hk1 : k < clN ci) (hlink : Cond.fieldLink (mN y).cls idx ref (clT ci k).2.1 (clT ci k).2.2.1 ∈ lw_good) (hsm : Cond.sameField ref (clT ci k).1 (clT ci k).2.1 (clT ci k).2.2.1 ∈ lw_good) (hfin : (clT ci k).2.2.2 = false) (hI : ∀ (h' : Hp) (a : Nat), encF h' a (clTy ci k) k = .int (h_I h' a k)) (hnr : narrow (clTy ci k) (.int x) = .int x) (hft : fits (clTy ci k) (.int x) = true) (K : WP G y d (pc + 3) lv st (wI h a k x) bc bs Q) : WP G y d pc lv (vi x :: vr (some a) :: st) h bc bs Q := by
  intro α hp oN ol os Q0 oU
  show WQ G y d pc (lm α lv) (vi x :: vr (some (α a)) :: sm α st) hp bc bs Q0
  have ha : h_k h a ≠ 0 := by rw [ho]; exact Nat.succ_ne_zero _
  have ha1 : h_k h a ≠ 1 := by rw [ho]; omega
  exact wq_putIS ci k hd ((oN.1 a ha).1.trans ho) hci h0 hk1 hlink hsm hfin (fun h' => hI h' (α a)) hnr hft (K.of (oN.wI ha ha1) ol (os.tl.tl) (oU.st (ext.rf rfl)) rfl rfl)
theorem wp_iaload {a : Nat} {i : Int32} (hd : decode (mC y) pc = .ok (.iaload, 1)) (ho : h_k h a = 101) (hin : vp_in i (h_n h a)) (K : WP G y d (pc + 1) lv (vi (h_I h a i.toNatClampNeg) :: st) h bc bs Q) : WP G y d pc lv (vi i :: vr (some a) :: st) h bc bs Q := by
  intro α hp oN ol os Q0 oU
  show WQ G y d pc (lm α lv) (vi i :: vr (some (α a)) :: sm α st) hp bc bs Q0
  have ha : h_k h a ≠ 0 := by rw [ho]; decide
  obtain ⟨e1, e2, e3, e4, e5, e6⟩ := oN.1 a ha
  exact wq_iaload hd (e1.trans ho) (by rw [e2]; exact hin) (K.of oN ol (os.tl.tl.cons trivial) oU rfl (by rw [e3]; rfl))
theorem wp_zaload {a : Nat} {i : Int32} (hd : decode (mC y) pc = .ok (.baload, 1)) (ho : h_k h a = 102) (hin : vp_in i (h_n h a)) (K : WP G y d (pc + 1) lv (vi (h_I h a i.toNatClampNeg) :: st) h bc bs Q) : WP G y d pc lv (vi i :: vr (some a) :: st) h bc bs Q := by
  intro α hp oN ol os Q0 oU
  show WQ G y d pc (lm α lv) (vi i :: vr (some (α a)) :: sm α st) hp bc bs Q0
  have ha : h_k h a ≠ 0 := by rw [ho]; decide
  obtain ⟨e1, e2, e3, e4, e5, e6⟩ := oN.1 a ha
  exact wq_zaload hd (e1.trans ho) (by rw [e2]; exact hin) (K.of oN ol (os.tl.tl.cons trivial) oU rfl (by rw [e3]; rfl))
theorem wp_aaload {a : Nat} {i : Int32} {E : String} (hd : decode (mC y) pc = .ok (.aaload, 1)) (ho : arTy (h_k h a) = some (.object E)) (hin : vp_in i (h_n h a)) (K : WP G y d (pc + 1) lv (vr (h_R h a i.toNatClampNeg) :: st) h bc bs Q) : WP G y d pc lv (vi i :: vr (some a) :: st) h bc bs Q := by
  intro α hp oN ol os Q0 oU
  show WQ G y d pc (lm α lv) (vi i :: vr (some (α a)) :: sm α st) hp bc bs Q0
  have ha : h_k h a ≠ 0 := arTy0 ho
  obtain ⟨e1, e2, e3, e4, e5, e6⟩ := oN.1 a ha
  exact wq_aaload hd (by rw [e1]; exact ho) (by rw [e2]; exact hin) (K.of oN ol (os.tl.tl.cons (fun x hx => oN.2.2.1 a _ x ha hx)) oU rfl (by rw [e4]; rfl))
theorem wp_alen {a : Nat} {ty : FieldType} (hd : decode (mC y) pc = .ok (.arraylength, 1)) (ho : arTy (h_k h a) = some ty) (K : WP G y d (pc + 1) lv (vi (nI (h_n h a)) :: st) h bc bs Q) : WP G y d pc lv (vr (some a) :: st) h bc bs Q := by
  intro α hp oN ol os Q0 oU
  show WQ G y d pc (lm α lv) (vr (some (α a)) :: sm α st) hp bc bs Q0
  have ha : h_k h a ≠ 0 := arTy0 ho
  obtain ⟨e1, e2, e3, e4, e5, e6⟩ := oN.1 a ha
  exact wq_alen hd (by rw [e1]; exact ho) (K.of oN ol (os.tl.cons trivial) oU rfl (by rw [e2]; rfl))
theorem wp_iastore {a : Nat} {i x : Int32} (hd : decode (mC y) pc = .ok (.iastore, 1)) (ho : h_k h a = 101) (hin : vp_in i (h_n h a)) (K : WP G y d (pc + 1) lv st (wI h a i.toNatClampNeg x) bc bs Q) : WP G y d pc lv (vi x :: vi i :: vr (some a) :: st) h bc bs Q := by
  intro α hp oN ol os Q0 oU
  show WQ G y d pc (lm α lv) (vi x :: vi i :: vr (some (α a)) :: sm α st) hp bc bs Q0
  have ha : h_k h a ≠ 0 := by rw [ho]; decide
  obtain ⟨e1, e2, e3, e4, e5, e6⟩ := oN.1 a ha
  have ha1 : h_k h a ≠ 1 := by rw [ho]; decide
  exact wq_iastore hd (e1.trans ho) (by rw [e2]; exact hin) (K.of (oN.wI ha ha1) ol os.tl.tl.tl (oU.st (ext.rf rfl)) rfl rfl)
theorem wp_zastore {a : Nat} {i x : Int32} (hd : decode (mC y) pc = .ok (.bastore, 1)) (ho : h_k h a = 102) (hin : vp_in i (h_n h a)) (hx : vp_nar .boolean x = x) (K : WP G y d (pc + 1) lv st (wI h a i.toNatClampNeg x) bc bs Q) : WP G y d pc lv (vi x :: vi i :: vr (some a) :: st) h bc bs Q := by
  intro α hp oN ol os Q0 oU
  show WQ G y d pc (lm α lv) (vi x :: vi i :: vr (some (α a)) :: sm α st) hp bc bs Q0
  have ha : h_k h a ≠ 0 := by rw [ho]; decide
  obtain ⟨e1, e2, e3, e4, e5, e6⟩ := oN.1 a ha
  have ha1 : h_k h a ≠ 1 := by rw [ho]; decide
  exact wq_zastore hd (e1.trans ho) (by rw [e2]; exact hin) hx (K.of (oN.wI ha ha1) ol os.tl.tl.tl (oU.st (ext.rf rfl)) rfl rfl)
theorem wp_aastore {a : Nat} {i : Int32} {r : Option Nat} (ci : Nat) (hd : decode (mC y) pc = .ok (.aastore, 1)) (ha : arTy (h_k h a) = some (.object (clR ci))) (hci : ci < 18) (hin : vp_in i (h_n h a)) (hrk : ∀ v, r = some v → h_k h v = ci + 1) (K : WP G y d (pc + 1) lv st (wR h a i.toNatClampNeg r) bc bs Q) : WP G y d pc lv (vr r :: vi i :: vr (some a) :: st) h bc bs Q := by
  intro α hp oN ol os Q0 oU
  show WQ G y d pc (lm α lv) (vr (r.map α) :: vi i :: vr (some (α a)) :: sm α st) hp bc bs Q0
  have hz : h_k h a ≠ 0 := arTy0 ha
  obtain ⟨e1, e2, e3, e4, e5, e6⟩ := oN.1 a hz
  exact wq_aastore ci hd (by rw [e1]; exact ha) hci (by rw [e2]; exact hin) (fun v hv => (map_sm hv).elim fun x hx => hx.2 ▸ ((oN.1 x (os.hd x hx.1)).1.trans (hrk x hx.1))) (K.of (oN.wR hz os.hd (fun z => absurd ha (by rw [z]; exact fun q => cl_noO ci hci (FieldType.object.inj (Option.some.inj q)).symm))) ol os.tl.tl.tl (oU.st (ext.rf rfl)) rfl rfl)
theorem wp_aastoreO {a : Nat} {i : Int32} {r : Option Nat} (hd : decode (mC y) pc = .ok (.aastore, 1)) (ho : h_k h a = 118) (hin : vp_in i (h_n h a)) (hrk : ∀ v, r = some v → h_k h v ≠ 0 ∧ h_k h v ≠ 200) (K : WP G y d (pc + 1) lv st (wR h a i.toNatClampNeg r) bc bs Q) : WP G y d pc lv (vr r :: vi i :: vr (some a) :: st) h bc bs Q := by
  intro α hp oN ol os Q0 oU
  show WQ G y d pc (lm α lv) (vr (r.map α) :: vi i :: vr (some (α a)) :: sm α st) hp bc bs Q0
  have ha : h_k h a ≠ 0 := by rw [ho]; decide
  obtain ⟨e1, e2, e3, e4, e5, e6⟩ := oN.1 a ha
  exact wq_aastoreO hd (e1.trans ho) (by rw [e2]; exact hin) (fun v hv => by obtain ⟨x, hx, e⟩ := map_sm hv; rw [e, (oN.1 x (os.hd x hx)).1]; exact hrk x hx) (K.of (oN.wR ha os.hd (fun _ v hv => (hrk v hv).2)) ol os.tl.tl.tl (oU.st (ext.rf rfl)) rfl rfl)
theorem wp_castC {idx : Nat} {r : Option Nat} (ci : Nat) (hd : decode (mC y) pc = .ok (.checkcast idx, 3)) (hci : ci < 18) (hlink : Cond.classLink (mN y).cls idx (clR ci) ∈ lw_good) (hk1 : ∀ a, r = some a → h_k h a = ci + 1) (K : WP G y d (pc + 3) lv (vr r :: st) h bc bs Q) : WP G y d pc lv (vr r :: st) h bc bs Q := by
  intro α hp oN ol os Q0 oU
  show WQ G y d pc (lm α lv) (vr (r.map α) :: sm α st) hp bc bs Q0
  exact wq_castC ci hd hci hlink (fun b hb => (map_sm hb).elim fun x hx => hx.2 ▸ ((oN.1 x (os.hd x hx.1)).1.trans (hk1 x hx.1))) (K.of oN ol os oU rfl rfl)
theorem wp_castA {idx : Nat} {r : Option Nat} (ty : FieldType) {nm : String} (hd : decode (mC y) pc = .ok (.checkcast idx, 3)) (hnm : "[" ++ ty.toString = nm) (hlink : Cond.classLink (mN y).cls idx nm ∈ lw_good) (hk1 : ∀ a, r = some a → arTy (h_k h a) = some ty) (K : WP G y d (pc + 3) lv (vr r :: st) h bc bs Q) : WP G y d pc lv (vr r :: st) h bc bs Q := by
  intro α hp oN ol os Q0 oU
  show WQ G y d pc (lm α lv) (vr (r.map α) :: sm α st) hp bc bs Q0
  exact wq_castA ty hd hnm hlink (fun b hb => (map_sm hb).elim fun x hx => hx.2 ▸ (by rw [(oN.1 x (os.hd x hx.1)).1]; exact hk1 x hx.1)) (K.of oN ol os oU rfl rfl)
theorem wp_max {idx : Nat} {x z : Int32} (hd : decode (mC y) pc = .ok (.invokestatic idx, 3)) (hlink : Cond.methodLink (mN y).cls idx Lib.Math.max.name ∈ lw_good) (hst : Cond.static Lib.Math.max.name ∈ lw_good) (hini : Cond.initialized "java/lang/Math" ∈ lw_good) (hcode : Cond.code Lib.Math.max.name Lib.Math.max.code 2 (some .int) ∈ lw_good) (hd1 : 1 ≤ d) (hcat : (st.map fun v => if av2 v = true then 2 else 1).sum ≤ 8) (K : WP G y d (pc + 3) lv (vi (if x < z then z else x) :: st) h bc bs Q) : WP G y d pc lv (vi z :: vi x :: st) h bc bs Q := by
  intro α hp oN ol os Q0 oU
  show WQ G y d pc (lm α lv) (vi z :: vi x :: sm α st) hp bc bs Q0
  exact wq_max hd hlink hst hini hcode hd1 (cat_am hcat) (K.of oN ol ((os.tl.tl).cons (trivial)) oU rfl rfl)
theorem wp_min {idx : Nat} {x z : Int32} (hd : decode (mC y) pc = .ok (.invokestatic idx, 3)) (hlink : Cond.methodLink (mN y).cls idx Lib.Math.min.name ∈ lw_good) (hst : Cond.static Lib.Math.min.name ∈ lw_good) (hini : Cond.initialized "java/lang/Math" ∈ lw_good) (hcode : Cond.code Lib.Math.min.name Lib.Math.min.code 2 (some .int) ∈ lw_good) (hd1 : 1 ≤ d) (hcat : (st.map fun v => if av2 v = true then 2 else 1).sum ≤ 8) (K : WP G y d (pc + 3) lv (vi (if z < x then z else x) :: st) h bc bs Q) : WP G y d pc lv (vi z :: vi x :: st) h bc bs Q := by
  intro α hp oN ol os Q0 oU
  show WQ G y d pc (lm α lv) (vi z :: vi x :: sm α st) hp bc bs Q0
  exact wq_min hd hlink hst hini hcode hd1 (cat_am hcat) (K.of oN ol ((os.tl.tl).cons (trivial)) oU rfl rfl)
theorem wp_objInit {a idx : Nat} (hd : decode (mC y) pc = .ok (.invokespecial idx, 3)) (hlink : Cond.methodLink (mN y).cls idx objectInit ∈ lw_good) (hin : Cond.instanceMethod objectInit ∈ lw_good) (hcode : Cond.code objectInit ⟨#[0xb1]⟩ 1 none ∈ lw_good) (hd1 : 1 ≤ d) (hcat : (st.map fun v => if av2 v = true then 2 else 1).sum ≤ 8) (K : WP G y d (pc + 3) lv st h bc bs Q) : WP G y d pc lv (vr (some a) :: st) h bc bs Q := by
  intro α hp oN ol os Q0 oU
  show WQ G y d pc (lm α lv) (vr (some (α a)) :: sm α st) hp bc bs Q0
  exact wq_objInit hd hlink hin hcode hd1 (cat_am hcat) (K.of oN ol (os.tl) oU rfl rfl)
theorem cpy_map {α : Nat → Nat} {f g : Nat → Option Nat} {a b n : Nat} : va_cpy (fun j => (f j).map α) (fun j => (g j).map α) a b n = fun j => (va_cpy f g a b n j).map α := by
  funext j
  unfold va_cpy
  split <;> rfl
theorem wp_copyI {idx a a0 : Nat} {sp dp n : Int32} (hd : decode (mC y) pc = .ok (.invokestatic idx, 3)) (hlink : Cond.methodLink (mN y).cls idx arraycopyName ∈ lw_good) (hnat : Cond.native arraycopyName ∈ lw_good) (hst : Cond.static arraycopyName ∈ lw_good) (hini : Cond.initialized "java/lang/System" ∈ lw_good) (hd1 : 1 ≤ d) (hcat : (st.map fun v => if av2 v = true then 2 else 1).sum ≤ 8)
    (ho0 : h_k h a0 = 101) (ho : h_k h a = 101) (h1 : ¬ sp < 0) (h2 : ¬ dp < 0) (h3 : ¬ n < 0) (h4 : sp.toNatClampNeg + n.toNatClampNeg ≤ h_n h a0) (h5 : dp.toNatClampNeg + n.toNatClampNeg ≤ h_n h a)
    (K : WP G y d (pc + 3) lv st (cpI h a (va_cpy (h_I h a0) (h_I h a) sp.toNatClampNeg dp.toNatClampNeg n.toNatClampNeg)) bc bs Q) : WP G y d pc lv (vi n :: vi dp :: vr (some a) :: vi sp :: vr (some a0) :: st) h bc bs Q := by
  intro α hp oN ol os Q0 oU
  show WQ G y d pc (lm α lv) (vi n :: vi dp :: vr (some (α a)) :: vi sp :: vr (some (α a0)) :: sm α st) hp bc bs Q0
  have ha : h_k h a ≠ 0 := by rw [ho]; decide
  have ha0 : h_k h a0 ≠ 0 := by rw [ho0]; decide
  have ha1 : h_k h a ≠ 1 := by rw [ho]; decide
  obtain ⟨e1, e2, e3, e4, e5, e6⟩ := oN.1 a ha
  obtain ⟨f1, f2, f3, f4, f5, f6⟩ := oN.1 a0 ha0
  exact wq_copyI hd hlink hnat hst hini hd1 (cat_am hcat) (f1.trans ho0) (e1.trans ho) h1 h2 h3 (by rw [f2]; exact h4) (by rw [e2]; exact h5) (by rw [e3, f3]; exact K.of (oN.cpI ha ha1) ol os.tl.tl.tl.tl.tl (oU.st (ext.rf rfl)) rfl rfl)
theorem cpy_in {G : GG} {α : Nat → Nat} {T h : Hp} (hN : NP G α T h) {a a0 sp dp n j x : Nat} (ha : h_k T a ≠ 0) (ha0 : h_k T a0 ≠ 0) (hx : va_cpy (h_R T a0) (h_R T a) sp dp n j = some x) : h_k T x ≠ 0 := by
  unfold va_cpy at hx
  split at hx
  · exact hN.2.2.1 _ _ _ ha0 hx
  · exact hN.2.2.1 _ _ _ ha hx
theorem cpy_in2 {G : GG} {α : Nat → Nat} {T h : Hp} (hN : NP G α T h) {a a0 sp dp n j x : Nat} (ha : h_k T a = 118) (ha0 : h_k T a0 = 118) (hx : va_cpy (h_R T a0) (h_R T a) sp dp n j = some x) : h_k T x ≠ 200 := by
  unfold va_cpy at hx
  split at hx
  · exact (hN.2.2.2.2.2.2 0 (by decide)).2.2 _ _ _ ha0 hx
  · exact (hN.2.2.2.2.2.2 0 (by decide)).2.2 _ _ _ ha hx
theorem wp_copyR {idx a a0 : Nat} {sp dp n : Int32} (hd : decode (mC y) pc = .ok (.invokestatic idx, 3)) (hlink : Cond.methodLink (mN y).cls idx arraycopyName ∈ lw_good) (hnat : Cond.native arraycopyName ∈ lw_good) (hst : Cond.static arraycopyName ∈ lw_good) (hini : Cond.initialized "java/lang/System" ∈ lw_good) (hd1 : 1 ≤ d) (hcat : (st.map fun v => if av2 v = true then 2 else 1).sum ≤ 8)
    (ho0 : h_k h a0 = 118) (ho : h_k h a = 118) (hn0 : h_n h a0 ≠ 0) (hn1 : h_n h a ≠ 0) (h1 : ¬ sp < 0) (h2 : ¬ dp < 0) (h3 : ¬ n < 0) (h4 : sp.toNatClampNeg + n.toNatClampNeg ≤ h_n h a0) (h5 : dp.toNatClampNeg + n.toNatClampNeg ≤ h_n h a) (hel : True)
    (K : WP G y d (pc + 3) lv st (cpR h a (va_cpy (h_R h a0) (h_R h a) sp.toNatClampNeg dp.toNatClampNeg n.toNatClampNeg)) bc bs Q) : WP G y d pc lv (vi n :: vi dp :: vr (some a) :: vi sp :: vr (some a0) :: st) h bc bs Q := by
  intro α hp oN ol os Q0 oU
  show WQ G y d pc (lm α lv) (vi n :: vi dp :: vr (some (α a)) :: vi sp :: vr (some (α a0)) :: sm α st) hp bc bs Q0
  have ha : h_k h a ≠ 0 := by rw [ho]; decide
  have ha0 : h_k h a0 ≠ 0 := by rw [ho0]; decide
  have ha1 : h_k h a ≠ 1 := by rw [ho]; decide
  obtain ⟨e1, e2, e3, e4, e5, e6⟩ := oN.1 a ha
  obtain ⟨f1, f2, f3, f4, f5, f6⟩ := oN.1 a0 ha0
  exact wq_copyR hd hlink hnat hst hini hd1 (cat_am hcat) (f1.trans ho0) (e1.trans ho) (by rw [f2]; exact hn0) (by rw [e2]; exact hn1) h1 h2 h3 (by rw [f2]; exact h4) (by rw [e2]; exact h5) (fun i v _ hv => by rw [f4] at hv; obtain ⟨x, hx, e⟩ := map_sm hv; rw [e, (oN.1 x (oN.2.2.1 a0 i x ha0 hx)).1]; exact ⟨oN.2.2.1 a0 i x ha0 hx, (oN.2.2.2.2.2.2 0 (by decide)).2.2 a0 i x ho0 hx⟩) (by rw [e4, f4, cpy_map]; exact K.of (oN.cpR ha (fun j x hx => cpy_in oN ha ha0 hx) (fun j x hx => cpy_in2 oN ho ho0 hx)) ol os.tl.tl.tl.tl.tl (oU.st (ext.rf rfl)) rfl rfl)
theorem wp_getsE {idx : Nat} (hd : decode (mC y) pc = .ok (.getstatic idx, 3)) (hlink : Cond.fieldLink (mN y).cls idx "java/util/ArrayList" "DEFAULTCAPACITY_EMPTY_ELEMENTDATA" "[Ljava/lang/Object;" ∈ lw_good) (K : WP G y d (pc + 3) lv (vr (some 0) :: st) h bc bs Q) : WP G y d pc lv st h bc bs Q := by
  intro α h0 hN hl hs Q0 hU
  exact wq_getsE hd hlink (K.of hN hl (hs.cons (fun a ha => by cases ha; rw [hN.2.2.2.2.1]; decide)) hU rfl (by show vr (some (α 0)) :: sm α st = _; rw [hN.2.2.2.1]))
theorem up_top {α : Nat → Nat} {q q' : Nat} : sm (va_up α q q') [vr (some q)] = [vr (some q')] := by
  show [vr (some (va_up α q q' q))] = _
  rw [va_up_self]
theorem sm_new {α : Nat → Nat} {T T' : Hp} {q q' : Nat} {st : List AV} (hs : SI T st) (e : ext α T (va_up α q q') T') : sm (va_up α q q') (vr (some q) :: st) = vr (some q') :: sm α st := by
  show vr (some (va_up α q q' q)) :: sm (va_up α q q') st = _
  rw [va_up_self, sm_ext hs e]
theorem mk_at {T : Hp} {q kd n : Nat} (hkd : kd ≠ 0) : inD (mk T q kd n) (vr (some q)) := fun a ha => by
  cases ha
  show va_up (h_k T) q kd q ≠ 0
  rw [va_up_self]; exact hkd
theorem wp_new {idx : Nat} (ci : Nat) (hd : decode (mC y) pc = .ok (.new idx, 3)) (hci : ci < 18) (hlink : Cond.classLink (mN y).cls idx (clR ci) ∈ lw_good) (hins : Cond.instantiable (clR ci) (clN ci) ∈ lw_good) (hini : Cond.initialized (clR ci) ∈ lw_good) (hbc : 1 ≤ bc) (hbs : clN ci ≤ bs)
    (q : Nat) (hq : h_k h q = 0) (K : WP G y d (pc + 3) lv (vr (some q) :: st) (mk h q (ci + 1) 0) (bc - 1) (bs - clN ci) Q) : WP G y d pc lv st h bc bs Q := by
  intro α hp oN ol os Q0 oU
  refine wq_new ci hd hci hlink hins hini hbc hbs (fun q0 g1 g2 => ?_)
  obtain ⟨n1, n2⟩   := oN.make (n := 0) hq g1 (Nat.succ_ne_zero _)
  exact K.of n1 (ol.ext n2) ((SI.ext os n2).cons (mk_at (Nat.succ_ne_zero _))) (oU.st n2) (lm_ext ol n2) (sm_new os n2)
theorem wp_newarray {atype : ArrayType} {n : Int32} (kd N : Nat) (ty : FieldType) (hd : decode (mC y) pc = .ok (.newarray atype, 2)) (hty : newarray.typeOf atype = ty) (hkd : arTy kd = some ty) (hw : Cond.arrayClass ty ∈ lw_good) (hn : ¬ n < 0) (hN : n.toNatClampNeg = N) (hb : N ≤ 60000) (hcb : componentBytes ty ≤ 8) (hpl : ∀ (h' : Hp) (q : Nat), (∀ j, h_I h' q j = 0 ∧ h_L h' q j = 0 ∧ h_F h' q j = 0) → ∀ cA : ClassId, vp_cell cA (encA h' q ty) = arrV cA (h_n h' q) (fun _ => defaultValue ty)) (hbc : 1 ≤ bc) (hbs : N ≤ bs)
    (q : Nat) (hq : h_k h q = 0) (K : WP G y d (pc + 2) lv (vr (some q) :: st) (mk h q kd N) (bc - 1) (bs - N) Q) : WP G y d pc lv (vi n :: st) h bc bs Q := by
  intro α hp oN ol os Q0 oU
  show WQ G y d pc (lm α lv) (vi n :: sm α st) hp bc bs Q0
  refine wq_newarray kd N ty hd hty hkd hw hn hN hb hcb hpl hbc hbs (fun q0 g1 g2 => ?_)
  obtain ⟨n1, n2⟩   := oN.make (n := N) hq g1 (arTy0 hkd)
  exact K.of n1 (ol.ext n2) ((SI.ext os.tl n2).cons (mk_at (arTy0 hkd))) (oU.st n2) (lm_ext ol n2) (sm_new os.tl n2)
theorem wp_anewarray {idx : Nat} {n : Int32} {E : String} (kd N : Nat) (hd : decode (mC y) pc = .ok (.anewarray idx, 3)) (hkd : arTy kd = some (.object E)) (hE : E ∈ aoX) (hlink : Cond.classLink (mN y).cls idx E ∈ lw_good) (hn : ¬ n < 0) (hN : n.toNatClampNeg = N) (hb : N ≤ 60000) (hbc : 1 ≤ bc) (hbs : N ≤ bs)
    (q : Nat) (hq : h_k h q = 0) (K : WP G y d (pc + 3) lv (vr (some q) :: st) (mk h q kd N) (bc - 1) (bs - N) Q) : WP G y d pc lv (vi n :: st) h bc bs Q := by
  intro α hp oN ol os Q0 oU
  show WQ G y d pc (lm α lv) (vi n :: sm α st) hp bc bs Q0
  refine wq_anewarray kd N hd hkd hE hlink hn hN hb hbc hbs (fun q0 g1 g2 => ?_)
  obtain ⟨n1, n2⟩   := oN.make (n := N) hq g1 (arTy0 hkd)
  exact K.of n1 (ol.ext n2) ((SI.ext os.tl n2).cons (mk_at (arTy0 hkd))) (oU.st n2) (lm_ext ol n2) (sm_new os.tl n2)
theorem wp_clone {idx a : Nat} (hd : decode (mC y) pc = .ok (.invokevirtual idx, 3)) (hlink : Cond.methodLink (mN y).cls idx ⟨"[I", "clone", "()Ljava/lang/Object;"⟩ ∈ lw_good) (hsame : Cond.sameMethod "[I" "java/lang/Object" "clone" "()Ljava/lang/Object;" ∈ lw_good) (hnat : Cond.native ⟨"java/lang/Object", "clone", "()Ljava/lang/Object;"⟩ ∈ lw_good) (hinst : Cond.instanceMethod ⟨"java/lang/Object", "clone", "()Ljava/lang/Object;"⟩ ∈ lw_good) (hsel : Cond.selects "[I" ⟨"[I", "clone", "()Ljava/lang/Object;"⟩ ⟨"java/lang/Object", "clone", "()Ljava/lang/Object;"⟩ ∈ lw_good) (hcl : Cond.castable "[I" "java/lang/Cloneable" ∈ dwX)
    (hd1 : 1 ≤ d) (hcat : (st.map fun v => if av2 v = true then 2 else 1).sum ≤ 8) (ho : h_k h a = 101) (hbc : 1 ≤ bc) (hbs : h_n h a ≤ bs)
    (q : Nat) (hq : h_k h q = 0) (K : WP G y d (pc + 3) lv (vr (some q) :: st) (cpI (mk h q 101 (h_n h a)) q (h_I h a)) (bc - 1) (bs - h_n h a) Q) : WP G y d pc lv (vr (some a) :: st) h bc bs Q := by
  intro α hp oN ol os Q0 oU
  show WQ G y d pc (lm α lv) (vr (some (α a)) :: sm α st) hp bc bs Q0
  have ha : h_k h a ≠ 0 := by rw [ho]; decide
  obtain ⟨e1, e2, e3, e4, e5, e6⟩ := oN.1 a ha
  refine wq_clone hd hlink hsame hnat hinst hsel hcl hd1 (cat_am hcat) (e1.trans ho) hbc (by rw [e2]; exact hbs) (fun q0 g1 g2 => ?_)
  rw [e2, e3]
  obtain ⟨n1, n2⟩   := oN.make (n := h_n h a) hq g1 (by decide : (101 : Nat) ≠ 0)
  have n3 := n1.cpI (a := q) (f := h_I h a) (by show va_up (h_k h) q 101 q ≠ 0; rw [va_up_self]; decide) (by show va_up (h_k h) q 101 q ≠ 1; rw [va_up_self]; decide)
  rw [va_up_self] at n3
  exact K.of n3 (ol.ext n2) (SI.cons (SI.ext os.tl n2) (mk_at (T := h) (q := q) (kd := 101) (n := h_n h a) (by decide))) (oU.st n2) (lm_ext ol n2) (sm_new os.tl n2)
end NR
section NM
variable {G : GG} {y : MI} {d pc : Nat} {lv : LV} {st : List AV} {h : Hp} {bc bs : Nat} {Q : Pst}
theorem wp_topi {x : Int32} (K : ∀ z, z = x → WP G y d pc lv (vi z :: st) h bc bs Q) : WP G y d pc lv (vi x :: st) h bc bs Q := K x rfl
theorem wp_topr {x : Option Nat} (K : ∀ z, z = x → WP G y d pc lv (vr z :: st) h bc bs Q) : WP G y d pc lv (vr x :: st) h bc bs Q := K x rfl
theorem wp_topl {x : Int64} (K : ∀ z, z = x → WP G y d pc lv (vl z :: st) h bc bs Q) : WP G y d pc lv (vl x :: st) h bc bs Q := K x rfl
theorem wp_topf {x : UInt32} (K : ∀ z, z = x → WP G y d pc lv (vf z :: st) h bc bs Q) : WP G y d pc lv (vf x :: st) h bc bs Q := K x rfl
theorem wp_heap (K : ∀ z, z = h → WP G y d pc lv st z bc bs Q) : WP G y d pc lv st h bc bs Q := K h rfl
theorem wp_sub (lv' : LV) (hs : ∀ q ∈ lv', q ∈ lv) (K : WP G y d pc lv' st h bc bs Q) : WP G y d pc lv st h bc bs Q := fun α h0 hN hl hs0 Q0 hU =>
  wq_sub (lm α lv') (fun q hq => by obtain ⟨z, hz, e⟩ := List.mem_map.mp hq; exact List.mem_map.mpr ⟨z, hs z hz, e⟩) (K.of hN (fun q hq => hl q (hs q hq)) hs0 hU rfl rfl)
theorem wp_pay {bc' bs' : Nat} (h1 : bc' ≤ bc) (h2 : bs' ≤ bs) (K : WP G y d pc lv st h bc' bs' Q) : WP G y d pc lv st h bc bs Q := fun α h0 hN hl hs0 Q0 hU => wq_pay h1 h2 (K.of hN hl hs0 hU rfl rfl)
theorem wp_deep {d' : Nat} (h1 : d' ≤ d) (K : WP G y d' pc lv st h bc bs Q) : WP G y d pc lv st h bc bs Q := fun α h0 hN hl hs0 Q0 hU => wq_deep h1 (K.of hN hl hs0 hU rfl rfl)
theorem wp_post {Q' : Pst} (hQ : ∀ o h', Q' o h' → Q o h') (K : WP G y d pc lv st h bc bs Q') : WP G y d pc lv st h bc bs Q := fun α h0 hN hl hs0 Q0 hU => K.of hN hl hs0 (fun α' T' h' o a b c q => hU α' T' h' o a b c (hQ o T' q)) rfl rfl
theorem wx_out {E : String} (hy : mH y = []) (hq : Q (.inr E) h) : WX G y d pc lv h bc bs Q E := fun α h0 hN hl Q0 hU => wxq_out hy (hU α h h0 (.inr E) hN (ext.rf rfl) trivial hq)
theorem wp_throw {E text : String} {ik is ic : Nat} (d0 : decode (mC y) pc = .ok (.new ik, 3)) (d3 : decode (mC y) (pc + 3) = .ok (.dup, 1)) (d4 : decode (mC y) (pc + 4) = .ok (.ldc_w is, 3)) (d7 : decode (mC y) (pc + 7) = .ok (.invokespecial ic, 3)) (d10 : decode (mC y) (pc + 10) = .ok (.athrow, 1))
    (ht : ThrOk (mN y).cls ik ic E) (hs : ((mN y).cls, is, text) ∈ srX) (hy : mH y = []) (hd : 6 ≤ d) (hbc : 1 ≤ bc) (hbs : 6 ≤ bs) (hq : Q (.inr E) h) : WP G y d pc lv [] h bc bs Q := fun α h0 hN hl hs0 Q0 hU =>
  wq_throw d0 d3 d4 d7 d10 ht hs hy hd hbc hbs (hU α h h0 (.inr E) hN (ext.rf rfl) trivial hq)
theorem wp_throwN {text : String} {is : Nat} (d0 : decode (mC y) pc = .ok (.new 137, 3)) (d3 : decode (mC y) (pc + 3) = .ok (.dup, 1)) (d4 : decode (mC y) (pc + 4) = .ok (.ldc_w is, 3)) (d7 : decode (mC y) (pc + 7) = .ok (.invokespecial 141, 3)) (d10 : decode (mC y) (pc + 10) = .ok (.athrow, 1))
    (hown : (mN y).cls = RX11) (hs : ((mN y).cls, is, text) ∈ srX) (hy : mH y = []) (hd : 6 ≤ d) (hbc : 1 ≤ bc) (hbs : 6 ≤ bs) (hq : Q (.inr "java/util/NoSuchElementException") h) : WP G y d pc lv [] h bc bs Q := fun α h0 hN hl hs0 Q0 hU =>
  wq_throwN d0 d3 d4 d7 d10 hown hs hy hd hbc hbs (hU α h h0 (.inr _) hN (ext.rf rfl) trivial hq)
end NM
section NC
variable {G : GG} {y y' : MI} {d d' pc idx n count : Nat} {lv : LV} {st rest : List AV} {h : Hp} {bc bs mc ms : Nat} {Q : Pst}
/-- what comes behind a call: the next row, or the exception over the frame -/
def cont (G : GG) (y : MI) (d pc : Nat) (lv : LV) (rest : List AV) (bc bs : Nat) (Q : Pst) (pcx : Nat) : Pst := fun o h' => match o with
  | .inl v => WP G y d pc lv (v.toList ++ rest) h' bc bs Q
  | .inr E => WX G y d pcx lv h' bc bs Q E
theorem cont_ret {pcx : Nat} {v : AV} {h' : Hp} (K : WP G y d pc lv (v :: rest) h' bc bs Q) : cont G y d pc lv rest bc bs Q pcx (oRet v) h' := K
theorem cont_void {pcx : Nat} {h' : Hp} (K : WP G y d pc lv rest h' bc bs Q) : cont G y d pc lv rest bc bs Q pcx oVoid h' := K
theorem cont_thr {pcx : Nat} {E : String} {h' : Hp} (hy : mH y = []) (K : Q (.inr E) h') : cont G y d pc lv rest bc bs Q pcx (oThr E) h' := wx_out hy K
theorem cont_up {α : Nat → Nat} {pcx : Nat} {Q0 : Pst} (hl : LI h lv) (hr : SI h rest) (hU : Up G α h Q Q0) : Up G α h (cont G y d pc lv rest bc bs Q pcx) (contq G y d pc (lm α lv) (sm α rest) bc bs Q0 pcx) := by
  intro α' T' h' o n1 n2 i1 hc
  cases o with
  | inl v =>
    have hc : WP G y d pc lv (v.toList ++ rest) T' bc bs Q := hc
    show WQ G y d pc (lm α lv) ((v.map (am α')).toList ++ sm α rest) h' bc bs Q0
    refine hc.of n1 (hl.ext n2) ?_ (hU.st n2) (lm_ext hl n2) ?_
    · cases v with
      | none => exact hr.ext n2
      | some x => exact (hr.ext n2).cons i1
    · cases v with
      | none => exact sm_ext hr n2
      | some x =>
        show am α' x :: sm α' rest = am α' x :: sm α rest
        rw [sm_ext hr n2]
  | inr E =>
    have hc : WX G y d pcx lv T' bc bs Q E := hc
    show WXq G y d pcx (lm α lv) h' bc bs Q0 E
    have := hc α' h' n1 (hl.ext n2) Q0 (hU.st n2)
    rwa [lm_ext hl n2] at this
theorem SI.app {T : Hp} {a b : List AV} (h : SI T (a ++ b)) : SI T a ∧ SI T b := ⟨fun v hv => h v (List.mem_append_left _ hv), fun v hv => h v (List.mem_append_right _ hv)⟩
theorem SI.rev {T : Hp} {a : List AV} (h : SI T a.reverse) : SI T a := fun v hv => h v (List.mem_reverse.mpr hv)
theorem WP.callee {α : Nat → Nat} {as : List AV} {h0 : Hp} {Q0 : Pst} (K : WP G y' d' 0 (aargs 0 as) [] h mc ms Q) (hN : NP G α h h0) (ha : SI h as) (hU : Up G α h Q Q0) : WQ G y' d' 0 (aargs 0 (as.map (am α))) [] h0 mc ms Q0 := by
  have := K α h0 hN (LI_aargs 0 as ha) SI.nil Q0 hU
  rwa [← aargs_am] at this

theorem wp_cS (as : List AV) (rest : List AV) (mc ms : Nat) (hd : decode (mC y) pc = .ok (.invokestatic idx, 3)) (hl : Cond.methodLink (mN y).cls idx (mN y') ∈ lw_good) (hst : Cond.static (mN y') ∈ lw_good) (hy : MOk y' n) (hn : as.length = n) (hw : awords as ≤ mL y') (e : st = as.reverse ++ rest) (hcat : awords rest ≤ 8) (hd1 : d' < d) (h1 : mc ≤ bc) (h2 : ms ≤ bs)
    (K' : WP G y' d' 0 (aargs 0 as) [] h mc ms (cont G y d (pc + 3) lv rest (bc - mc) (bs - ms) Q pc)) : WP G y d pc lv st h bc bs Q := by
  intro α hp oN ol os Q0 oU
  subst e
  have ha := SI.app os
  have ee : sm α (as.reverse ++ rest) = (as.map (am α)).reverse ++ sm α rest := by
    rw [sm, List.map_append, List.map_reverse]
  exact wq_cS (as.map (am α)) (sm α rest) mc ms hd hl hst hy (by rw [List.length_map]; exact hn) (by rw [show awords (as.map (am α)) = awords (as) from awords_am (as)]; exact hw) ee (by rw [awords_am]; exact hcat) hd1 h1 h2 (K'.callee oN ha.1.rev (cont_up ol ha.2 oU))
theorem wp_cV {b : Nat} (ci : Nat) (as : List AV) (rest : List AV) (mc ms : Nat) (hd : decode (mC y) pc = .ok (.invokevirtual idx, 3)) (hl : Cond.methodLink (mN y).cls idx (mN y') ∈ lw_good) (hin : Cond.instanceMethod (mN y') ∈ lw_good) (hsel : Cond.selects (clR ci) (mN y') (mN y') ∈ lw_good) (hci : ci < 18) (hb : h_k h b = ci + 1) (hy : MOk y' n) (hn : as.length = n) (hw : awords (vr (some b) :: as) ≤ mL y') (e : st = as.reverse ++ vr (some b) :: rest) (hcat : awords rest ≤ 8) (hd1 : d' < d) (h1 : mc ≤ bc) (h2 : ms ≤ bs)
    (K' : WP G y' d' 0 (aargs 0 (vr (some b) :: as)) [] h mc ms (cont G y d (pc + 3) lv rest (bc - mc) (bs - ms) Q pc)) : WP G y d pc lv st h bc bs Q := by
  intro α hp oN ol os Q0 oU
  subst e
  have ha := SI.app os
  have ee : sm α (as.reverse ++ vr (some b) :: rest) = (as.map (am α)).reverse ++ vr (some (α b)) :: sm α rest := by
    rw [sm, List.map_append, List.map_reverse]; rfl
  exact wq_cV ci (as.map (am α)) (sm α rest) mc ms hd hl hin hsel hci ((oN.1 b (by rw [hb]; exact Nat.succ_ne_zero _)).1.trans hb) hy (by rw [List.length_map]; exact hn) (by rw [show awords (vr (some (α b)) :: as.map (am α)) = awords (vr (some b) :: as) from awords_am (vr (some b) :: as)]; exact hw) ee (by rw [awords_am]; exact hcat) hd1 h1 h2 (K'.callee oN (ha.1.rev.cons ha.2.hd) (cont_up ol ha.2.tl oU))
theorem wp_cI {b : Nat} (as : List AV) (rest : List AV) (mc ms : Nat) (hd : decode (mC y) pc = .ok (.invokespecial idx, 3)) (hl : Cond.methodLink (mN y).cls idx (mN y') ∈ lw_good) (hin : Cond.instanceMethod (mN y') ∈ lw_good) (hnm : (mN y').name = "<init>") (hr0 : mR y' = none) (hy : MOk y' n) (hn : as.length = n) (hw : awords (vr (some b) :: as) ≤ mL y') (e : st = as.reverse ++ vr (some b) :: rest) (hcat : awords rest ≤ 8) (hd1 : d' < d) (h1 : mc ≤ bc) (h2 : ms ≤ bs)
    (K' : WP G y' d' 0 (aargs 0 (vr (some b) :: as)) [] h mc ms (cont G y d (pc + 3) lv rest (bc - mc) (bs - ms) Q pc)) : WP G y d pc lv st h bc bs Q := by
  intro α hp oN ol os Q0 oU
  subst e
  have ha := SI.app os
  have ee : sm α (as.reverse ++ vr (some b) :: rest) = (as.map (am α)).reverse ++ vr (some (α b)) :: sm α rest := by
    rw [sm, List.map_append, List.map_reverse]; rfl
  exact wq_cI (as.map (am α)) (sm α rest) mc ms hd hl hin hnm hr0 hy (by rw [List.length_map]; exact hn) (by rw [show awords (vr (some (α b)) :: as.map (am α)) = awords (vr (some b) :: as) from awords_am (vr (some b) :: as)]; exact hw) ee (by rw [awords_am]; exact hcat) hd1 h1 h2 (K'.callee oN (ha.1.rev.cons ha.2.hd) (cont_up ol ha.2.tl oU))
theorem wp_cSN {host : String} (as : List AV) (rest : List AV) (mc ms : Nat) (hd : decode (mC y) pc = .ok (.invokestatic idx, 3)) (hl : Cond.methodLinkNest (mN y).cls idx (mN y') host ∈ dwX) (hst : Cond.static (mN y') ∈ lw_good) (hy : MOk y' n) (hn : as.length = n) (hw : awords as ≤ mL y') (e : st = as.reverse ++ rest) (hcat : awords rest ≤ 8) (hd1 : d' < d) (h1 : mc ≤ bc) (h2 : ms ≤ bs)
    (K' : WP G y' d' 0 (aargs 0 as) [] h mc ms (cont G y d (pc + 3) lv rest (bc - mc) (bs - ms) Q pc)) : WP G y d pc lv st h bc bs Q := by
  intro α hp oN ol os Q0 oU
  subst e
  have ha := SI.app os
  have ee : sm α (as.reverse ++ rest) = (as.map (am α)).reverse ++ sm α rest := by
    rw [sm, List.map_append, List.map_reverse]
  exact wq_cSN (as.map (am α)) (sm α rest) mc ms hd hl hst hy (by rw [List.length_map]; exact hn) (by rw [show awords (as.map (am α)) = awords (as) from awords_am (as)]; exact hw) ee (by rw [awords_am]; exact hcat) hd1 h1 h2 (K'.callee oN ha.1.rev (cont_up ol ha.2 oU))
theorem wp_cIN {b : Nat} {host : String} (as : List AV) (rest : List AV) (mc ms : Nat) (hd : decode (mC y) pc = .ok (.invokespecial idx, 3)) (hl : Cond.methodLinkNest (mN y).cls idx (mN y') host ∈ dwX) (hin : Cond.instanceMethod (mN y') ∈ lw_good) (hnm : (mN y').name = "<init>") (hr0 : mR y' = none) (hy : MOk y' n) (hn : as.length = n) (hw : awords (vr (some b) :: as) ≤ mL y') (e : st = as.reverse ++ vr (some b) :: rest) (hcat : awords rest ≤ 8) (hd1 : d' < d) (h1 : mc ≤ bc) (h2 : ms ≤ bs)
    (K' : WP G y' d' 0 (aargs 0 (vr (some b) :: as)) [] h mc ms (cont G y d (pc + 3) lv rest (bc - mc) (bs - ms) Q pc)) : WP G y d pc lv st h bc bs Q := by
  intro α hp oN ol os Q0 oU
  subst e
  have ha := SI.app os
  have ee : sm α (as.reverse ++ vr (some b) :: rest) = (as.map (am α)).reverse ++ vr (some (α b)) :: sm α rest := by
    rw [sm, List.map_append, List.map_reverse]; rfl
  exact wq_cIN (as.map (am α)) (sm α rest) mc ms hd hl hin hnm hr0 hy (by rw [List.length_map]; exact hn) (by rw [show awords (vr (some (α b)) :: as.map (am α)) = awords (vr (some b) :: as) from awords_am (vr (some b) :: as)]; exact hw) ee (by rw [awords_am]; exact hcat) hd1 h1 h2 (K'.callee oN (ha.1.rev.cons ha.2.hd) (cont_up ol ha.2.tl oU))
end NC
