/-! The law's own rows in the heap. -/
theorem put_at {h : Hp} {a k : Nat} {r : Option Nat} : h_R (wR h a k r) a k = r := by rw [gR_wR, if_pos ⟨rfl, rfl⟩]
theorem lg_same (x : Int64) : lg_cmp x x = 0 := by
  unfold lg_cmp
  rw [if_neg (by rw [gt_iff_lt, Int64.lt_iff_toInt_lt]; exact Int.lt_irrefl _), if_pos rfl]
theorem l64_sub {a b : Nat} (h : a ≤ b) (hb : b < 2 ^ 31) : (nI b).toInt64 - (nI a).toInt64 = (nI (b - a)).toInt64 := by
  apply Int64.toInt_inj.mp
  rw [Int64.toInt_sub, Int32.toInt_toInt64, Int32.toInt_toInt64, Int32.toInt_toInt64, nI_toInt hb, nI_toInt (by omega), nI_toInt (by omega)]
  rw [Int.bmod_eq_of_le (by omega) (by omega)]
  omega
theorem l64_add {a b : Nat} (hb : a + b < 2 ^ 31) : (nI a).toInt64 + (nI b).toInt64 = (nI (a + b)).toInt64 := by
  apply Int64.toInt_inj.mp
  rw [Int64.toInt_add, Int32.toInt_toInt64, Int32.toInt_toInt64, Int32.toInt_toInt64, nI_toInt (by omega), nI_toInt (by omega), nI_toInt (by omega)]
  rw [Int.bmod_eq_of_le (by omega) (by omega)]
  omega
theorem l64_one {a : Nat} (hb : a + 1 < 2 ^ 31) : (nI a).toInt64 + 1 = (nI (a + 1)).toInt64 := l64_1 (by rw [nI_toInt (by omega), nI_toInt (by omega)]; omega)
/-- a row of numbers of the law, of n places -/
def RWn (n : Nat) (h : Hp) (a : Nat) (f : Nat → Int32) : Prop := h_k h a = 101 ∧ h_n h a = n ∧ ∀ j, j < n → h_I h a j = f j
theorem RWn.ce {n : Nat} {h h' : Hp} {a : Nat} {f : Nat → Int32} (H : RWn n h a f) (e : ce h' a = ce h a) : RWn n h' a f :=
  ⟨(ce_k e).trans H.1, (ce_n e).trans H.2.1, fun j hj => by rw [ce_I e]; exact H.2.2 j hj⟩
theorem RWn.w {n : Nat} {h : Hp} {a k : Nat} {f : Nat → Int32} {z : Int32} (H : RWn n h a f) : RWn n (wI h a k z) a (va_up f k z) :=
  ⟨H.1, H.2.1, fun j hj => by
    rw [gI_wI, va_up_app]
    by_cases e : j = k
    · rw [if_pos ⟨rfl, e⟩, if_pos e]
    · rw [if_neg (fun z => e z.2), if_neg e]; exact H.2.2 j hj⟩
/-- the rows of the values, how many there are, which transactions are open; what has no name yet -/
def LWH (h : Hp) (nV n nR : Nat) (ro : Nat → Nat) (rf : Nat → Nat → Int32) (K J : Nat) (op : Nat → Bool) : Prop :=
  (h_k h (nm 70 0) = 119 ∧ h_n h (nm 70 0) = 60) ∧ (∀ v, v < nV → h_R h (nm 70 0) v = some (nm 71 (ro v)) ∧ ro v < K ∧ RWl h (nm 71 (ro v)) (rf v)) ∧ (∀ v w, v < nV → w < nV → ro v = ro w → v = w) ∧
  (h_k h (nm 70 1) = 101 ∧ h_n h (nm 70 1) = 3 ∧ h_I h (nm 70 1) 0 = nI nV ∧ h_I h (nm 70 1) 1 = nI n ∧ h_I h (nm 70 1) 2 = nI nR) ∧
  (h_k h (nm 70 2) = 102 ∧ h_n h (nm 70 2) = 3 ∧ ∀ t, t < 3 → h_I h (nm 70 2) t = bI (op t)) ∧
  (∀ i, K ≤ i → h_k h (nm 71 i) = 0) ∧ ∀ i, J ≤ i → h_k h (nm 72 i) = 0 ∧ h_k h (nm 73 i) = 0
section LH
variable {h h' : Hp} {nV n nR K J : Nat} {ro : Nat → Nat} {rf : Nat → Nat → Int32} {op : Nat → Bool}
theorem LWH.fk (H : LWH h nV n nR ro rf K J op) (F : FK h h') : LWH h' nV n nR ro rf K J op := by
  obtain ⟨⟨a1, a2⟩, b, c, ⟨d1, d2, d3, d4, d5⟩, ⟨e1, e2, e3⟩, f, g⟩ := H
  have e0 := F (nm 70 0) (by unfold nm; omega)
  have eo := F (nm 70 1) (by unfold nm; omega)
  have ep := F (nm 70 2) (by unfold nm; omega)
  have e71 : ∀ i, ce h' (nm 71 i) = ce h (nm 71 i) := fun i => F _ (by unfold nm; omega)
  refine ⟨⟨(ce_k e0).trans a1, (ce_n e0).trans a2⟩, fun v hv => ?_, c, ⟨(ce_k eo).trans d1, (ce_n eo).trans d2, by rw [ce_I eo]; exact d3, by rw [ce_I eo]; exact d4, by rw [ce_I eo]; exact d5⟩, ⟨(ce_k ep).trans e1, (ce_n ep).trans e2, fun t ht => by rw [ce_I ep]; exact e3 t ht⟩, fun i hi => (ce_k (e71 i)).trans (f i hi), fun i hi => ⟨(ce_k (F (nm 72 i) (by unfold nm; omega))).trans (g i hi).1, (ce_k (F (nm 73 i) (by unfold nm; omega))).trans (g i hi).2⟩⟩
  obtain ⟨b1, b2, b3⟩ := b v hv
  exact ⟨by rw [ce_R e0]; exact b1, b2, RWn.ce (n := 70) b3 (e71 _)⟩
theorem CLS.law {V : SV} {M q : Nat} {x : Nat → QIS} {R : RS} (C : CLS h V M q x R) (e : ∀ a, a % 128 < 70 → ce h' a = ce h a) : CLS h' V M q x R := C.fr (fun a ha => e a (by omega))
theorem ce_w71 {i k : Nat} {z : Int32} {a : Nat} (ha : a ≠ nm 71 i) : ce (wI h (nm 71 i) k z) a = ce h a := ce_wI ha
theorem ce_w70 {i k : Nat} {z : Int32} {a : Nat} (ha : a ≠ nm 70 i) : ce (wI h (nm 70 i) k z) a = ce h a := ce_wI ha
/-- a row is made -/
theorem LWH.new (H : LWH h nV n nR ro rf K J op) : LWH (mk h (nm 71 K) 101 70) nV n nR ro rf (K + 1) J op ∧ RWl (mk h (nm 71 K) 101 70) (nm 71 K) (fun _ => 0) := by
  obtain ⟨⟨a1, a2⟩, b, c, ⟨d1, d2, d3, d4, d5⟩, ⟨e1, e2, e3⟩, f, g⟩ := H
  have ne : ∀ a, a ≠ nm 71 K → ce (mk h (nm 71 K) 101 70) a = ce h a := fun a ha => ce_mk ha
  have e0 := ne (nm 70 0) (by unfold nm; omega)
  have eo := ne (nm 70 1) (by unfold nm; omega)
  have ep := ne (nm 70 2) (by unfold nm; omega)
  refine ⟨⟨⟨(ce_k e0).trans a1, (ce_n e0).trans a2⟩, fun v hv => ?_, c, ⟨(ce_k eo).trans d1, (ce_n eo).trans d2, by rw [ce_I eo]; exact d3, by rw [ce_I eo]; exact d4, by rw [ce_I eo]; exact d5⟩, ⟨(ce_k ep).trans e1, (ce_n ep).trans e2, fun t ht => by rw [ce_I ep]; exact e3 t ht⟩, fun i hi => (ce_k (ne _ (by unfold nm; omega))).trans (f i (by omega)), fun i hi => ⟨(ce_k (ne (nm 72 i) (by unfold nm; omega))).trans (g i hi).1, (ce_k (ne (nm 73 i) (by unfold nm; omega))).trans (g i hi).2⟩⟩, ?_, ?_, fun j _ => ?_⟩
  · obtain ⟨b1, b2, b3⟩ := b v hv
    exact ⟨by rw [ce_R e0]; exact b1, by omega, RWn.ce (n := 70) b3 (ne _ (by unfold nm; omega))⟩
  · exact va_up_self _ _ _
  · exact va_up_self _ _ _
  · show va_up (h_I h) (nm 71 K) (fun _ => 0) (nm 71 K) j = 0
    rw [va_up_self]
/-- a row that no value has is written -/
theorem LWH.wr (H : LWH h nV n nR ro rf K J op) {i k : Nat} {z : Int32} (hi : ∀ v, v < nV → ro v ≠ i) (hi0 : i < K) : LWH (wI h (nm 71 i) k z) nV n nR ro rf K J op := by
  obtain ⟨⟨a1, a2⟩, b, c, ⟨d1, d2, d3, d4, d5⟩, ⟨e1, e2, e3⟩, f, g⟩ := H
  have ne : ∀ a, a ≠ nm 71 i → ce (wI h (nm 71 i) k z) a = ce h a := fun a ha => ce_wI ha
  have eo := ne (nm 70 1) (by unfold nm; omega)
  have ep := ne (nm 70 2) (by unfold nm; omega)
  refine ⟨⟨a1, a2⟩, fun v hv => ?_, c, ⟨d1, d2, by rw [ce_I eo]; exact d3, by rw [ce_I eo]; exact d4, by rw [ce_I eo]; exact d5⟩, ⟨e1, e2, fun t ht => by rw [ce_I ep]; exact e3 t ht⟩, f, g⟩
  obtain ⟨b1, b2, b3⟩ := b v hv
  have := hi v hv
  exact ⟨b1, b2, RWn.ce (n := 70) b3 (ne _ (by unfold nm; omega))⟩
/-- a value's row is written -/
theorem LWH.wv (H : LWH h nV n nR ro rf K J op) {w k : Nat} {z : Int32} (hw : w < nV) : LWH (wI h (nm 71 (ro w)) k z) nV n nR ro (va_up rf w (va_up (rf w) k z)) K J op := by
  obtain ⟨⟨a1, a2⟩, b, c, ⟨d1, d2, d3, d4, d5⟩, ⟨e1, e2, e3⟩, f, g⟩ := H
  have ne : ∀ a, a ≠ nm 71 (ro w) → ce (wI h (nm 71 (ro w)) k z) a = ce h a := fun a ha => ce_wI ha
  have eo := ne (nm 70 1) (by unfold nm; omega)
  have ep := ne (nm 70 2) (by unfold nm; omega)
  refine ⟨⟨a1, a2⟩, fun v hv => ?_, c, ⟨d1, d2, by rw [ce_I eo]; exact d3, by rw [ce_I eo]; exact d4, by rw [ce_I eo]; exact d5⟩, ⟨e1, e2, fun t ht => by rw [ce_I ep]; exact e3 t ht⟩, f, g⟩
  obtain ⟨b1, b2, b3⟩ := b v hv
  refine ⟨b1, b2, ?_⟩
  rw [va_up_app]
  by_cases e : v = w
  · subst e
    rw [if_pos rfl]
    exact RWn.w (n := 70) b3
  · rw [if_neg e]
    have : ro v ≠ ro w := fun q => e (c v w hv hw q)
    exact RWn.ce (n := 70) b3 (ne _ (by unfold nm; omega))
/-- the place behind the values is set -/
theorem LWH.put (H : LWH h nV n nR ro rf K J op) {r : Option Nat} : LWH (wR h (nm 70 0) nV r) nV n nR ro rf K J op := by
  obtain ⟨⟨a1, a2⟩, b, c, ⟨d1, d2, d3, d4, d5⟩, ⟨e1, e2, e3⟩, f, g⟩ := H
  refine ⟨⟨a1, a2⟩, fun v hv => ?_, c, ⟨d1, d2, d3, d4, d5⟩, ⟨e1, e2, e3⟩, f, g⟩
  obtain ⟨b1, b2, b3⟩ := b v hv
  exact ⟨by rw [gR_wR, if_neg (fun z => absurd z.2 (by omega))]; exact b1, b2, b3⟩
/-- one value more -/
theorem LWH.inc (H : LWH h nV n nR ro rf K J op) {i : Nat} {g : Nat → Int32} (hi : ∀ v, v < nV → ro v ≠ i) (hi0 : i < K) (hp : h_R h (nm 70 0) nV = some (nm 71 i)) (W : RWl h (nm 71 i) g) : LWH (wI h (nm 70 1) 0 (nI (nV + 1))) (nV + 1) n nR (va_up ro nV i) (va_up rf nV g) K J op := by
  obtain ⟨⟨a1, a2⟩, b, c, ⟨d1, d2, d3, d4, d5⟩, ⟨e1, e2, e3⟩, f, gg⟩ := H
  have ne : ∀ a, a ≠ nm 70 1 → ce (wI h (nm 70 1) 0 (nI (nV + 1))) a = ce h a := fun a ha => ce_wI ha
  have ep := ne (nm 70 2) (by unfold nm; omega)
  refine ⟨⟨a1, a2⟩, fun v hv => ?_, fun v w hv hw e => ?_, ⟨d1, d2, by rw [gI_wI, if_pos ⟨rfl, rfl⟩], by rw [gI_wI, if_neg (fun z => absurd z.2 (by decide))]; exact d4, by rw [gI_wI, if_neg (fun z => absurd z.2 (by decide))]; exact d5⟩, ⟨e1, e2, fun t ht => by rw [ce_I ep]; exact e3 t ht⟩, f, gg⟩
  · rw [va_up_app, va_up_app]
    by_cases e : v = nV
    · subst e
      rw [if_pos rfl, if_pos rfl]
      exact ⟨hp, hi0, RWn.ce (n := 70) W (ne _ (by unfold nm; omega))⟩
    · rw [if_neg e, if_neg e]
      obtain ⟨b1, b2, b3⟩ := b v (by omega)
      exact ⟨b1, b2, RWn.ce (n := 70) b3 (ne _ (by unfold nm; omega))⟩
  · rw [va_up_app, va_up_app] at e
    by_cases q : v = nV
    · by_cases z : w = nV
      · omega
      · rw [if_pos q, if_neg z] at e
        exact absurd e.symm (hi w (by omega))
    · by_cases z : w = nV
      · rw [if_neg q, if_pos z] at e
        exact absurd e (hi v (by omega))
      · rw [if_neg q, if_neg z] at e
        exact c v w (by omega) (by omega) e
/-- a sequence or a reference more -/
theorem LWH.incQ (H : LWH h nV n nR ro rf K J op) : LWH (wI h (nm 70 1) 1 (nI (n + 1))) nV (n + 1) nR ro rf K J op := by
  obtain ⟨⟨a1, a2⟩, b, c, ⟨d1, d2, d3, d4, d5⟩, ⟨e1, e2, e3⟩, f, gg⟩ := H
  have ne : ∀ a, a ≠ nm 70 1 → ce (wI h (nm 70 1) 1 (nI (n + 1))) a = ce h a := fun a ha => ce_wI ha
  have ep := ne (nm 70 2) (by unfold nm; omega)
  exact ⟨⟨a1, a2⟩, fun v hv => ⟨(b v hv).1, (b v hv).2.1, RWn.ce (n := 70) (b v hv).2.2 (ne _ (by unfold nm; omega))⟩, c, ⟨d1, d2, by rw [gI_wI, if_neg (fun z => absurd z.2 (by decide))]; exact d3, by rw [gI_wI, if_pos ⟨rfl, rfl⟩], by rw [gI_wI, if_neg (fun z => absurd z.2 (by decide))]; exact d5⟩, ⟨e1, e2, fun t ht => by rw [ce_I ep]; exact e3 t ht⟩, f, gg⟩
theorem LWH.incR (H : LWH h nV n nR ro rf K J op) : LWH (wI h (nm 70 1) 2 (nI (nR + 1))) nV n (nR + 1) ro rf K J op := by
  obtain ⟨⟨a1, a2⟩, b, c, ⟨d1, d2, d3, d4, d5⟩, ⟨e1, e2, e3⟩, f, gg⟩ := H
  have ne : ∀ a, a ≠ nm 70 1 → ce (wI h (nm 70 1) 2 (nI (nR + 1))) a = ce h a := fun a ha => ce_wI ha
  have ep := ne (nm 70 2) (by unfold nm; omega)
  exact ⟨⟨a1, a2⟩, fun v hv => ⟨(b v hv).1, (b v hv).2.1, RWn.ce (n := 70) (b v hv).2.2 (ne _ (by unfold nm; omega))⟩, c, ⟨d1, d2, by rw [gI_wI, if_neg (fun z => absurd z.2 (by decide))]; exact d3, by rw [gI_wI, if_neg (fun z => absurd z.2 (by decide))]; exact d4, by rw [gI_wI, if_pos ⟨rfl, rfl⟩]⟩, ⟨e1, e2, fun t ht => by rw [ce_I ep]; exact e3 t ht⟩, f, gg⟩
theorem LWH.wop (H : LWH h nV n nR ro rf K J op) {t : Nat} {b : Bool} : LWH (wI h (nm 70 2) t (bI b)) nV n nR ro rf K J (va_up op t b) := by
  obtain ⟨⟨a1, a2⟩, b', c, ⟨d1, d2, d3, d4, d5⟩, ⟨e1, e2, e3⟩, f, gg⟩ := H
  have ne : ∀ a, a ≠ nm 70 2 → ce (wI h (nm 70 2) t (bI b)) a = ce h a := fun a ha => ce_wI ha
  have eo := ne (nm 70 1) (by unfold nm; omega)
  refine ⟨⟨a1, a2⟩, fun v hv => ⟨(b' v hv).1, (b' v hv).2.1, RWn.ce (n := 70) (b' v hv).2.2 (ne _ (by unfold nm; omega))⟩, c, ⟨d1, d2, by rw [ce_I eo]; exact d3, by rw [ce_I eo]; exact d4, by rw [ce_I eo]; exact d5⟩, ⟨e1, e2, fun u hu => ?_⟩, f, gg⟩
  rw [gI_wI, va_up_app]
  by_cases q : u = t
  · rw [if_pos ⟨rfl, q⟩, if_pos q]
  · rw [if_neg (fun z => q z.2), if_neg q]; exact e3 u hu
end LH
