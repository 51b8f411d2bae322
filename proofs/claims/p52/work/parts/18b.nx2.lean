/-! Over names: small Integers, copies of rows of objects, maximum and minimum, reads over writes; shifts of natural numbers. -/
theorem s_l : ∀ n, n < 32 → ((nI n &&& 31).toBitVec.smod 32).toNat = n := by decide +kernel
theorem nx_and (a b : Nat) : nI a &&& nI b = nI (a &&& b) := by
  apply Int32.toBitVec_inj.1
  show BitVec.ofNat 32 a &&& BitVec.ofNat 32 b = BitVec.ofNat 32 (a &&& b)
  apply BitVec.eq_of_getLsbD_eq
  intro i hi
  simp [hi]
theorem nx_xor (a b : Nat) : nI a ^^^ nI b = nI (a ^^^ b) := by
  apply Int32.toBitVec_inj.1
  show BitVec.ofNat 32 a ^^^ BitVec.ofNat 32 b = BitVec.ofNat 32 (a ^^^ b)
  apply BitVec.eq_of_getLsbD_eq
  intro i hi
  simp [hi]
theorem nI_shrD {a d : Nat} {D : Int32} (hD : (D.toBitVec.smod 32).toNat = d) (h : a < 2 ^ 31) : nI a >>> D = nI (a / 2 ^ d) := by
  have hd : a / 2 ^ d ≤ a := Nat.div_le_self _ _
  apply Int32.toInt_inj.mp
  have e : (nI a >>> D).toInt = (nI a).toInt >>> d := by
    rw [← hD]
    exact BitVec.toInt_sshiftRight ..
  rw [e, Int.shiftRight_eq_div_pow, nI_toInt (by omega), nI_toInt (by omega)]
  rfl
theorem nI_shr {a d : Nat} (hd : d < 32) (h : a < 2 ^ 31) : nI a >>> (nI d &&& 31) = nI (a / 2 ^ d) := nI_shrD (s_l d hd) h
theorem nI_shl {a d : Nat} (hd : d < 32) : nI a <<< (nI d &&& 31) = nI (a * 2 ^ d) := by
  apply Int32.toBitVec_inj.mp
  rw [Int32.toBitVec_shiftLeft]
  apply BitVec.eq_of_toNat_eq
  have h : ((nI a).toBitVec <<< ((nI d &&& 31).toBitVec.smod 32)).toNat = ((nI a).toBitVec.toNat * 2 ^ d) % 2 ^ 32 := by
    simp only [BitVec.shiftLeft_eq', BitVec.toNat_shiftLeft, s_l d hd, Nat.shiftLeft_eq]
  refine h.trans ?_
  show (a % 2 ^ 32 * 2 ^ d) % 2 ^ 32 = (a * 2 ^ d) % 2 ^ 32
  rw [Nat.mod_mul_mod]
theorem nI_nn {a : Nat} (h : a < 2 ^ 31) : ¬ nI a < 0 := fun e => Nat.not_lt_zero _ ((nI_ltI h (by decide : (0 : Nat) < 2 ^ 31)).mp e)
section MX
variable {G : GG} {y : MI} {d pc idx a b : Nat} {lv : LV} {st : List AV} {h : Hp} {bc bs : Nat} {Q : Pst}
theorem wp_maxN (hd : decode (mC y) pc = .ok (.invokestatic idx, 3)) (hlink : Cond.methodLink (mN y).cls idx Lib.Math.max.name ∈ lw_good) (hst : Cond.static Lib.Math.max.name ∈ lw_good) (hcode : Cond.code Lib.Math.max.name Lib.Math.max.code 2 (some .int) ∈ lw_good) (hd1 : 1 ≤ d) (hcat : (st.map fun v => if av2 v = true then 2 else 1).sum ≤ 8) (ha : a < 2 ^ 31) (hb : b < 2 ^ 31) (K : WP G y d (pc + 3) lv (vi (nI (max a b)) :: st) h bc bs Q) : WP G y d pc lv (vi (nI b) :: vi (nI a) :: st) h bc bs Q := by
  refine wp_max hd hlink hst ini_J9 hcode hd1 hcat ?_
  by_cases e : a < b
  · rw [if_pos ((nI_ltI ha hb).mpr e)]; rwa [Nat.max_eq_right (by omega)] at K
  · rw [if_neg (fun z => e ((nI_ltI ha hb).mp z))]; rwa [Nat.max_eq_left (by omega)] at K
theorem wp_minN (hd : decode (mC y) pc = .ok (.invokestatic idx, 3)) (hlink : Cond.methodLink (mN y).cls idx Lib.Math.min.name ∈ lw_good) (hst : Cond.static Lib.Math.min.name ∈ lw_good) (hcode : Cond.code Lib.Math.min.name Lib.Math.min.code 2 (some .int) ∈ lw_good) (hd1 : 1 ≤ d) (hcat : (st.map fun v => if av2 v = true then 2 else 1).sum ≤ 8) (ha : a < 2 ^ 31) (hb : b < 2 ^ 31) (K : WP G y d (pc + 3) lv (vi (nI (min a b)) :: st) h bc bs Q) : WP G y d pc lv (vi (nI b) :: vi (nI a) :: st) h bc bs Q := by
  refine wp_min hd hlink hst ini_J9 hcode hd1 hcat ?_
  by_cases e : b < a
  · rw [if_pos ((nI_ltI hb ha).mpr e)]; rwa [Nat.min_eq_right (by omega)] at K
  · rw [if_neg (fun z => e ((nI_ltI hb ha).mp z))]; rwa [Nat.min_eq_left (by omega)] at K
end MX
theorem c_J7_copyOf2 {G : GG} {d bc bs : Nat} {h : Hp} {Q : Pst} {a N M : Nat} (ha : h_k h a = 118) (hN : h_n h a = N) (hN0 : 0 < N) (hNM : N ≤ M) (hM : M ≤ 60000) (hd : 3 ≤ d) (hbc : 1 ≤ bc) (hbs : M ≤ bs) (q : Nat) (hq0 : h_k h q = 0) (hq : Q (oRet (vr (some q))) (cpN h a q N M)) : WP G m_J7_copyOf_1904c d 0 (aargs 0 [vr (some a), vi (nI M)]) [] h bc bs Q := by
  intro α hp oN ol os Q0 oU
  have hz : h_k h a ≠ 0 := by rw [ha]; decide
  obtain ⟨e1, e2, e3, e4, e5, e6⟩ := oN.1 a hz
  refine q_copyOf2 (a := α a) (e1.trans ha) (e2.trans hN) hN0 hNM hM hd hbc hbs (fun i v _ hv => ?_) (fun q0 g1 g2 => ?_)
  · rw [e4] at hv
    obtain ⟨x, hx, e⟩ := map_sm hv
    have := oN.2.2.1 a i x hz hx
    rw [e, (oN.1 x this).1]
    exact ⟨this, (oN.2.2.2.2.2.2 0 (by decide)).2.2 a i x ha hx⟩
  · obtain ⟨n1, n2⟩ := oN.make (n := M) (kd := 118) hq0 g1 (by decide)
    have hf : ∀ j x, va_cpy (h_R h a) (fun _ => none) 0 0 N j = some x → h_k h x ≠ 0 := fun j x hx => by
      unfold va_cpy at hx
      split at hx
      · exact oN.2.2.1 a _ x hz hx
      · cases hx
    have hqk : h_k (mk h q 118 M) q ≠ 0 := by show va_up (h_k h) q 118 q ≠ 0; rw [va_up_self]; decide
    have n3 := n1.cpR (a := q) (f := va_cpy (h_R h a) (fun _ => none) 0 0 N) hqk (fun j x hx => (n2 x (hf j x hx)).1) (fun j x hx => by
      have hz2 := hf j x hx
      have h3 : h_k h x ≠ 200 := by
        unfold va_cpy at hx
        split at hx
        · exact (oN.2.2.2.2.2.2 0 (by decide)).2.2 a _ x ha hx
        · cases hx
      show va_up (h_k h) q 118 x ≠ 200
      rw [va_up_ne _ _ (fun e => hz2 (by rw [e]; exact hq0))]
      exact h3)
    have e7 : (fun j => (va_cpy (h_R h a) (fun _ => none) 0 0 N j).map (va_up α q q0)) = va_cpy (h_R hp (α a)) (fun _ => none) 0 0 N := by
      rw [e4]
      funext j
      cases hx : va_cpy (h_R h a) (fun _ => none) 0 0 N j with
      | none =>
        unfold va_cpy at hx ⊢
        split at hx
        · next c => rw [if_pos c]; show _ = (h_R h a _).map α; rw [hx]; rfl
        · next c => rw [if_neg c]; rfl
      | some x =>
        show some (va_up α q q0 x) = _
        rw [(n2 x (hf j x hx)).2]
        unfold va_cpy at hx ⊢
        split at hx
        · next c => rw [if_pos c]; show _ = (h_R h a _).map α; rw [hx]; rfl
        · cases hx
    rw [e7, va_up_self] at n3
    have e8 := (oU.st n2) (va_up α q q0) (cpN h a q N M) (cpN hp (α a) q0 N M) (oRet (vr (some q))) n3 (ext.rf rfl) (fun b hb => by cases hb; exact hqk) hq
    have e8 : Q0 (oRet (vr (some (va_up α q q0 q)))) (cpN hp (α a) q0 N M) := e8
    rwa [va_up_self] at e8
/-! reads over writes -/
section RW2
variable {h : Hp} {a b k j : Nat} {x : Int32} {r : Option Nat} {z : Int64} {u : UInt64} {kd n : Nat} {f : Nat → Int32} {g : Nat → Option Nat}
theorem up2_app {α : Type} {f : Nat → Nat → α} {a k b j : Nat} {v : α} : up2 f a k v b j = if b = a ∧ j = k then v else f b j := by
  by_cases e : b = a
  · subst e
    rw [nu_self]
    by_cases ej : j = k
    · subst ej; rw [va_up_self, if_pos ⟨rfl, rfl⟩]
    · rw [va_up_ne _ _ ej, if_neg (fun z => ej z.2)]
  · rw [nu_ne e, if_neg (fun z => e z.1)]
theorem va_up_app {α : Type} {f : Nat → α} {a b : Nat} {v : α} : va_up f a v b = if b = a then v else f b := by
  by_cases e : b = a
  · subst e; rw [va_up_self, if_pos rfl]
  · rw [va_up_ne _ _ e, if_neg e]
theorem gI_wI : h_I (wI h a k x) b j = if b = a ∧ j = k then x else h_I h b j := up2_app
theorem gI_wR : h_I (wR h a k r) = h_I h := rfl
theorem gI_wL : h_I (wL h a k z) = h_I h := rfl
theorem gI_wF : h_I (wF h a k u) = h_I h := rfl
theorem gI_mk : h_I (mk h a kd n) b j = if b = a then 0 else h_I h b j := by show va_up (h_I h) a _ b j = _; rw [va_up_app]; split <;> rfl
theorem gI_cpI : h_I (cpI h a f) b j = if b = a then f j else h_I h b j := by show va_up (h_I h) a f b j = _; rw [va_up_app]; split <;> rfl
theorem gI_cpR : h_I (cpR h a g) = h_I h := rfl
theorem gR_wR : h_R (wR h a k r) b j = if b = a ∧ j = k then r else h_R h b j := up2_app
theorem gR_wI : h_R (wI h a k x) = h_R h := rfl
theorem gR_wL : h_R (wL h a k z) = h_R h := rfl
theorem gR_wF : h_R (wF h a k u) = h_R h := rfl
theorem gR_mk : h_R (mk h a kd n) b j = if b = a then none else h_R h b j := by show va_up (h_R h) a _ b j = _; rw [va_up_app]; split <;> rfl
theorem gR_cpR : h_R (cpR h a g) b j = if b = a then g j else h_R h b j := by show va_up (h_R h) a g b j = _; rw [va_up_app]; split <;> rfl
theorem gR_cpI : h_R (cpI h a f) = h_R h := rfl
theorem gL_wL : h_L (wL h a k z) b j = if b = a ∧ j = k then z else h_L h b j := up2_app
theorem gL_wI : h_L (wI h a k x) = h_L h := rfl
theorem gL_wR : h_L (wR h a k r) = h_L h := rfl
theorem gL_wF : h_L (wF h a k u) = h_L h := rfl
theorem gL_mk : h_L (mk h a kd n) b j = if b = a then 0 else h_L h b j := by show va_up (h_L h) a _ b j = _; rw [va_up_app]; split <;> rfl
theorem gL_cpI : h_L (cpI h a f) = h_L h := rfl
theorem gL_cpR : h_L (cpR h a g) = h_L h := rfl
theorem gF_wF : h_F (wF h a k u) b j = if b = a ∧ j = k then u else h_F h b j := up2_app
theorem gF_wI : h_F (wI h a k x) = h_F h := rfl
theorem gF_wR : h_F (wR h a k r) = h_F h := rfl
theorem gF_wL : h_F (wL h a k z) = h_F h := rfl
theorem gF_mk : h_F (mk h a kd n) b j = if b = a then 0 else h_F h b j := by show va_up (h_F h) a _ b j = _; rw [va_up_app]; split <;> rfl
theorem gF_cpI : h_F (cpI h a f) = h_F h := rfl
theorem gF_cpR : h_F (cpR h a g) = h_F h := rfl
theorem gk_mk : h_k (mk h a kd n) b = if b = a then kd else h_k h b := va_up_app
theorem gn_mk : h_n (mk h a kd n) b = if b = a then n else h_n h b := va_up_app
theorem gk_wI : h_k (wI h a k x) = h_k h := rfl
theorem gk_wR : h_k (wR h a k r) = h_k h := rfl
theorem gk_wL : h_k (wL h a k z) = h_k h := rfl
theorem gk_wF : h_k (wF h a k u) = h_k h := rfl
theorem gk_cpI : h_k (cpI h a f) = h_k h := rfl
theorem gk_cpR : h_k (cpR h a g) = h_k h := rfl
theorem gn_wI : h_n (wI h a k x) = h_n h := rfl
theorem gn_wR : h_n (wR h a k r) = h_n h := rfl
theorem gn_wL : h_n (wL h a k z) = h_n h := rfl
theorem gn_wF : h_n (wF h a k u) = h_n h := rfl
theorem gn_cpI : h_n (cpI h a f) = h_n h := rfl
theorem gn_cpR : h_n (cpR h a g) = h_n h := rfl
end RW2
theorem nm_eq {r i s j : Nat} (hr : r < 128) (hs : s < 128) : (nm r i = nm s j) = (r = s ∧ i = j) := by
  apply propext
  constructor
  · intro e; unfold nm at e; constructor <;> omega
  · rintro ⟨rfl, rfl⟩; rfl
theorem nm_i {r i j : Nat} : (nm r i = nm r j) = (i = j) := by
  apply propext
  constructor
  · intro e; unfold nm at e; omega
  · rintro rfl; rfl
theorem nm_0 {r i : Nat} (h : 0 < r) : nm r i ≠ 0 := by unfold nm; omega
/-- what stands at a name -/
abbrev ce (h : Hp) (a : Nat) : Nat × Nat × (Nat → Int32) × (Nat → Option Nat) × (Nat → Int64) × (Nat → UInt64) := (h_k h a, h_n h a, h_I h a, h_R h a, h_L h a, h_F h a)
theorem ce_k {h h' : Hp} {a b : Nat} (e : ce h' a = ce h b) : h_k h' a = h_k h b := congrArg (·.1) e
theorem ce_n {h h' : Hp} {a b : Nat} (e : ce h' a = ce h b) : h_n h' a = h_n h b := congrArg (·.2.1) e
theorem ce_I {h h' : Hp} {a b : Nat} (e : ce h' a = ce h b) : h_I h' a = h_I h b := congrArg (·.2.2.1) e
theorem ce_R {h h' : Hp} {a b : Nat} (e : ce h' a = ce h b) : h_R h' a = h_R h b := congrArg (·.2.2.2.1) e
theorem ce_L {h h' : Hp} {a b : Nat} (e : ce h' a = ce h b) : h_L h' a = h_L h b := congrArg (·.2.2.2.2.1) e
theorem ce_F {h h' : Hp} {a b : Nat} (e : ce h' a = ce h b) : h_F h' a = h_F h b := congrArg (·.2.2.2.2.2) e
section CE
variable {h : Hp} {a b k : Nat} {x : Int32} {r : Option Nat} {z : Int64} {u : UInt64} {kd n : Nat} {f : Nat → Int32} {g : Nat → Option Nat}
theorem ce_wI (e : b ≠ a) : ce (wI h a k x) b = ce h b := by show (_, _, up2 (h_I h) a k x b, _, _, _) = _; rw [nu_ne e]
theorem ce_wR (e : b ≠ a) : ce (wR h a k r) b = ce h b := by show (_, _, _, up2 (h_R h) a k r b, _, _) = _; rw [nu_ne e]
theorem ce_wL (e : b ≠ a) : ce (wL h a k z) b = ce h b := by show (_, _, _, _, up2 (h_L h) a k z b, _) = _; rw [nu_ne e]
theorem ce_wF (e : b ≠ a) : ce (wF h a k u) b = ce h b := by show (_, _, _, _, _, up2 (h_F h) a k u b) = _; rw [nu_ne e]
theorem ce_mk (e : b ≠ a) : ce (mk h a kd n) b = ce h b := by
  show (va_up (h_k h) a kd b, va_up (h_n h) a n b, va_up (h_I h) a _ b, va_up (h_R h) a _ b, va_up (h_L h) a _ b, va_up (h_F h) a _ b) = _
  rw [va_up_ne _ _ e, va_up_ne _ _ e, va_up_ne _ _ e, va_up_ne _ _ e, va_up_ne _ _ e, va_up_ne _ _ e]
theorem ce_cpI (e : b ≠ a) : ce (cpI h a f) b = ce h b := by show (_, _, va_up (h_I h) a f b, _, _, _) = _; rw [va_up_ne _ _ e]
theorem ce_cpR (e : b ≠ a) : ce (cpR h a g) b = ce h b := by show (_, _, _, va_up (h_R h) a g b, _, _) = _; rw [va_up_ne _ _ e]
end CE
