/-! The class: maps, what their nodes hold. -/
/-- how many keys are in a block -/
def ctK (hs : Nat → Bool) (l b j : Nat) : Nat := if hs j = true ∧ btN j l = b then 1 else 0
def ct (hs : Nat → Bool) (l b : Nat) : Nat := sumN (ctK hs l b) 1000
theorem ctK_le {hs : Nat → Bool} {l b j : Nat} : ctK hs l b j ≤ 1 := by unfold ctK; split <;> omega
theorem ct_le {hs : Nat → Bool} {l b : Nat} : ct hs l b ≤ 1000 := sum01 (fun j => ctK_le) 1000
theorem alN_ct {S : SV} {v key l : Nat} : alN S v key l = ct (fun j => sHs S (1000 * v + j)) l (btN key l) := rfl
theorem btN_s {k l : Nat} : btN k (l + 1) = btN k l + 2 ^ (2 * l) * plN k l := by
  unfold btN plN
  rw [and3, show 2 * (l + 1) = 2 * l + 2 by omega, Nat.pow_add, Nat.mod_mul]
theorem btN_0 {k : Nat} : btN k 0 = 0 := by unfold btN; rw [show (2 : Nat) ^ (2 * 0) = 1 from rfl, Nat.mod_one]
theorem pow_pos2 {l : Nat} : 0 < 2 ^ (2 * l) := Nat.two_pow_pos _
/-- the blocks below a block -/
theorem btN_i {k l b p : Nat} (hb : b < 2 ^ (2 * l)) : btN k (l + 1) = b + 2 ^ (2 * l) * p ↔ btN k l = b ∧ plN k l = p := by
  rw [btN_s]
  constructor
  · intro e
    have h1 := btN_lt k l
    have e1 : (btN k l + 2 ^ (2 * l) * plN k l) % 2 ^ (2 * l) = (b + 2 ^ (2 * l) * p) % 2 ^ (2 * l) := by rw [e]
    rw [Nat.add_mul_mod_self_left, Nat.add_mul_mod_self_left, Nat.mod_eq_of_lt h1, Nat.mod_eq_of_lt hb] at e1
    refine ⟨e1, ?_⟩
    rw [e1] at e
    exact Nat.eq_of_mul_eq_mul_left pow_pos2 (Nat.add_left_cancel e)
  · rintro ⟨rfl, rfl⟩; rfl
theorem sum_pos {f : Nat → Nat} {j : Nat} : ∀ n, j < n → 1 ≤ f j → 1 ≤ sumN f n := by
  intro n
  induction n with
  | zero => intro h; exact absurd h (Nat.not_lt_zero _)
  | succ n ih =>
    intro h hf
    rw [sumN]
    by_cases e : j = n
    · rw [← e]; omega
    · have := ih (by omega) hf; omega
theorem sum_2 {f : Nat → Nat} {i j : Nat} (hij : i ≠ j) : ∀ n, i < n → j < n → 1 ≤ f i → 1 ≤ f j → 2 ≤ sumN f n := by
  intro n
  induction n with
  | zero => intro h; exact absurd h (Nat.not_lt_zero _)
  | succ n ih =>
    intro hi hj h1 h2
    rw [sumN]
    by_cases e : i = n
    · have := sum_pos n (show j < n by omega) h2
      rw [e] at h1; omega
    · by_cases e2 : j = n
      · have := sum_pos n (show i < n by omega) h1
        rw [e2] at h2; omega
      · have := ih (by omega) (by omega) h1 h2; omega
theorem sum_ex {f : Nat → Nat} : ∀ n, 1 ≤ sumN f n → ∃ j, j < n ∧ 1 ≤ f j := by
  intro n
  induction n with
  | zero => intro h; exact absurd h (show ¬ 1 ≤ 0 by decide)
  | succ n ih =>
    intro h
    rw [sumN] at h
    by_cases e : 1 ≤ f n
    · exact ⟨n, by omega, e⟩
    · obtain ⟨j, h1, h2⟩ := ih (by omega)
      exact ⟨j, by omega, h2⟩
theorem ctK_1 {hs : Nat → Bool} {l b j : Nat} : 1 ≤ ctK hs l b j ↔ hs j = true ∧ btN j l = b := by
  unfold ctK
  by_cases e : hs j = true ∧ btN j l = b
  · rw [if_pos e]; exact ⟨fun _ => e, fun _ => Nat.le_refl _⟩
  · rw [if_neg e]; exact ⟨fun z => absurd z (by decide), fun z => absurd z e⟩
theorem ct_pos {hs : Nat → Bool} {l b k : Nat} (hk : k < 1000) (h : hs k = true) (e : btN k l = b) : 1 ≤ ct hs l b := sum_pos 1000 hk (ctK_1.mpr ⟨h, e⟩)
theorem ct_ex {hs : Nat → Bool} {l b : Nat} (h : 1 ≤ ct hs l b) : ∃ k, k < 1000 ∧ hs k = true ∧ btN k l = b := by
  obtain ⟨j, h1, h2⟩ := sum_ex 1000 h
  exact ⟨j, h1, (ctK_1.mp h2).1, (ctK_1.mp h2).2⟩
theorem ct_un {hs : Nat → Bool} {l b i j : Nat} (h : ct hs l b ≤ 1) (hi : i < 1000) (hj : j < 1000) (h1 : hs i = true) (h2 : hs j = true) (e1 : btN i l = b) (e2 : btN j l = b) : i = j := by
  by_cases e : i = j
  · exact e
  · have : 2 ≤ ct hs l b := sum_2 e 1000 hi hj (ctK_1.mpr ⟨h1, e1⟩) (ctK_1.mpr ⟨h2, e2⟩)
    omega
theorem ct_mono {hs : Nat → Bool} {l b p : Nat} (hb : b < 2 ^ (2 * l)) : ct hs (l + 1) (b + 2 ^ (2 * l) * p) ≤ ct hs l b := sumN_le 1000 (fun j _ => by
  unfold ctK
  by_cases e : hs j = true ∧ btN j (l + 1) = b + 2 ^ (2 * l) * p
  · rw [if_pos e, if_pos ⟨e.1, ((btN_i hb).mp e.2).1⟩]; exact Nat.le_refl _
  · rw [if_neg e]; exact Nat.zero_le _)
theorem ct_up1 {hs : Nat → Bool} {key l b : Nat} (hk : key < 1000) (h : hs key = false) : ct (va_up hs key true) l b = ct hs l b + if btN key l = b then 1 else 0 := by
  have z := sumN_up (f := ctK (va_up hs key true) l b) (g := ctK hs l b) (s := key) 1000 hk (fun j hj => by unfold ctK; rw [va_up_ne _ _ hj])
  have e1 : ctK hs l b key = 0 := by unfold ctK; rw [h]; exact if_neg (fun z => absurd z.1 (by decide))
  have e2 : ctK (va_up hs key true) l b key = if btN key l = b then 1 else 0 := by
    unfold ctK; rw [va_up_self]
    by_cases e : btN key l = b
    · rw [if_pos e, if_pos ⟨rfl, e⟩]
    · rw [if_neg e, if_neg (fun z => e z.2)]
  unfold ct
  rw [e1, e2, Nat.add_zero] at z
  exact z
theorem ct_up0 {hs : Nat → Bool} {key l b : Nat} (hk : key < 1000) (h : hs key = true) : ct hs l b = ct (va_up hs key false) l b + if btN key l = b then 1 else 0 := by
  have z := ct_up1 (hs := va_up hs key false) (l := l) (b := b) hk (va_up_self _ _ _)
  have e : va_up (va_up hs key false) key true = hs := funext fun j => by
    rw [va_up_app, va_up_app]
    by_cases q : j = key
    · rw [if_pos q, q, h]
    · rw [if_neg q, if_neg q]
  rw [e] at z; exact z
theorem up_same {hs : Nat → Bool} {key : Nat} (h : hs key = true) : va_up hs key true = hs := funext fun j => by
  rw [va_up_app]
  by_cases q : j = key
  · rw [if_pos q, q, h]
  · rw [if_neg q]
/-- another block holds what it held -/
theorem ct_off {hs : Nat → Bool} {key l b : Nat} {t : Bool} (h : ¬ btN key l = b) : ct (va_up hs key t) l b = ct hs l b := by
  unfold ct
  refine sumN_c 1000 (fun j _ => ?_)
  unfold ctK
  by_cases q : j = key
  · rw [q, if_neg (fun z => h z.2), if_neg (fun z => h z.2)]
  · rw [va_up_ne _ _ q]
/-- what a place of a node above the rows holds: nothing, one key, a node -/
def PLx (hs : Nat → Bool) (of : Nat → Int32) (mn : Nat → Nat) (l b p : Nat) (ky el : Int32) (bl : Option Nat) : Prop :=
  (ct hs (l + 1) (b + 2 ^ (2 * l) * p) = 0 ∧ ky = -1 ∧ el = nI 0 ∧ bl = none) ∨
  (ct hs (l + 1) (b + 2 ^ (2 * l) * p) = 1 ∧ (∃ k, k < 1000 ∧ hs k = true ∧ btN k (l + 1) = b + 2 ^ (2 * l) * p ∧ ky = nI k ∧ el = of k) ∧ bl = none) ∨
  (1 < ct hs (l + 1) (b + 2 ^ (2 * l) * p) ∧ ky = -1 ∧ el = nI 0 ∧ bl = some (nm 45 (mn (lst (l + 1) + (b + 2 ^ (2 * l) * p)))))
/-- a row: its keys, in some order -/
def RLx (hs : Nat → Bool) (of : Nat → Int32) (b : Nat) (L : Nat → Nat) (ky el : Nat → Int32) : Prop :=
  (∀ i, i < ct hs 4 b → L i < 1000 ∧ hs (L i) = true ∧ btN (L i) 4 = b ∧ ky i = nI (L i) ∧ el i = of (L i)) ∧ (∀ i j, i < ct hs 4 b → j < ct hs 4 b → L i = L j → i = j) ∧ (∀ k, k < 1000 → hs k = true → btN k 4 = b → ∃ i, i < ct hs 4 b ∧ L i = k) ∧ ∀ i, ct hs 4 b ≤ i → i < 40 → ky i = -1
/-- the node of the name k is the one of the block b at the level l -/
def MNk (M k : Nat) (hs : Nat → Bool) (of : Nat → Int32) (mn : Nat → Nat) (l b : Nat) (x : KNS) : Prop := (∃ m, m ≤ M ∧ KN_mk x = nI m) ∧
  ((l < 4 ∧ MPx k l (ct hs l b) (KN_ky x) (KN_el x) (KN_bl x) x ∧ ∀ p, p < 4 → PLx hs of mn l b p (KN_ky x p) (KN_el x p) (KN_bl x p)) ∨
   (l = 4 ∧ RWx k (ct hs 4 b) (KN_ky x) (KN_el x) x ∧ ct hs 4 b ≤ 40 ∧ ∃ L, RLx hs of b L (KN_ky x) (KN_el x)))
theorem MNk.wf {M k l b : Nat} {hs : Nat → Bool} {of : Nat → Int32} {mn : Nat → Nat} {x : KNS} (H : MNk M k hs of mn l b x) : WFN k x := by
  rcases H.2 with ⟨h1, h2, -⟩ | ⟨h1, h2, -⟩
  · exact h2.w (by omega) ct_le
  · exact h2.w ct_le
theorem MNk.lev {M k l b : Nat} {hs : Nat → Bool} {of : Nat → Int32} {mn : Nat → Nat} {x : KNS} (H : MNk M k hs of mn l b x) : KN_lev x = l := by
  rcases H.2 with ⟨h1, h2, -⟩ | ⟨h1, h2, -⟩
  · exact h2.1
  · rw [h1]; exact h2.1
theorem MNk.kc {M k l b : Nat} {hs : Nat → Bool} {of : Nat → Int32} {mn : Nat → Nat} {x : KNS} (H : MNk M k hs of mn l b x) : KN_kc x = ct hs l b := by
  rcases H.2 with ⟨h1, h2, -⟩ | ⟨h1, h2, -⟩
  · exact h2.2.2.1
  · rw [h1]; exact h2.2.2.1
theorem MNk.own {M k l b : Nat} {hs : Nat → Bool} {of : Nat → Int32} {mn : Nat → Nat} {x : KNS} (H : MNk M k hs of mn l b x) : KN_own x = -1 := by
  rcases H.2 with ⟨h1, h2, -⟩ | ⟨h1, h2, -⟩
  · exact h2.2.1
  · exact h2.2.1
theorem MNk.cp {M k k' l b : Nat} {hs : Nat → Bool} {of : Nat → Int32} {mn : Nat → Nat} {x x' : KNS} (H : MNk M k hs of mn l b x) (C : CPx k' (-1) x x') : MNk M k' hs of mn l b x' := by
  refine ⟨⟨0, Nat.zero_le _, C.2.2.2.1⟩, ?_⟩
  rcases H.2 with ⟨h1, h2, h3⟩ | ⟨h1, h2, h3, L, h4⟩
  · have h5 := h2.cp C
    refine Or.inl ⟨h1, ⟨h5.1, h5.2.1, h5.2.2.1, h5.2.2.2.1, h5.2.2.2.2.1, h5.2.2.2.2.2.1, fun p _ => ⟨rfl, rfl, rfl⟩⟩, fun p hp => ?_⟩
    obtain ⟨e1, e2, e3⟩ := h5.2.2.2.2.2.2 p hp
    rw [e1, e2, e3]; exact h3 p hp
  · have h5 := h2.cp C
    obtain ⟨g1, g2, g3, g4⟩ := h4
    refine Or.inr ⟨h1, ⟨h5.1, h5.2.1, h5.2.2.1, h5.2.2.2.1, h5.2.2.2.2.1, h5.2.2.2.2.2.1, fun p _ => ⟨rfl, rfl⟩⟩, h3, L, fun i hi => ?_, g2, g3, fun i hi h40 => ?_⟩
    · obtain ⟨e1, e2⟩ := h5.2.2.2.2.2.2 i (by omega)
      rw [e1, e2]; exact g1 i hi
    · rw [(h5.2.2.2.2.2.2 i h40).1]; exact g4 i hi h40
/-- what the class reads of it -/
theorem MNk.ra {M k l b p : Nat} {hs : Nat → Bool} {of : Nat → Int32} {mn : Nat → Nat} {x : KNS} (H : MNk M k hs of mn l b x) (hl : l < 4) (hp : p < 4) : kyA x p = KN_ky x p ∧ elA x p = KN_el x p ∧ chAq x p = KN_bl x p ∧ PLx hs of mn l b p (KN_ky x p) (KN_el x p) (KN_bl x p) := by
  rcases H.2 with ⟨h1, h2, h3⟩ | ⟨h1, -⟩
  · obtain ⟨-, -, -, ⟨a1, a2, a3⟩, ⟨b1, b2, b3⟩, ⟨c1, c2, c3⟩, -⟩ := h2
    refine ⟨?_, ?_, ?_, h3 p hp⟩
    · unfold kyA; rw [if_neg (by rw [a1]; exact fun z => nomatch z), if_pos (by rw [a3]; exact hp)]
    · unfold elA; rw [if_neg (by rw [b1]; exact fun z => nomatch z), if_pos (by rw [b3]; exact hp)]
    · unfold chAq; rw [if_neg (by rw [c1]; exact fun z => nomatch z), if_pos hp]
  · omega
theorem MNk.ch {M k l b : Nat} {hs : Nat → Bool} {of : Nat → Int32} {mn : Nat → Nat} {x : KNS} (H : MNk M k hs of mn l b x) {p v : Nat} (e : chAq x p = some v) : l < 4 ∧ p < 4 ∧ 1 < ct hs (l + 1) (b + 2 ^ (2 * l) * p) ∧ v = nm 45 (mn (lst (l + 1) + (b + 2 ^ (2 * l) * p))) := by
  have hp : p < 4 := by
    unfold chAq at e
    split at e
    · cases e
    · split at e
      · assumption
      · cases e
  rcases H.2 with ⟨h1, h2, h3⟩ | ⟨h1, h2, -⟩
  · rw [(H.ra h1 hp).2.2.1] at e
    rcases h3 p hp with z | z | z
    · rw [z.2.2.2] at e; cases e
    · rw [z.2.2] at e; cases e
    · rw [z.2.2.2] at e; exact ⟨h1, hp, z.1, (Option.some.inj e).symm⟩
  · unfold chAq at e
    rw [if_pos h2.2.2.2.2.2.1] at e; cases e
