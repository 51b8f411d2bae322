/-! The rows over natural numbers and truth values. -/
section NR
variable {G : GG} {y : MI} {d pc : Nat} {lv lv' : LV} {st : List AV} {h : Hp} {bc bs : Nat} {Q : Pst}
theorem wp_iaddN {a b : Nat} (hd : decode (mC y) pc = .ok (.iadd, 1)) (K : WP G y d (pc + 1) lv (vi (nI (a + b)) :: st) h bc bs Q) : WP G y d pc lv (vi (nI b) :: vi (nI a) :: st) h bc bs Q := by
  refine wp_iadd hd ?_
  rw [nI_add a b]
  exact K
theorem wp_imulN {a b : Nat} (hd : decode (mC y) pc = .ok (.imul, 1)) (K : WP G y d (pc + 1) lv (vi (nI (a * b)) :: st) h bc bs Q) : WP G y d pc lv (vi (nI b) :: vi (nI a) :: st) h bc bs Q := by
  refine wp_imul hd ?_
  rw [pk_mul a b]
  exact K
theorem wp_isubN {a b : Nat} (hd : decode (mC y) pc = .ok (.isub, 1)) (hab : b ≤ a) (K : WP G y d (pc + 1) lv (vi (nI (a - b)) :: st) h bc bs Q) : WP G y d pc lv (vi (nI b) :: vi (nI a) :: st) h bc bs Q := by
  refine wp_isub hd ?_
  rw [pk_sub hab]
  exact K
theorem wp_iincN {i a : Nat} {n : Int} (k : Nat) (hd : decode (mC y) pc = .ok (.iinc i n, 3)) (hx : lk lv i = some (vi (nI a))) (hn : Int32.ofInt n = nI k) (hb : i < mL y) (hw : lset lv i (vi (nI (a + k))) = lv') (K : WP G y d (pc + 3) lv' st h bc bs Q) : WP G y d pc lv st h bc bs Q :=
  wp_iinc (nI (a + k)) hd hx (by rw [hn, nI_add]) hb hw K
theorem wp_idivN {a b : Nat} (hd : decode (mC y) pc = .ok (.idiv, 1)) (ha : a < 2 ^ 31) (h0 : 0 < b) (hb : b < 2 ^ 31) (K : WP G y d (pc + 1) lv (vi (nI (a / b)) :: st) h bc bs Q) : WP G y d pc lv (vi (nI b) :: vi (nI a) :: st) h bc bs Q := by
  refine wp_idiv hd (nI_ne0 h0 hb) ?_
  rw [pk_div ha h0 hb]
  exact K
theorem wp_iremN {a b : Nat} (hd : decode (mC y) pc = .ok (.irem, 1)) (ha : a < 2 ^ 31) (h0 : 0 < b) (hb : b < 2 ^ 31) (K : WP G y d (pc + 1) lv (vi (nI (a % b)) :: st) h bc bs Q) : WP G y d pc lv (vi (nI b) :: vi (nI a) :: st) h bc bs Q := by
  refine wp_irem hd (nI_ne0 h0 hb) ?_
  rw [pk_rem ha h0 hb]
  exact K
theorem wp_icmp_eqN {a b : Nat} {off : Int} (tgt : Nat) (hd : decode (mC y) pc = .ok (.if_icmp .eq off, 3)) (ht : (pc : Int) + off = (tgt : Int)) (ha : a < 2 ^ 31) (hb : b < 2 ^ 31) (kt : a = b → WP G y d tgt lv st h bc bs Q) (kf : a ≠ b → WP G y d (pc + 3) lv st h bc bs Q) : WP G y d pc lv (vi (nI b) :: vi (nI a) :: st) h bc bs Q :=
  wp_icmp_eq tgt hd ht (fun z => kt ((nI_eq ha hb).mp z)) (fun z => kf (fun e => z ((nI_eq ha hb).mpr e)))
theorem wp_if_eqN {a : Nat} {off : Int} (tgt : Nat) (hd : decode (mC y) pc = .ok (.ifCond .eq off, 3)) (ht : (pc : Int) + off = (tgt : Int)) (ha : a < 2 ^ 31) (kt : a = 0 → WP G y d tgt lv st h bc bs Q) (kf : 0 < a → WP G y d (pc + 3) lv st h bc bs Q) : WP G y d pc lv (vi (nI a) :: st) h bc bs Q :=
  wp_if_eq tgt hd ht (fun z => kt ((nI_eq (b := 0) ha (by decide)).mp z)) (fun z => kf (Nat.pos_of_ne_zero (fun e => z (by rw [e]; rfl))))
theorem wp_icmp_neN {a b : Nat} {off : Int} (tgt : Nat) (hd : decode (mC y) pc = .ok (.if_icmp .ne off, 3)) (ht : (pc : Int) + off = (tgt : Int)) (ha : a < 2 ^ 31) (hb : b < 2 ^ 31) (kt : a ≠ b → WP G y d tgt lv st h bc bs Q) (kf : a = b → WP G y d (pc + 3) lv st h bc bs Q) : WP G y d pc lv (vi (nI b) :: vi (nI a) :: st) h bc bs Q :=
  wp_icmp_ne tgt hd ht (fun z => kt (fun e => z ((nI_eq ha hb).mpr e))) (fun z => kf ((nI_eq ha hb).mp z))
theorem wp_if_neN {a : Nat} {off : Int} (tgt : Nat) (hd : decode (mC y) pc = .ok (.ifCond .ne off, 3)) (ht : (pc : Int) + off = (tgt : Int)) (ha : a < 2 ^ 31) (kt : 0 < a → WP G y d tgt lv st h bc bs Q) (kf : a = 0 → WP G y d (pc + 3) lv st h bc bs Q) : WP G y d pc lv (vi (nI a) :: st) h bc bs Q :=
  wp_if_ne tgt hd ht (fun z => kt (Nat.pos_of_ne_zero (fun e => z (by rw [e]; rfl)))) (fun z => kf ((nI_eq (b := 0) ha (by decide)).mp z))
theorem wp_icmp_ltN {a b : Nat} {off : Int} (tgt : Nat) (hd : decode (mC y) pc = .ok (.if_icmp .lt off, 3)) (ht : (pc : Int) + off = (tgt : Int)) (ha : a < 2 ^ 31) (hb : b < 2 ^ 31) (kt : a < b → WP G y d tgt lv st h bc bs Q) (kf : b ≤ a → WP G y d (pc + 3) lv st h bc bs Q) : WP G y d pc lv (vi (nI b) :: vi (nI a) :: st) h bc bs Q :=
  wp_icmp_lt tgt hd ht (fun z => kt ((nI_ltI ha hb).mp z)) (fun z => kf (Nat.not_lt.mp (fun e => z ((nI_ltI ha hb).mpr e))))
theorem wp_if_ltN {a : Nat} {off : Int} (tgt : Nat) (hd : decode (mC y) pc = .ok (.ifCond .lt off, 3)) (ht : (pc : Int) + off = (tgt : Int)) (ha : a < 2 ^ 31) (kt : False → WP G y d tgt lv st h bc bs Q) (kf : True → WP G y d (pc + 3) lv st h bc bs Q) : WP G y d pc lv (vi (nI a) :: st) h bc bs Q :=
  wp_if_lt tgt hd ht (fun z => kt (nI_pos ha z)) (fun z => kf (trivial))
theorem wp_icmp_geN {a b : Nat} {off : Int} (tgt : Nat) (hd : decode (mC y) pc = .ok (.if_icmp .ge off, 3)) (ht : (pc : Int) + off = (tgt : Int)) (ha : a < 2 ^ 31) (hb : b < 2 ^ 31) (kt : b ≤ a → WP G y d tgt lv st h bc bs Q) (kf : a < b → WP G y d (pc + 3) lv st h bc bs Q) : WP G y d pc lv (vi (nI b) :: vi (nI a) :: st) h bc bs Q :=
  wp_icmp_ge tgt hd ht (fun z => kt ((nI_leI hb ha).mp z)) (fun z => kf (Nat.not_le.mp (fun e => z ((nI_leI hb ha).mpr e))))
theorem wp_if_geN {a : Nat} {off : Int} (tgt : Nat) (hd : decode (mC y) pc = .ok (.ifCond .ge off, 3)) (ht : (pc : Int) + off = (tgt : Int)) (ha : a < 2 ^ 31) (kt : True → WP G y d tgt lv st h bc bs Q) (kf : False → WP G y d (pc + 3) lv st h bc bs Q) : WP G y d pc lv (vi (nI a) :: st) h bc bs Q :=
  wp_if_ge tgt hd ht (fun z => kt (trivial)) (fun z => kf (z (nI_pos' ha)))
theorem wp_icmp_gtN {a b : Nat} {off : Int} (tgt : Nat) (hd : decode (mC y) pc = .ok (.if_icmp .gt off, 3)) (ht : (pc : Int) + off = (tgt : Int)) (ha : a < 2 ^ 31) (hb : b < 2 ^ 31) (kt : b < a → WP G y d tgt lv st h bc bs Q) (kf : a ≤ b → WP G y d (pc + 3) lv st h bc bs Q) : WP G y d pc lv (vi (nI b) :: vi (nI a) :: st) h bc bs Q :=
  wp_icmp_gt tgt hd ht (fun z => kt ((nI_ltI hb ha).mp z)) (fun z => kf (Nat.not_lt.mp (fun e => z ((nI_ltI hb ha).mpr e))))
theorem wp_if_gtN {a : Nat} {off : Int} (tgt : Nat) (hd : decode (mC y) pc = .ok (.ifCond .gt off, 3)) (ht : (pc : Int) + off = (tgt : Int)) (ha : a < 2 ^ 31) (kt : 0 < a → WP G y d tgt lv st h bc bs Q) (kf : a = 0 → WP G y d (pc + 3) lv st h bc bs Q) : WP G y d pc lv (vi (nI a) :: st) h bc bs Q :=
  wp_if_gt tgt hd ht (fun z => kt ((nI_ltI (a := 0) (by decide) ha).mp z)) (fun z => kf (Nat.le_zero.mp (Nat.not_lt.mp (fun e => z ((nI_ltI (a := 0) (by decide) ha).mpr e)))))
theorem wp_icmp_leN {a b : Nat} {off : Int} (tgt : Nat) (hd : decode (mC y) pc = .ok (.if_icmp .le off, 3)) (ht : (pc : Int) + off = (tgt : Int)) (ha : a < 2 ^ 31) (hb : b < 2 ^ 31) (kt : a ≤ b → WP G y d tgt lv st h bc bs Q) (kf : b < a → WP G y d (pc + 3) lv st h bc bs Q) : WP G y d pc lv (vi (nI b) :: vi (nI a) :: st) h bc bs Q :=
  wp_icmp_le tgt hd ht (fun z => kt ((nI_leI ha hb).mp z)) (fun z => kf (Nat.not_le.mp (fun e => z ((nI_leI ha hb).mpr e))))
theorem wp_if_leN {a : Nat} {off : Int} (tgt : Nat) (hd : decode (mC y) pc = .ok (.ifCond .le off, 3)) (ht : (pc : Int) + off = (tgt : Int)) (ha : a < 2 ^ 31) (kt : a = 0 → WP G y d tgt lv st h bc bs Q) (kf : 0 < a → WP G y d (pc + 3) lv st h bc bs Q) : WP G y d pc lv (vi (nI a) :: st) h bc bs Q :=
  wp_if_le tgt hd ht (fun z => kt (Nat.le_zero.mp ((nI_leI (b := 0) ha (by decide)).mp z))) (fun z => kf (Nat.not_le.mp (fun e => z ((nI_leI (b := 0) ha (by decide)).mpr e))))
theorem wp_if_neB {b : Bool} {off : Int} (tgt : Nat) (hd : decode (mC y) pc = .ok (.ifCond .ne off, 3)) (ht : (pc : Int) + off = (tgt : Int)) (kt : b = true → WP G y d tgt lv st h bc bs Q) (kf : b = false → WP G y d (pc + 3) lv st h bc bs Q) : WP G y d pc lv (vi (bI b) :: st) h bc bs Q :=
  wp_if_ne tgt hd ht (fun z => kt (bI_n.mp z)) (fun z => kf (bI_0.mp z))
theorem wp_if_eqB {b : Bool} {off : Int} (tgt : Nat) (hd : decode (mC y) pc = .ok (.ifCond .eq off, 3)) (ht : (pc : Int) + off = (tgt : Int)) (kt : b = false → WP G y d tgt lv st h bc bs Q) (kf : b = true → WP G y d (pc + 3) lv st h bc bs Q) : WP G y d pc lv (vi (bI b) :: st) h bc bs Q :=
  wp_if_eq tgt hd ht (fun z => kt (bI_0.mp z)) (fun z => kf (bI_n.mp z))
theorem nI_cl {k N : Nat} (h1 : k < N) (h2 : N < 2 ^ 31) : (nI k).toNatClampNeg = k := nI_clamp (Nat.lt_trans h1 h2)
theorem wp_ialoadN {a k : Nat} (N : Nat) (v : Int32) (hd : decode (mC y) pc = .ok (.iaload, 1)) (ho : h_k h a = 101) (hN : h_n h a = N) (hk : k < N) (hb : N < 2 ^ 31) (hv : h_I h a k = v) (K : WP G y d (pc + 1) lv (vi v :: st) h bc bs Q) : WP G y d pc lv (vi (nI k) :: vr (some a) :: st) h bc bs Q := by
  refine wp_iaload hd ho (by rw [hN]; exact vp_in_nI hk hb) ?_
  rw [nI_cl hk hb, hv]
  exact K
theorem wp_zaloadN {a k : Nat} (N : Nat) (v : Int32) (hd : decode (mC y) pc = .ok (.baload, 1)) (ho : h_k h a = 102) (hN : h_n h a = N) (hk : k < N) (hb : N < 2 ^ 31) (hv : h_I h a k = v) (K : WP G y d (pc + 1) lv (vi v :: st) h bc bs Q) : WP G y d pc lv (vi (nI k) :: vr (some a) :: st) h bc bs Q := by
  refine wp_zaload hd ho (by rw [hN]; exact vp_in_nI hk hb) ?_
  rw [nI_cl hk hb, hv]
  exact K
theorem wp_aaloadN {a k : Nat} {E : String} (N : Nat) (v : Option Nat) (hd : decode (mC y) pc = .ok (.aaload, 1)) (ho : arTy (h_k h a) = some (.object E)) (hN : h_n h a = N) (hk : k < N) (hb : N < 2 ^ 31) (hv : h_R h a k = v) (K : WP G y d (pc + 1) lv (vr v :: st) h bc bs Q) : WP G y d pc lv (vi (nI k) :: vr (some a) :: st) h bc bs Q := by
  refine wp_aaload hd ho (by rw [hN]; exact vp_in_nI hk hb) ?_
  rw [nI_cl hk hb, hv]
  exact K
theorem wp_iastoreN {a k : Nat} {x : Int32} (N : Nat) (hd : decode (mC y) pc = .ok (.iastore, 1)) (ho : h_k h a = 101) (hN : h_n h a = N) (hk : k < N) (hb : N < 2 ^ 31) (K : WP G y d (pc + 1) lv st (wI h a k x) bc bs Q) : WP G y d pc lv (vi x :: vi (nI k) :: vr (some a) :: st) h bc bs Q := by
  refine wp_iastore hd ho (by rw [hN]; exact vp_in_nI hk hb) ?_
  rw [nI_cl hk hb]
  exact K
theorem wp_zastoreN {a k : Nat} {x : Int32} (N : Nat) (hd : decode (mC y) pc = .ok (.bastore, 1)) (ho : h_k h a = 102) (hN : h_n h a = N) (hk : k < N) (hb : N < 2 ^ 31) (hx : vp_nar .boolean x = x) (K : WP G y d (pc + 1) lv st (wI h a k x) bc bs Q) : WP G y d pc lv (vi x :: vi (nI k) :: vr (some a) :: st) h bc bs Q := by
  refine wp_zastore hd ho (by rw [hN]; exact vp_in_nI hk hb) hx ?_
  rw [nI_cl hk hb]
  exact K
theorem wp_aastoreN {a k : Nat} {r : Option Nat} (ci N : Nat) (hd : decode (mC y) pc = .ok (.aastore, 1)) (ha : arTy (h_k h a) = some (.object (clR ci))) (hci : ci < 18) (hN : h_n h a = N) (hk : k < N) (hb : N < 2 ^ 31) (hrk : ∀ v, r = some v → h_k h v = ci + 1) (K : WP G y d (pc + 1) lv st (wR h a k r) bc bs Q) : WP G y d pc lv (vr r :: vi (nI k) :: vr (some a) :: st) h bc bs Q := by
  refine wp_aastore ci hd ha hci (by rw [hN]; exact vp_in_nI hk hb) hrk ?_
  rw [nI_cl hk hb]
  exact K
theorem wp_aastoreON {a k : Nat} {r : Option Nat} (N : Nat) (hd : decode (mC y) pc = .ok (.aastore, 1)) (ho : h_k h a = 118) (hN : h_n h a = N) (hk : k < N) (hb : N < 2 ^ 31) (hrk : ∀ v, r = some v → h_k h v ≠ 0 ∧ h_k h v ≠ 200) (K : WP G y d (pc + 1) lv st (wR h a k r) bc bs Q) : WP G y d pc lv (vr r :: vi (nI k) :: vr (some a) :: st) h bc bs Q := by
  refine wp_aastoreO hd ho (by rw [hN]; exact vp_in_nI hk hb) hrk ?_
  rw [nI_cl hk hb]
  exact K
theorem wp_alenN {a : Nat} {ty : FieldType} (N : Nat) (hd : decode (mC y) pc = .ok (.arraylength, 1)) (ho : arTy (h_k h a) = some ty) (hN : h_n h a = N) (K : WP G y d (pc + 1) lv (vi (nI N) :: st) h bc bs Q) : WP G y d pc lv (vr (some a) :: st) h bc bs Q := by
  refine wp_alen hd ho ?_
  rw [hN]
  exact K
/-- a field's number read as a natural number, or as a truth value, or as a known cell -/
theorem wp_getV {a idx : Nat} (ci k : Nat) {v0 : AV} (v : AV) (hd : decode (mC y) pc = .ok (.getfield idx, 3)) (ho : h_k h a = ci + 1) (hci : ci < 18) (hk1 : k < clN ci) (hlink : Cond.fieldLink (mN y).cls idx (clT ci k).1 (clT ci k).2.1 (clT ci k).2.2.1 ∈ lw_good) (hv0 : encF h a (clTy ci k) k = toV v0) (hv : v0 = v) (K : WP G y d (pc + 3) lv (v :: st) h bc bs Q) : WP G y d pc lv (vr (some a) :: st) h bc bs Q :=
  wp_get ci k v hd ho hci hk1 hlink (hv ▸ hv0) K
end NR
