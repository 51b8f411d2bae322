/-! The class: nodes, one by one. -/
abbrev KNS : Type := (Nat) × (Int32) × (Option Nat) × (Option Nat) × (Option Nat) × (Nat) × (Int32) × (Nat) × (Nat) × (Nat) × (Nat) × (Nat) × (Nat) × (Nat → Int32) × (Nat → Int32) × (Nat → Option Nat)
abbrev KN_lev (x : KNS) : Nat := x.1
abbrev KN_own (x : KNS) : Int32 := x.2.1
abbrev KN_kk (x : KNS) : Option Nat := x.2.2.1
abbrev KN_ke (x : KNS) : Option Nat := x.2.2.2.1
abbrev KN_kb (x : KNS) : Option Nat := x.2.2.2.2.1
abbrev KN_kc (x : KNS) : Nat := x.2.2.2.2.2.1
abbrev KN_mk (x : KNS) : Int32 := x.2.2.2.2.2.2.1
abbrev KN_a6 (x : KNS) : Nat := x.2.2.2.2.2.2.2.1
abbrev KN_n6 (x : KNS) : Nat := x.2.2.2.2.2.2.2.2.1
abbrev KN_a7 (x : KNS) : Nat := x.2.2.2.2.2.2.2.2.2.1
abbrev KN_n7 (x : KNS) : Nat := x.2.2.2.2.2.2.2.2.2.2.1
abbrev KN_a8 (x : KNS) : Nat := x.2.2.2.2.2.2.2.2.2.2.2.1
abbrev KN_n8 (x : KNS) : Nat := x.2.2.2.2.2.2.2.2.2.2.2.2.1
abbrev KN_ky (x : KNS) : Nat → Int32 := x.2.2.2.2.2.2.2.2.2.2.2.2.2.1
abbrev KN_el (x : KNS) : Nat → Int32 := x.2.2.2.2.2.2.2.2.2.2.2.2.2.2.1
abbrev KN_bl (x : KNS) : Nat → Option Nat := x.2.2.2.2.2.2.2.2.2.2.2.2.2.2.2
abbrev KN_ulev (x : KNS) (v : Nat) : KNS := (v, KN_own x, KN_kk x, KN_ke x, KN_kb x, KN_kc x, KN_mk x, KN_a6 x, KN_n6 x, KN_a7 x, KN_n7 x, KN_a8 x, KN_n8 x, KN_ky x, KN_el x, KN_bl x)
abbrev KN_uown (x : KNS) (v : Int32) : KNS := (KN_lev x, v, KN_kk x, KN_ke x, KN_kb x, KN_kc x, KN_mk x, KN_a6 x, KN_n6 x, KN_a7 x, KN_n7 x, KN_a8 x, KN_n8 x, KN_ky x, KN_el x, KN_bl x)
abbrev KN_ukk (x : KNS) (v : Option Nat) : KNS := (KN_lev x, KN_own x, v, KN_ke x, KN_kb x, KN_kc x, KN_mk x, KN_a6 x, KN_n6 x, KN_a7 x, KN_n7 x, KN_a8 x, KN_n8 x, KN_ky x, KN_el x, KN_bl x)
abbrev KN_uke (x : KNS) (v : Option Nat) : KNS := (KN_lev x, KN_own x, KN_kk x, v, KN_kb x, KN_kc x, KN_mk x, KN_a6 x, KN_n6 x, KN_a7 x, KN_n7 x, KN_a8 x, KN_n8 x, KN_ky x, KN_el x, KN_bl x)
abbrev KN_ukb (x : KNS) (v : Option Nat) : KNS := (KN_lev x, KN_own x, KN_kk x, KN_ke x, v, KN_kc x, KN_mk x, KN_a6 x, KN_n6 x, KN_a7 x, KN_n7 x, KN_a8 x, KN_n8 x, KN_ky x, KN_el x, KN_bl x)
abbrev KN_ukc (x : KNS) (v : Nat) : KNS := (KN_lev x, KN_own x, KN_kk x, KN_ke x, KN_kb x, v, KN_mk x, KN_a6 x, KN_n6 x, KN_a7 x, KN_n7 x, KN_a8 x, KN_n8 x, KN_ky x, KN_el x, KN_bl x)
abbrev KN_umk (x : KNS) (v : Int32) : KNS := (KN_lev x, KN_own x, KN_kk x, KN_ke x, KN_kb x, KN_kc x, v, KN_a6 x, KN_n6 x, KN_a7 x, KN_n7 x, KN_a8 x, KN_n8 x, KN_ky x, KN_el x, KN_bl x)
abbrev KN_ua6 (x : KNS) (v : Nat) : KNS := (KN_lev x, KN_own x, KN_kk x, KN_ke x, KN_kb x, KN_kc x, KN_mk x, v, KN_n6 x, KN_a7 x, KN_n7 x, KN_a8 x, KN_n8 x, KN_ky x, KN_el x, KN_bl x)
abbrev KN_un6 (x : KNS) (v : Nat) : KNS := (KN_lev x, KN_own x, KN_kk x, KN_ke x, KN_kb x, KN_kc x, KN_mk x, KN_a6 x, v, KN_a7 x, KN_n7 x, KN_a8 x, KN_n8 x, KN_ky x, KN_el x, KN_bl x)
abbrev KN_ua7 (x : KNS) (v : Nat) : KNS := (KN_lev x, KN_own x, KN_kk x, KN_ke x, KN_kb x, KN_kc x, KN_mk x, KN_a6 x, KN_n6 x, v, KN_n7 x, KN_a8 x, KN_n8 x, KN_ky x, KN_el x, KN_bl x)
abbrev KN_un7 (x : KNS) (v : Nat) : KNS := (KN_lev x, KN_own x, KN_kk x, KN_ke x, KN_kb x, KN_kc x, KN_mk x, KN_a6 x, KN_n6 x, KN_a7 x, v, KN_a8 x, KN_n8 x, KN_ky x, KN_el x, KN_bl x)
abbrev KN_ua8 (x : KNS) (v : Nat) : KNS := (KN_lev x, KN_own x, KN_kk x, KN_ke x, KN_kb x, KN_kc x, KN_mk x, KN_a6 x, KN_n6 x, KN_a7 x, KN_n7 x, v, KN_n8 x, KN_ky x, KN_el x, KN_bl x)
abbrev KN_un8 (x : KNS) (v : Nat) : KNS := (KN_lev x, KN_own x, KN_kk x, KN_ke x, KN_kb x, KN_kc x, KN_mk x, KN_a6 x, KN_n6 x, KN_a7 x, KN_n7 x, KN_a8 x, v, KN_ky x, KN_el x, KN_bl x)
abbrev KN_uky (x : KNS) (j : Nat) (v : Int32) : KNS := (KN_lev x, KN_own x, KN_kk x, KN_ke x, KN_kb x, KN_kc x, KN_mk x, KN_a6 x, KN_n6 x, KN_a7 x, KN_n7 x, KN_a8 x, KN_n8 x, va_up (KN_ky x) j v, KN_el x, KN_bl x)
abbrev KN_uel (x : KNS) (j : Nat) (v : Int32) : KNS := (KN_lev x, KN_own x, KN_kk x, KN_ke x, KN_kb x, KN_kc x, KN_mk x, KN_a6 x, KN_n6 x, KN_a7 x, KN_n7 x, KN_a8 x, KN_n8 x, KN_ky x, va_up (KN_el x) j v, KN_bl x)
abbrev KN_ubl (x : KNS) (j : Nat) (v : Option Nat) : KNS := (KN_lev x, KN_own x, KN_kk x, KN_ke x, KN_kb x, KN_kc x, KN_mk x, KN_a6 x, KN_n6 x, KN_a7 x, KN_n7 x, KN_a8 x, KN_n8 x, KN_ky x, KN_el x, va_up (KN_bl x) j v)
def KN (h : Hp) (k : Nat) (x : KNS) : Prop := (h_k h (nm 45 k) = 6) ∧ (h_I h (nm 45 k) 0 = nI (KN_lev x)) ∧ (h_I h (nm 45 k) 1 = KN_own x) ∧ (h_R h (nm 45 k) 2 = KN_kk x) ∧ (h_R h (nm 45 k) 3 = KN_ke x) ∧ (h_R h (nm 45 k) 4 = KN_kb x) ∧ (h_I h (nm 45 k) 5 = nI (KN_kc x)) ∧ (h_I h (nm 45 k) 6 = KN_mk x) ∧ (h_k h (nm 46 k) = KN_a6 x ∧ h_n h (nm 46 k) = KN_n6 x) ∧ (h_k h (nm 47 k) = KN_a7 x ∧ h_n h (nm 47 k) = KN_n7 x) ∧ (h_k h (nm 48 k) = KN_a8 x ∧ h_n h (nm 48 k) = KN_n8 x) ∧ ((∀ j, h_I h (nm 46 k) j = KN_ky x j)) ∧ ((∀ j, h_I h (nm 47 k) j = KN_el x j)) ∧ ((∀ j, h_R h (nm 48 k) j = KN_bl x j))
theorem KN.k0 {h : Hp} {k : Nat} {x : KNS} (H : KN h k x) : h_k h (nm 45 k) = 6 := H.1
theorem KN.f_lev {h : Hp} {k : Nat} {x : KNS} (H : KN h k x) : h_I h (nm 45 k) 0 = nI (KN_lev x) := H.2.1
theorem KN.f_own {h : Hp} {k : Nat} {x : KNS} (H : KN h k x) : h_I h (nm 45 k) 1 = KN_own x := H.2.2.1
theorem KN.o_kk {h : Hp} {k : Nat} {x : KNS} (H : KN h k x) : h_R h (nm 45 k) 2 = KN_kk x := H.2.2.2.1
theorem KN.o_ke {h : Hp} {k : Nat} {x : KNS} (H : KN h k x) : h_R h (nm 45 k) 3 = KN_ke x := H.2.2.2.2.1
theorem KN.o_kb {h : Hp} {k : Nat} {x : KNS} (H : KN h k x) : h_R h (nm 45 k) 4 = KN_kb x := H.2.2.2.2.2.1
theorem KN.f_kc {h : Hp} {k : Nat} {x : KNS} (H : KN h k x) : h_I h (nm 45 k) 5 = nI (KN_kc x) := H.2.2.2.2.2.2.1
theorem KN.f_mk {h : Hp} {k : Nat} {x : KNS} (H : KN h k x) : h_I h (nm 45 k) 6 = KN_mk x := H.2.2.2.2.2.2.2.1
theorem KN.k8 {h : Hp} {k : Nat} {x : KNS} (H : KN h k x) : h_k h (nm 46 k) = KN_a6 x := (H.2.2.2.2.2.2.2.2.1).1
theorem KN.n8 {h : Hp} {k : Nat} {x : KNS} (H : KN h k x) : h_n h (nm 46 k) = KN_n6 x := (H.2.2.2.2.2.2.2.2.1).2
theorem KN.k9 {h : Hp} {k : Nat} {x : KNS} (H : KN h k x) : h_k h (nm 47 k) = KN_a7 x := (H.2.2.2.2.2.2.2.2.2.1).1
theorem KN.n9 {h : Hp} {k : Nat} {x : KNS} (H : KN h k x) : h_n h (nm 47 k) = KN_n7 x := (H.2.2.2.2.2.2.2.2.2.1).2
theorem KN.k10 {h : Hp} {k : Nat} {x : KNS} (H : KN h k x) : h_k h (nm 48 k) = KN_a8 x := (H.2.2.2.2.2.2.2.2.2.2.1).1
theorem KN.n10 {h : Hp} {k : Nat} {x : KNS} (H : KN h k x) : h_n h (nm 48 k) = KN_n8 x := (H.2.2.2.2.2.2.2.2.2.2.1).2
theorem KN.a_ky {h : Hp} {k : Nat} {x : KNS} (H : KN h k x) : (∀ j, h_I h (nm 46 k) j = KN_ky x j) := H.2.2.2.2.2.2.2.2.2.2.2.1
theorem KN.a_el {h : Hp} {k : Nat} {x : KNS} (H : KN h k x) : (∀ j, h_I h (nm 47 k) j = KN_el x j) := H.2.2.2.2.2.2.2.2.2.2.2.2.1
theorem KN.a_bl {h : Hp} {k : Nat} {x : KNS} (H : KN h k x) : (∀ j, h_R h (nm 48 k) j = KN_bl x j) := H.2.2.2.2.2.2.2.2.2.2.2.2.2
theorem KN.frm {h h' : Hp} {k : Nat} {x : KNS} (H : KN h k x) (f45 : ce h' (nm 45 k) = ce h (nm 45 k)) (f46 : ce h' (nm 46 k) = ce h (nm 46 k)) (f47 : ce h' (nm 47 k) = ce h (nm 47 k)) (f48 : ce h' (nm 48 k) = ce h (nm 48 k)) : KN h' k x := ⟨(ce_k f45).trans (H.1), by rw [ce_I f45]; exact H.2.1, by rw [ce_I f45]; exact H.2.2.1, by rw [ce_R f45]; exact H.2.2.2.1, by rw [ce_R f45]; exact H.2.2.2.2.1, by rw [ce_R f45]; exact H.2.2.2.2.2.1, by rw [ce_I f45]; exact H.2.2.2.2.2.2.1, by rw [ce_I f45]; exact H.2.2.2.2.2.2.2.1, ⟨(ce_k f46).trans (H.2.2.2.2.2.2.2.2.1).1, (ce_n f46).trans (H.2.2.2.2.2.2.2.2.1).2⟩, ⟨(ce_k f47).trans (H.2.2.2.2.2.2.2.2.2.1).1, (ce_n f47).trans (H.2.2.2.2.2.2.2.2.2.1).2⟩, ⟨(ce_k f48).trans (H.2.2.2.2.2.2.2.2.2.2.1).1, (ce_n f48).trans (H.2.2.2.2.2.2.2.2.2.2.1).2⟩, fun j => by rw [ce_I f46]; exact (H.2.2.2.2.2.2.2.2.2.2.2.1) j, fun j => by rw [ce_I f47]; exact (H.2.2.2.2.2.2.2.2.2.2.2.2.1) j, fun j => by rw [ce_R f48]; exact (H.2.2.2.2.2.2.2.2.2.2.2.2.2) j⟩
theorem KN.wlev {h : Hp} {k : Nat} {x : KNS} {v : Nat} (H : KN h k x) : KN (wI h (nm 45 k) 0 (nI (v))) k (KN_ulev x v) := ⟨H.1, by rw [gI_wI, if_pos ⟨rfl, rfl⟩], by rw [gI_wI, if_neg (fun z => absurd z.2 (by decide))]; exact H.2.2.1, H.2.2.2.1, H.2.2.2.2.1, H.2.2.2.2.2.1, by rw [gI_wI, if_neg (fun z => absurd z.2 (by decide))]; exact H.2.2.2.2.2.2.1, by rw [gI_wI, if_neg (fun z => absurd z.2 (by decide))]; exact H.2.2.2.2.2.2.2.1, H.2.2.2.2.2.2.2.2.1, H.2.2.2.2.2.2.2.2.2.1, H.2.2.2.2.2.2.2.2.2.2.1, fun m => by rw [ce_I (ce_wI (nm_ne (by decide) (by decide) (by decide)))]; exact (H.2.2.2.2.2.2.2.2.2.2.2.1) m, fun m => by rw [ce_I (ce_wI (nm_ne (by decide) (by decide) (by decide)))]; exact (H.2.2.2.2.2.2.2.2.2.2.2.2.1) m, H.2.2.2.2.2.2.2.2.2.2.2.2.2⟩
theorem KN.wown {h : Hp} {k : Nat} {x : KNS} {v : Int32} (H : KN h k x) : KN (wI h (nm 45 k) 1 (v)) k (KN_uown x v) := ⟨H.1, by rw [gI_wI, if_neg (fun z => absurd z.2 (by decide))]; exact H.2.1, by rw [gI_wI, if_pos ⟨rfl, rfl⟩], H.2.2.2.1, H.2.2.2.2.1, H.2.2.2.2.2.1, by rw [gI_wI, if_neg (fun z => absurd z.2 (by decide))]; exact H.2.2.2.2.2.2.1, by rw [gI_wI, if_neg (fun z => absurd z.2 (by decide))]; exact H.2.2.2.2.2.2.2.1, H.2.2.2.2.2.2.2.2.1, H.2.2.2.2.2.2.2.2.2.1, H.2.2.2.2.2.2.2.2.2.2.1, fun m => by rw [ce_I (ce_wI (nm_ne (by decide) (by decide) (by decide)))]; exact (H.2.2.2.2.2.2.2.2.2.2.2.1) m, fun m => by rw [ce_I (ce_wI (nm_ne (by decide) (by decide) (by decide)))]; exact (H.2.2.2.2.2.2.2.2.2.2.2.2.1) m, H.2.2.2.2.2.2.2.2.2.2.2.2.2⟩
theorem KN.wkc {h : Hp} {k : Nat} {x : KNS} {v : Nat} (H : KN h k x) : KN (wI h (nm 45 k) 5 (nI (v))) k (KN_ukc x v) := ⟨H.1, by rw [gI_wI, if_neg (fun z => absurd z.2 (by decide))]; exact H.2.1, by rw [gI_wI, if_neg (fun z => absurd z.2 (by decide))]; exact H.2.2.1, H.2.2.2.1, H.2.2.2.2.1, H.2.2.2.2.2.1, by rw [gI_wI, if_pos ⟨rfl, rfl⟩], by rw [gI_wI, if_neg (fun z => absurd z.2 (by decide))]; exact H.2.2.2.2.2.2.2.1, H.2.2.2.2.2.2.2.2.1, H.2.2.2.2.2.2.2.2.2.1, H.2.2.2.2.2.2.2.2.2.2.1, fun m => by rw [ce_I (ce_wI (nm_ne (by decide) (by decide) (by decide)))]; exact (H.2.2.2.2.2.2.2.2.2.2.2.1) m, fun m => by rw [ce_I (ce_wI (nm_ne (by decide) (by decide) (by decide)))]; exact (H.2.2.2.2.2.2.2.2.2.2.2.2.1) m, H.2.2.2.2.2.2.2.2.2.2.2.2.2⟩
theorem KN.wmk {h : Hp} {k : Nat} {x : KNS} {v : Int32} (H : KN h k x) : KN (wI h (nm 45 k) 6 (v)) k (KN_umk x v) := ⟨H.1, by rw [gI_wI, if_neg (fun z => absurd z.2 (by decide))]; exact H.2.1, by rw [gI_wI, if_neg (fun z => absurd z.2 (by decide))]; exact H.2.2.1, H.2.2.2.1, H.2.2.2.2.1, H.2.2.2.2.2.1, by rw [gI_wI, if_neg (fun z => absurd z.2 (by decide))]; exact H.2.2.2.2.2.2.1, by rw [gI_wI, if_pos ⟨rfl, rfl⟩], H.2.2.2.2.2.2.2.2.1, H.2.2.2.2.2.2.2.2.2.1, H.2.2.2.2.2.2.2.2.2.2.1, fun m => by rw [ce_I (ce_wI (nm_ne (by decide) (by decide) (by decide)))]; exact (H.2.2.2.2.2.2.2.2.2.2.2.1) m, fun m => by rw [ce_I (ce_wI (nm_ne (by decide) (by decide) (by decide)))]; exact (H.2.2.2.2.2.2.2.2.2.2.2.2.1) m, H.2.2.2.2.2.2.2.2.2.2.2.2.2⟩
theorem KN.wky {h : Hp} {k j : Nat} {x : KNS} {v : Int32} (H : KN h k x) : KN (wI h (nm 46 k) j (v)) k (KN_uky x j v) := ⟨H.1, by rw [ce_I (ce_wI (nm_ne (by decide) (by decide) (by decide)))]; exact H.2.1, by rw [ce_I (ce_wI (nm_ne (by decide) (by decide) (by decide)))]; exact H.2.2.1, H.2.2.2.1, H.2.2.2.2.1, H.2.2.2.2.2.1, by rw [ce_I (ce_wI (nm_ne (by decide) (by decide) (by decide)))]; exact H.2.2.2.2.2.2.1, by rw [ce_I (ce_wI (nm_ne (by decide) (by decide) (by decide)))]; exact H.2.2.2.2.2.2.2.1, H.2.2.2.2.2.2.2.2.1, H.2.2.2.2.2.2.2.2.2.1, H.2.2.2.2.2.2.2.2.2.2.1, fun m => by
    rw [gI_wI]
    show _ = va_up (KN_ky x) j v m
    rw [va_up_app]
    by_cases e : m = j
    · rw [if_pos ⟨rfl, e⟩, if_pos e]
    · rw [if_neg (fun z => e z.2), if_neg e]; exact (H.2.2.2.2.2.2.2.2.2.2.2.1) m, fun m => by rw [ce_I (ce_wI (nm_ne (by decide) (by decide) (by decide)))]; exact (H.2.2.2.2.2.2.2.2.2.2.2.2.1) m, H.2.2.2.2.2.2.2.2.2.2.2.2.2⟩
theorem KN.wel {h : Hp} {k j : Nat} {x : KNS} {v : Int32} (H : KN h k x) : KN (wI h (nm 47 k) j (v)) k (KN_uel x j v) := ⟨H.1, by rw [ce_I (ce_wI (nm_ne (by decide) (by decide) (by decide)))]; exact H.2.1, by rw [ce_I (ce_wI (nm_ne (by decide) (by decide) (by decide)))]; exact H.2.2.1, H.2.2.2.1, H.2.2.2.2.1, H.2.2.2.2.2.1, by rw [ce_I (ce_wI (nm_ne (by decide) (by decide) (by decide)))]; exact H.2.2.2.2.2.2.1, by rw [ce_I (ce_wI (nm_ne (by decide) (by decide) (by decide)))]; exact H.2.2.2.2.2.2.2.1, H.2.2.2.2.2.2.2.2.1, H.2.2.2.2.2.2.2.2.2.1, H.2.2.2.2.2.2.2.2.2.2.1, fun m => by rw [ce_I (ce_wI (nm_ne (by decide) (by decide) (by decide)))]; exact (H.2.2.2.2.2.2.2.2.2.2.2.1) m, fun m => by
    rw [gI_wI]
    show _ = va_up (KN_el x) j v m
    rw [va_up_app]
    by_cases e : m = j
    · rw [if_pos ⟨rfl, e⟩, if_pos e]
    · rw [if_neg (fun z => e z.2), if_neg e]; exact (H.2.2.2.2.2.2.2.2.2.2.2.2.1) m, H.2.2.2.2.2.2.2.2.2.2.2.2.2⟩
theorem KN.wbl {h : Hp} {k j : Nat} {x : KNS} {v : Option Nat} (H : KN h k x) : KN (wR h (nm 48 k) j v) k (KN_ubl x j v) := ⟨H.1, H.2.1, H.2.2.1, by rw [gR_wR, if_neg (fun z => absurd z.1 (nm_ne (by decide) (by decide) (by decide)))]; exact H.2.2.2.1, by rw [gR_wR, if_neg (fun z => absurd z.1 (nm_ne (by decide) (by decide) (by decide)))]; exact H.2.2.2.2.1, by rw [gR_wR, if_neg (fun z => absurd z.1 (nm_ne (by decide) (by decide) (by decide)))]; exact H.2.2.2.2.2.1, H.2.2.2.2.2.2.1, H.2.2.2.2.2.2.2.1, H.2.2.2.2.2.2.2.2.1, H.2.2.2.2.2.2.2.2.2.1, H.2.2.2.2.2.2.2.2.2.2.1, H.2.2.2.2.2.2.2.2.2.2.2.1, H.2.2.2.2.2.2.2.2.2.2.2.2.1, fun m => by
    rw [gR_wR]
    show _ = va_up (KN_bl x) j v m
    rw [va_up_app]
    by_cases e : m = j
    · rw [if_pos ⟨rfl, e⟩, if_pos e]
    · rw [if_neg (fun z => e z.2), if_neg e]; exact (H.2.2.2.2.2.2.2.2.2.2.2.2.2) m⟩
def CNo (t : Nat) : Nat → Prop := fun a => 45 ≤ a % 128 ∧ a % 128 ≤ 48 ∧ a / 128 = t
theorem CNo_n {t r i : Nat} (h : ¬ (45 ≤ r ∧ r ≤ 48 ∧ i = t)) (hr : r < 128) : ¬ CNo t (nm r i) := by unfold CNo nm; omega
theorem KN.rfN {h : Hp} {t : Nat} {x : KNS} (_ : KN h t x) : Fr h h (CNo t) := Fr.rf
/-- its rows are its own -/
def WKk (k : Nat) (x : KNS) : Prop := KN_kk x = none ∨ (KN_kk x = some (nm 46 k) ∧ KN_a6 x = 101 ∧ KN_n6 x ≤ 40)
def WKe (k : Nat) (x : KNS) : Prop := KN_ke x = none ∨ (KN_ke x = some (nm 47 k) ∧ KN_a7 x = 101 ∧ KN_n7 x ≤ 40)
def WKb (k : Nat) (x : KNS) : Prop := KN_kb x = none ∨ (KN_kb x = some (nm 48 k) ∧ KN_a8 x = 116 ∧ KN_n8 x = 4)
def WFN (k : Nat) (x : KNS) : Prop := WKk k x ∧ WKe k x ∧ WKb k x ∧ KN_lev x ≤ 4 ∧ KN_kc x ≤ 1000
/-- what the class reads of a node -/
def chAq (x : KNS) (p : Nat) : Option Nat := if KN_kb x = none then none else if p < 4 then KN_bl x p else none
def elA (x : KNS) (p : Nat) : Int32 := if KN_ke x = none then nI 0 else if p < KN_n7 x then KN_el x p else nI 0
def kyA (x : KNS) (p : Nat) : Int32 := if KN_kk x = none then -1 else if p < KN_n6 x then KN_ky x p else -1
set_option maxRecDepth 100000 in
set_option maxHeartbeats 4000000 in
theorem c_X3_childAt {G : GG} {d bc bs : Nat} {h : Hp} {Q : Pst} {k : Nat} {x : KNS} (hO : KN h k x) (hw : WKb k x) {p : Nat} (hp : p < 2 ^ 31) (hq : Q (oRet (vr (chAq x p))) h) : WP G m_X3_childAt d 0 (aargs 0 [vr (some (nm 45 k)), vi (nI p)]) [] h bc bs Q := by
  have hF : Fr h h (CNo k) := Fr.rf
  refine wp_sub [(0, vr (some (nm 45 k))), (1, vi (nI p))] (fun _ hz => hz) ?_
  rcases hw with hn | ⟨h1, h2, h3⟩
  · refine wp_aload_n (i := 0) dX3_childAt_0 rfl rfl ?_
    refine wp_get 5 4 (vr none) dX3_childAt_1 hO.k0 (by decide) (by decide) fl_X3_31 (congrArg (fun z => toV (vr z)) ((hO.o_kb).trans hn)) ?_
    refine wp_ifnull 20 dX3_childAt_4 (by decide) (fun c_4 => ?_) (fun a_4 c_4 => absurd c_4 (fun z => nomatch z))
    refine wp_null dX3_childAt_20 ?_
    refine wp_goto 30 dX3_childAt_21 (by decide) ?_
    refine wp_areturn dX3_childAt_30 rfl (Or.inl ⟨_, rfl⟩) ?_
    rw [show chAq x p = none from if_pos hn] at hq
    exact hq
  · refine wp_aload_n (i := 0) dX3_childAt_0 rfl rfl ?_
    refine wp_get 5 4 (vr (some (nm 48 k))) dX3_childAt_1 hO.k0 (by decide) (by decide) fl_X3_31 (congrArg (fun z => toV (vr z)) ((hO.o_kb).trans h1)) ?_
    refine wp_ifnull 20 dX3_childAt_4 (by decide) (fun c_4 => absurd c_4 (fun z => nomatch z)) (fun a_4 c_4 => ?_)
    refine wp_iload_n (i := 1) dX3_childAt_7 rfl rfl ?_
    refine wp_if_ltN 20 dX3_childAt_8 (by decide) (by omega) (fun c_8 => absurd c_8 (id)) (fun c_8 => ?_)
    refine wp_iload_n (i := 1) dX3_childAt_11 rfl rfl ?_
    refine wp_aload_n (i := 0) dX3_childAt_12 rfl rfl ?_
    refine wp_get 5 4 (vr (some (nm 48 k))) dX3_childAt_13 hO.k0 (by decide) (by decide) fl_X3_31 (congrArg (fun z => toV (vr z)) ((hO.o_kb).trans h1)) ?_
    refine wp_alen dX3_childAt_16 (arTy_116 (hO.k10.trans h2)) ?_
    rw [hO.n10, h3]
    refine wp_icmp_ltN 24 dX3_childAt_17 (by decide) (by omega) (by decide) (fun c_17 => ?_) (fun c_17 => ?_)
    · skip
      refine wp_aload_n (i := 0) dX3_childAt_24 rfl rfl ?_
      refine wp_get 5 4 (vr (some (nm 48 k))) dX3_childAt_25 hO.k0 (by decide) (by decide) fl_X3_31 (congrArg (fun z => toV (vr z)) ((hO.o_kb).trans h1)) ?_
      refine wp_iload_n (i := 1) dX3_childAt_28 rfl rfl ?_
      refine wp_aaloadN 4 (KN_bl x p) dX3_childAt_29 (arTy_116 (hO.k10.trans h2)) ((hO.n10).trans h3) (by omega) (by decide) (hO.a_bl p) ?_
      refine wp_areturn dX3_childAt_30 rfl (Or.inl ⟨_, rfl⟩) ?_
      rw [show chAq x p = KN_bl x p from by unfold chAq; rw [if_neg (by rw [h1]; exact fun z => nomatch z), if_pos (by omega)]] at hq
      exact hq
    · skip
      refine wp_null dX3_childAt_20 ?_
      refine wp_goto 30 dX3_childAt_21 (by decide) ?_
      refine wp_areturn dX3_childAt_30 rfl (Or.inl ⟨_, rfl⟩) ?_
      rw [show chAq x p = none from by unfold chAq; rw [if_neg (by rw [h1]; exact fun z => nomatch z), if_neg (by omega)]] at hq
      exact hq
set_option maxRecDepth 100000 in
set_option maxHeartbeats 4000000 in
theorem c_X3_elementAt {G : GG} {d bc bs : Nat} {h : Hp} {Q : Pst} {k : Nat} {x : KNS} (hO : KN h k x) (hw : WKe k x) {p : Nat} (hp : p < 2 ^ 31) (hq : Q (oRet (vi (elA x p))) h) : WP G m_X3_elementAt d 0 (aargs 0 [vr (some (nm 45 k)), vi (nI p)]) [] h bc bs Q := by
  have hF : Fr h h (CNo k) := Fr.rf
  refine wp_sub [(0, vr (some (nm 45 k))), (1, vi (nI p))] (fun _ hz => hz) ?_
  rcases hw with hn | ⟨h1, h2, h3⟩
  · refine wp_aload_n (i := 0) dX3_elementAt_0 rfl rfl ?_
    refine wp_get 5 3 (vr none) dX3_elementAt_1 hO.k0 (by decide) (by decide) fl_X3_28 (congrArg (fun z => toV (vr z)) ((hO.o_ke).trans hn)) ?_
    refine wp_ifnull 20 dX3_elementAt_4 (by decide) (fun c_4 => ?_) (fun a_4 c_4 => absurd c_4 (fun z => nomatch z))
    refine wp_iconst (nI 0) dX3_elementAt_20 (by decide) ?_
    refine wp_goto 30 dX3_elementAt_21 (by decide) ?_
    refine wp_ireturn dX3_elementAt_30 rfl ?_
    rw [show elA x p = nI 0 from if_pos hn] at hq
    exact hq
  · refine wp_aload_n (i := 0) dX3_elementAt_0 rfl rfl ?_
    refine wp_get 5 3 (vr (some (nm 47 k))) dX3_elementAt_1 hO.k0 (by decide) (by decide) fl_X3_28 (congrArg (fun z => toV (vr z)) ((hO.o_ke).trans h1)) ?_
    refine wp_ifnull 20 dX3_elementAt_4 (by decide) (fun c_4 => absurd c_4 (fun z => nomatch z)) (fun a_4 c_4 => ?_)
    refine wp_iload_n (i := 1) dX3_elementAt_7 rfl rfl ?_
    refine wp_if_ltN 20 dX3_elementAt_8 (by decide) (by omega) (fun c_8 => absurd c_8 (id)) (fun c_8 => ?_)
    refine wp_iload_n (i := 1) dX3_elementAt_11 rfl rfl ?_
    refine wp_aload_n (i := 0) dX3_elementAt_12 rfl rfl ?_
    refine wp_get 5 3 (vr (some (nm 47 k))) dX3_elementAt_13 hO.k0 (by decide) (by decide) fl_X3_28 (congrArg (fun z => toV (vr z)) ((hO.o_ke).trans h1)) ?_
    refine wp_alen dX3_elementAt_16 (arTy_101 (hO.k9.trans h2)) ?_
    rw [hO.n9]
    refine wp_icmp_ltN 24 dX3_elementAt_17 (by decide) (by omega) (by omega) (fun c_17 => ?_) (fun c_17 => ?_)
    · skip
      refine wp_aload_n (i := 0) dX3_elementAt_24 rfl rfl ?_
      refine wp_get 5 3 (vr (some (nm 47 k))) dX3_elementAt_25 hO.k0 (by decide) (by decide) fl_X3_28 (congrArg (fun z => toV (vr z)) ((hO.o_ke).trans h1)) ?_
      refine wp_iload_n (i := 1) dX3_elementAt_28 rfl rfl ?_
      refine wp_ialoadN (KN_n7 x) (KN_el x p) dX3_elementAt_29 ((hO.k9).trans h2) (hO.n9) (by omega) (by omega) (hO.a_el p) ?_
      refine wp_ireturn dX3_elementAt_30 rfl ?_
      rw [show elA x p = KN_el x p from by unfold elA; rw [if_neg (by rw [h1]; exact fun z => nomatch z), if_pos (by omega)]] at hq
      exact hq
    · skip
      refine wp_iconst (nI 0) dX3_elementAt_20 (by decide) ?_
      refine wp_goto 30 dX3_elementAt_21 (by decide) ?_
      refine wp_ireturn dX3_elementAt_30 rfl ?_
      rw [show elA x p = nI 0 from by unfold elA; rw [if_neg (by rw [h1]; exact fun z => nomatch z), if_neg (by omega)]] at hq
      exact hq
set_option maxRecDepth 100000 in
set_option maxHeartbeats 4000000 in
theorem c_X3_keyAt {G : GG} {d bc bs : Nat} {h : Hp} {Q : Pst} {k : Nat} {x : KNS} (hO : KN h k x) (hw : WKk k x) {p : Nat} (hp : p < 2 ^ 31) (hq : Q (oRet (vi (kyA x p))) h) : WP G m_X3_keyAt d 0 (aargs 0 [vr (some (nm 45 k)), vi (nI p)]) [] h bc bs Q := by
  have hF : Fr h h (CNo k) := Fr.rf
  refine wp_sub [(0, vr (some (nm 45 k))), (1, vi (nI p))] (fun _ hz => hz) ?_
  rcases hw with hn | ⟨h1, h2, h3⟩
  · refine wp_aload_n (i := 0) dX3_keyAt_0 rfl rfl ?_
    refine wp_get 5 2 (vr none) dX3_keyAt_1 hO.k0 (by decide) (by decide) fl_X3_24 (congrArg (fun z => toV (vr z)) ((hO.o_kk).trans hn)) ?_
    refine wp_ifnull 20 dX3_keyAt_4 (by decide) (fun c_4 => ?_) (fun a_4 c_4 => absurd c_4 (fun z => nomatch z))
    refine wp_iconst (-1) dX3_keyAt_20 (by decide) ?_
    refine wp_goto 30 dX3_keyAt_21 (by decide) ?_
    refine wp_ireturn dX3_keyAt_30 rfl ?_
    rw [show kyA x p = -1 from if_pos hn] at hq
    exact hq
  · refine wp_aload_n (i := 0) dX3_keyAt_0 rfl rfl ?_
    refine wp_get 5 2 (vr (some (nm 46 k))) dX3_keyAt_1 hO.k0 (by decide) (by decide) fl_X3_24 (congrArg (fun z => toV (vr z)) ((hO.o_kk).trans h1)) ?_
    refine wp_ifnull 20 dX3_keyAt_4 (by decide) (fun c_4 => absurd c_4 (fun z => nomatch z)) (fun a_4 c_4 => ?_)
    refine wp_iload_n (i := 1) dX3_keyAt_7 rfl rfl ?_
    refine wp_if_ltN 20 dX3_keyAt_8 (by decide) (by omega) (fun c_8 => absurd c_8 (id)) (fun c_8 => ?_)
    refine wp_iload_n (i := 1) dX3_keyAt_11 rfl rfl ?_
    refine wp_aload_n (i := 0) dX3_keyAt_12 rfl rfl ?_
    refine wp_get 5 2 (vr (some (nm 46 k))) dX3_keyAt_13 hO.k0 (by decide) (by decide) fl_X3_24 (congrArg (fun z => toV (vr z)) ((hO.o_kk).trans h1)) ?_
    refine wp_alen dX3_keyAt_16 (arTy_101 (hO.k8.trans h2)) ?_
    rw [hO.n8]
    refine wp_icmp_ltN 24 dX3_keyAt_17 (by decide) (by omega) (by omega) (fun c_17 => ?_) (fun c_17 => ?_)
    · skip
      refine wp_aload_n (i := 0) dX3_keyAt_24 rfl rfl ?_
      refine wp_get 5 2 (vr (some (nm 46 k))) dX3_keyAt_25 hO.k0 (by decide) (by decide) fl_X3_24 (congrArg (fun z => toV (vr z)) ((hO.o_kk).trans h1)) ?_
      refine wp_iload_n (i := 1) dX3_keyAt_28 rfl rfl ?_
      refine wp_ialoadN (KN_n6 x) (KN_ky x p) dX3_keyAt_29 ((hO.k8).trans h2) (hO.n8) (by omega) (by omega) (hO.a_ky p) ?_
      refine wp_ireturn dX3_keyAt_30 rfl ?_
      rw [show kyA x p = KN_ky x p from by unfold kyA; rw [if_neg (by rw [h1]; exact fun z => nomatch z), if_pos (by omega)]] at hq
      exact hq
    · skip
      refine wp_iconst (-1) dX3_keyAt_20 (by decide) ?_
      refine wp_goto 30 dX3_keyAt_21 (by decide) ?_
      refine wp_ireturn dX3_keyAt_30 rfl ?_
      rw [show kyA x p = -1 from by unfold kyA; rw [if_neg (by rw [h1]; exact fun z => nomatch z), if_neg (by omega)]] at hq
      exact hq
/-- what putChild does -/
def puC (x : KNS) (p : Nat) (c : Option Nat) : KNS := if KN_kb x = none then x else KN_ubl x p c
set_option maxRecDepth 100000 in
set_option maxHeartbeats 4000000 in
theorem c_X3_putChild {G : GG} {d bc bs : Nat} {h : Hp} {Q : Pst} {k : Nat} {x : KNS} (hO : KN h k x) (hw : WKb k x) {p : Nat} (hp : p < 4) {c : Option Nat} (hc : ∀ v, c = some v → h_k h v = 6) (hq : ∀ h', KN h' k (puC x p c) → Fr h h' (CNo k) → Q oVoid h') : WP G m_X3_putChild d 0 (aargs 0 [vr (some (nm 45 k)), vi (nI p), vr c]) [] h bc bs Q := by
  have hF : Fr h h (CNo k) := Fr.rf
  refine wp_sub [(0, vr (some (nm 45 k))), (1, vi (nI p)), (2, vr c)] (fun _ hz => hz) ?_
  rcases hw with hn | ⟨h1, h2, h3⟩
  · refine wp_aload_n (i := 0) dX3_putChild_0 rfl rfl ?_
    refine wp_get 5 4 (vr none) dX3_putChild_1 hO.k0 (by decide) (by decide) fl_X3_31 (congrArg (fun z => toV (vr z)) ((hO.o_kb).trans hn)) ?_
    refine wp_ifnull 27 dX3_putChild_4 (by decide) (fun c_4 => ?_) (fun a_4 c_4 => absurd c_4 (fun z => nomatch z))
    refine wp_return dX3_putChild_27 rfl ?_
    rw [show puC x p c = x from if_pos hn] at hq
    exact hq _ hO hF
  · refine wp_aload_n (i := 0) dX3_putChild_0 rfl rfl ?_
    refine wp_get 5 4 (vr (some (nm 48 k))) dX3_putChild_1 hO.k0 (by decide) (by decide) fl_X3_31 (congrArg (fun z => toV (vr z)) ((hO.o_kb).trans h1)) ?_
    refine wp_ifnull 27 dX3_putChild_4 (by decide) (fun c_4 => absurd c_4 (fun z => nomatch z)) (fun a_4 c_4 => ?_)
    refine wp_iload_n (i := 1) dX3_putChild_7 rfl rfl ?_
    refine wp_if_ltN 27 dX3_putChild_8 (by decide) (by omega) (fun c_8 => absurd c_8 (id)) (fun c_8 => ?_)
    refine wp_iload_n (i := 1) dX3_putChild_11 rfl rfl ?_
    refine wp_aload_n (i := 0) dX3_putChild_12 rfl rfl ?_
    refine wp_get 5 4 (vr (some (nm 48 k))) dX3_putChild_13 hO.k0 (by decide) (by decide) fl_X3_31 (congrArg (fun z => toV (vr z)) ((hO.o_kb).trans h1)) ?_
    refine wp_alen dX3_putChild_16 (arTy_116 (hO.k10.trans h2)) ?_
    rw [hO.n10, h3]
    refine wp_icmp_geN 27 dX3_putChild_17 (by decide) (by omega) (by decide) (fun c_17 => absurd c_17 (by omega)) (fun c_17 => ?_)
    refine wp_aload_n (i := 0) dX3_putChild_20 rfl rfl ?_
    refine wp_get 5 4 (vr (some (nm 48 k))) dX3_putChild_21 hO.k0 (by decide) (by decide) fl_X3_31 (congrArg (fun z => toV (vr z)) ((hO.o_kb).trans h1)) ?_
    refine wp_iload_n (i := 1) dX3_putChild_24 rfl rfl ?_
    refine wp_aload_n (i := 2) dX3_putChild_25 rfl rfl ?_
    refine wp_aastoreN 5 4 dX3_putChild_26 ((arTy_116 (hO.k10.trans h2))) (by decide) ((hO.n10).trans h3) (by omega) (by decide) (hc) ?_
    refine wp_return dX3_putChild_27 rfl ?_
    rw [show puC x p c = KN_ubl x p c from if_neg (by rw [h1]; exact fun z => nomatch z)] at hq
    exact hq _ hO.wbl (hF.wR (by unfold CNo nm; omega))
set_option maxRecDepth 100000 in
set_option maxHeartbeats 4000000 in
theorem c_X3_putElement {G : GG} {d bc bs : Nat} {h : Hp} {Q : Pst} {k : Nat} {x : KNS} (hO : KN h k x) (h1 : KN_ke x = some (nm 47 k)) (h2 : KN_a7 x = 101) (h3 : KN_n7 x ≤ 40) {p : Nat} (hp : p < KN_n7 x) {e : Int32} (hq : ∀ h', KN h' k (KN_uel x p e) → Fr h h' (CNo k) → Q oVoid h') : WP G m_X3_putElement d 0 (aargs 0 [vr (some (nm 45 k)), vi (nI p), vi e]) [] h bc bs Q := by
  have hF : Fr h h (CNo k) := Fr.rf
  refine wp_sub [(0, vr (some (nm 45 k))), (1, vi (nI p)), (2, vi e)] (fun _ hz => hz) ?_
  refine wp_aload_n (i := 0) dX3_putElement_0 rfl rfl ?_
  refine wp_get 5 3 (vr (some (nm 47 k))) dX3_putElement_1 hO.k0 (by decide) (by decide) fl_X3_28 (congrArg (fun z => toV (vr z)) ((hO.o_ke).trans h1)) ?_
  refine wp_ifnull 27 dX3_putElement_4 (by decide) (fun c_4 => absurd c_4 (fun z => nomatch z)) (fun a_4 c_4 => ?_)
  refine wp_iload_n (i := 1) dX3_putElement_7 rfl rfl ?_
  refine wp_if_ltN 27 dX3_putElement_8 (by decide) (by omega) (fun c_8 => absurd c_8 (id)) (fun c_8 => ?_)
  refine wp_iload_n (i := 1) dX3_putElement_11 rfl rfl ?_
  refine wp_aload_n (i := 0) dX3_putElement_12 rfl rfl ?_
  refine wp_get 5 3 (vr (some (nm 47 k))) dX3_putElement_13 hO.k0 (by decide) (by decide) fl_X3_28 (congrArg (fun z => toV (vr z)) ((hO.o_ke).trans h1)) ?_
  refine wp_alen dX3_putElement_16 (arTy_101 (hO.k9.trans h2)) ?_
  rw [hO.n9]
  refine wp_icmp_geN 27 dX3_putElement_17 (by decide) (by omega) (by omega) (fun c_17 => absurd c_17 (by omega)) (fun c_17 => ?_)
  refine wp_aload_n (i := 0) dX3_putElement_20 rfl rfl ?_
  refine wp_get 5 3 (vr (some (nm 47 k))) dX3_putElement_21 hO.k0 (by decide) (by decide) fl_X3_28 (congrArg (fun z => toV (vr z)) ((hO.o_ke).trans h1)) ?_
  refine wp_iload_n (i := 1) dX3_putElement_24 rfl rfl ?_
  refine wp_iload_n (i := 2) dX3_putElement_25 rfl rfl ?_
  refine wp_iastoreN (KN_n7 x) dX3_putElement_26 ((hO.k9).trans h2) (hO.n9) (by omega) (by omega) ?_
  have hO1 := hO.wel (j := p) (v := e)
  have hF2 := hF.wI (b := nm 47 k) (k := p) (x := e) (by unfold CNo nm; omega)
  refine wp_return dX3_putElement_27 rfl ?_
  exact hq _ hO1 hF2
set_option maxRecDepth 100000 in
set_option maxHeartbeats 4000000 in
theorem c_X3_putPair {G : GG} {d bc bs : Nat} {h : Hp} {Q : Pst} {k : Nat} {x : KNS} (hO : KN h k x) (h1 : KN_ke x = some (nm 47 k)) (h2 : KN_a7 x = 101) (h3 : KN_n7 x ≤ 40) (h4 : KN_kk x = some (nm 46 k)) (h5 : KN_a6 x = 101) (h6 : KN_n6 x = KN_n7 x) {p : Nat} (hp : p < KN_n7 x) {ky e : Int32} (hd : 1 ≤ d) (hq : ∀ h', KN h' k (KN_uel (KN_uky x p ky) p e) → Fr h h' (CNo k) → Q oVoid h') : WP G m_X3_putPair d 0 (aargs 0 [vr (some (nm 45 k)), vi (nI p), vi ky, vi e]) [] h bc bs Q := by
  have hF : Fr h h (CNo k) := Fr.rf
  refine wp_sub [(0, vr (some (nm 45 k))), (1, vi (nI p)), (2, vi ky), (3, vi e)] (fun _ hz => hz) ?_
  refine wp_aload_n (i := 0) dX3_putPair_0 rfl rfl ?_
  refine wp_get 5 2 (vr (some (nm 46 k))) dX3_putPair_1 hO.k0 (by decide) (by decide) fl_X3_24 (congrArg (fun z => toV (vr z)) ((hO.o_kk).trans h4)) ?_
  refine wp_ifnull 33 dX3_putPair_4 (by decide) (fun c_4 => absurd c_4 (fun z => nomatch z)) (fun a_4 c_4 => ?_)
  refine wp_iload_n (i := 1) dX3_putPair_7 rfl rfl ?_
  refine wp_if_ltN 33 dX3_putPair_8 (by decide) (by omega) (fun c_8 => absurd c_8 (id)) (fun c_8 => ?_)
  refine wp_iload_n (i := 1) dX3_putPair_11 rfl rfl ?_
  refine wp_aload_n (i := 0) dX3_putPair_12 rfl rfl ?_
  refine wp_get 5 2 (vr (some (nm 46 k))) dX3_putPair_13 hO.k0 (by decide) (by decide) fl_X3_24 (congrArg (fun z => toV (vr z)) ((hO.o_kk).trans h4)) ?_
  refine wp_alen dX3_putPair_16 (arTy_101 (hO.k8.trans h5)) ?_
  rw [hO.n8]
  refine wp_icmp_geN 33 dX3_putPair_17 (by decide) (by omega) (by omega) (fun c_17 => absurd c_17 (by omega)) (fun c_17 => ?_)
  refine wp_aload_n (i := 0) dX3_putPair_20 rfl rfl ?_
  refine wp_get 5 2 (vr (some (nm 46 k))) dX3_putPair_21 hO.k0 (by decide) (by decide) fl_X3_24 (congrArg (fun z => toV (vr z)) ((hO.o_kk).trans h4)) ?_
  refine wp_iload_n (i := 1) dX3_putPair_24 rfl rfl ?_
  refine wp_iload_n (i := 2) dX3_putPair_25 rfl rfl ?_
  refine wp_iastoreN (KN_n6 x) dX3_putPair_26 ((hO.k8).trans h5) (hO.n8) (by omega) (by omega) ?_
  have hO1 := hO.wky (j := p) (v := ky)
  have hF2 := hF.wI (b := nm 46 k) (k := p) (x := ky) (by unfold CNo nm; omega)
  refine wp_aload_n (i := 0) dX3_putPair_27 rfl rfl ?_
  refine wp_iload_n (i := 1) dX3_putPair_28 rfl rfl ?_
  refine wp_iload_n (i := 3) dX3_putPair_29 rfl rfl ?_
  refine wp_cV (y' := m_X3_putElement) 5 [vi (nI p), vi e] [] 0 0 dX3_putPair_30 ml_X3_35 im_X3_putElement se_X3_putElement (by decide) hO1.k0 ok_X3_putElement rfl (Nat.le_of_ble_eq_true rfl) rfl (Nat.le_of_ble_eq_true rfl) (d' := d - 1) (by omega) (Nat.zero_le _) (Nat.zero_le _) (c_X3_putElement hO1 h1 h2 h3 (by show p < KN_n7 x; omega) (fun h7 O7 F7 => cont_void ?_))
  refine wp_return dX3_putPair_33 rfl ?_
  exact hq _ O7 (hF2.tr F7)
