/-! The class: sequences, one by one. -/
abbrev KQS : Type := (Option Nat) × (Int32) × (Int32) × (Nat) × (Nat) × (Bool) × (Nat) × (Nat → Int32) × (Nat → Nat)
abbrev KQ_src (x : KQS) : Option Nat := x.1
abbrev KQ_way (x : KQS) : Int32 := x.2.1
abbrev KQ_num (x : KQS) : Int32 := x.2.2.1
abbrev KQ_cnt (x : KQS) : Nat := x.2.2.2.1
abbrev KQ_cc (x : KQS) : Nat := x.2.2.2.2.1
abbrev KQ_brk (x : KQS) : Bool := x.2.2.2.2.2.1
abbrev KQ_rc (x : KQS) : Nat := x.2.2.2.2.2.2.1
abbrev KQ_el (x : KQS) : Nat → Int32 := x.2.2.2.2.2.2.2.1
abbrev KQ_en (x : KQS) : Nat → Nat := x.2.2.2.2.2.2.2.2
abbrev KQ_usrc (x : KQS) (v : Option Nat) : KQS := (v, KQ_way x, KQ_num x, KQ_cnt x, KQ_cc x, KQ_brk x, KQ_rc x, KQ_el x, KQ_en x)
abbrev KQ_uway (x : KQS) (v : Int32) : KQS := (KQ_src x, v, KQ_num x, KQ_cnt x, KQ_cc x, KQ_brk x, KQ_rc x, KQ_el x, KQ_en x)
abbrev KQ_unum (x : KQS) (v : Int32) : KQS := (KQ_src x, KQ_way x, v, KQ_cnt x, KQ_cc x, KQ_brk x, KQ_rc x, KQ_el x, KQ_en x)
abbrev KQ_ucnt (x : KQS) (v : Nat) : KQS := (KQ_src x, KQ_way x, KQ_num x, v, KQ_cc x, KQ_brk x, KQ_rc x, KQ_el x, KQ_en x)
abbrev KQ_ucc (x : KQS) (v : Nat) : KQS := (KQ_src x, KQ_way x, KQ_num x, KQ_cnt x, v, KQ_brk x, KQ_rc x, KQ_el x, KQ_en x)
abbrev KQ_ubrk (x : KQS) (v : Bool) : KQS := (KQ_src x, KQ_way x, KQ_num x, KQ_cnt x, KQ_cc x, v, KQ_rc x, KQ_el x, KQ_en x)
abbrev KQ_urc (x : KQS) (v : Nat) : KQS := (KQ_src x, KQ_way x, KQ_num x, KQ_cnt x, KQ_cc x, KQ_brk x, v, KQ_el x, KQ_en x)
abbrev KQ_uel (x : KQS) (j : Nat) (v : Int32) : KQS := (KQ_src x, KQ_way x, KQ_num x, KQ_cnt x, KQ_cc x, KQ_brk x, KQ_rc x, va_up (KQ_el x) j v, KQ_en x)
abbrev KQ_uen (x : KQS) (j : Nat) (v : Nat) : KQS := (KQ_src x, KQ_way x, KQ_num x, KQ_cnt x, KQ_cc x, KQ_brk x, KQ_rc x, KQ_el x, va_up (KQ_en x) j v)
def KQ (h : Hp) (s : Nat) (x : KQS) : Prop := (h_k h (nm 50 s) = 9) ∧ (h_R h (nm 50 s) 0 = KQ_src x) ∧ (h_I h (nm 50 s) 1 = KQ_way x) ∧ (h_I h (nm 50 s) 2 = KQ_num x) ∧ (h_R h (nm 50 s) 3 = some (nm 51 s)) ∧ (h_I h (nm 50 s) 4 = nI (KQ_cnt x)) ∧ (h_R h (nm 50 s) 5 = some (nm 52 s)) ∧ (h_I h (nm 50 s) 6 = nI (KQ_cc x)) ∧ (h_I h (nm 50 s) 7 = bI (KQ_brk x)) ∧ (h_I h (nm 50 s) 8 = nI (KQ_rc x)) ∧ (h_k h (nm 51 s) = 101 ∧ h_n h (nm 51 s) = 24) ∧ ((∀ j, h_I h (nm 51 s) j = KQ_el x j)) ∧ (h_k h (nm 52 s) = 101 ∧ h_n h (nm 52 s) = 24) ∧ ((∀ j, h_I h (nm 52 s) j = nI (KQ_en x j)))
theorem KQ.k0 {h : Hp} {s : Nat} {x : KQS} (H : KQ h s x) : h_k h (nm 50 s) = 9 := H.1
theorem KQ.o_src {h : Hp} {s : Nat} {x : KQS} (H : KQ h s x) : h_R h (nm 50 s) 0 = KQ_src x := H.2.1
theorem KQ.f_way {h : Hp} {s : Nat} {x : KQS} (H : KQ h s x) : h_I h (nm 50 s) 1 = KQ_way x := H.2.2.1
theorem KQ.f_num {h : Hp} {s : Nat} {x : KQS} (H : KQ h s x) : h_I h (nm 50 s) 2 = KQ_num x := H.2.2.2.1
theorem KQ.r4_3 {h : Hp} {s : Nat} {x : KQS} (H : KQ h s x) : h_R h (nm 50 s) 3 = some (nm 51 s) := H.2.2.2.2.1
theorem KQ.f_cnt {h : Hp} {s : Nat} {x : KQS} (H : KQ h s x) : h_I h (nm 50 s) 4 = nI (KQ_cnt x) := H.2.2.2.2.2.1
theorem KQ.r6_5 {h : Hp} {s : Nat} {x : KQS} (H : KQ h s x) : h_R h (nm 50 s) 5 = some (nm 52 s) := H.2.2.2.2.2.2.1
theorem KQ.f_cc {h : Hp} {s : Nat} {x : KQS} (H : KQ h s x) : h_I h (nm 50 s) 6 = nI (KQ_cc x) := H.2.2.2.2.2.2.2.1
theorem KQ.f_brk {h : Hp} {s : Nat} {x : KQS} (H : KQ h s x) : h_I h (nm 50 s) 7 = bI (KQ_brk x) := H.2.2.2.2.2.2.2.2.1
theorem KQ.f_rc {h : Hp} {s : Nat} {x : KQS} (H : KQ h s x) : h_I h (nm 50 s) 8 = nI (KQ_rc x) := H.2.2.2.2.2.2.2.2.2.1
theorem KQ.k10 {h : Hp} {s : Nat} {x : KQS} (H : KQ h s x) : h_k h (nm 51 s) = 101 := (H.2.2.2.2.2.2.2.2.2.2.1).1
theorem KQ.n10 {h : Hp} {s : Nat} {x : KQS} (H : KQ h s x) : h_n h (nm 51 s) = 24 := (H.2.2.2.2.2.2.2.2.2.2.1).2
theorem KQ.a_el {h : Hp} {s : Nat} {x : KQS} (H : KQ h s x) : (∀ j, h_I h (nm 51 s) j = KQ_el x j) := H.2.2.2.2.2.2.2.2.2.2.2.1
theorem KQ.k12 {h : Hp} {s : Nat} {x : KQS} (H : KQ h s x) : h_k h (nm 52 s) = 101 := (H.2.2.2.2.2.2.2.2.2.2.2.2.1).1
theorem KQ.n12 {h : Hp} {s : Nat} {x : KQS} (H : KQ h s x) : h_n h (nm 52 s) = 24 := (H.2.2.2.2.2.2.2.2.2.2.2.2.1).2
theorem KQ.a_en {h : Hp} {s : Nat} {x : KQS} (H : KQ h s x) : (∀ j, h_I h (nm 52 s) j = nI (KQ_en x j)) := H.2.2.2.2.2.2.2.2.2.2.2.2.2
theorem KQ.frm {h h' : Hp} {s : Nat} {x : KQS} (H : KQ h s x) (f50 : ce h' (nm 50 s) = ce h (nm 50 s)) (f51 : ce h' (nm 51 s) = ce h (nm 51 s)) (f52 : ce h' (nm 52 s) = ce h (nm 52 s)) : KQ h' s x := ⟨(ce_k f50).trans (H.1), by rw [ce_R f50]; exact H.2.1, by rw [ce_I f50]; exact H.2.2.1, by rw [ce_I f50]; exact H.2.2.2.1, by rw [ce_R f50]; exact H.2.2.2.2.1, by rw [ce_I f50]; exact H.2.2.2.2.2.1, by rw [ce_R f50]; exact H.2.2.2.2.2.2.1, by rw [ce_I f50]; exact H.2.2.2.2.2.2.2.1, by rw [ce_I f50]; exact H.2.2.2.2.2.2.2.2.1, by rw [ce_I f50]; exact H.2.2.2.2.2.2.2.2.2.1, ⟨(ce_k f51).trans (H.2.2.2.2.2.2.2.2.2.2.1).1, (ce_n f51).trans (H.2.2.2.2.2.2.2.2.2.2.1).2⟩, fun j => by rw [ce_I f51]; exact (H.2.2.2.2.2.2.2.2.2.2.2.1) j, ⟨(ce_k f52).trans (H.2.2.2.2.2.2.2.2.2.2.2.2.1).1, (ce_n f52).trans (H.2.2.2.2.2.2.2.2.2.2.2.2.1).2⟩, fun j => by rw [ce_I f52]; exact (H.2.2.2.2.2.2.2.2.2.2.2.2.2) j⟩
theorem KQ.wway {h : Hp} {s : Nat} {x : KQS} {v : Int32} (H : KQ h s x) : KQ (wI h (nm 50 s) 1 (v)) s (KQ_uway x v) := ⟨H.1, H.2.1, by rw [gI_wI, if_pos ⟨rfl, rfl⟩], by rw [gI_wI, if_neg (fun z => absurd z.2 (by decide))]; exact H.2.2.2.1, H.2.2.2.2.1, by rw [gI_wI, if_neg (fun z => absurd z.2 (by decide))]; exact H.2.2.2.2.2.1, H.2.2.2.2.2.2.1, by rw [gI_wI, if_neg (fun z => absurd z.2 (by decide))]; exact H.2.2.2.2.2.2.2.1, by rw [gI_wI, if_neg (fun z => absurd z.2 (by decide))]; exact H.2.2.2.2.2.2.2.2.1, by rw [gI_wI, if_neg (fun z => absurd z.2 (by decide))]; exact H.2.2.2.2.2.2.2.2.2.1, H.2.2.2.2.2.2.2.2.2.2.1, fun m => by rw [ce_I (ce_wI (nm_ne (by decide) (by decide) (by decide)))]; exact (H.2.2.2.2.2.2.2.2.2.2.2.1) m, H.2.2.2.2.2.2.2.2.2.2.2.2.1, fun m => by rw [ce_I (ce_wI (nm_ne (by decide) (by decide) (by decide)))]; exact (H.2.2.2.2.2.2.2.2.2.2.2.2.2) m⟩
theorem KQ.wnum {h : Hp} {s : Nat} {x : KQS} {v : Int32} (H : KQ h s x) : KQ (wI h (nm 50 s) 2 (v)) s (KQ_unum x v) := ⟨H.1, H.2.1, by rw [gI_wI, if_neg (fun z => absurd z.2 (by decide))]; exact H.2.2.1, by rw [gI_wI, if_pos ⟨rfl, rfl⟩], H.2.2.2.2.1, by rw [gI_wI, if_neg (fun z => absurd z.2 (by decide))]; exact H.2.2.2.2.2.1, H.2.2.2.2.2.2.1, by rw [gI_wI, if_neg (fun z => absurd z.2 (by decide))]; exact H.2.2.2.2.2.2.2.1, by rw [gI_wI, if_neg (fun z => absurd z.2 (by decide))]; exact H.2.2.2.2.2.2.2.2.1, by rw [gI_wI, if_neg (fun z => absurd z.2 (by decide))]; exact H.2.2.2.2.2.2.2.2.2.1, H.2.2.2.2.2.2.2.2.2.2.1, fun m => by rw [ce_I (ce_wI (nm_ne (by decide) (by decide) (by decide)))]; exact (H.2.2.2.2.2.2.2.2.2.2.2.1) m, H.2.2.2.2.2.2.2.2.2.2.2.2.1, fun m => by rw [ce_I (ce_wI (nm_ne (by decide) (by decide) (by decide)))]; exact (H.2.2.2.2.2.2.2.2.2.2.2.2.2) m⟩
theorem KQ.wcnt {h : Hp} {s : Nat} {x : KQS} {v : Nat} (H : KQ h s x) : KQ (wI h (nm 50 s) 4 (nI (v))) s (KQ_ucnt x v) := ⟨H.1, H.2.1, by rw [gI_wI, if_neg (fun z => absurd z.2 (by decide))]; exact H.2.2.1, by rw [gI_wI, if_neg (fun z => absurd z.2 (by decide))]; exact H.2.2.2.1, H.2.2.2.2.1, by rw [gI_wI, if_pos ⟨rfl, rfl⟩], H.2.2.2.2.2.2.1, by rw [gI_wI, if_neg (fun z => absurd z.2 (by decide))]; exact H.2.2.2.2.2.2.2.1, by rw [gI_wI, if_neg (fun z => absurd z.2 (by decide))]; exact H.2.2.2.2.2.2.2.2.1, by rw [gI_wI, if_neg (fun z => absurd z.2 (by decide))]; exact H.2.2.2.2.2.2.2.2.2.1, H.2.2.2.2.2.2.2.2.2.2.1, fun m => by rw [ce_I (ce_wI (nm_ne (by decide) (by decide) (by decide)))]; exact (H.2.2.2.2.2.2.2.2.2.2.2.1) m, H.2.2.2.2.2.2.2.2.2.2.2.2.1, fun m => by rw [ce_I (ce_wI (nm_ne (by decide) (by decide) (by decide)))]; exact (H.2.2.2.2.2.2.2.2.2.2.2.2.2) m⟩
theorem KQ.wcc {h : Hp} {s : Nat} {x : KQS} {v : Nat} (H : KQ h s x) : KQ (wI h (nm 50 s) 6 (nI (v))) s (KQ_ucc x v) := ⟨H.1, H.2.1, by rw [gI_wI, if_neg (fun z => absurd z.2 (by decide))]; exact H.2.2.1, by rw [gI_wI, if_neg (fun z => absurd z.2 (by decide))]; exact H.2.2.2.1, H.2.2.2.2.1, by rw [gI_wI, if_neg (fun z => absurd z.2 (by decide))]; exact H.2.2.2.2.2.1, H.2.2.2.2.2.2.1, by rw [gI_wI, if_pos ⟨rfl, rfl⟩], by rw [gI_wI, if_neg (fun z => absurd z.2 (by decide))]; exact H.2.2.2.2.2.2.2.2.1, by rw [gI_wI, if_neg (fun z => absurd z.2 (by decide))]; exact H.2.2.2.2.2.2.2.2.2.1, H.2.2.2.2.2.2.2.2.2.2.1, fun m => by rw [ce_I (ce_wI (nm_ne (by decide) (by decide) (by decide)))]; exact (H.2.2.2.2.2.2.2.2.2.2.2.1) m, H.2.2.2.2.2.2.2.2.2.2.2.2.1, fun m => by rw [ce_I (ce_wI (nm_ne (by decide) (by decide) (by decide)))]; exact (H.2.2.2.2.2.2.2.2.2.2.2.2.2) m⟩
theorem KQ.wbrk {h : Hp} {s : Nat} {x : KQS} {v : Bool} (H : KQ h s x) : KQ (wI h (nm 50 s) 7 (bI (v))) s (KQ_ubrk x v) := ⟨H.1, H.2.1, by rw [gI_wI, if_neg (fun z => absurd z.2 (by decide))]; exact H.2.2.1, by rw [gI_wI, if_neg (fun z => absurd z.2 (by decide))]; exact H.2.2.2.1, H.2.2.2.2.1, by rw [gI_wI, if_neg (fun z => absurd z.2 (by decide))]; exact H.2.2.2.2.2.1, H.2.2.2.2.2.2.1, by rw [gI_wI, if_neg (fun z => absurd z.2 (by decide))]; exact H.2.2.2.2.2.2.2.1, by rw [gI_wI, if_pos ⟨rfl, rfl⟩], by rw [gI_wI, if_neg (fun z => absurd z.2 (by decide))]; exact H.2.2.2.2.2.2.2.2.2.1, H.2.2.2.2.2.2.2.2.2.2.1, fun m => by rw [ce_I (ce_wI (nm_ne (by decide) (by decide) (by decide)))]; exact (H.2.2.2.2.2.2.2.2.2.2.2.1) m, H.2.2.2.2.2.2.2.2.2.2.2.2.1, fun m => by rw [ce_I (ce_wI (nm_ne (by decide) (by decide) (by decide)))]; exact (H.2.2.2.2.2.2.2.2.2.2.2.2.2) m⟩
theorem KQ.wrc {h : Hp} {s : Nat} {x : KQS} {v : Nat} (H : KQ h s x) : KQ (wI h (nm 50 s) 8 (nI (v))) s (KQ_urc x v) := ⟨H.1, H.2.1, by rw [gI_wI, if_neg (fun z => absurd z.2 (by decide))]; exact H.2.2.1, by rw [gI_wI, if_neg (fun z => absurd z.2 (by decide))]; exact H.2.2.2.1, H.2.2.2.2.1, by rw [gI_wI, if_neg (fun z => absurd z.2 (by decide))]; exact H.2.2.2.2.2.1, H.2.2.2.2.2.2.1, by rw [gI_wI, if_neg (fun z => absurd z.2 (by decide))]; exact H.2.2.2.2.2.2.2.1, by rw [gI_wI, if_neg (fun z => absurd z.2 (by decide))]; exact H.2.2.2.2.2.2.2.2.1, by rw [gI_wI, if_pos ⟨rfl, rfl⟩], H.2.2.2.2.2.2.2.2.2.2.1, fun m => by rw [ce_I (ce_wI (nm_ne (by decide) (by decide) (by decide)))]; exact (H.2.2.2.2.2.2.2.2.2.2.2.1) m, H.2.2.2.2.2.2.2.2.2.2.2.2.1, fun m => by rw [ce_I (ce_wI (nm_ne (by decide) (by decide) (by decide)))]; exact (H.2.2.2.2.2.2.2.2.2.2.2.2.2) m⟩
theorem KQ.wel {h : Hp} {s j : Nat} {x : KQS} {v : Int32} (H : KQ h s x) : KQ (wI h (nm 51 s) j (v)) s (KQ_uel x j v) := ⟨H.1, H.2.1, by rw [ce_I (ce_wI (nm_ne (by decide) (by decide) (by decide)))]; exact H.2.2.1, by rw [ce_I (ce_wI (nm_ne (by decide) (by decide) (by decide)))]; exact H.2.2.2.1, H.2.2.2.2.1, by rw [ce_I (ce_wI (nm_ne (by decide) (by decide) (by decide)))]; exact H.2.2.2.2.2.1, H.2.2.2.2.2.2.1, by rw [ce_I (ce_wI (nm_ne (by decide) (by decide) (by decide)))]; exact H.2.2.2.2.2.2.2.1, by rw [ce_I (ce_wI (nm_ne (by decide) (by decide) (by decide)))]; exact H.2.2.2.2.2.2.2.2.1, by rw [ce_I (ce_wI (nm_ne (by decide) (by decide) (by decide)))]; exact H.2.2.2.2.2.2.2.2.2.1, H.2.2.2.2.2.2.2.2.2.2.1, fun m => by
    rw [gI_wI]
    show _ = va_up (KQ_el x) j v m
    rw [va_up_app]
    by_cases e : m = j
    · rw [if_pos ⟨rfl, e⟩, if_pos e]
    · rw [if_neg (fun z => e z.2), if_neg e]; exact (H.2.2.2.2.2.2.2.2.2.2.2.1) m, H.2.2.2.2.2.2.2.2.2.2.2.2.1, fun m => by rw [ce_I (ce_wI (nm_ne (by decide) (by decide) (by decide)))]; exact (H.2.2.2.2.2.2.2.2.2.2.2.2.2) m⟩
theorem KQ.wen {h : Hp} {s j : Nat} {x : KQS} {v : Nat} (H : KQ h s x) : KQ (wI h (nm 52 s) j (nI (v))) s (KQ_uen x j v) := ⟨H.1, H.2.1, by rw [ce_I (ce_wI (nm_ne (by decide) (by decide) (by decide)))]; exact H.2.2.1, by rw [ce_I (ce_wI (nm_ne (by decide) (by decide) (by decide)))]; exact H.2.2.2.1, H.2.2.2.2.1, by rw [ce_I (ce_wI (nm_ne (by decide) (by decide) (by decide)))]; exact H.2.2.2.2.2.1, H.2.2.2.2.2.2.1, by rw [ce_I (ce_wI (nm_ne (by decide) (by decide) (by decide)))]; exact H.2.2.2.2.2.2.2.1, by rw [ce_I (ce_wI (nm_ne (by decide) (by decide) (by decide)))]; exact H.2.2.2.2.2.2.2.2.1, by rw [ce_I (ce_wI (nm_ne (by decide) (by decide) (by decide)))]; exact H.2.2.2.2.2.2.2.2.2.1, H.2.2.2.2.2.2.2.2.2.2.1, fun m => by rw [ce_I (ce_wI (nm_ne (by decide) (by decide) (by decide)))]; exact (H.2.2.2.2.2.2.2.2.2.2.2.1) m, H.2.2.2.2.2.2.2.2.2.2.2.2.1, fun m => by
    rw [gI_wI]
    show _ = nI (va_up (KQ_en x) j v m)
    rw [va_up_app]
    by_cases e : m = j
    · rw [if_pos ⟨rfl, e⟩, if_pos e]
    · rw [if_neg (fun z => e z.2), if_neg e]; exact (H.2.2.2.2.2.2.2.2.2.2.2.2.2) m⟩
def CQs (t : Nat) : Nat → Prop := fun a => 50 ≤ a % 128 ∧ a % 128 ≤ 52 ∧ a / 128 = t
theorem CQs_n {t r i : Nat} (h : ¬ (50 ≤ r ∧ r ≤ 52 ∧ i = t)) (hr : r < 128) : ¬ CQs t (nm r i) := by unfold CQs nm; omega
def enF (F : List (List Int32)) : Nat → Nat := fun j => if j < F.length then pre F (j + 1) else 0
/-- a sequence with the closed chunks F and the elements P behind them -/
abbrev ksx (src : Option Nat) (w m : Int32) (F : List (List Int32)) (P : List Int32) (b : Bool) (c : Nat) : KQS := (src, w, m, tot F + P.length, F.length, b, c, atF (F ++ [P]), enF F)
theorem gD_ge {P : List Int32} {p : Nat} (h : P.length ≤ p) : P.getD p (nI 0) = nI 0 := by rw [List.getD_eq_getElem?_getD, List.getElem?_eq_none h]; rfl
theorem atF_app : ∀ (F : List (List Int32)) (P : List Int32) (p : Nat), atF (F ++ [P]) p = if p < tot F then atF F p else P.getD (p - tot F) (nI 0)
  | [], P, p => by
    show (if p < P.length then P.getD p (nI 0) else atF [] (p - P.length)) = if p < 0 then atF [] p else P.getD (p - 0) (nI 0)
    rw [if_neg (Nat.not_lt_zero p), Nat.sub_zero]
    by_cases e : p < P.length
    · rw [if_pos e]
    · rw [if_neg e, gD_ge (by omega)]; rfl
  | a :: F, P, p => by
    show (if p < a.length then a.getD p (nI 0) else atF (F ++ [P]) (p - a.length)) = if p < a.length + tot F then (if p < a.length then a.getD p (nI 0) else atF F (p - a.length)) else P.getD (p - (a.length + tot F)) (nI 0)
    rw [atF_app F P]
    by_cases e : p < a.length
    · rw [if_pos e, if_pos (by omega), if_pos e]
    · rw [if_neg e, if_neg e]
      by_cases e2 : p < a.length + tot F
      · rw [if_pos e2, if_pos (by omega)]
      · rw [if_neg e2, if_neg (by omega)]; congr 1; omega
theorem atF_ge : ∀ (F : List (List Int32)) (p : Nat), tot F ≤ p → atF F p = nI 0
  | [], _, _ => rfl
  | a :: F, p, h => by
    have h : a.length + tot F ≤ p := h
    show (if p < a.length then a.getD p (nI 0) else atF F (p - a.length)) = _
    rw [if_neg (by omega)]
    exact atF_ge F _ (by omega)
theorem atF_nl {F : List (List Int32)} : atF (F ++ [[]]) = atF F := funext fun p => by
  rw [atF_app]
  by_cases e : p < tot F
  · rw [if_pos e]
  · rw [if_neg e, atF_ge F p (by omega)]; rfl
theorem tot_1 {F : List (List Int32)} {P : List Int32} : tot (F ++ [P]) = tot F + P.length := by rw [tot_app]; show tot F + (P.length + 0) = _; rw [Nat.add_zero]
theorem atF_up {F : List (List Int32)} {P : List Int32} {e : Int32} : va_up (atF (F ++ [P])) (tot F + P.length) e = atF (F ++ [P ++ [e]]) := funext fun p => by
  rw [va_up_app, atF_app, atF_app]
  by_cases h1 : p < tot F
  · rw [if_pos h1, if_pos h1, if_neg (by omega)]
  · rw [if_neg h1, if_neg h1]
    by_cases h2 : p = tot F + P.length
    · rw [if_pos h2, h2, Nat.add_sub_cancel_left, List.getD_eq_getElem?_getD, List.getElem?_append_right (Nat.le_refl _), Nat.sub_self]; rfl
    · rw [if_neg h2]
      by_cases h3 : p - tot F < P.length
      · rw [List.getD_eq_getElem?_getD, List.getD_eq_getElem?_getD, List.getElem?_append_left h3]
      · rw [gD_ge (by omega), gD_ge (by rw [List.length_append]; show P.length + 1 ≤ _; omega)]
theorem pre_app {F : List (List Int32)} {P : List Int32} {j : Nat} (h : j ≤ F.length) : pre (F ++ [P]) j = pre F j := by unfold pre; rw [List.take_append_of_le_length h]
theorem enF_up {F : List (List Int32)} {P : List Int32} : va_up (enF F) F.length (tot F + P.length) = enF (F ++ [P]) := funext fun j => by
  rw [va_up_app]
  unfold enF
  have hl : (F ++ [P]).length = F.length + 1 := List.length_append
  by_cases e : j = F.length
  · rw [if_pos e, if_pos (by omega), e, pre_all (by omega), tot_1]
  · rw [if_neg e]
    by_cases e2 : j < F.length
    · rw [if_pos e2, if_pos (by omega), pre_app (by omega)]
    · rw [if_neg e2, if_neg (by omega)]
/-- x has the chunks F -/
def KF (x : KQS) (F : List (List Int32)) : Prop := KQ_cnt x = tot F ∧ KQ_cc x = F.length ∧ (∀ p, KQ_el x p = atF F p) ∧ (∀ j, j < F.length → KQ_en x j = pre F (j + 1)) ∧ F.length ≤ 24 ∧ tot F ≤ 24
theorem ksx_F {src : Option Nat} {w m : Int32} {F : List (List Int32)} {b : Bool} {c : Nat} (h1 : F.length ≤ 24) (h2 : tot F ≤ 24) : KF (ksx src w m F [] b c) F :=
  ⟨rfl, rfl, fun p => by show atF (F ++ [[]]) p = _; rw [atF_nl], fun j hj => if_pos hj, h1, h2⟩
/-- how many elements the first k chunks have, as the class counts -/
def kein (x : KQS) (k : Nat) : Nat := if k < 1 ∨ KQ_cc x < k then 0 else KQ_en x (k - 1)
theorem KF.ein {x : KQS} {F : List (List Int32)} (H : KF x F) {k : Nat} (hk : k ≤ F.length) : kein x k = pre F k := by
  unfold kein
  rw [H.2.1]
  rcases k with _ | k
  · rw [if_pos (Or.inl (by decide))]; rfl
  · rw [if_neg (by omega)]
    exact H.2.2.2.1 k (by omega)
theorem KQ.rfQ {h : Hp} {t : Nat} {x : KQS} (_ : KQ h t x) : Fr h h (CQs t) := Fr.rf
theorem chF_a {w m e : Int32} (h : w = nI 97) : chF w m [e] = [e + m] := by
  rw [chF_1 (by unfold kp; rw [h, if_neg (by decide)])]
  unfold fnq; rw [if_pos h]; rfl
theorem chF_d {w m e : Int32} (h : w = nI 100) : chF w m [e] = [m / e] := by
  rw [chF_1 (by unfold kp; rw [h, if_neg (by decide)])]
  unfold fnq; rw [h, if_neg (by decide), if_pos rfl]; rfl
theorem chF_k {w m e : Int32} (h : w = nI 107) (h2 : e - e / m * m = 0) : chF w m [e] = [e] := by
  rw [chF_1 (by unfold kp; rw [h, if_pos rfl, h2]; rfl)]
  unfold fnq; rw [h, if_neg (by decide), if_neg (by decide)]; rfl
theorem chF_n {w m e : Int32} (h : w = nI 107) (h2 : ¬ e - e / m * m = 0) : chF w m [e] = [] := by
  rw [chF_0 (by unfold kp; rw [h, if_pos rfl]; exact fun z => h2 (of_decide_eq_true z))]; rfl
set_option maxRecDepth 100000 in
set_option maxHeartbeats 4000000 in
theorem c_X6_takeElement {G : GG} {d bc bs : Nat} {h : Hp} {Q : Pst} {s : Nat} {x : KQS} (hO : KQ h s x) (hc : KQ_cnt x < 24) {e : Int32} (hq : ∀ h', KQ h' s (KQ_ucnt (KQ_uel x (KQ_cnt x) e) (KQ_cnt x + 1)) → Fr h h' (CQs s) → Q oVoid h') : WP G m_X6_takeElement d 0 (aargs 0 [vr (some (nm 50 s)), vi e]) [] h bc bs Q := by
  have hF : Fr h h (CQs s) := Fr.rf
  refine wp_sub [(0, vr (some (nm 50 s))), (1, vi e)] (fun _ hz => hz) ?_
  refine wp_aload_n (i := 0) dX6_takeElement_0 rfl rfl ?_
  refine wp_get 8 4 (vi (nI (KQ_cnt x))) dX6_takeElement_1 hO.k0 (by decide) (by decide) fl_X6_15 (congrArg (fun z => toV (vi z)) (hO.f_cnt)) ?_
  refine wp_aload_n (i := 0) dX6_takeElement_4 rfl rfl ?_
  refine wp_get 8 3 (vr (some (nm 51 s))) dX6_takeElement_5 hO.k0 (by decide) (by decide) fl_X6_9 (congrArg (fun z => toV (vr z)) (hO.r4_3)) ?_
  refine wp_alen dX6_takeElement_8 (arTy_101 hO.k10) ?_
  rw [hO.n10]
  refine wp_icmp_geN 32 dX6_takeElement_9 (by decide) (by omega) (by decide) (fun c_9 => absurd c_9 (by omega)) (fun c_9 => ?_)
  refine wp_aload_n (i := 0) dX6_takeElement_12 rfl rfl ?_
  refine wp_get 8 3 (vr (some (nm 51 s))) dX6_takeElement_13 hO.k0 (by decide) (by decide) fl_X6_9 (congrArg (fun z => toV (vr z)) (hO.r4_3)) ?_
  refine wp_aload_n (i := 0) dX6_takeElement_16 rfl rfl ?_
  refine wp_get 8 4 (vi (nI (KQ_cnt x))) dX6_takeElement_17 hO.k0 (by decide) (by decide) fl_X6_15 (congrArg (fun z => toV (vi z)) (hO.f_cnt)) ?_
  refine wp_iload_n (i := 1) dX6_takeElement_20 rfl rfl ?_
  refine wp_iastoreN 24 dX6_takeElement_21 hO.k10 hO.n10 (by omega) (by decide) ?_
  have hO1 := hO.wel (j := KQ_cnt x) (v := e)
  have hF2 := hF.wI (b := nm 51 s) (k := KQ_cnt x) (x := e) (by unfold CQs nm; omega)
  refine wp_aload_n (i := 0) dX6_takeElement_22 rfl rfl ?_
  refine wp_dup dX6_takeElement_23 ?_
  refine wp_get 8 4 (vi (nI (KQ_cnt x))) dX6_takeElement_24 hO1.k0 (by decide) (by decide) fl_X6_15 (congrArg (fun z => toV (vi z)) (hO1.f_cnt)) ?_
  refine wp_iconst (nI 1) dX6_takeElement_27 (by decide) ?_
  refine wp_iaddN dX6_takeElement_28 ?_
  refine wp_putI 8 4 dX6_takeElement_29 hO1.k0 (by decide) (by decide) (by decide) fl_X6_15 rfl (fun _ _ => rfl) rfl rfl ?_
  have hO3 := hO1.wcnt (v := ((KQ_cnt x) + 1))
  have hF4 := hF2.wI (b := nm 50 s) (k := 4) (x := nI (((KQ_cnt x) + 1))) (by unfold CQs nm; omega)
  refine wp_return dX6_takeElement_32 rfl ?_
  exact hq _ hO3 hF4
set_option maxRecDepth 100000 in
set_option maxHeartbeats 4000000 in
theorem c_X6_closeChunk {G : GG} {d bc bs : Nat} {h : Hp} {Q : Pst} {s : Nat} {x : KQS} (hO : KQ h s x) (hc : KQ_cc x < 24) (hq : ∀ h', KQ h' s (KQ_ucc (KQ_uen x (KQ_cc x) (KQ_cnt x)) (KQ_cc x + 1)) → Fr h h' (CQs s) → Q oVoid h') : WP G m_X6_closeChunk d 0 (aargs 0 [vr (some (nm 50 s))]) [] h bc bs Q := by
  have hF : Fr h h (CQs s) := Fr.rf
  refine wp_sub [(0, vr (some (nm 50 s)))] (fun _ hz => hz) ?_
  refine wp_aload_n (i := 0) dX6_closeChunk_0 rfl rfl ?_
  refine wp_get 8 6 (vi (nI (KQ_cc x))) dX6_closeChunk_1 hO.k0 (by decide) (by decide) fl_X6_22 (congrArg (fun z => toV (vi z)) (hO.f_cc)) ?_
  refine wp_aload_n (i := 0) dX6_closeChunk_4 rfl rfl ?_
  refine wp_get 8 5 (vr (some (nm 52 s))) dX6_closeChunk_5 hO.k0 (by decide) (by decide) fl_X6_19 (congrArg (fun z => toV (vr z)) (hO.r6_5)) ?_
  refine wp_alen dX6_closeChunk_8 (arTy_101 hO.k12) ?_
  rw [hO.n12]
  refine wp_icmp_geN 35 dX6_closeChunk_9 (by decide) (by omega) (by decide) (fun c_9 => absurd c_9 (by omega)) (fun c_9 => ?_)
  refine wp_aload_n (i := 0) dX6_closeChunk_12 rfl rfl ?_
  refine wp_get 8 5 (vr (some (nm 52 s))) dX6_closeChunk_13 hO.k0 (by decide) (by decide) fl_X6_19 (congrArg (fun z => toV (vr z)) (hO.r6_5)) ?_
  refine wp_aload_n (i := 0) dX6_closeChunk_16 rfl rfl ?_
  refine wp_get 8 6 (vi (nI (KQ_cc x))) dX6_closeChunk_17 hO.k0 (by decide) (by decide) fl_X6_22 (congrArg (fun z => toV (vi z)) (hO.f_cc)) ?_
  refine wp_aload_n (i := 0) dX6_closeChunk_20 rfl rfl ?_
  refine wp_get 8 4 (vi (nI (KQ_cnt x))) dX6_closeChunk_21 hO.k0 (by decide) (by decide) fl_X6_15 (congrArg (fun z => toV (vi z)) (hO.f_cnt)) ?_
  refine wp_iastoreN 24 dX6_closeChunk_24 hO.k12 hO.n12 (by omega) (by decide) ?_
  have hO1 := hO.wen (j := KQ_cc x) (v := (KQ_cnt x))
  have hF2 := hF.wI (b := nm 52 s) (k := KQ_cc x) (x := nI ((KQ_cnt x))) (by unfold CQs nm; omega)
  refine wp_aload_n (i := 0) dX6_closeChunk_25 rfl rfl ?_
  refine wp_dup dX6_closeChunk_26 ?_
  refine wp_get 8 6 (vi (nI (KQ_cc x))) dX6_closeChunk_27 hO1.k0 (by decide) (by decide) fl_X6_22 (congrArg (fun z => toV (vi z)) (hO1.f_cc)) ?_
  refine wp_iconst (nI 1) dX6_closeChunk_30 (by decide) ?_
  refine wp_iaddN dX6_closeChunk_31 ?_
  refine wp_putI 8 6 dX6_closeChunk_32 hO1.k0 (by decide) (by decide) (by decide) fl_X6_22 rfl (fun _ _ => rfl) rfl rfl ?_
  have hO3 := hO1.wcc (v := ((KQ_cc x) + 1))
  have hF4 := hF2.wI (b := nm 50 s) (k := 6) (x := nI (((KQ_cc x) + 1))) (by unfold CQs nm; omega)
  refine wp_return dX6_closeChunk_35 rfl ?_
  exact hq _ hO3 hF4
theorem c_X6_takeX {G : GG} {d bc bs : Nat} {h : Hp} {Q : Pst} {s : Nat} {src : Option Nat} {w m : Int32} {F : List (List Int32)} {P : List Int32} {b : Bool} {c : Nat} (hO : KQ h s (ksx src w m F P b c)) (hlt : tot F + P.length < 24) {e : Int32} (hq : ∀ h', KQ h' s (ksx src w m F (P ++ [e]) b c) → Fr h h' (CQs s) → Q oVoid h') : WP G m_X6_takeElement d 0 (aargs 0 [vr (some (nm 50 s)), vi e]) [] h bc bs Q := by
  refine c_X6_takeElement hO hlt (fun h' O' F' => hq h' ?_ F')
  have e1 : KQ_ucnt (KQ_uel (ksx src w m F P b c) (tot F + P.length) e) (tot F + P.length + 1) = ksx src w m F (P ++ [e]) b c := by
    show (src, w, m, tot F + P.length + 1, F.length, b, c, va_up (atF (F ++ [P])) (tot F + P.length) e, enF F) = _
    rw [atF_up]
    show _ = (src, w, m, tot F + (P ++ [e]).length, F.length, b, c, _, _)
    rw [List.length_append]; rfl
  rw [← e1]; exact O'
theorem c_X6_closeX {G : GG} {d bc bs : Nat} {h : Hp} {Q : Pst} {s : Nat} {src : Option Nat} {w m : Int32} {F : List (List Int32)} {P : List Int32} {b : Bool} {c : Nat} (hO : KQ h s (ksx src w m F P b c)) (hlt : F.length < 24) (hq : ∀ h', KQ h' s (ksx src w m (F ++ [P]) [] b c) → Fr h h' (CQs s) → Q oVoid h') : WP G m_X6_closeChunk d 0 (aargs 0 [vr (some (nm 50 s))]) [] h bc bs Q := by
  refine c_X6_closeChunk hO hlt (fun h' O' F' => hq h' ?_ F')
  have e1 : KQ_ucc (KQ_uen (ksx src w m F P b c) F.length (tot F + P.length)) (F.length + 1) = ksx src w m (F ++ [P]) [] b c := by
    show (src, w, m, tot F + P.length, F.length + 1, b, c, atF (F ++ [P]), va_up (enF F) F.length (tot F + P.length)) = (src, w, m, tot (F ++ [P]) + 0, (F ++ [P]).length, b, c, atF (F ++ [P] ++ [[]]), enF (F ++ [P]))
    rw [enF_up, atF_nl, tot_1, List.length_append]; rfl
  rw [← e1]; exact O'
set_option maxRecDepth 100000 in
set_option maxHeartbeats 4000000 in
theorem c_X6_elementsIn {G : GG} {d bc bs : Nat} {h : Hp} {Q : Pst} {s : Nat} {x : KQS} (hO : KQ h s x) (hcc : KQ_cc x ≤ 24) {k : Nat} (hk : k < 2 ^ 31) (hq : Q (oRet (vi (nI (kein x k)))) h) : WP G m_X6_elementsIn d 0 (aargs 0 [vr (some (nm 50 s)), vi (nI k)]) [] h bc bs Q := by
  have hF : Fr h h (CQs s) := Fr.rf
  refine wp_sub [(0, vr (some (nm 50 s))), (1, vi (nI k))] (fun _ hz => hz) ?_
  refine wp_iload_n (i := 1) dX6_elementsIn_0 rfl rfl ?_
  refine wp_iconst (nI 1) dX6_elementsIn_1 (by decide) ?_
  refine wp_icmp_ltN 13 dX6_elementsIn_2 (by decide) (by omega) (by decide) (fun c_2 => ?_) (fun c_2 => ?_)
  · skip
    refine wp_iconst (nI 0) dX6_elementsIn_13 (by decide) ?_
    refine wp_goto 25 dX6_elementsIn_14 (by decide) ?_
    refine wp_ireturn dX6_elementsIn_25 rfl ?_
    rw [show kein x k = 0 from if_pos (by omega)] at hq
    exact hq
  · skip
    refine wp_iload_n (i := 1) dX6_elementsIn_5 rfl rfl ?_
    refine wp_aload_n (i := 0) dX6_elementsIn_6 rfl rfl ?_
    refine wp_get 8 6 (vi (nI (KQ_cc x))) dX6_elementsIn_7 hO.k0 (by decide) (by decide) fl_X6_22 (congrArg (fun z => toV (vi z)) (hO.f_cc)) ?_
    refine wp_icmp_leN 17 dX6_elementsIn_10 (by decide) (by omega) (by omega) (fun c_10 => ?_) (fun c_10 => ?_)
    · skip
      refine wp_aload_n (i := 0) dX6_elementsIn_17 rfl rfl ?_
      refine wp_get 8 5 (vr (some (nm 52 s))) dX6_elementsIn_18 hO.k0 (by decide) (by decide) fl_X6_19 (congrArg (fun z => toV (vr z)) (hO.r6_5)) ?_
      refine wp_iload_n (i := 1) dX6_elementsIn_21 rfl rfl ?_
      refine wp_iconst (nI 1) dX6_elementsIn_22 (by decide) ?_
      refine wp_isubN dX6_elementsIn_23 (by omega) ?_
      refine wp_ialoadN 24 (nI (KQ_en x (k - 1))) dX6_elementsIn_24 hO.k12 hO.n12 (by omega) (by decide) (hO.a_en (k - 1)) ?_
      refine wp_ireturn dX6_elementsIn_25 rfl ?_
      rw [show kein x k = KQ_en x (k - 1) from if_neg (by omega)] at hq
      exact hq
    · skip
      refine wp_iconst (nI 0) dX6_elementsIn_13 (by decide) ?_
      refine wp_goto 25 dX6_elementsIn_14 (by decide) ?_
      refine wp_ireturn dX6_elementsIn_25 rfl ?_
      rw [show kein x k = 0 from if_pos (by omega)] at hq
      exact hq
set_option maxRecDepth 100000 in
set_option maxHeartbeats 4000000 in
theorem l_X6_chunksFor {G : GG} {d bc bs : Nat} {h : Hp} {Q : Pst} {s : Nat} {x : KQS} {F : List (List Int32)} (hX : KF x F) (hO : KQ h s x) {q : Nat} (hq31 : q < 2 ^ 31) (hd : 1 ≤ d) : ∀ m k, F.length ≤ m + k → 1 ≤ k → k ≤ 25 → Q (oRet (vi (nI (cfG F q m k)))) h → WP G m_X6_chunksFor d 2 [(2, vi (nI k)), (0, vr (some (nm 50 s))), (1, vi (nI q))] [] h bc bs Q := by
  have hF : Fr h h (CQs s) := Fr.rf
  have h24 := hX.2.2.2.2.1
  have hcc := hX.2.1
  intro m
  induction m with
  | zero =>
    intro k hm h1 h25 hq
    refine wp_iload_n (i := 2) dX6_chunksFor_2 rfl rfl ?_
    refine wp_aload_n (i := 0) dX6_chunksFor_3 rfl rfl ?_
    refine wp_get 8 6 (vi (nI (KQ_cc x))) dX6_chunksFor_4 hO.k0 (by decide) (by decide) fl_X6_22 (congrArg (fun z => toV (vi z)) (hO.f_cc)) ?_
    refine wp_icmp_geN 25 dX6_chunksFor_7 (by decide) (by omega) (by omega) (fun c_7 => ?_) (fun c_7 => absurd c_7 (by omega))
    refine wp_iload_n (i := 2) dX6_chunksFor_25 rfl rfl ?_
    refine wp_ireturn dX6_chunksFor_26 rfl ?_
    exact hq
  | succ m ih =>
    intro k hm h1 h25 hq
    refine wp_iload_n (i := 2) dX6_chunksFor_2 rfl rfl ?_
    refine wp_aload_n (i := 0) dX6_chunksFor_3 rfl rfl ?_
    refine wp_get 8 6 (vi (nI (KQ_cc x))) dX6_chunksFor_4 hO.k0 (by decide) (by decide) fl_X6_22 (congrArg (fun z => toV (vi z)) (hO.f_cc)) ?_
    refine wp_icmp_geN 25 dX6_chunksFor_7 (by decide) (by omega) (by omega) (fun c_7 => ?_) (fun c_7 => ?_)
    · skip
      refine wp_iload_n (i := 2) dX6_chunksFor_25 rfl rfl ?_
      refine wp_ireturn dX6_chunksFor_26 rfl ?_
      rw [cfG, if_neg (fun z => by have := z.1; have := z.2; omega)] at hq
      exact hq
    · skip
      refine wp_aload_n (i := 0) dX6_chunksFor_10 rfl rfl ?_
      refine wp_iload_n (i := 2) dX6_chunksFor_11 rfl rfl ?_
      refine wp_cV (y' := m_X6_elementsIn) 8 [vi (nI k)] [] 0 0 dX6_chunksFor_12 ml_X6_54 im_X6_elementsIn se_X6_elementsIn (by decide) hO.k0 ok_X6_elementsIn rfl (Nat.le_of_ble_eq_true rfl) rfl (Nat.le_of_ble_eq_true rfl) (d' := d - 1) (by omega) (Nat.zero_le _) (Nat.zero_le _) (c_X6_elementsIn hO (by omega) (k := k) (by omega) (cont_ret ?_))
      have ek : kein x k = pre F k := hX.ein (by omega)
      have hpl : pre F k ≤ tot F := pre_le
      have h24t := hX.2.2.2.2.2
      refine wp_iload_n (i := 1) dX6_chunksFor_15 rfl rfl ?_
      refine wp_icmp_gtN 25 dX6_chunksFor_16 (by decide) (by omega) (by omega) (fun c_16 => ?_) (fun c_16 => ?_)
      · skip
        refine wp_iload_n (i := 2) dX6_chunksFor_25 rfl rfl ?_
        refine wp_ireturn dX6_chunksFor_26 rfl ?_
        rw [cfG, if_neg (fun z => by have := z.1; have := z.2; omega)] at hq
        exact hq
      · skip
        refine wp_iincN (a := k) (lv' := [(2, vi (nI (k + 1))), (0, vr (some (nm 50 s))), (1, vi (nI q))]) 1 dX6_chunksFor_19 rfl (by decide) (by decide) rfl ?_
        refine wp_goto 2 dX6_chunksFor_22 (by decide) ?_
        refine wp_sub [(2, vi (nI (k + 1))), (0, vr (some (nm 50 s))), (1, vi (nI q))] (sb_cons (.head _) (sb_cons (.tail _ (.head _)) (sb_cons (.tail _ (.tail _ (.head _))) sb_nil))) ?_
        refine ih (k + 1) (by omega) (by omega) (by omega) ?_
        rw [cfG, if_pos ⟨by omega, by omega⟩] at hq
        exact hq
set_option maxRecDepth 100000 in
set_option maxHeartbeats 4000000 in
theorem c_X6_chunksFor {G : GG} {d bc bs : Nat} {h : Hp} {Q : Pst} {s : Nat} {x : KQS} {F : List (List Int32)} (hX : KF x F) (hO : KQ h s x) {q : Nat} (hq31 : q < 2 ^ 31) (hd : 1 ≤ d) (hq : Q (oRet (vi (nI (cf F q)))) h) : WP G m_X6_chunksFor d 0 (aargs 0 [vr (some (nm 50 s)), vi (nI q)]) [] h bc bs Q := by
  have hF : Fr h h (CQs s) := Fr.rf
  refine wp_sub [(0, vr (some (nm 50 s))), (1, vi (nI q))] (fun _ hz => hz) ?_
  refine wp_iconst (nI 1) dX6_chunksFor_0 (by decide) ?_
  refine wp_istore_n (i := 2) (lv' := [(2, vi (nI 1)), (0, vr (some (nm 50 s))), (1, vi (nI q))]) dX6_chunksFor_1 rfl (by decide) rfl ?_
  refine wp_sub [(2, vi (nI 1)), (0, vr (some (nm 50 s))), (1, vi (nI q))] (sb_cons (.head _) (sb_cons (.tail _ (.head _)) (sb_cons (.tail _ (.tail _ (.head _))) sb_nil))) ?_
  exact l_X6_chunksFor hX hO hq31 hd F.length 1 (by omega) (Nat.le_refl _) (by decide) hq
set_option maxRecDepth 100000 in
set_option maxHeartbeats 4000000 in
theorem c_X6_elementAt {G : GG} {d bc bs : Nat} {h : Hp} {Q : Pst} {s : Nat} {x : KQS} (hO : KQ h s x) {i : Nat} (hi : i < 24) {e : Int32} (he : KQ_el x i = e) (hq : Q (oRet (vi e)) h) : WP G m_X6_elementAt d 0 (aargs 0 [vr (some (nm 50 s)), vi (nI i)]) [] h bc bs Q := by
  have hF : Fr h h (CQs s) := Fr.rf
  refine wp_sub [(0, vr (some (nm 50 s))), (1, vi (nI i))] (fun _ hz => hz) ?_
  refine wp_iload_n (i := 1) dX6_elementAt_0 rfl rfl ?_
  refine wp_if_ltN 13 dX6_elementAt_1 (by decide) (by omega) (fun c_1 => absurd c_1 (id)) (fun c_1 => ?_)
  refine wp_iload_n (i := 1) dX6_elementAt_4 rfl rfl ?_
  refine wp_aload_n (i := 0) dX6_elementAt_5 rfl rfl ?_
  refine wp_get 8 3 (vr (some (nm 51 s))) dX6_elementAt_6 hO.k0 (by decide) (by decide) fl_X6_9 (congrArg (fun z => toV (vr z)) (hO.r4_3)) ?_
  refine wp_alen dX6_elementAt_9 (arTy_101 hO.k10) ?_
  rw [hO.n10]
  refine wp_icmp_ltN 17 dX6_elementAt_10 (by decide) (by omega) (by decide) (fun c_10 => ?_) (fun c_10 => absurd c_10 (by omega))
  refine wp_aload_n (i := 0) dX6_elementAt_17 rfl rfl ?_
  refine wp_get 8 3 (vr (some (nm 51 s))) dX6_elementAt_18 hO.k0 (by decide) (by decide) fl_X6_9 (congrArg (fun z => toV (vr z)) (hO.r4_3)) ?_
  refine wp_iload_n (i := 1) dX6_elementAt_21 rfl rfl ?_
  refine wp_ialoadN 24 e dX6_elementAt_22 hO.k10 hO.n10 (by omega) (by decide) ((hO.a_el i).trans he) ?_
  refine wp_ireturn dX6_elementAt_23 rfl ?_
  exact hq
set_option maxRecDepth 100000 in
set_option maxHeartbeats 4000000 in
theorem l_X6_hasZero {G : GG} {d bc bs : Nat} {h : Hp} {Q : Pst} {s a t : Nat} {x : KQS} (hO : KQ h s x) (ht : t ≤ 24) (hd : 1 ≤ d) : ∀ (l : List Int32) (i : Nat), i + l.length = t → (∀ j, j < l.length → KQ_el x (i + j) = l.getD j (nI 0)) → Q (oRet (vi (bI (hz l)))) h → WP G m_X6_hasZero d 2 [(3, vi (nI i)), (0, vr (some (nm 50 s))), (1, vi (nI a)), (2, vi (nI t))] [] h bc bs Q := by
  have hF : Fr h h (CQs s) := Fr.rf
  intro l
  induction l with
  | nil =>
    intro i hi he hq
    have hi : i = t := hi
    refine wp_iload_n (i := 3) dX6_hasZero_2 rfl rfl ?_
    refine wp_iload_n (i := 2) dX6_hasZero_3 rfl rfl ?_
    refine wp_icmp_geN 23 dX6_hasZero_4 (by decide) (by omega) (by omega) (fun c_4 => ?_) (fun c_4 => absurd c_4 (by omega))
    refine wp_iconst (nI 0) dX6_hasZero_23 (by decide) ?_
    refine wp_zreturn dX6_hasZero_24 rfl (by first | rfl | assumption) ?_
    exact hq
  | cons e l ih =>
    intro i hi he hq
    have hi : i + (l.length + 1) = t := hi
    have he0 : KQ_el x i = e := he 0 (Nat.zero_lt_succ _)
    refine wp_iload_n (i := 3) dX6_hasZero_2 rfl rfl ?_
    refine wp_iload_n (i := 2) dX6_hasZero_3 rfl rfl ?_
    refine wp_icmp_geN 23 dX6_hasZero_4 (by decide) (by omega) (by omega) (fun c_4 => absurd c_4 (by omega)) (fun c_4 => ?_)
    refine wp_aload_n (i := 0) dX6_hasZero_7 rfl rfl ?_
    refine wp_iload_n (i := 3) dX6_hasZero_8 rfl rfl ?_
    refine wp_cV (y' := m_X6_elementAt) 8 [vi (nI i)] [] 0 0 dX6_hasZero_9 ml_X6_50 im_X6_elementAt se_X6_elementAt (by decide) hO.k0 ok_X6_elementAt rfl (Nat.le_of_ble_eq_true rfl) rfl (Nat.le_of_ble_eq_true rfl) (d' := d - 1) (by omega) (Nat.zero_le _) (Nat.zero_le _) (c_X6_elementAt hO (i := i) (by omega) he0 (cont_ret ?_))
    refine wp_if_ne 17 dX6_hasZero_12 (by decide) (fun c_12 => ?_) (fun c_12 => ?_)
    · skip
      refine wp_iincN (a := i) (lv' := [(3, vi (nI (i + 1))), (0, vr (some (nm 50 s))), (1, vi (nI a)), (2, vi (nI t))]) 1 dX6_hasZero_17 rfl (by decide) (by decide) rfl ?_
      refine wp_goto 2 dX6_hasZero_20 (by decide) ?_
      refine wp_sub [(3, vi (nI (i + 1))), (0, vr (some (nm 50 s))), (1, vi (nI a)), (2, vi (nI t))] (sb_cons (.head _) (sb_cons (.tail _ (.head _)) (sb_cons (.tail _ (.tail _ (.head _))) (sb_cons (.tail _ (.tail _ (.tail _ (.head _)))) sb_nil)))) ?_
      refine ih (i + 1) (by omega) (fun j hj => ?_) ?_
      · have := he (j + 1) (Nat.succ_lt_succ hj)
        rw [show i + 1 + j = i + (j + 1) by omega]
        exact this
      · have e9 : hz (e :: l) = hz l := by
          show (decide (e = nI 0) || hz l) = hz l
          rw [show decide (e = nI 0) = false from decide_eq_false (fun z => c_12 (z.trans rfl))]
          rfl
        rw [e9] at hq
        exact hq
    · skip
      refine wp_iconst (nI 1) dX6_hasZero_15 (by decide) ?_
      refine wp_zreturn dX6_hasZero_16 rfl (by first | rfl | assumption) ?_
      rw [show hz (e :: l) = true from by show (decide (e = nI 0) || hz l) = true; rw [show decide (e = nI 0) = true from decide_eq_true (c_12.trans rfl)]; rfl] at hq
      exact hq
set_option maxRecDepth 100000 in
set_option maxHeartbeats 4000000 in
theorem c_X6_hasZero {G : GG} {d bc bs : Nat} {h : Hp} {Q : Pst} {s a t : Nat} {x : KQS} (hO : KQ h s x) (ht : t ≤ 24) (hd : 1 ≤ d) {l : List Int32} (hl : a + l.length = t) (he : ∀ j, j < l.length → KQ_el x (a + j) = l.getD j (nI 0)) (hq : Q (oRet (vi (bI (hz l)))) h) : WP G m_X6_hasZero d 0 (aargs 0 [vr (some (nm 50 s)), vi (nI a), vi (nI t)]) [] h bc bs Q := by
  have hF : Fr h h (CQs s) := Fr.rf
  refine wp_sub [(0, vr (some (nm 50 s))), (1, vi (nI a)), (2, vi (nI t))] (fun _ hz => hz) ?_
  refine wp_iload_n (i := 1) dX6_hasZero_0 rfl rfl ?_
  refine wp_istore_n (i := 3) (lv' := [(3, vi (nI a)), (0, vr (some (nm 50 s))), (1, vi (nI a)), (2, vi (nI t))]) dX6_hasZero_1 rfl (by decide) rfl ?_
  refine wp_sub [(3, vi (nI a)), (0, vr (some (nm 50 s))), (1, vi (nI a)), (2, vi (nI t))] (sb_cons (.head _) (sb_cons (.tail _ (.head _)) (sb_cons (.tail _ (.tail _ (.head _))) (sb_cons (.tail _ (.tail _ (.tail _ (.head _)))) sb_nil)))) ?_
  exact l_X6_hasZero hO ht hd l a hl he hq
set_option maxRecDepth 100000 in
set_option maxHeartbeats 4000000 in
theorem c_X6_takeFrom {G : GG} {d bc bs : Nat} {h : Hp} {Q : Pst} {s : Nat} {src : Option Nat} {w m : Int32} {F : List (List Int32)} {P : List Int32} {b : Bool} {c : Nat} (hO : KQ h s (ksx src w m F P b c)) (hlt : tot F + P.length < 24) {e : Int32} (hw : w = nI 97 ∨ w = nI 100 ∨ w = nI 107) (h100 : w = nI 100 → ¬ e = 0) (h107 : w = nI 107 → ¬ m = 0) (hd : 1 ≤ d) (hq : ∀ h', KQ h' s (ksx src w m F (P ++ chF w m [e]) b c) → Fr h h' (CQs s) → Q oVoid h') : WP G m_X6_takeFrom d 0 (aargs 0 [vr (some (nm 50 s)), vi e]) [] h bc bs Q := by
  have hF : Fr h h (CQs s) := Fr.rf
  refine wp_sub [(0, vr (some (nm 50 s))), (1, vi e)] (fun _ hz => hz) ?_
  refine wp_aload_n (i := 0) dX6_takeFrom_0 rfl rfl ?_
  refine wp_get 8 1 (vi w) dX6_takeFrom_1 hO.k0 (by decide) (by decide) fl_X6_36 (congrArg (fun z => toV (vi z)) (hO.f_way)) ?_
  refine wp_bipush (nI 97) dX6_takeFrom_4 (by decide) ?_
  refine wp_icmp_ne 22 dX6_takeFrom_6 (by decide) (fun c_6 => ?_) (fun c_6 => ?_)
  · skip
    refine wp_aload_n (i := 0) dX6_takeFrom_22 rfl rfl ?_
    refine wp_get 8 1 (vi w) dX6_takeFrom_23 hO.k0 (by decide) (by decide) fl_X6_36 (congrArg (fun z => toV (vi z)) (hO.f_way)) ?_
    refine wp_bipush (nI 100) dX6_takeFrom_26 (by decide) ?_
    refine wp_icmp_ne 48 dX6_takeFrom_28 (by decide) (fun c_28 => ?_) (fun c_28 => ?_)
    · skip
      refine wp_aload_n (i := 0) dX6_takeFrom_48 rfl rfl ?_
      refine wp_get 8 1 (vi w) dX6_takeFrom_49 hO.k0 (by decide) (by decide) fl_X6_36 (congrArg (fun z => toV (vi z)) (hO.f_way)) ?_
      refine wp_bipush (nI 107) dX6_takeFrom_52 (by decide) ?_
      refine wp_icmp_ne 78 dX6_takeFrom_54 (by decide) (fun c_54 => ?_) (fun c_54 => ?_)
      · exact absurd hw (fun z => z.elim c_6 (fun z => z.elim c_28 c_54))
      · skip
        refine wp_aload_n (i := 0) dX6_takeFrom_57 rfl rfl ?_
        refine wp_get 8 2 (vi m) dX6_takeFrom_58 hO.k0 (by decide) (by decide) fl_X6_40 (congrArg (fun z => toV (vi z)) (hO.f_num)) ?_
        refine wp_if_eq 78 dX6_takeFrom_61 (by decide) (fun c_61 => absurd c_61 (h107 c_54)) (fun c_61 => ?_)
        refine wp_iload_n (i := 1) dX6_takeFrom_64 rfl rfl ?_
        refine wp_aload_n (i := 0) dX6_takeFrom_65 rfl rfl ?_
        refine wp_get 8 2 (vi m) dX6_takeFrom_66 hO.k0 (by decide) (by decide) fl_X6_40 (congrArg (fun z => toV (vi z)) (hO.f_num)) ?_
        refine wp_irem dX6_takeFrom_69 (h107 c_54) ?_
        refine wp_if_ne 78 dX6_takeFrom_70 (by decide) (fun c_70 => ?_) (fun c_70 => ?_)
        · skip
          refine wp_return dX6_takeFrom_78 rfl ?_
          rw [show chF w m [e] = [] from chF_n c_54 c_70] at hq
          rw [List.append_nil] at hq
          exact hq _ hO hF
        · skip
          refine wp_aload_n (i := 0) dX6_takeFrom_73 rfl rfl ?_
          refine wp_iload_n (i := 1) dX6_takeFrom_74 rfl rfl ?_
          refine wp_cV (y' := m_X6_takeElement) 8 [vi e] [] 0 0 dX6_takeFrom_75 ml_X6_43 im_X6_takeElement se_X6_takeElement (by decide) hO.k0 ok_X6_takeElement rfl (Nat.le_of_ble_eq_true rfl) rfl (Nat.le_of_ble_eq_true rfl) (d' := d - 1) (by omega) (Nat.zero_le _) (Nat.zero_le _) (c_X6_takeX hO (by omega) (fun h_hO1 hO1 F_hO1 => cont_void ?_))
          have hF2 := hF.tr F_hO1
          refine wp_return dX6_takeFrom_78 rfl ?_
          rw [show chF w m [e] = [e] from chF_k c_54 c_70] at hq
          exact hq _ hO1 hF2
    · skip
      refine wp_iload_n (i := 1) dX6_takeFrom_31 rfl rfl ?_
      refine wp_if_eq 48 dX6_takeFrom_32 (by decide) (fun c_32 => absurd c_32 (h100 c_28)) (fun c_32 => ?_)
      refine wp_aload_n (i := 0) dX6_takeFrom_35 rfl rfl ?_
      refine wp_aload_n (i := 0) dX6_takeFrom_36 rfl rfl ?_
      refine wp_get 8 2 (vi m) dX6_takeFrom_37 hO.k0 (by decide) (by decide) fl_X6_40 (congrArg (fun z => toV (vi z)) (hO.f_num)) ?_
      refine wp_iload_n (i := 1) dX6_takeFrom_40 rfl rfl ?_
      refine wp_idiv dX6_takeFrom_41 (h100 c_28) ?_
      refine wp_cV (y' := m_X6_takeElement) 8 [vi (m / e)] [] 0 0 dX6_takeFrom_42 ml_X6_43 im_X6_takeElement se_X6_takeElement (by decide) hO.k0 ok_X6_takeElement rfl (Nat.le_of_ble_eq_true rfl) rfl (Nat.le_of_ble_eq_true rfl) (d' := d - 1) (by omega) (Nat.zero_le _) (Nat.zero_le _) (c_X6_takeX hO (by omega) (fun h_hO3 hO3 F_hO3 => cont_void ?_))
      have hF4 := hF.tr F_hO3
      refine wp_goto 78 dX6_takeFrom_45 (by decide) ?_
      refine wp_return dX6_takeFrom_78 rfl ?_
      rw [show chF w m [e] = [m / e] from chF_d c_28] at hq
      exact hq _ hO3 hF4
  · skip
    refine wp_aload_n (i := 0) dX6_takeFrom_9 rfl rfl ?_
    refine wp_iload_n (i := 1) dX6_takeFrom_10 rfl rfl ?_
    refine wp_aload_n (i := 0) dX6_takeFrom_11 rfl rfl ?_
    refine wp_get 8 2 (vi m) dX6_takeFrom_12 hO.k0 (by decide) (by decide) fl_X6_40 (congrArg (fun z => toV (vi z)) (hO.f_num)) ?_
    refine wp_iadd dX6_takeFrom_15 ?_
    refine wp_cV (y' := m_X6_takeElement) 8 [vi (e + m)] [] 0 0 dX6_takeFrom_16 ml_X6_43 im_X6_takeElement se_X6_takeElement (by decide) hO.k0 ok_X6_takeElement rfl (Nat.le_of_ble_eq_true rfl) rfl (Nat.le_of_ble_eq_true rfl) (d' := d - 1) (by omega) (Nat.zero_le _) (Nat.zero_le _) (c_X6_takeX hO (by omega) (fun h_hO5 hO5 F_hO5 => cont_void ?_))
    have hF6 := hF.tr F_hO5
    refine wp_goto 78 dX6_takeFrom_19 (by decide) ?_
    refine wp_return dX6_takeFrom_78 rfl ?_
    rw [show chF w m [e] = [e + m] from chF_a c_6] at hq
    exact hq _ hO5 hF6
