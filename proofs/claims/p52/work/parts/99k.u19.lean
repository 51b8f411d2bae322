/-! The class: values, the object, its rows, keeping one. -/
abbrev KUS : Type := (Nat) × (Option Nat) × (Nat) × (Option Nat) × (Option Nat)
abbrev KU_kd (x : KUS) : Nat := x.1
abbrev KU_tp (x : KUS) : Option Nat := x.2.1
abbrev KU_sz (x : KUS) : Nat := x.2.2.1
abbrev KU_pk (x : KUS) : Option Nat := x.2.2.2.1
abbrev KU_pe (x : KUS) : Option Nat := x.2.2.2.2
abbrev KU_ukd (x : KUS) (v : Nat) : KUS := (v, KU_tp x, KU_sz x, KU_pk x, KU_pe x)
abbrev KU_utp (x : KUS) (v : Option Nat) : KUS := (KU_kd x, v, KU_sz x, KU_pk x, KU_pe x)
abbrev KU_usz (x : KUS) (v : Nat) : KUS := (KU_kd x, KU_tp x, v, KU_pk x, KU_pe x)
abbrev KU_upk (x : KUS) (v : Option Nat) : KUS := (KU_kd x, KU_tp x, KU_sz x, v, KU_pe x)
abbrev KU_upe (x : KUS) (v : Option Nat) : KUS := (KU_kd x, KU_tp x, KU_sz x, KU_pk x, v)
def KU (h : Hp) (v : Nat) (x : KUS) : Prop := (h_k h (nm 42 v) = 11) ∧ (h_I h (nm 42 v) 0 = nI (KU_kd x)) ∧ (h_R h (nm 42 v) 1 = KU_tp x) ∧ (h_I h (nm 42 v) 2 = nI (KU_sz x)) ∧ (h_R h (nm 42 v) 3 = KU_pk x) ∧ (h_R h (nm 42 v) 4 = KU_pe x)
theorem KU.k0 {h : Hp} {v : Nat} {x : KUS} (H : KU h v x) : h_k h (nm 42 v) = 11 := H.1
theorem KU.f_kd {h : Hp} {v : Nat} {x : KUS} (H : KU h v x) : h_I h (nm 42 v) 0 = nI (KU_kd x) := H.2.1
theorem KU.o_tp {h : Hp} {v : Nat} {x : KUS} (H : KU h v x) : h_R h (nm 42 v) 1 = KU_tp x := H.2.2.1
theorem KU.f_sz {h : Hp} {v : Nat} {x : KUS} (H : KU h v x) : h_I h (nm 42 v) 2 = nI (KU_sz x) := H.2.2.2.1
theorem KU.o_pk {h : Hp} {v : Nat} {x : KUS} (H : KU h v x) : h_R h (nm 42 v) 3 = KU_pk x := H.2.2.2.2.1
theorem KU.o_pe {h : Hp} {v : Nat} {x : KUS} (H : KU h v x) : h_R h (nm 42 v) 4 = KU_pe x := H.2.2.2.2.2
theorem KU.frm {h h' : Hp} {v : Nat} {x : KUS} (H : KU h v x) (f42 : ce h' (nm 42 v) = ce h (nm 42 v)) : KU h' v x := ⟨(ce_k f42).trans (H.1), by rw [ce_I f42]; exact H.2.1, by rw [ce_R f42]; exact H.2.2.1, by rw [ce_I f42]; exact H.2.2.2.1, by rw [ce_R f42]; exact H.2.2.2.2.1, by rw [ce_R f42]; exact H.2.2.2.2.2⟩
theorem KU.wkd {h : Hp} {v : Nat} {x : KUS} {v : Nat} (H : KU h v x) : KU (wI h (nm 42 v) 0 (nI (v))) v (KU_ukd x v) := ⟨H.1, by rw [gI_wI, if_pos ⟨rfl, rfl⟩], H.2.2.1, by rw [gI_wI, if_neg (fun z => absurd z.2 (by decide))]; exact H.2.2.2.1, H.2.2.2.2.1, H.2.2.2.2.2⟩
theorem KU.wsz {h : Hp} {v : Nat} {x : KUS} {v : Nat} (H : KU h v x) : KU (wI h (nm 42 v) 2 (nI (v))) v (KU_usz x v) := ⟨H.1, by rw [gI_wI, if_neg (fun z => absurd z.2 (by decide))]; exact H.2.1, H.2.2.1, by rw [gI_wI, if_pos ⟨rfl, rfl⟩], H.2.2.2.2.1, H.2.2.2.2.2⟩
/-- a row of n ints -/
def PRr (h : Hp) (q n : Nat) (f : Nat → Int32) : Prop := h_k h q = 101 ∧ h_n h q = n ∧ ∀ j, j < n → h_I h q j = f j
theorem PRr.frm {h h' : Hp} {q n : Nat} {f : Nat → Int32} (H : PRr h q n f) (e : ce h' q = ce h q) : PRr h' q n f := ⟨(ce_k e).trans H.1, (ce_n e).trans H.2.1, fun j hj => by rw [ce_I e]; exact H.2.2 j hj⟩
/-- where a number is first in a row -/
def fsR (f : Nat → Int32) (u : Int32) : Nat → Nat → Int32
  | 0, _ => -1
  | n + 1, i => if f i = u then nI i else fsR f u n (i + 1)
/-- the parlour and its values by number -/
def CVh (h : Hp) (n M : Nat) : Prop := (h_k h (nm 40 0) = 13 ∧ h_R h (nm 40 0) 0 = some (nm 40 1) ∧ h_I h (nm 40 0) 1 = nI n ∧ h_R h (nm 40 0) 2 = some (nm 40 2) ∧ h_I h (nm 40 0) 3 = nI M) ∧ (h_k h (nm 40 1) = 110 ∧ h_n h (nm 40 1) = 60) ∧ ∀ v, v < n → h_R h (nm 40 1) v = some (nm 42 v)
/-- what the calls about values may change -/
def WV (a : Nat) : Prop := a = nm 40 0 ∨ a = nm 40 1 ∨ a = nm 40 2 ∨ (42 ≤ a % 128 ∧ a % 128 ≤ 48)
def FRV (h h' : Hp) : Prop := (∀ a, ¬ WV a → ce h' a = ce h a) ∧ (h_k h' (nm 40 0) = h_k h (nm 40 0) ∧ h_n h' (nm 40 0) = h_n h (nm 40 0) ∧ h_R h' (nm 40 0) = h_R h (nm 40 0) ∧ h_L h' (nm 40 0) = h_L h (nm 40 0) ∧ h_F h' (nm 40 0) = h_F h (nm 40 0)) ∧ ∀ j, j ≠ 1 → j ≠ 3 → h_I h' (nm 40 0) j = h_I h (nm 40 0) j
theorem FRV.rf {h : Hp} : FRV h h := ⟨fun _ _ => rfl, ⟨rfl, rfl, rfl, rfl, rfl⟩, fun _ _ _ => rfl⟩
theorem FRV.tr {h h1 h2 : Hp} (a : FRV h h1) (b : FRV h1 h2) : FRV h h2 := ⟨fun x hx => (b.1 x hx).trans (a.1 x hx), ⟨b.2.1.1.trans a.2.1.1, b.2.1.2.1.trans a.2.1.2.1, b.2.1.2.2.1.trans a.2.1.2.2.1, b.2.1.2.2.2.1.trans a.2.1.2.2.2.1, b.2.1.2.2.2.2.trans a.2.1.2.2.2.2⟩, fun j h1 h3 => (b.2.2 j h1 h3).trans (a.2.2 j h1 h3)⟩
theorem FRV.of {h h' : Hp} {W : Nat → Prop} (F : Fr h h' W) (hW : ∀ a, W a → a = nm 40 1 ∨ a = nm 40 2 ∨ (42 ≤ a % 128 ∧ a % 128 ≤ 48)) : FRV h h' := by
  have e : ce h' (nm 40 0) = ce h (nm 40 0) := F _ (fun z => by have := hW _ z; unfold nm at this; omega)
  exact ⟨fun a ha => F a (fun z => ha (Or.inr (hW a z))), ⟨ce_k e, ce_n e, ce_R e, ce_L e, ce_F e⟩, fun j _ _ => by rw [ce_I e]⟩
theorem CVh.frm {h h' : Hp} {n M : Nat} (H : CVh h n M) (e0 : ce h' (nm 40 0) = ce h (nm 40 0)) (e1 : ce h' (nm 40 1) = ce h (nm 40 1)) : CVh h' n M := by
  obtain ⟨⟨a1, a2, a3, a4, a5⟩, ⟨b1, b2⟩, c⟩ := H
  exact ⟨⟨(ce_k e0).trans a1, by rw [ce_R e0]; exact a2, by rw [ce_I e0]; exact a3, by rw [ce_R e0]; exact a4, by rw [ce_I e0]; exact a5⟩, ⟨(ce_k e1).trans b1, (ce_n e1).trans b2⟩, fun v hv => by rw [ce_R e1]; exact c v hv⟩
theorem CR.frV {h h' : Hp} {X : CS} (H : CR h X) (F : FRV h h') : CR h' X := by
  obtain ⟨⟨a1, a2, a3, a4, a5, a6, a7, a8, a9⟩, H2⟩ := H
  obtain ⟨f1, ⟨f2, f3, f4, f5, f6⟩, f7⟩ := F
  have ep : ∀ i, i ≠ 0 → i ≠ 1 → i ≠ 2 → ce h' (nm 40 i) = ce h (nm 40 i) := fun i h1 h2 h3 => f1 _ (by unfold WV nm; omega)
  have er : ∀ r i, 53 ≤ r → r ≤ 69 → ce h' (nm r i) = ce h (nm r i) := fun r i h1 h2 => f1 _ (by unfold WV nm; omega)
  exact ⟨⟨f2.trans a1, by rw [f4]; exact a2, by rw [f4]; exact a3, by rw [f4]; exact a4, by rw [f4]; exact a5, by rw [f7 _ (by decide) (by decide)]; exact a6, by rw [f7 _ (by decide) (by decide)]; exact a7, by rw [f7 _ (by decide) (by decide)]; exact a8, by rw [f7 _ (by decide) (by decide)]; exact a9⟩,
    H2.1.fr (ep _ (by decide) (by decide) (by decide)) (ep _ (by decide) (by decide) (by decide)) (ep _ (by decide) (by decide) (by decide)), H2.2.1.fr (ep _ (by decide) (by decide) (by decide)) (ep _ (by decide) (by decide) (by decide)) (ep _ (by decide) (by decide) (by decide)), H2.2.2.1.fr (fun r i h1 h2 => er r i h1 (by omega)),
    H2.2.2.2.1.fr (f1 _ (by unfold WV nm; omega)) (ep _ (by decide) (by decide) (by decide)) (fun r i h1 h2 => er r i (by omega) (by omega)), H2.2.2.2.2.fr (fun r i h1 _ => er r i (by omega) (by omega)) (fun r i h1 _ => er r i (by omega) (by omega)) (fun i => er _ i (by decide) (by decide))⟩
theorem CQR.frV {h h' : Hp} {n : Nat} {x : Nat → QIS} (H : CQR h n x) (F : FRV h h') : CQR h' n x := by
  obtain ⟨⟨a1, a2, a3, a4, a5⟩, b, c, g1, g2, g3⟩ := H
  obtain ⟨f1, ⟨f2, f3, f4, f5, f6⟩, f7⟩ := F
  have e4 : ce h' (nm 40 4) = ce h (nm 40 4) := f1 _ (by unfold WV nm; omega)
  have er : ∀ r i, 50 ≤ r → r ≤ 52 → ce h' (nm r i) = ce h (nm r i) := fun r i h1 h2 => f1 _ (by unfold WV nm; omega)
  exact ⟨⟨f2.trans a1, by rw [f4]; exact a2, by rw [f7 _ (by decide) (by decide)]; exact a3, (ce_k e4).trans a4, (ce_n e4).trans a5⟩, fun s hs => by rw [ce_R e4]; exact b s hs, fun s hs => (c s hs).frm (er _ _ (by decide) (by decide)) (er _ _ (by decide) (by decide)) (er _ _ (by decide) (by decide)),
    g1.fr (fun i _ => er _ _ (by decide) (by decide)), g2.fr (fun i _ => er _ _ (by decide) (by decide)), g3.fr (fun i _ => er _ _ (by decide) (by decide))⟩
set_option maxRecDepth 100000 in
set_option maxHeartbeats 4000000 in
theorem c_X8_init {G : GG} {d bc bs : Nat} {h : Hp} {Q : Pst} {v kd sz : Nat} {tp pk pe : Option Nat} (k42 : h_k h (nm 42 v) = 11) (hd : 1 ≤ d) (hq : ∀ h', KU h' v (kd, tp, sz, pk, pe) → Fr h h' (fun a => a = nm 42 v) → Q oVoid h') : WP G m_X8_init d 0 (aargs 0 [vr (some (nm 42 v)), vi (nI kd), vr tp, vi (nI sz), vr pk, vr pe]) [] h bc bs Q := by
  refine wp_sub [(0, vr (some (nm 42 v))), (1, vi (nI kd)), (2, vr tp), (3, vi (nI sz)), (4, vr pk), (5, vr pe)] (fun _ hz => hz) ?_
  refine wp_aload_n (i := 0) dX8_init_0 rfl rfl ?_
  refine wp_objInit dX8_init_1 ml_X8_3 im_java_lang_Object__init____V co_obj (by omega) (by decide) ?_
  refine wp_aload_n (i := 0) dX8_init_4 rfl rfl ?_
  refine wp_iload_n (i := 1) dX8_init_5 rfl rfl ?_
  refine wp_putI 10 0 dX8_init_6 (by simp [gI_wI, gI_wR, gI_mk, gR_wI, gR_wR, gR_mk, gk_wI, gk_wR, gk_mk, gn_wI, gn_wR, gn_mk, nm_eq, nm_i, k42]) (by decide) (by decide) (by decide) fl_X8_9 rfl (fun _ _ => rfl) rfl rfl ?_
  refine wp_aload_n (i := 0) dX8_init_9 rfl rfl ?_
  refine wp_aload_n (i := 2) dX8_init_10 rfl rfl ?_
  refine wp_putR 10 1 dX8_init_11 (by simp [gI_wI, gI_wR, gI_mk, gR_wI, gR_wR, gR_mk, gk_wI, gk_wR, gk_mk, gn_wI, gn_wR, gn_mk, nm_eq, nm_i, k42]) (by decide) (by decide) (by decide) fl_X8_15 rfl (fun _ _ => rfl) rfl ?_
  refine wp_aload_n (i := 0) dX8_init_14 rfl rfl ?_
  refine wp_iload_n (i := 3) dX8_init_15 rfl rfl ?_
  refine wp_putI 10 2 dX8_init_16 (by simp [gI_wI, gI_wR, gI_mk, gR_wI, gR_wR, gR_mk, gk_wI, gk_wR, gk_mk, gn_wI, gn_wR, gn_mk, nm_eq, nm_i, k42]) (by decide) (by decide) (by decide) fl_X8_19 rfl (fun _ _ => rfl) rfl rfl ?_
  refine wp_aload_n (i := 0) dX8_init_19 rfl rfl ?_
  refine wp_aload (i := 4) dX8_init_20 rfl ?_
  refine wp_putRF 10 3 dX8_init_22 (by simp [gI_wI, gI_wR, gI_mk, gR_wI, gR_wR, gR_mk, gk_wI, gk_wR, gk_mk, gn_wI, gn_wR, gn_mk, nm_eq, nm_i, k42]) (by decide) (by decide) (by decide) fl_X8_22 rfl rfl rfl (fun _ _ => rfl) rfl ?_
  refine wp_aload_n (i := 0) dX8_init_25 rfl rfl ?_
  refine wp_aload (i := 5) dX8_init_26 rfl ?_
  refine wp_putRF 10 4 dX8_init_28 (by simp [gI_wI, gI_wR, gI_mk, gR_wI, gR_wR, gR_mk, gk_wI, gk_wR, gk_mk, gn_wI, gn_wR, gn_mk, nm_eq, nm_i, k42]) (by decide) (by decide) (by decide) fl_X8_26 rfl rfl rfl (fun _ _ => rfl) rfl ?_
  refine wp_return dX8_init_31 rfl ?_
  exact hq _ ⟨by first | (simp [gI_wI, gI_wR, gI_mk, gR_wI, gR_wR, gR_mk, gk_wI, gk_wR, gk_mk, gn_wI, gn_wR, gn_mk, nm_eq, nm_i, k42]; done) | (simp [gI_wI, gI_wR, gI_mk, gR_wI, gR_wR, gR_mk, gk_wI, gk_wR, gk_mk, gn_wI, gn_wR, gn_mk, nm_eq, nm_i, k42]; rfl), by first | (simp [gI_wI, gI_wR, gI_mk, gR_wI, gR_wR, gR_mk, gk_wI, gk_wR, gk_mk, gn_wI, gn_wR, gn_mk, nm_eq, nm_i, k42]; done) | (simp [gI_wI, gI_wR, gI_mk, gR_wI, gR_wR, gR_mk, gk_wI, gk_wR, gk_mk, gn_wI, gn_wR, gn_mk, nm_eq, nm_i, k42]; rfl), by first | (simp [gI_wI, gI_wR, gI_mk, gR_wI, gR_wR, gR_mk, gk_wI, gk_wR, gk_mk, gn_wI, gn_wR, gn_mk, nm_eq, nm_i, k42]; done) | (simp [gI_wI, gI_wR, gI_mk, gR_wI, gR_wR, gR_mk, gk_wI, gk_wR, gk_mk, gn_wI, gn_wR, gn_mk, nm_eq, nm_i, k42]; rfl), by first | (simp [gI_wI, gI_wR, gI_mk, gR_wI, gR_wR, gR_mk, gk_wI, gk_wR, gk_mk, gn_wI, gn_wR, gn_mk, nm_eq, nm_i, k42]; done) | (simp [gI_wI, gI_wR, gI_mk, gR_wI, gR_wR, gR_mk, gk_wI, gk_wR, gk_mk, gn_wI, gn_wR, gn_mk, nm_eq, nm_i, k42]; rfl), by first | (simp [gI_wI, gI_wR, gI_mk, gR_wI, gR_wR, gR_mk, gk_wI, gk_wR, gk_mk, gn_wI, gn_wR, gn_mk, nm_eq, nm_i, k42]; done) | (simp [gI_wI, gI_wR, gI_mk, gR_wI, gR_wR, gR_mk, gk_wI, gk_wR, gk_mk, gn_wI, gn_wR, gn_mk, nm_eq, nm_i, k42]; rfl), by first | (simp [gI_wI, gI_wR, gI_mk, gR_wI, gR_wR, gR_mk, gk_wI, gk_wR, gk_mk, gn_wI, gn_wR, gn_mk, nm_eq, nm_i, k42]; done) | (simp [gI_wI, gI_wR, gI_mk, gR_wI, gR_wR, gR_mk, gk_wI, gk_wR, gk_mk, gn_wI, gn_wR, gn_mk, nm_eq, nm_i, k42]; rfl)⟩ (fun a ha => (ce_wR ha).trans ((ce_wR ha).trans ((ce_wI ha).trans ((ce_wR ha).trans (ce_wI ha)))))
set_option maxRecDepth 100000 in
set_option maxHeartbeats 4000000 in
theorem c_X8_isLiveVector {G : GG} {d bc bs : Nat} {h : Hp} {Q : Pst} {v : Nat} {x : KUS} (hO : KU h v x) (hk4 : KU_kd x < 4) (hq : Q (oRet (vi (bI (decide (KU_kd x < 2))))) h) : WP G m_X8_isLiveVector d 0 (aargs 0 [vr (some (nm 42 v))]) [] h bc bs Q := by
  refine wp_sub [(0, vr (some (nm 42 v)))] (fun _ hz => hz) ?_
  refine wp_aload_n (i := 0) dX8_isLiveVector_0 rfl rfl ?_
  refine wp_get 10 0 (vi (nI (KU_kd x))) dX8_isLiveVector_1 hO.k0 (by decide) (by decide) fl_X8_9 (congrArg (fun z => toV (vi z)) (hO.f_kd)) ?_
  refine wp_if_eqN 15 dX8_isLiveVector_4 (by decide) (by omega) (fun c_4 => ?_) (fun c_4 => ?_)
  · skip
    refine wp_iconst (nI 1) dX8_isLiveVector_15 (by decide) ?_
    refine wp_goto 20 dX8_isLiveVector_16 (by decide) ?_
    refine wp_zreturn dX8_isLiveVector_20 rfl (by first | rfl | assumption) ?_
    rw [show decide (KU_kd x < 2) = true from decide_eq_true (by omega)] at hq
    exact hq
  · skip
    refine wp_aload_n (i := 0) dX8_isLiveVector_7 rfl rfl ?_
    refine wp_get 10 0 (vi (nI (KU_kd x))) dX8_isLiveVector_8 hO.k0 (by decide) (by decide) fl_X8_9 (congrArg (fun z => toV (vi z)) (hO.f_kd)) ?_
    refine wp_iconst (nI 1) dX8_isLiveVector_11 (by decide) ?_
    refine wp_icmp_neN 19 dX8_isLiveVector_12 (by decide) (by omega) (by decide) (fun c_12 => ?_) (fun c_12 => ?_)
    · skip
      refine wp_iconst (nI 0) dX8_isLiveVector_19 (by decide) ?_
      refine wp_zreturn dX8_isLiveVector_20 rfl (by first | rfl | assumption) ?_
      rw [show decide (KU_kd x < 2) = false from decide_eq_false (by omega)] at hq
      exact hq
    · skip
      refine wp_iconst (nI 1) dX8_isLiveVector_15 (by decide) ?_
      refine wp_goto 20 dX8_isLiveVector_16 (by decide) ?_
      refine wp_zreturn dX8_isLiveVector_20 rfl (by first | rfl | assumption) ?_
      rw [show decide (KU_kd x < 2) = true from decide_eq_true (by omega)] at hq
      exact hq
set_option maxRecDepth 100000 in
set_option maxHeartbeats 4000000 in
theorem c_X8_plainKeyAt {G : GG} {d bc bs : Nat} {h : Hp} {Q : Pst} {v : Nat} {x : KUS} (hO : KU h v x) {q n j : Nat} {f : Nat → Int32} (hp : KU_pk x = some q) (hP : PRr h q n f) (hn : n ≤ 64) (hj : j < n) (hq : Q (oRet (vi (f j))) h) : WP G m_X8_plainKeyAt d 0 (aargs 0 [vr (some (nm 42 v)), vi (nI j)]) [] h bc bs Q := by
  refine wp_sub [(0, vr (some (nm 42 v))), (1, vi (nI j))] (fun _ hz => hz) ?_
  refine wp_aload_n (i := 0) dX8_plainKeyAt_0 rfl rfl ?_
  refine wp_get 10 3 (vr (some q)) dX8_plainKeyAt_1 hO.k0 (by decide) (by decide) fl_X8_22 (congrArg (fun z => toV (vr z)) (hO.o_pk.trans hp)) ?_
  refine wp_ifnull 20 dX8_plainKeyAt_4 (by decide) (fun c_4 => absurd c_4 (fun z => nomatch z)) (fun a_4 c_4 => ?_)
  refine wp_iload_n (i := 1) dX8_plainKeyAt_7 rfl rfl ?_
  refine wp_if_ltN 20 dX8_plainKeyAt_8 (by decide) (by omega) (fun c_8 => absurd c_8 (id)) (fun c_8 => ?_)
  refine wp_iload_n (i := 1) dX8_plainKeyAt_11 rfl rfl ?_
  refine wp_aload_n (i := 0) dX8_plainKeyAt_12 rfl rfl ?_
  refine wp_get 10 3 (vr (some q)) dX8_plainKeyAt_13 hO.k0 (by decide) (by decide) fl_X8_22 (congrArg (fun z => toV (vr z)) (hO.o_pk.trans hp)) ?_
  refine wp_alen dX8_plainKeyAt_16 (arTy_101 hP.1) ?_
  rw [hP.2.1]
  refine wp_icmp_ltN 24 dX8_plainKeyAt_17 (by decide) (by omega) (by omega) (fun c_17 => ?_) (fun c_17 => absurd c_17 (by omega))
  refine wp_aload_n (i := 0) dX8_plainKeyAt_24 rfl rfl ?_
  refine wp_get 10 3 (vr (some q)) dX8_plainKeyAt_25 hO.k0 (by decide) (by decide) fl_X8_22 (congrArg (fun z => toV (vr z)) (hO.o_pk.trans hp)) ?_
  refine wp_iload_n (i := 1) dX8_plainKeyAt_28 rfl rfl ?_
  refine wp_ialoadN n (f j) dX8_plainKeyAt_29 hP.1 hP.2.1 (by omega) (by omega) (hP.2.2 j hj) ?_
  refine wp_ireturn dX8_plainKeyAt_30 rfl ?_
  exact hq
set_option maxRecDepth 100000 in
set_option maxHeartbeats 4000000 in
theorem c_X8_plainElementAt {G : GG} {d bc bs : Nat} {h : Hp} {Q : Pst} {v : Nat} {x : KUS} (hO : KU h v x) {q n j : Nat} {f : Nat → Int32} (hp : KU_pe x = some q) (hP : PRr h q n f) (hn : n ≤ 64) (hj : j < n) (hq : Q (oRet (vi (f j))) h) : WP G m_X8_plainElementAt d 0 (aargs 0 [vr (some (nm 42 v)), vi (nI j)]) [] h bc bs Q := by
  refine wp_sub [(0, vr (some (nm 42 v))), (1, vi (nI j))] (fun _ hz => hz) ?_
  refine wp_iload_n (i := 1) dX8_plainElementAt_0 rfl rfl ?_
  refine wp_if_ltN 13 dX8_plainElementAt_1 (by decide) (by omega) (fun c_1 => absurd c_1 (id)) (fun c_1 => ?_)
  refine wp_iload_n (i := 1) dX8_plainElementAt_4 rfl rfl ?_
  refine wp_aload_n (i := 0) dX8_plainElementAt_5 rfl rfl ?_
  refine wp_get 10 4 (vr (some q)) dX8_plainElementAt_6 hO.k0 (by decide) (by decide) fl_X8_26 (congrArg (fun z => toV (vr z)) (hO.o_pe.trans hp)) ?_
  refine wp_alen dX8_plainElementAt_9 (arTy_101 hP.1) ?_
  rw [hP.2.1]
  refine wp_icmp_ltN 17 dX8_plainElementAt_10 (by decide) (by omega) (by omega) (fun c_10 => ?_) (fun c_10 => absurd c_10 (by omega))
  refine wp_aload_n (i := 0) dX8_plainElementAt_17 rfl rfl ?_
  refine wp_get 10 4 (vr (some q)) dX8_plainElementAt_18 hO.k0 (by decide) (by decide) fl_X8_26 (congrArg (fun z => toV (vr z)) (hO.o_pe.trans hp)) ?_
  refine wp_iload_n (i := 1) dX8_plainElementAt_21 rfl rfl ?_
  refine wp_ialoadN n (f j) dX8_plainElementAt_22 hP.1 hP.2.1 (by omega) (by omega) (hP.2.2 j hj) ?_
  refine wp_ireturn dX8_plainElementAt_23 rfl ?_
  exact hq
set_option maxRecDepth 100000 in
set_option maxHeartbeats 4000000 in
theorem c_X8_slotV {G : GG} {d bc bs : Nat} {h : Hp} {Q : Pst} {v : Nat} {x : KUS} (hO : KU h v x) {u : Int32} {k : Nat} (hu : ixB u (KU_sz x) = true → u = nI k ∧ k < KU_sz x) (hp : KU_pk x = none) (hsz : KU_sz x ≤ 64) (hP : 0 < KU_sz x → ∃ q n, KU_pe x = some q ∧ h_k h q = 101 ∧ h_n h q = n ∧ (KU_sz x ≤ n ∧ n ≤ 64)) (hq : Q (oRet (vi (if ixB u (KU_sz x) = true then nI k else -1))) h) : WP G m_X8_plainSlotOf d 0 (aargs 0 [vr (some (nm 42 v)), vi u]) [] h bc bs Q := by
  refine wp_sub [(0, vr (some (nm 42 v))), (1, vi u)] (fun _ hz => hz) ?_
  refine wp_aload_n (i := 0) dX8_plainSlotOf_0 rfl rfl ?_
  refine wp_get 10 3 (vr none) dX8_plainSlotOf_1 hO.k0 (by decide) (by decide) fl_X8_22 (congrArg (fun z => toV (vr z)) (hO.o_pk.trans hp)) ?_
  refine wp_ifnonnull 34 dX8_plainSlotOf_4 (by decide) (fun a_4 c_4 => absurd c_4 (fun z => nomatch z)) (fun c_4 => ?_)
  refine wp_iload_n (i := 1) dX8_plainSlotOf_7 rfl rfl ?_
  refine wp_if_lt 32 dX8_plainSlotOf_8 (by decide) (fun c_8 => ?_) (fun c_8 => ?_)
  · skip
    refine wp_iconst (-1) dX8_plainSlotOf_32 (by decide) ?_
    refine wp_ireturn dX8_plainSlotOf_33 rfl ?_
    rw [if_neg (by first | (rw [ixB_a c_8]; decide) | (rw [ixB_b (by omega) (fun z => by rw [i32_lt] at z; rw [i32_le] at c_16; omega)]; decide))] at hq
    exact hq
  · skip
    refine wp_iload_n (i := 1) dX8_plainSlotOf_11 rfl rfl ?_
    refine wp_aload_n (i := 0) dX8_plainSlotOf_12 rfl rfl ?_
    refine wp_get 10 2 (vi (nI (KU_sz x))) dX8_plainSlotOf_13 hO.k0 (by decide) (by decide) fl_X8_19 (congrArg (fun z => toV (vi z)) (hO.f_sz)) ?_
    refine wp_icmp_ge 32 dX8_plainSlotOf_16 (by decide) (fun c_16 => ?_) (fun c_16 => ?_)
    · skip
      refine wp_iconst (-1) dX8_plainSlotOf_32 (by decide) ?_
      refine wp_ireturn dX8_plainSlotOf_33 rfl ?_
      rw [if_neg (by first | (rw [ixB_a c_8]; decide) | (rw [ixB_b (by omega) (fun z => by rw [i32_lt] at z; rw [i32_le] at c_16; omega)]; decide))] at hq
      exact hq
    · have hb : ixB u (KU_sz x) = true := ixB_c (by omega) c_8 (by rw [i32_lt]; rw [i32_le] at c_16; omega)
      obtain ⟨eu, hk⟩ := hu hb
      subst eu
      obtain ⟨q, n, he, hP1, hP2, hP3⟩ := hP (by omega)
      refine wp_iload_n (i := 1) dX8_plainSlotOf_19 rfl rfl ?_
      refine wp_aload_n (i := 0) dX8_plainSlotOf_20 rfl rfl ?_
      refine wp_get 10 4 (vr (some q)) dX8_plainSlotOf_21 hO.k0 (by decide) (by decide) fl_X8_26 (congrArg (fun z => toV (vr z)) (hO.o_pe.trans he)) ?_
      refine wp_alen dX8_plainSlotOf_24 (arTy_101 hP1) ?_
      rw [hP2]
      refine wp_icmp_geN 32 dX8_plainSlotOf_25 (by decide) (by omega) (by omega) (fun c_25 => absurd c_25 (by omega)) (fun c_25 => ?_)
      refine wp_iload_n (i := 1) dX8_plainSlotOf_28 rfl rfl ?_
      refine wp_goto 33 dX8_plainSlotOf_29 (by decide) ?_
      refine wp_ireturn dX8_plainSlotOf_33 rfl ?_
      rw [if_pos hb] at hq
      exact hq
set_option maxRecDepth 100000 in
set_option maxHeartbeats 4000000 in
theorem l_X8_slotM {G : GG} {d bc bs : Nat} {h : Hp} {Q : Pst} {v : Nat} {x : KUS} (hO : KU h v x) {u : Int32} {q n : Nat} {f : Nat → Int32} (hp : KU_pk x = some q) (hP : PRr h q n f) (hn : n ≤ 64) : ∀ m i, i + m = n → Q (oRet (vi (fsR f u m i))) h → WP G m_X8_plainSlotOf d 36 [(2, vi (nI i)), (0, vr (some (nm 42 v))), (1, vi u)] [] h bc bs Q := by
  intro m
  induction m with
  | zero =>
    intro i hi hq
    have hi : i = n := hi
    subst hi
    refine wp_iload_n (i := 2) dX8_plainSlotOf_36 rfl rfl ?_
    refine wp_aload_n (i := 0) dX8_plainSlotOf_37 rfl rfl ?_
    refine wp_get 10 3 (vr (some q)) dX8_plainSlotOf_38 hO.k0 (by decide) (by decide) fl_X8_22 (congrArg (fun z => toV (vr z)) (hO.o_pk.trans hp)) ?_
    refine wp_alen dX8_plainSlotOf_41 (arTy_101 hP.1) ?_
    rw [hP.2.1]
    refine wp_icmp_geN 63 dX8_plainSlotOf_42 (by decide) (by omega) (by omega) (fun c_42 => ?_) (fun c_42 => absurd c_42 (by omega))
    refine wp_iconst (-1) dX8_plainSlotOf_63 (by decide) ?_
    refine wp_ireturn dX8_plainSlotOf_64 rfl ?_
    exact hq
  | succ m ih =>
    intro i hi hq
    rw [fsR] at hq
    refine wp_iload_n (i := 2) dX8_plainSlotOf_36 rfl rfl ?_
    refine wp_aload_n (i := 0) dX8_plainSlotOf_37 rfl rfl ?_
    refine wp_get 10 3 (vr (some q)) dX8_plainSlotOf_38 hO.k0 (by decide) (by decide) fl_X8_22 (congrArg (fun z => toV (vr z)) (hO.o_pk.trans hp)) ?_
    refine wp_alen dX8_plainSlotOf_41 (arTy_101 hP.1) ?_
    rw [hP.2.1]
    refine wp_icmp_geN 63 dX8_plainSlotOf_42 (by decide) (by omega) (by omega) (fun c_42 => absurd c_42 (by omega)) (fun c_42 => ?_)
    refine wp_aload_n (i := 0) dX8_plainSlotOf_45 rfl rfl ?_
    refine wp_get 10 3 (vr (some q)) dX8_plainSlotOf_46 hO.k0 (by decide) (by decide) fl_X8_22 (congrArg (fun z => toV (vr z)) (hO.o_pk.trans hp)) ?_
    refine wp_iload_n (i := 2) dX8_plainSlotOf_49 rfl rfl ?_
    refine wp_ialoadN n (f i) dX8_plainSlotOf_50 hP.1 hP.2.1 (by omega) (by omega) (hP.2.2 i (by omega)) ?_
    refine wp_iload_n (i := 1) dX8_plainSlotOf_51 rfl rfl ?_
    refine wp_icmp_ne 57 dX8_plainSlotOf_52 (by decide) (fun c_52 => ?_) (fun c_52 => ?_)
    · skip
      refine wp_iincN (a := i) (lv' := [(2, vi (nI (i + 1))), (0, vr (some (nm 42 v))), (1, vi u)]) 1 dX8_plainSlotOf_57 rfl (by decide) (by decide) rfl ?_
      refine wp_goto 36 dX8_plainSlotOf_60 (by decide) ?_
      refine wp_sub [(2, vi (nI (i + 1))), (0, vr (some (nm 42 v))), (1, vi u)] (sb_cons (.head _) (sb_cons (.tail _ (.head _)) (sb_cons (.tail _ (.tail _ (.head _))) sb_nil))) ?_
      rw [if_neg c_52] at hq
      exact ih (i + 1) (by omega) hq
    · skip
      refine wp_iload_n (i := 2) dX8_plainSlotOf_55 rfl rfl ?_
      refine wp_ireturn dX8_plainSlotOf_56 rfl ?_
      rw [if_pos c_52] at hq
      exact hq
set_option maxRecDepth 100000 in
set_option maxHeartbeats 4000000 in
theorem c_X8_slotM {G : GG} {d bc bs : Nat} {h : Hp} {Q : Pst} {v : Nat} {x : KUS} (hO : KU h v x) {u : Int32} {q n : Nat} {f : Nat → Int32} (hp : KU_pk x = some q) (hP : PRr h q n f) (hn : n ≤ 64) (hq : Q (oRet (vi (fsR f u n 0))) h) : WP G m_X8_plainSlotOf d 0 (aargs 0 [vr (some (nm 42 v)), vi u]) [] h bc bs Q := by
  refine wp_sub [(0, vr (some (nm 42 v))), (1, vi u)] (fun _ hz => hz) ?_
  refine wp_aload_n (i := 0) dX8_plainSlotOf_0 rfl rfl ?_
  refine wp_get 10 3 (vr (some q)) dX8_plainSlotOf_1 hO.k0 (by decide) (by decide) fl_X8_22 (congrArg (fun z => toV (vr z)) (hO.o_pk.trans hp)) ?_
  refine wp_ifnonnull 34 dX8_plainSlotOf_4 (by decide) (fun a_4 c_4 => ?_) (fun c_4 => absurd c_4 (fun z => nomatch z))
  refine wp_iconst (nI 0) dX8_plainSlotOf_34 (by decide) ?_
  refine wp_istore_n (i := 2) (lv' := [(2, vi (nI 0)), (0, vr (some (nm 42 v))), (1, vi u)]) dX8_plainSlotOf_35 rfl (by decide) rfl ?_
  refine wp_sub [(2, vi (nI 0)), (0, vr (some (nm 42 v))), (1, vi u)] (sb_cons (.head _) (sb_cons (.tail _ (.head _)) (sb_cons (.tail _ (.tail _ (.head _))) sb_nil))) ?_
  exact l_X8_slotM hO hp hP hn n 0 (by omega) hq
set_option maxRecDepth 100000 in
set_option maxHeartbeats 4000000 in
theorem c_X8_putPlain {G : GG} {d bc bs : Nat} {h : Hp} {Q : Pst} {v : Nat} {x : KUS} (hO : KU h v x) {q n j : Nat} {e : Int32} (hp : KU_pe x = some q) (hP1 : h_k h q = 101) (hP2 : h_n h q = n) (hn : n ≤ 64) (hj : j < n) (hq : Q oVoid (wI h q j e)) : WP G m_X8_putPlain d 0 (aargs 0 [vr (some (nm 42 v)), vi (nI j), vi e]) [] h bc bs Q := by
  refine wp_sub [(0, vr (some (nm 42 v))), (1, vi (nI j)), (2, vi e)] (fun _ hz => hz) ?_
  refine wp_iload_n (i := 1) dX8_putPlain_0 rfl rfl ?_
  refine wp_if_ltN 20 dX8_putPlain_1 (by decide) (by omega) (fun c_1 => absurd c_1 (id)) (fun c_1 => ?_)
  refine wp_iload_n (i := 1) dX8_putPlain_4 rfl rfl ?_
  refine wp_aload_n (i := 0) dX8_putPlain_5 rfl rfl ?_
  refine wp_get 10 4 (vr (some q)) dX8_putPlain_6 hO.k0 (by decide) (by decide) fl_X8_26 (congrArg (fun z => toV (vr z)) (hO.o_pe.trans hp)) ?_
  refine wp_alen dX8_putPlain_9 (arTy_101 hP1) ?_
  rw [hP2]
  refine wp_icmp_geN 20 dX8_putPlain_10 (by decide) (by omega) (by omega) (fun c_10 => absurd c_10 (by omega)) (fun c_10 => ?_)
  refine wp_aload_n (i := 0) dX8_putPlain_13 rfl rfl ?_
  refine wp_get 10 4 (vr (some q)) dX8_putPlain_14 hO.k0 (by decide) (by decide) fl_X8_26 (congrArg (fun z => toV (vr z)) (hO.o_pe.trans hp)) ?_
  refine wp_iload_n (i := 1) dX8_putPlain_17 rfl rfl ?_
  refine wp_iload_n (i := 2) dX8_putPlain_18 rfl rfl ?_
  refine wp_iastoreN n dX8_putPlain_19 hP1 hP2 (by omega) (by omega) ?_
  refine wp_return dX8_putPlain_20 rfl ?_
  exact hq
set_option maxRecDepth 100000 in
set_option maxHeartbeats 4000000 in
theorem c_X8_putPlainPair {G : GG} {d bc bs : Nat} {h : Hp} {Q : Pst} {v : Nat} {x : KUS} (hO : KU h v x) {q q2 n j : Nat} {ky e : Int32} (hp : KU_pe x = some q) (hP1 : h_k h q = 101) (hP2 : h_n h q = n) (hp2 : KU_pk x = some q2) (hP3 : h_k h q2 = 101) (hP4 : h_n h q2 = n) (hqv : nm 42 v ≠ q) (hn : n ≤ 64) (hj : j < n) (hd : 1 ≤ d) (hq : Q oVoid (wI (wI h q j e) q2 j ky)) : WP G m_X8_putPlainPair d 0 (aargs 0 [vr (some (nm 42 v)), vi (nI j), vi ky, vi e]) [] h bc bs Q := by
  refine wp_sub [(0, vr (some (nm 42 v))), (1, vi (nI j)), (2, vi ky), (3, vi e)] (fun _ hz => hz) ?_
  refine wp_aload_n (i := 0) dX8_putPlainPair_0 rfl rfl ?_
  refine wp_iload_n (i := 1) dX8_putPlainPair_1 rfl rfl ?_
  refine wp_iload_n (i := 3) dX8_putPlainPair_2 rfl rfl ?_
  refine wp_cV (y' := m_X8_putPlain) 10 [vi (nI j), vi e] [] 0 0 dX8_putPlainPair_3 ml_X8_29 im_X8_putPlain se_X8_putPlain (by decide) hO.k0 ok_X8_putPlain rfl (Nat.le_of_ble_eq_true rfl) rfl (Nat.le_of_ble_eq_true rfl) (d' := d - 1) (by omega) (Nat.zero_le _) (Nat.zero_le _) (c_X8_putPlain hO hp hP1 hP2 hn hj (cont_void ?_))
  have hO2 : KU (wI h q j e) v x := hO.frm (ce_wI hqv)
  refine wp_iload_n (i := 1) dX8_putPlainPair_6 rfl rfl ?_
  refine wp_if_ltN 33 dX8_putPlainPair_7 (by decide) (by omega) (fun c_7 => absurd c_7 (id)) (fun c_7 => ?_)
  refine wp_aload_n (i := 0) dX8_putPlainPair_10 rfl rfl ?_
  refine wp_get 10 3 (vr (some q2)) dX8_putPlainPair_11 hO2.k0 (by decide) (by decide) fl_X8_22 (congrArg (fun z => toV (vr z)) (hO2.o_pk.trans hp2)) ?_
  refine wp_ifnull 33 dX8_putPlainPair_14 (by decide) (fun c_14 => absurd c_14 (fun z => nomatch z)) (fun a_14 c_14 => ?_)
  refine wp_iload_n (i := 1) dX8_putPlainPair_17 rfl rfl ?_
  refine wp_aload_n (i := 0) dX8_putPlainPair_18 rfl rfl ?_
  refine wp_get 10 3 (vr (some q2)) dX8_putPlainPair_19 hO2.k0 (by decide) (by decide) fl_X8_22 (congrArg (fun z => toV (vr z)) (hO2.o_pk.trans hp2)) ?_
  refine wp_alen dX8_putPlainPair_22 (arTy_101 hP3) ?_
  rw [hP4]
  refine wp_icmp_geN 33 dX8_putPlainPair_23 (by decide) (by omega) (by omega) (fun c_23 => absurd c_23 (by omega)) (fun c_23 => ?_)
  refine wp_aload_n (i := 0) dX8_putPlainPair_26 rfl rfl ?_
  refine wp_get 10 3 (vr (some q2)) dX8_putPlainPair_27 hO2.k0 (by decide) (by decide) fl_X8_22 (congrArg (fun z => toV (vr z)) (hO2.o_pk.trans hp2)) ?_
  refine wp_iload_n (i := 1) dX8_putPlainPair_30 rfl rfl ?_
  refine wp_iload_n (i := 2) dX8_putPlainPair_31 rfl rfl ?_
  refine wp_iastoreN n dX8_putPlainPair_32 hP3 hP4 (by omega) (by omega) ?_
  refine wp_return dX8_putPlainPair_33 rfl ?_
  exact hq
set_option maxRecDepth 100000 in
set_option maxHeartbeats 4000000 in
theorem c_X8_spend {G : GG} {d bc bs : Nat} {h : Hp} {Q : Pst} {v : Nat} {x : KUS} (hO : KU h v x) (hq : ∀ h', KU h' v (3, none, 0, KU_pk x, KU_pe x) → Fr h h' (fun a => a = nm 42 v) → Q oVoid h') : WP G m_X8_spend d 0 (aargs 0 [vr (some (nm 42 v))]) [] h bc bs Q := by
  refine wp_sub [(0, vr (some (nm 42 v)))] (fun _ hz => hz) ?_
  refine wp_aload_n (i := 0) dX8_spend_0 rfl rfl ?_
  refine wp_iconst (nI 3) dX8_spend_1 (by decide) ?_
  refine wp_putI 10 0 dX8_spend_2 hO.k0 (by decide) (by decide) (by decide) fl_X8_9 rfl (fun _ _ => rfl) rfl rfl ?_
  refine wp_aload_n (i := 0) dX8_spend_5 rfl rfl ?_
  refine wp_null dX8_spend_6 ?_
  refine wp_putR 10 1 dX8_spend_7 hO.k0 (by decide) (by decide) (by decide) fl_X8_15 rfl (fun _ _ => rfl) rfl ?_
  refine wp_aload_n (i := 0) dX8_spend_10 rfl rfl ?_
  refine wp_iconst (nI 0) dX8_spend_11 (by decide) ?_
  refine wp_putI 10 2 dX8_spend_12 hO.k0 (by decide) (by decide) (by decide) fl_X8_19 rfl (fun _ _ => rfl) rfl rfl ?_
  refine wp_return dX8_spend_15 rfl ?_
  exact hq _ ⟨by first | (simp [gI_wI, gI_wR, gI_mk, gR_wI, gR_wR, gR_mk, gk_wI, gk_wR, gk_mk, gn_wI, gn_wR, gn_mk, nm_eq, nm_i, hO.k0]; done) | (simp [gI_wI, gI_wR, gI_mk, gR_wI, gR_wR, gR_mk, gk_wI, gk_wR, gk_mk, gn_wI, gn_wR, gn_mk, nm_eq, nm_i]; exact hO.o_pk) | (simp [gI_wI, gI_wR, gI_mk, gR_wI, gR_wR, gR_mk, gk_wI, gk_wR, gk_mk, gn_wI, gn_wR, gn_mk, nm_eq, nm_i]; exact hO.o_pe) | (simp [gI_wI, gI_wR, gI_mk, gR_wI, gR_wR, gR_mk, gk_wI, gk_wR, gk_mk, gn_wI, gn_wR, gn_mk, nm_eq, nm_i]; rfl), by first | (simp [gI_wI, gI_wR, gI_mk, gR_wI, gR_wR, gR_mk, gk_wI, gk_wR, gk_mk, gn_wI, gn_wR, gn_mk, nm_eq, nm_i, hO.k0]; done) | (simp [gI_wI, gI_wR, gI_mk, gR_wI, gR_wR, gR_mk, gk_wI, gk_wR, gk_mk, gn_wI, gn_wR, gn_mk, nm_eq, nm_i]; exact hO.o_pk) | (simp [gI_wI, gI_wR, gI_mk, gR_wI, gR_wR, gR_mk, gk_wI, gk_wR, gk_mk, gn_wI, gn_wR, gn_mk, nm_eq, nm_i]; exact hO.o_pe) | (simp [gI_wI, gI_wR, gI_mk, gR_wI, gR_wR, gR_mk, gk_wI, gk_wR, gk_mk, gn_wI, gn_wR, gn_mk, nm_eq, nm_i]; rfl), by first | (simp [gI_wI, gI_wR, gI_mk, gR_wI, gR_wR, gR_mk, gk_wI, gk_wR, gk_mk, gn_wI, gn_wR, gn_mk, nm_eq, nm_i, hO.k0]; done) | (simp [gI_wI, gI_wR, gI_mk, gR_wI, gR_wR, gR_mk, gk_wI, gk_wR, gk_mk, gn_wI, gn_wR, gn_mk, nm_eq, nm_i]; exact hO.o_pk) | (simp [gI_wI, gI_wR, gI_mk, gR_wI, gR_wR, gR_mk, gk_wI, gk_wR, gk_mk, gn_wI, gn_wR, gn_mk, nm_eq, nm_i]; exact hO.o_pe) | (simp [gI_wI, gI_wR, gI_mk, gR_wI, gR_wR, gR_mk, gk_wI, gk_wR, gk_mk, gn_wI, gn_wR, gn_mk, nm_eq, nm_i]; rfl), by first | (simp [gI_wI, gI_wR, gI_mk, gR_wI, gR_wR, gR_mk, gk_wI, gk_wR, gk_mk, gn_wI, gn_wR, gn_mk, nm_eq, nm_i, hO.k0]; done) | (simp [gI_wI, gI_wR, gI_mk, gR_wI, gR_wR, gR_mk, gk_wI, gk_wR, gk_mk, gn_wI, gn_wR, gn_mk, nm_eq, nm_i]; exact hO.o_pk) | (simp [gI_wI, gI_wR, gI_mk, gR_wI, gR_wR, gR_mk, gk_wI, gk_wR, gk_mk, gn_wI, gn_wR, gn_mk, nm_eq, nm_i]; exact hO.o_pe) | (simp [gI_wI, gI_wR, gI_mk, gR_wI, gR_wR, gR_mk, gk_wI, gk_wR, gk_mk, gn_wI, gn_wR, gn_mk, nm_eq, nm_i]; rfl), by first | (simp [gI_wI, gI_wR, gI_mk, gR_wI, gR_wR, gR_mk, gk_wI, gk_wR, gk_mk, gn_wI, gn_wR, gn_mk, nm_eq, nm_i, hO.k0]; done) | (simp [gI_wI, gI_wR, gI_mk, gR_wI, gR_wR, gR_mk, gk_wI, gk_wR, gk_mk, gn_wI, gn_wR, gn_mk, nm_eq, nm_i]; exact hO.o_pk) | (simp [gI_wI, gI_wR, gI_mk, gR_wI, gR_wR, gR_mk, gk_wI, gk_wR, gk_mk, gn_wI, gn_wR, gn_mk, nm_eq, nm_i]; exact hO.o_pe) | (simp [gI_wI, gI_wR, gI_mk, gR_wI, gR_wR, gR_mk, gk_wI, gk_wR, gk_mk, gn_wI, gn_wR, gn_mk, nm_eq, nm_i]; rfl), by first | (simp [gI_wI, gI_wR, gI_mk, gR_wI, gR_wR, gR_mk, gk_wI, gk_wR, gk_mk, gn_wI, gn_wR, gn_mk, nm_eq, nm_i, hO.k0]; done) | (simp [gI_wI, gI_wR, gI_mk, gR_wI, gR_wR, gR_mk, gk_wI, gk_wR, gk_mk, gn_wI, gn_wR, gn_mk, nm_eq, nm_i]; exact hO.o_pk) | (simp [gI_wI, gI_wR, gI_mk, gR_wI, gR_wR, gR_mk, gk_wI, gk_wR, gk_mk, gn_wI, gn_wR, gn_mk, nm_eq, nm_i]; exact hO.o_pe) | (simp [gI_wI, gI_wR, gI_mk, gR_wI, gR_wR, gR_mk, gk_wI, gk_wR, gk_mk, gn_wI, gn_wR, gn_mk, nm_eq, nm_i]; rfl)⟩ (fun a ha => (ce_wI ha).trans ((ce_wR ha).trans (ce_wI ha)))
set_option maxRecDepth 100000 in
set_option maxHeartbeats 4000000 in
theorem c_X11_valueNumbered {G : GG} {d bc bs : Nat} {h : Hp} {Q : Pst} {n M : Nat} (hC : CVh h n M) (hn : n ≤ 60) {v : Int32} {t : Nat} (hv : ixB v n = true → v = nI t ∧ t < n) (hd : 6 ≤ d) (hbc : 1 ≤ bc) (hbs : 6 ≤ bs) (hqe : ixB v n = false → Q (oThr "java/lang/IndexOutOfBoundsException") h) (hq : ixB v n = true → v = nI t → t < n → Q (oRet (vr (some (nm 42 t)))) h) : WP G m_X11_valueNumbered d 0 (aargs 0 [vr (some (nm 40 0)), vi v]) [] h bc bs Q := by
  refine wp_sub [(0, vr (some (nm 40 0))), (1, vi v)] (fun _ hz => hz) ?_
  refine wp_iload_n (i := 1) dX11_valueNumbered_0 rfl rfl ?_
  refine wp_if_lt 12 dX11_valueNumbered_1 (by decide) (fun c_1 => ?_) (fun c_1 => ?_)
  · skip
    refine wp_null dX11_valueNumbered_12 ?_
    refine wp_goto 22 dX11_valueNumbered_13 (by decide) ?_
    refine wp_astore_n (i := 2) (lv' := [(2, vr none), (0, vr (some (nm 40 0))), (1, vi v)]) dX11_valueNumbered_22 rfl (by decide) rfl ?_
    refine wp_aload_n (i := 2) dX11_valueNumbered_23 rfl rfl ?_
    refine wp_ifnonnull 38 dX11_valueNumbered_24 (by decide) (fun a_24 c_24 => absurd c_24 (fun z => nomatch z)) (fun c_24 => ?_)
    refine wp_throw dX11_valueNumbered_27 dX11_valueNumbered_30 dX11_valueNumbered_31 dX11_valueNumbered_34 dX11_valueNumbered_37 th_434 sr_X11_500 rfl (by omega) (by omega) (by omega) ?_
    exact hqe (by first | exact ixB_a c_1 | exact ixB_b (by omega) c_9)
  · skip
    refine wp_iload_n (i := 1) dX11_valueNumbered_4 rfl rfl ?_
    refine wp_aload_n (i := 0) dX11_valueNumbered_5 rfl rfl ?_
    refine wp_get 12 1 (vi (nI n)) dX11_valueNumbered_6 hC.1.1 (by decide) (by decide) fl_X11_15 (congrArg (fun z => toV (vi z)) (hC.1.2.2.1)) ?_
    refine wp_icmp_lt 16 dX11_valueNumbered_9 (by decide) (fun c_9 => ?_) (fun c_9 => ?_)
    · have hb : ixB v n = true := ixB_c (by omega) c_1 c_9
      obtain ⟨ev, ht⟩ := hv hb
      subst ev
      refine wp_aload_n (i := 0) dX11_valueNumbered_16 rfl rfl ?_
      refine wp_get 12 0 (vr (some (nm 40 1))) dX11_valueNumbered_17 hC.1.1 (by decide) (by decide) fl_X11_11 (congrArg (fun z => toV (vr z)) (hC.1.2.1)) ?_
      refine wp_iload_n (i := 1) dX11_valueNumbered_20 rfl rfl ?_
      refine wp_aaloadN 60 (some (nm 42 t)) dX11_valueNumbered_21 (arTy_110 hC.2.1.1) hC.2.1.2 (by omega) (by decide) (hC.2.2 t ht) ?_
      refine wp_astore_n (i := 2) (lv' := [(2, vr (some (nm 42 t))), (0, vr (some (nm 40 0))), (1, vi (nI t))]) dX11_valueNumbered_22 rfl (by decide) rfl ?_
      refine wp_aload_n (i := 2) dX11_valueNumbered_23 rfl rfl ?_
      refine wp_ifnonnull 38 dX11_valueNumbered_24 (by decide) (fun a_24 c_24 => ?_) (fun c_24 => absurd c_24 (fun z => nomatch z))
      refine wp_aload_n (i := 2) dX11_valueNumbered_38 rfl rfl ?_
      refine wp_areturn dX11_valueNumbered_39 rfl (Or.inl ⟨_, rfl⟩) ?_
      exact hq hb rfl ht
    · skip
      refine wp_null dX11_valueNumbered_12 ?_
      refine wp_goto 22 dX11_valueNumbered_13 (by decide) ?_
      refine wp_astore_n (i := 2) (lv' := [(2, vr none), (0, vr (some (nm 40 0))), (1, vi v)]) dX11_valueNumbered_22 rfl (by decide) rfl ?_
      refine wp_aload_n (i := 2) dX11_valueNumbered_23 rfl rfl ?_
      refine wp_ifnonnull 38 dX11_valueNumbered_24 (by decide) (fun a_24 c_24 => absurd c_24 (fun z => nomatch z)) (fun c_24 => ?_)
      refine wp_throw dX11_valueNumbered_27 dX11_valueNumbered_30 dX11_valueNumbered_31 dX11_valueNumbered_34 dX11_valueNumbered_37 th_434 sr_X11_500 rfl (by omega) (by omega) (by omega) ?_
      exact hqe (by first | exact ixB_a c_1 | exact ixB_b (by omega) c_9)
set_option maxRecDepth 100000 in
set_option maxHeartbeats 4000000 in
theorem c_X11_refuseMoreValues {G : GG} {d bc bs : Nat} {h : Hp} {Q : Pst} {n M : Nat} (hC : CVh h n M) (hn : n ≤ 60) (hd : 6 ≤ d) (hbc : 1 ≤ bc) (hbs : 6 ≤ bs) (hqe : n = 60 → Q (oThr "java/lang/IllegalStateException") h) (hq : n < 60 → Q oVoid h) : WP G m_X11_refuseMoreValues d 0 (aargs 0 [vr (some (nm 40 0))]) [] h bc bs Q := by
  refine wp_sub [(0, vr (some (nm 40 0)))] (fun _ hz => hz) ?_
  refine wp_aload_n (i := 0) dX11_refuseMoreValues_0 rfl rfl ?_
  refine wp_get 12 1 (vi (nI n)) dX11_refuseMoreValues_1 hC.1.1 (by decide) (by decide) fl_X11_15 (congrArg (fun z => toV (vi z)) (hC.1.2.2.1)) ?_
  refine wp_bipush (nI 60) dX11_refuseMoreValues_4 (by decide) ?_
  refine wp_icmp_ltN 20 dX11_refuseMoreValues_6 (by decide) (by omega) (by decide) (fun c_6 => ?_) (fun c_6 => ?_)
  · skip
    refine wp_return dX11_refuseMoreValues_20 rfl ?_
    exact hq (by omega)
  · skip
    refine wp_throw dX11_refuseMoreValues_9 dX11_refuseMoreValues_12 dX11_refuseMoreValues_13 dX11_refuseMoreValues_16 dX11_refuseMoreValues_19 th_320 sr_X11_502 rfl (by omega) (by omega) (by omega) ?_
    exact hqe (by omega)
set_option maxRecDepth 100000 in
set_option maxHeartbeats 4000000 in
theorem c_X11_refuseElement {G : GG} {d bc bs : Nat} {h : Hp} {Q : Pst} {e : Int32} (hd : 6 ≤ d) (hbc : 1 ≤ bc) (hbs : 6 ≤ bs) (hqe : elB e = false → Q (oThr "java/lang/IllegalArgumentException") h) (hq : elB e = true → Q oVoid h) : WP G m_X11_refuseElement d 0 (aargs 0 [vi e]) [] h bc bs Q := by
  refine wp_sub [(0, vi e)] (fun _ hz => hz) ?_
  refine wp_iload_n (i := 0) dX11_refuseElement_0 rfl rfl ?_
  refine wp_sipush (-999) dX11_refuseElement_1 (by decide) ?_
  refine wp_sipush (nI 999) dX11_refuseElement_4 (by decide) ?_
  refine wp_cS (y' := m_X11_isWithin) [vi e, vi (-999), vi (nI 999)] [] 0 0 dX11_refuseElement_7 ml_X11_256 st_X11_isWithin ok_X11_isWithin rfl (Nat.le_of_ble_eq_true rfl) rfl (Nat.le_of_ble_eq_true rfl) (d' := d - 1) (by omega) (Nat.zero_le _) (Nat.zero_le _) (c_X11_isWithin e (-999) (nI 999) (cont_ret ?_))
  refine wp_if_neB 24 dX11_refuseElement_10 (by decide) (fun c_10 => ?_) (fun c_10 => ?_)
  · skip
    refine wp_return dX11_refuseElement_24 rfl ?_
    exact hq c_10
  · skip
    refine wp_throw dX11_refuseElement_13 dX11_refuseElement_16 dX11_refuseElement_17 dX11_refuseElement_20 dX11_refuseElement_23 th_189 sr_X11_504 rfl (by omega) (by omega) (by omega) ?_
    exact hqe c_10
set_option maxRecDepth 100000 in
set_option maxHeartbeats 4000000 in
theorem c_X11_refuseUnless {G : GG} {d bc bs : Nat} {h : Hp} {Q : Pst} {v : Nat} {x : KUS} (hO : KU h v x) {k : Nat} (hk4 : KU_kd x < 4) (hk : k < 4) (hd : 6 ≤ d) (hbc : 1 ≤ bc) (hbs : 6 ≤ bs) (hqe : KU_kd x ≠ k → Q (oThr "java/lang/UnsupportedOperationException") h) (hq : KU_kd x = k → Q oVoid h) : WP G m_X11_refuseUnless d 0 (aargs 0 [vr (some (nm 42 v)), vi (nI k)]) [] h bc bs Q := by
  refine wp_sub [(0, vr (some (nm 42 v))), (1, vi (nI k))] (fun _ hz => hz) ?_
  refine wp_aload_n (i := 0) dX11_refuseUnless_0 rfl rfl ?_
  refine wp_get 10 0 (vi (nI (KU_kd x))) dX11_refuseUnless_1 hO.k0 (by decide) (by decide) fl_X11_179 (congrArg (fun z => toV (vi z)) (hO.f_kd)) ?_
  refine wp_iload_n (i := 1) dX11_refuseUnless_4 rfl rfl ?_
  refine wp_icmp_eqN 19 dX11_refuseUnless_5 (by decide) (by omega) (by omega) (fun c_5 => ?_) (fun c_5 => ?_)
  · skip
    refine wp_return dX11_refuseUnless_19 rfl ?_
    exact hq c_5
  · skip
    refine wp_throw dX11_refuseUnless_8 dX11_refuseUnless_11 dX11_refuseUnless_12 dX11_refuseUnless_15 dX11_refuseUnless_18 th_152 sr_X11_506 rfl (by omega) (by omega) (by omega) ?_
    exact hqe c_5
set_option maxRecDepth 100000 in
set_option maxHeartbeats 4000000 in
theorem c_X11_refuseFull {G : GG} {d bc bs : Nat} {h : Hp} {Q : Pst} {v : Nat} {x : KUS} (hO : KU h v x) (hk4 : KU_sz x ≤ 64) (hd : 6 ≤ d) (hbc : 1 ≤ bc) (hbs : 6 ≤ bs) (hqe : 64 ≤ KU_sz x → Q (oThr "java/lang/UnsupportedOperationException") h) (hq : KU_sz x < 64 → Q oVoid h) : WP G m_X11_refuseFull d 0 (aargs 0 [vr (some (nm 42 v))]) [] h bc bs Q := by
  refine wp_sub [(0, vr (some (nm 42 v)))] (fun _ hz => hz) ?_
  refine wp_aload_n (i := 0) dX11_refuseFull_0 rfl rfl ?_
  refine wp_get 10 2 (vi (nI (KU_sz x))) dX11_refuseFull_1 hO.k0 (by decide) (by decide) fl_X11_103 (congrArg (fun z => toV (vi z)) (hO.f_sz)) ?_
  refine wp_bipush (nI 64) dX11_refuseFull_4 (by decide) ?_
  refine wp_icmp_ltN 20 dX11_refuseFull_6 (by decide) (by omega) (by decide) (fun c_6 => ?_) (fun c_6 => ?_)
  · skip
    refine wp_return dX11_refuseFull_20 rfl ?_
    exact hq c_6
  · skip
    refine wp_throw dX11_refuseFull_9 dX11_refuseFull_12 dX11_refuseFull_13 dX11_refuseFull_16 dX11_refuseFull_19 th_152 sr_X11_508 rfl (by omega) (by omega) (by omega) ?_
    exact hqe c_6
set_option maxRecDepth 100000 in
set_option maxHeartbeats 4000000 in
theorem c_X11_refusePlace {G : GG} {d bc bs : Nat} {h : Hp} {Q : Pst} {v : Nat} {x : KUS} (hO : KU h v x) {u : Int32} (hk4 : KU_sz x ≤ 64) (hd : 6 ≤ d) (hbc : 1 ≤ bc) (hbs : 6 ≤ bs) (hqe : ixB u (KU_sz x) = false → Q (oThr "java/util/NoSuchElementException") h) (hq : ixB u (KU_sz x) = true → Q oVoid h) : WP G m_X11_refusePlace d 0 (aargs 0 [vr (some (nm 42 v)), vi u]) [] h bc bs Q := by
  refine wp_sub [(0, vr (some (nm 42 v))), (1, vi u)] (fun _ hz => hz) ?_
  refine wp_iload_n (i := 1) dX11_refusePlace_0 rfl rfl ?_
  refine wp_if_lt 12 dX11_refusePlace_1 (by decide) (fun c_1 => ?_) (fun c_1 => ?_)
  · skip
    refine wp_throwN dX11_refusePlace_12 dX11_refusePlace_15 dX11_refusePlace_16 dX11_refusePlace_19 dX11_refusePlace_22 rfl sr_X11_510 rfl (by omega) (by omega) (by omega) ?_
    exact hqe (by first | exact ixB_a c_1 | exact ixB_b (by omega) c_9)
  · skip
    refine wp_iload_n (i := 1) dX11_refusePlace_4 rfl rfl ?_
    refine wp_aload_n (i := 0) dX11_refusePlace_5 rfl rfl ?_
    refine wp_get 10 2 (vi (nI (KU_sz x))) dX11_refusePlace_6 hO.k0 (by decide) (by decide) fl_X11_103 (congrArg (fun z => toV (vi z)) (hO.f_sz)) ?_
    refine wp_icmp_lt 23 dX11_refusePlace_9 (by decide) (fun c_9 => ?_) (fun c_9 => ?_)
    · skip
      refine wp_return dX11_refusePlace_23 rfl ?_
      exact hq (ixB_c (by omega) c_1 c_9)
    · skip
      refine wp_throwN dX11_refusePlace_12 dX11_refusePlace_15 dX11_refusePlace_16 dX11_refusePlace_19 dX11_refusePlace_22 rfl sr_X11_510 rfl (by omega) (by omega) (by omega) ?_
      exact hqe (by first | exact ixB_a c_1 | exact ixB_b (by omega) c_9)
