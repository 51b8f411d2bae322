/-! The model: realising up to a place; at, all, realised, chunks. -/
def WSQ (a : Nat) : Prop := a % 128 = 2 ∨ a % 128 = 3 ∨ a % 128 = 22 ∨ a % 128 = 26 ∨ a % 128 = 30 ∨ a % 128 = 31 ∨ a = nm 1 0 ∨ a = nm 1 11 ∨ a = nm 1 12
/-- what calls about sequences may change -/
def FRS (h h' : Hp) : Prop := (∀ a, ¬ WSQ a → ce h' a = ce h a) ∧ (∀ k, h_k h (nm 22 k) ≠ 0 → ce h' (nm 22 k) = ce h (nm 22 k)) ∧ (h_k h' (nm 1 0) = h_k h (nm 1 0) ∧ h_n h' (nm 1 0) = h_n h (nm 1 0) ∧ h_R h' (nm 1 0) = h_R h (nm 1 0) ∧ h_L h' (nm 1 0) = h_L h (nm 1 0) ∧ h_F h' (nm 1 0) = h_F h (nm 1 0)) ∧ ∀ j, j ≠ 0 → h_I h' (nm 1 0) j = h_I h (nm 1 0) j
theorem FRS.rf {h : Hp} : FRS h h := ⟨fun _ _ => rfl, fun _ _ => rfl, ⟨rfl, rfl, rfl, rfl, rfl⟩, fun _ _ => rfl⟩
theorem FRS.tr {h h1 h2 : Hp} (a : FRS h h1) (b : FRS h1 h2) : FRS h h2 :=
  ⟨fun x hx => (b.1 x hx).trans (a.1 x hx), fun k hk => (b.2.1 k (by rw [ce_k (a.2.1 k hk)]; exact hk)).trans (a.2.1 k hk), ⟨b.2.2.1.1.trans a.2.2.1.1, b.2.2.1.2.1.trans a.2.2.1.2.1, b.2.2.1.2.2.1.trans a.2.2.1.2.2.1, b.2.2.1.2.2.2.1.trans a.2.2.1.2.2.2.1, b.2.2.1.2.2.2.2.trans a.2.2.1.2.2.2.2⟩, fun j h1 => (b.2.2.2 j h1).trans (a.2.2.2 j h1)⟩
theorem FRS.w0 {h : Hp} {v : Int32} : FRS h (wI h (nm 1 0) 0 v) :=
  ⟨fun a ha => ce_wI (fun e => ha (by rw [e]; unfold WSQ; omega)), fun j _ => ce_wI (nm_ne (by decide) (by decide) (by decide)), ⟨rfl, rfl, rfl, rfl, rfl⟩, fun j h1 => by rw [gI_wI, if_neg (fun z => h1 z.2)]⟩
theorem FRS.of {h h' : Hp} (h0 : ce h' (nm 1 0) = ce h (nm 1 0)) (ha : ∀ a, ¬ WSQ a → ce h' a = ce h a) (hb : ∀ k, h_k h (nm 22 k) ≠ 0 → ce h' (nm 22 k) = ce h (nm 22 k)) : FRS h h' :=
  ⟨ha, hb, ⟨ce_k h0, ce_n h0, ce_R h0, ce_L h0, ce_F h0⟩, fun j _ => by rw [ce_I h0]⟩
theorem FRS.q {h h' : Hp} (H : FRQ h h') : FRS h h' := FRS.of (H.1 _ (by unfold WQQ nm; omega)) (fun a ha => H.1 a (fun z => ha (by unfold WQQ at z; unfold WSQ; omega))) H.2
theorem FRS.k12 {h h' : Hp} (H : ∀ b, b ≠ nm 1 12 → ce h' b = ce h b) : FRS h h' := FRS.of (H _ (nm_nei (by decide))) (fun a ha => H a (fun e => ha (by rw [e]; unfold WSQ; omega))) (fun k _ => H _ (nm_ne (by decide) (by decide) (by decide)))
theorem FRQ.th {h h' : Hp} (H : FRQ h h') : h_I h' (nm 1 0) 0 = h_I h (nm 1 0) 0 := by rw [ce_I (H.1 _ (by unfold WQQ nm; omega))]
theorem k12_th {h h' : Hp} (H : ∀ b, b ≠ nm 1 12 → ce h' b = ce h b) : h_I h' (nm 1 0) 0 = h_I h (nm 1 0) 0 := by rw [ce_I (H _ (nm_nei (by decide)))]
theorem PO2.k12 {h h' : Hp} (P : PO2 h) (H : ∀ b, b ≠ nm 1 12 → ce h' b = ce h b) : PO2 h' :=
  ⟨P.1.elim fun K z => ⟨K, z.fr (fun _ _ => H _ (nm_ne (by decide) (by decide) (by decide)))⟩, P.2.elim fun K z => ⟨K, z.fr (fun _ _ => H _ (nm_ne (by decide) (by decide) (by decide)))⟩⟩
abbrev rcx (x : Nat → QIS) : Nat → Nat := fun j => q_rc (x j)
/-- sequences as they are between two calls -/
def QX (n : Nat) (x : Nat → QIS) : Prop := QOK n x ∧ QV n x (rcx x) ∧ ∀ s, s < n → cp (q_rc (x s)) ≤ q_cp (x s)
theorem QX.st {h : Hp} {n : Nat} {x : Nat → QIS} (H : QX n x) (hM : MSQ h n x) : MSQ h n (setR x (rcx x)) :=
  hM.eq (fun s hs => by unfold setR capR; rw [Nat.max_eq_left (H.2.2 s hs)])
/-- what an operation on sequences answers -/
def QO (Q : Pst) (h : Hp) (o : Int32 × Int32 × Nat × (Nat → QIS)) : Prop := ∀ h', FRS h h' → h_I h' (nm 1 0) 0 = o.1 → MSQ h' o.2.2.1 o.2.2.2 → PO2 h' → Q (oRet (vi o.2.1)) h'
def atR (x : Nat → QIS) (s : Nat) (v : Int32) (p : Nat) : Nat → Nat := if v < 0 ∨ tot (q_F (x s)) ≤ p then enR x s (rcx x) else rs0 x (s + 1) s (cf (q_F (x s)) p) (rcx x)
def o_at (n : Nat) (x : Nat → QIS) (u : Int32) (s : Nat) (v : Int32) (p : Nat) : Int32 × Int32 × Nat × (Nat → QIS) :=
  if (!ixB u n) = true then (nI 1, nI 0, n, x) else if v < 0 ∨ tot (q_F (x s)) ≤ p then (if q_B (x s) = true then nI 2 else nI 3, nI 0, n, gst x (rcx x) (capR x (enR x s (rcx x))))
  else (nI 0, atF (q_F (x s)) p, n, setR x (rs0 x (s + 1) s (cf (q_F (x s)) p) (rcx x)))
def o_all (n : Nat) (x : Nat → QIS) (u : Int32) (s : Nat) : Int32 × Int32 × Nat × (Nat → QIS) :=
  if (!ixB u n) = true then (nI 1, nI 0, n, x) else if q_B (x s) = true then (nI 2, nI 0, n, gst x (rcx x) (capR x (enR x s (rcx x))))
  else (nI 0, nI (tot (q_F (x s))), n, setR x (enR x s (rcx x)))
def o_realised (n : Nat) (x : Nat → QIS) (u : Int32) (s : Nat) : Int32 × Int32 × Nat × (Nat → QIS) :=
  if (!ixB u n) = true then (nI 1, nI 0, n, x) else (nI 0, nI (pre (q_F (x s)) (q_rc (x s))), n, x)
def o_chunks (n : Nat) (x : Nat → QIS) (u : Int32) (s : Nat) : Int32 × Int32 × Nat × (Nat → QIS) :=
  if (!ixB u n) = true then (nI 1, nI 0, n, x) else (nI 0, nI (q_rc (x s)), n, x)
set_option maxRecDepth 100000 in
set_option maxHeartbeats 4000000 in
theorem l_X16_toN {G : GG} {d : Nat} {Q : Pst} {h0 : Hp} {n s : Nat} {v : Int32} {x : Nat → QIS} (hX : QOK n x) (hs : s < n) (hv : v < 0) (IH : RZ G x n s) (hd : 3 * s + 16 ≤ d) (E : Nat → Nat) (kB : ∀ H, MSQ H n (setR x E) → PO2 H → FRQ h0 H → Q (oRet (vi (enA x s))) H) : ∀ m r H bc bs, (q_F (x s)).length - r s = m → MSQ H n (setR x r) → QV n x r → PO2 H → FRQ h0 H → enR x s r = E → PC n x E + s + 2 ≤ bc + PC n x r + 1 → PS n x E + 4 * (s + 2) ≤ bs + PS n x r + 4 → WP G m_X16_realiseTo d 2 [(3, vi (nI 1)), (0, vr (some (nm 1 0))), (1, vr (some (nm 2 s))), (2, vi v)] [] H bc bs Q := by
  intro m
  induction m using Nat.strongRecOn with
  | _ m ih =>
    intro r H bc bs hm hM hV hP hG hB hbc hbs
    have hl := (hV s hs).1
    have hE : PC n x r ≤ PC n x E ∧ PS n x r ≤ PS n x E := by rw [← hB]; exact ⟨PC_mono (fun j _ => enR_ge hX.1 hs j), PS_mono (fun j _ => enR_ge hX.1 hs j)⟩
    refine wp_iload_n (i := 3) dX16_realiseTo_2 rfl rfl ?_
    refine wp_iconst (nI 1) dX16_realiseTo_3 (by decide) ?_
    refine wp_icmp_neN 28 dX16_realiseTo_4 (by decide) (by decide) (by decide) (fun c_4 => absurd c_4 (by decide)) (fun c_4 => ?_)
    refine wp_iload_n (i := 2) dX16_realiseTo_7 rfl rfl ?_
    refine wp_if_lt 19 dX16_realiseTo_8 (by decide) (fun c_8 => ?_) (fun c_8 => absurd c_8 (fun z => z hv))
    by_cases hlt : r s < (q_F (x s)).length
    · have hz := rz_pc hX hs hlt
      have hzE := (rz_1 hlt).2.2
      have hrk : rzR x s r s = r s + 1 := by rw [(rz_1 hlt).1, rs0_at hX.1 hs]; omega
      have hB2 : enR x s (rzR x s r) = E := by rw [(rz_1 hlt).1, enR_ab hX.1 hs (by omega)]; exact hB
      have hE2 : PC n x (rzR x s r) ≤ PC n x E ∧ PS n x (rzR x s r) ≤ PS n x E := by rw [← hB2]; exact ⟨PC_mono (fun j _ => enR_ge hX.1 hs j), PS_mono (fun j _ => enR_ge hX.1 hs j)⟩
      refine wp_aload_n (i := 0) dX16_realiseTo_19 rfl rfl ?_
      refine wp_aload_n (i := 1) dX16_realiseTo_20 rfl rfl ?_
      refine wp_cV (y' := m_X16_realise) 17 [vr (some (nm 2 s))] [] ((PC n x (rzR x s r) + rzE x s r - PC n x r - 1)) ((PS n x (rzR x s r) + 4 * rzE x s r - PS n x r - 4)) dX16_realiseTo_21 ml_X16_214 im_X16_realise se_X16_realise (by decide) hM.1.1 ok_X16_realise rfl (Nat.le_of_ble_eq_true rfl) rfl (Nat.le_of_ble_eq_true rfl) (d' := d - 1) (by omega) (by omega) (by omega) (IH (d - 1) (PC n x (rzR x s r) + rzE x s r - PC n x r - 1) (PS n x (rzR x s r) + 4 * rzE x s r - PS n x r - 4) _ H r hM hV hP (by omega) (by omega) (by omega) (fun H2 hM2 hP2 hG2 => cont_ret ?_))
      rw [(rz_1 hlt).2.1]
      refine wp_istore_n (i := 3) (lv' := [(3, vi (nI 1)), (0, vr (some (nm 1 0))), (1, vr (some (nm 2 s))), (2, vi v)]) dX16_realiseTo_24 rfl (by decide) rfl ?_
      refine wp_goto 2 dX16_realiseTo_25 (by decide) ?_
      refine wp_sub [(3, vi (nI 1)), (0, vr (some (nm 1 0))), (1, vr (some (nm 2 s))), (2, vi v)] (sb_cons (.head _) (sb_cons (.tail _ (.head _)) (sb_cons (.tail _ (.tail _ (.head _))) (sb_cons (.tail _ (.tail _ (.tail _ (.head _)))) sb_nil)))) ?_
      exact ih ((q_F (x s)).length - rzR x s r s) (by omega) (rzR x s r) H2 _ _ rfl hM2 (rz_V hX.1 hs hV hlt) hP2 (hG.tr hG2) hB2 (by omega) (by omega)
    · have hzE := (rz_0 hlt).2.2
      have hzR : rzR x s r = E := (rz_0 hlt).1.trans hB
      have hzP : PC n x (rzR x s r) = PC n x E ∧ PS n x (rzR x s r) = PS n x E := by rw [hzR]; exact ⟨rfl, rfl⟩
      refine wp_aload_n (i := 0) dX16_realiseTo_19 rfl rfl ?_
      refine wp_aload_n (i := 1) dX16_realiseTo_20 rfl rfl ?_
      refine wp_cV (y' := m_X16_realise) 17 [vr (some (nm 2 s))] [] ((PC n x (rzR x s r) + rzE x s r - PC n x r - 1)) ((PS n x (rzR x s r) + 4 * rzE x s r - PS n x r - 4)) dX16_realiseTo_21 ml_X16_214 im_X16_realise se_X16_realise (by decide) hM.1.1 ok_X16_realise rfl (Nat.le_of_ble_eq_true rfl) rfl (Nat.le_of_ble_eq_true rfl) (d' := d - 1) (by omega) (by omega) (by omega) (IH (d - 1) (PC n x (rzR x s r) + rzE x s r - PC n x r - 1) (PS n x (rzR x s r) + 4 * rzE x s r - PS n x r - 4) _ H r hM hV hP (by omega) (by omega) (by omega) (fun H2 hM2 hP2 hG2 => cont_ret ?_))
      rw [(rz_0 hlt).2.1]
      refine wp_topi (fun x_24 e_24 => ?_)
      refine wp_istore_n (i := 3) (lv' := [(3, vi x_24), (0, vr (some (nm 1 0))), (1, vr (some (nm 2 s))), (2, vi v)]) dX16_realiseTo_24 rfl (by decide) rfl ?_
      refine wp_goto 2 dX16_realiseTo_25 (by decide) ?_
      refine wp_iload_n (i := 3) dX16_realiseTo_2 rfl rfl ?_
      refine wp_iconst (nI 1) dX16_realiseTo_3 (by decide) ?_
      refine wp_icmp_ne 28 dX16_realiseTo_4 (by decide) (fun c_4 => ?_) (fun c_4 => absurd c_4 (by rw [e_24]; exact enA_n))
      refine wp_iload_n (i := 3) dX16_realiseTo_28 rfl rfl ?_
      refine wp_ireturn dX16_realiseTo_29 rfl ?_
      rw [e_24]
      exact kB _ (by rw [← hzR]; exact hM2) hP2 (hG.tr hG2)
set_option maxRecDepth 100000 in
set_option maxHeartbeats 4000000 in
theorem l_X16_toP {G : GG} {d : Nat} {Q : Pst} {h0 : Hp} {n s p : Nat} {x : Nat → QIS} (hX : QOK n x) (hs : s < n) (hp : p < 2 ^ 31) (IH : RZ G x n s) (hd : 3 * s + 16 ≤ d) (T E : Nat → Nat) (kA : p < tot (q_F (x s)) → ∀ H, MSQ H n (setR x T) → PO2 H → FRQ h0 H → Q (oRet (vi (nI 1))) H) (kB : ¬ p < tot (q_F (x s)) → ∀ H, MSQ H n (setR x E) → PO2 H → FRQ h0 H → Q (oRet (vi (enA x s))) H) : ∀ m r H bc bs, (q_F (x s)).length - r s = m → MSQ H n (setR x r) → QV n x r → PO2 H → FRQ h0 H → (p < tot (q_F (x s)) → rs0 x (s + 1) s (cf (q_F (x s)) p) r = T ∧ PC n x T + 1 ≤ bc + PC n x r ∧ PS n x T + 4 ≤ bs + PS n x r) → (¬ p < tot (q_F (x s)) → enR x s r = E ∧ PC n x E + s + 2 ≤ bc + PC n x r ∧ PS n x E + 4 * (s + 2) ≤ bs + PS n x r) → WP G m_X16_realiseTo d 2 [(3, vi (nI 1)), (0, vr (some (nm 1 0))), (1, vr (some (nm 2 s))), (2, vi (nI p))] [] H bc bs Q := by
  intro m
  induction m using Nat.strongRecOn with
  | _ m ih =>
    intro r H bc bs hm hM hV hP hG hA hB
    obtain ⟨⟨K2, hK2⟩, K, hK⟩ := id hP
    have hl := (hV s hs).1
    have hLk : LRc H (nm 3 s) 26 s ((q_F (x s)).take (r s)) (capR x r s) := (hM.2.2.1 s hs).2
    have h24 := (hX.1 s hs).2.1
    have hpl : tot ((q_F (x s)).take (r s)) ≤ tot (q_F (x s)) := pre_le
    have hT : p < tot (q_F (x s)) → PC n x r ≤ PC n x T ∧ PS n x r ≤ PS n x T := fun h => by rw [← (hA h).1]; exact ⟨PC_mono (fun j _ => rs0_ge hX.1 _ _ _ _ _ hs), PS_mono (fun j _ => rs0_ge hX.1 _ _ _ _ _ hs)⟩
    have hE : ¬ p < tot (q_F (x s)) → PC n x r ≤ PC n x E ∧ PS n x r ≤ PS n x E := fun h => by rw [← (hB h).1]; exact ⟨PC_mono (fun j _ => enR_ge hX.1 hs j), PS_mono (fun j _ => enR_ge hX.1 hs j)⟩
    have hb1 : 1 ≤ bc ∧ 4 ≤ bs := by
      by_cases h : p < tot (q_F (x s))
      · have := hA h; have := hT h; omega
      · have := hB h; have := hE h; omega
    refine wp_iload_n (i := 3) dX16_realiseTo_2 rfl rfl ?_
    refine wp_iconst (nI 1) dX16_realiseTo_3 (by decide) ?_
    refine wp_icmp_neN 28 dX16_realiseTo_4 (by decide) (by decide) (by decide) (fun c_4 => absurd c_4 (by decide)) (fun c_4 => ?_)
    refine wp_iload_n (i := 2) dX16_realiseTo_7 rfl rfl ?_
    refine wp_if_ltN 19 dX16_realiseTo_8 (by decide) hp (fun c_8 => absurd c_8 (id)) (fun c_8 => ?_)
    refine wp_aload_n (i := 1) dX16_realiseTo_11 rfl rfl ?_
    refine wp_cV (y' := m_X14_elements) 15 [] [] 1 4 dX16_realiseTo_12 ml_X16_211 im_X14_elements se_X14_elements (by decide) (hM.2.2.1 s hs).1.k0 ok_X14_elements rfl (Nat.le_of_ble_eq_true rfl) rfl (Nat.le_of_ble_eq_true rfl) (d' := d - 1) (by omega) (by omega) (by omega) (c_X14_elements (hM.2.2.1 s hs).1 hLk.w hK (by omega) (by omega) (Nat.le_refl _) (Nat.le_refl _) (fun H1 C1 => cont_ret ?_))
    have hM1 := hM.it C1
    have hP1 := hP.itq hK C1
    have hG1 := hG.tr (FRQ.it C1)
    refine wp_iload_n (i := 2) dX16_realiseTo_15 rfl rfl ?_
    refine wp_icmp_gtN 28 dX16_realiseTo_16 (by decide) (by omega) hp (fun c_16 => ?_) (fun c_16 => ?_)
    · have hpt : p < tot (q_F (x s)) := by omega
      have eT : T = r := by rw [← (hA hpt).1]; exact rs0_no hX.1 _ _ _ _ hs hV (cf_of (show p < pre (q_F (x s)) (r s) from c_16))
      refine wp_iload_n (i := 3) dX16_realiseTo_28 rfl rfl ?_
      refine wp_ireturn dX16_realiseTo_29 rfl ?_
      exact kA hpt _ (by rw [eT]; exact hM1) hP1 hG1
    · skip
      by_cases hlt : r s < (q_F (x s)).length
      · have hz := rz_pc hX hs hlt
        have hzE := (rz_1 hlt).2.2
        have hrk : rzR x s r s = r s + 1 := by rw [(rz_1 hlt).1, rs0_at hX.1 hs]; omega
        have hle : p < tot (q_F (x s)) → r s + 1 ≤ cf (q_F (x s)) p := fun h => by
          rcases Nat.lt_or_ge (r s) (cf (q_F (x s)) p) with z | z
          · exact z
          · have a1 := pre_mono (F := q_F (x s)) z
            have a2 := cf_gt h
            have a3 : pre (q_F (x s)) (r s) ≤ p := c_16
            omega
        have hA2 : p < tot (q_F (x s)) → rs0 x (s + 1) s (cf (q_F (x s)) p) (rzR x s r) = T := fun h => by rw [(rz_1 hlt).1, rs0_ab hX.1 _ _ _ _ _ hs (hle h) (cf_le h)]; exact (hA h).1
        have hB2 : ¬ p < tot (q_F (x s)) → enR x s (rzR x s r) = E := fun h => by rw [(rz_1 hlt).1, enR_ab hX.1 hs (by omega)]; exact (hB h).1
        have hT2 : p < tot (q_F (x s)) → PC n x (rzR x s r) ≤ PC n x T ∧ PS n x (rzR x s r) ≤ PS n x T := fun h => by rw [← hA2 h]; exact ⟨PC_mono (fun j _ => rs0_ge hX.1 _ _ _ _ _ hs), PS_mono (fun j _ => rs0_ge hX.1 _ _ _ _ _ hs)⟩
        have hE2 : ¬ p < tot (q_F (x s)) → PC n x (rzR x s r) ≤ PC n x E ∧ PS n x (rzR x s r) ≤ PS n x E := fun h => by rw [← hB2 h]; exact ⟨PC_mono (fun j _ => enR_ge hX.1 hs j), PS_mono (fun j _ => enR_ge hX.1 hs j)⟩
        have hb2 : PC n x (rzR x s r) + 1 ≤ bc + PC n x r ∧ PS n x (rzR x s r) + 4 ≤ bs + PS n x r := by
          by_cases h : p < tot (q_F (x s))
          · have := hA h; have := hT2 h; omega
          · have := hB h; have := hE2 h; omega
        refine wp_aload_n (i := 0) dX16_realiseTo_19 rfl rfl ?_
        refine wp_aload_n (i := 1) dX16_realiseTo_20 rfl rfl ?_
        refine wp_cV (y' := m_X16_realise) 17 [vr (some (nm 2 s))] [] ((PC n x (rzR x s r) + rzE x s r - PC n x r - 1)) ((PS n x (rzR x s r) + 4 * rzE x s r - PS n x r - 4)) dX16_realiseTo_21 ml_X16_214 im_X16_realise se_X16_realise (by decide) hM1.1.1 ok_X16_realise rfl (Nat.le_of_ble_eq_true rfl) rfl (Nat.le_of_ble_eq_true rfl) (d' := d - 1) (by omega) (by omega) (by omega) (IH (d - 1) (PC n x (rzR x s r) + rzE x s r - PC n x r - 1) (PS n x (rzR x s r) + 4 * rzE x s r - PS n x r - 4) _ H1 r hM1 hV hP1 (by omega) (by omega) (by omega) (fun H2 hM2 hP2 hG2 => cont_ret ?_))
        rw [(rz_1 hlt).2.1]
        refine wp_istore_n (i := 3) (lv' := [(3, vi (nI 1)), (0, vr (some (nm 1 0))), (1, vr (some (nm 2 s))), (2, vi (nI p))]) dX16_realiseTo_24 rfl (by decide) rfl ?_
        refine wp_goto 2 dX16_realiseTo_25 (by decide) ?_
        refine wp_sub [(3, vi (nI 1)), (0, vr (some (nm 1 0))), (1, vr (some (nm 2 s))), (2, vi (nI p))] (sb_cons (.head _) (sb_cons (.tail _ (.head _)) (sb_cons (.tail _ (.tail _ (.head _))) (sb_cons (.tail _ (.tail _ (.tail _ (.head _)))) sb_nil)))) ?_
        refine ih ((q_F (x s)).length - rzR x s r s) (by omega) (rzR x s r) H2 _ _ rfl hM2 (rz_V hX.1 hs hV hlt) hP2 (hG1.tr hG2) (fun h => ⟨hA2 h, ?_, ?_⟩) (fun h => ⟨hB2 h, ?_, ?_⟩)
        · have := hA h; omega
        · have := hA h; omega
        · have := hB h; omega
        · have := hB h; omega
      · have hrl : r s = (q_F (x s)).length := by omega
        have hnt : ¬ p < tot (q_F (x s)) := by have := pre_all (F := q_F (x s)) (k := r s) (by omega); have e : tot ((q_F (x s)).take (r s)) = pre (q_F (x s)) (r s) := rfl; omega
        have hB1 := hB hnt
        have hzE := (rz_0 hlt).2.2
        have hzR : rzR x s r = E := (rz_0 hlt).1.trans hB1.1
        have hzP : PC n x (rzR x s r) = PC n x E ∧ PS n x (rzR x s r) = PS n x E := by rw [hzR]; exact ⟨rfl, rfl⟩
        refine wp_aload_n (i := 0) dX16_realiseTo_19 rfl rfl ?_
        refine wp_aload_n (i := 1) dX16_realiseTo_20 rfl rfl ?_
        refine wp_cV (y' := m_X16_realise) 17 [vr (some (nm 2 s))] [] ((PC n x (rzR x s r) + rzE x s r - PC n x r - 1)) ((PS n x (rzR x s r) + 4 * rzE x s r - PS n x r - 4)) dX16_realiseTo_21 ml_X16_214 im_X16_realise se_X16_realise (by decide) hM1.1.1 ok_X16_realise rfl (Nat.le_of_ble_eq_true rfl) rfl (Nat.le_of_ble_eq_true rfl) (d' := d - 1) (by omega) (by omega) (by omega) (IH (d - 1) (PC n x (rzR x s r) + rzE x s r - PC n x r - 1) (PS n x (rzR x s r) + 4 * rzE x s r - PS n x r - 4) _ H1 r hM1 hV hP1 (by omega) (by omega) (by omega) (fun H2 hM2 hP2 hG2 => cont_ret ?_))
        rw [(rz_0 hlt).2.1]
        refine wp_topi (fun x_24 e_24 => ?_)
        refine wp_istore_n (i := 3) (lv' := [(3, vi x_24), (0, vr (some (nm 1 0))), (1, vr (some (nm 2 s))), (2, vi (nI p))]) dX16_realiseTo_24 rfl (by decide) rfl ?_
        refine wp_goto 2 dX16_realiseTo_25 (by decide) ?_
        refine wp_iload_n (i := 3) dX16_realiseTo_2 rfl rfl ?_
        refine wp_iconst (nI 1) dX16_realiseTo_3 (by decide) ?_
        refine wp_icmp_ne 28 dX16_realiseTo_4 (by decide) (fun c_4 => ?_) (fun c_4 => absurd c_4 (by rw [e_24]; exact enA_n))
        refine wp_iload_n (i := 3) dX16_realiseTo_28 rfl rfl ?_
        refine wp_ireturn dX16_realiseTo_29 rfl ?_
        rw [e_24]
        exact kB hnt _ (by rw [← hzR]; exact hM2) hP2 (hG1.tr hG2)
set_option maxRecDepth 100000 in
set_option maxHeartbeats 4000000 in
theorem c_X16_realiseToN {G : GG} {d bc bs : Nat} {h : Hp} {Q : Pst} {n s : Nat} {x : Nat → QIS} {r : Nat → Nat} (hX : QOK n x) (hs : s < n) (hM : MSQ h n (setR x r)) (hV : QV n x r) (hP : PO2 h) (hd : 3 * s + 16 ≤ d) {v : Int32} (hv : v < 0) (hbc : PC n x (enR x s r) + s + 2 ≤ bc + PC n x r + 1) (hbs : PS n x (enR x s r) + 4 * (s + 2) ≤ bs + PS n x r + 4) (hq : ∀ H, MSQ H n (setR x (enR x s r)) → PO2 H → FRQ h H → Q (oRet (vi (enA x s))) H) : WP G m_X16_realiseTo d 0 (aargs 0 [vr (some (nm 1 0)), vr (some (nm 2 s)), vi v]) [] h bc bs Q := by
  refine wp_sub [(0, vr (some (nm 1 0))), (1, vr (some (nm 2 s))), (2, vi v)] (fun _ hz => hz) ?_
  refine wp_iconst (nI 1) dX16_realiseTo_0 (by decide) ?_
  refine wp_istore_n (i := 3) (lv' := [(3, vi (nI 1)), (0, vr (some (nm 1 0))), (1, vr (some (nm 2 s))), (2, vi v)]) dX16_realiseTo_1 rfl (by decide) rfl ?_
  exact l_X16_toN hX hs hv (rz_all hX s hs) hd (enR x s r) hq _ r _ _ _ rfl hM hV hP FRQ.rf rfl hbc hbs
set_option maxRecDepth 100000 in
set_option maxHeartbeats 4000000 in
theorem c_X16_realiseToP {G : GG} {d bc bs : Nat} {h : Hp} {Q : Pst} {n s : Nat} {x : Nat → QIS} {r : Nat → Nat} (hX : QOK n x) (hs : s < n) (hM : MSQ h n (setR x r)) (hV : QV n x r) (hP : PO2 h) (hd : 3 * s + 16 ≤ d) {p : Nat} (hp : p < 2 ^ 31) (hA : p < tot (q_F (x s)) → PC n x (rs0 x (s + 1) s (cf (q_F (x s)) p) r) + 1 ≤ bc + PC n x r ∧ PS n x (rs0 x (s + 1) s (cf (q_F (x s)) p) r) + 4 ≤ bs + PS n x r) (hB : ¬ p < tot (q_F (x s)) → PC n x (enR x s r) + s + 2 ≤ bc + PC n x r ∧ PS n x (enR x s r) + 4 * (s + 2) ≤ bs + PS n x r) (hqA : p < tot (q_F (x s)) → ∀ H, MSQ H n (setR x (rs0 x (s + 1) s (cf (q_F (x s)) p) r)) → PO2 H → FRQ h H → Q (oRet (vi (nI 1))) H) (hqB : ¬ p < tot (q_F (x s)) → ∀ H, MSQ H n (setR x (enR x s r)) → PO2 H → FRQ h H → Q (oRet (vi (enA x s))) H) : WP G m_X16_realiseTo d 0 (aargs 0 [vr (some (nm 1 0)), vr (some (nm 2 s)), vi (nI p)]) [] h bc bs Q := by
  refine wp_sub [(0, vr (some (nm 1 0))), (1, vr (some (nm 2 s))), (2, vi (nI p))] (fun _ hz => hz) ?_
  refine wp_iconst (nI 1) dX16_realiseTo_0 (by decide) ?_
  refine wp_istore_n (i := 3) (lv' := [(3, vi (nI 1)), (0, vr (some (nm 1 0))), (1, vr (some (nm 2 s))), (2, vi (nI p))]) dX16_realiseTo_1 rfl (by decide) rfl ?_
  exact l_X16_toP hX hs hp (rz_all hX s hs) hd (rs0 x (s + 1) s (cf (q_F (x s)) p) r) (enR x s r) hqA hqB _ r _ _ _ rfl hM hV hP FRQ.rf (fun h9 => ⟨rfl, hA h9⟩) (fun h9 => ⟨rfl, hB h9⟩)
