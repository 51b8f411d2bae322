/-! The law: one call. -/
abbrev m_L_law : MI := (yL_law, cL_law, 8, (some .boolean), [])
abbrev scr (G : GG) (i : Nat) : Int32 := G.2.2.2.2.2.2 i
abbrev slen (G : GG) : Nat := G.2.2.2.2.2.1
theorem c5 {G : GG} {c k : Nat} (hi5 : 5 * c + 5 ≤ slen G) (hk : k < 5) : 5 * c + k < G.2.2.2.2.2.1 := Nat.lt_of_lt_of_le (Nat.add_lt_add_left hk _) hi5
abbrev lvA (c : Nat) : LV := [(5, vi (nI (5 * c))), (1, vr (some (nm 40 0))), (2, vr (some (nm 1 0))), (3, vr (some (nm 70 0))), (4, vr (some (nm 71 0)))]
theorem lg_self (x : Int64) : lg_cmp x x = 0 := by
  unfold lg_cmp
  rw [if_neg (show ¬ x > x from Int64.lt_irrefl), if_pos rfl]
theorem i2c_n (x : Int32) : (x.toUInt32 % 65536).toInt32 = nI (x.toUInt32 % 65536).toNat := by
  apply Int32.toBitVec_inj.mp
  show (x.toUInt32 % 65536).toBitVec = BitVec.ofNat 32 (x.toUInt32 % 65536).toBitVec.toNat
  rw [BitVec.ofNat_toNat, BitVec.setWidth_eq]
theorem i2c_lt (x : Int32) : (x.toUInt32 % 65536).toNat < 65536 := by
  rw [UInt32.toNat_mod]
  exact Nat.mod_lt _ (by decide)
def NXT (G : GG) (w c : Nat) (Q : Pst) : Prop := ∀ (h : Hp) (V : SV) (M n : Nat) (x : Nat → QIS) (R : RS) (bc bs : Nat), JC h → CLS h V M n x R → MDL h V n x R → ARR h → PUR c V M n x R → BUD c n x R bc bs → WL G w m_L_law 100 28 (lvA c) [] h bc bs Q
section TL
variable {G : GG} {w c bc bs p : Nat} {h : Hp} {Q : Pst} {lv : LV} {k b : Int32} {off : Int}
theorem l_next {V : SV} {M n : Nat} {x : Nat → QIS} {R : RS} (K : NXT G w (c + 1) Q) (J : JC h) (C : CLS h V M n x R) (D : MDL h V n x R) (A : ARR h) (B : PUR (c + 1) V M n x R) (U : BUD (c + 1) n x R bc bs) (hs : ∀ q ∈ lvA c, q ∈ lv) : WL G w m_L_law 100 3305 lv [] h bc bs Q := by
  refine wl_sub (lvA c) hs ?_
  refine wl_iinc (i := 5) (lv' := lvA (c + 1)) (nI (5 * (c + 1))) dL_law_3305 (by decide) rfl ?_ (by decide) rfl ?_
  · rw [Nat.mul_succ, ← nI_add]; rfl
  · exact wl_goto 28 dL_law_3308 (by decide) (K h V M n x R bc bs J C D A B U)
/-- behind both calls: numbers -/
theorem l_tailI (d0 : decode cL_law p = .ok (.aload_n 2, 1)) (d1 : decode cL_law (p + 1) = .ok (.invokevirtual 178, 3)) (d4 : decode cL_law (p + 4) = .ok (.iload 6, 2)) (d6 : decode cL_law (p + 6) = .ok (.if_icmp .eq 5, 3)) (d11 : decode cL_law (p + 11) = .ok (.iload 6, 2)) (d13 : decode cL_law (p + 13) = .ok (.ifCond .ne 15, 3)) (d16 : decode cL_law (p + 16) = .ok (.aload_n 3, 1)) (d17 : decode cL_law (p + 17) = .ok (.iconst 0, 1)) (d18 : decode cL_law (p + 18) = .ok (.laload, 1)) (d19 : decode cL_law (p + 19) = .ok (.iload 7, 2)) (d21 : decode cL_law (p + 21) = .ok (.i2l, 1)) (d22 : decode cL_law (p + 22) = .ok (.lcmp, 1)) (d23 : decode cL_law (p + 23) = .ok (.ifCond .eq 5, 3)) (d28 : decode cL_law (p + 28) = .ok (.goto off, 3)) (hoff : (p : Int) + 28 + off = 3305)
    (hk : h_k h (nm 1 0) = 18) (ht : h_I h (nm 1 0) 0 = k) (O : h_k h (nm 70 0) = 104 ∧ h_n h (nm 70 0) = 1) (hw : k = nI 0 → h_L h (nm 70 0) 0 = b.toInt64)
    (K : WL G w m_L_law 100 3305 ((7, vi b) :: (6, vi k) :: lvA c) [] h bc bs Q) : WL G w m_L_law 100 p ((7, vi b) :: (6, vi k) :: lvA c) [] h bc bs Q := by
  refine wl_aload_n (i := 2) d0 rfl (by decide) rfl ?_
  refine wl_cV (y' := m_X16_thrown) 17 [] [] 0 0 d1 ml_L_178 im_X16_thrown se_X16_thrown (by decide) hk ok_X16_thrown rfl (Nat.le_of_ble_eq_true rfl) rfl (Nat.le_of_ble_eq_true rfl) (d' := 99) (by decide) (Nat.zero_le _) (Nat.zero_le _) (c_X16_thrown hk ht (contL_ret ?_))
  refine wl_iload (i := 6) d4 (by decide) rfl ?_
  refine wl_icmp_eq (p + 11) d6 (by omega) (fun _ => ?_) (fun c9 => absurd rfl c9)
  refine wl_iload (i := 6) d11 (by decide) rfl ?_
  refine wl_if_ne (p + 28) d13 (by omega) (fun _ => ?_) (fun c13 => ?_)
  · exact wl_goto 3305 d28 (by omega) K
  · refine wl_aload_n (i := 3) d16 rfl (by decide) rfl ?_
    refine wl_iconst (nI 0) d17 (by decide) ?_
    refine wl_laload d18 O.1 (by rw [O.2]; exact vp_in_nI (by decide) (by decide)) ?_
    rw [nI_clamp (by decide), hw c13]
    refine wl_iload (i := 7) d19 (by decide) rfl ?_
    refine wl_i2l d21 ?_
    refine wl_lcmp d22 ?_
    refine wl_if_eq (p + 28) d23 (by omega) (fun _ => ?_) (fun c9 => absurd (lg_self _) c9)
    exact wl_goto 3305 d28 (by omega) K
/-- .. truth values -/
theorem l_tailB (d0 : decode cL_law p = .ok (.aload_n 2, 1)) (d1 : decode cL_law (p + 1) = .ok (.invokevirtual 178, 3)) (d4 : decode cL_law (p + 4) = .ok (.iload 6, 2)) (d6 : decode cL_law (p + 6) = .ok (.if_icmp .eq 5, 3)) (d11 : decode cL_law (p + 11) = .ok (.iload 6, 2)) (d13 : decode cL_law (p + 13) = .ok (.ifCond .ne 22, 3)) (d16 : decode cL_law (p + 16) = .ok (.aload_n 3, 1)) (d17 : decode cL_law (p + 17) = .ok (.iconst 0, 1)) (d18 : decode cL_law (p + 18) = .ok (.laload, 1)) (d19 : decode cL_law (p + 19) = .ok (.iload 7, 2)) (d21 : decode cL_law (p + 21) = .ok (.ifCond .eq 7, 3)) (d24 : decode cL_law (p + 24) = .ok (.lconst 1, 1)) (d25 : decode cL_law (p + 25) = .ok (.goto 4, 3)) (d28 : decode cL_law (p + 28) = .ok (.lconst 0, 1)) (d29 : decode cL_law (p + 29) = .ok (.lcmp, 1)) (d30 : decode cL_law (p + 30) = .ok (.ifCond .eq 5, 3)) (d35 : decode cL_law (p + 35) = .ok (.goto off, 3)) (hoff : (p : Int) + 35 + off = 3305)
    (hk : h_k h (nm 1 0) = 18) (ht : h_I h (nm 1 0) 0 = k) (O : h_k h (nm 70 0) = 104 ∧ h_n h (nm 70 0) = 1) (hw : k = nI 0 → h_L h (nm 70 0) 0 = zL b)
    (K : WL G w m_L_law 100 3305 ((7, vi b) :: (6, vi k) :: lvA c) [] h bc bs Q) : WL G w m_L_law 100 p ((7, vi b) :: (6, vi k) :: lvA c) [] h bc bs Q := by
  refine wl_aload_n (i := 2) d0 rfl (by decide) rfl ?_
  refine wl_cV (y' := m_X16_thrown) 17 [] [] 0 0 d1 ml_L_178 im_X16_thrown se_X16_thrown (by decide) hk ok_X16_thrown rfl (Nat.le_of_ble_eq_true rfl) rfl (Nat.le_of_ble_eq_true rfl) (d' := 99) (by decide) (Nat.zero_le _) (Nat.zero_le _) (c_X16_thrown hk ht (contL_ret ?_))
  refine wl_iload (i := 6) d4 (by decide) rfl ?_
  refine wl_icmp_eq (p + 11) d6 (by omega) (fun _ => ?_) (fun c9 => absurd rfl c9)
  refine wl_iload (i := 6) d11 (by decide) rfl ?_
  refine wl_if_ne (p + 35) d13 (by omega) (fun _ => ?_) (fun c13 => ?_)
  · exact wl_goto 3305 d35 (by omega) K
  · refine wl_aload_n (i := 3) d16 rfl (by decide) rfl ?_
    refine wl_iconst (nI 0) d17 (by decide) ?_
    refine wl_laload d18 O.1 (by rw [O.2]; exact vp_in_nI (by decide) (by decide)) ?_
    rw [nI_clamp (by decide), hw c13]
    refine wl_iload (i := 7) d19 (by decide) rfl ?_
    refine wl_if_eq (p + 28) d21 (by omega) (fun e => ?_) (fun e => ?_)
    · refine wl_lconst (zL b) d28 (by rw [zL, if_pos e]; rfl) ?_
      refine wl_lcmp d29 ?_
      refine wl_if_eq (p + 35) d30 (by omega) (fun _ => ?_) (fun c9 => absurd (lg_self _) c9)
      exact wl_goto 3305 d35 (by omega) K
    · refine wl_lconst (zL b) d24 (by rw [zL, if_neg e]; rfl) ?_
      refine wl_goto (p + 29) d25 (by omega) ?_
      refine wl_lcmp d29 ?_
      refine wl_if_eq (p + 35) d30 (by omega) (fun _ => ?_) (fun c9 => absurd (lg_self _) c9)
      exact wl_goto 3305 d35 (by omega) K
end TL
theorem lvA_in {c : Nat} {b k : AV} : ∀ q ∈ lvA c, q ∈ (7, b) :: (6, k) :: lvA c := fun _ h => List.mem_cons_of_mem _ (List.mem_cons_of_mem _ h)
theorem MDL.hk {h : Hp} {V : SV} {n : Nat} {x : Nat → QIS} {R : RS} (D : MDL h V n x R) : h_k h (nm 1 0) = 18 := D.1.1.1
theorem JC.fc {h h' : Hp} (J : JC h) (F : FC h h') : JC h' := J.fr (fun i => F _ (by unfold nm; omega))
theorem JC.fg {h h' : Hp} (J : JC h) (F : FG h h') : JC h' := J.fr (fun i => F _ (by unfold nm; omega))
theorem MDL.fc {h h' : Hp} {V : SV} {n : Nat} {x : Nat → QIS} {R : RS} (D : MDL h V n x R) (F : FC h h') : MDL h' V n x R := D.fr (fun a ha => F a (by omega))
theorem CLS.fg {h h' : Hp} {V : SV} {M n : Nat} {x : Nat → QIS} {R : RS} (C : CLS h V M n x R) (F : FG h h') : CLS h' V M n x R := C.fr (fun a ha => F a (by omega))
theorem ARR.fc {h h' : Hp} (A : ARR h) (F : FC h h') (O : h_k h' (nm 70 0) = 104 ∧ h_n h' (nm 70 0) = 1) : ARR h' := ⟨O, (ce_k (F (nm 71 0) (by unfold nm; omega))).trans A.2.1, (ce_n (F (nm 71 0) (by unfold nm; omega))).trans A.2.2⟩
theorem ARR.fg {h h' : Hp} (A : ARR h) (F : FG h h') : ARR h' := ⟨⟨(ce_k (F (nm 70 0) (by unfold nm; omega))).trans A.1.1, (ce_n (F (nm 70 0) (by unfold nm; omega))).trans A.1.2⟩, (ce_k (F (nm 71 0) (by unfold nm; omega))).trans A.2.1, (ce_n (F (nm 71 0) (by unfold nm; omega))).trans A.2.2⟩
theorem FG.out {h h' : Hp} (F : FG h h') : h_L h' (nm 70 0) = h_L h (nm 70 0) := ce_L (F (nm 70 0) (by unfold nm; omega))
/-- calls that leave the sequences as they are -/
theorem BUD.go {c n bc bs mc ms : Nat} {x : Nat → QIS} {R R' : RS} (U : BUD c n x R bc bs) (hc : c < 512) (h1 : mc ≤ 1170) (h2 : ms + 2400 * flg R' ≤ 13400 + 2400 * flg R) : BUD (c + 1) n x R' (bc - mc) (bs - ms) := by
  unfold BUD at U ⊢
  omega
theorem cgN_6 {y : OTS} : cgN y 6 0 ≤ 6 := by
  have : ∀ m r, cgN y m r ≤ m := by
    intro m
    induction m with
    | zero => intro r; exact Nat.le_refl _
    | succ m ih => intro r; have := ih (r + 1); rw [cgN]; split <;> omega
  exact this 6 0
set_option maxRecDepth 100000 in
set_option maxHeartbeats 4000000 in
theorem x_vector {G : GG} {w c bc bs M n : Nat} {h : Hp} {Q : Pst} {V : SV} {x : Nat → QIS} {R : RS} (hw : w = G.2.2.2.2.1) (hL : slen G < 2 ^ 31) (hi5 : 5 * c + 5 ≤ slen G) (hc : c < 512) (J : JC h) (C : CLS h V M n x R) (D : MDL h V n x R) (A : ARR h) (B : PUR c V M n x R) (U : BUD c n x R bc bs) (K : NXT G w (c + 1) Q) : WL G w m_L_law 100 256 (lvA c) [] h bc bs Q := by
  obtain ⟨hS, hW, hmd, hMc, hX, hRB, hLF⟩ := id B
  have hm25 : sMd V + 25 ≤ 1000000 := by omega
  have hnv := hS.1
  have hn12 := hX.1.2.1
  have hb1 := hRB.1
  have U2 := id U
  unfold BUD at U2
  have P2 := PC_max hX (fun s h => (hX.2.1 s h).1)
  refine wl_aload_n (i := 1) dL_law_256 rfl (by decide) rfl ?_
  refine wl_aload_n (i := 3) dL_law_257 rfl (by decide) rfl ?_
  refine wl_cSH (y' := m_L_vector) [vr (some (nm 40 0)), vr (some (nm 70 0))] [] 30 900 dL_law_258 ml_L_172 st_L_vector okH_L_vector rfl (Nat.le_of_ble_eq_true rfl) rfl (Nat.le_of_ble_eq_true rfl) (d' := 99) (by decide) (by omega) (by omega) (g_vector B hc C A.1   (by decide) (Nat.le_refl _) (Nat.le_refl _) (fun h1 M1 m1 m2 C1 F1 O1 w1 => contL_ret ?_))
  have D1 := D.fc F1
  have J1 := J.fc F1
  have A1 := A.fc F1 O1
  refine wl_istore (i := 6) (lv' := (6, vi (o_vector V).1) :: lvA c) dL_law_261 (by decide) (by decide) rfl ?_
  refine wl_aload_n (i := 2) dL_law_263 rfl (by decide) rfl ?_
  refine wl_cV (y' := m_X16_vector) 17 [] [] 0 0 dL_law_264 ml_L_177 im_X16_vector se_X16_vector (by decide) D1.hk ok_X16_vector rfl (Nat.le_of_ble_eq_true rfl) rfl (Nat.le_of_ble_eq_true rfl) (d' := 99) (by decide) (by omega) (by omega) (w_vector B hc D1 J1  (by decide)  (Nat.le_refl _) (Nat.le_refl _) (fun h2 D2 F2 t2 => contL_ret ?_))
  refine wl_istore (i := 7) (lv' := (7, vi (o_vector V).2.1) :: (6, vi (o_vector V).1) :: lvA c) dL_law_267 (by decide) (by decide) rfl ?_
  refine l_tailI (p := 269) dL_law_269 dL_law_270 dL_law_273 dL_law_275 dL_law_280 dL_law_282 dL_law_285 dL_law_286 dL_law_287 dL_law_288 dL_law_290 dL_law_291 dL_law_292 dL_law_297 (by decide) D2.hk t2 (A1.fg F2).1 (fun z => by rw [F2.out]; exact w1 z) ?_
  exact l_next K (J1.fg F2) (C1.fg F2) D2 (A1.fg F2) (B.v hc m1 m2 (k_vector B.1 ) (b_vector B.2.1 hm25 )) (by have := U.go hc (mc := 30 + 0) (ms := 900 + 0) (R' := R) (by decide) (by omega); rwa [Nat.sub_add_eq, Nat.sub_add_eq] at this) lvA_in
set_option maxRecDepth 100000 in
set_option maxHeartbeats 4000000 in
theorem x_append {G : GG} {w c bc bs M n : Nat} {h : Hp} {Q : Pst} {V : SV} {x : Nat → QIS} {R : RS} (hw : w = G.2.2.2.2.1) (hL : slen G < 2 ^ 31) (hi5 : 5 * c + 5 ≤ slen G) (hc : c < 512) (J : JC h) (C : CLS h V M n x R) (D : MDL h V n x R) (A : ARR h) (B : PUR c V M n x R) (U : BUD c n x R bc bs) (K : NXT G w (c + 1) Q) : WL G w m_L_law 100 300 (lvA c) [] h bc bs Q := by
  obtain ⟨hS, hW, hmd, hMc, hX, hRB, hLF⟩ := id B
  have hm25 : sMd V + 25 ≤ 1000000 := by omega
  have hnv := hS.1
  have hn12 := hX.1.2.1
  have hb1 := hRB.1
  have U2 := id U
  unfold BUD at U2
  have P2 := PC_max hX (fun s h => (hX.2.1 s h).1)
  obtain ⟨u, e_u⟩ : ∃ z, z = G.2.2.2.2.2.2 (5 * c + 1) := ⟨_, rfl⟩
  obtain ⟨e, e_e⟩ : ∃ z, z = G.2.2.2.2.2.2 (5 * c + 2) := ⟨_, rfl⟩
  have hu : ixB u (sNv V) = true → u = nI (tn u) ∧ tn u < sNv V := ix_tn (by omega)
  refine wl_aload_n (i := 1) dL_law_300 rfl (by decide) rfl ?_
  refine wl_cell (i := 5 * c) (k := 1) hw dL_law_301 dL_law_302 dL_law_304 dL_law_305 dL_law_306 rfl (by decide) (c5 hi5 (by decide)) hL ?_
  rw [← e_u]
  refine wl_cell (i := 5 * c) (k := 2) hw dL_law_307 dL_law_308 dL_law_310 dL_law_311 dL_law_312 rfl (by decide) (c5 hi5 (by decide)) hL ?_
  rw [← e_e]
  refine wl_aload_n (i := 3) dL_law_313 rfl (by decide) rfl ?_
  refine wl_cSH (y' := m_L_append) [vr (some (nm 40 0)), vi u, vi e, vr (some (nm 70 0))] [] 30 900 dL_law_314 ml_L_181 st_L_append okH_L_append rfl (Nat.le_of_ble_eq_true rfl) rfl (Nat.le_of_ble_eq_true rfl) (d' := 99) (by decide) (by omega) (by omega) (g_append B hc C A.1   (by decide) (Nat.le_refl _) (Nat.le_refl _) (fun h1 M1 m1 m2 C1 F1 O1 w1 => contL_ret ?_))
  have D1 := D.fc F1
  have J1 := J.fc F1
  have A1 := A.fc F1 O1
  refine wl_istore (i := 6) (lv' := (6, vi (o_append V u (tn u) e).1) :: lvA c) dL_law_317 (by decide) (by decide) rfl ?_
  refine wl_aload_n (i := 2) dL_law_319 rfl (by decide) rfl ?_
  refine wl_cell (i := 5 * c) (k := 1) hw dL_law_320 dL_law_321 dL_law_323 dL_law_324 dL_law_325 rfl (by decide) (c5 hi5 (by decide)) hL ?_
  rw [← e_u]
  refine wl_cell (i := 5 * c) (k := 2) hw dL_law_326 dL_law_327 dL_law_329 dL_law_330 dL_law_331 rfl (by decide) (c5 hi5 (by decide)) hL ?_
  rw [← e_e]
  refine wl_cV (y' := m_X16_append) 17 [vi u, vi e] [] 0 0 dL_law_332 ml_L_184 im_X16_append se_X16_append (by decide) D1.hk ok_X16_append rfl (Nat.le_of_ble_eq_true rfl) rfl (Nat.le_of_ble_eq_true rfl) (d' := 99) (by decide) (by omega) (by omega) (w_append B hc D1 J1  (by decide)  (Nat.le_refl _) (Nat.le_refl _) (fun h2 D2 F2 t2 => contL_ret ?_))
  refine wl_istore (i := 7) (lv' := (7, vi (o_append V u (tn u) e).2.1) :: (6, vi (o_append V u (tn u) e).1) :: lvA c) dL_law_335 (by decide) (by decide) rfl ?_
  refine l_tailI (p := 337) dL_law_337 dL_law_338 dL_law_341 dL_law_343 dL_law_348 dL_law_350 dL_law_353 dL_law_354 dL_law_355 dL_law_356 dL_law_358 dL_law_359 dL_law_360 dL_law_365 (by decide) D2.hk t2 (A1.fg F2).1 (fun z => by rw [F2.out]; exact w1 z) ?_
  exact l_next K (J1.fg F2) (C1.fg F2) D2 (A1.fg F2) (B.v hc m1 m2 (k_append B.1 hu) (b_append B.2.1 hm25 )) (by have := U.go hc (mc := 30 + 0) (ms := 900 + 0) (R' := R) (by decide) (by omega); rwa [Nat.sub_add_eq, Nat.sub_add_eq] at this) lvA_in
set_option maxRecDepth 100000 in
set_option maxHeartbeats 4000000 in
theorem x_set {G : GG} {w c bc bs M n : Nat} {h : Hp} {Q : Pst} {V : SV} {x : Nat → QIS} {R : RS} (hw : w = G.2.2.2.2.1) (hL : slen G < 2 ^ 31) (hi5 : 5 * c + 5 ≤ slen G) (hc : c < 512) (J : JC h) (C : CLS h V M n x R) (D : MDL h V n x R) (A : ARR h) (B : PUR c V M n x R) (U : BUD c n x R bc bs) (K : NXT G w (c + 1) Q) : WL G w m_L_law 100 368 (lvA c) [] h bc bs Q := by
  obtain ⟨hS, hW, hmd, hMc, hX, hRB, hLF⟩ := id B
  have hm25 : sMd V + 25 ≤ 1000000 := by omega
  have hnv := hS.1
  have hn12 := hX.1.2.1
  have hb1 := hRB.1
  have U2 := id U
  unfold BUD at U2
  have P2 := PC_max hX (fun s h => (hX.2.1 s h).1)
  obtain ⟨u, e_u⟩ : ∃ z, z = G.2.2.2.2.2.2 (5 * c + 1) := ⟨_, rfl⟩
  obtain ⟨i, e_i⟩ : ∃ z, z = G.2.2.2.2.2.2 (5 * c + 2) := ⟨_, rfl⟩
  obtain ⟨e, e_e⟩ : ∃ z, z = G.2.2.2.2.2.2 (5 * c + 3) := ⟨_, rfl⟩
  have hu : ixB u (sNv V) = true → u = nI (tn u) ∧ tn u < sNv V := ix_tn (by omega)
  have hi : ixB i (sSz V (tn u)) = true → i = nI (tn i) ∧ tn i < sSz V (tn u) := ix_tn (by have := hW.1.2.2.2.1 (tn u); omega)
  refine wl_aload_n (i := 1) dL_law_368 rfl (by decide) rfl ?_
  refine wl_cell (i := 5 * c) (k := 1) hw dL_law_369 dL_law_370 dL_law_372 dL_law_373 dL_law_374 rfl (by decide) (c5 hi5 (by decide)) hL ?_
  rw [← e_u]
  refine wl_cell (i := 5 * c) (k := 2) hw dL_law_375 dL_law_376 dL_law_378 dL_law_379 dL_law_380 rfl (by decide) (c5 hi5 (by decide)) hL ?_
  rw [← e_i]
  refine wl_cell (i := 5 * c) (k := 3) hw dL_law_381 dL_law_382 dL_law_384 dL_law_385 dL_law_386 rfl (by decide) (c5 hi5 (by decide)) hL ?_
  rw [← e_e]
  refine wl_aload_n (i := 3) dL_law_387 rfl (by decide) rfl ?_
  refine wl_cSH (y' := m_L_set) [vr (some (nm 40 0)), vi u, vi i, vi e, vr (some (nm 70 0))] [] 30 900 dL_law_388 ml_L_185 st_L_set okH_L_set rfl (Nat.le_of_ble_eq_true rfl) rfl (Nat.le_of_ble_eq_true rfl) (d' := 99) (by decide) (by omega) (by omega) (g_set B hc C A.1   (by decide) (Nat.le_refl _) (Nat.le_refl _) (fun h1 M1 m1 m2 C1 F1 O1 w1 => contL_ret ?_))
  have D1 := D.fc F1
  have J1 := J.fc F1
  have A1 := A.fc F1 O1
  refine wl_istore (i := 6) (lv' := (6, vi (o_set V u (tn u) i (tn i) e).1) :: lvA c) dL_law_391 (by decide) (by decide) rfl ?_
  refine wl_aload_n (i := 2) dL_law_393 rfl (by decide) rfl ?_
  refine wl_cell (i := 5 * c) (k := 1) hw dL_law_394 dL_law_395 dL_law_397 dL_law_398 dL_law_399 rfl (by decide) (c5 hi5 (by decide)) hL ?_
  rw [← e_u]
  refine wl_cell (i := 5 * c) (k := 2) hw dL_law_400 dL_law_401 dL_law_403 dL_law_404 dL_law_405 rfl (by decide) (c5 hi5 (by decide)) hL ?_
  rw [← e_i]
  refine wl_cell (i := 5 * c) (k := 3) hw dL_law_406 dL_law_407 dL_law_409 dL_law_410 dL_law_411 rfl (by decide) (c5 hi5 (by decide)) hL ?_
  rw [← e_e]
  refine wl_cV (y' := m_X16_set) 17 [vi u, vi i, vi e] [] 0 0 dL_law_412 ml_L_188 im_X16_set se_X16_set (by decide) D1.hk ok_X16_set rfl (Nat.le_of_ble_eq_true rfl) rfl (Nat.le_of_ble_eq_true rfl) (d' := 99) (by decide) (by omega) (by omega) (w_set B hc D1 J1  (by decide)  (Nat.le_refl _) (Nat.le_refl _) (fun h2 D2 F2 t2 => contL_ret ?_))
  refine wl_istore (i := 7) (lv' := (7, vi (o_set V u (tn u) i (tn i) e).2.1) :: (6, vi (o_set V u (tn u) i (tn i) e).1) :: lvA c) dL_law_415 (by decide) (by decide) rfl ?_
  refine l_tailI (p := 417) dL_law_417 dL_law_418 dL_law_421 dL_law_423 dL_law_428 dL_law_430 dL_law_433 dL_law_434 dL_law_435 dL_law_436 dL_law_438 dL_law_439 dL_law_440 dL_law_445 (by decide) D2.hk t2 (A1.fg F2).1 (fun z => by rw [F2.out]; exact w1 z) ?_
  exact l_next K (J1.fg F2) (C1.fg F2) D2 (A1.fg F2) (B.v hc m1 m2 (k_set B.1 hu hi) (b_set B.2.1 hm25 )) (by have := U.go hc (mc := 30 + 0) (ms := 900 + 0) (R' := R) (by decide) (by omega); rwa [Nat.sub_add_eq, Nat.sub_add_eq] at this) lvA_in
set_option maxRecDepth 100000 in
set_option maxHeartbeats 4000000 in
theorem x_cut {G : GG} {w c bc bs M n : Nat} {h : Hp} {Q : Pst} {V : SV} {x : Nat → QIS} {R : RS} (hw : w = G.2.2.2.2.1) (hL : slen G < 2 ^ 31) (hi5 : 5 * c + 5 ≤ slen G) (hc : c < 512) (J : JC h) (C : CLS h V M n x R) (D : MDL h V n x R) (A : ARR h) (B : PUR c V M n x R) (U : BUD c n x R bc bs) (K : NXT G w (c + 1) Q) : WL G w m_L_law 100 448 (lvA c) [] h bc bs Q := by
  obtain ⟨hS, hW, hmd, hMc, hX, hRB, hLF⟩ := id B
  have hm25 : sMd V + 25 ≤ 1000000 := by omega
  have hnv := hS.1
  have hn12 := hX.1.2.1
  have hb1 := hRB.1
  have U2 := id U
  unfold BUD at U2
  have P2 := PC_max hX (fun s h => (hX.2.1 s h).1)
  obtain ⟨u, e_u⟩ : ∃ z, z = G.2.2.2.2.2.2 (5 * c + 1) := ⟨_, rfl⟩
  have hu : ixB u (sNv V) = true → u = nI (tn u) ∧ tn u < sNv V := ix_tn (by omega)
  refine wl_aload_n (i := 1) dL_law_448 rfl (by decide) rfl ?_
  refine wl_cell (i := 5 * c) (k := 1) hw dL_law_449 dL_law_450 dL_law_452 dL_law_453 dL_law_454 rfl (by decide) (c5 hi5 (by decide)) hL ?_
  rw [← e_u]
  refine wl_aload_n (i := 3) dL_law_455 rfl (by decide) rfl ?_
  refine wl_cSH (y' := m_L_cut) [vr (some (nm 40 0)), vi u, vr (some (nm 70 0))] [] 30 900 dL_law_456 ml_L_189 st_L_cut okH_L_cut rfl (Nat.le_of_ble_eq_true rfl) rfl (Nat.le_of_ble_eq_true rfl) (d' := 99) (by decide) (by omega) (by omega) (g_cut B hc C A.1   (by decide) (Nat.le_refl _) (Nat.le_refl _) (fun h1 M1 m1 m2 C1 F1 O1 w1 => contL_ret ?_))
  have D1 := D.fc F1
  have J1 := J.fc F1
  have A1 := A.fc F1 O1
  refine wl_istore (i := 6) (lv' := (6, vi (o_cut V u (tn u)).1) :: lvA c) dL_law_459 (by decide) (by decide) rfl ?_
  refine wl_aload_n (i := 2) dL_law_461 rfl (by decide) rfl ?_
  refine wl_cell (i := 5 * c) (k := 1) hw dL_law_462 dL_law_463 dL_law_465 dL_law_466 dL_law_467 rfl (by decide) (c5 hi5 (by decide)) hL ?_
  rw [← e_u]
  refine wl_cV (y' := m_X16_cut) 17 [vi u] [] 0 0 dL_law_468 ml_L_192 im_X16_cut se_X16_cut (by decide) D1.hk ok_X16_cut rfl (Nat.le_of_ble_eq_true rfl) rfl (Nat.le_of_ble_eq_true rfl) (d' := 99) (by decide) (by omega) (by omega) (w_cut B hc D1 J1  (by decide)  (Nat.le_refl _) (Nat.le_refl _) (fun h2 D2 F2 t2 => contL_ret ?_))
  refine wl_istore (i := 7) (lv' := (7, vi (o_cut V u (tn u)).2.1) :: (6, vi (o_cut V u (tn u)).1) :: lvA c) dL_law_471 (by decide) (by decide) rfl ?_
  refine l_tailI (p := 473) dL_law_473 dL_law_474 dL_law_477 dL_law_479 dL_law_484 dL_law_486 dL_law_489 dL_law_490 dL_law_491 dL_law_492 dL_law_494 dL_law_495 dL_law_496 dL_law_501 (by decide) D2.hk t2 (A1.fg F2).1 (fun z => by rw [F2.out]; exact w1 z) ?_
  exact l_next K (J1.fg F2) (C1.fg F2) D2 (A1.fg F2) (B.v hc m1 m2 (k_cut B.1 hu) (b_cut B.2.1 hm25 )) (by have := U.go hc (mc := 30 + 0) (ms := 900 + 0) (R' := R) (by decide) (by omega); rwa [Nat.sub_add_eq, Nat.sub_add_eq] at this) lvA_in
set_option maxRecDepth 100000 in
set_option maxHeartbeats 4000000 in
theorem x_depth {G : GG} {w c bc bs M n : Nat} {h : Hp} {Q : Pst} {V : SV} {x : Nat → QIS} {R : RS} (hw : w = G.2.2.2.2.1) (hL : slen G < 2 ^ 31) (hi5 : 5 * c + 5 ≤ slen G) (hc : c < 512) (J : JC h) (C : CLS h V M n x R) (D : MDL h V n x R) (A : ARR h) (B : PUR c V M n x R) (U : BUD c n x R bc bs) (K : NXT G w (c + 1) Q) : WL G w m_L_law 100 504 (lvA c) [] h bc bs Q := by
  obtain ⟨hS, hW, hmd, hMc, hX, hRB, hLF⟩ := id B
  have hm25 : sMd V + 25 ≤ 1000000 := by omega
  have hnv := hS.1
  have hn12 := hX.1.2.1
  have hb1 := hRB.1
  have U2 := id U
  unfold BUD at U2
  have P2 := PC_max hX (fun s h => (hX.2.1 s h).1)
  obtain ⟨u, e_u⟩ : ∃ z, z = G.2.2.2.2.2.2 (5 * c + 1) := ⟨_, rfl⟩
  have hu : ixB u (sNv V) = true → u = nI (tn u) ∧ tn u < sNv V := ix_tn (by omega)
  refine wl_aload_n (i := 1) dL_law_504 rfl (by decide) rfl ?_
  refine wl_cell (i := 5 * c) (k := 1) hw dL_law_505 dL_law_506 dL_law_508 dL_law_509 dL_law_510 rfl (by decide) (c5 hi5 (by decide)) hL ?_
  rw [← e_u]
  refine wl_aload_n (i := 3) dL_law_511 rfl (by decide) rfl ?_
  refine wl_cSH (y' := m_L_depth) [vr (some (nm 40 0)), vi u, vr (some (nm 70 0))] [] 30 900 dL_law_512 ml_L_193 st_L_depth okH_L_depth rfl (Nat.le_of_ble_eq_true rfl) rfl (Nat.le_of_ble_eq_true rfl) (d' := 99) (by decide) (by omega) (by omega) (g_depth B hc C A.1   (by decide) (Nat.le_refl _) (Nat.le_refl _) (fun h1 M1 m1 m2 C1 F1 O1 w1 => contL_ret ?_))
  have D1 := D.fc F1
  have J1 := J.fc F1
  have A1 := A.fc F1 O1
  refine wl_istore (i := 6) (lv' := (6, vi (o_depth V u (tn u)).1) :: lvA c) dL_law_515 (by decide) (by decide) rfl ?_
  refine wl_aload_n (i := 2) dL_law_517 rfl (by decide) rfl ?_
  refine wl_cell (i := 5 * c) (k := 1) hw dL_law_518 dL_law_519 dL_law_521 dL_law_522 dL_law_523 rfl (by decide) (c5 hi5 (by decide)) hL ?_
  rw [← e_u]
  refine wl_cV (y' := m_X16_depth) 17 [vi u] [] 0 0 dL_law_524 ml_L_195 im_X16_depth se_X16_depth (by decide) D1.hk ok_X16_depth rfl (Nat.le_of_ble_eq_true rfl) rfl (Nat.le_of_ble_eq_true rfl) (d' := 99) (by decide) (by omega) (by omega) (w_depth B hc D1 J1  (by decide)  (Nat.le_refl _) (Nat.le_refl _) (fun h2 D2 F2 t2 => contL_ret ?_))
  refine wl_istore (i := 7) (lv' := (7, vi (o_depth V u (tn u)).2.1) :: (6, vi (o_depth V u (tn u)).1) :: lvA c) dL_law_527 (by decide) (by decide) rfl ?_
  refine l_tailI (p := 529) dL_law_529 dL_law_530 dL_law_533 dL_law_535 dL_law_540 dL_law_542 dL_law_545 dL_law_546 dL_law_547 dL_law_548 dL_law_550 dL_law_551 dL_law_552 dL_law_557 (by decide) D2.hk t2 (A1.fg F2).1 (fun z => by rw [F2.out]; exact w1 z) ?_
  exact l_next K (J1.fg F2) (C1.fg F2) D2 (A1.fg F2) (by rw [r_depth]; exact B.same hc m1 m2) (by have := U.go hc (mc := 30 + 0) (ms := 900 + 0) (R' := R) (by decide) (by omega); rwa [Nat.sub_add_eq, Nat.sub_add_eq] at this) lvA_in
set_option maxRecDepth 100000 in
set_option maxHeartbeats 4000000 in
theorem x_open {G : GG} {w c bc bs M n : Nat} {h : Hp} {Q : Pst} {V : SV} {x : Nat → QIS} {R : RS} (hw : w = G.2.2.2.2.1) (hL : slen G < 2 ^ 31) (hi5 : 5 * c + 5 ≤ slen G) (hc : c < 512) (J : JC h) (C : CLS h V M n x R) (D : MDL h V n x R) (A : ARR h) (B : PUR c V M n x R) (U : BUD c n x R bc bs) (K : NXT G w (c + 1) Q) : WL G w m_L_law 100 560 (lvA c) [] h bc bs Q := by
  obtain ⟨hS, hW, hmd, hMc, hX, hRB, hLF⟩ := id B
  have hm25 : sMd V + 25 ≤ 1000000 := by omega
  have hnv := hS.1
  have hn12 := hX.1.2.1
  have hb1 := hRB.1
  have U2 := id U
  unfold BUD at U2
  have P2 := PC_max hX (fun s h => (hX.2.1 s h).1)
  obtain ⟨u, e_u⟩ : ∃ z, z = G.2.2.2.2.2.2 (5 * c + 1) := ⟨_, rfl⟩
  have hu : ixB u (sNv V) = true → u = nI (tn u) ∧ tn u < sNv V := ix_tn (by omega)
  refine wl_aload_n (i := 1) dL_law_560 rfl (by decide) rfl ?_
  refine wl_cell (i := 5 * c) (k := 1) hw dL_law_561 dL_law_562 dL_law_564 dL_law_565 dL_law_566 rfl (by decide) (c5 hi5 (by decide)) hL ?_
  rw [← e_u]
  refine wl_aload_n (i := 3) dL_law_567 rfl (by decide) rfl ?_
  refine wl_cSH (y' := m_L_open) [vr (some (nm 40 0)), vi u, vr (some (nm 70 0))] [] 30 900 dL_law_568 ml_L_196 st_L_open okH_L_open rfl (Nat.le_of_ble_eq_true rfl) rfl (Nat.le_of_ble_eq_true rfl) (d' := 99) (by decide) (by omega) (by omega) (g_open B hc C A.1   (by decide) (Nat.le_refl _) (Nat.le_refl _) (fun h1 M1 m1 m2 C1 F1 O1 w1 => contL_ret ?_))
  have D1 := D.fc F1
  have J1 := J.fc F1
  have A1 := A.fc F1 O1
  refine wl_istore (i := 6) (lv' := (6, vi (o_open V u (tn u)).1) :: lvA c) dL_law_571 (by decide) (by decide) rfl ?_
  refine wl_aload_n (i := 2) dL_law_573 rfl (by decide) rfl ?_
  refine wl_cell (i := 5 * c) (k := 1) hw dL_law_574 dL_law_575 dL_law_577 dL_law_578 dL_law_579 rfl (by decide) (c5 hi5 (by decide)) hL ?_
  rw [← e_u]
  refine wl_cV (y' := m_X16_open) 17 [vi u] [] 0 0 dL_law_580 ml_L_198 im_X16_open se_X16_open (by decide) D1.hk ok_X16_open rfl (Nat.le_of_ble_eq_true rfl) rfl (Nat.le_of_ble_eq_true rfl) (d' := 99) (by decide) (by omega) (by omega) (w_open B hc D1 J1  (by decide)  (Nat.le_refl _) (Nat.le_refl _) (fun h2 D2 F2 t2 => contL_ret ?_))
  refine wl_istore (i := 7) (lv' := (7, vi (o_open V u (tn u)).2.1) :: (6, vi (o_open V u (tn u)).1) :: lvA c) dL_law_583 (by decide) (by decide) rfl ?_
  refine l_tailI (p := 585) dL_law_585 dL_law_586 dL_law_589 dL_law_591 dL_law_596 dL_law_598 dL_law_601 dL_law_602 dL_law_603 dL_law_604 dL_law_606 dL_law_607 dL_law_608 dL_law_613 (by decide) D2.hk t2 (A1.fg F2).1 (fun z => by rw [F2.out]; exact w1 z) ?_
  exact l_next K (J1.fg F2) (C1.fg F2) D2 (A1.fg F2) (B.v hc m1 m2 (k_open B.1 hu) (b_open B.2.1 hm25 )) (by have := U.go hc (mc := 30 + 0) (ms := 900 + 0) (R' := R) (by decide) (by omega); rwa [Nat.sub_add_eq, Nat.sub_add_eq] at this) lvA_in
set_option maxRecDepth 100000 in
set_option maxHeartbeats 4000000 in
theorem x_appendTo {G : GG} {w c bc bs M n : Nat} {h : Hp} {Q : Pst} {V : SV} {x : Nat → QIS} {R : RS} (hw : w = G.2.2.2.2.1) (hL : slen G < 2 ^ 31) (hi5 : 5 * c + 5 ≤ slen G) (hc : c < 512) (J : JC h) (C : CLS h V M n x R) (D : MDL h V n x R) (A : ARR h) (B : PUR c V M n x R) (U : BUD c n x R bc bs) (K : NXT G w (c + 1) Q) : WL G w m_L_law 100 616 (lvA c) [] h bc bs Q := by
  obtain ⟨hS, hW, hmd, hMc, hX, hRB, hLF⟩ := id B
  have hm25 : sMd V + 25 ≤ 1000000 := by omega
  have hnv := hS.1
  have hn12 := hX.1.2.1
  have hb1 := hRB.1
  have U2 := id U
  unfold BUD at U2
  have P2 := PC_max hX (fun s h => (hX.2.1 s h).1)
  obtain ⟨u, e_u⟩ : ∃ z, z = G.2.2.2.2.2.2 (5 * c + 1) := ⟨_, rfl⟩
  obtain ⟨e, e_e⟩ : ∃ z, z = G.2.2.2.2.2.2 (5 * c + 2) := ⟨_, rfl⟩
  have hu : ixB u (sNv V) = true → u = nI (tn u) ∧ tn u < sNv V := ix_tn (by omega)
  refine wl_aload_n (i := 1) dL_law_616 rfl (by decide) rfl ?_
  refine wl_cell (i := 5 * c) (k := 1) hw dL_law_617 dL_law_618 dL_law_620 dL_law_621 dL_law_622 rfl (by decide) (c5 hi5 (by decide)) hL ?_
  rw [← e_u]
  refine wl_cell (i := 5 * c) (k := 2) hw dL_law_623 dL_law_624 dL_law_626 dL_law_627 dL_law_628 rfl (by decide) (c5 hi5 (by decide)) hL ?_
  rw [← e_e]
  refine wl_aload_n (i := 3) dL_law_629 rfl (by decide) rfl ?_
  refine wl_cSH (y' := m_L_appendTo) [vr (some (nm 40 0)), vi u, vi e, vr (some (nm 70 0))] [] 30 900 dL_law_630 ml_L_199 st_L_appendTo okH_L_appendTo rfl (Nat.le_of_ble_eq_true rfl) rfl (Nat.le_of_ble_eq_true rfl) (d' := 99) (by decide) (by omega) (by omega) (g_appendTo B hc C A.1   (by decide) (Nat.le_refl _) (Nat.le_refl _) (fun h1 M1 m1 m2 C1 F1 O1 w1 => contL_ret ?_))
  have D1 := D.fc F1
  have J1 := J.fc F1
  have A1 := A.fc F1 O1
  refine wl_istore (i := 6) (lv' := (6, vi (o_appendTo V u (tn u) e).1) :: lvA c) dL_law_633 (by decide) (by decide) rfl ?_
  refine wl_aload_n (i := 2) dL_law_635 rfl (by decide) rfl ?_
  refine wl_cell (i := 5 * c) (k := 1) hw dL_law_636 dL_law_637 dL_law_639 dL_law_640 dL_law_641 rfl (by decide) (c5 hi5 (by decide)) hL ?_
  rw [← e_u]
  refine wl_cell (i := 5 * c) (k := 2) hw dL_law_642 dL_law_643 dL_law_645 dL_law_646 dL_law_647 rfl (by decide) (c5 hi5 (by decide)) hL ?_
  rw [← e_e]
  refine wl_cV (y' := m_X16_appendTo) 17 [vi u, vi e] [] 0 0 dL_law_648 ml_L_201 im_X16_appendTo se_X16_appendTo (by decide) D1.hk ok_X16_appendTo rfl (Nat.le_of_ble_eq_true rfl) rfl (Nat.le_of_ble_eq_true rfl) (d' := 99) (by decide) (by omega) (by omega) (w_appendTo B hc D1 J1  (by decide)  (Nat.le_refl _) (Nat.le_refl _) (fun h2 D2 F2 t2 => contL_ret ?_))
  refine wl_istore (i := 7) (lv' := (7, vi (o_appendTo V u (tn u) e).2.1) :: (6, vi (o_appendTo V u (tn u) e).1) :: lvA c) dL_law_651 (by decide) (by decide) rfl ?_
  refine l_tailI (p := 653) dL_law_653 dL_law_654 dL_law_657 dL_law_659 dL_law_664 dL_law_666 dL_law_669 dL_law_670 dL_law_671 dL_law_672 dL_law_674 dL_law_675 dL_law_676 dL_law_681 (by decide) D2.hk t2 (A1.fg F2).1 (fun z => by rw [F2.out]; exact w1 z) ?_
  exact l_next K (J1.fg F2) (C1.fg F2) D2 (A1.fg F2) (B.v hc m1 m2 (k_appendTo B.1 hu) (b_appendTo B.2.1 hm25 )) (by have := U.go hc (mc := 30 + 0) (ms := 900 + 0) (R' := R) (by decide) (by omega); rwa [Nat.sub_add_eq, Nat.sub_add_eq] at this) lvA_in
set_option maxRecDepth 100000 in
set_option maxHeartbeats 4000000 in
theorem x_setIn {G : GG} {w c bc bs M n : Nat} {h : Hp} {Q : Pst} {V : SV} {x : Nat → QIS} {R : RS} (hw : w = G.2.2.2.2.1) (hL : slen G < 2 ^ 31) (hi5 : 5 * c + 5 ≤ slen G) (hc : c < 512) (J : JC h) (C : CLS h V M n x R) (D : MDL h V n x R) (A : ARR h) (B : PUR c V M n x R) (U : BUD c n x R bc bs) (K : NXT G w (c + 1) Q) : WL G w m_L_law 100 684 (lvA c) [] h bc bs Q := by
  obtain ⟨hS, hW, hmd, hMc, hX, hRB, hLF⟩ := id B
  have hm25 : sMd V + 25 ≤ 1000000 := by omega
  have hnv := hS.1
  have hn12 := hX.1.2.1
  have hb1 := hRB.1
  have U2 := id U
  unfold BUD at U2
  have P2 := PC_max hX (fun s h => (hX.2.1 s h).1)
  obtain ⟨u, e_u⟩ : ∃ z, z = G.2.2.2.2.2.2 (5 * c + 1) := ⟨_, rfl⟩
  obtain ⟨i, e_i⟩ : ∃ z, z = G.2.2.2.2.2.2 (5 * c + 2) := ⟨_, rfl⟩
  obtain ⟨e, e_e⟩ : ∃ z, z = G.2.2.2.2.2.2 (5 * c + 3) := ⟨_, rfl⟩
  have hu : ixB u (sNv V) = true → u = nI (tn u) ∧ tn u < sNv V := ix_tn (by omega)
  have hi : ixB i (sSz V (tn u)) = true → i = nI (tn i) ∧ tn i < sSz V (tn u) := ix_tn (by have := hW.1.2.2.2.1 (tn u); omega)
  refine wl_aload_n (i := 1) dL_law_684 rfl (by decide) rfl ?_
  refine wl_cell (i := 5 * c) (k := 1) hw dL_law_685 dL_law_686 dL_law_688 dL_law_689 dL_law_690 rfl (by decide) (c5 hi5 (by decide)) hL ?_
  rw [← e_u]
  refine wl_cell (i := 5 * c) (k := 2) hw dL_law_691 dL_law_692 dL_law_694 dL_law_695 dL_law_696 rfl (by decide) (c5 hi5 (by decide)) hL ?_
  rw [← e_i]
  refine wl_cell (i := 5 * c) (k := 3) hw dL_law_697 dL_law_698 dL_law_700 dL_law_701 dL_law_702 rfl (by decide) (c5 hi5 (by decide)) hL ?_
  rw [← e_e]
  refine wl_aload_n (i := 3) dL_law_703 rfl (by decide) rfl ?_
  refine wl_cSH (y' := m_L_setIn) [vr (some (nm 40 0)), vi u, vi i, vi e, vr (some (nm 70 0))] [] 30 900 dL_law_704 ml_L_202 st_L_setIn okH_L_setIn rfl (Nat.le_of_ble_eq_true rfl) rfl (Nat.le_of_ble_eq_true rfl) (d' := 99) (by decide) (by omega) (by omega) (g_setIn B hc C A.1   (by decide) (Nat.le_refl _) (Nat.le_refl _) (fun h1 M1 m1 m2 C1 F1 O1 w1 => contL_ret ?_))
  have D1 := D.fc F1
  have J1 := J.fc F1
  have A1 := A.fc F1 O1
  refine wl_istore (i := 6) (lv' := (6, vi (o_setIn V u (tn u) i (tn i) e).1) :: lvA c) dL_law_707 (by decide) (by decide) rfl ?_
  refine wl_aload_n (i := 2) dL_law_709 rfl (by decide) rfl ?_
  refine wl_cell (i := 5 * c) (k := 1) hw dL_law_710 dL_law_711 dL_law_713 dL_law_714 dL_law_715 rfl (by decide) (c5 hi5 (by decide)) hL ?_
  rw [← e_u]
  refine wl_cell (i := 5 * c) (k := 2) hw dL_law_716 dL_law_717 dL_law_719 dL_law_720 dL_law_721 rfl (by decide) (c5 hi5 (by decide)) hL ?_
  rw [← e_i]
  refine wl_cell (i := 5 * c) (k := 3) hw dL_law_722 dL_law_723 dL_law_725 dL_law_726 dL_law_727 rfl (by decide) (c5 hi5 (by decide)) hL ?_
  rw [← e_e]
  refine wl_cV (y' := m_X16_setIn) 17 [vi u, vi i, vi e] [] 0 0 dL_law_728 ml_L_204 im_X16_setIn se_X16_setIn (by decide) D1.hk ok_X16_setIn rfl (Nat.le_of_ble_eq_true rfl) rfl (Nat.le_of_ble_eq_true rfl) (d' := 99) (by decide) (by omega) (by omega) (w_setIn B hc D1 J1  (by decide)  (Nat.le_refl _) (Nat.le_refl _) (fun h2 D2 F2 t2 => contL_ret ?_))
  refine wl_istore (i := 7) (lv' := (7, vi (o_setIn V u (tn u) i (tn i) e).2.1) :: (6, vi (o_setIn V u (tn u) i (tn i) e).1) :: lvA c) dL_law_731 (by decide) (by decide) rfl ?_
  refine l_tailI (p := 733) dL_law_733 dL_law_734 dL_law_737 dL_law_739 dL_law_744 dL_law_746 dL_law_749 dL_law_750 dL_law_751 dL_law_752 dL_law_754 dL_law_755 dL_law_756 dL_law_761 (by decide) D2.hk t2 (A1.fg F2).1 (fun z => by rw [F2.out]; exact w1 z) ?_
  exact l_next K (J1.fg F2) (C1.fg F2) D2 (A1.fg F2) (B.v hc m1 m2 (k_setIn B.1 hu hi) (b_setIn B.2.1 hm25 hi)) (by have := U.go hc (mc := 30 + 0) (ms := 900 + 0) (R' := R) (by decide) (by omega); rwa [Nat.sub_add_eq, Nat.sub_add_eq] at this) lvA_in
set_option maxRecDepth 100000 in
set_option maxHeartbeats 4000000 in
theorem x_makeLasting {G : GG} {w c bc bs M n : Nat} {h : Hp} {Q : Pst} {V : SV} {x : Nat → QIS} {R : RS} (hw : w = G.2.2.2.2.1) (hL : slen G < 2 ^ 31) (hi5 : 5 * c + 5 ≤ slen G) (hc : c < 512) (J : JC h) (C : CLS h V M n x R) (D : MDL h V n x R) (A : ARR h) (B : PUR c V M n x R) (U : BUD c n x R bc bs) (K : NXT G w (c + 1) Q) : WL G w m_L_law 100 764 (lvA c) [] h bc bs Q := by
  obtain ⟨hS, hW, hmd, hMc, hX, hRB, hLF⟩ := id B
  have hm25 : sMd V + 25 ≤ 1000000 := by omega
  have hnv := hS.1
  have hn12 := hX.1.2.1
  have hb1 := hRB.1
  have U2 := id U
  unfold BUD at U2
  have P2 := PC_max hX (fun s h => (hX.2.1 s h).1)
  obtain ⟨u, e_u⟩ : ∃ z, z = G.2.2.2.2.2.2 (5 * c + 1) := ⟨_, rfl⟩
  have hu : ixB u (sNv V) = true → u = nI (tn u) ∧ tn u < sNv V := ix_tn (by omega)
  refine wl_aload_n (i := 1) dL_law_764 rfl (by decide) rfl ?_
  refine wl_cell (i := 5 * c) (k := 1) hw dL_law_765 dL_law_766 dL_law_768 dL_law_769 dL_law_770 rfl (by decide) (c5 hi5 (by decide)) hL ?_
  rw [← e_u]
  refine wl_aload_n (i := 3) dL_law_771 rfl (by decide) rfl ?_
  refine wl_cSH (y' := m_L_makeLasting) [vr (some (nm 40 0)), vi u, vr (some (nm 70 0))] [] 30 900 dL_law_772 ml_L_205 st_L_makeLasting okH_L_makeLasting rfl (Nat.le_of_ble_eq_true rfl) rfl (Nat.le_of_ble_eq_true rfl) (d' := 99) (by decide) (by omega) (by omega) (g_makeLasting B hc C A.1   (by decide) (Nat.le_refl _) (Nat.le_refl _) (fun h1 M1 m1 m2 C1 F1 O1 w1 => contL_ret ?_))
  have D1 := D.fc F1
  have J1 := J.fc F1
  have A1 := A.fc F1 O1
  refine wl_istore (i := 6) (lv' := (6, vi (o_lasting V u (tn u)).1) :: lvA c) dL_law_775 (by decide) (by decide) rfl ?_
  refine wl_aload_n (i := 2) dL_law_777 rfl (by decide) rfl ?_
  refine wl_cell (i := 5 * c) (k := 1) hw dL_law_778 dL_law_779 dL_law_781 dL_law_782 dL_law_783 rfl (by decide) (c5 hi5 (by decide)) hL ?_
  rw [← e_u]
  refine wl_cV (y' := m_X16_makeLasting) 17 [vi u] [] 0 0 dL_law_784 ml_L_207 im_X16_makeLasting se_X16_makeLasting (by decide) D1.hk ok_X16_makeLasting rfl (Nat.le_of_ble_eq_true rfl) rfl (Nat.le_of_ble_eq_true rfl) (d' := 99) (by decide) (by omega) (by omega) (w_makeLasting B hc D1 J1  (by decide)  (Nat.le_refl _) (Nat.le_refl _) (fun h2 D2 F2 t2 => contL_ret ?_))
  refine wl_istore (i := 7) (lv' := (7, vi (o_lasting V u (tn u)).2.1) :: (6, vi (o_lasting V u (tn u)).1) :: lvA c) dL_law_787 (by decide) (by decide) rfl ?_
  refine l_tailI (p := 789) dL_law_789 dL_law_790 dL_law_793 dL_law_795 dL_law_800 dL_law_802 dL_law_805 dL_law_806 dL_law_807 dL_law_808 dL_law_810 dL_law_811 dL_law_812 dL_law_817 (by decide) D2.hk t2 (A1.fg F2).1 (fun z => by rw [F2.out]; exact w1 z) ?_
  exact l_next K (J1.fg F2) (C1.fg F2) D2 (A1.fg F2) (B.v hc m1 m2 (k_lasting B.1 hu) (b_lasting B.2.1 hm25 )) (by have := U.go hc (mc := 30 + 0) (ms := 900 + 0) (R' := R) (by decide) (by omega); rwa [Nat.sub_add_eq, Nat.sub_add_eq] at this) lvA_in
set_option maxRecDepth 100000 in
set_option maxHeartbeats 4000000 in
theorem x_isOpen {G : GG} {w c bc bs M n : Nat} {h : Hp} {Q : Pst} {V : SV} {x : Nat → QIS} {R : RS} (hw : w = G.2.2.2.2.1) (hL : slen G < 2 ^ 31) (hi5 : 5 * c + 5 ≤ slen G) (hc : c < 512) (J : JC h) (C : CLS h V M n x R) (D : MDL h V n x R) (A : ARR h) (B : PUR c V M n x R) (U : BUD c n x R bc bs) (K : NXT G w (c + 1) Q) : WL G w m_L_law 100 820 (lvA c) [] h bc bs Q := by
  obtain ⟨hS, hW, hmd, hMc, hX, hRB, hLF⟩ := id B
  have hm25 : sMd V + 25 ≤ 1000000 := by omega
  have hnv := hS.1
  have hn12 := hX.1.2.1
  have hb1 := hRB.1
  have U2 := id U
  unfold BUD at U2
  have P2 := PC_max hX (fun s h => (hX.2.1 s h).1)
  obtain ⟨u, e_u⟩ : ∃ z, z = G.2.2.2.2.2.2 (5 * c + 1) := ⟨_, rfl⟩
  have hu : ixB u (sNv V) = true → u = nI (tn u) ∧ tn u < sNv V := ix_tn (by omega)
  refine wl_aload_n (i := 1) dL_law_820 rfl (by decide) rfl ?_
  refine wl_cell (i := 5 * c) (k := 1) hw dL_law_821 dL_law_822 dL_law_824 dL_law_825 dL_law_826 rfl (by decide) (c5 hi5 (by decide)) hL ?_
  rw [← e_u]
  refine wl_aload_n (i := 3) dL_law_827 rfl (by decide) rfl ?_
  refine wl_cSH (y' := m_L_isOpen) [vr (some (nm 40 0)), vi u, vr (some (nm 70 0))] [] 30 900 dL_law_828 ml_L_208 st_L_isOpen okH_L_isOpen rfl (Nat.le_of_ble_eq_true rfl) rfl (Nat.le_of_ble_eq_true rfl) (d' := 99) (by decide) (by omega) (by omega) (g_isOpen B hc C A.1   (by decide) (Nat.le_refl _) (Nat.le_refl _) (fun h1 M1 m1 m2 C1 F1 O1 w1 => contL_ret ?_))
  have D1 := D.fc F1
  have J1 := J.fc F1
  have A1 := A.fc F1 O1
  refine wl_istore (i := 6) (lv' := (6, vi (o_isOpen V u (tn u)).1) :: lvA c) dL_law_831 (by decide) (by decide) rfl ?_
  refine wl_aload_n (i := 2) dL_law_833 rfl (by decide) rfl ?_
  refine wl_cell (i := 5 * c) (k := 1) hw dL_law_834 dL_law_835 dL_law_837 dL_law_838 dL_law_839 rfl (by decide) (c5 hi5 (by decide)) hL ?_
  rw [← e_u]
  refine wl_cV (y' := m_X16_isOpen) 17 [vi u] [] 0 0 dL_law_840 ml_L_210 im_X16_isOpen se_X16_isOpen (by decide) D1.hk ok_X16_isOpen rfl (Nat.le_of_ble_eq_true rfl) rfl (Nat.le_of_ble_eq_true rfl) (d' := 99) (by decide) (by omega) (by omega) (w_isOpen B hc D1 J1  (by decide)  (Nat.le_refl _) (Nat.le_refl _) (fun h2 D2 F2 t2 => contL_ret ?_))
  refine wl_istore (i := 7) (lv' := (7, vi (o_isOpen V u (tn u)).2.1) :: (6, vi (o_isOpen V u (tn u)).1) :: lvA c) dL_law_843 (by decide) (by decide) rfl ?_
  refine l_tailB (p := 845) dL_law_845 dL_law_846 dL_law_849 dL_law_851 dL_law_856 dL_law_858 dL_law_861 dL_law_862 dL_law_863 dL_law_864 dL_law_866 dL_law_869 dL_law_870 dL_law_873 dL_law_874 dL_law_875 dL_law_880 (by decide) D2.hk t2 (A1.fg F2).1 (fun z => by rw [F2.out]; exact w1 z) ?_
  exact l_next K (J1.fg F2) (C1.fg F2) D2 (A1.fg F2) (by rw [r_isOpen]; exact B.same hc m1 m2) (by have := U.go hc (mc := 30 + 0) (ms := 900 + 0) (R' := R) (by decide) (by omega); rwa [Nat.sub_add_eq, Nat.sub_add_eq] at this) lvA_in
set_option maxRecDepth 100000 in
set_option maxHeartbeats 4000000 in
theorem x_map {G : GG} {w c bc bs M n : Nat} {h : Hp} {Q : Pst} {V : SV} {x : Nat → QIS} {R : RS} (hw : w = G.2.2.2.2.1) (hL : slen G < 2 ^ 31) (hi5 : 5 * c + 5 ≤ slen G) (hc : c < 512) (J : JC h) (C : CLS h V M n x R) (D : MDL h V n x R) (A : ARR h) (B : PUR c V M n x R) (U : BUD c n x R bc bs) (K : NXT G w (c + 1) Q) : WL G w m_L_law 100 883 (lvA c) [] h bc bs Q := by
  obtain ⟨hS, hW, hmd, hMc, hX, hRB, hLF⟩ := id B
  have hm25 : sMd V + 25 ≤ 1000000 := by omega
  have hnv := hS.1
  have hn12 := hX.1.2.1
  have hb1 := hRB.1
  have U2 := id U
  unfold BUD at U2
  have P2 := PC_max hX (fun s h => (hX.2.1 s h).1)
  refine wl_aload_n (i := 1) dL_law_883 rfl (by decide) rfl ?_
  refine wl_aload_n (i := 3) dL_law_884 rfl (by decide) rfl ?_
  refine wl_cSH (y' := m_L_map) [vr (some (nm 40 0)), vr (some (nm 70 0))] [] 30 900 dL_law_885 ml_L_211 st_L_map okH_L_map rfl (Nat.le_of_ble_eq_true rfl) rfl (Nat.le_of_ble_eq_true rfl) (d' := 99) (by decide) (by omega) (by omega) (g_map B hc C A.1   (by decide) (Nat.le_refl _) (Nat.le_refl _) (fun h1 M1 m1 m2 C1 F1 O1 w1 => contL_ret ?_))
  have D1 := D.fc F1
  have J1 := J.fc F1
  have A1 := A.fc F1 O1
  refine wl_istore (i := 6) (lv' := (6, vi (o_map V).1) :: lvA c) dL_law_888 (by decide) (by decide) rfl ?_
  refine wl_aload_n (i := 2) dL_law_890 rfl (by decide) rfl ?_
  refine wl_cV (y' := m_X16_map) 17 [] [] 0 0 dL_law_891 ml_L_213 im_X16_map se_X16_map (by decide) D1.hk ok_X16_map rfl (Nat.le_of_ble_eq_true rfl) rfl (Nat.le_of_ble_eq_true rfl) (d' := 99) (by decide) (by omega) (by omega) (w_map B hc D1 J1  (by decide)  (Nat.le_refl _) (Nat.le_refl _) (fun h2 D2 F2 t2 => contL_ret ?_))
  refine wl_istore (i := 7) (lv' := (7, vi (o_map V).2.1) :: (6, vi (o_map V).1) :: lvA c) dL_law_894 (by decide) (by decide) rfl ?_
  refine l_tailI (p := 896) dL_law_896 dL_law_897 dL_law_900 dL_law_902 dL_law_907 dL_law_909 dL_law_912 dL_law_913 dL_law_914 dL_law_915 dL_law_917 dL_law_918 dL_law_919 dL_law_924 (by decide) D2.hk t2 (A1.fg F2).1 (fun z => by rw [F2.out]; exact w1 z) ?_
  exact l_next K (J1.fg F2) (C1.fg F2) D2 (A1.fg F2) (B.v hc m1 m2 (k_map B.1 ) (b_map B.2.1 hm25 )) (by have := U.go hc (mc := 30 + 0) (ms := 900 + 0) (R' := R) (by decide) (by omega); rwa [Nat.sub_add_eq, Nat.sub_add_eq] at this) lvA_in
set_option maxRecDepth 100000 in
set_option maxHeartbeats 4000000 in
theorem x_put {G : GG} {w c bc bs M n : Nat} {h : Hp} {Q : Pst} {V : SV} {x : Nat → QIS} {R : RS} (hw : w = G.2.2.2.2.1) (hL : slen G < 2 ^ 31) (hi5 : 5 * c + 5 ≤ slen G) (hc : c < 512) (J : JC h) (C : CLS h V M n x R) (D : MDL h V n x R) (A : ARR h) (B : PUR c V M n x R) (U : BUD c n x R bc bs) (K : NXT G w (c + 1) Q) : WL G w m_L_law 100 927 (lvA c) [] h bc bs Q := by
  obtain ⟨hS, hW, hmd, hMc, hX, hRB, hLF⟩ := id B
  have hm25 : sMd V + 25 ≤ 1000000 := by omega
  have hnv := hS.1
  have hn12 := hX.1.2.1
  have hb1 := hRB.1
  have U2 := id U
  unfold BUD at U2
  have P2 := PC_max hX (fun s h => (hX.2.1 s h).1)
  obtain ⟨u, e_u⟩ : ∃ z, z = G.2.2.2.2.2.2 (5 * c + 1) := ⟨_, rfl⟩
  obtain ⟨w, e_w⟩ : ∃ z, z = G.2.2.2.2.2.2 (5 * c + 2) := ⟨_, rfl⟩
  obtain ⟨e, e_e⟩ : ∃ z, z = G.2.2.2.2.2.2 (5 * c + 3) := ⟨_, rfl⟩
  have hu : ixB u (sNv V) = true → u = nI (tn u) ∧ tn u < sNv V := ix_tn (by omega)
  refine wl_aload_n (i := 1) dL_law_927 rfl (by decide) rfl ?_
  refine wl_cell (i := 5 * c) (k := 1) hw dL_law_928 dL_law_929 dL_law_931 dL_law_932 dL_law_933 rfl (by decide) (c5 hi5 (by decide)) hL ?_
  rw [← e_u]
  refine wl_cell (i := 5 * c) (k := 2) hw dL_law_934 dL_law_935 dL_law_937 dL_law_938 dL_law_939 rfl (by decide) (c5 hi5 (by decide)) hL ?_
  rw [← e_w]
  refine wl_cell (i := 5 * c) (k := 3) hw dL_law_940 dL_law_941 dL_law_943 dL_law_944 dL_law_945 rfl (by decide) (c5 hi5 (by decide)) hL ?_
  rw [← e_e]
  refine wl_aload_n (i := 3) dL_law_946 rfl (by decide) rfl ?_
  refine wl_cSH (y' := m_L_put) [vr (some (nm 40 0)), vi u, vi w, vi e, vr (some (nm 70 0))] [] 30 900 dL_law_947 ml_L_214 st_L_put okH_L_put rfl (Nat.le_of_ble_eq_true rfl) rfl (Nat.le_of_ble_eq_true rfl) (d' := 99) (by decide) (by omega) (by omega) (g_put B hc C A.1   (by decide) (Nat.le_refl _) (Nat.le_refl _) (fun h1 M1 m1 m2 C1 F1 O1 w1 => contL_ret ?_))
  have D1 := D.fc F1
  have J1 := J.fc F1
  have A1 := A.fc F1 O1
  refine wl_istore (i := 6) (lv' := (6, vi (o_put V u (tn u) w (tn w) e).1) :: lvA c) dL_law_950 (by decide) (by decide) rfl ?_
  refine wl_aload_n (i := 2) dL_law_952 rfl (by decide) rfl ?_
  refine wl_cell (i := 5 * c) (k := 1) hw dL_law_953 dL_law_954 dL_law_956 dL_law_957 dL_law_958 rfl (by decide) (c5 hi5 (by decide)) hL ?_
  rw [← e_u]
  refine wl_cell (i := 5 * c) (k := 2) hw dL_law_959 dL_law_960 dL_law_962 dL_law_963 dL_law_964 rfl (by decide) (c5 hi5 (by decide)) hL ?_
  rw [← e_w]
  refine wl_cell (i := 5 * c) (k := 3) hw dL_law_965 dL_law_966 dL_law_968 dL_law_969 dL_law_970 rfl (by decide) (c5 hi5 (by decide)) hL ?_
  rw [← e_e]
  refine wl_cV (y' := m_X16_put) 17 [vi u, vi w, vi e] [] 0 0 dL_law_971 ml_L_216 im_X16_put se_X16_put (by decide) D1.hk ok_X16_put rfl (Nat.le_of_ble_eq_true rfl) rfl (Nat.le_of_ble_eq_true rfl) (d' := 99) (by decide) (by omega) (by omega) (w_put B hc D1 J1  (by decide)  (Nat.le_refl _) (Nat.le_refl _) (fun h2 D2 F2 t2 => contL_ret ?_))
  refine wl_istore (i := 7) (lv' := (7, vi (o_put V u (tn u) w (tn w) e).2.1) :: (6, vi (o_put V u (tn u) w (tn w) e).1) :: lvA c) dL_law_974 (by decide) (by decide) rfl ?_
  refine l_tailI (p := 976) dL_law_976 dL_law_977 dL_law_980 dL_law_982 dL_law_987 dL_law_989 dL_law_992 dL_law_993 dL_law_994 dL_law_995 dL_law_997 dL_law_998 dL_law_999 dL_law_1004 (by decide) D2.hk t2 (A1.fg F2).1 (fun z => by rw [F2.out]; exact w1 z) ?_
  exact l_next K (J1.fg F2) (C1.fg F2) D2 (A1.fg F2) (B.v hc m1 m2 (k_put B.1 hu (ix_tn (by decide))) (b_put B.2.1 hm25 (fun z => PVi.h40 B.1 (hu z).2))) (by have := U.go hc (mc := 30 + 0) (ms := 900 + 0) (R' := R) (by decide) (by omega); rwa [Nat.sub_add_eq, Nat.sub_add_eq] at this) lvA_in
set_option maxRecDepth 100000 in
set_option maxHeartbeats 4000000 in
theorem x_without {G : GG} {w c bc bs M n : Nat} {h : Hp} {Q : Pst} {V : SV} {x : Nat → QIS} {R : RS} (hw : w = G.2.2.2.2.1) (hL : slen G < 2 ^ 31) (hi5 : 5 * c + 5 ≤ slen G) (hc : c < 512) (J : JC h) (C : CLS h V M n x R) (D : MDL h V n x R) (A : ARR h) (B : PUR c V M n x R) (U : BUD c n x R bc bs) (K : NXT G w (c + 1) Q) : WL G w m_L_law 100 1007 (lvA c) [] h bc bs Q := by
  obtain ⟨hS, hW, hmd, hMc, hX, hRB, hLF⟩ := id B
  have hm25 : sMd V + 25 ≤ 1000000 := by omega
  have hnv := hS.1
  have hn12 := hX.1.2.1
  have hb1 := hRB.1
  have U2 := id U
  unfold BUD at U2
  have P2 := PC_max hX (fun s h => (hX.2.1 s h).1)
  obtain ⟨u, e_u⟩ : ∃ z, z = G.2.2.2.2.2.2 (5 * c + 1) := ⟨_, rfl⟩
  obtain ⟨w, e_w⟩ : ∃ z, z = G.2.2.2.2.2.2 (5 * c + 2) := ⟨_, rfl⟩
  have hu : ixB u (sNv V) = true → u = nI (tn u) ∧ tn u < sNv V := ix_tn (by omega)
  refine wl_aload_n (i := 1) dL_law_1007 rfl (by decide) rfl ?_
  refine wl_cell (i := 5 * c) (k := 1) hw dL_law_1008 dL_law_1009 dL_law_1011 dL_law_1012 dL_law_1013 rfl (by decide) (c5 hi5 (by decide)) hL ?_
  rw [← e_u]
  refine wl_cell (i := 5 * c) (k := 2) hw dL_law_1014 dL_law_1015 dL_law_1017 dL_law_1018 dL_law_1019 rfl (by decide) (c5 hi5 (by decide)) hL ?_
  rw [← e_w]
  refine wl_aload_n (i := 3) dL_law_1020 rfl (by decide) rfl ?_
  refine wl_cSH (y' := m_L_without) [vr (some (nm 40 0)), vi u, vi w, vr (some (nm 70 0))] [] 30 900 dL_law_1021 ml_L_217 st_L_without okH_L_without rfl (Nat.le_of_ble_eq_true rfl) rfl (Nat.le_of_ble_eq_true rfl) (d' := 99) (by decide) (by omega) (by omega) (g_without B hc C A.1   (by decide) (Nat.le_refl _) (Nat.le_refl _) (fun h1 M1 m1 m2 C1 F1 O1 w1 => contL_ret ?_))
  have D1 := D.fc F1
  have J1 := J.fc F1
  have A1 := A.fc F1 O1
  refine wl_istore (i := 6) (lv' := (6, vi (o_without V u (tn u) w (tn w)).1) :: lvA c) dL_law_1024 (by decide) (by decide) rfl ?_
  refine wl_aload_n (i := 2) dL_law_1026 rfl (by decide) rfl ?_
  refine wl_cell (i := 5 * c) (k := 1) hw dL_law_1027 dL_law_1028 dL_law_1030 dL_law_1031 dL_law_1032 rfl (by decide) (c5 hi5 (by decide)) hL ?_
  rw [← e_u]
  refine wl_cell (i := 5 * c) (k := 2) hw dL_law_1033 dL_law_1034 dL_law_1036 dL_law_1037 dL_law_1038 rfl (by decide) (c5 hi5 (by decide)) hL ?_
  rw [← e_w]
  refine wl_cV (y' := m_X16_without) 17 [vi u, vi w] [] 0 0 dL_law_1039 ml_L_219 im_X16_without se_X16_without (by decide) D1.hk ok_X16_without rfl (Nat.le_of_ble_eq_true rfl) rfl (Nat.le_of_ble_eq_true rfl) (d' := 99) (by decide) (by omega) (by omega) (w_without B hc D1 J1  (by decide)  (Nat.le_refl _) (Nat.le_refl _) (fun h2 D2 F2 t2 => contL_ret ?_))
  refine wl_istore (i := 7) (lv' := (7, vi (o_without V u (tn u) w (tn w)).2.1) :: (6, vi (o_without V u (tn u) w (tn w)).1) :: lvA c) dL_law_1042 (by decide) (by decide) rfl ?_
  refine l_tailI (p := 1044) dL_law_1044 dL_law_1045 dL_law_1048 dL_law_1050 dL_law_1055 dL_law_1057 dL_law_1060 dL_law_1061 dL_law_1062 dL_law_1063 dL_law_1065 dL_law_1066 dL_law_1067 dL_law_1072 (by decide) D2.hk t2 (A1.fg F2).1 (fun z => by rw [F2.out]; exact w1 z) ?_
  exact l_next K (J1.fg F2) (C1.fg F2) D2 (A1.fg F2) (B.v hc m1 m2 (k_without B.1 hu (ix_tn (by decide))) (b_without B.2.1 hm25 )) (by have := U.go hc (mc := 30 + 0) (ms := 900 + 0) (R' := R) (by decide) (by omega); rwa [Nat.sub_add_eq, Nat.sub_add_eq] at this) lvA_in
set_option maxRecDepth 100000 in
set_option maxHeartbeats 4000000 in
theorem x_get {G : GG} {w c bc bs M n : Nat} {h : Hp} {Q : Pst} {V : SV} {x : Nat → QIS} {R : RS} (hw : w = G.2.2.2.2.1) (hL : slen G < 2 ^ 31) (hi5 : 5 * c + 5 ≤ slen G) (hc : c < 512) (J : JC h) (C : CLS h V M n x R) (D : MDL h V n x R) (A : ARR h) (B : PUR c V M n x R) (U : BUD c n x R bc bs) (K : NXT G w (c + 1) Q) : WL G w m_L_law 100 1075 (lvA c) [] h bc bs Q := by
  obtain ⟨hS, hW, hmd, hMc, hX, hRB, hLF⟩ := id B
  have hm25 : sMd V + 25 ≤ 1000000 := by omega
  have hnv := hS.1
  have hn12 := hX.1.2.1
  have hb1 := hRB.1
  have U2 := id U
  unfold BUD at U2
  have P2 := PC_max hX (fun s h => (hX.2.1 s h).1)
  obtain ⟨u, e_u⟩ : ∃ z, z = G.2.2.2.2.2.2 (5 * c + 1) := ⟨_, rfl⟩
  obtain ⟨w, e_w⟩ : ∃ z, z = G.2.2.2.2.2.2 (5 * c + 2) := ⟨_, rfl⟩
  have hu : ixB u (sNv V) = true → u = nI (tn u) ∧ tn u < sNv V := ix_tn (by omega)
  refine wl_aload_n (i := 1) dL_law_1075 rfl (by decide) rfl ?_
  refine wl_cell (i := 5 * c) (k := 1) hw dL_law_1076 dL_law_1077 dL_law_1079 dL_law_1080 dL_law_1081 rfl (by decide) (c5 hi5 (by decide)) hL ?_
  rw [← e_u]
  refine wl_cell (i := 5 * c) (k := 2) hw dL_law_1082 dL_law_1083 dL_law_1085 dL_law_1086 dL_law_1087 rfl (by decide) (c5 hi5 (by decide)) hL ?_
  rw [← e_w]
  refine wl_aload_n (i := 3) dL_law_1088 rfl (by decide) rfl ?_
  refine wl_cSH (y' := m_L_get) [vr (some (nm 40 0)), vi u, vi w, vr (some (nm 70 0))] [] 30 900 dL_law_1089 ml_L_220 st_L_get okH_L_get rfl (Nat.le_of_ble_eq_true rfl) rfl (Nat.le_of_ble_eq_true rfl) (d' := 99) (by decide) (by omega) (by omega) (g_get B hc C A.1   (by decide) (Nat.le_refl _) (Nat.le_refl _) (fun h1 M1 m1 m2 C1 F1 O1 w1 => contL_ret ?_))
  have D1 := D.fc F1
  have J1 := J.fc F1
  have A1 := A.fc F1 O1
  refine wl_istore (i := 6) (lv' := (6, vi (o_get V u (tn u) w (tn w)).1) :: lvA c) dL_law_1092 (by decide) (by decide) rfl ?_
  refine wl_aload_n (i := 2) dL_law_1094 rfl (by decide) rfl ?_
  refine wl_cell (i := 5 * c) (k := 1) hw dL_law_1095 dL_law_1096 dL_law_1098 dL_law_1099 dL_law_1100 rfl (by decide) (c5 hi5 (by decide)) hL ?_
  rw [← e_u]
  refine wl_cell (i := 5 * c) (k := 2) hw dL_law_1101 dL_law_1102 dL_law_1104 dL_law_1105 dL_law_1106 rfl (by decide) (c5 hi5 (by decide)) hL ?_
  rw [← e_w]
  refine wl_cV (y' := m_X16_get) 17 [vi u, vi w] [] 0 0 dL_law_1107 ml_L_222 im_X16_get se_X16_get (by decide) D1.hk ok_X16_get rfl (Nat.le_of_ble_eq_true rfl) rfl (Nat.le_of_ble_eq_true rfl) (d' := 99) (by decide) (by omega) (by omega) (w_get B hc D1 J1  (by decide)  (Nat.le_refl _) (Nat.le_refl _) (fun h2 D2 F2 t2 => contL_ret ?_))
  refine wl_istore (i := 7) (lv' := (7, vi (o_get V u (tn u) w (tn w)).2.1) :: (6, vi (o_get V u (tn u) w (tn w)).1) :: lvA c) dL_law_1110 (by decide) (by decide) rfl ?_
  refine l_tailI (p := 1112) dL_law_1112 dL_law_1113 dL_law_1116 dL_law_1118 dL_law_1123 dL_law_1125 dL_law_1128 dL_law_1129 dL_law_1130 dL_law_1131 dL_law_1133 dL_law_1134 dL_law_1135 dL_law_1140 (by decide) D2.hk t2 (A1.fg F2).1 (fun z => by rw [F2.out]; exact w1 z) ?_
  exact l_next K (J1.fg F2) (C1.fg F2) D2 (A1.fg F2) (by rw [r_get]; exact B.same hc m1 m2) (by have := U.go hc (mc := 30 + 0) (ms := 900 + 0) (R' := R) (by decide) (by omega); rwa [Nat.sub_add_eq, Nat.sub_add_eq] at this) lvA_in
set_option maxRecDepth 100000 in
set_option maxHeartbeats 4000000 in
theorem x_getPlain {G : GG} {w c bc bs M n : Nat} {h : Hp} {Q : Pst} {V : SV} {x : Nat → QIS} {R : RS} (hw : w = G.2.2.2.2.1) (hL : slen G < 2 ^ 31) (hi5 : 5 * c + 5 ≤ slen G) (hc : c < 512) (J : JC h) (C : CLS h V M n x R) (D : MDL h V n x R) (A : ARR h) (B : PUR c V M n x R) (U : BUD c n x R bc bs) (K : NXT G w (c + 1) Q) : WL G w m_L_law 100 1143 (lvA c) [] h bc bs Q := by
  obtain ⟨hS, hW, hmd, hMc, hX, hRB, hLF⟩ := id B
  have hm25 : sMd V + 25 ≤ 1000000 := by omega
  have hnv := hS.1
  have hn12 := hX.1.2.1
  have hb1 := hRB.1
  have U2 := id U
  unfold BUD at U2
  have P2 := PC_max hX (fun s h => (hX.2.1 s h).1)
  obtain ⟨u, e_u⟩ : ∃ z, z = G.2.2.2.2.2.2 (5 * c + 1) := ⟨_, rfl⟩
  obtain ⟨w, e_w⟩ : ∃ z, z = G.2.2.2.2.2.2 (5 * c + 2) := ⟨_, rfl⟩
  have hu : ixB u (sNv V) = true → u = nI (tn u) ∧ tn u < sNv V := ix_tn (by omega)
  refine wl_aload_n (i := 1) dL_law_1143 rfl (by decide) rfl ?_
  refine wl_cell (i := 5 * c) (k := 1) hw dL_law_1144 dL_law_1145 dL_law_1147 dL_law_1148 dL_law_1149 rfl (by decide) (c5 hi5 (by decide)) hL ?_
  rw [← e_u]
  refine wl_cell (i := 5 * c) (k := 2) hw dL_law_1150 dL_law_1151 dL_law_1153 dL_law_1154 dL_law_1155 rfl (by decide) (c5 hi5 (by decide)) hL ?_
  rw [← e_w]
  refine wl_aload_n (i := 3) dL_law_1156 rfl (by decide) rfl ?_
  refine wl_cSH (y' := m_L_getPlain) [vr (some (nm 40 0)), vi u, vi w, vr (some (nm 70 0))] [] 30 900 dL_law_1157 ml_L_223 st_L_getPlain okH_L_getPlain rfl (Nat.le_of_ble_eq_true rfl) rfl (Nat.le_of_ble_eq_true rfl) (d' := 99) (by decide) (by omega) (by omega) (g_getPlain B hc C A.1   (by decide) (Nat.le_refl _) (Nat.le_refl _) (fun h1 M1 m1 m2 C1 F1 O1 w1 => contL_ret ?_))
  have D1 := D.fc F1
  have J1 := J.fc F1
  have A1 := A.fc F1 O1
  refine wl_istore (i := 6) (lv' := (6, vi (o_get V u (tn u) w (tn w)).1) :: lvA c) dL_law_1160 (by decide) (by decide) rfl ?_
  refine wl_aload_n (i := 2) dL_law_1162 rfl (by decide) rfl ?_
  refine wl_cell (i := 5 * c) (k := 1) hw dL_law_1163 dL_law_1164 dL_law_1166 dL_law_1167 dL_law_1168 rfl (by decide) (c5 hi5 (by decide)) hL ?_
  rw [← e_u]
  refine wl_cell (i := 5 * c) (k := 2) hw dL_law_1169 dL_law_1170 dL_law_1172 dL_law_1173 dL_law_1174 rfl (by decide) (c5 hi5 (by decide)) hL ?_
  rw [← e_w]
  refine wl_cV (y' := m_X16_getPlain) 17 [vi u, vi w] [] 0 0 dL_law_1175 ml_L_225 im_X16_getPlain se_X16_getPlain (by decide) D1.hk ok_X16_getPlain rfl (Nat.le_of_ble_eq_true rfl) rfl (Nat.le_of_ble_eq_true rfl) (d' := 99) (by decide) (by omega) (by omega) (w_getPlain B hc D1 J1  (by decide)  (Nat.le_refl _) (Nat.le_refl _) (fun h2 D2 F2 t2 => contL_ret ?_))
  refine wl_istore (i := 7) (lv' := (7, vi (o_get V u (tn u) w (tn w)).2.1) :: (6, vi (o_get V u (tn u) w (tn w)).1) :: lvA c) dL_law_1178 (by decide) (by decide) rfl ?_
  refine l_tailI (p := 1180) dL_law_1180 dL_law_1181 dL_law_1184 dL_law_1186 dL_law_1191 dL_law_1193 dL_law_1196 dL_law_1197 dL_law_1198 dL_law_1199 dL_law_1201 dL_law_1202 dL_law_1203 dL_law_1208 (by decide) D2.hk t2 (A1.fg F2).1 (fun z => by rw [F2.out]; exact w1 z) ?_
  exact l_next K (J1.fg F2) (C1.fg F2) D2 (A1.fg F2) (by rw [r_get]; exact B.same hc m1 m2) (by have := U.go hc (mc := 30 + 0) (ms := 900 + 0) (R' := R) (by decide) (by omega); rwa [Nat.sub_add_eq, Nat.sub_add_eq] at this) lvA_in
set_option maxRecDepth 100000 in
set_option maxHeartbeats 4000000 in
theorem x_levelOf {G : GG} {w c bc bs M n : Nat} {h : Hp} {Q : Pst} {V : SV} {x : Nat → QIS} {R : RS} (hw : w = G.2.2.2.2.1) (hL : slen G < 2 ^ 31) (hi5 : 5 * c + 5 ≤ slen G) (hc : c < 512) (J : JC h) (C : CLS h V M n x R) (D : MDL h V n x R) (A : ARR h) (B : PUR c V M n x R) (U : BUD c n x R bc bs) (K : NXT G w (c + 1) Q) : WL G w m_L_law 100 1211 (lvA c) [] h bc bs Q := by
  obtain ⟨hS, hW, hmd, hMc, hX, hRB, hLF⟩ := id B
  have hm25 : sMd V + 25 ≤ 1000000 := by omega
  have hnv := hS.1
  have hn12 := hX.1.2.1
  have hb1 := hRB.1
  have U2 := id U
  unfold BUD at U2
  have P2 := PC_max hX (fun s h => (hX.2.1 s h).1)
  obtain ⟨u, e_u⟩ : ∃ z, z = G.2.2.2.2.2.2 (5 * c + 1) := ⟨_, rfl⟩
  obtain ⟨w, e_w⟩ : ∃ z, z = G.2.2.2.2.2.2 (5 * c + 2) := ⟨_, rfl⟩
  have hu : ixB u (sNv V) = true → u = nI (tn u) ∧ tn u < sNv V := ix_tn (by omega)
  refine wl_aload_n (i := 1) dL_law_1211 rfl (by decide) rfl ?_
  refine wl_cell (i := 5 * c) (k := 1) hw dL_law_1212 dL_law_1213 dL_law_1215 dL_law_1216 dL_law_1217 rfl (by decide) (c5 hi5 (by decide)) hL ?_
  rw [← e_u]
  refine wl_cell (i := 5 * c) (k := 2) hw dL_law_1218 dL_law_1219 dL_law_1221 dL_law_1222 dL_law_1223 rfl (by decide) (c5 hi5 (by decide)) hL ?_
  rw [← e_w]
  refine wl_aload_n (i := 3) dL_law_1224 rfl (by decide) rfl ?_
  refine wl_cSH (y' := m_L_levelOf) [vr (some (nm 40 0)), vi u, vi w, vr (some (nm 70 0))] [] 30 900 dL_law_1225 ml_L_226 st_L_levelOf okH_L_levelOf rfl (Nat.le_of_ble_eq_true rfl) rfl (Nat.le_of_ble_eq_true rfl) (d' := 99) (by decide) (by omega) (by omega) (g_levelOf B hc C A.1   (by decide) (Nat.le_refl _) (Nat.le_refl _) (fun h1 M1 m1 m2 C1 F1 O1 w1 => contL_ret ?_))
  have D1 := D.fc F1
  have J1 := J.fc F1
  have A1 := A.fc F1 O1
  refine wl_istore (i := 6) (lv' := (6, vi (o_levelOf V u (tn u) w (tn w)).1) :: lvA c) dL_law_1228 (by decide) (by decide) rfl ?_
  refine wl_aload_n (i := 2) dL_law_1230 rfl (by decide) rfl ?_
  refine wl_cell (i := 5 * c) (k := 1) hw dL_law_1231 dL_law_1232 dL_law_1234 dL_law_1235 dL_law_1236 rfl (by decide) (c5 hi5 (by decide)) hL ?_
  rw [← e_u]
  refine wl_cell (i := 5 * c) (k := 2) hw dL_law_1237 dL_law_1238 dL_law_1240 dL_law_1241 dL_law_1242 rfl (by decide) (c5 hi5 (by decide)) hL ?_
  rw [← e_w]
  refine wl_cV (y' := m_X16_levelOf) 17 [vi u, vi w] [] 0 0 dL_law_1243 ml_L_228 im_X16_levelOf se_X16_levelOf (by decide) D1.hk ok_X16_levelOf rfl (Nat.le_of_ble_eq_true rfl) rfl (Nat.le_of_ble_eq_true rfl) (d' := 99) (by decide) (by omega) (by omega) (w_levelOf B hc D1 J1  (by decide)  (Nat.le_refl _) (Nat.le_refl _) (fun h2 D2 F2 t2 => contL_ret ?_))
  refine wl_istore (i := 7) (lv' := (7, vi (o_levelOf V u (tn u) w (tn w)).2.1) :: (6, vi (o_levelOf V u (tn u) w (tn w)).1) :: lvA c) dL_law_1246 (by decide) (by decide) rfl ?_
  refine l_tailI (p := 1248) dL_law_1248 dL_law_1249 dL_law_1252 dL_law_1254 dL_law_1259 dL_law_1261 dL_law_1264 dL_law_1265 dL_law_1266 dL_law_1267 dL_law_1269 dL_law_1270 dL_law_1271 dL_law_1276 (by decide) D2.hk t2 (A1.fg F2).1 (fun z => by rw [F2.out]; exact w1 z) ?_
  exact l_next K (J1.fg F2) (C1.fg F2) D2 (A1.fg F2) (by rw [r_levelOf]; exact B.same hc m1 m2) (by have := U.go hc (mc := 30 + 0) (ms := 900 + 0) (R' := R) (by decide) (by omega); rwa [Nat.sub_add_eq, Nat.sub_add_eq] at this) lvA_in
set_option maxRecDepth 100000 in
set_option maxHeartbeats 4000000 in
theorem x_size {G : GG} {w c bc bs M n : Nat} {h : Hp} {Q : Pst} {V : SV} {x : Nat → QIS} {R : RS} (hw : w = G.2.2.2.2.1) (hL : slen G < 2 ^ 31) (hi5 : 5 * c + 5 ≤ slen G) (hc : c < 512) (J : JC h) (C : CLS h V M n x R) (D : MDL h V n x R) (A : ARR h) (B : PUR c V M n x R) (U : BUD c n x R bc bs) (K : NXT G w (c + 1) Q) : WL G w m_L_law 100 1279 (lvA c) [] h bc bs Q := by
  obtain ⟨hS, hW, hmd, hMc, hX, hRB, hLF⟩ := id B
  have hm25 : sMd V + 25 ≤ 1000000 := by omega
  have hnv := hS.1
  have hn12 := hX.1.2.1
  have hb1 := hRB.1
  have U2 := id U
  unfold BUD at U2
  have P2 := PC_max hX (fun s h => (hX.2.1 s h).1)
  obtain ⟨u, e_u⟩ : ∃ z, z = G.2.2.2.2.2.2 (5 * c + 1) := ⟨_, rfl⟩
  have hu : ixB u (sNv V) = true → u = nI (tn u) ∧ tn u < sNv V := ix_tn (by omega)
  refine wl_aload_n (i := 1) dL_law_1279 rfl (by decide) rfl ?_
  refine wl_cell (i := 5 * c) (k := 1) hw dL_law_1280 dL_law_1281 dL_law_1283 dL_law_1284 dL_law_1285 rfl (by decide) (c5 hi5 (by decide)) hL ?_
  rw [← e_u]
  refine wl_aload_n (i := 3) dL_law_1286 rfl (by decide) rfl ?_
  refine wl_cSH (y' := m_L_size) [vr (some (nm 40 0)), vi u, vr (some (nm 70 0))] [] 30 900 dL_law_1287 ml_L_229 st_L_size okH_L_size rfl (Nat.le_of_ble_eq_true rfl) rfl (Nat.le_of_ble_eq_true rfl) (d' := 99) (by decide) (by omega) (by omega) (g_size B hc C A.1   (by decide) (Nat.le_refl _) (Nat.le_refl _) (fun h1 M1 m1 m2 C1 F1 O1 w1 => contL_ret ?_))
  have D1 := D.fc F1
  have J1 := J.fc F1
  have A1 := A.fc F1 O1
  refine wl_istore (i := 6) (lv' := (6, vi (o_size V u (tn u)).1) :: lvA c) dL_law_1290 (by decide) (by decide) rfl ?_
  refine wl_aload_n (i := 2) dL_law_1292 rfl (by decide) rfl ?_
  refine wl_cell (i := 5 * c) (k := 1) hw dL_law_1293 dL_law_1294 dL_law_1296 dL_law_1297 dL_law_1298 rfl (by decide) (c5 hi5 (by decide)) hL ?_
  rw [← e_u]
  refine wl_cV (y' := m_X16_size) 17 [vi u] [] 0 0 dL_law_1299 ml_L_231 im_X16_size se_X16_size (by decide) D1.hk ok_X16_size rfl (Nat.le_of_ble_eq_true rfl) rfl (Nat.le_of_ble_eq_true rfl) (d' := 99) (by decide) (by omega) (by omega) (w_size B hc D1 J1  (by decide)  (Nat.le_refl _) (Nat.le_refl _) (fun h2 D2 F2 t2 => contL_ret ?_))
  refine wl_istore (i := 7) (lv' := (7, vi (o_size V u (tn u)).2.1) :: (6, vi (o_size V u (tn u)).1) :: lvA c) dL_law_1302 (by decide) (by decide) rfl ?_
  refine l_tailI (p := 1304) dL_law_1304 dL_law_1305 dL_law_1308 dL_law_1310 dL_law_1315 dL_law_1317 dL_law_1320 dL_law_1321 dL_law_1322 dL_law_1323 dL_law_1325 dL_law_1326 dL_law_1327 dL_law_1332 (by decide) D2.hk t2 (A1.fg F2).1 (fun z => by rw [F2.out]; exact w1 z) ?_
  exact l_next K (J1.fg F2) (C1.fg F2) D2 (A1.fg F2) (by rw [r_size]; exact B.same hc m1 m2) (by have := U.go hc (mc := 30 + 0) (ms := 900 + 0) (R' := R) (by decide) (by omega); rwa [Nat.sub_add_eq, Nat.sub_add_eq] at this) lvA_in
set_option maxRecDepth 100000 in
set_option maxHeartbeats 4000000 in
theorem x_nodes {G : GG} {w c bc bs M n : Nat} {h : Hp} {Q : Pst} {V : SV} {x : Nat → QIS} {R : RS} (hw : w = G.2.2.2.2.1) (hL : slen G < 2 ^ 31) (hi5 : 5 * c + 5 ≤ slen G) (hc : c < 512) (J : JC h) (C : CLS h V M n x R) (D : MDL h V n x R) (A : ARR h) (B : PUR c V M n x R) (U : BUD c n x R bc bs) (K : NXT G w (c + 1) Q) : WL G w m_L_law 100 1335 (lvA c) [] h bc bs Q := by
  obtain ⟨hS, hW, hmd, hMc, hX, hRB, hLF⟩ := id B
  have hm25 : sMd V + 25 ≤ 1000000 := by omega
  have hnv := hS.1
  have hn12 := hX.1.2.1
  have hb1 := hRB.1
  have U2 := id U
  unfold BUD at U2
  have P2 := PC_max hX (fun s h => (hX.2.1 s h).1)
  obtain ⟨u, e_u⟩ : ∃ z, z = G.2.2.2.2.2.2 (5 * c + 1) := ⟨_, rfl⟩
  have hu : ixB u (sNv V) = true → u = nI (tn u) ∧ tn u < sNv V := ix_tn (by omega)
  refine wl_aload_n (i := 1) dL_law_1335 rfl (by decide) rfl ?_
  refine wl_cell (i := 5 * c) (k := 1) hw dL_law_1336 dL_law_1337 dL_law_1339 dL_law_1340 dL_law_1341 rfl (by decide) (c5 hi5 (by decide)) hL ?_
  rw [← e_u]
  refine wl_aload_n (i := 3) dL_law_1342 rfl (by decide) rfl ?_
  refine wl_cSH (y' := m_L_nodes) [vr (some (nm 40 0)), vi u, vr (some (nm 70 0))] [] 30 900 dL_law_1343 ml_L_232 st_L_nodes okH_L_nodes rfl (Nat.le_of_ble_eq_true rfl) rfl (Nat.le_of_ble_eq_true rfl) (d' := 99) (by decide) (by omega) (by omega) (g_nodes B hc C A.1   (by decide) (Nat.le_refl _) (Nat.le_refl _) (fun h1 M1 m1 m2 C1 F1 O1 w1 => contL_ret ?_))
  have D1 := D.fc F1
  have J1 := J.fc F1
  have A1 := A.fc F1 O1
  refine wl_istore (i := 6) (lv' := (6, vi (o_nodes V u (tn u)).1) :: lvA c) dL_law_1346 (by decide) (by decide) rfl ?_
  refine wl_aload_n (i := 2) dL_law_1348 rfl (by decide) rfl ?_
  refine wl_cell (i := 5 * c) (k := 1) hw dL_law_1349 dL_law_1350 dL_law_1352 dL_law_1353 dL_law_1354 rfl (by decide) (c5 hi5 (by decide)) hL ?_
  rw [← e_u]
  refine wl_cV (y' := m_X16_nodes) 17 [vi u] [] 0 0 dL_law_1355 ml_L_234 im_X16_nodes se_X16_nodes (by decide) D1.hk ok_X16_nodes rfl (Nat.le_of_ble_eq_true rfl) rfl (Nat.le_of_ble_eq_true rfl) (d' := 99) (by decide) (by omega) (by omega) (w_nodes B hc D1 J1  (by decide)  (Nat.le_refl _) (Nat.le_refl _) (fun h2 D2 F2 t2 => contL_ret ?_))
  refine wl_istore (i := 7) (lv' := (7, vi (o_nodes V u (tn u)).2.1) :: (6, vi (o_nodes V u (tn u)).1) :: lvA c) dL_law_1358 (by decide) (by decide) rfl ?_
  refine l_tailI (p := 1360) dL_law_1360 dL_law_1361 dL_law_1364 dL_law_1366 dL_law_1371 dL_law_1373 dL_law_1376 dL_law_1377 dL_law_1378 dL_law_1379 dL_law_1381 dL_law_1382 dL_law_1383 dL_law_1388 (by decide) D2.hk t2 (A1.fg F2).1 (fun z => by rw [F2.out]; exact w1 z) ?_
  exact l_next K (J1.fg F2) (C1.fg F2) D2 (A1.fg F2) (by rw [r_nodes]; exact B.same hc m1 m2) (by have := U.go hc (mc := 30 + 0) (ms := 900 + 0) (R' := R) (by decide) (by omega); rwa [Nat.sub_add_eq, Nat.sub_add_eq] at this) lvA_in
set_option maxRecDepth 100000 in
set_option maxHeartbeats 4000000 in
theorem x_shared {G : GG} {w c bc bs M n : Nat} {h : Hp} {Q : Pst} {V : SV} {x : Nat → QIS} {R : RS} (hw : w = G.2.2.2.2.1) (hL : slen G < 2 ^ 31) (hi5 : 5 * c + 5 ≤ slen G) (hc : c < 512) (J : JC h) (C : CLS h V M n x R) (D : MDL h V n x R) (A : ARR h) (B : PUR c V M n x R) (U : BUD c n x R bc bs) (K : NXT G w (c + 1) Q) : WL G w m_L_law 100 1391 (lvA c) [] h bc bs Q := by
  obtain ⟨hS, hW, hmd, hMc, hX, hRB, hLF⟩ := id B
  have hm25 : sMd V + 25 ≤ 1000000 := by omega
  have hnv := hS.1
  have hn12 := hX.1.2.1
  have hb1 := hRB.1
  have U2 := id U
  unfold BUD at U2
  have P2 := PC_max hX (fun s h => (hX.2.1 s h).1)
  obtain ⟨u, e_u⟩ : ∃ z, z = G.2.2.2.2.2.2 (5 * c + 1) := ⟨_, rfl⟩
  obtain ⟨u2, e_u2⟩ : ∃ z, z = G.2.2.2.2.2.2 (5 * c + 2) := ⟨_, rfl⟩
  have hu : ixB u (sNv V) = true → u = nI (tn u) ∧ tn u < sNv V := ix_tn (by omega)
  refine wl_aload_n (i := 1) dL_law_1391 rfl (by decide) rfl ?_
  refine wl_cell (i := 5 * c) (k := 1) hw dL_law_1392 dL_law_1393 dL_law_1395 dL_law_1396 dL_law_1397 rfl (by decide) (c5 hi5 (by decide)) hL ?_
  rw [← e_u]
  refine wl_cell (i := 5 * c) (k := 2) hw dL_law_1398 dL_law_1399 dL_law_1401 dL_law_1402 dL_law_1403 rfl (by decide) (c5 hi5 (by decide)) hL ?_
  rw [← e_u2]
  refine wl_aload_n (i := 3) dL_law_1404 rfl (by decide) rfl ?_
  refine wl_cSH (y' := m_L_shared) [vr (some (nm 40 0)), vi u, vi u2, vr (some (nm 70 0))] [] 30 900 dL_law_1405 ml_L_235 st_L_shared okH_L_shared rfl (Nat.le_of_ble_eq_true rfl) rfl (Nat.le_of_ble_eq_true rfl) (d' := 99) (by decide) (by omega) (by omega) (g_shared B hc C A.1   (by decide) (Nat.le_refl _) (Nat.le_refl _) (fun h1 M1 m1 m2 C1 F1 O1 w1 => contL_ret ?_))
  have D1 := D.fc F1
  have J1 := J.fc F1
  have A1 := A.fc F1 O1
  refine wl_istore (i := 6) (lv' := (6, vi (o_shared V u (tn u) u2 (tn u2)).1) :: lvA c) dL_law_1408 (by decide) (by decide) rfl ?_
  refine wl_aload_n (i := 2) dL_law_1410 rfl (by decide) rfl ?_
  refine wl_cell (i := 5 * c) (k := 1) hw dL_law_1411 dL_law_1412 dL_law_1414 dL_law_1415 dL_law_1416 rfl (by decide) (c5 hi5 (by decide)) hL ?_
  rw [← e_u]
  refine wl_cell (i := 5 * c) (k := 2) hw dL_law_1417 dL_law_1418 dL_law_1420 dL_law_1421 dL_law_1422 rfl (by decide) (c5 hi5 (by decide)) hL ?_
  rw [← e_u2]
  refine wl_cV (y' := m_X16_shared) 17 [vi u, vi u2] [] 0 0 dL_law_1423 ml_L_237 im_X16_shared se_X16_shared (by decide) D1.hk ok_X16_shared rfl (Nat.le_of_ble_eq_true rfl) rfl (Nat.le_of_ble_eq_true rfl) (d' := 99) (by decide) (by omega) (by omega) (w_shared B hc D1 J1  (by decide)  (Nat.le_refl _) (Nat.le_refl _) (fun h2 D2 F2 t2 => contL_ret ?_))
  refine wl_istore (i := 7) (lv' := (7, vi (o_shared V u (tn u) u2 (tn u2)).2.1) :: (6, vi (o_shared V u (tn u) u2 (tn u2)).1) :: lvA c) dL_law_1426 (by decide) (by decide) rfl ?_
  refine l_tailI (p := 1428) dL_law_1428 dL_law_1429 dL_law_1432 dL_law_1434 dL_law_1439 dL_law_1441 dL_law_1444 dL_law_1445 dL_law_1446 dL_law_1447 dL_law_1449 dL_law_1450 dL_law_1451 dL_law_1456 (by decide) D2.hk t2 (A1.fg F2).1 (fun z => by rw [F2.out]; exact w1 z) ?_
  exact l_next K (J1.fg F2) (C1.fg F2) D2 (A1.fg F2) (by rw [r_shared]; exact B.same hc m1 m2) (by have := U.go hc (mc := 30 + 0) (ms := 900 + 0) (R' := R) (by decide) (by omega); rwa [Nat.sub_add_eq, Nat.sub_add_eq] at this) lvA_in
set_option maxRecDepth 100000 in
set_option maxHeartbeats 4000000 in
theorem x_areSame {G : GG} {w c bc bs M n : Nat} {h : Hp} {Q : Pst} {V : SV} {x : Nat → QIS} {R : RS} (hw : w = G.2.2.2.2.1) (hL : slen G < 2 ^ 31) (hi5 : 5 * c + 5 ≤ slen G) (hc : c < 512) (J : JC h) (C : CLS h V M n x R) (D : MDL h V n x R) (A : ARR h) (B : PUR c V M n x R) (U : BUD c n x R bc bs) (K : NXT G w (c + 1) Q) : WL G w m_L_law 100 1459 (lvA c) [] h bc bs Q := by
  obtain ⟨hS, hW, hmd, hMc, hX, hRB, hLF⟩ := id B
  have hm25 : sMd V + 25 ≤ 1000000 := by omega
  have hnv := hS.1
  have hn12 := hX.1.2.1
  have hb1 := hRB.1
  have U2 := id U
  unfold BUD at U2
  have P2 := PC_max hX (fun s h => (hX.2.1 s h).1)
  obtain ⟨u, e_u⟩ : ∃ z, z = G.2.2.2.2.2.2 (5 * c + 1) := ⟨_, rfl⟩
  obtain ⟨u2, e_u2⟩ : ∃ z, z = G.2.2.2.2.2.2 (5 * c + 2) := ⟨_, rfl⟩
  have hu : ixB u (sNv V) = true → u = nI (tn u) ∧ tn u < sNv V := ix_tn (by omega)
  refine wl_aload_n (i := 1) dL_law_1459 rfl (by decide) rfl ?_
  refine wl_cell (i := 5 * c) (k := 1) hw dL_law_1460 dL_law_1461 dL_law_1463 dL_law_1464 dL_law_1465 rfl (by decide) (c5 hi5 (by decide)) hL ?_
  rw [← e_u]
  refine wl_cell (i := 5 * c) (k := 2) hw dL_law_1466 dL_law_1467 dL_law_1469 dL_law_1470 dL_law_1471 rfl (by decide) (c5 hi5 (by decide)) hL ?_
  rw [← e_u2]
  refine wl_aload_n (i := 3) dL_law_1472 rfl (by decide) rfl ?_
  refine wl_cSH (y' := m_L_areSame) [vr (some (nm 40 0)), vi u, vi u2, vr (some (nm 70 0))] [] 30 900 dL_law_1473 ml_L_238 st_L_areSame okH_L_areSame rfl (Nat.le_of_ble_eq_true rfl) rfl (Nat.le_of_ble_eq_true rfl) (d' := 99) (by decide) (by omega) (by omega) (g_areSame B hc C A.1   (by decide) (Nat.le_refl _) (Nat.le_refl _) (fun h1 M1 m1 m2 C1 F1 O1 w1 => contL_ret ?_))
  have D1 := D.fc F1
  have J1 := J.fc F1
  have A1 := A.fc F1 O1
  refine wl_istore (i := 6) (lv' := (6, vi (o_areSame V u (tn u) u2 (tn u2)).1) :: lvA c) dL_law_1476 (by decide) (by decide) rfl ?_
  refine wl_aload_n (i := 2) dL_law_1478 rfl (by decide) rfl ?_
  refine wl_cell (i := 5 * c) (k := 1) hw dL_law_1479 dL_law_1480 dL_law_1482 dL_law_1483 dL_law_1484 rfl (by decide) (c5 hi5 (by decide)) hL ?_
  rw [← e_u]
  refine wl_cell (i := 5 * c) (k := 2) hw dL_law_1485 dL_law_1486 dL_law_1488 dL_law_1489 dL_law_1490 rfl (by decide) (c5 hi5 (by decide)) hL ?_
  rw [← e_u2]
  refine wl_cV (y' := m_X16_areSame) 17 [vi u, vi u2] [] 0 0 dL_law_1491 ml_L_240 im_X16_areSame se_X16_areSame (by decide) D1.hk ok_X16_areSame rfl (Nat.le_of_ble_eq_true rfl) rfl (Nat.le_of_ble_eq_true rfl) (d' := 99) (by decide) (by omega) (by omega) (w_areSame B hc D1 J1  (by decide)  (Nat.le_refl _) (Nat.le_refl _) (fun h2 D2 F2 t2 => contL_ret ?_))
  refine wl_istore (i := 7) (lv' := (7, vi (o_areSame V u (tn u) u2 (tn u2)).2.1) :: (6, vi (o_areSame V u (tn u) u2 (tn u2)).1) :: lvA c) dL_law_1494 (by decide) (by decide) rfl ?_
  refine l_tailB (p := 1496) dL_law_1496 dL_law_1497 dL_law_1500 dL_law_1502 dL_law_1507 dL_law_1509 dL_law_1512 dL_law_1513 dL_law_1514 dL_law_1515 dL_law_1517 dL_law_1520 dL_law_1521 dL_law_1524 dL_law_1525 dL_law_1526 dL_law_1531 (by decide) D2.hk t2 (A1.fg F2).1 (fun z => by rw [F2.out]; exact w1 z) ?_
  exact l_next K (J1.fg F2) (C1.fg F2) D2 (A1.fg F2) (by rw [r_areSame]; exact B.same hc m1 m2) (by have := U.go hc (mc := 30 + 0) (ms := 900 + 0) (R' := R) (by decide) (by omega); rwa [Nat.sub_add_eq, Nat.sub_add_eq] at this) lvA_in
set_option maxRecDepth 100000 in
set_option maxHeartbeats 4000000 in
theorem x_made {G : GG} {w c bc bs M n : Nat} {h : Hp} {Q : Pst} {V : SV} {x : Nat → QIS} {R : RS} (hw : w = G.2.2.2.2.1) (hL : slen G < 2 ^ 31) (hi5 : 5 * c + 5 ≤ slen G) (hc : c < 512) (J : JC h) (C : CLS h V M n x R) (D : MDL h V n x R) (A : ARR h) (B : PUR c V M n x R) (U : BUD c n x R bc bs) (K : NXT G w (c + 1) Q) : WL G w m_L_law 100 1534 (lvA c) [] h bc bs Q := by
  obtain ⟨hS, hW, hmd, hMc, hX, hRB, hLF⟩ := id B
  have m1 : M ≤ M := Nat.le_refl _
  have m2 : M ≤ M + 1 := Nat.le_succ _
  have U2 := id U
  unfold BUD at U2
  have P2 := PC_max hX (fun s h => (hX.2.1 s h).1)
  refine wl_aload_n (i := 1) dL_law_1534 rfl (by decide) rfl ?_
  obtain ⟨X, HR, HS⟩ := id C.1
  refine wl_cV (y' := m_X11_made) 12 [] [] 0 0 dL_law_1535 ml_L_241 im_X11_made se_X11_made (by decide) C.hk ok_X11_made rfl (Nat.le_of_ble_eq_true rfl) rfl (Nat.le_of_ble_eq_true rfl) (d' := 99) (by decide) (by omega) (by omega) (c_X11_made C.2.2 (contL_ret ?_))
  refine wl_aload_n (i := 2) dL_law_1538 rfl (by decide) rfl ?_
  refine wl_cV (y' := m_X16_made) 17 [] [vl (nI (sMd V)).toInt64] 0 0 dL_law_1539 ml_L_245 im_X16_made se_X16_made (by decide) D.hk ok_X16_made rfl (Nat.le_of_ble_eq_true rfl) rfl (Nat.le_of_ble_eq_true rfl) (d' := 99) (by decide) (by omega) (by omega) (c_X16_made D.1 hW.1 (contL_ret ?_))
  refine wl_lcmp dL_law_1542 ?_
  refine wl_if_eq 3305 dL_law_1543 (by decide) (fun _ => ?_) (fun c9 => absurd (lg_self _) c9)
  have F2 : FG h (wI h (nm 1 0) 0 (nI 0)) := fun a ha => ce_wI (by unfold nm; omega)
  have D2 : MDL (wI h (nm 1 0) 0 (nI 0)) V n x R := ⟨D.1.w0, D.2.1.wI (by decide), D.2.2.1.w0, PO2.m D.2.2.2.1, D.2.2.2.2⟩
  refine l_next K (J.fg F2) (C.fg F2) D2 (A.fg F2) (B.same hc m1 m2) (by have := U.go hc (mc := 0 + 0) (ms := 0 + 0) (R' := R) (by decide) (by omega); rwa [Nat.sub_add_eq, Nat.sub_add_eq] at this) (fun _ z => z)
set_option maxRecDepth 100000 in
set_option maxHeartbeats 4000000 in
theorem x_addReference {G : GG} {w c bc bs M n : Nat} {h : Hp} {Q : Pst} {V : SV} {x : Nat → QIS} {R : RS} (hw : w = G.2.2.2.2.1) (hL : slen G < 2 ^ 31) (hi5 : 5 * c + 5 ≤ slen G) (hc : c < 512) (J : JC h) (C : CLS h V M n x R) (D : MDL h V n x R) (A : ARR h) (B : PUR c V M n x R) (U : BUD c n x R bc bs) (K : NXT G w (c + 1) Q) : WL G w m_L_law 100 2002 (lvA c) [] h bc bs Q := by
  obtain ⟨hS, hW, hmd, hMc, hX, hRB, hLF⟩ := id B
  have hm25 : sMd V + 25 ≤ 1000000 := by omega
  have hnv := hS.1
  have hn12 := hX.1.2.1
  have hb1 := hRB.1
  have U2 := id U
  unfold BUD at U2
  have P2 := PC_max hX (fun s h => (hX.2.1 s h).1)
  obtain ⟨v, e_v⟩ : ∃ z, z = G.2.2.2.2.2.2 (5 * c + 1) := ⟨_, rfl⟩
  obtain ⟨lo, e_lo⟩ : ∃ z, z = G.2.2.2.2.2.2 (5 * c + 2) := ⟨_, rfl⟩
  obtain ⟨hi, e_hi⟩ : ∃ z, z = G.2.2.2.2.2.2 (5 * c + 3) := ⟨_, rfl⟩
  have hfl : flg (o_addReference R v lo hi).2.2 ≤ flg R + 1 := f_addReference.2
  refine wl_aload_n (i := 1) dL_law_2002 rfl (by decide) rfl ?_
  refine wl_cell (i := 5 * c) (k := 1) hw dL_law_2003 dL_law_2004 dL_law_2006 dL_law_2007 dL_law_2008 rfl (by decide) (c5 hi5 (by decide)) hL ?_
  rw [← e_v]
  refine wl_cell (i := 5 * c) (k := 2) hw dL_law_2009 dL_law_2010 dL_law_2012 dL_law_2013 dL_law_2014 rfl (by decide) (c5 hi5 (by decide)) hL ?_
  rw [← e_lo]
  refine wl_cell (i := 5 * c) (k := 3) hw dL_law_2015 dL_law_2016 dL_law_2018 dL_law_2019 dL_law_2020 rfl (by decide) (c5 hi5 (by decide)) hL ?_
  rw [← e_hi]
  refine wl_aload_n (i := 3) dL_law_2021 rfl (by decide) rfl ?_
  refine wl_cSH (y' := m_L_addReference) [vr (some (nm 40 0)), vi v, vi lo, vi hi, vr (some (nm 70 0))] [] 6 60 dL_law_2022 ml_L_268 st_L_addReference okH_L_addReference rfl (Nat.le_of_ble_eq_true rfl) rfl (Nat.le_of_ble_eq_true rfl) (d' := 99) (by decide) (by omega) (by omega) (g_addReference B hc C A.1   (by decide) (Nat.le_refl _) (Nat.le_refl _) (fun h1 M1 m1 m2 C1 F1 O1 w1 => contL_ret ?_))
  have D1 := D.fc F1
  have J1 := J.fc F1
  have A1 := A.fc F1 O1
  refine wl_istore (i := 6) (lv' := (6, vi (o_addReference R v lo hi).1) :: lvA c) dL_law_2025 (by decide) (by decide) rfl ?_
  refine wl_aload_n (i := 2) dL_law_2027 rfl (by decide) rfl ?_
  refine wl_cell (i := 5 * c) (k := 1) hw dL_law_2028 dL_law_2029 dL_law_2031 dL_law_2032 dL_law_2033 rfl (by decide) (c5 hi5 (by decide)) hL ?_
  rw [← e_v]
  refine wl_cell (i := 5 * c) (k := 2) hw dL_law_2034 dL_law_2035 dL_law_2037 dL_law_2038 dL_law_2039 rfl (by decide) (c5 hi5 (by decide)) hL ?_
  rw [← e_lo]
  refine wl_cell (i := 5 * c) (k := 3) hw dL_law_2040 dL_law_2041 dL_law_2043 dL_law_2044 dL_law_2045 rfl (by decide) (c5 hi5 (by decide)) hL ?_
  rw [← e_hi]
  refine wl_cV (y' := m_X16_addReference) 17 [vi v, vi lo, vi hi] [] 6 100 dL_law_2046 ml_L_270 im_X16_addReference se_X16_addReference (by decide) D1.hk ok_X16_addReference rfl (Nat.le_of_ble_eq_true rfl) rfl (Nat.le_of_ble_eq_true rfl) (d' := 99) (by decide) (by omega) (by omega) (w_addReference B hc D1 J1  (by decide)  (Nat.le_refl _) (Nat.le_refl _) (fun h2 D2 F2 t2 => contL_ret ?_))
  refine wl_istore (i := 7) (lv' := (7, vi (o_addReference R v lo hi).2.1) :: (6, vi (o_addReference R v lo hi).1) :: lvA c) dL_law_2049 (by decide) (by decide) rfl ?_
  refine l_tailI (p := 2051) dL_law_2051 dL_law_2052 dL_law_2055 dL_law_2057 dL_law_2062 dL_law_2064 dL_law_2067 dL_law_2068 dL_law_2069 dL_law_2070 dL_law_2072 dL_law_2073 dL_law_2074 dL_law_2079 (by decide) D2.hk t2 (A1.fg F2).1 (fun z => by rw [F2.out]; exact w1 z) ?_
  exact l_next K (J1.fg F2) (C1.fg F2) D2 (A1.fg F2) (B.r hc m1 m2 (RB_addReference B.2.2.2.2.2.1 (by omega) ) (f_addReference)) (by have := U.go hc (mc := 6 + 6) (ms := 60 + 100) (R' := (o_addReference R v lo hi).2.2) (by decide) (by omega); rwa [Nat.sub_add_eq, Nat.sub_add_eq] at this) lvA_in
set_option maxRecDepth 100000 in
set_option maxHeartbeats 4000000 in
theorem x_begin {G : GG} {w c bc bs M n : Nat} {h : Hp} {Q : Pst} {V : SV} {x : Nat → QIS} {R : RS} (hw : w = G.2.2.2.2.1) (hL : slen G < 2 ^ 31) (hi5 : 5 * c + 5 ≤ slen G) (hc : c < 512) (J : JC h) (C : CLS h V M n x R) (D : MDL h V n x R) (A : ARR h) (B : PUR c V M n x R) (U : BUD c n x R bc bs) (K : NXT G w (c + 1) Q) : WL G w m_L_law 100 2082 (lvA c) [] h bc bs Q := by
  obtain ⟨hS, hW, hmd, hMc, hX, hRB, hLF⟩ := id B
  have hm25 : sMd V + 25 ≤ 1000000 := by omega
  have hnv := hS.1
  have hn12 := hX.1.2.1
  have hb1 := hRB.1
  have U2 := id U
  unfold BUD at U2
  have P2 := PC_max hX (fun s h => (hX.2.1 s h).1)
  obtain ⟨v, e_v⟩ : ∃ z, z = G.2.2.2.2.2.2 (5 * c + 1) := ⟨_, rfl⟩
  have hv3 : ixB v 3 = true → v = nI (tn v) ∧ tn v < 3 := ix_tn (by decide)
  have hfl : flg (o_begin R v (tn v)).2.2 ≤ flg R + 1 := f_begin.2
  refine wl_aload_n (i := 1) dL_law_2082 rfl (by decide) rfl ?_
  refine wl_cell (i := 5 * c) (k := 1) hw dL_law_2083 dL_law_2084 dL_law_2086 dL_law_2087 dL_law_2088 rfl (by decide) (c5 hi5 (by decide)) hL ?_
  rw [← e_v]
  refine wl_aload_n (i := 3) dL_law_2089 rfl (by decide) rfl ?_
  refine wl_cSH (y' := m_L_begin) [vr (some (nm 40 0)), vi v, vr (some (nm 70 0))] [] 6 60 dL_law_2090 ml_L_271 st_L_begin okH_L_begin rfl (Nat.le_of_ble_eq_true rfl) rfl (Nat.le_of_ble_eq_true rfl) (d' := 99) (by decide) (by omega) (by omega) (g_begin B hc C A.1   (by decide) (Nat.le_refl _) (Nat.le_refl _) (fun h1 M1 m1 m2 C1 F1 O1 w1 => contL_ret ?_))
  have D1 := D.fc F1
  have J1 := J.fc F1
  have A1 := A.fc F1 O1
  refine wl_istore (i := 6) (lv' := (6, vi (o_begin R v (tn v)).1) :: lvA c) dL_law_2093 (by decide) (by decide) rfl ?_
  refine wl_aload_n (i := 2) dL_law_2095 rfl (by decide) rfl ?_
  refine wl_cell (i := 5 * c) (k := 1) hw dL_law_2096 dL_law_2097 dL_law_2099 dL_law_2100 dL_law_2101 rfl (by decide) (c5 hi5 (by decide)) hL ?_
  rw [← e_v]
  refine wl_cV (y' := m_X16_begin) 17 [vi v] [] 0 0 dL_law_2102 ml_L_273 im_X16_begin se_X16_begin (by decide) D1.hk ok_X16_begin rfl (Nat.le_of_ble_eq_true rfl) rfl (Nat.le_of_ble_eq_true rfl) (d' := 99) (by decide) (by omega) (by omega) (w_begin B hc D1 J1  (by decide)  (Nat.le_refl _) (Nat.le_refl _) (fun h2 D2 F2 t2 => contL_ret ?_))
  refine wl_istore (i := 7) (lv' := (7, vi (o_begin R v (tn v)).2.1) :: (6, vi (o_begin R v (tn v)).1) :: lvA c) dL_law_2105 (by decide) (by decide) rfl ?_
  refine l_tailI (p := 2107) dL_law_2107 dL_law_2108 dL_law_2111 dL_law_2113 dL_law_2118 dL_law_2120 dL_law_2123 dL_law_2124 dL_law_2125 dL_law_2126 dL_law_2128 dL_law_2129 dL_law_2130 dL_law_2135 (by decide) D2.hk t2 (A1.fg F2).1 (fun z => by rw [F2.out]; exact w1 z) ?_
  exact l_next K (J1.fg F2) (C1.fg F2) D2 (A1.fg F2) (B.r hc m1 m2 (RB_begin B.2.2.2.2.2.1 (by omega) ) (f_begin)) (by have := U.go hc (mc := 6 + 0) (ms := 60 + 0) (R' := (o_begin R v (tn v)).2.2) (by decide) (by omega); rwa [Nat.sub_add_eq, Nat.sub_add_eq] at this) lvA_in
set_option maxRecDepth 100000 in
set_option maxHeartbeats 4000000 in
theorem x_read {G : GG} {w c bc bs M n : Nat} {h : Hp} {Q : Pst} {V : SV} {x : Nat → QIS} {R : RS} (hw : w = G.2.2.2.2.1) (hL : slen G < 2 ^ 31) (hi5 : 5 * c + 5 ≤ slen G) (hc : c < 512) (J : JC h) (C : CLS h V M n x R) (D : MDL h V n x R) (A : ARR h) (B : PUR c V M n x R) (U : BUD c n x R bc bs) (K : NXT G w (c + 1) Q) : WL G w m_L_law 100 2138 (lvA c) [] h bc bs Q := by
  obtain ⟨hS, hW, hmd, hMc, hX, hRB, hLF⟩ := id B
  have hm25 : sMd V + 25 ≤ 1000000 := by omega
  have hnv := hS.1
  have hn12 := hX.1.2.1
  have hb1 := hRB.1
  have U2 := id U
  unfold BUD at U2
  have P2 := PC_max hX (fun s h => (hX.2.1 s h).1)
  obtain ⟨v, e_v⟩ : ∃ z, z = G.2.2.2.2.2.2 (5 * c + 1) := ⟨_, rfl⟩
  obtain ⟨u, e_u⟩ : ∃ z, z = G.2.2.2.2.2.2 (5 * c + 2) := ⟨_, rfl⟩
  have hv3 : ixB v 3 = true → v = nI (tn v) ∧ tn v < 3 := ix_tn (by decide)
  have hu6 : ixB u (RS_rn R) = true → u = nI (tn u) ∧ tn u < RS_rn R := ix_tn (by omega)
  have hfl : flg (o_read R v (tn v) u (tn u)).2.2 ≤ flg R + 1 := f_read.2
  refine wl_aload_n (i := 1) dL_law_2138 rfl (by decide) rfl ?_
  refine wl_cell (i := 5 * c) (k := 1) hw dL_law_2139 dL_law_2140 dL_law_2142 dL_law_2143 dL_law_2144 rfl (by decide) (c5 hi5 (by decide)) hL ?_
  rw [← e_v]
  refine wl_cell (i := 5 * c) (k := 2) hw dL_law_2145 dL_law_2146 dL_law_2148 dL_law_2149 dL_law_2150 rfl (by decide) (c5 hi5 (by decide)) hL ?_
  rw [← e_u]
  refine wl_aload_n (i := 3) dL_law_2151 rfl (by decide) rfl ?_
  refine wl_cSH (y' := m_L_read) [vr (some (nm 40 0)), vi v, vi u, vr (some (nm 70 0))] [] 6 60 dL_law_2152 ml_L_274 st_L_read okH_L_read rfl (Nat.le_of_ble_eq_true rfl) rfl (Nat.le_of_ble_eq_true rfl) (d' := 99) (by decide) (by omega) (by omega) (g_read B hc C A.1   (by decide) (Nat.le_refl _) (Nat.le_refl _) (fun h1 M1 m1 m2 C1 F1 O1 w1 => contL_ret ?_))
  have D1 := D.fc F1
  have J1 := J.fc F1
  have A1 := A.fc F1 O1
  refine wl_istore (i := 6) (lv' := (6, vi (o_read R v (tn v) u (tn u)).1) :: lvA c) dL_law_2155 (by decide) (by decide) rfl ?_
  refine wl_aload_n (i := 2) dL_law_2157 rfl (by decide) rfl ?_
  refine wl_cell (i := 5 * c) (k := 1) hw dL_law_2158 dL_law_2159 dL_law_2161 dL_law_2162 dL_law_2163 rfl (by decide) (c5 hi5 (by decide)) hL ?_
  rw [← e_v]
  refine wl_cell (i := 5 * c) (k := 2) hw dL_law_2164 dL_law_2165 dL_law_2167 dL_law_2168 dL_law_2169 rfl (by decide) (c5 hi5 (by decide)) hL ?_
  rw [← e_u]
  refine wl_cV (y' := m_X16_read) 17 [vi v, vi u] [] 1 4 dL_law_2170 ml_L_276 im_X16_read se_X16_read (by decide) D1.hk ok_X16_read rfl (Nat.le_of_ble_eq_true rfl) rfl (Nat.le_of_ble_eq_true rfl) (d' := 99) (by decide) (by omega) (by omega) (w_read B hc D1 J1  (by decide)  (Nat.le_refl _) (Nat.le_refl _) (fun h2 D2 F2 t2 => contL_ret ?_))
  refine wl_istore (i := 7) (lv' := (7, vi (o_read R v (tn v) u (tn u)).2.1) :: (6, vi (o_read R v (tn v) u (tn u)).1) :: lvA c) dL_law_2173 (by decide) (by decide) rfl ?_
  refine l_tailI (p := 2175) dL_law_2175 dL_law_2176 dL_law_2179 dL_law_2181 dL_law_2186 dL_law_2188 dL_law_2191 dL_law_2192 dL_law_2193 dL_law_2194 dL_law_2196 dL_law_2197 dL_law_2198 dL_law_2203 (by decide) D2.hk t2 (A1.fg F2).1 (fun z => by rw [F2.out]; exact w1 z) ?_
  exact l_next K (J1.fg F2) (C1.fg F2) D2 (A1.fg F2) (B.r hc m1 m2 (RB_read B.2.2.2.2.2.1 (by omega) hv3 hu6) (f_read)) (by have := U.go hc (mc := 6 + 1) (ms := 60 + 4) (R' := (o_read R v (tn v) u (tn u)).2.2) (by decide) (by omega); rwa [Nat.sub_add_eq, Nat.sub_add_eq] at this) lvA_in
set_option maxRecDepth 100000 in
set_option maxHeartbeats 4000000 in
theorem x_write {G : GG} {w c bc bs M n : Nat} {h : Hp} {Q : Pst} {V : SV} {x : Nat → QIS} {R : RS} (hw : w = G.2.2.2.2.1) (hL : slen G < 2 ^ 31) (hi5 : 5 * c + 5 ≤ slen G) (hc : c < 512) (J : JC h) (C : CLS h V M n x R) (D : MDL h V n x R) (A : ARR h) (B : PUR c V M n x R) (U : BUD c n x R bc bs) (K : NXT G w (c + 1) Q) : WL G w m_L_law 100 2206 (lvA c) [] h bc bs Q := by
  obtain ⟨hS, hW, hmd, hMc, hX, hRB, hLF⟩ := id B
  have hm25 : sMd V + 25 ≤ 1000000 := by omega
  have hnv := hS.1
  have hn12 := hX.1.2.1
  have hb1 := hRB.1
  have U2 := id U
  unfold BUD at U2
  have P2 := PC_max hX (fun s h => (hX.2.1 s h).1)
  obtain ⟨v, e_v⟩ : ∃ z, z = G.2.2.2.2.2.2 (5 * c + 1) := ⟨_, rfl⟩
  obtain ⟨u, e_u⟩ : ∃ z, z = G.2.2.2.2.2.2 (5 * c + 2) := ⟨_, rfl⟩
  obtain ⟨y, e_y⟩ : ∃ z, z = G.2.2.2.2.2.2 (5 * c + 3) := ⟨_, rfl⟩
  have hv3 : ixB v 3 = true → v = nI (tn v) ∧ tn v < 3 := ix_tn (by decide)
  have hu6 : ixB u (RS_rn R) = true → u = nI (tn u) ∧ tn u < RS_rn R := ix_tn (by omega)
  have hfl : flg (o_write R v (tn v) u (tn u) y).2.2 ≤ flg R + 1 := f_write.2
  refine wl_aload_n (i := 1) dL_law_2206 rfl (by decide) rfl ?_
  refine wl_cell (i := 5 * c) (k := 1) hw dL_law_2207 dL_law_2208 dL_law_2210 dL_law_2211 dL_law_2212 rfl (by decide) (c5 hi5 (by decide)) hL ?_
  rw [← e_v]
  refine wl_cell (i := 5 * c) (k := 2) hw dL_law_2213 dL_law_2214 dL_law_2216 dL_law_2217 dL_law_2218 rfl (by decide) (c5 hi5 (by decide)) hL ?_
  rw [← e_u]
  refine wl_cell (i := 5 * c) (k := 3) hw dL_law_2219 dL_law_2220 dL_law_2222 dL_law_2223 dL_law_2224 rfl (by decide) (c5 hi5 (by decide)) hL ?_
  rw [← e_y]
  refine wl_aload_n (i := 3) dL_law_2225 rfl (by decide) rfl ?_
  refine wl_cSH (y' := m_L_write) [vr (some (nm 40 0)), vi v, vi u, vi y, vr (some (nm 70 0))] [] 6 60 dL_law_2226 ml_L_277 st_L_write okH_L_write rfl (Nat.le_of_ble_eq_true rfl) rfl (Nat.le_of_ble_eq_true rfl) (d' := 99) (by decide) (by omega) (by omega) (g_write B hc C A.1   (by decide) (Nat.le_refl _) (Nat.le_refl _) (fun h1 M1 m1 m2 C1 F1 O1 w1 => contL_ret ?_))
  have D1 := D.fc F1
  have J1 := J.fc F1
  have A1 := A.fc F1 O1
  refine wl_istore (i := 6) (lv' := (6, vi (o_write R v (tn v) u (tn u) y).1) :: lvA c) dL_law_2229 (by decide) (by decide) rfl ?_
  refine wl_aload_n (i := 2) dL_law_2231 rfl (by decide) rfl ?_
  refine wl_cell (i := 5 * c) (k := 1) hw dL_law_2232 dL_law_2233 dL_law_2235 dL_law_2236 dL_law_2237 rfl (by decide) (c5 hi5 (by decide)) hL ?_
  rw [← e_v]
  refine wl_cell (i := 5 * c) (k := 2) hw dL_law_2238 dL_law_2239 dL_law_2241 dL_law_2242 dL_law_2243 rfl (by decide) (c5 hi5 (by decide)) hL ?_
  rw [← e_u]
  refine wl_cell (i := 5 * c) (k := 3) hw dL_law_2244 dL_law_2245 dL_law_2247 dL_law_2248 dL_law_2249 rfl (by decide) (c5 hi5 (by decide)) hL ?_
  rw [← e_y]
  refine wl_cV (y' := m_X16_write) 17 [vi v, vi u, vi y] [] 0 0 dL_law_2250 ml_L_279 im_X16_write se_X16_write (by decide) D1.hk ok_X16_write rfl (Nat.le_of_ble_eq_true rfl) rfl (Nat.le_of_ble_eq_true rfl) (d' := 99) (by decide) (by omega) (by omega) (w_write B hc D1 J1  (by decide)  (Nat.le_refl _) (Nat.le_refl _) (fun h2 D2 F2 t2 => contL_ret ?_))
  refine wl_istore (i := 7) (lv' := (7, vi (o_write R v (tn v) u (tn u) y).2.1) :: (6, vi (o_write R v (tn v) u (tn u) y).1) :: lvA c) dL_law_2253 (by decide) (by decide) rfl ?_
  refine l_tailB (p := 2255) dL_law_2255 dL_law_2256 dL_law_2259 dL_law_2261 dL_law_2266 dL_law_2268 dL_law_2271 dL_law_2272 dL_law_2273 dL_law_2274 dL_law_2276 dL_law_2279 dL_law_2280 dL_law_2283 dL_law_2284 dL_law_2285 dL_law_2290 (by decide) D2.hk t2 (A1.fg F2).1 (fun z => by rw [F2.out]; exact w1 z) ?_
  exact l_next K (J1.fg F2) (C1.fg F2) D2 (A1.fg F2) (B.r hc m1 m2 (RB_write B.2.2.2.2.2.1 (by omega) hv3) (f_write)) (by have := U.go hc (mc := 6 + 0) (ms := 60 + 0) (R' := (o_write R v (tn v) u (tn u) y).2.2) (by decide) (by omega); rwa [Nat.sub_add_eq, Nat.sub_add_eq] at this) lvA_in
set_option maxRecDepth 100000 in
set_option maxHeartbeats 4000000 in
theorem x_ensure {G : GG} {w c bc bs M n : Nat} {h : Hp} {Q : Pst} {V : SV} {x : Nat → QIS} {R : RS} (hw : w = G.2.2.2.2.1) (hL : slen G < 2 ^ 31) (hi5 : 5 * c + 5 ≤ slen G) (hc : c < 512) (J : JC h) (C : CLS h V M n x R) (D : MDL h V n x R) (A : ARR h) (B : PUR c V M n x R) (U : BUD c n x R bc bs) (K : NXT G w (c + 1) Q) : WL G w m_L_law 100 2293 (lvA c) [] h bc bs Q := by
  obtain ⟨hS, hW, hmd, hMc, hX, hRB, hLF⟩ := id B
  have hm25 : sMd V + 25 ≤ 1000000 := by omega
  have hnv := hS.1
  have hn12 := hX.1.2.1
  have hb1 := hRB.1
  have U2 := id U
  unfold BUD at U2
  have P2 := PC_max hX (fun s h => (hX.2.1 s h).1)
  obtain ⟨v, e_v⟩ : ∃ z, z = G.2.2.2.2.2.2 (5 * c + 1) := ⟨_, rfl⟩
  obtain ⟨u, e_u⟩ : ∃ z, z = G.2.2.2.2.2.2 (5 * c + 2) := ⟨_, rfl⟩
  have hv3 : ixB v 3 = true → v = nI (tn v) ∧ tn v < 3 := ix_tn (by decide)
  have hu6 : ixB u (RS_rn R) = true → u = nI (tn u) ∧ tn u < RS_rn R := ix_tn (by omega)
  have hfl : flg (o_ensure R v (tn v) u (tn u)).2.2 ≤ flg R + 1 := f_ensure.2
  refine wl_aload_n (i := 1) dL_law_2293 rfl (by decide) rfl ?_
  refine wl_cell (i := 5 * c) (k := 1) hw dL_law_2294 dL_law_2295 dL_law_2297 dL_law_2298 dL_law_2299 rfl (by decide) (c5 hi5 (by decide)) hL ?_
  rw [← e_v]
  refine wl_cell (i := 5 * c) (k := 2) hw dL_law_2300 dL_law_2301 dL_law_2303 dL_law_2304 dL_law_2305 rfl (by decide) (c5 hi5 (by decide)) hL ?_
  rw [← e_u]
  refine wl_aload_n (i := 3) dL_law_2306 rfl (by decide) rfl ?_
  refine wl_cSH (y' := m_L_ensure) [vr (some (nm 40 0)), vi v, vi u, vr (some (nm 70 0))] [] 6 60 dL_law_2307 ml_L_280 st_L_ensure okH_L_ensure rfl (Nat.le_of_ble_eq_true rfl) rfl (Nat.le_of_ble_eq_true rfl) (d' := 99) (by decide) (by omega) (by omega) (g_ensure B hc C A.1   (by decide) (Nat.le_refl _) (Nat.le_refl _) (fun h1 M1 m1 m2 C1 F1 O1 w1 => contL_ret ?_))
  have D1 := D.fc F1
  have J1 := J.fc F1
  have A1 := A.fc F1 O1
  refine wl_istore (i := 6) (lv' := (6, vi (o_ensure R v (tn v) u (tn u)).1) :: lvA c) dL_law_2310 (by decide) (by decide) rfl ?_
  refine wl_aload_n (i := 2) dL_law_2312 rfl (by decide) rfl ?_
  refine wl_cell (i := 5 * c) (k := 1) hw dL_law_2313 dL_law_2314 dL_law_2316 dL_law_2317 dL_law_2318 rfl (by decide) (c5 hi5 (by decide)) hL ?_
  rw [← e_v]
  refine wl_cell (i := 5 * c) (k := 2) hw dL_law_2319 dL_law_2320 dL_law_2322 dL_law_2323 dL_law_2324 rfl (by decide) (c5 hi5 (by decide)) hL ?_
  rw [← e_u]
  refine wl_cV (y' := m_X16_ensure) 17 [vi v, vi u] [] 0 0 dL_law_2325 ml_L_282 im_X16_ensure se_X16_ensure (by decide) D1.hk ok_X16_ensure rfl (Nat.le_of_ble_eq_true rfl) rfl (Nat.le_of_ble_eq_true rfl) (d' := 99) (by decide) (by omega) (by omega) (w_ensure B hc D1 J1  (by decide)  (Nat.le_refl _) (Nat.le_refl _) (fun h2 D2 F2 t2 => contL_ret ?_))
  refine wl_istore (i := 7) (lv' := (7, vi (o_ensure R v (tn v) u (tn u)).2.1) :: (6, vi (o_ensure R v (tn v) u (tn u)).1) :: lvA c) dL_law_2328 (by decide) (by decide) rfl ?_
  refine l_tailB (p := 2330) dL_law_2330 dL_law_2331 dL_law_2334 dL_law_2336 dL_law_2341 dL_law_2343 dL_law_2346 dL_law_2347 dL_law_2348 dL_law_2349 dL_law_2351 dL_law_2354 dL_law_2355 dL_law_2358 dL_law_2359 dL_law_2360 dL_law_2365 (by decide) D2.hk t2 (A1.fg F2).1 (fun z => by rw [F2.out]; exact w1 z) ?_
  exact l_next K (J1.fg F2) (C1.fg F2) D2 (A1.fg F2) (B.r hc m1 m2 (RB_ensure B.2.2.2.2.2.1 (by omega) hv3) (f_ensure)) (by have := U.go hc (mc := 6 + 0) (ms := 60 + 0) (R' := (o_ensure R v (tn v) u (tn u)).2.2) (by decide) (by omega); rwa [Nat.sub_add_eq, Nat.sub_add_eq] at this) lvA_in
set_option maxRecDepth 100000 in
set_option maxHeartbeats 4000000 in
theorem x_add {G : GG} {w c bc bs M n : Nat} {h : Hp} {Q : Pst} {V : SV} {x : Nat → QIS} {R : RS} (hw : w = G.2.2.2.2.1) (hL : slen G < 2 ^ 31) (hi5 : 5 * c + 5 ≤ slen G) (hc : c < 512) (J : JC h) (C : CLS h V M n x R) (D : MDL h V n x R) (A : ARR h) (B : PUR c V M n x R) (U : BUD c n x R bc bs) (K : NXT G w (c + 1) Q) : WL G w m_L_law 100 2368 (lvA c) [] h bc bs Q := by
  obtain ⟨hS, hW, hmd, hMc, hX, hRB, hLF⟩ := id B
  have hm25 : sMd V + 25 ≤ 1000000 := by omega
  have hnv := hS.1
  have hn12 := hX.1.2.1
  have hb1 := hRB.1
  have U2 := id U
  unfold BUD at U2
  have P2 := PC_max hX (fun s h => (hX.2.1 s h).1)
  obtain ⟨v, e_v⟩ : ∃ z, z = G.2.2.2.2.2.2 (5 * c + 1) := ⟨_, rfl⟩
  obtain ⟨u, e_u⟩ : ∃ z, z = G.2.2.2.2.2.2 (5 * c + 2) := ⟨_, rfl⟩
  obtain ⟨y, e_y⟩ : ∃ z, z = G.2.2.2.2.2.2 (5 * c + 3) := ⟨_, rfl⟩
  have hv3 : ixB v 3 = true → v = nI (tn v) ∧ tn v < 3 := ix_tn (by decide)
  have hu6 : ixB u (RS_rn R) = true → u = nI (tn u) ∧ tn u < RS_rn R := ix_tn (by omega)
  have hfl : flg (o_add R v (tn v) u (tn u) y).2.2 ≤ flg R + 1 := f_add.2
  refine wl_aload_n (i := 1) dL_law_2368 rfl (by decide) rfl ?_
  refine wl_cell (i := 5 * c) (k := 1) hw dL_law_2369 dL_law_2370 dL_law_2372 dL_law_2373 dL_law_2374 rfl (by decide) (c5 hi5 (by decide)) hL ?_
  rw [← e_v]
  refine wl_cell (i := 5 * c) (k := 2) hw dL_law_2375 dL_law_2376 dL_law_2378 dL_law_2379 dL_law_2380 rfl (by decide) (c5 hi5 (by decide)) hL ?_
  rw [← e_u]
  refine wl_cell (i := 5 * c) (k := 3) hw dL_law_2381 dL_law_2382 dL_law_2384 dL_law_2385 dL_law_2386 rfl (by decide) (c5 hi5 (by decide)) hL ?_
  rw [← e_y]
  refine wl_aload_n (i := 3) dL_law_2387 rfl (by decide) rfl ?_
  refine wl_cSH (y' := m_L_add) [vr (some (nm 40 0)), vi v, vi u, vi y, vr (some (nm 70 0))] [] 6 60 dL_law_2388 ml_L_283 st_L_add okH_L_add rfl (Nat.le_of_ble_eq_true rfl) rfl (Nat.le_of_ble_eq_true rfl) (d' := 99) (by decide) (by omega) (by omega) (g_add B hc C A.1   (by decide) (Nat.le_refl _) (Nat.le_refl _) (fun h1 M1 m1 m2 C1 F1 O1 w1 => contL_ret ?_))
  have D1 := D.fc F1
  have J1 := J.fc F1
  have A1 := A.fc F1 O1
  refine wl_istore (i := 6) (lv' := (6, vi (o_add R v (tn v) u (tn u) y).1) :: lvA c) dL_law_2391 (by decide) (by decide) rfl ?_
  refine wl_aload_n (i := 2) dL_law_2393 rfl (by decide) rfl ?_
  refine wl_cell (i := 5 * c) (k := 1) hw dL_law_2394 dL_law_2395 dL_law_2397 dL_law_2398 dL_law_2399 rfl (by decide) (c5 hi5 (by decide)) hL ?_
  rw [← e_v]
  refine wl_cell (i := 5 * c) (k := 2) hw dL_law_2400 dL_law_2401 dL_law_2403 dL_law_2404 dL_law_2405 rfl (by decide) (c5 hi5 (by decide)) hL ?_
  rw [← e_u]
  refine wl_cell (i := 5 * c) (k := 3) hw dL_law_2406 dL_law_2407 dL_law_2409 dL_law_2410 dL_law_2411 rfl (by decide) (c5 hi5 (by decide)) hL ?_
  rw [← e_y]
  refine wl_cV (y' := m_X16_add) 17 [vi v, vi u, vi y] [] 0 0 dL_law_2412 ml_L_285 im_X16_add se_X16_add (by decide) D1.hk ok_X16_add rfl (Nat.le_of_ble_eq_true rfl) rfl (Nat.le_of_ble_eq_true rfl) (d' := 99) (by decide) (by omega) (by omega) (w_add B hc D1 J1  (by decide)  (Nat.le_refl _) (Nat.le_refl _) (fun h2 D2 F2 t2 => contL_ret ?_))
  refine wl_istore (i := 7) (lv' := (7, vi (o_add R v (tn v) u (tn u) y).2.1) :: (6, vi (o_add R v (tn v) u (tn u) y).1) :: lvA c) dL_law_2415 (by decide) (by decide) rfl ?_
  refine l_tailB (p := 2417) dL_law_2417 dL_law_2418 dL_law_2421 dL_law_2423 dL_law_2428 dL_law_2430 dL_law_2433 dL_law_2434 dL_law_2435 dL_law_2436 dL_law_2438 dL_law_2441 dL_law_2442 dL_law_2445 dL_law_2446 dL_law_2447 dL_law_2452 (by decide) D2.hk t2 (A1.fg F2).1 (fun z => by rw [F2.out]; exact w1 z) ?_
  exact l_next K (J1.fg F2) (C1.fg F2) D2 (A1.fg F2) (B.r hc m1 m2 (RB_add B.2.2.2.2.2.1 (by omega) hv3) (f_add)) (by have := U.go hc (mc := 6 + 0) (ms := 60 + 0) (R' := (o_add R v (tn v) u (tn u) y).2.2) (by decide) (by omega); rwa [Nat.sub_add_eq, Nat.sub_add_eq] at this) lvA_in
set_option maxRecDepth 100000 in
set_option maxHeartbeats 4000000 in
theorem x_commit {G : GG} {w c bc bs M n : Nat} {h : Hp} {Q : Pst} {V : SV} {x : Nat → QIS} {R : RS} (hw : w = G.2.2.2.2.1) (hL : slen G < 2 ^ 31) (hi5 : 5 * c + 5 ≤ slen G) (hc : c < 512) (J : JC h) (C : CLS h V M n x R) (D : MDL h V n x R) (A : ARR h) (B : PUR c V M n x R) (U : BUD c n x R bc bs) (K : NXT G w (c + 1) Q) : WL G w m_L_law 100 2455 (lvA c) [] h bc bs Q := by
  obtain ⟨hS, hW, hmd, hMc, hX, hRB, hLF⟩ := id B
  have hm25 : sMd V + 25 ≤ 1000000 := by omega
  have hnv := hS.1
  have hn12 := hX.1.2.1
  have hb1 := hRB.1
  have U2 := id U
  unfold BUD at U2
  have P2 := PC_max hX (fun s h => (hX.2.1 s h).1)
  obtain ⟨v, e_v⟩ : ∃ z, z = G.2.2.2.2.2.2 (5 * c + 1) := ⟨_, rfl⟩
  have hv3 : ixB v 3 = true → v = nI (tn v) ∧ tn v < 3 := ix_tn (by decide)
  obtain ⟨c1, c2, c3⟩ := f_commit (R := R) (v := v) (Nat.mod_lt (tn v) (by decide : 0 < 3)) hb1.2.1
  have fcm : LFS R (o_commit R v (tn v % 3)).2.2 := ⟨by omega, by omega⟩
  have hfg := flg_t (R := R) (Nat.mod_lt (tn v) (by decide : 0 < 3)) hb1.2.1
  have hf18 : cgN (RS_tt R (tn v % 3)) (RS_rn R) 0 ≤ 6 := Nat.le_trans (cgN_le _ _ _ hb1.2.1) cgN_6
  by_cases ho : (o_commit R v (tn v % 3)).1 = nI 0
  · have c4 := c2 ho
    refine wl_aload_n (i := 1) dL_law_2455 rfl (by decide) rfl ?_
    refine wl_cell (i := 5 * c) (k := 1) hw dL_law_2456 dL_law_2457 dL_law_2459 dL_law_2460 dL_law_2461 rfl (by decide) (c5 hi5 (by decide)) hL ?_
    rw [← e_v]
    refine wl_aload_n (i := 3) dL_law_2462 rfl (by decide) rfl ?_
    refine wl_cSH (y' := m_L_commit) [vr (some (nm 40 0)), vi v, vr (some (nm 70 0))] [] 60 (300 + 1100 * cgN (RS_tt R (tn v % 3)) (RS_rn R) 0) dL_law_2463 ml_L_286 st_L_commit okH_L_commit rfl (Nat.le_of_ble_eq_true rfl) rfl (Nat.le_of_ble_eq_true rfl) (d' := 99) (by decide) (by omega) (by omega) (g_commit B hc C A.1   (by decide) (Nat.le_refl _) (Nat.le_refl _) (fun h1 M1 m1 m2 C1 F1 O1 w1 => contL_ret ?_))
    have D1 := D.fc F1
    have J1 := J.fc F1
    have A1 := A.fc F1 O1
    refine wl_istore (i := 6) (lv' := (6, vi (o_commit R v (tn v % 3)).1) :: lvA c) dL_law_2466 (by decide) (by decide) rfl ?_
    refine wl_aload_n (i := 2) dL_law_2468 rfl (by decide) rfl ?_
    refine wl_cell (i := 5 * c) (k := 1) hw dL_law_2469 dL_law_2470 dL_law_2472 dL_law_2473 dL_law_2474 rfl (by decide) (c5 hi5 (by decide)) hL ?_
    rw [← e_v]
    refine wl_cV (y' := m_X16_commit) 17 [vi v] [] 80 (2000 + 1300 * cgN (RS_tt R (tn v % 3)) (RS_rn R) 0) dL_law_2475 ml_L_288 im_X16_commit se_X16_commit (by decide) D1.hk ok_X16_commit rfl (Nat.le_of_ble_eq_true rfl) rfl (Nat.le_of_ble_eq_true rfl) (d' := 99) (by decide) (by omega) (by omega) (w_commit B hc D1 J1  (by decide)  (Nat.le_refl _) (Nat.le_refl _) (fun h2 D2 F2 t2 => contL_ret ?_))
    refine wl_istore (i := 7) (lv' := (7, vi (o_commit R v (tn v % 3)).2.1) :: (6, vi (o_commit R v (tn v % 3)).1) :: lvA c) dL_law_2478 (by decide) (by decide) rfl ?_
    refine l_tailI (p := 2480) dL_law_2480 dL_law_2481 dL_law_2484 dL_law_2486 dL_law_2491 dL_law_2493 dL_law_2496 dL_law_2497 dL_law_2498 dL_law_2499 dL_law_2501 dL_law_2502 dL_law_2503 dL_law_2508 (by decide) D2.hk t2 (A1.fg F2).1 (fun z => by rw [F2.out]; exact w1 z) ?_
    exact l_next K (J1.fg F2) (C1.fg F2) D2 (A1.fg F2) (B.r hc m1 m2 (RB_commit B.2.2.2.2.2.1 (by omega) ix_t3) fcm) (by have := U.go hc (mc := 60 + 80) (ms := (300 + 1100 * cgN (RS_tt R (tn v % 3)) (RS_rn R) 0) + (2000 + 1300 * cgN (RS_tt R (tn v % 3)) (RS_rn R) 0)) (R' := (o_commit R v (tn v % 3)).2.2) (by decide) (by omega); rwa [Nat.sub_add_eq, Nat.sub_add_eq] at this) lvA_in
  · refine wl_aload_n (i := 1) dL_law_2455 rfl (by decide) rfl ?_
    refine wl_cell (i := 5 * c) (k := 1) hw dL_law_2456 dL_law_2457 dL_law_2459 dL_law_2460 dL_law_2461 rfl (by decide) (c5 hi5 (by decide)) hL ?_
    rw [← e_v]
    refine wl_aload_n (i := 3) dL_law_2462 rfl (by decide) rfl ?_
    refine wl_cSH (y' := m_L_commit) [vr (some (nm 40 0)), vi v, vr (some (nm 70 0))] [] 6 40 dL_law_2463 ml_L_286 st_L_commit okH_L_commit rfl (Nat.le_of_ble_eq_true rfl) rfl (Nat.le_of_ble_eq_true rfl) (d' := 99) (by decide) (by omega) (by omega) (g_commitE B hc C A.1  ho (by decide) (Nat.le_refl _) (Nat.le_refl _) (fun h1 M1 m1 m2 C1 F1 O1 w1 => contL_ret ?_))
    have D1 := D.fc F1
    have J1 := J.fc F1
    have A1 := A.fc F1 O1
    refine wl_istore (i := 6) (lv' := (6, vi (o_commit R v (tn v % 3)).1) :: lvA c) dL_law_2466 (by decide) (by decide) rfl ?_
    refine wl_aload_n (i := 2) dL_law_2468 rfl (by decide) rfl ?_
    refine wl_cell (i := 5 * c) (k := 1) hw dL_law_2469 dL_law_2470 dL_law_2472 dL_law_2473 dL_law_2474 rfl (by decide) (c5 hi5 (by decide)) hL ?_
    rw [← e_v]
    refine wl_cV (y' := m_X16_commit) 17 [vi v] [] 0 0 dL_law_2475 ml_L_288 im_X16_commit se_X16_commit (by decide) D1.hk ok_X16_commit rfl (Nat.le_of_ble_eq_true rfl) rfl (Nat.le_of_ble_eq_true rfl) (d' := 99) (by decide) (by omega) (by omega) (w_commitE B hc D1 J1  (by decide)  ho (fun h2 D2 F2 t2 => contL_ret ?_))
    refine wl_istore (i := 7) (lv' := (7, vi (o_commit R v (tn v % 3)).2.1) :: (6, vi (o_commit R v (tn v % 3)).1) :: lvA c) dL_law_2478 (by decide) (by decide) rfl ?_
    refine l_tailI (p := 2480) dL_law_2480 dL_law_2481 dL_law_2484 dL_law_2486 dL_law_2491 dL_law_2493 dL_law_2496 dL_law_2497 dL_law_2498 dL_law_2499 dL_law_2501 dL_law_2502 dL_law_2503 dL_law_2508 (by decide) D2.hk t2 (A1.fg F2).1 (fun z => by rw [F2.out]; exact w1 z) ?_
    exact l_next K (J1.fg F2) (C1.fg F2) D2 (A1.fg F2) (B.r hc m1 m2 (RB_commit B.2.2.2.2.2.1 (by omega) ix_t3) fcm) (by have := U.go hc (mc := 6 + 0) (ms := 40 + 0) (R' := (o_commit R v (tn v % 3)).2.2) (by decide) (by omega); rwa [Nat.sub_add_eq, Nat.sub_add_eq] at this) lvA_in
set_option maxRecDepth 100000 in
set_option maxHeartbeats 4000000 in
theorem x_end {G : GG} {w c bc bs M n : Nat} {h : Hp} {Q : Pst} {V : SV} {x : Nat → QIS} {R : RS} (hw : w = G.2.2.2.2.1) (hL : slen G < 2 ^ 31) (hi5 : 5 * c + 5 ≤ slen G) (hc : c < 512) (J : JC h) (C : CLS h V M n x R) (D : MDL h V n x R) (A : ARR h) (B : PUR c V M n x R) (U : BUD c n x R bc bs) (K : NXT G w (c + 1) Q) : WL G w m_L_law 100 2511 (lvA c) [] h bc bs Q := by
  obtain ⟨hS, hW, hmd, hMc, hX, hRB, hLF⟩ := id B
  have hm25 : sMd V + 25 ≤ 1000000 := by omega
  have hnv := hS.1
  have hn12 := hX.1.2.1
  have hb1 := hRB.1
  have U2 := id U
  unfold BUD at U2
  have P2 := PC_max hX (fun s h => (hX.2.1 s h).1)
  obtain ⟨v, e_v⟩ : ∃ z, z = G.2.2.2.2.2.2 (5 * c + 1) := ⟨_, rfl⟩
  have hv3 : ixB v 3 = true → v = nI (tn v) ∧ tn v < 3 := ix_tn (by decide)
  have hfl : flg (o_end R v (tn v)).2.2 ≤ flg R + 1 := f_end.2
  refine wl_aload_n (i := 1) dL_law_2511 rfl (by decide) rfl ?_
  refine wl_cell (i := 5 * c) (k := 1) hw dL_law_2512 dL_law_2513 dL_law_2515 dL_law_2516 dL_law_2517 rfl (by decide) (c5 hi5 (by decide)) hL ?_
  rw [← e_v]
  refine wl_aload_n (i := 3) dL_law_2518 rfl (by decide) rfl ?_
  refine wl_cSH (y' := m_L_end) [vr (some (nm 40 0)), vi v, vr (some (nm 70 0))] [] 6 60 dL_law_2519 ml_L_289 st_L_end okH_L_end rfl (Nat.le_of_ble_eq_true rfl) rfl (Nat.le_of_ble_eq_true rfl) (d' := 99) (by decide) (by omega) (by omega) (g_end B hc C A.1   (by decide) (Nat.le_refl _) (Nat.le_refl _) (fun h1 M1 m1 m2 C1 F1 O1 w1 => contL_ret ?_))
  have D1 := D.fc F1
  have J1 := J.fc F1
  have A1 := A.fc F1 O1
  refine wl_istore (i := 6) (lv' := (6, vi (o_end R v (tn v)).1) :: lvA c) dL_law_2522 (by decide) (by decide) rfl ?_
  refine wl_aload_n (i := 2) dL_law_2524 rfl (by decide) rfl ?_
  refine wl_cell (i := 5 * c) (k := 1) hw dL_law_2525 dL_law_2526 dL_law_2528 dL_law_2529 dL_law_2530 rfl (by decide) (c5 hi5 (by decide)) hL ?_
  rw [← e_v]
  refine wl_cV (y' := m_X16_end) 17 [vi v] [] 0 0 dL_law_2531 ml_L_291 im_X16_end se_X16_end (by decide) D1.hk ok_X16_end rfl (Nat.le_of_ble_eq_true rfl) rfl (Nat.le_of_ble_eq_true rfl) (d' := 99) (by decide) (by omega) (by omega) (w_end B hc D1 J1  (by decide)  (Nat.le_refl _) (Nat.le_refl _) (fun h2 D2 F2 t2 => contL_ret ?_))
  refine wl_istore (i := 7) (lv' := (7, vi (o_end R v (tn v)).2.1) :: (6, vi (o_end R v (tn v)).1) :: lvA c) dL_law_2534 (by decide) (by decide) rfl ?_
  refine l_tailI (p := 2536) dL_law_2536 dL_law_2537 dL_law_2540 dL_law_2542 dL_law_2547 dL_law_2549 dL_law_2552 dL_law_2553 dL_law_2554 dL_law_2555 dL_law_2557 dL_law_2558 dL_law_2559 dL_law_2564 (by decide) D2.hk t2 (A1.fg F2).1 (fun z => by rw [F2.out]; exact w1 z) ?_
  exact l_next K (J1.fg F2) (C1.fg F2) D2 (A1.fg F2) (B.r hc m1 m2 (RB_end B.2.2.2.2.2.1 (by omega) hv3) (f_end)) (by have := U.go hc (mc := 6 + 0) (ms := 60 + 0) (R' := (o_end R v (tn v)).2.2) (by decide) (by omega); rwa [Nat.sub_add_eq, Nat.sub_add_eq] at this) lvA_in
set_option maxRecDepth 100000 in
set_option maxHeartbeats 4000000 in
theorem x_sentBack {G : GG} {w c bc bs M n : Nat} {h : Hp} {Q : Pst} {V : SV} {x : Nat → QIS} {R : RS} (hw : w = G.2.2.2.2.1) (hL : slen G < 2 ^ 31) (hi5 : 5 * c + 5 ≤ slen G) (hc : c < 512) (J : JC h) (C : CLS h V M n x R) (D : MDL h V n x R) (A : ARR h) (B : PUR c V M n x R) (U : BUD c n x R bc bs) (K : NXT G w (c + 1) Q) : WL G w m_L_law 100 2567 (lvA c) [] h bc bs Q := by
  obtain ⟨hS, hW, hmd, hMc, hX, hRB, hLF⟩ := id B
  have hm25 : sMd V + 25 ≤ 1000000 := by omega
  have hnv := hS.1
  have hn12 := hX.1.2.1
  have hb1 := hRB.1
  have U2 := id U
  unfold BUD at U2
  have P2 := PC_max hX (fun s h => (hX.2.1 s h).1)
  obtain ⟨v, e_v⟩ : ∃ z, z = G.2.2.2.2.2.2 (5 * c + 1) := ⟨_, rfl⟩
  have hv3 : ixB v 3 = true → v = nI (tn v) ∧ tn v < 3 := ix_tn (by decide)
  have hfl : flg (o_sentBack R v (tn v)).2.2 ≤ flg R + 1 := by rw [r_sentBack]; omega
  refine wl_aload_n (i := 1) dL_law_2567 rfl (by decide) rfl ?_
  refine wl_cell (i := 5 * c) (k := 1) hw dL_law_2568 dL_law_2569 dL_law_2571 dL_law_2572 dL_law_2573 rfl (by decide) (c5 hi5 (by decide)) hL ?_
  rw [← e_v]
  refine wl_aload_n (i := 3) dL_law_2574 rfl (by decide) rfl ?_
  refine wl_cSH (y' := m_L_sentBack) [vr (some (nm 40 0)), vi v, vr (some (nm 70 0))] [] 6 60 dL_law_2575 ml_L_292 st_L_sentBack okH_L_sentBack rfl (Nat.le_of_ble_eq_true rfl) rfl (Nat.le_of_ble_eq_true rfl) (d' := 99) (by decide) (by omega) (by omega) (g_sentBack B hc C A.1   (by decide) (Nat.le_refl _) (Nat.le_refl _) (fun h1 M1 m1 m2 C1 F1 O1 w1 => contL_ret ?_))
  have D1 := D.fc F1
  have J1 := J.fc F1
  have A1 := A.fc F1 O1
  refine wl_istore (i := 6) (lv' := (6, vi (o_sentBack R v (tn v)).1) :: lvA c) dL_law_2578 (by decide) (by decide) rfl ?_
  refine wl_aload_n (i := 2) dL_law_2580 rfl (by decide) rfl ?_
  refine wl_cell (i := 5 * c) (k := 1) hw dL_law_2581 dL_law_2582 dL_law_2584 dL_law_2585 dL_law_2586 rfl (by decide) (c5 hi5 (by decide)) hL ?_
  rw [← e_v]
  refine wl_cV (y' := m_X16_sentBack) 17 [vi v] [] 0 0 dL_law_2587 ml_L_294 im_X16_sentBack se_X16_sentBack (by decide) D1.hk ok_X16_sentBack rfl (Nat.le_of_ble_eq_true rfl) rfl (Nat.le_of_ble_eq_true rfl) (d' := 99) (by decide) (by omega) (by omega) (w_sentBack B hc D1 J1  (by decide)  (Nat.le_refl _) (Nat.le_refl _) (fun h2 D2 F2 t2 => contL_ret ?_))
  refine wl_istore (i := 7) (lv' := (7, vi (o_sentBack R v (tn v)).2.1) :: (6, vi (o_sentBack R v (tn v)).1) :: lvA c) dL_law_2590 (by decide) (by decide) rfl ?_
  refine l_tailI (p := 2592) dL_law_2592 dL_law_2593 dL_law_2596 dL_law_2598 dL_law_2603 dL_law_2605 dL_law_2608 dL_law_2609 dL_law_2610 dL_law_2611 dL_law_2613 dL_law_2614 dL_law_2615 dL_law_2620 (by decide) D2.hk t2 (A1.fg F2).1 (fun z => by rw [F2.out]; exact w1 z) ?_
  exact l_next K (J1.fg F2) (C1.fg F2) D2 (A1.fg F2) (by rw [r_sentBack]; exact B.same hc m1 m2) (by have := U.go hc (mc := 6 + 0) (ms := 60 + 0) (R' := (o_sentBack R v (tn v)).2.2) (by decide) (by omega); rwa [Nat.sub_add_eq, Nat.sub_add_eq] at this) lvA_in
set_option maxRecDepth 100000 in
set_option maxHeartbeats 4000000 in
theorem x_valueOf {G : GG} {w c bc bs M n : Nat} {h : Hp} {Q : Pst} {V : SV} {x : Nat → QIS} {R : RS} (hw : w = G.2.2.2.2.1) (hL : slen G < 2 ^ 31) (hi5 : 5 * c + 5 ≤ slen G) (hc : c < 512) (J : JC h) (C : CLS h V M n x R) (D : MDL h V n x R) (A : ARR h) (B : PUR c V M n x R) (U : BUD c n x R bc bs) (K : NXT G w (c + 1) Q) : WL G w m_L_law 100 2623 (lvA c) [] h bc bs Q := by
  obtain ⟨hS, hW, hmd, hMc, hX, hRB, hLF⟩ := id B
  have hm25 : sMd V + 25 ≤ 1000000 := by omega
  have hnv := hS.1
  have hn12 := hX.1.2.1
  have hb1 := hRB.1
  have U2 := id U
  unfold BUD at U2
  have P2 := PC_max hX (fun s h => (hX.2.1 s h).1)
  obtain ⟨u, e_u⟩ : ∃ z, z = G.2.2.2.2.2.2 (5 * c + 1) := ⟨_, rfl⟩
  have hu6 : ixB u (RS_rn R) = true → u = nI (tn u) ∧ tn u < RS_rn R := ix_tn (by omega)
  have hfl : flg (o_valueOf R u (tn u)).2.2 ≤ flg R + 1 := by rw [r_valueOf]; omega
  refine wl_aload_n (i := 1) dL_law_2623 rfl (by decide) rfl ?_
  refine wl_cell (i := 5 * c) (k := 1) hw dL_law_2624 dL_law_2625 dL_law_2627 dL_law_2628 dL_law_2629 rfl (by decide) (c5 hi5 (by decide)) hL ?_
  rw [← e_u]
  refine wl_aload_n (i := 3) dL_law_2630 rfl (by decide) rfl ?_
  refine wl_cSH (y' := m_L_valueOf) [vr (some (nm 40 0)), vi u, vr (some (nm 70 0))] [] 6 60 dL_law_2631 ml_L_295 st_L_valueOf okH_L_valueOf rfl (Nat.le_of_ble_eq_true rfl) rfl (Nat.le_of_ble_eq_true rfl) (d' := 99) (by decide) (by omega) (by omega) (g_valueOf B hc C A.1   (by decide) (Nat.le_refl _) (Nat.le_refl _) (fun h1 M1 m1 m2 C1 F1 O1 w1 => contL_ret ?_))
  have D1 := D.fc F1
  have J1 := J.fc F1
  have A1 := A.fc F1 O1
  refine wl_istore (i := 6) (lv' := (6, vi (o_valueOf R u (tn u)).1) :: lvA c) dL_law_2634 (by decide) (by decide) rfl ?_
  refine wl_aload_n (i := 2) dL_law_2636 rfl (by decide) rfl ?_
  refine wl_cell (i := 5 * c) (k := 1) hw dL_law_2637 dL_law_2638 dL_law_2640 dL_law_2641 dL_law_2642 rfl (by decide) (c5 hi5 (by decide)) hL ?_
  rw [← e_u]
  refine wl_cV (y' := m_X16_valueOf) 17 [vi u] [] 0 0 dL_law_2643 ml_L_297 im_X16_valueOf se_X16_valueOf (by decide) D1.hk ok_X16_valueOf rfl (Nat.le_of_ble_eq_true rfl) rfl (Nat.le_of_ble_eq_true rfl) (d' := 99) (by decide) (by omega) (by omega) (w_valueOf B hc D1 J1  (by decide)  (Nat.le_refl _) (Nat.le_refl _) (fun h2 D2 F2 t2 => contL_ret ?_))
  refine wl_istore (i := 7) (lv' := (7, vi (o_valueOf R u (tn u)).2.1) :: (6, vi (o_valueOf R u (tn u)).1) :: lvA c) dL_law_2646 (by decide) (by decide) rfl ?_
  refine l_tailI (p := 2648) dL_law_2648 dL_law_2649 dL_law_2652 dL_law_2654 dL_law_2659 dL_law_2661 dL_law_2664 dL_law_2665 dL_law_2666 dL_law_2667 dL_law_2669 dL_law_2670 dL_law_2671 dL_law_2676 (by decide) D2.hk t2 (A1.fg F2).1 (fun z => by rw [F2.out]; exact w1 z) ?_
  exact l_next K (J1.fg F2) (C1.fg F2) D2 (A1.fg F2) (by rw [r_valueOf]; exact B.same hc m1 m2) (by have := U.go hc (mc := 6 + 0) (ms := 60 + 0) (R' := (o_valueOf R u (tn u)).2.2) (by decide) (by omega); rwa [Nat.sub_add_eq, Nat.sub_add_eq] at this) lvA_in
set_option maxRecDepth 100000 in
set_option maxHeartbeats 4000000 in
theorem x_valueByLog {G : GG} {w c bc bs M n : Nat} {h : Hp} {Q : Pst} {V : SV} {x : Nat → QIS} {R : RS} (hw : w = G.2.2.2.2.1) (hL : slen G < 2 ^ 31) (hi5 : 5 * c + 5 ≤ slen G) (hc : c < 512) (J : JC h) (C : CLS h V M n x R) (D : MDL h V n x R) (A : ARR h) (B : PUR c V M n x R) (U : BUD c n x R bc bs) (K : NXT G w (c + 1) Q) : WL G w m_L_law 100 2679 (lvA c) [] h bc bs Q := by
  obtain ⟨hS, hW, hmd, hMc, hX, hRB, hLF⟩ := id B
  have hm25 : sMd V + 25 ≤ 1000000 := by omega
  have hnv := hS.1
  have hn12 := hX.1.2.1
  have hb1 := hRB.1
  have U2 := id U
  unfold BUD at U2
  have P2 := PC_max hX (fun s h => (hX.2.1 s h).1)
  obtain ⟨u, e_u⟩ : ∃ z, z = G.2.2.2.2.2.2 (5 * c + 1) := ⟨_, rfl⟩
  have hu6 : ixB u (RS_rn R) = true → u = nI (tn u) ∧ tn u < RS_rn R := ix_tn (by omega)
  have hfl : flg (o_valueByLog R u (tn u)).2.2 ≤ flg R + 1 := by rw [r_valueByLog]; omega
  refine wl_aload_n (i := 1) dL_law_2679 rfl (by decide) rfl ?_
  refine wl_cell (i := 5 * c) (k := 1) hw dL_law_2680 dL_law_2681 dL_law_2683 dL_law_2684 dL_law_2685 rfl (by decide) (c5 hi5 (by decide)) hL ?_
  rw [← e_u]
  refine wl_aload_n (i := 3) dL_law_2686 rfl (by decide) rfl ?_
  refine wl_cSH (y' := m_L_valueByLog) [vr (some (nm 40 0)), vi u, vr (some (nm 70 0))] [] 6 60 dL_law_2687 ml_L_298 st_L_valueByLog okH_L_valueByLog rfl (Nat.le_of_ble_eq_true rfl) rfl (Nat.le_of_ble_eq_true rfl) (d' := 99) (by decide) (by omega) (by omega) (g_valueByLog B hc C A.1   (by decide) (Nat.le_refl _) (Nat.le_refl _) (fun h1 M1 m1 m2 C1 F1 O1 w1 => contL_ret ?_))
  have D1 := D.fc F1
  have J1 := J.fc F1
  have A1 := A.fc F1 O1
  refine wl_istore (i := 6) (lv' := (6, vi (o_valueByLog R u (tn u)).1) :: lvA c) dL_law_2690 (by decide) (by decide) rfl ?_
  refine wl_aload_n (i := 2) dL_law_2692 rfl (by decide) rfl ?_
  refine wl_cell (i := 5 * c) (k := 1) hw dL_law_2693 dL_law_2694 dL_law_2696 dL_law_2697 dL_law_2698 rfl (by decide) (c5 hi5 (by decide)) hL ?_
  rw [← e_u]
  refine wl_cV (y' := m_X16_valueByLog) 17 [vi u] [] 1 4 dL_law_2699 ml_L_300 im_X16_valueByLog se_X16_valueByLog (by decide) D1.hk ok_X16_valueByLog rfl (Nat.le_of_ble_eq_true rfl) rfl (Nat.le_of_ble_eq_true rfl) (d' := 99) (by decide) (by omega) (by omega) (w_valueByLog B hc D1 J1  (by decide)  (Nat.le_refl _) (Nat.le_refl _) (fun h2 D2 F2 t2 => contL_ret ?_))
  refine wl_istore (i := 7) (lv' := (7, vi (o_valueByLog R u (tn u)).2.1) :: (6, vi (o_valueByLog R u (tn u)).1) :: lvA c) dL_law_2702 (by decide) (by decide) rfl ?_
  refine l_tailI (p := 2704) dL_law_2704 dL_law_2705 dL_law_2708 dL_law_2710 dL_law_2715 dL_law_2717 dL_law_2720 dL_law_2721 dL_law_2722 dL_law_2723 dL_law_2725 dL_law_2726 dL_law_2727 dL_law_2732 (by decide) D2.hk t2 (A1.fg F2).1 (fun z => by rw [F2.out]; exact w1 z) ?_
  exact l_next K (J1.fg F2) (C1.fg F2) D2 (A1.fg F2) (by rw [r_valueByLog]; exact B.same hc m1 m2) (by have := U.go hc (mc := 6 + 1) (ms := 60 + 4) (R' := (o_valueByLog R u (tn u)).2.2) (by decide) (by omega); rwa [Nat.sub_add_eq, Nat.sub_add_eq] at this) lvA_in
set_option maxRecDepth 100000 in
set_option maxHeartbeats 4000000 in
theorem x_history {G : GG} {w c bc bs M n : Nat} {h : Hp} {Q : Pst} {V : SV} {x : Nat → QIS} {R : RS} (hw : w = G.2.2.2.2.1) (hL : slen G < 2 ^ 31) (hi5 : 5 * c + 5 ≤ slen G) (hc : c < 512) (J : JC h) (C : CLS h V M n x R) (D : MDL h V n x R) (A : ARR h) (B : PUR c V M n x R) (U : BUD c n x R bc bs) (K : NXT G w (c + 1) Q) : WL G w m_L_law 100 2735 (lvA c) [] h bc bs Q := by
  obtain ⟨hS, hW, hmd, hMc, hX, hRB, hLF⟩ := id B
  have hm25 : sMd V + 25 ≤ 1000000 := by omega
  have hnv := hS.1
  have hn12 := hX.1.2.1
  have hb1 := hRB.1
  have U2 := id U
  unfold BUD at U2
  have P2 := PC_max hX (fun s h => (hX.2.1 s h).1)
  obtain ⟨u, e_u⟩ : ∃ z, z = G.2.2.2.2.2.2 (5 * c + 1) := ⟨_, rfl⟩
  have hu6 : ixB u (RS_rn R) = true → u = nI (tn u) ∧ tn u < RS_rn R := ix_tn (by omega)
  have hfl : flg (o_history R u (tn u)).2.2 ≤ flg R + 1 := by rw [r_history]; omega
  refine wl_aload_n (i := 1) dL_law_2735 rfl (by decide) rfl ?_
  refine wl_cell (i := 5 * c) (k := 1) hw dL_law_2736 dL_law_2737 dL_law_2739 dL_law_2740 dL_law_2741 rfl (by decide) (c5 hi5 (by decide)) hL ?_
  rw [← e_u]
  refine wl_aload_n (i := 3) dL_law_2742 rfl (by decide) rfl ?_
  refine wl_cSH (y' := m_L_history) [vr (some (nm 40 0)), vi u, vr (some (nm 70 0))] [] 6 60 dL_law_2743 ml_L_301 st_L_history okH_L_history rfl (Nat.le_of_ble_eq_true rfl) rfl (Nat.le_of_ble_eq_true rfl) (d' := 99) (by decide) (by omega) (by omega) (g_history B hc C A.1   (by decide) (Nat.le_refl _) (Nat.le_refl _) (fun h1 M1 m1 m2 C1 F1 O1 w1 => contL_ret ?_))
  have D1 := D.fc F1
  have J1 := J.fc F1
  have A1 := A.fc F1 O1
  refine wl_istore (i := 6) (lv' := (6, vi (o_history R u (tn u)).1) :: lvA c) dL_law_2746 (by decide) (by decide) rfl ?_
  refine wl_aload_n (i := 2) dL_law_2748 rfl (by decide) rfl ?_
  refine wl_cell (i := 5 * c) (k := 1) hw dL_law_2749 dL_law_2750 dL_law_2752 dL_law_2753 dL_law_2754 rfl (by decide) (c5 hi5 (by decide)) hL ?_
  rw [← e_u]
  refine wl_cV (y' := m_X16_history) 17 [vi u] [] 0 0 dL_law_2755 ml_L_303 im_X16_history se_X16_history (by decide) D1.hk ok_X16_history rfl (Nat.le_of_ble_eq_true rfl) rfl (Nat.le_of_ble_eq_true rfl) (d' := 99) (by decide) (by omega) (by omega) (w_history B hc D1 J1  (by decide)  (Nat.le_refl _) (Nat.le_refl _) (fun h2 D2 F2 t2 => contL_ret ?_))
  refine wl_istore (i := 7) (lv' := (7, vi (o_history R u (tn u)).2.1) :: (6, vi (o_history R u (tn u)).1) :: lvA c) dL_law_2758 (by decide) (by decide) rfl ?_
  refine l_tailI (p := 2760) dL_law_2760 dL_law_2761 dL_law_2764 dL_law_2766 dL_law_2771 dL_law_2773 dL_law_2776 dL_law_2777 dL_law_2778 dL_law_2779 dL_law_2781 dL_law_2782 dL_law_2783 dL_law_2788 (by decide) D2.hk t2 (A1.fg F2).1 (fun z => by rw [F2.out]; exact w1 z) ?_
  exact l_next K (J1.fg F2) (C1.fg F2) D2 (A1.fg F2) (by rw [r_history]; exact B.same hc m1 m2) (by have := U.go hc (mc := 6 + 0) (ms := 60 + 0) (R' := (o_history R u (tn u)).2.2) (by decide) (by omega); rwa [Nat.sub_add_eq, Nat.sub_add_eq] at this) lvA_in
set_option maxRecDepth 100000 in
set_option maxHeartbeats 4000000 in
theorem x_moment {G : GG} {w c bc bs M n : Nat} {h : Hp} {Q : Pst} {V : SV} {x : Nat → QIS} {R : RS} (hw : w = G.2.2.2.2.1) (hL : slen G < 2 ^ 31) (hi5 : 5 * c + 5 ≤ slen G) (hc : c < 512) (J : JC h) (C : CLS h V M n x R) (D : MDL h V n x R) (A : ARR h) (B : PUR c V M n x R) (U : BUD c n x R bc bs) (K : NXT G w (c + 1) Q) : WL G w m_L_law 100 2791 (lvA c) [] h bc bs Q := by
  obtain ⟨hS, hW, hmd, hMc, hX, hRB, hLF⟩ := id B
  have m1 : M ≤ M := Nat.le_refl _
  have m2 : M ≤ M + 1 := Nat.le_succ _
  have U2 := id U
  unfold BUD at U2
  have P2 := PC_max hX (fun s h => (hX.2.1 s h).1)
  refine wl_aload_n (i := 1) dL_law_2791 rfl (by decide) rfl ?_
  obtain ⟨X, HR, HS⟩ := id C.1
  refine wl_cV (y' := m_X11_moment) 12 [] [] 6 40 dL_law_2792 ml_L_304 im_X11_moment se_X11_moment (by decide) C.hk ok_X11_moment rfl (Nat.le_of_ble_eq_true rfl) rfl (Nat.le_of_ble_eq_true rfl) (d' := 99) (by decide) (by omega) (by omega) (c_X11_moment HR HS (RB_up hRB (by omega)) (by decide) (Nat.le_refl _) (Nat.le_refl _) ⟨fun i e _ z => (by have z : (none : Option String) = some e := z; cases z), fun _ h1 X1 HR1 HS1 F1 => contL_ret ?_⟩)
  have C1 := C.ofR F1 HR1 HS1
  have D1 := D.fc F1.fk.fc
  have A1 := A.fc F1.fk.fc (FK.out F1.fk A.1)
  refine wl_aload_n (i := 2) dL_law_2795 rfl (by decide) rfl ?_
  refine wl_cV (y' := m_X16_moment) 17 [] [vi (o_moment R).2.1] 0 0 dL_law_2796 ml_L_307 im_X16_moment se_X16_moment (by decide) D1.hk ok_X16_moment rfl (Nat.le_of_ble_eq_true rfl) rfl (Nat.le_of_ble_eq_true rfl) (d' := 99) (by decide) (by omega) (by omega) (c_X16_moment D1.2.2.1 (RB_up hRB (by omega)) D1.2.2.2.1 (by decide) (fun h2 e1 e2 e3 e4 => contL_ret ?_))
  obtain ⟨D2, F2⟩ := D1.ofR e1 e3 e4
  refine wl_icmp_eq 3305 dL_law_2799 (by decide) (fun _ => ?_) (fun c9 => absurd rfl c9)
  refine l_next K ((J.fc F1.fk.fc).fg F2) (C1.fg F2) D2 (A1.fg F2) (B.same hc m1 m2) (by have := U.go hc (mc := 6 + 0) (ms := 40 + 0) (R' := R) (by decide) (by omega); rwa [Nat.sub_add_eq, Nat.sub_add_eq] at this) (fun _ z => z)
set_option maxRecDepth 100000 in
set_option maxHeartbeats 4000000 in
theorem x_logged {G : GG} {w c bc bs M n : Nat} {h : Hp} {Q : Pst} {V : SV} {x : Nat → QIS} {R : RS} (hw : w = G.2.2.2.2.1) (hL : slen G < 2 ^ 31) (hi5 : 5 * c + 5 ≤ slen G) (hc : c < 512) (J : JC h) (C : CLS h V M n x R) (D : MDL h V n x R) (A : ARR h) (B : PUR c V M n x R) (U : BUD c n x R bc bs) (K : NXT G w (c + 1) Q) : WL G w m_L_law 100 2804 (lvA c) [] h bc bs Q := by
  obtain ⟨hS, hW, hmd, hMc, hX, hRB, hLF⟩ := id B
  have m1 : M ≤ M := Nat.le_refl _
  have m2 : M ≤ M + 1 := Nat.le_succ _
  have U2 := id U
  unfold BUD at U2
  have P2 := PC_max hX (fun s h => (hX.2.1 s h).1)
  refine wl_aload_n (i := 1) dL_law_2804 rfl (by decide) rfl ?_
  obtain ⟨X, HR, HS⟩ := id C.1
  refine wl_cV (y' := m_X11_logged) 12 [] [] 6 40 dL_law_2805 ml_L_308 im_X11_logged se_X11_logged (by decide) C.hk ok_X11_logged rfl (Nat.le_of_ble_eq_true rfl) rfl (Nat.le_of_ble_eq_true rfl) (d' := 99) (by decide) (by omega) (by omega) (c_X11_logged HR HS (RB_up hRB (by omega)) (by decide) (Nat.le_refl _) (Nat.le_refl _) ⟨fun i e _ z => (by have z : (none : Option String) = some e := z; cases z), fun _ h1 X1 HR1 HS1 F1 => contL_ret ?_⟩)
  have C1 := C.ofR F1 HR1 HS1
  have D1 := D.fc F1.fk.fc
  have A1 := A.fc F1.fk.fc (FK.out F1.fk A.1)
  refine wl_aload_n (i := 2) dL_law_2808 rfl (by decide) rfl ?_
  refine wl_cV (y' := m_X16_logged) 17 [] [vi (o_logged R).2.1] 0 0 dL_law_2809 ml_L_311 im_X16_logged se_X16_logged (by decide) D1.hk ok_X16_logged rfl (Nat.le_of_ble_eq_true rfl) rfl (Nat.le_of_ble_eq_true rfl) (d' := 99) (by decide) (by omega) (by omega) (c_X16_logged D1.2.2.1 (RB_up hRB (by omega)) D1.2.2.2.1 (by decide) (fun h2 e1 e2 e3 e4 => contL_ret ?_))
  obtain ⟨D2, F2⟩ := D1.ofR e1 e3 e4
  refine wl_icmp_eq 3305 dL_law_2812 (by decide) (fun _ => ?_) (fun c9 => absurd rfl c9)
  refine l_next K ((J.fc F1.fk.fc).fg F2) (C1.fg F2) D2 (A1.fg F2) (B.same hc m1 m2) (by have := U.go hc (mc := 6 + 0) (ms := 40 + 0) (R' := R) (by decide) (by omega); rwa [Nat.sub_add_eq, Nat.sub_add_eq] at this) (fun _ z => z)
set_option maxRecDepth 100000 in
set_option maxHeartbeats 4000000 in
theorem x_logAt {G : GG} {w c bc bs M n : Nat} {h : Hp} {Q : Pst} {V : SV} {x : Nat → QIS} {R : RS} (hw : w = G.2.2.2.2.1) (hL : slen G < 2 ^ 31) (hi5 : 5 * c + 5 ≤ slen G) (hc : c < 512) (J : JC h) (C : CLS h V M n x R) (D : MDL h V n x R) (A : ARR h) (B : PUR c V M n x R) (U : BUD c n x R bc bs) (K : NXT G w (c + 1) Q) : WL G w m_L_law 100 2817 (lvA c) [] h bc bs Q := by
  obtain ⟨hS, hW, hmd, hMc, hX, hRB, hLF⟩ := id B
  have hm25 : sMd V + 25 ≤ 1000000 := by omega
  have hnv := hS.1
  have hn12 := hX.1.2.1
  have hb1 := hRB.1
  have U2 := id U
  unfold BUD at U2
  have P2 := PC_max hX (fun s h => (hX.2.1 s h).1)
  obtain ⟨w, e_w⟩ : ∃ z, z = G.2.2.2.2.2.2 (5 * c + 1) := ⟨_, rfl⟩
  obtain ⟨y, e_y⟩ : ∃ z, z = G.2.2.2.2.2.2 (5 * c + 2) := ⟨_, rfl⟩
  have hfl : flg (o_logAt R w (tn w) y (tn y)).2.2 ≤ flg R + 1 := by rw [r_logAt]; omega
  refine wl_aload_n (i := 1) dL_law_2817 rfl (by decide) rfl ?_
  refine wl_cell (i := 5 * c) (k := 1) hw dL_law_2818 dL_law_2819 dL_law_2821 dL_law_2822 dL_law_2823 rfl (by decide) (c5 hi5 (by decide)) hL ?_
  rw [← e_w]
  refine wl_cell (i := 5 * c) (k := 2) hw dL_law_2824 dL_law_2825 dL_law_2827 dL_law_2828 dL_law_2829 rfl (by decide) (c5 hi5 (by decide)) hL ?_
  rw [← e_y]
  refine wl_aload_n (i := 3) dL_law_2830 rfl (by decide) rfl ?_
  refine wl_cSH (y' := m_L_logAt) [vr (some (nm 40 0)), vi w, vi y, vr (some (nm 70 0))] [] 6 60 dL_law_2831 ml_L_312 st_L_logAt okH_L_logAt rfl (Nat.le_of_ble_eq_true rfl) rfl (Nat.le_of_ble_eq_true rfl) (d' := 99) (by decide) (by omega) (by omega) (g_logAt B hc C A.1   (by decide) (Nat.le_refl _) (Nat.le_refl _) (fun h1 M1 m1 m2 C1 F1 O1 w1 => contL_ret ?_))
  have D1 := D.fc F1
  have J1 := J.fc F1
  have A1 := A.fc F1 O1
  refine wl_istore (i := 6) (lv' := (6, vi (o_logAt R w (tn w) y (tn y)).1) :: lvA c) dL_law_2834 (by decide) (by decide) rfl ?_
  refine wl_aload_n (i := 2) dL_law_2836 rfl (by decide) rfl ?_
  refine wl_cell (i := 5 * c) (k := 1) hw dL_law_2837 dL_law_2838 dL_law_2840 dL_law_2841 dL_law_2842 rfl (by decide) (c5 hi5 (by decide)) hL ?_
  rw [← e_w]
  refine wl_cell (i := 5 * c) (k := 2) hw dL_law_2843 dL_law_2844 dL_law_2846 dL_law_2847 dL_law_2848 rfl (by decide) (c5 hi5 (by decide)) hL ?_
  rw [← e_y]
  refine wl_cV (y' := m_X16_logAt) 17 [vi w, vi y] [] 0 0 dL_law_2849 ml_L_314 im_X16_logAt se_X16_logAt (by decide) D1.hk ok_X16_logAt rfl (Nat.le_of_ble_eq_true rfl) rfl (Nat.le_of_ble_eq_true rfl) (d' := 99) (by decide) (by omega) (by omega) (w_logAt B hc D1 J1  (by decide)  (Nat.le_refl _) (Nat.le_refl _) (fun h2 D2 F2 t2 => contL_ret ?_))
  refine wl_istore (i := 7) (lv' := (7, vi (o_logAt R w (tn w) y (tn y)).2.1) :: (6, vi (o_logAt R w (tn w) y (tn y)).1) :: lvA c) dL_law_2852 (by decide) (by decide) rfl ?_
  refine l_tailI (p := 2854) dL_law_2854 dL_law_2855 dL_law_2858 dL_law_2860 dL_law_2865 dL_law_2867 dL_law_2870 dL_law_2871 dL_law_2872 dL_law_2873 dL_law_2875 dL_law_2876 dL_law_2877 dL_law_2882 (by decide) D2.hk t2 (A1.fg F2).1 (fun z => by rw [F2.out]; exact w1 z) ?_
  exact l_next K (J1.fg F2) (C1.fg F2) D2 (A1.fg F2) (by rw [r_logAt]; exact B.same hc m1 m2) (by have := U.go hc (mc := 6 + 0) (ms := 60 + 0) (R' := (o_logAt R w (tn w) y (tn y)).2.2) (by decide) (by omega); rwa [Nat.sub_add_eq, Nat.sub_add_eq] at this) lvA_in
set_option maxRecDepth 100000 in
set_option maxHeartbeats 4000000 in
theorem x_addAgent {G : GG} {w c bc bs M n : Nat} {h : Hp} {Q : Pst} {V : SV} {x : Nat → QIS} {R : RS} (hw : w = G.2.2.2.2.1) (hL : slen G < 2 ^ 31) (hi5 : 5 * c + 5 ≤ slen G) (hc : c < 512) (J : JC h) (C : CLS h V M n x R) (D : MDL h V n x R) (A : ARR h) (B : PUR c V M n x R) (U : BUD c n x R bc bs) (K : NXT G w (c + 1) Q) : WL G w m_L_law 100 2885 (lvA c) [] h bc bs Q := by
  obtain ⟨hS, hW, hmd, hMc, hX, hRB, hLF⟩ := id B
  have hm25 : sMd V + 25 ≤ 1000000 := by omega
  have hnv := hS.1
  have hn12 := hX.1.2.1
  have hb1 := hRB.1
  have U2 := id U
  unfold BUD at U2
  have P2 := PC_max hX (fun s h => (hX.2.1 s h).1)
  obtain ⟨v, e_v⟩ : ∃ z, z = G.2.2.2.2.2.2 (5 * c + 1) := ⟨_, rfl⟩
  obtain ⟨lo, e_lo⟩ : ∃ z, z = G.2.2.2.2.2.2 (5 * c + 2) := ⟨_, rfl⟩
  obtain ⟨hi, e_hi⟩ : ∃ z, z = G.2.2.2.2.2.2 (5 * c + 3) := ⟨_, rfl⟩
  obtain ⟨md, e_md⟩ : ∃ z, z = ((G.2.2.2.2.2.2 (5 * c + 4)).toUInt32 % 65536).toNat := ⟨_, rfl⟩
  have hmd9 : md < 65536 := by rw [e_md]; exact i2c_lt _
  have hfl : flg (o_addAgent R v lo hi (nI md)).2.2 ≤ flg R + 1 := f_addAgent.2
  refine wl_aload_n (i := 1) dL_law_2885 rfl (by decide) rfl ?_
  refine wl_cell (i := 5 * c) (k := 1) hw dL_law_2886 dL_law_2887 dL_law_2889 dL_law_2890 dL_law_2891 rfl (by decide) (c5 hi5 (by decide)) hL ?_
  rw [← e_v]
  refine wl_cell (i := 5 * c) (k := 2) hw dL_law_2892 dL_law_2893 dL_law_2895 dL_law_2896 dL_law_2897 rfl (by decide) (c5 hi5 (by decide)) hL ?_
  rw [← e_lo]
  refine wl_cell (i := 5 * c) (k := 3) hw dL_law_2898 dL_law_2899 dL_law_2901 dL_law_2902 dL_law_2903 rfl (by decide) (c5 hi5 (by decide)) hL ?_
  rw [← e_hi]
  refine wl_cell (i := 5 * c) (k := 4) hw dL_law_2904 dL_law_2905 dL_law_2907 dL_law_2908 dL_law_2909 rfl (by decide) (c5 hi5 (by decide)) hL ?_
  refine wl_i2c dL_law_2910 ?_
  rw [i2c_n, ← e_md]
  refine wl_aload_n (i := 3) dL_law_2911 rfl (by decide) rfl ?_
  refine wl_cSH (y' := m_L_addAgent) [vr (some (nm 40 0)), vi v, vi lo, vi hi, vi (nI md), vr (some (nm 70 0))] [] 6 60 dL_law_2912 ml_L_315 st_L_addAgent okH_L_addAgent rfl (Nat.le_of_ble_eq_true rfl) rfl (Nat.le_of_ble_eq_true rfl) (d' := 99) (by decide) (by omega) (by omega) (g_addAgent B hc C A.1 hmd9  (by decide) (Nat.le_refl _) (Nat.le_refl _) (fun h1 M1 m1 m2 C1 F1 O1 w1 => contL_ret ?_))
  have D1 := D.fc F1
  have J1 := J.fc F1
  have A1 := A.fc F1 O1
  refine wl_istore (i := 6) (lv' := (6, vi (o_addAgent R v lo hi (nI md)).1) :: lvA c) dL_law_2915 (by decide) (by decide) rfl ?_
  refine wl_aload_n (i := 2) dL_law_2917 rfl (by decide) rfl ?_
  refine wl_cell (i := 5 * c) (k := 1) hw dL_law_2918 dL_law_2919 dL_law_2921 dL_law_2922 dL_law_2923 rfl (by decide) (c5 hi5 (by decide)) hL ?_
  rw [← e_v]
  refine wl_cell (i := 5 * c) (k := 2) hw dL_law_2924 dL_law_2925 dL_law_2927 dL_law_2928 dL_law_2929 rfl (by decide) (c5 hi5 (by decide)) hL ?_
  rw [← e_lo]
  refine wl_cell (i := 5 * c) (k := 3) hw dL_law_2930 dL_law_2931 dL_law_2933 dL_law_2934 dL_law_2935 rfl (by decide) (c5 hi5 (by decide)) hL ?_
  rw [← e_hi]
  refine wl_cell (i := 5 * c) (k := 4) hw dL_law_2936 dL_law_2937 dL_law_2939 dL_law_2940 dL_law_2941 rfl (by decide) (c5 hi5 (by decide)) hL ?_
  refine wl_i2c dL_law_2942 ?_
  rw [i2c_n, ← e_md]
  refine wl_cV (y' := m_X16_addAgent) 17 [vi v, vi lo, vi hi, vi (nI md)] [] 6 100 dL_law_2943 ml_L_318 im_X16_addAgent se_X16_addAgent (by decide) D1.hk ok_X16_addAgent rfl (Nat.le_of_ble_eq_true rfl) rfl (Nat.le_of_ble_eq_true rfl) (d' := 99) (by decide) (by omega) (by omega) (w_addAgent B hc D1 J1 hmd9 (by decide)  (Nat.le_refl _) (Nat.le_refl _) (fun h2 D2 F2 t2 => contL_ret ?_))
  refine wl_istore (i := 7) (lv' := (7, vi (o_addAgent R v lo hi (nI md)).2.1) :: (6, vi (o_addAgent R v lo hi (nI md)).1) :: lvA c) dL_law_2946 (by decide) (by decide) rfl ?_
  refine l_tailI (p := 2948) dL_law_2948 dL_law_2949 dL_law_2952 dL_law_2954 dL_law_2959 dL_law_2961 dL_law_2964 dL_law_2965 dL_law_2966 dL_law_2967 dL_law_2969 dL_law_2970 dL_law_2971 dL_law_2976 (by decide) D2.hk t2 (A1.fg F2).1 (fun z => by rw [F2.out]; exact w1 z) ?_
  exact l_next K (J1.fg F2) (C1.fg F2) D2 (A1.fg F2) (B.r hc m1 m2 (RB_addAgent B.2.2.2.2.2.1 (by omega) ) (f_addAgent)) (by have := U.go hc (mc := 6 + 6) (ms := 60 + 100) (R' := (o_addAgent R v lo hi (nI md)).2.2) (by decide) (by omega); rwa [Nat.sub_add_eq, Nat.sub_add_eq] at this) lvA_in
set_option maxRecDepth 100000 in
set_option maxHeartbeats 4000000 in
theorem x_send {G : GG} {w c bc bs M n : Nat} {h : Hp} {Q : Pst} {V : SV} {x : Nat → QIS} {R : RS} (hw : w = G.2.2.2.2.1) (hL : slen G < 2 ^ 31) (hi5 : 5 * c + 5 ≤ slen G) (hc : c < 512) (J : JC h) (C : CLS h V M n x R) (D : MDL h V n x R) (A : ARR h) (B : PUR c V M n x R) (U : BUD c n x R bc bs) (K : NXT G w (c + 1) Q) : WL G w m_L_law 100 2979 (lvA c) [] h bc bs Q := by
  obtain ⟨hS, hW, hmd, hMc, hX, hRB, hLF⟩ := id B
  have hm25 : sMd V + 25 ≤ 1000000 := by omega
  have hnv := hS.1
  have hn12 := hX.1.2.1
  have hb1 := hRB.1
  have U2 := id U
  unfold BUD at U2
  have P2 := PC_max hX (fun s h => (hX.2.1 s h).1)
  obtain ⟨v, e_v⟩ : ∃ z, z = G.2.2.2.2.2.2 (5 * c + 1) := ⟨_, rfl⟩
  obtain ⟨w, e_w⟩ : ∃ z, z = G.2.2.2.2.2.2 (5 * c + 2) := ⟨_, rfl⟩
  obtain ⟨z, e_z⟩ : ∃ z, z = G.2.2.2.2.2.2 (5 * c + 3) := ⟨_, rfl⟩
  have hv3 : ixB v 3 = true → v = nI (tn v) ∧ tn v < 3 := ix_tn (by decide)
  have hw4 : ixB w (RS_an R) = true → w = nI (tn w) ∧ tn w < RS_an R := ix_tn (by omega)
  have hfl : flg (o_send R v (tn v) w (tn w) z).2.2 ≤ flg R + 1 := f_send.2
  refine wl_aload_n (i := 1) dL_law_2979 rfl (by decide) rfl ?_
  refine wl_cell (i := 5 * c) (k := 1) hw dL_law_2980 dL_law_2981 dL_law_2983 dL_law_2984 dL_law_2985 rfl (by decide) (c5 hi5 (by decide)) hL ?_
  rw [← e_v]
  refine wl_cell (i := 5 * c) (k := 2) hw dL_law_2986 dL_law_2987 dL_law_2989 dL_law_2990 dL_law_2991 rfl (by decide) (c5 hi5 (by decide)) hL ?_
  rw [← e_w]
  refine wl_cell (i := 5 * c) (k := 3) hw dL_law_2992 dL_law_2993 dL_law_2995 dL_law_2996 dL_law_2997 rfl (by decide) (c5 hi5 (by decide)) hL ?_
  rw [← e_z]
  refine wl_aload_n (i := 3) dL_law_2998 rfl (by decide) rfl ?_
  refine wl_cSH (y' := m_L_send) [vr (some (nm 40 0)), vi v, vi w, vi z, vr (some (nm 70 0))] [] 6 60 dL_law_2999 ml_L_319 st_L_send okH_L_send rfl (Nat.le_of_ble_eq_true rfl) rfl (Nat.le_of_ble_eq_true rfl) (d' := 99) (by decide) (by omega) (by omega) (g_send B hc C A.1   (by decide) (Nat.le_refl _) (Nat.le_refl _) (fun h1 M1 m1 m2 C1 F1 O1 w1 => contL_ret ?_))
  have D1 := D.fc F1
  have J1 := J.fc F1
  have A1 := A.fc F1 O1
  refine wl_istore (i := 6) (lv' := (6, vi (o_send R v (tn v) w (tn w) z).1) :: lvA c) dL_law_3002 (by decide) (by decide) rfl ?_
  refine wl_aload_n (i := 2) dL_law_3004 rfl (by decide) rfl ?_
  refine wl_cell (i := 5 * c) (k := 1) hw dL_law_3005 dL_law_3006 dL_law_3008 dL_law_3009 dL_law_3010 rfl (by decide) (c5 hi5 (by decide)) hL ?_
  rw [← e_v]
  refine wl_cell (i := 5 * c) (k := 2) hw dL_law_3011 dL_law_3012 dL_law_3014 dL_law_3015 dL_law_3016 rfl (by decide) (c5 hi5 (by decide)) hL ?_
  rw [← e_w]
  refine wl_cell (i := 5 * c) (k := 3) hw dL_law_3017 dL_law_3018 dL_law_3020 dL_law_3021 dL_law_3022 rfl (by decide) (c5 hi5 (by decide)) hL ?_
  rw [← e_z]
  refine wl_cV (y' := m_X16_send) 17 [vi v, vi w, vi z] [] 2 1300 dL_law_3023 ml_L_321 im_X16_send se_X16_send (by decide) D1.hk ok_X16_send rfl (Nat.le_of_ble_eq_true rfl) rfl (Nat.le_of_ble_eq_true rfl) (d' := 99) (by decide) (by omega) (by omega) (w_send B hc D1 J1  (by decide)  (Nat.le_refl _) (Nat.le_refl _) (fun h2 D2 F2 t2 => contL_ret ?_))
  refine wl_istore (i := 7) (lv' := (7, vi (o_send R v (tn v) w (tn w) z).2.1) :: (6, vi (o_send R v (tn v) w (tn w) z).1) :: lvA c) dL_law_3026 (by decide) (by decide) rfl ?_
  refine l_tailI (p := 3028) dL_law_3028 dL_law_3029 dL_law_3032 dL_law_3034 dL_law_3039 dL_law_3041 dL_law_3044 dL_law_3045 dL_law_3046 dL_law_3047 dL_law_3049 dL_law_3050 dL_law_3051 dL_law_3056 (by decide) D2.hk t2 (A1.fg F2).1 (fun z => by rw [F2.out]; exact w1 z) ?_
  exact l_next K (J1.fg F2) (C1.fg F2) D2 (A1.fg F2) (B.r hc m1 m2 (RB_send B.2.2.2.2.2.1 (by omega) hv3 hw4) (f_send)) (by have := U.go hc (mc := 6 + 2) (ms := 60 + 1300) (R' := (o_send R v (tn v) w (tn w) z).2.2) (by decide) (by omega); rwa [Nat.sub_add_eq, Nat.sub_add_eq] at this) lvA_in
set_option maxRecDepth 100000 in
set_option maxHeartbeats 4000000 in
theorem x_act {G : GG} {w c bc bs M n : Nat} {h : Hp} {Q : Pst} {V : SV} {x : Nat → QIS} {R : RS} (hw : w = G.2.2.2.2.1) (hL : slen G < 2 ^ 31) (hi5 : 5 * c + 5 ≤ slen G) (hc : c < 512) (J : JC h) (C : CLS h V M n x R) (D : MDL h V n x R) (A : ARR h) (B : PUR c V M n x R) (U : BUD c n x R bc bs) (K : NXT G w (c + 1) Q) : WL G w m_L_law 100 3059 (lvA c) [] h bc bs Q := by
  obtain ⟨hS, hW, hmd, hMc, hX, hRB, hLF⟩ := id B
  have hm25 : sMd V + 25 ≤ 1000000 := by omega
  have hnv := hS.1
  have hn12 := hX.1.2.1
  have hb1 := hRB.1
  have U2 := id U
  unfold BUD at U2
  have P2 := PC_max hX (fun s h => (hX.2.1 s h).1)
  obtain ⟨w, e_w⟩ : ∃ z, z = G.2.2.2.2.2.2 (5 * c + 1) := ⟨_, rfl⟩
  have hw4 : ixB w (RS_an R) = true → w = nI (tn w) ∧ tn w < RS_an R := ix_tn (by omega)
  have hfl : flg (o_act R w (tn w)).2.2 ≤ flg R + 1 := f_act.2
  refine wl_aload_n (i := 1) dL_law_3059 rfl (by decide) rfl ?_
  refine wl_cell (i := 5 * c) (k := 1) hw dL_law_3060 dL_law_3061 dL_law_3063 dL_law_3064 dL_law_3065 rfl (by decide) (c5 hi5 (by decide)) hL ?_
  rw [← e_w]
  refine wl_aload_n (i := 3) dL_law_3066 rfl (by decide) rfl ?_
  refine wl_cSH (y' := m_L_act) [vr (some (nm 40 0)), vi w, vr (some (nm 70 0))] [] 6 60 dL_law_3067 ml_L_322 st_L_act okH_L_act rfl (Nat.le_of_ble_eq_true rfl) rfl (Nat.le_of_ble_eq_true rfl) (d' := 99) (by decide) (by omega) (by omega) (g_act B hc C A.1   (by decide) (Nat.le_refl _) (Nat.le_refl _) (fun h1 M1 m1 m2 C1 F1 O1 w1 => contL_ret ?_))
  have D1 := D.fc F1
  have J1 := J.fc F1
  have A1 := A.fc F1 O1
  refine wl_istore (i := 6) (lv' := (6, vi (o_act R w (tn w)).1) :: lvA c) dL_law_3070 (by decide) (by decide) rfl ?_
  refine wl_aload_n (i := 2) dL_law_3072 rfl (by decide) rfl ?_
  refine wl_cell (i := 5 * c) (k := 1) hw dL_law_3073 dL_law_3074 dL_law_3076 dL_law_3077 dL_law_3078 rfl (by decide) (c5 hi5 (by decide)) hL ?_
  rw [← e_w]
  refine wl_cV (y' := m_X16_act) 17 [vi w] [] 0 0 dL_law_3079 ml_L_324 im_X16_act se_X16_act (by decide) D1.hk ok_X16_act rfl (Nat.le_of_ble_eq_true rfl) rfl (Nat.le_of_ble_eq_true rfl) (d' := 99) (by decide) (by omega) (by omega) (w_act B hc D1 J1  (by decide)  (Nat.le_refl _) (Nat.le_refl _) (fun h2 D2 F2 t2 => contL_ret ?_))
  refine wl_istore (i := 7) (lv' := (7, vi (o_act R w (tn w)).2.1) :: (6, vi (o_act R w (tn w)).1) :: lvA c) dL_law_3082 (by decide) (by decide) rfl ?_
  refine l_tailI (p := 3084) dL_law_3084 dL_law_3085 dL_law_3088 dL_law_3090 dL_law_3095 dL_law_3097 dL_law_3100 dL_law_3101 dL_law_3102 dL_law_3103 dL_law_3105 dL_law_3106 dL_law_3107 dL_law_3112 (by decide) D2.hk t2 (A1.fg F2).1 (fun z => by rw [F2.out]; exact w1 z) ?_
  exact l_next K (J1.fg F2) (C1.fg F2) D2 (A1.fg F2) (B.r hc m1 m2 (RB_act B.2.2.2.2.2.1 (by omega) hw4) (f_act)) (by have := U.go hc (mc := 6 + 0) (ms := 60 + 0) (R' := (o_act R w (tn w)).2.2) (by decide) (by omega); rwa [Nat.sub_add_eq, Nat.sub_add_eq] at this) lvA_in
set_option maxRecDepth 100000 in
set_option maxHeartbeats 4000000 in
theorem x_beginAnew {G : GG} {w c bc bs M n : Nat} {h : Hp} {Q : Pst} {V : SV} {x : Nat → QIS} {R : RS} (hw : w = G.2.2.2.2.1) (hL : slen G < 2 ^ 31) (hi5 : 5 * c + 5 ≤ slen G) (hc : c < 512) (J : JC h) (C : CLS h V M n x R) (D : MDL h V n x R) (A : ARR h) (B : PUR c V M n x R) (U : BUD c n x R bc bs) (K : NXT G w (c + 1) Q) : WL G w m_L_law 100 3115 (lvA c) [] h bc bs Q := by
  obtain ⟨hS, hW, hmd, hMc, hX, hRB, hLF⟩ := id B
  have hm25 : sMd V + 25 ≤ 1000000 := by omega
  have hnv := hS.1
  have hn12 := hX.1.2.1
  have hb1 := hRB.1
  have U2 := id U
  unfold BUD at U2
  have P2 := PC_max hX (fun s h => (hX.2.1 s h).1)
  obtain ⟨w, e_w⟩ : ∃ z, z = G.2.2.2.2.2.2 (5 * c + 1) := ⟨_, rfl⟩
  obtain ⟨y, e_y⟩ : ∃ z, z = G.2.2.2.2.2.2 (5 * c + 2) := ⟨_, rfl⟩
  have hw4 : ixB w (RS_an R) = true → w = nI (tn w) ∧ tn w < RS_an R := ix_tn (by omega)
  have hfl : flg (o_beginAnew R w (tn w) y).2.2 ≤ flg R + 1 := f_beginAnew.2
  refine wl_aload_n (i := 1) dL_law_3115 rfl (by decide) rfl ?_
  refine wl_cell (i := 5 * c) (k := 1) hw dL_law_3116 dL_law_3117 dL_law_3119 dL_law_3120 dL_law_3121 rfl (by decide) (c5 hi5 (by decide)) hL ?_
  rw [← e_w]
  refine wl_cell (i := 5 * c) (k := 2) hw dL_law_3122 dL_law_3123 dL_law_3125 dL_law_3126 dL_law_3127 rfl (by decide) (c5 hi5 (by decide)) hL ?_
  rw [← e_y]
  refine wl_aload_n (i := 3) dL_law_3128 rfl (by decide) rfl ?_
  refine wl_cSH (y' := m_L_beginAnew) [vr (some (nm 40 0)), vi w, vi y, vr (some (nm 70 0))] [] 6 60 dL_law_3129 ml_L_325 st_L_beginAnew okH_L_beginAnew rfl (Nat.le_of_ble_eq_true rfl) rfl (Nat.le_of_ble_eq_true rfl) (d' := 99) (by decide) (by omega) (by omega) (g_beginAnew B hc C A.1   (by decide) (Nat.le_refl _) (Nat.le_refl _) (fun h1 M1 m1 m2 C1 F1 O1 w1 => contL_ret ?_))
  have D1 := D.fc F1
  have J1 := J.fc F1
  have A1 := A.fc F1 O1
  refine wl_istore (i := 6) (lv' := (6, vi (o_beginAnew R w (tn w) y).1) :: lvA c) dL_law_3132 (by decide) (by decide) rfl ?_
  refine wl_aload_n (i := 2) dL_law_3134 rfl (by decide) rfl ?_
  refine wl_cell (i := 5 * c) (k := 1) hw dL_law_3135 dL_law_3136 dL_law_3138 dL_law_3139 dL_law_3140 rfl (by decide) (c5 hi5 (by decide)) hL ?_
  rw [← e_w]
  refine wl_cell (i := 5 * c) (k := 2) hw dL_law_3141 dL_law_3142 dL_law_3144 dL_law_3145 dL_law_3146 rfl (by decide) (c5 hi5 (by decide)) hL ?_
  rw [← e_y]
  refine wl_cV (y' := m_X16_beginAnew) 17 [vi w, vi y] [] 0 0 dL_law_3147 ml_L_327 im_X16_beginAnew se_X16_beginAnew (by decide) D1.hk ok_X16_beginAnew rfl (Nat.le_of_ble_eq_true rfl) rfl (Nat.le_of_ble_eq_true rfl) (d' := 99) (by decide) (by omega) (by omega) (w_beginAnew B hc D1 J1  (by decide)  (Nat.le_refl _) (Nat.le_refl _) (fun h2 D2 F2 t2 => contL_ret ?_))
  refine wl_istore (i := 7) (lv' := (7, vi (o_beginAnew R w (tn w) y).2.1) :: (6, vi (o_beginAnew R w (tn w) y).1) :: lvA c) dL_law_3150 (by decide) (by decide) rfl ?_
  refine l_tailI (p := 3152) dL_law_3152 dL_law_3153 dL_law_3156 dL_law_3158 dL_law_3163 dL_law_3165 dL_law_3168 dL_law_3169 dL_law_3170 dL_law_3171 dL_law_3173 dL_law_3174 dL_law_3175 dL_law_3180 (by decide) D2.hk t2 (A1.fg F2).1 (fun z => by rw [F2.out]; exact w1 z) ?_
  exact l_next K (J1.fg F2) (C1.fg F2) D2 (A1.fg F2) (B.r hc m1 m2 (RB_beginAnew B.2.2.2.2.2.1 (by omega) hw4) (f_beginAnew)) (by have := U.go hc (mc := 6 + 0) (ms := 60 + 0) (R' := (o_beginAnew R w (tn w) y).2.2) (by decide) (by omega); rwa [Nat.sub_add_eq, Nat.sub_add_eq] at this) lvA_in
set_option maxRecDepth 100000 in
set_option maxHeartbeats 4000000 in
theorem x_errors {G : GG} {w c bc bs M n : Nat} {h : Hp} {Q : Pst} {V : SV} {x : Nat → QIS} {R : RS} (hw : w = G.2.2.2.2.1) (hL : slen G < 2 ^ 31) (hi5 : 5 * c + 5 ≤ slen G) (hc : c < 512) (J : JC h) (C : CLS h V M n x R) (D : MDL h V n x R) (A : ARR h) (B : PUR c V M n x R) (U : BUD c n x R bc bs) (K : NXT G w (c + 1) Q) : WL G w m_L_law 100 3183 (lvA c) [] h bc bs Q := by
  obtain ⟨hS, hW, hmd, hMc, hX, hRB, hLF⟩ := id B
  have hm25 : sMd V + 25 ≤ 1000000 := by omega
  have hnv := hS.1
  have hn12 := hX.1.2.1
  have hb1 := hRB.1
  have U2 := id U
  unfold BUD at U2
  have P2 := PC_max hX (fun s h => (hX.2.1 s h).1)
  obtain ⟨w, e_w⟩ : ∃ z, z = G.2.2.2.2.2.2 (5 * c + 1) := ⟨_, rfl⟩
  have hfl : flg (o_errors R w (tn w)).2.2 ≤ flg R + 1 := by rw [r_errors]; omega
  refine wl_aload_n (i := 1) dL_law_3183 rfl (by decide) rfl ?_
  refine wl_cell (i := 5 * c) (k := 1) hw dL_law_3184 dL_law_3185 dL_law_3187 dL_law_3188 dL_law_3189 rfl (by decide) (c5 hi5 (by decide)) hL ?_
  rw [← e_w]
  refine wl_aload_n (i := 3) dL_law_3190 rfl (by decide) rfl ?_
  refine wl_cSH (y' := m_L_errors) [vr (some (nm 40 0)), vi w, vr (some (nm 70 0))] [] 6 60 dL_law_3191 ml_L_328 st_L_errors okH_L_errors rfl (Nat.le_of_ble_eq_true rfl) rfl (Nat.le_of_ble_eq_true rfl) (d' := 99) (by decide) (by omega) (by omega) (g_errors B hc C A.1   (by decide) (Nat.le_refl _) (Nat.le_refl _) (fun h1 M1 m1 m2 C1 F1 O1 w1 => contL_ret ?_))
  have D1 := D.fc F1
  have J1 := J.fc F1
  have A1 := A.fc F1 O1
  refine wl_istore (i := 6) (lv' := (6, vi (o_errors R w (tn w)).1) :: lvA c) dL_law_3194 (by decide) (by decide) rfl ?_
  refine wl_aload_n (i := 2) dL_law_3196 rfl (by decide) rfl ?_
  refine wl_cell (i := 5 * c) (k := 1) hw dL_law_3197 dL_law_3198 dL_law_3200 dL_law_3201 dL_law_3202 rfl (by decide) (c5 hi5 (by decide)) hL ?_
  rw [← e_w]
  refine wl_cV (y' := m_X16_errors) 17 [vi w] [] 0 0 dL_law_3203 ml_L_330 im_X16_errors se_X16_errors (by decide) D1.hk ok_X16_errors rfl (Nat.le_of_ble_eq_true rfl) rfl (Nat.le_of_ble_eq_true rfl) (d' := 99) (by decide) (by omega) (by omega) (w_errors B hc D1 J1  (by decide)  (Nat.le_refl _) (Nat.le_refl _) (fun h2 D2 F2 t2 => contL_ret ?_))
  refine wl_istore (i := 7) (lv' := (7, vi (o_errors R w (tn w)).2.1) :: (6, vi (o_errors R w (tn w)).1) :: lvA c) dL_law_3206 (by decide) (by decide) rfl ?_
  refine l_tailI (p := 3208) dL_law_3208 dL_law_3209 dL_law_3212 dL_law_3214 dL_law_3219 dL_law_3221 dL_law_3224 dL_law_3225 dL_law_3226 dL_law_3227 dL_law_3229 dL_law_3230 dL_law_3231 dL_law_3236 (by decide) D2.hk t2 (A1.fg F2).1 (fun z => by rw [F2.out]; exact w1 z) ?_
  exact l_next K (J1.fg F2) (C1.fg F2) D2 (A1.fg F2) (by rw [r_errors]; exact B.same hc m1 m2) (by have := U.go hc (mc := 6 + 0) (ms := 60 + 0) (R' := (o_errors R w (tn w)).2.2) (by decide) (by omega); rwa [Nat.sub_add_eq, Nat.sub_add_eq] at this) lvA_in
