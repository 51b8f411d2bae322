/-! The script and the text "adkt": cells below the run's heap. -/
section LT
variable {G : GG} {y y' : MI} {d d' pc idx n : Nat} {lv : LV} {st rest : List AV} {h : Hp} {bc bs mc ms : Nat} {Q : Pst}
theorem sx_S {U : State} (h : Sx G U) : vk_S 1 [4] [[97, 100, 107, 116]] (fun _ => gI G 1) (fun _ => gN G) (gA G) U U.heap := h.2.2.2.2.2.2.2.2.2.2.1
theorem wq_getsZ (hd : decode (mC y) pc = .ok (.getstatic idx, 3)) (hlink : Cond.fieldLink (mN y).cls idx "java/lang/String" "COMPACT_STRINGS" "Z" ∈ lw_good) (K : WQ G y d (pc + 3) lv (vi 1 :: st) h bc bs Q) : WQ G y d pc lv st h bc bs Q := by
  intro p l e R s m args below meth c C H locs cells slots ls hr hS hl hc hs
  exact va_gets C.1 C.2.1 C.2.2.2.2.2.2.2.2.1.2.2.2.2.2.2.2.2.2.2.2.1 hS C.2.2.2.2.2.2.1 (C.2.2.2.2.2.2.2.1 _ hlink) (fun _ hx => hx) hd (K p l e R s m args below meth c C H locs cells slots ls hr hS hl hc hs)
theorem wq_getsQ (hd : decode (mC y) pc = .ok (.getstatic idx, 3)) (hlink : Cond.fieldLink (mN y).cls idx "jdk/internal/util/Preconditions" "SIOOBE_FORMATTER" "Ljava/util/function/BiFunction;" ∈ lw_good) (K : ∀ r : Option Nat, WQ G y d (pc + 3) lv (vr r :: st) h bc bs Q) : WQ G y d pc lv st h bc bs Q := by
  intro p l e R s m args below meth c C H locs cells slots ls hr hS hl hc hs
  rcases C.2.2.2.2.2.2.2.2.1.2.2.2.2.2.2.2.2.2.2.2.2.2.2.1.1 with hz | ⟨t, hz⟩
  · exact va_gets C.1 C.2.1 hz hS C.2.2.2.2.2.2.1 (C.2.2.2.2.2.2.2.1 _ hlink) (fun _ hx => hx) hd (K none p l e R s m args below meth c C H locs cells slots ls hr hS hl hc hs)
  · exact va_gets C.1 C.2.1 hz hS C.2.2.2.2.2.2.1 (C.2.2.2.2.2.2.2.1 _ hlink) (fun _ hx => hx) hd (K (some t) p l e R s m args below meth c C H locs cells slots ls hr hS hl hc hs)
theorem wq_getLV (hd : decode (mC y) pc = .ok (.getfield idx, 3)) (hlink : Cond.fieldLink (mN y).cls idx "java/lang/String" "value" "[B" ∈ lw_good) (K : WQ G y d (pc + 3) lv (vr (some (gN G)) :: st) h bc bs Q) : WQ G y d pc lv (vr (some (gI G 1)) :: st) h bc bs Q := by
  intro p l e R s m args below meth c C H locs cells slots ls hr hS hl hc hs
  exact vk_getf C.1 C.2.1 ((sx_S C.2.2.2.2.2.2.2.2.1).1 0 (by decide)).2.2.1 hS C.2.2.2.2.2.2.1 (C.2.2.2.2.2.2.2.1 _ hlink) (fun _ hx => hx) hd (K p l e R s m args below meth c C H locs cells slots ls hr hS hl hc hs)
theorem wq_getLC (hd : decode (mC y) pc = .ok (.getfield idx, 3)) (hlink : Cond.fieldLink (mN y).cls idx "java/lang/String" "coder" "B" ∈ lw_good) (K : WQ G y d (pc + 3) lv (vi (nI 0) :: st) h bc bs Q) : WQ G y d pc lv (vr (some (gI G 1)) :: st) h bc bs Q := by
  intro p l e R s m args below meth c C H locs cells slots ls hr hS hl hc hs
  exact vk_getf C.1 C.2.1 ((sx_S C.2.2.2.2.2.2.2.2.1).1 0 (by decide)).2.1 hS C.2.2.2.2.2.2.1 (C.2.2.2.2.2.2.2.1 _ hlink) (fun _ hx => hx) hd (K p l e R s m args below meth c C H locs cells slots ls hr hS hl hc hs)
theorem wq_lenB (hd : decode (mC y) pc = .ok (.arraylength, 1)) (K : WQ G y d (pc + 1) lv (vi (nI 4) :: st) h bc bs Q) : WQ G y d pc lv (vr (some (gN G)) :: st) h bc bs Q := by
  intro p l e R s m args below meth c C H locs cells slots ls hr hS hl hc hs
  exact va_tlen C.1 C.2.1 ((sx_S C.2.2.2.2.2.2.2.2.1).1 0 (by decide)).2.2.2 hS rfl hd (K p l e R s m args below meth c C H locs cells slots ls hr hS hl hc hs)
/-- the k-th letter -/
def chA (k : Nat) : Int32 := [97, 100, 107, 116].getD k 0
theorem wq_ldB {k : Nat} (hk : k < 4) (hd : decode (mC y) pc = .ok (.baload, 1)) (K : WQ G y d (pc + 1) lv (vi (chA k) :: st) h bc bs Q) : WQ G y d pc lv (vi (nI k) :: vr (some (gN G)) :: st) h bc bs Q := by
  intro p l e R s m args below meth c C H locs cells slots ls hr hS hl hc hs
  exact va_tb C.1 C.2.1 ((sx_S C.2.2.2.2.2.2.2.2.1).1 0 (by decide)).2.2.2 hS (vp_in_nI hk (by decide)) (v := .int (chA k)) (by rw [nI_clamp (by omega)]; rfl) hd (K p l e R s m args below meth c C H locs cells slots ls hr hS hl hc hs)
theorem wq_ldcA (hd : decode (mC y) pc = .ok (.ldc 207, 2)) (hy : (mN y).cls = "PersistentParlourLaw") (K : WQ G y d (pc + 2) lv (vr (some (gI G 1)) :: st) h bc bs Q) : WQ G y d pc lv st h bc bs Q := by
  intro p l e R s m args below meth c C H locs cells slots ls hr hS hl hc hs
  exact va_ldcS C.1 C.2.1 C.2.2.2.2.2.2.1 (by rw [hy]; exact C.2.2.2.2.2.2.2.2.1.2.2.2.2.2.2.2.2.2.2.2.2.2.1) hd (K p l e R s m args below meth c C H locs cells slots ls hr hS hl hc hs)
/-- a virtual call on the text -/
theorem wq_callL (as : List AV) (hd : decode (mC y) pc = .ok (.invokevirtual idx, 3)) (hl : Cond.methodLink (mN y).cls idx (mN y') ∈ lw_good) (hin : Cond.instanceMethod (mN y') ∈ lw_good) (hsel : Cond.selects "java/lang/String" (mN y') (mN y') ∈ lw_good) (hy : MOk y' n) (hn : as.length = n) (hw : awords (vr (some (gI G 1)) :: as) ≤ mL y') (e : st = as.reverse ++ vr (some (gI G 1)) :: rest) (hcat : awords rest ≤ 8) (hd1 : d' < d) (h1 : mc ≤ bc) (h2 : ms ≤ bs)
    (K' : WQ G y' d' 0 (aargs 0 (vr (some (gI G 1)) :: as)) [] h mc ms (contq G y d (pc + 3) lv rest (bc - mc) (bs - ms) Q pc)) : WQ G y d pc lv st h bc bs Q := by
  subst e
  intro p l e R s m args below meth c C H locs cells slots ls hr hS hl' hc hs
  have hts := C.2.2.2.2.2.2.2.1
  have hX := C.2.2.2.2.2.2.2.2.1
  have h10 := C.2.2.2.2.2.2.2.2.2.1
  have hM := met_of (l := l) C.2.2.2.2.2.2.2.2.2.2.2 hy hw K'
  have hcb := callB_good (R := R) (s := s) (args := args) (mc := mc) (ms := ms) hts hy hl (d' := d') (by omega) (by omega)
  have hrun := vx_runV (C := "java/lang/String") (b := gI G 1) (As := as.map toV) (rest := rest.map toV) (H := H) (locs := locs) (cells := cells) (slots := slots) (meth := meth) (e := e) (below := below) (g := F0 m pc ls ((as.reverse ++ vr (some (gI G 1)) :: rest).map toV)) ⟨C.1, C.2.1, C.2.2.1, C.2.2.2.2.2.2.1, hts⟩ hM ⟨hcb, hts _ hin, hts _ hsel⟩ ⟨pcOf_blind, vk_recv (sx_S hX) (i := 0) (by decide) hS, pcOf_at (as := vr (some (gI G 1)) :: as) hr hX hS⟩ rfl (by rw [List.length_map]; exact hn) hl'.1 (by simp; rfl) (by
    have := cat_sum (st := rest)
    have h0 : awords rest ≤ 8 := hcat
    unfold awords at h0
    rw [← this] at h0
    exact lv_room h0) hd ⟨by omega, by omega⟩
  refine run_go hrun hS (fun v h' H1 locs1 hq hrep hS1 => ?_) (fun E ce q h' H1 locs1 hq hrep hS1 g1 g2 g3 => ?_)
  · have := (show WQ G y d (pc + 3) lv (v.toList ++ rest) h' (bc - mc) (bs - ms) Q from hq) p l e R s m args below meth c C H1 locs1 (cells + mc) (slots + ms) ls hrep hS1 hl' (by omega) (by omega)
    rw [List.map_append] at this
    cases v <;> exact this
  · exact (show WXq G y d pc lv h' (bc - mc) (bs - ms) Q E from hq) p l e R s m args below meth c C H1 locs1 (cells + mc) (slots + ms) ls _ q ce hrep hS1 hl' (by omega) (by omega) g1 g2 g3
end LT
theorem q_checkIndex {G : GG} {d bc bs k : Nat} {h : Hp} {Q : Pst} {r : Option Nat} (hk : k < 4) (hq : Q (oRet (vi (nI k))) h) : WQ G m_J3_checkIndex_8e157 d 0 (aargs 0 [vi (nI k), vi (nI 4), vr r]) [] h bc bs Q := by
  refine wq_sub [(0, vi (nI k)), (1, vi (nI 4)), (2, vr r)] (fun _ hz => hz) ?_
  refine wq_iload_n (i := 0) dJ3_checkIndex_8e157_0 rfl rfl ?_
  refine wq_if_lt 9 dJ3_checkIndex_8e157_1 (by decide) (fun c => absurd c (nI_nn (by omega))) (fun _ => ?_)
  refine wq_iload_n (i := 0) dJ3_checkIndex_8e157_4 rfl rfl ?_
  refine wq_iload_n (i := 1) dJ3_checkIndex_8e157_5 rfl rfl ?_
  refine wq_icmp_lt 16 dJ3_checkIndex_8e157_6 (by decide) (fun _ => ?_) (fun c => absurd ((nI_ltI (by omega) (by decide)).mpr hk) c)
  refine wq_iload_n (i := 0) dJ3_checkIndex_8e157_16 rfl rfl ?_
  exact wq_ireturn dJ3_checkIndex_8e157_17 rfl hq
theorem q_checkS {G : GG} {d bc bs k : Nat} {h : Hp} {Q : Pst} (hk : k < 4) (hd : 1 ≤ d) (hq : Q oVoid h) : WQ G m_J0_checkIndex_df160 d 0 (aargs 0 [vi (nI k), vi (nI 4)]) [] h bc bs Q := by
  refine wq_sub [(0, vi (nI k)), (1, vi (nI 4))] (fun _ hz => hz) ?_
  refine wq_iload_n (i := 0) dJ0_checkIndex_df160_0 rfl rfl ?_
  refine wq_iload_n (i := 1) dJ0_checkIndex_df160_1 rfl rfl ?_
  refine wq_getsQ dJ0_checkIndex_df160_2 fl_J0_1053 (fun r => ?_)
  refine wq_cS (y' := m_J3_checkIndex_8e157) [vi (nI k), vi (nI 4), vr r] [] 0 0 dJ0_checkIndex_df160_5 ml_J0_1059 st_J3_checkIndex_8e157 ok_J3_checkIndex_8e157 rfl (Nat.le_of_ble_eq_true rfl) rfl (Nat.le_of_ble_eq_true rfl) (d' := d - 1) (by omega) (Nat.zero_le _) (Nat.zero_le _) (q_checkIndex hk (contq_ret ?_))
  refine wq_pop dJ0_checkIndex_df160_8 ?_
  exact wq_return dJ0_checkIndex_df160_9 rfl hq
theorem chA_v {k : Nat} (hk : k < 4) : ((chA k &&& 255).toUInt32 % 65536).toInt32 = chA k := by
  match k, hk with
  | 0, _ => decide
  | 1, _ => decide
  | 2, _ => decide
  | 3, _ => decide
  | n + 4, h => omega
theorem q_charB {G : GG} {d bc bs k : Nat} {h : Hp} {Q : Pst} (hk : k < 4) (hd : 2 ≤ d) (hq : Q (oRet (vi (chA k))) h) : WQ G m_J1_charAt_3b067 d 0 (aargs 0 [vr (some (gN G)), vi (nI k)]) [] h bc bs Q := by
  refine wq_sub [(0, vr (some (gN G))), (1, vi (nI k))] (fun _ hz => hz) ?_
  refine wq_iload_n (i := 1) dJ1_charAt_3b067_0 rfl rfl ?_
  refine wq_aload_n (i := 0) dJ1_charAt_3b067_1 rfl rfl ?_
  refine wq_lenB dJ1_charAt_3b067_2 ?_
  refine wq_cS (y' := m_J0_checkIndex_df160) [vi (nI k), vi (nI 4)] [] 0 0 dJ1_charAt_3b067_3 ml_J1_9 st_J0_checkIndex_df160 ok_J0_checkIndex_df160 rfl (Nat.le_of_ble_eq_true rfl) rfl (Nat.le_of_ble_eq_true rfl) (d' := d - 1) (by omega) (Nat.zero_le _) (Nat.zero_le _) (q_checkS hk (by omega) (contq_void ?_))
  refine wq_aload_n (i := 0) dJ1_charAt_3b067_6 rfl rfl ?_
  refine wq_iload_n (i := 1) dJ1_charAt_3b067_7 rfl rfl ?_
  refine wq_ldB hk dJ1_charAt_3b067_8 ?_
  refine wq_sipush 255 dJ1_charAt_3b067_9 (by decide) ?_
  refine wq_iand dJ1_charAt_3b067_12 ?_
  refine wq_i2c dJ1_charAt_3b067_13 ?_
  refine wq_zreturn dJ1_charAt_3b067_14 rfl ?_ ?_
  · rw [chA_v hk]
    match k, hk with
    | 0, _ => decide
    | 1, _ => decide
    | 2, _ => decide
    | 3, _ => decide
    | n + 4, h => omega
  · rw [chA_v hk]; exact hq
theorem q_isLatin1 {G : GG} {d bc bs : Nat} {h : Hp} {Q : Pst} (hq : Q (oRet (vi (nI 1))) h) : WQ G m_J0_isLatin1_aae02 d 0 (aargs 0 [vr (some (gI G 1))]) [] h bc bs Q := by
  refine wq_sub [(0, vr (some (gI G 1)))] (fun _ hz => hz) ?_
  refine wq_getsZ dJ0_isLatin1_aae02_0 fl_J0_38 ?_
  refine wq_if_eq 17 dJ0_isLatin1_aae02_3 (by decide) (fun c => absurd c (by decide)) (fun _ => ?_)
  refine wq_aload_n (i := 0) dJ0_isLatin1_aae02_6 rfl rfl ?_
  refine wq_getLC dJ0_isLatin1_aae02_7 fl_J0_15 ?_
  refine wq_if_ne 17 dJ0_isLatin1_aae02_10 (by decide) (fun c => absurd rfl c) (fun _ => ?_)
  refine wq_iconst (nI 1) dJ0_isLatin1_aae02_13 (by decide) ?_
  refine wq_goto 18 dJ0_isLatin1_aae02_14 (by decide) ?_
  exact wq_zreturn dJ0_isLatin1_aae02_18 rfl rfl hq
theorem q_charAt {G : GG} {d bc bs k : Nat} {h : Hp} {Q : Pst} (hk : k < 4) (hd : 3 ≤ d) (hq : Q (oRet (vi (chA k))) h) : WQ G m_J0_charAt_5068e d 0 (aargs 0 [vr (some (gI G 1)), vi (nI k)]) [] h bc bs Q := by
  refine wq_sub [(0, vr (some (gI G 1))), (1, vi (nI k))] (fun _ hz => hz) ?_
  refine wq_aload_n (i := 0) dJ0_charAt_5068e_0 rfl rfl ?_
  refine wq_callL (y' := m_J0_isLatin1_aae02) (rest := []) (mc := 0) (ms := 0) [] dJ0_charAt_5068e_1 ml_J0_492 im_J0_isLatin1_aae02 se_J0_isLatin1_aae02 ok_J0_isLatin1_aae02 rfl (Nat.le_of_ble_eq_true rfl) rfl (Nat.le_of_ble_eq_true rfl) (d' := d - 1) (by omega) (Nat.zero_le _) (Nat.zero_le _) (q_isLatin1 (contq_ret ?_))
  refine wq_if_eq 16 dJ0_charAt_5068e_4 (by decide) (fun c => absurd c (by decide)) (fun _ => ?_)
  refine wq_aload_n (i := 0) dJ0_charAt_5068e_7 rfl rfl ?_
  refine wq_getLV dJ0_charAt_5068e_8 fl_J0_9 ?_
  refine wq_iload_n (i := 1) dJ0_charAt_5068e_11 rfl rfl ?_
  refine wq_cS (y' := m_J1_charAt_3b067) [vr (some (gN G)), vi (nI k)] [] 0 0 dJ0_charAt_5068e_12 ml_J0_495 st_J1_charAt_3b067 ok_J1_charAt_3b067 rfl (Nat.le_of_ble_eq_true rfl) rfl (Nat.le_of_ble_eq_true rfl) (d' := d - 1) (by omega) (Nat.zero_le _) (Nat.zero_le _) (q_charB hk (by omega) (contq_ret ?_))
  refine wq_zreturn dJ0_charAt_5068e_15 rfl ?_ hq
  match k, hk with
  | 0, _ => decide
  | 1, _ => decide
  | 2, _ => decide
  | 3, _ => decide
  | n + 4, h => omega
