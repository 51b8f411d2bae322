/-! The model: realising a chunk by a, d, k; realising. -/
theorem take_ga {α : Type} (z : α) : ∀ (F : List α) (k : Nat), k < F.length → F.take (k + 1) = F.take k ++ [F.getD k z]
  | [], _, h => absurd h (Nat.not_lt_zero _)
  | a :: F, 0, _ => by simp
  | a :: F, k + 1, h => by
    rw [List.take_succ_cons, List.take_succ_cons, take_ga z F k (by simpa using h), List.getD_cons_succ, List.cons_append]
theorem chF_app {w m : Int32} {a b : List Int32} : chF w m (a ++ b) = chF w m a ++ chF w m b := by unfold chF; rw [List.filter_append, List.map_append]
theorem chF_1 {w m : Int32} {e : Int32} {l : List Int32} (h : kp w m e = true) : chF w m (e :: l) = fnq w m e :: chF w m l := by unfold chF; rw [List.filter_cons_of_pos h, List.map_cons]
theorem chF_0 {w m : Int32} {e : Int32} {l : List Int32} (h : ¬ kp w m e = true) : chF w m (e :: l) = chF w m l := by unfold chF; rw [List.filter_cons_of_neg h]
theorem chF_s1 {w m : Int32} {c : List Int32} {i : Nat} (hi : i < c.length) (h : kp w m (c.getD i (nI 0)) = true) : (chF w m (c.take (i + 1))).length = (chF w m (c.take i)).length + 1 := by
  rw [take_ga (nI 0) c i hi, chF_app, chF_1 h, List.length_append]; rfl
theorem chF_s0 {w m : Int32} {c : List Int32} {i : Nat} (hi : i < c.length) (h : ¬ kp w m (c.getD i (nI 0)) = true) : (chF w m (c.take (i + 1))).length = (chF w m (c.take i)).length := by
  rw [take_ga (nI 0) c i hi, chF_app, chF_0 h, List.length_append]; rfl
theorem chF_at {w m : Int32} {c : List Int32} {i : Nat} (hi : i < c.length) (h : kp w m (c.getD i (nI 0)) = true) : (chF w m c).getD (chF w m (c.take i)).length (nI 0) = fnq w m (c.getD i (nI 0)) ∧ (chF w m (c.take i)).length < (chF w m c).length := by
  have e : chF w m c = chF w m (c.take i) ++ fnq w m (c.getD i (nI 0)) :: chF w m (c.drop (i + 1)) := by
    rw [← chF_1 h, ← getD_cons hi, ← chF_app, List.take_append_drop]
  constructor
  · rw [e]; simp [List.getD]
  · rw [e, List.length_append, List.length_cons]; omega
theorem chF_le {w m : Int32} {c : List Int32} : (chF w m c).length ≤ c.length := by unfold chF; rw [List.length_map]; exact List.length_filter_le _ _
theorem hz_in : ∀ (c : List Int32) (i : Nat), i < c.length → c.getD i (nI 0) = 0 → hz c = true
  | [], _, h, _ => absurd h (Nat.not_lt_zero _)
  | a :: l, 0, _, e => by rw [hz, Bool.or_eq_true]; exact Or.inl (decide_eq_true e)
  | a :: l, i + 1, h, e => by rw [hz, Bool.or_eq_true]; exact Or.inr (hz_in l i (by simpa using h) (by rwa [List.getD_cons_succ] at e))
theorem hz_no : ∀ (c : List Int32), (∀ i, i < c.length → ¬ c.getD i (nI 0) = 0) → hz c = false
  | [], _ => rfl
  | a :: l, h => by
    rw [hz, Bool.or_eq_false_iff]
    exact ⟨decide_eq_false (h 0 (by simp)), hz_no l (fun i hi => by have := h (i + 1) (by simpa using hi); rwa [List.getD_cons_succ] at this)⟩
theorem nI_w {w m e : Int32} (h : w ≠ nI 107) : kp w m e = true := by unfold kp; rw [if_neg h]
theorem num_ne {m : Int32} (h : 1 ≤ m.toInt) : ¬ m = 0 := fun e => by rw [e] at h; exact absurd h (by decide)
set_option maxRecDepth 100000 in
set_option maxHeartbeats 4000000 in
theorem l_X16_like1_97 {G : GG} {d bc bs : Nat} {Q : Pst} {H : Hp} {s a : Nat} {o : OFS} {c : List Int32} (hw : OF_way o = (nI 97)) (hO : OF H s o) (E : PEr H a c) (hc4 : c.length ≤ 4) (kk : (WP G m_X16_realiseLike d 120 [(5, vi (nI (chF (nI 97) (OF_num o) c).length)), (4, vr (some a)), (0, vr (some (nm 1 0))), (1, vr (some (nm 2 s)))] [] H bc bs Q)) : ∀ m i z, i + m = c.length → z = (chF (nI 97) (OF_num o) (c.take i)).length → WP G m_X16_realiseLike d 55 [(8, vi (nI i)), (7, vi (nI c.length)), (6, vr (some a)), (5, vi (nI z)), (4, vr (some a)), (0, vr (some (nm 1 0))), (1, vr (some (nm 2 s)))] [] H bc bs Q := by
  intro m
  induction m with
  | zero =>
    intro i z hi hz' 
    have hi : i = c.length := hi
    rw [hi, List.take_length] at hz'
    refine wp_iload (i := 8) dX16_realiseLike_55 rfl ?_
    refine wp_iload (i := 7) dX16_realiseLike_57 rfl ?_
    refine wp_icmp_geN 120 dX16_realiseLike_59 (by decide) (by omega) (by omega) (fun c_59 => ?_) (fun c_59 => absurd c_59 (by omega))
    refine wp_sub [(5, vi (nI z)), (4, vr (some a)), (0, vr (some (nm 1 0))), (1, vr (some (nm 2 s)))] (sb_cons (.tail _ (.tail _ (.tail _ (.head _)))) (sb_cons (.tail _ (.tail _ (.tail _ (.tail _ (.head _))))) (sb_cons (.tail _ (.tail _ (.tail _ (.tail _ (.tail _ (.head _)))))) (sb_cons (.tail _ (.tail _ (.tail _ (.tail _ (.tail _ (.tail _ (.head _))))))) sb_nil)))) ?_
    rw [hz']
    exact kk
  | succ m ih =>
    intro i z hi hz' 
    have hil : i < c.length := by omega
    have hzl : z ≤ c.length := by rw [hz']; exact Nat.le_trans chF_le (by rw [List.length_take]; omega)
    refine wp_iload (i := 8) dX16_realiseLike_55 rfl ?_
    refine wp_iload (i := 7) dX16_realiseLike_57 rfl ?_
    refine wp_icmp_geN 120 dX16_realiseLike_59 (by decide) (by omega) (by omega) (fun c_59 => absurd c_59 (by omega)) (fun c_59 => ?_)
    refine wp_aload (i := 6) dX16_realiseLike_62 rfl ?_
    refine wp_iload (i := 8) dX16_realiseLike_64 rfl ?_
    refine wp_ialoadN (c.length) (c.getD i (nI 0)) dX16_realiseLike_66 E.2.1 E.2.2.1 (by omega) (by omega) ((E.2.2.2 i hil).trans (gI_eq hil)) ?_
    refine wp_topi (fun x_67 e_67 => ?_)
    refine wp_istore (i := 9) (lv' := [(9, vi x_67), (8, vi (nI i)), (7, vi (nI c.length)), (6, vr (some a)), (5, vi (nI z)), (4, vr (some a)), (0, vr (some (nm 1 0))), (1, vr (some (nm 2 s)))]) dX16_realiseLike_67 (by decide) rfl ?_
    refine wp_aload_n (i := 1) dX16_realiseLike_69 rfl rfl ?_
    refine wp_get 15 0 (vi (nI 97)) dX16_realiseLike_70 hO.k0 (by decide) (by decide) fl_X16_185 (congrArg (fun z => toV (vi z)) (hO.f_way.trans hw)) ?_
    refine wp_bipush (nI 100) dX16_realiseLike_73 (by decide) ?_
    refine wp_icmp_neN 85 dX16_realiseLike_75 (by decide) (by decide) (by decide) (fun c_75 => ?_) (fun c_75 => absurd c_75 (by decide))
    refine wp_iload (i := 5) dX16_realiseLike_85 rfl ?_
    refine wp_aload_n (i := 1) dX16_realiseLike_87 rfl rfl ?_
    refine wp_get 15 0 (vi (nI 97)) dX16_realiseLike_88 hO.k0 (by decide) (by decide) fl_X16_185 (congrArg (fun z => toV (vi z)) (hO.f_way.trans hw)) ?_
    refine wp_bipush (nI 107) dX16_realiseLike_91 (by decide) ?_
    refine wp_icmp_neN 106 dX16_realiseLike_93 (by decide) (by decide) (by decide) (fun c_93 => ?_) (fun c_93 => absurd c_93 (by decide))
    refine wp_iconst (nI 1) dX16_realiseLike_106 (by decide) ?_
    refine wp_goto 111 dX16_realiseLike_107 (by decide) ?_
    refine wp_iaddN dX16_realiseLike_111 ?_
    refine wp_istore (i := 5) (lv' := [(5, vi (nI (z + 1))), (9, vi x_67), (8, vi (nI i)), (7, vi (nI c.length)), (6, vr (some a)), (4, vr (some a)), (0, vr (some (nm 1 0))), (1, vr (some (nm 2 s)))]) dX16_realiseLike_112 (by decide) rfl ?_
    refine wp_iincN (a := i) (lv' := [(8, vi (nI (i + 1))), (5, vi (nI (z + 1))), (9, vi x_67), (7, vi (nI c.length)), (6, vr (some a)), (4, vr (some a)), (0, vr (some (nm 1 0))), (1, vr (some (nm 2 s)))]) 1 dX16_realiseLike_114 rfl (by decide) (by decide) rfl ?_
    refine wp_goto 55 dX16_realiseLike_117 (by decide) ?_
    refine wp_sub [(8, vi (nI (i + 1))), (7, vi (nI c.length)), (6, vr (some a)), (5, vi (nI (z + 1))), (4, vr (some a)), (0, vr (some (nm 1 0))), (1, vr (some (nm 2 s)))] (sb_cons (.head _) (sb_cons (.tail _ (.tail _ (.tail _ (.head _)))) (sb_cons (.tail _ (.tail _ (.tail _ (.tail _ (.head _))))) (sb_cons (.tail _ (.head _)) (sb_cons (.tail _ (.tail _ (.tail _ (.tail _ (.tail _ (.head _)))))) (sb_cons (.tail _ (.tail _ (.tail _ (.tail _ (.tail _ (.tail _ (.head _))))))) (sb_cons (.tail _ (.tail _ (.tail _ (.tail _ (.tail _ (.tail _ (.tail _ (.head _)))))))) sb_nil))))))) ?_
    exact ih (i + 1) _ (by omega) (by rw [chF_s1 hil (nI_w (by decide)), hz'])
set_option maxRecDepth 100000 in
set_option maxHeartbeats 4000000 in
theorem l_X16_like2_97 {G : GG} {d bc bs : Nat} {Q : Pst} {h1 : Hp} {s a K : Nat} {o : OFS} {c : List Int32} (hw : OF_way o = (nI 97)) (hne : a ≠ nm 22 K) (hc4 : c.length ≤ 4) (hq : ∀ H, PEr H (nm 22 K) (chF (nI 97) (OF_num o) c) → (∀ b, b ≠ nm 22 K → ce H b = ce h1 b) → WP G m_X16_realiseLike d 228 [(6, vr (some (nm 22 K))), (0, vr (some (nm 1 0))), (1, vr (some (nm 2 s)))] [] H bc bs Q) : ∀ m i z H, i + m = c.length → z = (chF (nI 97) (OF_num o) (c.take i)).length → OF H s o → PEr H a c → h_k H (nm 22 K) = 101 → h_n H (nm 22 K) = (chF (nI 97) (OF_num o) c).length → (∀ j, j < z → h_I H (nm 22 K) j = (chF (nI 97) (OF_num o) c).getD j (nI 0)) → (∀ b, b ≠ nm 22 K → ce H b = ce h1 b) → WP G m_X16_realiseLike d 141 [(10, vi (nI i)), (9, vi (nI c.length)), (8, vr (some a)), (7, vi (nI z)), (6, vr (some (nm 22 K))), (0, vr (some (nm 1 0))), (1, vr (some (nm 2 s)))] [] H bc bs Q := by
  intro m
  induction m with
  | zero =>
    intro i z H hi hz' hO E hK1 hK2 hI hF
    have hi : i = c.length := hi
    rw [hi, List.take_length] at hz'
    refine wp_iload (i := 10) dX16_realiseLike_141 rfl ?_
    refine wp_iload (i := 9) dX16_realiseLike_143 rfl ?_
    refine wp_icmp_geN 228 dX16_realiseLike_145 (by decide) (by omega) (by omega) (fun c_145 => ?_) (fun c_145 => absurd c_145 (by omega))
    refine wp_sub [(6, vr (some (nm 22 K))), (0, vr (some (nm 1 0))), (1, vr (some (nm 2 s)))] (sb_cons (.tail _ (.tail _ (.tail _ (.tail _ (.head _))))) (sb_cons (.tail _ (.tail _ (.tail _ (.tail _ (.tail _ (.head _)))))) (sb_cons (.tail _ (.tail _ (.tail _ (.tail _ (.tail _ (.tail _ (.head _))))))) sb_nil))) ?_
    exact hq H ⟨⟨K, rfl⟩, hK1, hK2, fun j hj => by rw [gI_eq hj]; exact hI j (by omega)⟩ hF
  | succ m ih =>
    intro i z H hi hz' hO E hK1 hK2 hI hF
    have hil : i < c.length := by omega
    have hzl : z ≤ c.length := by rw [hz']; exact Nat.le_trans chF_le (by rw [List.length_take]; omega)
    have hcl : (chF (nI 97) (OF_num o) c).length ≤ 4 := Nat.le_trans chF_le hc4
    refine wp_iload (i := 10) dX16_realiseLike_141 rfl ?_
    refine wp_iload (i := 9) dX16_realiseLike_143 rfl ?_
    refine wp_icmp_geN 228 dX16_realiseLike_145 (by decide) (by omega) (by omega) (fun c_145 => absurd c_145 (by omega)) (fun c_145 => ?_)
    refine wp_aload (i := 8) dX16_realiseLike_148 rfl ?_
    refine wp_iload (i := 10) dX16_realiseLike_150 rfl ?_
    refine wp_ialoadN (c.length) (c.getD i (nI 0)) dX16_realiseLike_152 E.2.1 E.2.2.1 (by omega) (by omega) ((E.2.2.2 i hil).trans (gI_eq hil)) ?_
    refine wp_topi (fun x_153 e_153 => ?_)
    refine wp_istore (i := 11) (lv' := [(11, vi x_153), (10, vi (nI i)), (9, vi (nI c.length)), (8, vr (some a)), (7, vi (nI z)), (6, vr (some (nm 22 K))), (0, vr (some (nm 1 0))), (1, vr (some (nm 2 s)))]) dX16_realiseLike_153 (by decide) rfl ?_
    refine wp_aload_n (i := 1) dX16_realiseLike_155 rfl rfl ?_
    refine wp_get 15 0 (vi (nI 97)) dX16_realiseLike_156 hO.k0 (by decide) (by decide) fl_X16_185 (congrArg (fun z => toV (vi z)) (hO.f_way.trans hw)) ?_
    refine wp_bipush (nI 107) dX16_realiseLike_159 (by decide) ?_
    refine wp_icmp_neN 174 dX16_realiseLike_161 (by decide) (by decide) (by decide) (fun c_161 => ?_) (fun c_161 => absurd c_161 (by decide))
    have hzc : z < (chF (nI 97) (OF_num o) c).length := by rw [hz']; exact (chF_at hil (nI_w (by decide))).2
    refine wp_aload (i := 6) dX16_realiseLike_174 rfl ?_
    refine wp_iload (i := 7) dX16_realiseLike_176 rfl ?_
    refine wp_aload_n (i := 1) dX16_realiseLike_178 rfl rfl ?_
    refine wp_get 15 0 (vi (nI 97)) dX16_realiseLike_179 hO.k0 (by decide) (by decide) fl_X16_185 (congrArg (fun z => toV (vi z)) (hO.f_way.trans hw)) ?_
    refine wp_bipush (nI 97) dX16_realiseLike_182 (by decide) ?_
    refine wp_icmp_neN 197 dX16_realiseLike_184 (by decide) (by decide) (by decide) (fun c_184 => absurd c_184 (by decide)) (fun c_184 => ?_)
    refine wp_iload (i := 11) dX16_realiseLike_187 rfl ?_
    refine wp_aload_n (i := 1) dX16_realiseLike_189 rfl rfl ?_
    refine wp_get 15 2 (vi (OF_num o)) dX16_realiseLike_190 hO.k0 (by decide) (by decide) fl_X16_192 (congrArg (fun z => toV (vi z)) (hO.f_num)) ?_
    refine wp_iadd dX16_realiseLike_193 ?_
    refine wp_goto 218 dX16_realiseLike_194 (by decide) ?_
    refine wp_iastoreN ((chF (nI 97) (OF_num o) c).length) dX16_realiseLike_218 hK1 hK2 (by omega) (by omega) ?_
    refine wp_iincN (a := z) (lv' := [(7, vi (nI (z + 1))), (11, vi x_153), (10, vi (nI i)), (9, vi (nI c.length)), (8, vr (some a)), (6, vr (some (nm 22 K))), (0, vr (some (nm 1 0))), (1, vr (some (nm 2 s)))]) 1 dX16_realiseLike_219 rfl (by decide) (by decide) rfl ?_
    refine wp_iincN (a := i) (lv' := [(10, vi (nI (i + 1))), (7, vi (nI (z + 1))), (11, vi x_153), (9, vi (nI c.length)), (8, vr (some a)), (6, vr (some (nm 22 K))), (0, vr (some (nm 1 0))), (1, vr (some (nm 2 s)))]) 1 dX16_realiseLike_222 rfl (by decide) (by decide) rfl ?_
    refine wp_goto 141 dX16_realiseLike_225 (by decide) ?_
    refine wp_sub [(10, vi (nI (i + 1))), (9, vi (nI c.length)), (8, vr (some a)), (7, vi (nI (z + 1))), (6, vr (some (nm 22 K))), (0, vr (some (nm 1 0))), (1, vr (some (nm 2 s)))] (sb_cons (.head _) (sb_cons (.tail _ (.tail _ (.tail _ (.head _)))) (sb_cons (.tail _ (.tail _ (.tail _ (.tail _ (.head _))))) (sb_cons (.tail _ (.head _)) (sb_cons (.tail _ (.tail _ (.tail _ (.tail _ (.tail _ (.head _)))))) (sb_cons (.tail _ (.tail _ (.tail _ (.tail _ (.tail _ (.tail _ (.head _))))))) (sb_cons (.tail _ (.tail _ (.tail _ (.tail _ (.tail _ (.tail _ (.tail _ (.head _)))))))) sb_nil))))))) ?_
    exact ih (i + 1) _ _ (by omega) (by rw [chF_s1 hil (nI_w (by decide)), hz']) (hO.frm (ce_wI (nm_ne (by decide) (by decide) (by decide)))) (E.fr (ce_wI hne)) hK1 hK2 (wI_fill hI (by rw [hz', (chF_at hil (nI_w (by decide))).1, ← e_153]; unfold fnq; rw [if_pos rfl])) (fun b hb => (ce_wI hb).trans (hF b hb))
set_option maxRecDepth 100000 in
set_option maxHeartbeats 4000000 in
theorem l_X16_like1_100 {G : GG} {d bc bs : Nat} {Q : Pst} {H : Hp} {s a : Nat} {o : OFS} {c : List Int32} (hw : OF_way o = (nI 100)) (hO : OF H s o) (E : PEr H a c) (hc4 : c.length ≤ 4) (kz : hz c = true → Q (oRet (vi (-1))) H) (kk : (hz c = false → WP G m_X16_realiseLike d 120 [(5, vi (nI (chF (nI 100) (OF_num o) c).length)), (4, vr (some a)), (0, vr (some (nm 1 0))), (1, vr (some (nm 2 s)))] [] H bc bs Q)) : ∀ m i z, i + m = c.length → z = (chF (nI 100) (OF_num o) (c.take i)).length → (∀ j, j < i → ¬ c.getD j (nI 0) = 0) → WP G m_X16_realiseLike d 55 [(8, vi (nI i)), (7, vi (nI c.length)), (6, vr (some a)), (5, vi (nI z)), (4, vr (some a)), (0, vr (some (nm 1 0))), (1, vr (some (nm 2 s)))] [] H bc bs Q := by
  intro m
  induction m with
  | zero =>
    intro i z hi hz' hnz 
    have hi : i = c.length := hi
    rw [hi, List.take_length] at hz'
    refine wp_iload (i := 8) dX16_realiseLike_55 rfl ?_
    refine wp_iload (i := 7) dX16_realiseLike_57 rfl ?_
    refine wp_icmp_geN 120 dX16_realiseLike_59 (by decide) (by omega) (by omega) (fun c_59 => ?_) (fun c_59 => absurd c_59 (by omega))
    refine wp_sub [(5, vi (nI z)), (4, vr (some a)), (0, vr (some (nm 1 0))), (1, vr (some (nm 2 s)))] (sb_cons (.tail _ (.tail _ (.tail _ (.head _)))) (sb_cons (.tail _ (.tail _ (.tail _ (.tail _ (.head _))))) (sb_cons (.tail _ (.tail _ (.tail _ (.tail _ (.tail _ (.head _)))))) (sb_cons (.tail _ (.tail _ (.tail _ (.tail _ (.tail _ (.tail _ (.head _))))))) sb_nil)))) ?_
    rw [hz']
    exact kk (hz_no c (fun j hj => hnz j (by omega)))
  | succ m ih =>
    intro i z hi hz' hnz 
    have hil : i < c.length := by omega
    have hzl : z ≤ c.length := by rw [hz']; exact Nat.le_trans chF_le (by rw [List.length_take]; omega)
    refine wp_iload (i := 8) dX16_realiseLike_55 rfl ?_
    refine wp_iload (i := 7) dX16_realiseLike_57 rfl ?_
    refine wp_icmp_geN 120 dX16_realiseLike_59 (by decide) (by omega) (by omega) (fun c_59 => absurd c_59 (by omega)) (fun c_59 => ?_)
    refine wp_aload (i := 6) dX16_realiseLike_62 rfl ?_
    refine wp_iload (i := 8) dX16_realiseLike_64 rfl ?_
    refine wp_ialoadN (c.length) (c.getD i (nI 0)) dX16_realiseLike_66 E.2.1 E.2.2.1 (by omega) (by omega) ((E.2.2.2 i hil).trans (gI_eq hil)) ?_
    refine wp_topi (fun x_67 e_67 => ?_)
    refine wp_istore (i := 9) (lv' := [(9, vi x_67), (8, vi (nI i)), (7, vi (nI c.length)), (6, vr (some a)), (5, vi (nI z)), (4, vr (some a)), (0, vr (some (nm 1 0))), (1, vr (some (nm 2 s)))]) dX16_realiseLike_67 (by decide) rfl ?_
    refine wp_aload_n (i := 1) dX16_realiseLike_69 rfl rfl ?_
    refine wp_get 15 0 (vi (nI 100)) dX16_realiseLike_70 hO.k0 (by decide) (by decide) fl_X16_185 (congrArg (fun z => toV (vi z)) (hO.f_way.trans hw)) ?_
    refine wp_bipush (nI 100) dX16_realiseLike_73 (by decide) ?_
    refine wp_icmp_neN 85 dX16_realiseLike_75 (by decide) (by decide) (by decide) (fun c_75 => absurd c_75 (by decide)) (fun c_75 => ?_)
    refine wp_iload (i := 9) dX16_realiseLike_78 rfl ?_
    refine wp_if_ne 85 dX16_realiseLike_80 (by decide) (fun c_80 => ?_) (fun c_80 => ?_)
    · skip
      refine wp_iload (i := 5) dX16_realiseLike_85 rfl ?_
      refine wp_aload_n (i := 1) dX16_realiseLike_87 rfl rfl ?_
      refine wp_get 15 0 (vi (nI 100)) dX16_realiseLike_88 hO.k0 (by decide) (by decide) fl_X16_185 (congrArg (fun z => toV (vi z)) (hO.f_way.trans hw)) ?_
      refine wp_bipush (nI 107) dX16_realiseLike_91 (by decide) ?_
      refine wp_icmp_neN 106 dX16_realiseLike_93 (by decide) (by decide) (by decide) (fun c_93 => ?_) (fun c_93 => absurd c_93 (by decide))
      refine wp_iconst (nI 1) dX16_realiseLike_106 (by decide) ?_
      refine wp_goto 111 dX16_realiseLike_107 (by decide) ?_
      refine wp_iaddN dX16_realiseLike_111 ?_
      refine wp_istore (i := 5) (lv' := [(5, vi (nI (z + 1))), (9, vi x_67), (8, vi (nI i)), (7, vi (nI c.length)), (6, vr (some a)), (4, vr (some a)), (0, vr (some (nm 1 0))), (1, vr (some (nm 2 s)))]) dX16_realiseLike_112 (by decide) rfl ?_
      refine wp_iincN (a := i) (lv' := [(8, vi (nI (i + 1))), (5, vi (nI (z + 1))), (9, vi x_67), (7, vi (nI c.length)), (6, vr (some a)), (4, vr (some a)), (0, vr (some (nm 1 0))), (1, vr (some (nm 2 s)))]) 1 dX16_realiseLike_114 rfl (by decide) (by decide) rfl ?_
      refine wp_goto 55 dX16_realiseLike_117 (by decide) ?_
      refine wp_sub [(8, vi (nI (i + 1))), (7, vi (nI c.length)), (6, vr (some a)), (5, vi (nI (z + 1))), (4, vr (some a)), (0, vr (some (nm 1 0))), (1, vr (some (nm 2 s)))] (sb_cons (.head _) (sb_cons (.tail _ (.tail _ (.tail _ (.head _)))) (sb_cons (.tail _ (.tail _ (.tail _ (.tail _ (.head _))))) (sb_cons (.tail _ (.head _)) (sb_cons (.tail _ (.tail _ (.tail _ (.tail _ (.tail _ (.head _)))))) (sb_cons (.tail _ (.tail _ (.tail _ (.tail _ (.tail _ (.tail _ (.head _))))))) (sb_cons (.tail _ (.tail _ (.tail _ (.tail _ (.tail _ (.tail _ (.tail _ (.head _)))))))) sb_nil))))))) ?_
      exact ih (i + 1) _ (by omega) (by rw [chF_s1 hil (nI_w (by decide)), hz']) (fun j hj => by
      by_cases ej : j = i
      · rw [ej, ← e_67]; exact c_80
      · exact hnz j (by omega))
    · skip
      refine wp_iconst (-1) dX16_realiseLike_83 (by decide) ?_
      refine wp_ireturn dX16_realiseLike_84 rfl ?_
      exact kz (hz_in c i hil (by rw [← e_67]; exact c_80))
set_option maxRecDepth 100000 in
set_option maxHeartbeats 4000000 in
theorem l_X16_like2_100 {G : GG} {d bc bs : Nat} {Q : Pst} {h1 : Hp} {s a K : Nat} {o : OFS} {c : List Int32} (hw : OF_way o = (nI 100)) (hnz : hz c = false) (hne : a ≠ nm 22 K) (hc4 : c.length ≤ 4) (hq : ∀ H, PEr H (nm 22 K) (chF (nI 100) (OF_num o) c) → (∀ b, b ≠ nm 22 K → ce H b = ce h1 b) → WP G m_X16_realiseLike d 228 [(6, vr (some (nm 22 K))), (0, vr (some (nm 1 0))), (1, vr (some (nm 2 s)))] [] H bc bs Q) : ∀ m i z H, i + m = c.length → z = (chF (nI 100) (OF_num o) (c.take i)).length → OF H s o → PEr H a c → h_k H (nm 22 K) = 101 → h_n H (nm 22 K) = (chF (nI 100) (OF_num o) c).length → (∀ j, j < z → h_I H (nm 22 K) j = (chF (nI 100) (OF_num o) c).getD j (nI 0)) → (∀ b, b ≠ nm 22 K → ce H b = ce h1 b) → WP G m_X16_realiseLike d 141 [(10, vi (nI i)), (9, vi (nI c.length)), (8, vr (some a)), (7, vi (nI z)), (6, vr (some (nm 22 K))), (0, vr (some (nm 1 0))), (1, vr (some (nm 2 s)))] [] H bc bs Q := by
  intro m
  induction m with
  | zero =>
    intro i z H hi hz' hO E hK1 hK2 hI hF
    have hi : i = c.length := hi
    rw [hi, List.take_length] at hz'
    refine wp_iload (i := 10) dX16_realiseLike_141 rfl ?_
    refine wp_iload (i := 9) dX16_realiseLike_143 rfl ?_
    refine wp_icmp_geN 228 dX16_realiseLike_145 (by decide) (by omega) (by omega) (fun c_145 => ?_) (fun c_145 => absurd c_145 (by omega))
    refine wp_sub [(6, vr (some (nm 22 K))), (0, vr (some (nm 1 0))), (1, vr (some (nm 2 s)))] (sb_cons (.tail _ (.tail _ (.tail _ (.tail _ (.head _))))) (sb_cons (.tail _ (.tail _ (.tail _ (.tail _ (.tail _ (.head _)))))) (sb_cons (.tail _ (.tail _ (.tail _ (.tail _ (.tail _ (.tail _ (.head _))))))) sb_nil))) ?_
    exact hq H ⟨⟨K, rfl⟩, hK1, hK2, fun j hj => by rw [gI_eq hj]; exact hI j (by omega)⟩ hF
  | succ m ih =>
    intro i z H hi hz' hO E hK1 hK2 hI hF
    have hil : i < c.length := by omega
    have hzl : z ≤ c.length := by rw [hz']; exact Nat.le_trans chF_le (by rw [List.length_take]; omega)
    have hcl : (chF (nI 100) (OF_num o) c).length ≤ 4 := Nat.le_trans chF_le hc4
    have hez : ¬ c.getD i (nI 0) = 0 := fun e => by rw [hz_in c i hil e] at hnz; cases hnz
    refine wp_iload (i := 10) dX16_realiseLike_141 rfl ?_
    refine wp_iload (i := 9) dX16_realiseLike_143 rfl ?_
    refine wp_icmp_geN 228 dX16_realiseLike_145 (by decide) (by omega) (by omega) (fun c_145 => absurd c_145 (by omega)) (fun c_145 => ?_)
    refine wp_aload (i := 8) dX16_realiseLike_148 rfl ?_
    refine wp_iload (i := 10) dX16_realiseLike_150 rfl ?_
    refine wp_ialoadN (c.length) (c.getD i (nI 0)) dX16_realiseLike_152 E.2.1 E.2.2.1 (by omega) (by omega) ((E.2.2.2 i hil).trans (gI_eq hil)) ?_
    refine wp_topi (fun x_153 e_153 => ?_)
    refine wp_istore (i := 11) (lv' := [(11, vi x_153), (10, vi (nI i)), (9, vi (nI c.length)), (8, vr (some a)), (7, vi (nI z)), (6, vr (some (nm 22 K))), (0, vr (some (nm 1 0))), (1, vr (some (nm 2 s)))]) dX16_realiseLike_153 (by decide) rfl ?_
    refine wp_aload_n (i := 1) dX16_realiseLike_155 rfl rfl ?_
    refine wp_get 15 0 (vi (nI 100)) dX16_realiseLike_156 hO.k0 (by decide) (by decide) fl_X16_185 (congrArg (fun z => toV (vi z)) (hO.f_way.trans hw)) ?_
    refine wp_bipush (nI 107) dX16_realiseLike_159 (by decide) ?_
    refine wp_icmp_neN 174 dX16_realiseLike_161 (by decide) (by decide) (by decide) (fun c_161 => ?_) (fun c_161 => absurd c_161 (by decide))
    have hzc : z < (chF (nI 100) (OF_num o) c).length := by rw [hz']; exact (chF_at hil (nI_w (by decide))).2
    refine wp_aload (i := 6) dX16_realiseLike_174 rfl ?_
    refine wp_iload (i := 7) dX16_realiseLike_176 rfl ?_
    refine wp_aload_n (i := 1) dX16_realiseLike_178 rfl rfl ?_
    refine wp_get 15 0 (vi (nI 100)) dX16_realiseLike_179 hO.k0 (by decide) (by decide) fl_X16_185 (congrArg (fun z => toV (vi z)) (hO.f_way.trans hw)) ?_
    refine wp_bipush (nI 97) dX16_realiseLike_182 (by decide) ?_
    refine wp_icmp_neN 197 dX16_realiseLike_184 (by decide) (by decide) (by decide) (fun c_184 => ?_) (fun c_184 => absurd c_184 (by decide))
    refine wp_aload_n (i := 1) dX16_realiseLike_197 rfl rfl ?_
    refine wp_get 15 0 (vi (nI 100)) dX16_realiseLike_198 hO.k0 (by decide) (by decide) fl_X16_185 (congrArg (fun z => toV (vi z)) (hO.f_way.trans hw)) ?_
    refine wp_bipush (nI 100) dX16_realiseLike_201 (by decide) ?_
    refine wp_icmp_neN 216 dX16_realiseLike_203 (by decide) (by decide) (by decide) (fun c_203 => absurd c_203 (by decide)) (fun c_203 => ?_)
    refine wp_aload_n (i := 1) dX16_realiseLike_206 rfl rfl ?_
    refine wp_get 15 2 (vi (OF_num o)) dX16_realiseLike_207 hO.k0 (by decide) (by decide) fl_X16_192 (congrArg (fun z => toV (vi z)) (hO.f_num)) ?_
    refine wp_iload (i := 11) dX16_realiseLike_210 rfl ?_
    refine wp_idiv dX16_realiseLike_212 (by rw [e_153]; exact hez) ?_
    refine wp_goto 218 dX16_realiseLike_213 (by decide) ?_
    refine wp_iastoreN ((chF (nI 100) (OF_num o) c).length) dX16_realiseLike_218 hK1 hK2 (by omega) (by omega) ?_
    refine wp_iincN (a := z) (lv' := [(7, vi (nI (z + 1))), (11, vi x_153), (10, vi (nI i)), (9, vi (nI c.length)), (8, vr (some a)), (6, vr (some (nm 22 K))), (0, vr (some (nm 1 0))), (1, vr (some (nm 2 s)))]) 1 dX16_realiseLike_219 rfl (by decide) (by decide) rfl ?_
    refine wp_iincN (a := i) (lv' := [(10, vi (nI (i + 1))), (7, vi (nI (z + 1))), (11, vi x_153), (9, vi (nI c.length)), (8, vr (some a)), (6, vr (some (nm 22 K))), (0, vr (some (nm 1 0))), (1, vr (some (nm 2 s)))]) 1 dX16_realiseLike_222 rfl (by decide) (by decide) rfl ?_
    refine wp_goto 141 dX16_realiseLike_225 (by decide) ?_
    refine wp_sub [(10, vi (nI (i + 1))), (9, vi (nI c.length)), (8, vr (some a)), (7, vi (nI (z + 1))), (6, vr (some (nm 22 K))), (0, vr (some (nm 1 0))), (1, vr (some (nm 2 s)))] (sb_cons (.head _) (sb_cons (.tail _ (.tail _ (.tail _ (.head _)))) (sb_cons (.tail _ (.tail _ (.tail _ (.tail _ (.head _))))) (sb_cons (.tail _ (.head _)) (sb_cons (.tail _ (.tail _ (.tail _ (.tail _ (.tail _ (.head _)))))) (sb_cons (.tail _ (.tail _ (.tail _ (.tail _ (.tail _ (.tail _ (.head _))))))) (sb_cons (.tail _ (.tail _ (.tail _ (.tail _ (.tail _ (.tail _ (.tail _ (.head _)))))))) sb_nil))))))) ?_
    exact ih (i + 1) _ _ (by omega) (by rw [chF_s1 hil (nI_w (by decide)), hz']) (hO.frm (ce_wI (nm_ne (by decide) (by decide) (by decide)))) (E.fr (ce_wI hne)) hK1 hK2 (wI_fill hI (by rw [hz', (chF_at hil (nI_w (by decide))).1, ← e_153]; unfold fnq; rw [if_neg (by decide), if_pos rfl])) (fun b hb => (ce_wI hb).trans (hF b hb))
set_option maxRecDepth 100000 in
set_option maxHeartbeats 4000000 in
theorem l_X16_like1_107 {G : GG} {d bc bs : Nat} {Q : Pst} {H : Hp} {s a : Nat} {o : OFS} {c : List Int32} (hw : OF_way o = (nI 107)) (hm1 : 1 ≤ (OF_num o).toInt) (hO : OF H s o) (E : PEr H a c) (hc4 : c.length ≤ 4) (kk : (WP G m_X16_realiseLike d 120 [(5, vi (nI (chF (nI 107) (OF_num o) c).length)), (4, vr (some a)), (0, vr (some (nm 1 0))), (1, vr (some (nm 2 s)))] [] H bc bs Q)) : ∀ m i z, i + m = c.length → z = (chF (nI 107) (OF_num o) (c.take i)).length → WP G m_X16_realiseLike d 55 [(8, vi (nI i)), (7, vi (nI c.length)), (6, vr (some a)), (5, vi (nI z)), (4, vr (some a)), (0, vr (some (nm 1 0))), (1, vr (some (nm 2 s)))] [] H bc bs Q := by
  intro m
  induction m with
  | zero =>
    intro i z hi hz' 
    have hi : i = c.length := hi
    rw [hi, List.take_length] at hz'
    refine wp_iload (i := 8) dX16_realiseLike_55 rfl ?_
    refine wp_iload (i := 7) dX16_realiseLike_57 rfl ?_
    refine wp_icmp_geN 120 dX16_realiseLike_59 (by decide) (by omega) (by omega) (fun c_59 => ?_) (fun c_59 => absurd c_59 (by omega))
    refine wp_sub [(5, vi (nI z)), (4, vr (some a)), (0, vr (some (nm 1 0))), (1, vr (some (nm 2 s)))] (sb_cons (.tail _ (.tail _ (.tail _ (.head _)))) (sb_cons (.tail _ (.tail _ (.tail _ (.tail _ (.head _))))) (sb_cons (.tail _ (.tail _ (.tail _ (.tail _ (.tail _ (.head _)))))) (sb_cons (.tail _ (.tail _ (.tail _ (.tail _ (.tail _ (.tail _ (.head _))))))) sb_nil)))) ?_
    rw [hz']
    exact kk
  | succ m ih =>
    intro i z hi hz' 
    have hil : i < c.length := by omega
    have hzl : z ≤ c.length := by rw [hz']; exact Nat.le_trans chF_le (by rw [List.length_take]; omega)
    refine wp_iload (i := 8) dX16_realiseLike_55 rfl ?_
    refine wp_iload (i := 7) dX16_realiseLike_57 rfl ?_
    refine wp_icmp_geN 120 dX16_realiseLike_59 (by decide) (by omega) (by omega) (fun c_59 => absurd c_59 (by omega)) (fun c_59 => ?_)
    refine wp_aload (i := 6) dX16_realiseLike_62 rfl ?_
    refine wp_iload (i := 8) dX16_realiseLike_64 rfl ?_
    refine wp_ialoadN (c.length) (c.getD i (nI 0)) dX16_realiseLike_66 E.2.1 E.2.2.1 (by omega) (by omega) ((E.2.2.2 i hil).trans (gI_eq hil)) ?_
    refine wp_topi (fun x_67 e_67 => ?_)
    refine wp_istore (i := 9) (lv' := [(9, vi x_67), (8, vi (nI i)), (7, vi (nI c.length)), (6, vr (some a)), (5, vi (nI z)), (4, vr (some a)), (0, vr (some (nm 1 0))), (1, vr (some (nm 2 s)))]) dX16_realiseLike_67 (by decide) rfl ?_
    refine wp_aload_n (i := 1) dX16_realiseLike_69 rfl rfl ?_
    refine wp_get 15 0 (vi (nI 107)) dX16_realiseLike_70 hO.k0 (by decide) (by decide) fl_X16_185 (congrArg (fun z => toV (vi z)) (hO.f_way.trans hw)) ?_
    refine wp_bipush (nI 100) dX16_realiseLike_73 (by decide) ?_
    refine wp_icmp_neN 85 dX16_realiseLike_75 (by decide) (by decide) (by decide) (fun c_75 => ?_) (fun c_75 => absurd c_75 (by decide))
    refine wp_iload (i := 5) dX16_realiseLike_85 rfl ?_
    refine wp_aload_n (i := 1) dX16_realiseLike_87 rfl rfl ?_
    refine wp_get 15 0 (vi (nI 107)) dX16_realiseLike_88 hO.k0 (by decide) (by decide) fl_X16_185 (congrArg (fun z => toV (vi z)) (hO.f_way.trans hw)) ?_
    refine wp_bipush (nI 107) dX16_realiseLike_91 (by decide) ?_
    refine wp_icmp_neN 106 dX16_realiseLike_93 (by decide) (by decide) (by decide) (fun c_93 => absurd c_93 (by decide)) (fun c_93 => ?_)
    refine wp_iload (i := 9) dX16_realiseLike_96 rfl ?_
    refine wp_aload_n (i := 1) dX16_realiseLike_98 rfl rfl ?_
    refine wp_get 15 2 (vi (OF_num o)) dX16_realiseLike_99 hO.k0 (by decide) (by decide) fl_X16_192 (congrArg (fun z => toV (vi z)) (hO.f_num)) ?_
    refine wp_irem dX16_realiseLike_102 (num_ne hm1) ?_
    refine wp_if_ne 110 dX16_realiseLike_103 (by decide) (fun c_103 => ?_) (fun c_103 => ?_)
    · skip
      refine wp_iconst (nI 0) dX16_realiseLike_110 (by decide) ?_
      refine wp_iaddN dX16_realiseLike_111 ?_
      refine wp_istore (i := 5) (lv' := [(5, vi (nI (z + 0))), (9, vi x_67), (8, vi (nI i)), (7, vi (nI c.length)), (6, vr (some a)), (4, vr (some a)), (0, vr (some (nm 1 0))), (1, vr (some (nm 2 s)))]) dX16_realiseLike_112 (by decide) rfl ?_
      refine wp_iincN (a := i) (lv' := [(8, vi (nI (i + 1))), (5, vi (nI (z + 0))), (9, vi x_67), (7, vi (nI c.length)), (6, vr (some a)), (4, vr (some a)), (0, vr (some (nm 1 0))), (1, vr (some (nm 2 s)))]) 1 dX16_realiseLike_114 rfl (by decide) (by decide) rfl ?_
      refine wp_goto 55 dX16_realiseLike_117 (by decide) ?_
      refine wp_sub [(8, vi (nI (i + 1))), (7, vi (nI c.length)), (6, vr (some a)), (5, vi (nI (z + 0))), (4, vr (some a)), (0, vr (some (nm 1 0))), (1, vr (some (nm 2 s)))] (sb_cons (.head _) (sb_cons (.tail _ (.tail _ (.tail _ (.head _)))) (sb_cons (.tail _ (.tail _ (.tail _ (.tail _ (.head _))))) (sb_cons (.tail _ (.head _)) (sb_cons (.tail _ (.tail _ (.tail _ (.tail _ (.tail _ (.head _)))))) (sb_cons (.tail _ (.tail _ (.tail _ (.tail _ (.tail _ (.tail _ (.head _))))))) (sb_cons (.tail _ (.tail _ (.tail _ (.tail _ (.tail _ (.tail _ (.tail _ (.head _)))))))) sb_nil))))))) ?_
      exact ih (i + 1) _ (by omega) (by rw [Nat.add_zero, chF_s0 hil (by unfold kp; rw [if_pos rfl, decide_eq_true_iff, ← e_67]; exact c_103), hz'])
    · skip
      refine wp_iconst (nI 1) dX16_realiseLike_106 (by decide) ?_
      refine wp_goto 111 dX16_realiseLike_107 (by decide) ?_
      refine wp_iaddN dX16_realiseLike_111 ?_
      refine wp_istore (i := 5) (lv' := [(5, vi (nI (z + 1))), (9, vi x_67), (8, vi (nI i)), (7, vi (nI c.length)), (6, vr (some a)), (4, vr (some a)), (0, vr (some (nm 1 0))), (1, vr (some (nm 2 s)))]) dX16_realiseLike_112 (by decide) rfl ?_
      refine wp_iincN (a := i) (lv' := [(8, vi (nI (i + 1))), (5, vi (nI (z + 1))), (9, vi x_67), (7, vi (nI c.length)), (6, vr (some a)), (4, vr (some a)), (0, vr (some (nm 1 0))), (1, vr (some (nm 2 s)))]) 1 dX16_realiseLike_114 rfl (by decide) (by decide) rfl ?_
      refine wp_goto 55 dX16_realiseLike_117 (by decide) ?_
      refine wp_sub [(8, vi (nI (i + 1))), (7, vi (nI c.length)), (6, vr (some a)), (5, vi (nI (z + 1))), (4, vr (some a)), (0, vr (some (nm 1 0))), (1, vr (some (nm 2 s)))] (sb_cons (.head _) (sb_cons (.tail _ (.tail _ (.tail _ (.head _)))) (sb_cons (.tail _ (.tail _ (.tail _ (.tail _ (.head _))))) (sb_cons (.tail _ (.head _)) (sb_cons (.tail _ (.tail _ (.tail _ (.tail _ (.tail _ (.head _)))))) (sb_cons (.tail _ (.tail _ (.tail _ (.tail _ (.tail _ (.tail _ (.head _))))))) (sb_cons (.tail _ (.tail _ (.tail _ (.tail _ (.tail _ (.tail _ (.tail _ (.head _)))))))) sb_nil))))))) ?_
      exact ih (i + 1) _ (by omega) (by rw [chF_s1 hil ((by unfold kp; rw [if_pos rfl, decide_eq_true_iff, ← e_67]; exact c_103)), hz'])
set_option maxRecDepth 100000 in
set_option maxHeartbeats 4000000 in
theorem l_X16_like2_107 {G : GG} {d bc bs : Nat} {Q : Pst} {h1 : Hp} {s a K : Nat} {o : OFS} {c : List Int32} (hw : OF_way o = (nI 107)) (hm1 : 1 ≤ (OF_num o).toInt) (hne : a ≠ nm 22 K) (hc4 : c.length ≤ 4) (hq : ∀ H, PEr H (nm 22 K) (chF (nI 107) (OF_num o) c) → (∀ b, b ≠ nm 22 K → ce H b = ce h1 b) → WP G m_X16_realiseLike d 228 [(6, vr (some (nm 22 K))), (0, vr (some (nm 1 0))), (1, vr (some (nm 2 s)))] [] H bc bs Q) : ∀ m i z H, i + m = c.length → z = (chF (nI 107) (OF_num o) (c.take i)).length → OF H s o → PEr H a c → h_k H (nm 22 K) = 101 → h_n H (nm 22 K) = (chF (nI 107) (OF_num o) c).length → (∀ j, j < z → h_I H (nm 22 K) j = (chF (nI 107) (OF_num o) c).getD j (nI 0)) → (∀ b, b ≠ nm 22 K → ce H b = ce h1 b) → WP G m_X16_realiseLike d 141 [(10, vi (nI i)), (9, vi (nI c.length)), (8, vr (some a)), (7, vi (nI z)), (6, vr (some (nm 22 K))), (0, vr (some (nm 1 0))), (1, vr (some (nm 2 s)))] [] H bc bs Q := by
  intro m
  induction m with
  | zero =>
    intro i z H hi hz' hO E hK1 hK2 hI hF
    have hi : i = c.length := hi
    rw [hi, List.take_length] at hz'
    refine wp_iload (i := 10) dX16_realiseLike_141 rfl ?_
    refine wp_iload (i := 9) dX16_realiseLike_143 rfl ?_
    refine wp_icmp_geN 228 dX16_realiseLike_145 (by decide) (by omega) (by omega) (fun c_145 => ?_) (fun c_145 => absurd c_145 (by omega))
    refine wp_sub [(6, vr (some (nm 22 K))), (0, vr (some (nm 1 0))), (1, vr (some (nm 2 s)))] (sb_cons (.tail _ (.tail _ (.tail _ (.tail _ (.head _))))) (sb_cons (.tail _ (.tail _ (.tail _ (.tail _ (.tail _ (.head _)))))) (sb_cons (.tail _ (.tail _ (.tail _ (.tail _ (.tail _ (.tail _ (.head _))))))) sb_nil))) ?_
    exact hq H ⟨⟨K, rfl⟩, hK1, hK2, fun j hj => by rw [gI_eq hj]; exact hI j (by omega)⟩ hF
  | succ m ih =>
    intro i z H hi hz' hO E hK1 hK2 hI hF
    have hil : i < c.length := by omega
    have hzl : z ≤ c.length := by rw [hz']; exact Nat.le_trans chF_le (by rw [List.length_take]; omega)
    have hcl : (chF (nI 107) (OF_num o) c).length ≤ 4 := Nat.le_trans chF_le hc4
    refine wp_iload (i := 10) dX16_realiseLike_141 rfl ?_
    refine wp_iload (i := 9) dX16_realiseLike_143 rfl ?_
    refine wp_icmp_geN 228 dX16_realiseLike_145 (by decide) (by omega) (by omega) (fun c_145 => absurd c_145 (by omega)) (fun c_145 => ?_)
    refine wp_aload (i := 8) dX16_realiseLike_148 rfl ?_
    refine wp_iload (i := 10) dX16_realiseLike_150 rfl ?_
    refine wp_ialoadN (c.length) (c.getD i (nI 0)) dX16_realiseLike_152 E.2.1 E.2.2.1 (by omega) (by omega) ((E.2.2.2 i hil).trans (gI_eq hil)) ?_
    refine wp_topi (fun x_153 e_153 => ?_)
    refine wp_istore (i := 11) (lv' := [(11, vi x_153), (10, vi (nI i)), (9, vi (nI c.length)), (8, vr (some a)), (7, vi (nI z)), (6, vr (some (nm 22 K))), (0, vr (some (nm 1 0))), (1, vr (some (nm 2 s)))]) dX16_realiseLike_153 (by decide) rfl ?_
    refine wp_aload_n (i := 1) dX16_realiseLike_155 rfl rfl ?_
    refine wp_get 15 0 (vi (nI 107)) dX16_realiseLike_156 hO.k0 (by decide) (by decide) fl_X16_185 (congrArg (fun z => toV (vi z)) (hO.f_way.trans hw)) ?_
    refine wp_bipush (nI 107) dX16_realiseLike_159 (by decide) ?_
    refine wp_icmp_neN 174 dX16_realiseLike_161 (by decide) (by decide) (by decide) (fun c_161 => absurd c_161 (by decide)) (fun c_161 => ?_)
    refine wp_iload (i := 11) dX16_realiseLike_164 rfl ?_
    refine wp_aload_n (i := 1) dX16_realiseLike_166 rfl rfl ?_
    refine wp_get 15 2 (vi (OF_num o)) dX16_realiseLike_167 hO.k0 (by decide) (by decide) fl_X16_192 (congrArg (fun z => toV (vi z)) (hO.f_num)) ?_
    refine wp_irem dX16_realiseLike_170 (num_ne hm1) ?_
    refine wp_if_ne 222 dX16_realiseLike_171 (by decide) (fun c_171 => ?_) (fun c_171 => ?_)
    · skip
      refine wp_iincN (a := i) (lv' := [(10, vi (nI (i + 1))), (11, vi x_153), (9, vi (nI c.length)), (8, vr (some a)), (7, vi (nI z)), (6, vr (some (nm 22 K))), (0, vr (some (nm 1 0))), (1, vr (some (nm 2 s)))]) 1 dX16_realiseLike_222 rfl (by decide) (by decide) rfl ?_
      refine wp_goto 141 dX16_realiseLike_225 (by decide) ?_
      refine wp_sub [(10, vi (nI (i + 1))), (9, vi (nI c.length)), (8, vr (some a)), (7, vi (nI z)), (6, vr (some (nm 22 K))), (0, vr (some (nm 1 0))), (1, vr (some (nm 2 s)))] (sb_cons (.head _) (sb_cons (.tail _ (.tail _ (.head _))) (sb_cons (.tail _ (.tail _ (.tail _ (.head _)))) (sb_cons (.tail _ (.tail _ (.tail _ (.tail _ (.head _))))) (sb_cons (.tail _ (.tail _ (.tail _ (.tail _ (.tail _ (.head _)))))) (sb_cons (.tail _ (.tail _ (.tail _ (.tail _ (.tail _ (.tail _ (.head _))))))) (sb_cons (.tail _ (.tail _ (.tail _ (.tail _ (.tail _ (.tail _ (.tail _ (.head _)))))))) sb_nil))))))) ?_
      exact ih (i + 1) _ _ (by omega) (by rw [chF_s0 hil (by unfold kp; rw [if_pos rfl, decide_eq_true_iff, ← e_153]; exact c_171), hz']) hO E hK1 hK2 hI hF
    · skip
      have hzc : z < (chF (nI 107) (OF_num o) c).length := by rw [hz']; exact (chF_at hil (by unfold kp; rw [if_pos rfl, decide_eq_true_iff, ← e_153]; exact c_171)).2
      refine wp_aload (i := 6) dX16_realiseLike_174 rfl ?_
      refine wp_iload (i := 7) dX16_realiseLike_176 rfl ?_
      refine wp_aload_n (i := 1) dX16_realiseLike_178 rfl rfl ?_
      refine wp_get 15 0 (vi (nI 107)) dX16_realiseLike_179 hO.k0 (by decide) (by decide) fl_X16_185 (congrArg (fun z => toV (vi z)) (hO.f_way.trans hw)) ?_
      refine wp_bipush (nI 97) dX16_realiseLike_182 (by decide) ?_
      refine wp_icmp_neN 197 dX16_realiseLike_184 (by decide) (by decide) (by decide) (fun c_184 => ?_) (fun c_184 => absurd c_184 (by decide))
      refine wp_aload_n (i := 1) dX16_realiseLike_197 rfl rfl ?_
      refine wp_get 15 0 (vi (nI 107)) dX16_realiseLike_198 hO.k0 (by decide) (by decide) fl_X16_185 (congrArg (fun z => toV (vi z)) (hO.f_way.trans hw)) ?_
      refine wp_bipush (nI 100) dX16_realiseLike_201 (by decide) ?_
      refine wp_icmp_neN 216 dX16_realiseLike_203 (by decide) (by decide) (by decide) (fun c_203 => ?_) (fun c_203 => absurd c_203 (by decide))
      refine wp_iload (i := 11) dX16_realiseLike_216 rfl ?_
      refine wp_iastoreN ((chF (nI 107) (OF_num o) c).length) dX16_realiseLike_218 hK1 hK2 (by omega) (by omega) ?_
      refine wp_iincN (a := z) (lv' := [(7, vi (nI (z + 1))), (11, vi x_153), (10, vi (nI i)), (9, vi (nI c.length)), (8, vr (some a)), (6, vr (some (nm 22 K))), (0, vr (some (nm 1 0))), (1, vr (some (nm 2 s)))]) 1 dX16_realiseLike_219 rfl (by decide) (by decide) rfl ?_
      refine wp_iincN (a := i) (lv' := [(10, vi (nI (i + 1))), (7, vi (nI (z + 1))), (11, vi x_153), (9, vi (nI c.length)), (8, vr (some a)), (6, vr (some (nm 22 K))), (0, vr (some (nm 1 0))), (1, vr (some (nm 2 s)))]) 1 dX16_realiseLike_222 rfl (by decide) (by decide) rfl ?_
      refine wp_goto 141 dX16_realiseLike_225 (by decide) ?_
      refine wp_sub [(10, vi (nI (i + 1))), (9, vi (nI c.length)), (8, vr (some a)), (7, vi (nI (z + 1))), (6, vr (some (nm 22 K))), (0, vr (some (nm 1 0))), (1, vr (some (nm 2 s)))] (sb_cons (.head _) (sb_cons (.tail _ (.tail _ (.tail _ (.head _)))) (sb_cons (.tail _ (.tail _ (.tail _ (.tail _ (.head _))))) (sb_cons (.tail _ (.head _)) (sb_cons (.tail _ (.tail _ (.tail _ (.tail _ (.tail _ (.head _)))))) (sb_cons (.tail _ (.tail _ (.tail _ (.tail _ (.tail _ (.tail _ (.head _))))))) (sb_cons (.tail _ (.tail _ (.tail _ (.tail _ (.tail _ (.tail _ (.tail _ (.head _)))))))) sb_nil))))))) ?_
      exact ih (i + 1) _ _ (by omega) (by rw [chF_s1 hil (by unfold kp; rw [if_pos rfl, decide_eq_true_iff, ← e_153]; exact c_171), hz']) (hO.frm (ce_wI (nm_ne (by decide) (by decide) (by decide)))) (E.fr (ce_wI hne)) hK1 hK2 (wI_fill hI (by rw [hz', (chF_at hil (by unfold kp; rw [if_pos rfl, decide_eq_true_iff, ← e_153]; exact c_171)).1, ← e_153]; unfold fnq; rw [if_neg (by decide), if_neg (by decide)])) (fun b hb => (ce_wI hb).trans (hF b hb))
set_option maxRecDepth 100000 in
set_option maxHeartbeats 4000000 in
theorem l_X16_like27_97 {G : GG} {d bc bs : Nat} {Q : Pst} {H : Hp} {n s : Nat} {x : Nat → QIS} {T : Nat → Nat} (hX : QOK n x) (hs : s < n) (hR : q_w (x s) ≠ nI 114) (ht : q_w (x s) ≠ nI 116) (hw : q_w (x s) = (nI 97)) (hM : MSQ H n (setR x T)) (hP : PO2 H) (hd : 12 ≤ d) (hTs : T s ≤ (q_F (x s)).length) (hTk : T (sN (x s)) ≤ (q_F (x (sN (x s)))).length) (hlt : T s < T (sN (x s))) (hb : T s < (q_F (x s)).length → 1 + gcC (T s) (capR x T s) ≤ bc ∧ 4 + gcS (T s) (capR x T s) ≤ bs) (hq1 : T s < (q_F (x s)).length → ∀ H', MSQ H' n (setR x (va_up T s (T s + 1))) → PO2 H' → FRQ H H' → Q (oRet (vi (nI 1))) H') (hq0 : ¬ T s < (q_F (x s)).length → Q (oRet (vi (-1))) H) : WP G m_X16_realiseLike d 27 [(0, vr (some (nm 1 0))), (1, vr (some (nm 2 s))), (2, vr (some (nm 2 (sN (x s))))), (3, vi (nI (T s)))] [] H bc bs Q := by
  have hW := hX.1
  have hn12 := hX.2.1
  have hcap := hX.2.2 s hs
  obtain ⟨hks, hway, hnum, hle, hF, hlo, hhi⟩ := qs_L hW hs hR ht
  have hk : sN (x s) < n := by omega
  have h24 := (hW _ hk).1
  have h24s := (hW s hs).1
  have hpk : T s < (q_F (x (sN (x s)))).length := by omega
  have hc4 : ((q_F (x (sN (x s)))).getD (T s) []).length ≤ 4 := (hW _ hk).2.2.1 _ (getD_mem hpk [])
  have hOs := (hM.2.2.1 s hs).1
  obtain ⟨⟨K2, hK2⟩, K, hK⟩ := id hP
  have hf22 := hK2 K2 (Nat.le_refl _)
  refine wp_aload_n (i := 2) dX16_realiseLike_27 rfl rfl ?_
  refine wp_get 15 5 (vr (some (nm 3 (sN (x s))))) dX16_realiseLike_28 (hM.2.2.1 (sN (x s)) hk).1.k0 (by decide) (by decide) fl_X16_182 (congrArg (fun z => toV (vr z)) ((hM.2.2.1 (sN (x s)) hk).1.r6_5)) ?_
  refine wp_iload_n (i := 3) dX16_realiseLike_31 rfl rfl ?_
  have hL1 : LRc _ (nm 3 (sN (x s))) 26 (sN (x s)) ((q_F (x (sN (x s)))).take (T (sN (x s)))) (capR x T (sN (x s))) := (hM.2.2.1 (sN (x s)) hk).2
  refine wp_cV (y' := m_Jx4a65c_get_915e3) 2 [vi (nI (T s))] [] 0 0 dX16_realiseLike_32 ml_X16_201 im_Jx4a65c_get_915e3 se_Jx4a65c_get_915e3 (by decide) (hM.2.2.1 (sN (x s)) hk).2.k ok_Jx4a65c_get_915e3 rfl (Nat.le_of_ble_eq_true rfl) rfl (Nat.le_of_ble_eq_true rfl) (d' := d - 1) (by omega) (Nat.zero_le _) (Nat.zero_le _) (c_LP_get hL1.w (by rw [tk_len hTk]; omega) (by omega) (fun a E => cont_ret ?_))
  rw [List.getElem_take, gD_eq hpk] at E
  have hne : a ≠ nm 22 K2 := fun e => E.z (by rw [e]; exact hf22)
  refine wp_castA .int dX16_realiseLike_35 (by decide) kl_X16_221 (fun a ha => by cases ha; exact arTy_101 E.2.1) ?_
  refine wp_astore (i := 4) (lv' := [(4, vr (some a)), (0, vr (some (nm 1 0))), (1, vr (some (nm 2 s))), (2, vr (some (nm 2 (sN (x s))))), (3, vi (nI (T s)))]) dX16_realiseLike_38 (by decide) rfl ?_
  refine wp_iconst (nI 0) dX16_realiseLike_40 (by decide) ?_
  refine wp_istore (i := 5) (lv' := [(5, vi (nI 0)), (4, vr (some a)), (0, vr (some (nm 1 0))), (1, vr (some (nm 2 s))), (2, vr (some (nm 2 (sN (x s))))), (3, vi (nI (T s)))]) dX16_realiseLike_41 (by decide) rfl ?_
  refine wp_aload (i := 4) dX16_realiseLike_43 rfl ?_
  refine wp_astore (i := 6) (lv' := [(6, vr (some a)), (5, vi (nI 0)), (4, vr (some a)), (0, vr (some (nm 1 0))), (1, vr (some (nm 2 s))), (2, vr (some (nm 2 (sN (x s))))), (3, vi (nI (T s)))]) dX16_realiseLike_45 (by decide) rfl ?_
  refine wp_aload (i := 6) dX16_realiseLike_47 rfl ?_
  refine wp_alen dX16_realiseLike_49 (arTy_101 E.2.1) ?_
  rw [E.2.2.1]
  refine wp_istore (i := 7) (lv' := [(7, vi (nI ((q_F (x (sN (x s)))).getD (T s) []).length)), (6, vr (some a)), (5, vi (nI 0)), (4, vr (some a)), (0, vr (some (nm 1 0))), (1, vr (some (nm 2 s))), (2, vr (some (nm 2 (sN (x s))))), (3, vi (nI (T s)))]) dX16_realiseLike_50 (by decide) rfl ?_
  refine wp_iconst (nI 0) dX16_realiseLike_52 (by decide) ?_
  refine wp_istore (i := 8) (lv' := [(8, vi (nI 0)), (7, vi (nI ((q_F (x (sN (x s)))).getD (T s) []).length)), (6, vr (some a)), (5, vi (nI 0)), (4, vr (some a)), (0, vr (some (nm 1 0))), (1, vr (some (nm 2 s))), (2, vr (some (nm 2 (sN (x s))))), (3, vi (nI (T s)))]) dX16_realiseLike_53 (by decide) rfl ?_
  refine wp_sub [(8, vi (nI 0)), (7, vi (nI ((q_F (x (sN (x s)))).getD (T s) []).length)), (6, vr (some a)), (5, vi (nI 0)), (4, vr (some a)), (0, vr (some (nm 1 0))), (1, vr (some (nm 2 s)))] (sb_cons (.head _) (sb_cons (.tail _ (.head _)) (sb_cons (.tail _ (.tail _ (.head _))) (sb_cons (.tail _ (.tail _ (.tail _ (.head _)))) (sb_cons (.tail _ (.tail _ (.tail _ (.tail _ (.head _))))) (sb_cons (.tail _ (.tail _ (.tail _ (.tail _ (.tail _ (.head _)))))) (sb_cons (.tail _ (.tail _ (.tail _ (.tail _ (.tail _ (.tail _ (.head _))))))) sb_nil))))))) ?_
  refine l_X16_like1_97 (o := q_o (x s)) hw hOs E hc4 ?_ ((q_F (x (sN (x s)))).getD (T s) []).length 0 0 (by omega) (by rw [List.take_zero]; rfl)
  have hlt2 : T s < (q_F (x s)).length := by
    rcases Nat.lt_or_ge (T s) (q_F (x s)).length with z | z
    · exact z
    · have := (hlo (by omega)).1
      rw [hw] at this
      exact absurd this (by decide)
  have hb2 := hb hlt2
  have hc5 : (chF (nI 97) (OF_num (q_o (x s))) ((q_F (x (sN (x s)))).getD (T s) [])).length ≤ ((q_F (x (sN (x s)))).getD (T s) []).length := chF_le
  refine wp_iload (i := 5) dX16_realiseLike_120 rfl ?_
  refine wp_newarray 101 ((chF (nI 97) (OF_num (q_o (x s))) ((q_F (x (sN (x s)))).getD (T s) [])).length) .int dX16_realiseLike_122 rfl rfl aw_int (nI_nn (by omega)) (nI_clamp (by omega)) (by omega) (by decide) pl_int (by omega) (by omega) (nm 22 K2) hf22 ?_
  refine wp_astore (i := 6) (lv' := [(6, vr (some (nm 22 K2))), (5, vi (nI (chF (nI 97) (OF_num (q_o (x s))) ((q_F (x (sN (x s)))).getD (T s) [])).length)), (4, vr (some a)), (0, vr (some (nm 1 0))), (1, vr (some (nm 2 s)))]) dX16_realiseLike_124 (by decide) rfl ?_
  refine wp_iconst (nI 0) dX16_realiseLike_126 (by decide) ?_
  refine wp_istore (i := 7) (lv' := [(7, vi (nI 0)), (6, vr (some (nm 22 K2))), (5, vi (nI (chF (nI 97) (OF_num (q_o (x s))) ((q_F (x (sN (x s)))).getD (T s) [])).length)), (4, vr (some a)), (0, vr (some (nm 1 0))), (1, vr (some (nm 2 s)))]) dX16_realiseLike_127 (by decide) rfl ?_
  refine wp_aload (i := 4) dX16_realiseLike_129 rfl ?_
  refine wp_astore (i := 8) (lv' := [(8, vr (some a)), (7, vi (nI 0)), (6, vr (some (nm 22 K2))), (5, vi (nI (chF (nI 97) (OF_num (q_o (x s))) ((q_F (x (sN (x s)))).getD (T s) [])).length)), (4, vr (some a)), (0, vr (some (nm 1 0))), (1, vr (some (nm 2 s)))]) dX16_realiseLike_131 (by decide) rfl ?_
  refine wp_aload (i := 8) dX16_realiseLike_133 rfl ?_
  refine wp_alen dX16_realiseLike_135 (arTy_101 (E.fr (ce_mk hne)).2.1) ?_
  rw [(E.fr (ce_mk hne)).2.2.1]
  refine wp_istore (i := 9) (lv' := [(9, vi (nI ((q_F (x (sN (x s)))).getD (T s) []).length)), (8, vr (some a)), (7, vi (nI 0)), (6, vr (some (nm 22 K2))), (5, vi (nI (chF (nI 97) (OF_num (q_o (x s))) ((q_F (x (sN (x s)))).getD (T s) [])).length)), (4, vr (some a)), (0, vr (some (nm 1 0))), (1, vr (some (nm 2 s)))]) dX16_realiseLike_136 (by decide) rfl ?_
  refine wp_iconst (nI 0) dX16_realiseLike_138 (by decide) ?_
  refine wp_istore (i := 10) (lv' := [(10, vi (nI 0)), (9, vi (nI ((q_F (x (sN (x s)))).getD (T s) []).length)), (8, vr (some a)), (7, vi (nI 0)), (6, vr (some (nm 22 K2))), (5, vi (nI (chF (nI 97) (OF_num (q_o (x s))) ((q_F (x (sN (x s)))).getD (T s) [])).length)), (4, vr (some a)), (0, vr (some (nm 1 0))), (1, vr (some (nm 2 s)))]) dX16_realiseLike_139 (by decide) rfl ?_
  refine wp_sub [(10, vi (nI 0)), (9, vi (nI ((q_F (x (sN (x s)))).getD (T s) []).length)), (8, vr (some a)), (7, vi (nI 0)), (6, vr (some (nm 22 K2))), (0, vr (some (nm 1 0))), (1, vr (some (nm 2 s)))] (sb_cons (.head _) (sb_cons (.tail _ (.head _)) (sb_cons (.tail _ (.tail _ (.head _))) (sb_cons (.tail _ (.tail _ (.tail _ (.head _)))) (sb_cons (.tail _ (.tail _ (.tail _ (.tail _ (.head _))))) (sb_cons (.tail _ (.tail _ (.tail _ (.tail _ (.tail _ (.tail _ (.tail _ (.head _)))))))) (sb_cons (.tail _ (.tail _ (.tail _ (.tail _ (.tail _ (.tail _ (.tail _ (.tail _ (.head _))))))))) sb_nil))))))) ?_
  refine l_X16_like2_97 (o := q_o (x s)) (h1 := H) hw hne hc4 (fun H2 E2 C2 => ?_) ((q_F (x (sN (x s)))).getD (T s) []).length 0 0 _ (by omega) (by rw [List.take_zero]; rfl) (hOs.frm (ce_mk (nm_ne (by decide) (by decide) (by decide)))) (E.fr (ce_mk hne)) (by rw [gk_mk, if_pos rfl]) (by rw [gn_mk, if_pos rfl]) (fun j hj => absurd hj (Nat.not_lt_zero _)) (fun b hb => ce_mk hb)
  have hM2 := hM.row hf22 C2
  have hP2 := PO2.row hK2 hK C2
  refine wp_aload_n (i := 1) dX16_realiseLike_228 rfl rfl ?_
  refine wp_get 15 5 (vr (some (nm 3 s))) dX16_realiseLike_229 (hM2.2.2.1 s hs).1.k0 (by decide) (by decide) fl_X16_182 (congrArg (fun z => toV (vr z)) ((hM2.2.2.1 s hs).1.r6_5)) ?_
  refine wp_aload (i := 6) dX16_realiseLike_232 rfl ?_
  have hL2 : LRc _ (nm 3 s) 26 s ((q_F (x s)).take (T s)) (capR x T s) := (hM2.2.2.1 s hs).2
  refine wp_cV (y' := m_Jx4a65c_add_9ea2d) 2 [vr (some (nm 22 K2))] [] ((gcC (T s) (capR x T s))) ((gcS (T s) (capR x T s))) dX16_realiseLike_234 ml_X16_175 im_Jx4a65c_add_9ea2d se_Jx4a65c_add_9ea2d (by decide) (hM2.2.2.1 s hs).2.k ok_Jx4a65c_add_9ea2d rfl (Nat.le_of_ble_eq_true rfl) rfl (Nat.le_of_ble_eq_true rfl) (d' := d - 1) (by omega) (by omega) (by omega) (c_LQ_add hL2 E2 (by rw [tk_len hTs]; omega) (by decide) (by decide) (by omega) (by rw [tk_len hTs]; exact Nat.le_refl _) (by rw [tk_len hTs]; exact Nat.le_refl _) (fun h3 L3 C3 => cont_ret ?_))
  rw [tk_len hTs] at L3
  refine wp_pop dX16_realiseLike_237 ?_
  refine wp_iconst (nI 1) dX16_realiseLike_238 (by decide) ?_
  refine wp_ireturn dX16_realiseLike_239 rfl ?_
  have hM3 := hM2.add hs (by omega) hlt2 (by omega) (by rw [(hF _ hlt2).1, hw]) hcap L3 C3
  exact hq1 hlt2 _ hM3 (hP2.lst C3) ((FRQ.row hf22 C2).tr (FRQ.add C3))
set_option maxRecDepth 100000 in
set_option maxHeartbeats 4000000 in
theorem l_X16_like27_100 {G : GG} {d bc bs : Nat} {Q : Pst} {H : Hp} {n s : Nat} {x : Nat → QIS} {T : Nat → Nat} (hX : QOK n x) (hs : s < n) (hR : q_w (x s) ≠ nI 114) (ht : q_w (x s) ≠ nI 116) (hw : q_w (x s) = (nI 100)) (hM : MSQ H n (setR x T)) (hP : PO2 H) (hd : 12 ≤ d) (hTs : T s ≤ (q_F (x s)).length) (hTk : T (sN (x s)) ≤ (q_F (x (sN (x s)))).length) (hlt : T s < T (sN (x s))) (hb : T s < (q_F (x s)).length → 1 + gcC (T s) (capR x T s) ≤ bc ∧ 4 + gcS (T s) (capR x T s) ≤ bs) (hq1 : T s < (q_F (x s)).length → ∀ H', MSQ H' n (setR x (va_up T s (T s + 1))) → PO2 H' → FRQ H H' → Q (oRet (vi (nI 1))) H') (hq0 : ¬ T s < (q_F (x s)).length → Q (oRet (vi (-1))) H) : WP G m_X16_realiseLike d 27 [(0, vr (some (nm 1 0))), (1, vr (some (nm 2 s))), (2, vr (some (nm 2 (sN (x s))))), (3, vi (nI (T s)))] [] H bc bs Q := by
  have hW := hX.1
  have hn12 := hX.2.1
  have hcap := hX.2.2 s hs
  obtain ⟨hks, hway, hnum, hle, hF, hlo, hhi⟩ := qs_L hW hs hR ht
  have hk : sN (x s) < n := by omega
  have h24 := (hW _ hk).1
  have h24s := (hW s hs).1
  have hpk : T s < (q_F (x (sN (x s)))).length := by omega
  have hc4 : ((q_F (x (sN (x s)))).getD (T s) []).length ≤ 4 := (hW _ hk).2.2.1 _ (getD_mem hpk [])
  have hOs := (hM.2.2.1 s hs).1
  obtain ⟨⟨K2, hK2⟩, K, hK⟩ := id hP
  have hf22 := hK2 K2 (Nat.le_refl _)
  refine wp_aload_n (i := 2) dX16_realiseLike_27 rfl rfl ?_
  refine wp_get 15 5 (vr (some (nm 3 (sN (x s))))) dX16_realiseLike_28 (hM.2.2.1 (sN (x s)) hk).1.k0 (by decide) (by decide) fl_X16_182 (congrArg (fun z => toV (vr z)) ((hM.2.2.1 (sN (x s)) hk).1.r6_5)) ?_
  refine wp_iload_n (i := 3) dX16_realiseLike_31 rfl rfl ?_
  have hL3 : LRc _ (nm 3 (sN (x s))) 26 (sN (x s)) ((q_F (x (sN (x s)))).take (T (sN (x s)))) (capR x T (sN (x s))) := (hM.2.2.1 (sN (x s)) hk).2
  refine wp_cV (y' := m_Jx4a65c_get_915e3) 2 [vi (nI (T s))] [] 0 0 dX16_realiseLike_32 ml_X16_201 im_Jx4a65c_get_915e3 se_Jx4a65c_get_915e3 (by decide) (hM.2.2.1 (sN (x s)) hk).2.k ok_Jx4a65c_get_915e3 rfl (Nat.le_of_ble_eq_true rfl) rfl (Nat.le_of_ble_eq_true rfl) (d' := d - 1) (by omega) (Nat.zero_le _) (Nat.zero_le _) (c_LP_get hL3.w (by rw [tk_len hTk]; omega) (by omega) (fun a E => cont_ret ?_))
  rw [List.getElem_take, gD_eq hpk] at E
  have hne : a ≠ nm 22 K2 := fun e => E.z (by rw [e]; exact hf22)
  refine wp_castA .int dX16_realiseLike_35 (by decide) kl_X16_221 (fun a ha => by cases ha; exact arTy_101 E.2.1) ?_
  refine wp_astore (i := 4) (lv' := [(4, vr (some a)), (0, vr (some (nm 1 0))), (1, vr (some (nm 2 s))), (2, vr (some (nm 2 (sN (x s))))), (3, vi (nI (T s)))]) dX16_realiseLike_38 (by decide) rfl ?_
  refine wp_iconst (nI 0) dX16_realiseLike_40 (by decide) ?_
  refine wp_istore (i := 5) (lv' := [(5, vi (nI 0)), (4, vr (some a)), (0, vr (some (nm 1 0))), (1, vr (some (nm 2 s))), (2, vr (some (nm 2 (sN (x s))))), (3, vi (nI (T s)))]) dX16_realiseLike_41 (by decide) rfl ?_
  refine wp_aload (i := 4) dX16_realiseLike_43 rfl ?_
  refine wp_astore (i := 6) (lv' := [(6, vr (some a)), (5, vi (nI 0)), (4, vr (some a)), (0, vr (some (nm 1 0))), (1, vr (some (nm 2 s))), (2, vr (some (nm 2 (sN (x s))))), (3, vi (nI (T s)))]) dX16_realiseLike_45 (by decide) rfl ?_
  refine wp_aload (i := 6) dX16_realiseLike_47 rfl ?_
  refine wp_alen dX16_realiseLike_49 (arTy_101 E.2.1) ?_
  rw [E.2.2.1]
  refine wp_istore (i := 7) (lv' := [(7, vi (nI ((q_F (x (sN (x s)))).getD (T s) []).length)), (6, vr (some a)), (5, vi (nI 0)), (4, vr (some a)), (0, vr (some (nm 1 0))), (1, vr (some (nm 2 s))), (2, vr (some (nm 2 (sN (x s))))), (3, vi (nI (T s)))]) dX16_realiseLike_50 (by decide) rfl ?_
  refine wp_iconst (nI 0) dX16_realiseLike_52 (by decide) ?_
  refine wp_istore (i := 8) (lv' := [(8, vi (nI 0)), (7, vi (nI ((q_F (x (sN (x s)))).getD (T s) []).length)), (6, vr (some a)), (5, vi (nI 0)), (4, vr (some a)), (0, vr (some (nm 1 0))), (1, vr (some (nm 2 s))), (2, vr (some (nm 2 (sN (x s))))), (3, vi (nI (T s)))]) dX16_realiseLike_53 (by decide) rfl ?_
  refine wp_sub [(8, vi (nI 0)), (7, vi (nI ((q_F (x (sN (x s)))).getD (T s) []).length)), (6, vr (some a)), (5, vi (nI 0)), (4, vr (some a)), (0, vr (some (nm 1 0))), (1, vr (some (nm 2 s)))] (sb_cons (.head _) (sb_cons (.tail _ (.head _)) (sb_cons (.tail _ (.tail _ (.head _))) (sb_cons (.tail _ (.tail _ (.tail _ (.head _)))) (sb_cons (.tail _ (.tail _ (.tail _ (.tail _ (.head _))))) (sb_cons (.tail _ (.tail _ (.tail _ (.tail _ (.tail _ (.head _)))))) (sb_cons (.tail _ (.tail _ (.tail _ (.tail _ (.tail _ (.tail _ (.head _))))))) sb_nil))))))) ?_
  refine l_X16_like1_100 (o := q_o (x s)) hw hOs E hc4 (fun z => hq0 (fun h => by have := (hF _ h).2 hw; rw [z] at this; cases this)) (fun hnz => ?_) ((q_F (x (sN (x s)))).getD (T s) []).length 0 0 (by omega) (by rw [List.take_zero]; rfl) (fun j hj => absurd hj (Nat.not_lt_zero _))
  have hlt2 : T s < (q_F (x s)).length := by
    rcases Nat.lt_or_ge (T s) (q_F (x s)).length with z | z
    · exact z
    · have e : T s = (q_F (x s)).length := by omega
      have := (hlo (by omega)).2.1
      rw [← e, hnz] at this
      cases this
  have hb2 := hb hlt2
  have hc5 : (chF (nI 100) (OF_num (q_o (x s))) ((q_F (x (sN (x s)))).getD (T s) [])).length ≤ ((q_F (x (sN (x s)))).getD (T s) []).length := chF_le
  refine wp_iload (i := 5) dX16_realiseLike_120 rfl ?_
  refine wp_newarray 101 ((chF (nI 100) (OF_num (q_o (x s))) ((q_F (x (sN (x s)))).getD (T s) [])).length) .int dX16_realiseLike_122 rfl rfl aw_int (nI_nn (by omega)) (nI_clamp (by omega)) (by omega) (by decide) pl_int (by omega) (by omega) (nm 22 K2) hf22 ?_
  refine wp_astore (i := 6) (lv' := [(6, vr (some (nm 22 K2))), (5, vi (nI (chF (nI 100) (OF_num (q_o (x s))) ((q_F (x (sN (x s)))).getD (T s) [])).length)), (4, vr (some a)), (0, vr (some (nm 1 0))), (1, vr (some (nm 2 s)))]) dX16_realiseLike_124 (by decide) rfl ?_
  refine wp_iconst (nI 0) dX16_realiseLike_126 (by decide) ?_
  refine wp_istore (i := 7) (lv' := [(7, vi (nI 0)), (6, vr (some (nm 22 K2))), (5, vi (nI (chF (nI 100) (OF_num (q_o (x s))) ((q_F (x (sN (x s)))).getD (T s) [])).length)), (4, vr (some a)), (0, vr (some (nm 1 0))), (1, vr (some (nm 2 s)))]) dX16_realiseLike_127 (by decide) rfl ?_
  refine wp_aload (i := 4) dX16_realiseLike_129 rfl ?_
  refine wp_astore (i := 8) (lv' := [(8, vr (some a)), (7, vi (nI 0)), (6, vr (some (nm 22 K2))), (5, vi (nI (chF (nI 100) (OF_num (q_o (x s))) ((q_F (x (sN (x s)))).getD (T s) [])).length)), (4, vr (some a)), (0, vr (some (nm 1 0))), (1, vr (some (nm 2 s)))]) dX16_realiseLike_131 (by decide) rfl ?_
  refine wp_aload (i := 8) dX16_realiseLike_133 rfl ?_
  refine wp_alen dX16_realiseLike_135 (arTy_101 (E.fr (ce_mk hne)).2.1) ?_
  rw [(E.fr (ce_mk hne)).2.2.1]
  refine wp_istore (i := 9) (lv' := [(9, vi (nI ((q_F (x (sN (x s)))).getD (T s) []).length)), (8, vr (some a)), (7, vi (nI 0)), (6, vr (some (nm 22 K2))), (5, vi (nI (chF (nI 100) (OF_num (q_o (x s))) ((q_F (x (sN (x s)))).getD (T s) [])).length)), (4, vr (some a)), (0, vr (some (nm 1 0))), (1, vr (some (nm 2 s)))]) dX16_realiseLike_136 (by decide) rfl ?_
  refine wp_iconst (nI 0) dX16_realiseLike_138 (by decide) ?_
  refine wp_istore (i := 10) (lv' := [(10, vi (nI 0)), (9, vi (nI ((q_F (x (sN (x s)))).getD (T s) []).length)), (8, vr (some a)), (7, vi (nI 0)), (6, vr (some (nm 22 K2))), (5, vi (nI (chF (nI 100) (OF_num (q_o (x s))) ((q_F (x (sN (x s)))).getD (T s) [])).length)), (4, vr (some a)), (0, vr (some (nm 1 0))), (1, vr (some (nm 2 s)))]) dX16_realiseLike_139 (by decide) rfl ?_
  refine wp_sub [(10, vi (nI 0)), (9, vi (nI ((q_F (x (sN (x s)))).getD (T s) []).length)), (8, vr (some a)), (7, vi (nI 0)), (6, vr (some (nm 22 K2))), (0, vr (some (nm 1 0))), (1, vr (some (nm 2 s)))] (sb_cons (.head _) (sb_cons (.tail _ (.head _)) (sb_cons (.tail _ (.tail _ (.head _))) (sb_cons (.tail _ (.tail _ (.tail _ (.head _)))) (sb_cons (.tail _ (.tail _ (.tail _ (.tail _ (.head _))))) (sb_cons (.tail _ (.tail _ (.tail _ (.tail _ (.tail _ (.tail _ (.tail _ (.head _)))))))) (sb_cons (.tail _ (.tail _ (.tail _ (.tail _ (.tail _ (.tail _ (.tail _ (.tail _ (.head _))))))))) sb_nil))))))) ?_
  refine l_X16_like2_100 (o := q_o (x s)) (h1 := H) hw hnz hne hc4 (fun H2 E2 C2 => ?_) ((q_F (x (sN (x s)))).getD (T s) []).length 0 0 _ (by omega) (by rw [List.take_zero]; rfl) (hOs.frm (ce_mk (nm_ne (by decide) (by decide) (by decide)))) (E.fr (ce_mk hne)) (by rw [gk_mk, if_pos rfl]) (by rw [gn_mk, if_pos rfl]) (fun j hj => absurd hj (Nat.not_lt_zero _)) (fun b hb => ce_mk hb)
  have hM2 := hM.row hf22 C2
  have hP2 := PO2.row hK2 hK C2
  refine wp_aload_n (i := 1) dX16_realiseLike_228 rfl rfl ?_
  refine wp_get 15 5 (vr (some (nm 3 s))) dX16_realiseLike_229 (hM2.2.2.1 s hs).1.k0 (by decide) (by decide) fl_X16_182 (congrArg (fun z => toV (vr z)) ((hM2.2.2.1 s hs).1.r6_5)) ?_
  refine wp_aload (i := 6) dX16_realiseLike_232 rfl ?_
  have hL4 : LRc _ (nm 3 s) 26 s ((q_F (x s)).take (T s)) (capR x T s) := (hM2.2.2.1 s hs).2
  refine wp_cV (y' := m_Jx4a65c_add_9ea2d) 2 [vr (some (nm 22 K2))] [] ((gcC (T s) (capR x T s))) ((gcS (T s) (capR x T s))) dX16_realiseLike_234 ml_X16_175 im_Jx4a65c_add_9ea2d se_Jx4a65c_add_9ea2d (by decide) (hM2.2.2.1 s hs).2.k ok_Jx4a65c_add_9ea2d rfl (Nat.le_of_ble_eq_true rfl) rfl (Nat.le_of_ble_eq_true rfl) (d' := d - 1) (by omega) (by omega) (by omega) (c_LQ_add hL4 E2 (by rw [tk_len hTs]; omega) (by decide) (by decide) (by omega) (by rw [tk_len hTs]; exact Nat.le_refl _) (by rw [tk_len hTs]; exact Nat.le_refl _) (fun h3 L3 C3 => cont_ret ?_))
  rw [tk_len hTs] at L3
  refine wp_pop dX16_realiseLike_237 ?_
  refine wp_iconst (nI 1) dX16_realiseLike_238 (by decide) ?_
  refine wp_ireturn dX16_realiseLike_239 rfl ?_
  have hM3 := hM2.add hs (by omega) hlt2 (by omega) (by rw [(hF _ hlt2).1, hw]) hcap L3 C3
  exact hq1 hlt2 _ hM3 (hP2.lst C3) ((FRQ.row hf22 C2).tr (FRQ.add C3))
set_option maxRecDepth 100000 in
set_option maxHeartbeats 4000000 in
theorem l_X16_like27_107 {G : GG} {d bc bs : Nat} {Q : Pst} {H : Hp} {n s : Nat} {x : Nat → QIS} {T : Nat → Nat} (hX : QOK n x) (hs : s < n) (hR : q_w (x s) ≠ nI 114) (ht : q_w (x s) ≠ nI 116) (hw : q_w (x s) = (nI 107)) (hM : MSQ H n (setR x T)) (hP : PO2 H) (hd : 12 ≤ d) (hTs : T s ≤ (q_F (x s)).length) (hTk : T (sN (x s)) ≤ (q_F (x (sN (x s)))).length) (hlt : T s < T (sN (x s))) (hb : T s < (q_F (x s)).length → 1 + gcC (T s) (capR x T s) ≤ bc ∧ 4 + gcS (T s) (capR x T s) ≤ bs) (hq1 : T s < (q_F (x s)).length → ∀ H', MSQ H' n (setR x (va_up T s (T s + 1))) → PO2 H' → FRQ H H' → Q (oRet (vi (nI 1))) H') (hq0 : ¬ T s < (q_F (x s)).length → Q (oRet (vi (-1))) H) : WP G m_X16_realiseLike d 27 [(0, vr (some (nm 1 0))), (1, vr (some (nm 2 s))), (2, vr (some (nm 2 (sN (x s))))), (3, vi (nI (T s)))] [] H bc bs Q := by
  have hW := hX.1
  have hn12 := hX.2.1
  have hcap := hX.2.2 s hs
  obtain ⟨hks, hway, hnum, hle, hF, hlo, hhi⟩ := qs_L hW hs hR ht
  have hk : sN (x s) < n := by omega
  have h24 := (hW _ hk).1
  have h24s := (hW s hs).1
  have hpk : T s < (q_F (x (sN (x s)))).length := by omega
  have hc4 : ((q_F (x (sN (x s)))).getD (T s) []).length ≤ 4 := (hW _ hk).2.2.1 _ (getD_mem hpk [])
  have hOs := (hM.2.2.1 s hs).1
  obtain ⟨⟨K2, hK2⟩, K, hK⟩ := id hP
  have hf22 := hK2 K2 (Nat.le_refl _)
  refine wp_aload_n (i := 2) dX16_realiseLike_27 rfl rfl ?_
  refine wp_get 15 5 (vr (some (nm 3 (sN (x s))))) dX16_realiseLike_28 (hM.2.2.1 (sN (x s)) hk).1.k0 (by decide) (by decide) fl_X16_182 (congrArg (fun z => toV (vr z)) ((hM.2.2.1 (sN (x s)) hk).1.r6_5)) ?_
  refine wp_iload_n (i := 3) dX16_realiseLike_31 rfl rfl ?_
  have hL5 : LRc _ (nm 3 (sN (x s))) 26 (sN (x s)) ((q_F (x (sN (x s)))).take (T (sN (x s)))) (capR x T (sN (x s))) := (hM.2.2.1 (sN (x s)) hk).2
  refine wp_cV (y' := m_Jx4a65c_get_915e3) 2 [vi (nI (T s))] [] 0 0 dX16_realiseLike_32 ml_X16_201 im_Jx4a65c_get_915e3 se_Jx4a65c_get_915e3 (by decide) (hM.2.2.1 (sN (x s)) hk).2.k ok_Jx4a65c_get_915e3 rfl (Nat.le_of_ble_eq_true rfl) rfl (Nat.le_of_ble_eq_true rfl) (d' := d - 1) (by omega) (Nat.zero_le _) (Nat.zero_le _) (c_LP_get hL5.w (by rw [tk_len hTk]; omega) (by omega) (fun a E => cont_ret ?_))
  rw [List.getElem_take, gD_eq hpk] at E
  have hne : a ≠ nm 22 K2 := fun e => E.z (by rw [e]; exact hf22)
  refine wp_castA .int dX16_realiseLike_35 (by decide) kl_X16_221 (fun a ha => by cases ha; exact arTy_101 E.2.1) ?_
  refine wp_astore (i := 4) (lv' := [(4, vr (some a)), (0, vr (some (nm 1 0))), (1, vr (some (nm 2 s))), (2, vr (some (nm 2 (sN (x s))))), (3, vi (nI (T s)))]) dX16_realiseLike_38 (by decide) rfl ?_
  refine wp_iconst (nI 0) dX16_realiseLike_40 (by decide) ?_
  refine wp_istore (i := 5) (lv' := [(5, vi (nI 0)), (4, vr (some a)), (0, vr (some (nm 1 0))), (1, vr (some (nm 2 s))), (2, vr (some (nm 2 (sN (x s))))), (3, vi (nI (T s)))]) dX16_realiseLike_41 (by decide) rfl ?_
  refine wp_aload (i := 4) dX16_realiseLike_43 rfl ?_
  refine wp_astore (i := 6) (lv' := [(6, vr (some a)), (5, vi (nI 0)), (4, vr (some a)), (0, vr (some (nm 1 0))), (1, vr (some (nm 2 s))), (2, vr (some (nm 2 (sN (x s))))), (3, vi (nI (T s)))]) dX16_realiseLike_45 (by decide) rfl ?_
  refine wp_aload (i := 6) dX16_realiseLike_47 rfl ?_
  refine wp_alen dX16_realiseLike_49 (arTy_101 E.2.1) ?_
  rw [E.2.2.1]
  refine wp_istore (i := 7) (lv' := [(7, vi (nI ((q_F (x (sN (x s)))).getD (T s) []).length)), (6, vr (some a)), (5, vi (nI 0)), (4, vr (some a)), (0, vr (some (nm 1 0))), (1, vr (some (nm 2 s))), (2, vr (some (nm 2 (sN (x s))))), (3, vi (nI (T s)))]) dX16_realiseLike_50 (by decide) rfl ?_
  refine wp_iconst (nI 0) dX16_realiseLike_52 (by decide) ?_
  refine wp_istore (i := 8) (lv' := [(8, vi (nI 0)), (7, vi (nI ((q_F (x (sN (x s)))).getD (T s) []).length)), (6, vr (some a)), (5, vi (nI 0)), (4, vr (some a)), (0, vr (some (nm 1 0))), (1, vr (some (nm 2 s))), (2, vr (some (nm 2 (sN (x s))))), (3, vi (nI (T s)))]) dX16_realiseLike_53 (by decide) rfl ?_
  refine wp_sub [(8, vi (nI 0)), (7, vi (nI ((q_F (x (sN (x s)))).getD (T s) []).length)), (6, vr (some a)), (5, vi (nI 0)), (4, vr (some a)), (0, vr (some (nm 1 0))), (1, vr (some (nm 2 s)))] (sb_cons (.head _) (sb_cons (.tail _ (.head _)) (sb_cons (.tail _ (.tail _ (.head _))) (sb_cons (.tail _ (.tail _ (.tail _ (.head _)))) (sb_cons (.tail _ (.tail _ (.tail _ (.tail _ (.head _))))) (sb_cons (.tail _ (.tail _ (.tail _ (.tail _ (.tail _ (.head _)))))) (sb_cons (.tail _ (.tail _ (.tail _ (.tail _ (.tail _ (.tail _ (.head _))))))) sb_nil))))))) ?_
  refine l_X16_like1_107 (o := q_o (x s)) hw (hnum hw) hOs E hc4 ?_ ((q_F (x (sN (x s)))).getD (T s) []).length 0 0 (by omega) (by rw [List.take_zero]; rfl)
  have hlt2 : T s < (q_F (x s)).length := by
    rcases Nat.lt_or_ge (T s) (q_F (x s)).length with z | z
    · exact z
    · have := (hlo (by omega)).1
      rw [hw] at this
      exact absurd this (by decide)
  have hb2 := hb hlt2
  have hc5 : (chF (nI 107) (OF_num (q_o (x s))) ((q_F (x (sN (x s)))).getD (T s) [])).length ≤ ((q_F (x (sN (x s)))).getD (T s) []).length := chF_le
  refine wp_iload (i := 5) dX16_realiseLike_120 rfl ?_
  refine wp_newarray 101 ((chF (nI 107) (OF_num (q_o (x s))) ((q_F (x (sN (x s)))).getD (T s) [])).length) .int dX16_realiseLike_122 rfl rfl aw_int (nI_nn (by omega)) (nI_clamp (by omega)) (by omega) (by decide) pl_int (by omega) (by omega) (nm 22 K2) hf22 ?_
  refine wp_astore (i := 6) (lv' := [(6, vr (some (nm 22 K2))), (5, vi (nI (chF (nI 107) (OF_num (q_o (x s))) ((q_F (x (sN (x s)))).getD (T s) [])).length)), (4, vr (some a)), (0, vr (some (nm 1 0))), (1, vr (some (nm 2 s)))]) dX16_realiseLike_124 (by decide) rfl ?_
  refine wp_iconst (nI 0) dX16_realiseLike_126 (by decide) ?_
  refine wp_istore (i := 7) (lv' := [(7, vi (nI 0)), (6, vr (some (nm 22 K2))), (5, vi (nI (chF (nI 107) (OF_num (q_o (x s))) ((q_F (x (sN (x s)))).getD (T s) [])).length)), (4, vr (some a)), (0, vr (some (nm 1 0))), (1, vr (some (nm 2 s)))]) dX16_realiseLike_127 (by decide) rfl ?_
  refine wp_aload (i := 4) dX16_realiseLike_129 rfl ?_
  refine wp_astore (i := 8) (lv' := [(8, vr (some a)), (7, vi (nI 0)), (6, vr (some (nm 22 K2))), (5, vi (nI (chF (nI 107) (OF_num (q_o (x s))) ((q_F (x (sN (x s)))).getD (T s) [])).length)), (4, vr (some a)), (0, vr (some (nm 1 0))), (1, vr (some (nm 2 s)))]) dX16_realiseLike_131 (by decide) rfl ?_
  refine wp_aload (i := 8) dX16_realiseLike_133 rfl ?_
  refine wp_alen dX16_realiseLike_135 (arTy_101 (E.fr (ce_mk hne)).2.1) ?_
  rw [(E.fr (ce_mk hne)).2.2.1]
  refine wp_istore (i := 9) (lv' := [(9, vi (nI ((q_F (x (sN (x s)))).getD (T s) []).length)), (8, vr (some a)), (7, vi (nI 0)), (6, vr (some (nm 22 K2))), (5, vi (nI (chF (nI 107) (OF_num (q_o (x s))) ((q_F (x (sN (x s)))).getD (T s) [])).length)), (4, vr (some a)), (0, vr (some (nm 1 0))), (1, vr (some (nm 2 s)))]) dX16_realiseLike_136 (by decide) rfl ?_
  refine wp_iconst (nI 0) dX16_realiseLike_138 (by decide) ?_
  refine wp_istore (i := 10) (lv' := [(10, vi (nI 0)), (9, vi (nI ((q_F (x (sN (x s)))).getD (T s) []).length)), (8, vr (some a)), (7, vi (nI 0)), (6, vr (some (nm 22 K2))), (5, vi (nI (chF (nI 107) (OF_num (q_o (x s))) ((q_F (x (sN (x s)))).getD (T s) [])).length)), (4, vr (some a)), (0, vr (some (nm 1 0))), (1, vr (some (nm 2 s)))]) dX16_realiseLike_139 (by decide) rfl ?_
  refine wp_sub [(10, vi (nI 0)), (9, vi (nI ((q_F (x (sN (x s)))).getD (T s) []).length)), (8, vr (some a)), (7, vi (nI 0)), (6, vr (some (nm 22 K2))), (0, vr (some (nm 1 0))), (1, vr (some (nm 2 s)))] (sb_cons (.head _) (sb_cons (.tail _ (.head _)) (sb_cons (.tail _ (.tail _ (.head _))) (sb_cons (.tail _ (.tail _ (.tail _ (.head _)))) (sb_cons (.tail _ (.tail _ (.tail _ (.tail _ (.head _))))) (sb_cons (.tail _ (.tail _ (.tail _ (.tail _ (.tail _ (.tail _ (.tail _ (.head _)))))))) (sb_cons (.tail _ (.tail _ (.tail _ (.tail _ (.tail _ (.tail _ (.tail _ (.tail _ (.head _))))))))) sb_nil))))))) ?_
  refine l_X16_like2_107 (o := q_o (x s)) (h1 := H) hw (hnum hw) hne hc4 (fun H2 E2 C2 => ?_) ((q_F (x (sN (x s)))).getD (T s) []).length 0 0 _ (by omega) (by rw [List.take_zero]; rfl) (hOs.frm (ce_mk (nm_ne (by decide) (by decide) (by decide)))) (E.fr (ce_mk hne)) (by rw [gk_mk, if_pos rfl]) (by rw [gn_mk, if_pos rfl]) (fun j hj => absurd hj (Nat.not_lt_zero _)) (fun b hb => ce_mk hb)
  have hM2 := hM.row hf22 C2
  have hP2 := PO2.row hK2 hK C2
  refine wp_aload_n (i := 1) dX16_realiseLike_228 rfl rfl ?_
  refine wp_get 15 5 (vr (some (nm 3 s))) dX16_realiseLike_229 (hM2.2.2.1 s hs).1.k0 (by decide) (by decide) fl_X16_182 (congrArg (fun z => toV (vr z)) ((hM2.2.2.1 s hs).1.r6_5)) ?_
  refine wp_aload (i := 6) dX16_realiseLike_232 rfl ?_
  have hL6 : LRc _ (nm 3 s) 26 s ((q_F (x s)).take (T s)) (capR x T s) := (hM2.2.2.1 s hs).2
  refine wp_cV (y' := m_Jx4a65c_add_9ea2d) 2 [vr (some (nm 22 K2))] [] ((gcC (T s) (capR x T s))) ((gcS (T s) (capR x T s))) dX16_realiseLike_234 ml_X16_175 im_Jx4a65c_add_9ea2d se_Jx4a65c_add_9ea2d (by decide) (hM2.2.2.1 s hs).2.k ok_Jx4a65c_add_9ea2d rfl (Nat.le_of_ble_eq_true rfl) rfl (Nat.le_of_ble_eq_true rfl) (d' := d - 1) (by omega) (by omega) (by omega) (c_LQ_add hL6 E2 (by rw [tk_len hTs]; omega) (by decide) (by decide) (by omega) (by rw [tk_len hTs]; exact Nat.le_refl _) (by rw [tk_len hTs]; exact Nat.le_refl _) (fun h3 L3 C3 => cont_ret ?_))
  rw [tk_len hTs] at L3
  refine wp_pop dX16_realiseLike_237 ?_
  refine wp_iconst (nI 1) dX16_realiseLike_238 (by decide) ?_
  refine wp_ireturn dX16_realiseLike_239 rfl ?_
  have hM3 := hM2.add hs (by omega) hlt2 (by omega) (by rw [(hF _ hlt2).1, hw]) hcap L3 C3
  exact hq1 hlt2 _ hM3 (hP2.lst C3) ((FRQ.row hf22 C2).tr (FRQ.add C3))
set_option maxRecDepth 100000 in
set_option maxHeartbeats 4000000 in
theorem c_X16_realiseLike {G : GG} {d bc bs : Nat} {h : Hp} {Q : Pst} {n s : Nat} {x : Nat → QIS} {r : Nat → Nat} (hX : QOK n x) (hs : s < n) (hM : MSQ h n (setR x r)) (hV : QV n x r) (hP : PO2 h) (hd : 3 * s + 13 ≤ d) (hbc : PC n x (rzR x s r) + rzE x s r ≤ bc + PC n x r + 1) (hbs : PS n x (rzR x s r) + 4 * rzE x s r ≤ bs + PS n x r + 4) (hq : ∀ h', MSQ h' n (setR x (rzR x s r)) → PO2 h' → FRQ h h' → Q (oRet (vi (rzA x s r))) h') (IH : RZ G x n (sN (x s))) (hR : q_w (x s) ≠ nI 114) (ht : q_w (x s) ≠ nI 116)  : WP G m_X16_realiseLike d 0 (aargs 0 [vr (some (nm 1 0)), vr (some (nm 2 s)), vr (some (nm 2 (sN (x s)))), vi (nI (r s))]) [] h bc bs Q := by
  have hW := hX.1
  have hn12 := hX.2.1
  have hcap := hX.2.2 s hs
  have hl := (hV s hs).1
  obtain ⟨hks, hway, hnum, hle, hF, hlo, hhi⟩ := qs_L hW hs hR ht
  have hk : sN (x s) < n := by omega
  have h24 := (hW s hs).1
  have h24k := (hW _ hk).1
  have hlk := (hV _ hk).1
  have hinv : r s ≤ r (sN (x s)) := ((hV s hs).2.elim (fun z => absurd z hR) id).2 ht
  obtain ⟨T, eT⟩ : ∃ T, T = rs0 x (sN (x s) + 1) (sN (x s)) (r s + 1) r := ⟨_, rfl⟩
  have hTs : T s = r s := by rw [eT]; exact rs0_hi hW _ _ _ _ _ hk hks
  have hcT : capR x T s = capR x r s := by unfold capR; rw [hTs]
  have hTk0 : T (sN (x s)) = max (r (sN (x s))) (r s + 1) := by rw [eT]; exact rs0_at hW hk
  have hst : r s < 24 → PC n x (va_up T s (r s + 1)) = PC n x T + 4 + gcC (r s) (capR x r s) ∧ PS n x (va_up T s (r s + 1)) = PS n x T + 16 + gcS (r s) (capR x r s) := fun h9 => by
    have := PC_st (r := T) hs hcap (by rw [hTs]; exact h9)
    rw [hTs, hcT] at this
    exact this
  have kA : r s < (q_F (x s)).length → rzR x s r = va_up T s (r s + 1) ∧ rzA x s r = nI 1 ∧ rzE x s r = 0 := fun h1 => by rw [eT]; exact ⟨rz_L1 hW hs hR ht h1, (rz_1 h1).2.1, (rz_1 h1).2.2⟩
  have kB : r s = (q_F (x s)).length → r s < (q_F (x (sN (x s)))).length → rzR x s r = T ∧ rzA x s r = -1 ∧ rzE x s r = s + 2 := fun h1 h2 => by rw [eT]; exact ⟨(rz_L0 hW hs hR ht h1 (by omega)).1, (rz_L0 hW hs hR ht h1 (by omega)).2, (rz_0 (by omega)).2.2⟩
  have kC : r s = (q_F (x (sN (x s)))).length → rzR x s r = enR x (sN (x s)) r ∧ rzA x s r = enA x (sN (x s)) ∧ rzE x s r = s + 2 := fun h2 => ⟨(rz_L2 hW hs hR ht (by omega) (by omega)).1, (rz_L2 hW hs hR ht (by omega) (by omega)).2, (rz_0 (by omega)).2.2⟩
  refine wp_sub [(0, vr (some (nm 1 0))), (1, vr (some (nm 2 s))), (2, vr (some (nm 2 (sN (x s))))), (3, vi (nI (r s)))] (fun _ hz => hz) ?_
  refine wp_aload_n (i := 2) dX16_realiseLike_0 rfl rfl ?_
  refine wp_get 15 5 (vr (some (nm 3 (sN (x s))))) dX16_realiseLike_1 (hM.2.2.1 (sN (x s)) hk).1.k0 (by decide) (by decide) fl_X16_182 (congrArg (fun z => toV (vr z)) ((hM.2.2.1 (sN (x s)) hk).1.r6_5)) ?_
  have hL7 : LRc _ (nm 3 (sN (x s))) 26 (sN (x s)) ((q_F (x (sN (x s)))).take (r (sN (x s)))) (capR x r (sN (x s))) := (hM.2.2.1 (sN (x s)) hk).2
  refine wp_cV (y' := m_Jx4a65c_size_8abf5) 2 [] [] 0 0 dX16_realiseLike_4 ml_X16_168 im_Jx4a65c_size_8abf5 se_Jx4a65c_size_8abf5 (by decide) (hM.2.2.1 (sN (x s)) hk).2.k ok_Jx4a65c_size_8abf5 rfl (Nat.le_of_ble_eq_true rfl) rfl (Nat.le_of_ble_eq_true rfl) (d' := d - 1) (by omega) (Nat.zero_le _) (Nat.zero_le _) (c_LP_size hL7.w (cont_ret ?_))
  rw [tk_len hlk]
  refine wp_iload_n (i := 3) dX16_realiseLike_7 rfl rfl ?_
  refine wp_icmp_gtN 27 dX16_realiseLike_8 (by decide) (by omega) (by omega) (fun c_8 => ?_) (fun c_8 => ?_)
  · skip
    refine wp_sub [(0, vr (some (nm 1 0))), (1, vr (some (nm 2 s))), (2, vr (some (nm 2 (sN (x s))))), (3, vi (nI (r s)))] (sb_cons (.head _) (sb_cons (.tail _ (.head _)) (sb_cons (.tail _ (.tail _ (.head _))) (sb_cons (.tail _ (.tail _ (.tail _ (.head _)))) sb_nil)))) ?_
    have hTr : T = r := by rw [eT]; exact rs0_no hW _ _ _ _ hk hV (by omega)
    rw [← hTr] at hM
    rw [← hTs]
    rcases hway with hw | hw | hw
    · refine l_X16_like27_97 hX hs hR ht hw hM hP (by omega) (by rw [hTs]; exact hl) (by rw [hTk0]; omega) (by rw [hTs, hTk0]; omega) (fun h9 => by rw [hTs] at h9; rw [hTs, hcT]; have e9 := hst (by omega); have k9 := kA h9; rw [k9.1, k9.2.2] at hbc hbs; rw [hTr] at e9; rw [hTr] at hbc hbs; constructor <;> omega) (fun h9 H9 m1 m2 m3 => ?_) (fun h9 => ?_)
      · rw [hTs] at m1 h9
        rw [(kA h9).1, (kA h9).2.1] at hq
        exact hq _ m1 m2 (FRQ.tr FRQ.rf m3)
      · rw [hTs] at h9
        have h8 : r s = (q_F (x s)).length := by omega
        rw [(kB h8 (by omega)).1, (kB h8 (by omega)).2.1] at hq
        exact hq _ hM hP FRQ.rf
    · refine l_X16_like27_100 hX hs hR ht hw hM hP (by omega) (by rw [hTs]; exact hl) (by rw [hTk0]; omega) (by rw [hTs, hTk0]; omega) (fun h9 => by rw [hTs] at h9; rw [hTs, hcT]; have e9 := hst (by omega); have k9 := kA h9; rw [k9.1, k9.2.2] at hbc hbs; rw [hTr] at e9; rw [hTr] at hbc hbs; constructor <;> omega) (fun h9 H9 m1 m2 m3 => ?_) (fun h9 => ?_)
      · rw [hTs] at m1 h9
        rw [(kA h9).1, (kA h9).2.1] at hq
        exact hq _ m1 m2 (FRQ.tr FRQ.rf m3)
      · rw [hTs] at h9
        have h8 : r s = (q_F (x s)).length := by omega
        rw [(kB h8 (by omega)).1, (kB h8 (by omega)).2.1] at hq
        exact hq _ hM hP FRQ.rf
    · refine l_X16_like27_107 hX hs hR ht hw hM hP (by omega) (by rw [hTs]; exact hl) (by rw [hTk0]; omega) (by rw [hTs, hTk0]; omega) (fun h9 => by rw [hTs] at h9; rw [hTs, hcT]; have e9 := hst (by omega); have k9 := kA h9; rw [k9.1, k9.2.2] at hbc hbs; rw [hTr] at e9; rw [hTr] at hbc hbs; constructor <;> omega) (fun h9 H9 m1 m2 m3 => ?_) (fun h9 => ?_)
      · rw [hTs] at m1 h9
        rw [(kA h9).1, (kA h9).2.1] at hq
        exact hq _ m1 m2 (FRQ.tr FRQ.rf m3)
      · rw [hTs] at h9
        have h8 : r s = (q_F (x s)).length := by omega
        rw [(kB h8 (by omega)).1, (kB h8 (by omega)).2.1] at hq
        exact hq _ hM hP FRQ.rf
  · skip
    have hrk : r (sN (x s)) = r s := by omega
    by_cases hkl : r (sN (x s)) < (q_F (x (sN (x s)))).length
    · have hzT : rzR x (sN (x s)) r = T := by rw [(rz_1 hkl).1, hrk, eT]
      have hzE := (rz_1 hkl).2.2
      have hzP : PC n x (rzR x (sN (x s)) r) = PC n x T ∧ PS n x (rzR x (sN (x s)) r) = PS n x T := by rw [hzT]; exact ⟨rfl, rfl⟩
      have hge := rz_pc hX hk hkl
      have hbb : PC n x T ≤ bc + PC n x r + 1 ∧ PS n x T ≤ bs + PS n x r + 4 := by
        by_cases h9 : r s < (q_F (x s)).length
        · have e9 := hst (by omega)
          have k9 := kA h9
          rw [k9.1, k9.2.2] at hbc hbs
          constructor <;> omega
        · have k9 := kB (by omega) (by omega)
          rw [k9.1, k9.2.2] at hbc hbs
          constructor <;> omega
      refine wp_aload_n (i := 0) dX16_realiseLike_11 rfl rfl ?_
      refine wp_aload_n (i := 2) dX16_realiseLike_12 rfl rfl ?_
      refine wp_cV (y' := m_X16_realise) 17 [vr (some (nm 2 (sN (x s))))] [] ((PC n x (rzR x (sN (x s)) r) + rzE x (sN (x s)) r - PC n x r - 1)) ((PS n x (rzR x (sN (x s)) r) + 4 * rzE x (sN (x s)) r - PS n x r - 4)) dX16_realiseLike_13 ml_X16_214 im_X16_realise se_X16_realise (by decide) hM.1.1 ok_X16_realise rfl (Nat.le_of_ble_eq_true rfl) rfl (Nat.le_of_ble_eq_true rfl) (d' := d - 1) (by omega) (by omega) (by omega) (IH (d - 1) (PC n x (rzR x (sN (x s)) r) + rzE x (sN (x s)) r - PC n x r - 1) (PS n x (rzR x (sN (x s)) r) + 4 * rzE x (sN (x s)) r - PS n x r - 4) _ h r hM hV hP (by omega) (by omega) (by omega) (fun H2 hM2 hP2 hG2 => cont_ret ?_))
      rw [(rz_1 hkl).2.1]
      refine wp_istore (i := 4) (lv' := [(4, vi (nI 1)), (0, vr (some (nm 1 0))), (1, vr (some (nm 2 s))), (2, vr (some (nm 2 (sN (x s))))), (3, vi (nI (r s)))]) dX16_realiseLike_16 (by decide) rfl ?_
      refine wp_iload (i := 4) dX16_realiseLike_18 rfl ?_
      refine wp_iconst (nI 1) dX16_realiseLike_20 (by decide) ?_
      refine wp_icmp_eqN 27 dX16_realiseLike_21 (by decide) (by decide) (by decide) (fun c_21 => ?_) (fun c_21 => absurd c_21 (by decide))
      rw [hzT] at hM2
      refine wp_sub [(0, vr (some (nm 1 0))), (1, vr (some (nm 2 s))), (2, vr (some (nm 2 (sN (x s))))), (3, vi (nI (r s)))] (sb_cons (.tail _ (.head _)) (sb_cons (.tail _ (.tail _ (.head _))) (sb_cons (.tail _ (.tail _ (.tail _ (.head _)))) (sb_cons (.tail _ (.tail _ (.tail _ (.tail _ (.head _))))) sb_nil)))) ?_
      rw [← hTs]
      rcases hway with hw | hw | hw
      · refine l_X16_like27_97 hX hs hR ht hw hM2 hP2 (by omega) (by rw [hTs]; exact hl) (by rw [hTk0]; omega) (by rw [hTs, hTk0]; omega) (fun h9 => by rw [hTs] at h9; rw [hTs, hcT]; have e9 := hst (by omega); have k9 := kA h9; rw [k9.1, k9.2.2] at hbc hbs; constructor <;> omega) (fun h9 H9 m1 m2 m3 => ?_) (fun h9 => ?_)
        · rw [hTs] at m1 h9
          rw [(kA h9).1, (kA h9).2.1] at hq
          exact hq _ m1 m2 (FRQ.tr hG2 m3)
        · rw [hTs] at h9
          have h8 : r s = (q_F (x s)).length := by omega
          rw [(kB h8 (by omega)).1, (kB h8 (by omega)).2.1] at hq
          exact hq _ hM2 hP2 hG2
      · refine l_X16_like27_100 hX hs hR ht hw hM2 hP2 (by omega) (by rw [hTs]; exact hl) (by rw [hTk0]; omega) (by rw [hTs, hTk0]; omega) (fun h9 => by rw [hTs] at h9; rw [hTs, hcT]; have e9 := hst (by omega); have k9 := kA h9; rw [k9.1, k9.2.2] at hbc hbs; constructor <;> omega) (fun h9 H9 m1 m2 m3 => ?_) (fun h9 => ?_)
        · rw [hTs] at m1 h9
          rw [(kA h9).1, (kA h9).2.1] at hq
          exact hq _ m1 m2 (FRQ.tr hG2 m3)
        · rw [hTs] at h9
          have h8 : r s = (q_F (x s)).length := by omega
          rw [(kB h8 (by omega)).1, (kB h8 (by omega)).2.1] at hq
          exact hq _ hM2 hP2 hG2
      · refine l_X16_like27_107 hX hs hR ht hw hM2 hP2 (by omega) (by rw [hTs]; exact hl) (by rw [hTk0]; omega) (by rw [hTs, hTk0]; omega) (fun h9 => by rw [hTs] at h9; rw [hTs, hcT]; have e9 := hst (by omega); have k9 := kA h9; rw [k9.1, k9.2.2] at hbc hbs; constructor <;> omega) (fun h9 H9 m1 m2 m3 => ?_) (fun h9 => ?_)
        · rw [hTs] at m1 h9
          rw [(kA h9).1, (kA h9).2.1] at hq
          exact hq _ m1 m2 (FRQ.tr hG2 m3)
        · rw [hTs] at h9
          have h8 : r s = (q_F (x s)).length := by omega
          rw [(kB h8 (by omega)).1, (kB h8 (by omega)).2.1] at hq
          exact hq _ hM2 hP2 hG2
    · have k9 := kC (by omega)
      have hzR : rzR x (sN (x s)) r = enR x (sN (x s)) r := (rz_0 hkl).1
      have hzE := (rz_0 hkl).2.2
      have hzP : PC n x (rzR x (sN (x s)) r) = PC n x (enR x (sN (x s)) r) ∧ PS n x (rzR x (sN (x s)) r) = PS n x (enR x (sN (x s)) r) := by rw [hzR]; exact ⟨rfl, rfl⟩
      rw [k9.1, k9.2.2] at hbc hbs
      refine wp_aload_n (i := 0) dX16_realiseLike_11 rfl rfl ?_
      refine wp_aload_n (i := 2) dX16_realiseLike_12 rfl rfl ?_
      refine wp_cV (y' := m_X16_realise) 17 [vr (some (nm 2 (sN (x s))))] [] ((PC n x (rzR x (sN (x s)) r) + rzE x (sN (x s)) r - PC n x r - 1)) ((PS n x (rzR x (sN (x s)) r) + 4 * rzE x (sN (x s)) r - PS n x r - 4)) dX16_realiseLike_13 ml_X16_214 im_X16_realise se_X16_realise (by decide) hM.1.1 ok_X16_realise rfl (Nat.le_of_ble_eq_true rfl) rfl (Nat.le_of_ble_eq_true rfl) (d' := d - 1) (by omega) (by omega) (by omega) (IH (d - 1) (PC n x (rzR x (sN (x s)) r) + rzE x (sN (x s)) r - PC n x r - 1) (PS n x (rzR x (sN (x s)) r) + 4 * rzE x (sN (x s)) r - PS n x r - 4) _ h r hM hV hP (by omega) (by omega) (by omega) (fun H2 hM2 hP2 hG2 => cont_ret ?_))
      rw [(rz_0 hkl).2.1]
      refine wp_topi (fun x_16 e_16 => ?_)
      refine wp_istore (i := 4) (lv' := [(4, vi x_16), (0, vr (some (nm 1 0))), (1, vr (some (nm 2 s))), (2, vr (some (nm 2 (sN (x s))))), (3, vi (nI (r s)))]) dX16_realiseLike_16 (by decide) rfl ?_
      refine wp_iload (i := 4) dX16_realiseLike_18 rfl ?_
      refine wp_iconst (nI 1) dX16_realiseLike_20 (by decide) ?_
      refine wp_icmp_eq 27 dX16_realiseLike_21 (by decide) (fun c_21 => absurd c_21 (by rw [e_16]; exact enA_n)) (fun c_21 => ?_)
      refine wp_iload (i := 4) dX16_realiseLike_24 rfl ?_
      refine wp_ireturn dX16_realiseLike_26 rfl ?_
      rw [e_16]
      rw [k9.1, k9.2.1, ← hzR] at hq
      exact hq _ hM2 hP2 hG2
set_option maxRecDepth 100000 in
set_option maxHeartbeats 4000000 in
theorem c_X16_realiseN {G : GG} {d bc bs : Nat} {h : Hp} {Q : Pst} {n s : Nat} {x : Nat → QIS} {r : Nat → Nat} (hX : QOK n x) (hs : s < n) (hM : MSQ h n (setR x r)) (hV : QV n x r) (hP : PO2 h) (hd : 3 * s + 14 ≤ d) (hbc : PC n x (rzR x s r) + rzE x s r ≤ bc + PC n x r + 1) (hbs : PS n x (rzR x s r) + 4 * rzE x s r ≤ bs + PS n x r + 4) (hq : ∀ h', MSQ h' n (setR x (rzR x s r)) → PO2 h' → FRQ h h' → Q (oRet (vi (rzA x s r))) h') (IH : RZ G x n (sN (x s))) (hR : q_w (x s) ≠ nI 114)  : WP G m_X16_realise d 0 (aargs 0 [vr (some (nm 1 0)), vr (some (nm 2 s))]) [] h bc bs Q := by
  have hW := hX.1
  have hn12 := hX.2.1
  have hl := (hV s hs).1
  have h24 := (hW s hs).1
  have hks := qs_lt hW hs hR
  have hsrc := (qs_src hW hs hR).2.1
  have hk : sN (x s) < n := by omega
  refine wp_sub [(0, vr (some (nm 1 0))), (1, vr (some (nm 2 s)))] (fun _ hz => hz) ?_
  refine wp_aload_n (i := 1) dX16_realise_0 rfl rfl ?_
  refine wp_get 15 5 (vr (some (nm 3 s))) dX16_realise_1 (hM.2.2.1 s hs).1.k0 (by decide) (by decide) fl_X16_182 (congrArg (fun z => toV (vr z)) ((hM.2.2.1 s hs).1.r6_5)) ?_
  have hL8 : LRc _ (nm 3 s) 26 s ((q_F (x s)).take (r s)) (capR x r s) := (hM.2.2.1 s hs).2
  refine wp_cV (y' := m_Jx4a65c_size_8abf5) 2 [] [] 0 0 dX16_realise_4 ml_X16_168 im_Jx4a65c_size_8abf5 se_Jx4a65c_size_8abf5 (by decide) (hM.2.2.1 s hs).2.k ok_Jx4a65c_size_8abf5 rfl (Nat.le_of_ble_eq_true rfl) rfl (Nat.le_of_ble_eq_true rfl) (d' := d - 1) (by omega) (Nat.zero_le _) (Nat.zero_le _) (c_LP_size hL8.w (cont_ret ?_))
  rw [tk_len hl]
  refine wp_istore_n (i := 2) (lv' := [(2, vi (nI (r s))), (0, vr (some (nm 1 0))), (1, vr (some (nm 2 s)))]) dX16_realise_7 rfl (by decide) rfl ?_
  refine wp_aload_n (i := 1) dX16_realise_8 rfl rfl ?_
  refine wp_get 15 0 (vi (OF_way (q_o (x s)))) dX16_realise_9 (hM.2.2.1 s hs).1.k0 (by decide) (by decide) fl_X16_185 (congrArg (fun z => toV (vi z)) ((hM.2.2.1 s hs).1.f_way)) ?_
  refine wp_bipush (nI 114) dX16_realise_12 (by decide) ?_
  refine wp_icmp_ne 101 dX16_realise_14 (by decide) (fun c_14 => ?_) (fun c_14 => absurd c_14 (fun z => hR z))
  refine wp_aload_n (i := 0) dX16_realise_101 rfl rfl ?_
  refine wp_get 17 11 (vr (some (nm 1 11))) dX16_realise_102 hM.1.1 (by decide) (by decide) fl_X16_40 (congrArg (fun z => toV (vr z)) (hM.1.r 11 (by decide) (by decide) (by decide) (by decide))) ?_
  refine wp_aload_n (i := 1) dX16_realise_105 rfl rfl ?_
  refine wp_get 15 1 (vi (nI (sN (x s)))) dX16_realise_106 (hM.2.2.1 s hs).1.k0 (by decide) (by decide) fl_X16_198 (congrArg (fun z => toV (vi z)) (((hM.2.2.1 s hs).1.f_src).trans (hsrc))) ?_
  refine wp_cV (y' := m_Jx4a65c_get_915e3) 2 [vi (nI (sN (x s)))] [] 0 0 dX16_realise_109 ml_X16_201 im_Jx4a65c_get_915e3 se_Jx4a65c_get_915e3 (by decide) hM.2.1.k ok_Jx4a65c_get_915e3 rfl (Nat.le_of_ble_eq_true rfl) rfl (Nat.le_of_ble_eq_true rfl) (d' := d - 1) (by omega) (Nat.zero_le _) (Nat.zero_le _) (c_LO_get hM.2.1 (by omega) (by omega) (cont_ret ?_))
  refine wp_castC 15 dX16_realise_112 (by decide) kl_X16_170 (fun a ha => by cases ha; exact (hM.2.2.1 (sN (x s)) hk).1.k0) ?_
  refine wp_astore_n (i := 3) (lv' := [(3, vr (some (nm 2 (sN (x s))))), (2, vi (nI (r s))), (0, vr (some (nm 1 0))), (1, vr (some (nm 2 s)))]) dX16_realise_115 rfl (by decide) rfl ?_
  refine wp_aload_n (i := 1) dX16_realise_116 rfl rfl ?_
  refine wp_get 15 0 (vi (OF_way (q_o (x s)))) dX16_realise_117 (hM.2.2.1 s hs).1.k0 (by decide) (by decide) fl_X16_185 (congrArg (fun z => toV (vi z)) ((hM.2.2.1 s hs).1.f_way)) ?_
  refine wp_bipush (nI 116) dX16_realise_120 (by decide) ?_
  refine wp_icmp_ne 135 dX16_realise_122 (by decide) (fun c_122 => ?_) (fun c_122 => ?_)
  · skip
    refine wp_aload_n (i := 0) dX16_realise_135 rfl rfl ?_
    refine wp_aload_n (i := 1) dX16_realise_136 rfl rfl ?_
    refine wp_aload_n (i := 3) dX16_realise_137 rfl rfl ?_
    refine wp_iload_n (i := 2) dX16_realise_138 rfl rfl ?_
    refine wp_cV (y' := m_X16_realiseLike) 17 [vr (some (nm 2 s)), vr (some (nm 2 (sN (x s)))), vi (nI (r s))] [] bc bs dX16_realise_139 ml_X16_208 im_X16_realiseLike se_X16_realiseLike (by decide) hM.1.1 ok_X16_realiseLike rfl (Nat.le_of_ble_eq_true rfl) rfl (Nat.le_of_ble_eq_true rfl) (d' := d - 1) (by omega) (by omega) (by omega) (c_X16_realiseLike hX hs hM hV hP (by omega) hbc hbs (fun h1 m1 m2 m3 => cont_ret ?_) IH hR c_122)
    refine wp_ireturn dX16_realise_142 rfl ?_
    exact hq _ m1 m2 m3
  · skip
    refine wp_aload_n (i := 0) dX16_realise_125 rfl rfl ?_
    refine wp_aload_n (i := 1) dX16_realise_126 rfl rfl ?_
    refine wp_aload_n (i := 3) dX16_realise_127 rfl rfl ?_
    refine wp_iload_n (i := 2) dX16_realise_128 rfl rfl ?_
    refine wp_cV (y' := m_X16_realiseOne) 17 [vr (some (nm 2 s)), vr (some (nm 2 (sN (x s)))), vi (nI (r s))] [] bc bs dX16_realise_129 ml_X16_204 im_X16_realiseOne se_X16_realiseOne (by decide) hM.1.1 ok_X16_realiseOne rfl (Nat.le_of_ble_eq_true rfl) rfl (Nat.le_of_ble_eq_true rfl) (d' := d - 1) (by omega) (by omega) (by omega) (c_X16_realiseOne hX hs hM hV hP (by omega) hbc hbs (fun h1 m1 m2 m3 => cont_ret ?_) IH c_122)
    refine wp_goto 142 dX16_realise_132 (by decide) ?_
    refine wp_ireturn dX16_realise_142 rfl ?_
    exact hq _ m1 m2 m3
theorem rz_all {G : GG} {n : Nat} {x : Nat → QIS} (hX : QOK n x) : ∀ s, s < n → RZ G x n s := by
  intro s
  induction s using Nat.strongRecOn with
  | _ s ih =>
    intro hs d bc bs Q h r hM hV hP hd hbc hbs hq
    by_cases hR : q_w (x s) = nI 114
    · by_cases hlt : r s < (q_F (x s)).length
      · exact c_X16_realiseR1 hX hs hM hV hP hd hbc hbs hq hR hlt
      · exact c_X16_realiseR0 hX hs hM hV hP hd hbc hbs hq hR (by have := (hV s hs).1; omega)
    · have hks := qs_lt hX.1 hs hR
      exact c_X16_realiseN hX hs hM hV hP hd hbc hbs hq (ih _ hks (by omega)) hR
