/-! The cases of plain and asked. -/
set_option maxRecDepth 100000 in
set_option maxHeartbeats 4000000 in
theorem p_vector {G : GG} {d bc bs : Nat} {h : Hp} {Q : Pst} {o : Nat} {a b c : Int32} (hk : h_k h o = 13) (hd : 2 ≤ d) (K : WP G m_X11_vector (d - 1) 0 (aargs 0 [vr (some o)]) [] h bc bs (dQ Q)) : WP G m_L_plain d 0 (aargs 0 [vr (some o), vi (nI 0), vi a, vi b, vi c]) [] h bc bs (dQ Q) := by
  refine wp_sub [(0, vr (some o)), (1, vi (nI 0)), (2, vi a), (3, vi b), (4, vi c)] (fun _ hz => hz) ?_
  refine wp_iload_n (i := 1) dL_plain_0 rfl rfl ?_
  refine wp_tableIn (off := 123) 124 dL_plain_1 (by decide) (by decide) (by decide +kernel) (by decide) ?_
  refine wp_aload_n (i := 0) dL_plain_124 rfl rfl ?_
  refine wp_cV (y' := m_X11_vector) 12 [] [] bc bs dL_plain_125 ml_L_15 im_X11_vector se_X11_vector (by decide) hk ok_X11_vector rfl (Nat.le_of_ble_eq_true rfl) rfl (Nat.le_of_ble_eq_true rfl) (d' := d - 1) (by omega) (Nat.le_refl _) (Nat.le_refl _) (wp_mono (fun o' h' hq => ?_) K)
  match o', hq with
  | .inl (some (.inl (.inl x))), hq => exact cont_ret (wp_ireturn dL_plain_128 rfl hq)
  | .inl none, hq => exact hq.elim
  | .inl (some (.inl (.inr x))), hq => exact hq.elim
  | .inl (some (.inr x)), hq => exact hq.elim
  | .inr E, hq => exact cont_thr rfl hq
set_option maxRecDepth 100000 in
set_option maxHeartbeats 4000000 in
theorem p_append {G : GG} {d bc bs : Nat} {h : Hp} {Q : Pst} {o : Nat} {a b c : Int32} (hk : h_k h o = 13) (hd : 2 ≤ d) (K : WP G m_X11_append (d - 1) 0 (aargs 0 [vr (some o), vi a, vi b]) [] h bc bs (dQ Q)) : WP G m_L_plain d 0 (aargs 0 [vr (some o), vi (nI 1), vi a, vi b, vi c]) [] h bc bs (dQ Q) := by
  refine wp_sub [(0, vr (some o)), (1, vi (nI 1)), (2, vi a), (3, vi b), (4, vi c)] (fun _ hz => hz) ?_
  refine wp_iload_n (i := 1) dL_plain_0 rfl rfl ?_
  refine wp_tableIn (off := 128) 129 dL_plain_1 (by decide) (by decide) (by decide +kernel) (by decide) ?_
  refine wp_aload_n (i := 0) dL_plain_129 rfl rfl ?_
  refine wp_iload_n (i := 2) dL_plain_130 rfl rfl ?_
  refine wp_iload_n (i := 3) dL_plain_131 rfl rfl ?_
  refine wp_cV (y' := m_X11_append) 12 [vi a, vi b] [] bc bs dL_plain_132 ml_L_21 im_X11_append se_X11_append (by decide) hk ok_X11_append rfl (Nat.le_of_ble_eq_true rfl) rfl (Nat.le_of_ble_eq_true rfl) (d' := d - 1) (by omega) (Nat.le_refl _) (Nat.le_refl _) (wp_mono (fun o' h' hq => ?_) K)
  match o', hq with
  | .inl (some (.inl (.inl x))), hq => exact cont_ret (wp_ireturn dL_plain_135 rfl hq)
  | .inl none, hq => exact hq.elim
  | .inl (some (.inl (.inr x))), hq => exact hq.elim
  | .inl (some (.inr x)), hq => exact hq.elim
  | .inr E, hq => exact cont_thr rfl hq
set_option maxRecDepth 100000 in
set_option maxHeartbeats 4000000 in
theorem p_set {G : GG} {d bc bs : Nat} {h : Hp} {Q : Pst} {o : Nat} {a b c : Int32} (hk : h_k h o = 13) (hd : 2 ≤ d) (K : WP G m_X11_set (d - 1) 0 (aargs 0 [vr (some o), vi a, vi b, vi c]) [] h bc bs (dQ Q)) : WP G m_L_plain d 0 (aargs 0 [vr (some o), vi (nI 2), vi a, vi b, vi c]) [] h bc bs (dQ Q) := by
  refine wp_sub [(0, vr (some o)), (1, vi (nI 2)), (2, vi a), (3, vi b), (4, vi c)] (fun _ hz => hz) ?_
  refine wp_iload_n (i := 1) dL_plain_0 rfl rfl ?_
  refine wp_tableIn (off := 135) 136 dL_plain_1 (by decide) (by decide) (by decide +kernel) (by decide) ?_
  refine wp_aload_n (i := 0) dL_plain_136 rfl rfl ?_
  refine wp_iload_n (i := 2) dL_plain_137 rfl rfl ?_
  refine wp_iload_n (i := 3) dL_plain_138 rfl rfl ?_
  refine wp_iload (i := 4) dL_plain_139 rfl ?_
  refine wp_cV (y' := m_X11_set) 12 [vi a, vi b, vi c] [] bc bs dL_plain_141 ml_L_25 im_X11_set se_X11_set (by decide) hk ok_X11_set rfl (Nat.le_of_ble_eq_true rfl) rfl (Nat.le_of_ble_eq_true rfl) (d' := d - 1) (by omega) (Nat.le_refl _) (Nat.le_refl _) (wp_mono (fun o' h' hq => ?_) K)
  match o', hq with
  | .inl (some (.inl (.inl x))), hq => exact cont_ret (wp_ireturn dL_plain_144 rfl hq)
  | .inl none, hq => exact hq.elim
  | .inl (some (.inl (.inr x))), hq => exact hq.elim
  | .inl (some (.inr x)), hq => exact hq.elim
  | .inr E, hq => exact cont_thr rfl hq
set_option maxRecDepth 100000 in
set_option maxHeartbeats 4000000 in
theorem p_cut {G : GG} {d bc bs : Nat} {h : Hp} {Q : Pst} {o : Nat} {a b c : Int32} (hk : h_k h o = 13) (hd : 2 ≤ d) (K : WP G m_X11_cut (d - 1) 0 (aargs 0 [vr (some o), vi a]) [] h bc bs (dQ Q)) : WP G m_L_plain d 0 (aargs 0 [vr (some o), vi (nI 3), vi a, vi b, vi c]) [] h bc bs (dQ Q) := by
  refine wp_sub [(0, vr (some o)), (1, vi (nI 3)), (2, vi a), (3, vi b), (4, vi c)] (fun _ hz => hz) ?_
  refine wp_iload_n (i := 1) dL_plain_0 rfl rfl ?_
  refine wp_tableIn (off := 144) 145 dL_plain_1 (by decide) (by decide) (by decide +kernel) (by decide) ?_
  refine wp_aload_n (i := 0) dL_plain_145 rfl rfl ?_
  refine wp_iload_n (i := 2) dL_plain_146 rfl rfl ?_
  refine wp_cV (y' := m_X11_cut) 12 [vi a] [] bc bs dL_plain_147 ml_L_29 im_X11_cut se_X11_cut (by decide) hk ok_X11_cut rfl (Nat.le_of_ble_eq_true rfl) rfl (Nat.le_of_ble_eq_true rfl) (d' := d - 1) (by omega) (Nat.le_refl _) (Nat.le_refl _) (wp_mono (fun o' h' hq => ?_) K)
  match o', hq with
  | .inl (some (.inl (.inl x))), hq => exact cont_ret (wp_ireturn dL_plain_150 rfl hq)
  | .inl none, hq => exact hq.elim
  | .inl (some (.inl (.inr x))), hq => exact hq.elim
  | .inl (some (.inr x)), hq => exact hq.elim
  | .inr E, hq => exact cont_thr rfl hq
set_option maxRecDepth 100000 in
set_option maxHeartbeats 4000000 in
theorem p_open {G : GG} {d bc bs : Nat} {h : Hp} {Q : Pst} {o : Nat} {a b c : Int32} (hk : h_k h o = 13) (hd : 2 ≤ d) (K : WP G m_X11_open (d - 1) 0 (aargs 0 [vr (some o), vi a]) [] h bc bs (dQ Q)) : WP G m_L_plain d 0 (aargs 0 [vr (some o), vi (nI 4), vi a, vi b, vi c]) [] h bc bs (dQ Q) := by
  refine wp_sub [(0, vr (some o)), (1, vi (nI 4)), (2, vi a), (3, vi b), (4, vi c)] (fun _ hz => hz) ?_
  refine wp_iload_n (i := 1) dL_plain_0 rfl rfl ?_
  refine wp_tableIn (off := 150) 151 dL_plain_1 (by decide) (by decide) (by decide +kernel) (by decide) ?_
  refine wp_aload_n (i := 0) dL_plain_151 rfl rfl ?_
  refine wp_iload_n (i := 2) dL_plain_152 rfl rfl ?_
  refine wp_cV (y' := m_X11_open) 12 [vi a] [] bc bs dL_plain_153 ml_L_33 im_X11_open se_X11_open (by decide) hk ok_X11_open rfl (Nat.le_of_ble_eq_true rfl) rfl (Nat.le_of_ble_eq_true rfl) (d' := d - 1) (by omega) (Nat.le_refl _) (Nat.le_refl _) (wp_mono (fun o' h' hq => ?_) K)
  match o', hq with
  | .inl (some (.inl (.inl x))), hq => exact cont_ret (wp_ireturn dL_plain_156 rfl hq)
  | .inl none, hq => exact hq.elim
  | .inl (some (.inl (.inr x))), hq => exact hq.elim
  | .inl (some (.inr x)), hq => exact hq.elim
  | .inr E, hq => exact cont_thr rfl hq
set_option maxRecDepth 100000 in
set_option maxHeartbeats 4000000 in
theorem p_appendTo {G : GG} {d bc bs : Nat} {h : Hp} {Q : Pst} {o : Nat} {a b c : Int32} (hk : h_k h o = 13) (hd : 2 ≤ d) (K : WP G m_X11_appendTo (d - 1) 0 (aargs 0 [vr (some o), vi a, vi b]) [] h bc bs (dQ Q)) : WP G m_L_plain d 0 (aargs 0 [vr (some o), vi (nI 5), vi a, vi b, vi c]) [] h bc bs (dQ Q) := by
  refine wp_sub [(0, vr (some o)), (1, vi (nI 5)), (2, vi a), (3, vi b), (4, vi c)] (fun _ hz => hz) ?_
  refine wp_iload_n (i := 1) dL_plain_0 rfl rfl ?_
  refine wp_tableIn (off := 156) 157 dL_plain_1 (by decide) (by decide) (by decide +kernel) (by decide) ?_
  refine wp_aload_n (i := 0) dL_plain_157 rfl rfl ?_
  refine wp_iload_n (i := 2) dL_plain_158 rfl rfl ?_
  refine wp_iload_n (i := 3) dL_plain_159 rfl rfl ?_
  refine wp_cV (y' := m_X11_appendTo) 12 [vi a, vi b] [] bc bs dL_plain_160 ml_L_36 im_X11_appendTo se_X11_appendTo (by decide) hk ok_X11_appendTo rfl (Nat.le_of_ble_eq_true rfl) rfl (Nat.le_of_ble_eq_true rfl) (d' := d - 1) (by omega) (Nat.le_refl _) (Nat.le_refl _) (wp_mono (fun o' h' hq => ?_) K)
  match o', hq with
  | .inl (some (.inl (.inl x))), hq => exact cont_ret (wp_ireturn dL_plain_163 rfl hq)
  | .inl none, hq => exact hq.elim
  | .inl (some (.inl (.inr x))), hq => exact hq.elim
  | .inl (some (.inr x)), hq => exact hq.elim
  | .inr E, hq => exact cont_thr rfl hq
set_option maxRecDepth 100000 in
set_option maxHeartbeats 4000000 in
theorem p_setIn {G : GG} {d bc bs : Nat} {h : Hp} {Q : Pst} {o : Nat} {a b c : Int32} (hk : h_k h o = 13) (hd : 2 ≤ d) (K : WP G m_X11_setIn (d - 1) 0 (aargs 0 [vr (some o), vi a, vi b, vi c]) [] h bc bs (dQ Q)) : WP G m_L_plain d 0 (aargs 0 [vr (some o), vi (nI 6), vi a, vi b, vi c]) [] h bc bs (dQ Q) := by
  refine wp_sub [(0, vr (some o)), (1, vi (nI 6)), (2, vi a), (3, vi b), (4, vi c)] (fun _ hz => hz) ?_
  refine wp_iload_n (i := 1) dL_plain_0 rfl rfl ?_
  refine wp_tableIn (off := 163) 164 dL_plain_1 (by decide) (by decide) (by decide +kernel) (by decide) ?_
  refine wp_aload_n (i := 0) dL_plain_164 rfl rfl ?_
  refine wp_iload_n (i := 2) dL_plain_165 rfl rfl ?_
  refine wp_iload_n (i := 3) dL_plain_166 rfl rfl ?_
  refine wp_iload (i := 4) dL_plain_167 rfl ?_
  refine wp_cV (y' := m_X11_setIn) 12 [vi a, vi b, vi c] [] bc bs dL_plain_169 ml_L_39 im_X11_setIn se_X11_setIn (by decide) hk ok_X11_setIn rfl (Nat.le_of_ble_eq_true rfl) rfl (Nat.le_of_ble_eq_true rfl) (d' := d - 1) (by omega) (Nat.le_refl _) (Nat.le_refl _) (wp_mono (fun o' h' hq => ?_) K)
  match o', hq with
  | .inl (some (.inl (.inl x))), hq => exact cont_ret (wp_ireturn dL_plain_172 rfl hq)
  | .inl none, hq => exact hq.elim
  | .inl (some (.inl (.inr x))), hq => exact hq.elim
  | .inl (some (.inr x)), hq => exact hq.elim
  | .inr E, hq => exact cont_thr rfl hq
set_option maxRecDepth 100000 in
set_option maxHeartbeats 4000000 in
theorem p_makeLasting {G : GG} {d bc bs : Nat} {h : Hp} {Q : Pst} {o : Nat} {a b c : Int32} (hk : h_k h o = 13) (hd : 2 ≤ d) (K : WP G m_X11_makeLasting (d - 1) 0 (aargs 0 [vr (some o), vi a]) [] h bc bs (dQ Q)) : WP G m_L_plain d 0 (aargs 0 [vr (some o), vi (nI 7), vi a, vi b, vi c]) [] h bc bs (dQ Q) := by
  refine wp_sub [(0, vr (some o)), (1, vi (nI 7)), (2, vi a), (3, vi b), (4, vi c)] (fun _ hz => hz) ?_
  refine wp_iload_n (i := 1) dL_plain_0 rfl rfl ?_
  refine wp_tableIn (off := 172) 173 dL_plain_1 (by decide) (by decide) (by decide +kernel) (by decide) ?_
  refine wp_aload_n (i := 0) dL_plain_173 rfl rfl ?_
  refine wp_iload_n (i := 2) dL_plain_174 rfl rfl ?_
  refine wp_cV (y' := m_X11_makeLasting) 12 [vi a] [] bc bs dL_plain_175 ml_L_42 im_X11_makeLasting se_X11_makeLasting (by decide) hk ok_X11_makeLasting rfl (Nat.le_of_ble_eq_true rfl) rfl (Nat.le_of_ble_eq_true rfl) (d' := d - 1) (by omega) (Nat.le_refl _) (Nat.le_refl _) (wp_mono (fun o' h' hq => ?_) K)
  match o', hq with
  | .inl (some (.inl (.inl x))), hq => exact cont_ret (wp_ireturn dL_plain_178 rfl hq)
  | .inl none, hq => exact hq.elim
  | .inl (some (.inl (.inr x))), hq => exact hq.elim
  | .inl (some (.inr x)), hq => exact hq.elim
  | .inr E, hq => exact cont_thr rfl hq
set_option maxRecDepth 100000 in
set_option maxHeartbeats 4000000 in
theorem p_map {G : GG} {d bc bs : Nat} {h : Hp} {Q : Pst} {o : Nat} {a b c : Int32} (hk : h_k h o = 13) (hd : 2 ≤ d) (K : WP G m_X11_map (d - 1) 0 (aargs 0 [vr (some o)]) [] h bc bs (dQ Q)) : WP G m_L_plain d 0 (aargs 0 [vr (some o), vi (nI 8), vi a, vi b, vi c]) [] h bc bs (dQ Q) := by
  refine wp_sub [(0, vr (some o)), (1, vi (nI 8)), (2, vi a), (3, vi b), (4, vi c)] (fun _ hz => hz) ?_
  refine wp_iload_n (i := 1) dL_plain_0 rfl rfl ?_
  refine wp_tableIn (off := 178) 179 dL_plain_1 (by decide) (by decide) (by decide +kernel) (by decide) ?_
  refine wp_aload_n (i := 0) dL_plain_179 rfl rfl ?_
  refine wp_cV (y' := m_X11_map) 12 [] [] bc bs dL_plain_180 ml_L_45 im_X11_map se_X11_map (by decide) hk ok_X11_map rfl (Nat.le_of_ble_eq_true rfl) rfl (Nat.le_of_ble_eq_true rfl) (d' := d - 1) (by omega) (Nat.le_refl _) (Nat.le_refl _) (wp_mono (fun o' h' hq => ?_) K)
  match o', hq with
  | .inl (some (.inl (.inl x))), hq => exact cont_ret (wp_ireturn dL_plain_183 rfl hq)
  | .inl none, hq => exact hq.elim
  | .inl (some (.inl (.inr x))), hq => exact hq.elim
  | .inl (some (.inr x)), hq => exact hq.elim
  | .inr E, hq => exact cont_thr rfl hq
set_option maxRecDepth 100000 in
set_option maxHeartbeats 4000000 in
theorem p_put {G : GG} {d bc bs : Nat} {h : Hp} {Q : Pst} {o : Nat} {a b c : Int32} (hk : h_k h o = 13) (hd : 2 ≤ d) (K : WP G m_X11_put (d - 1) 0 (aargs 0 [vr (some o), vi a, vi b, vi c]) [] h bc bs (dQ Q)) : WP G m_L_plain d 0 (aargs 0 [vr (some o), vi (nI 9), vi a, vi b, vi c]) [] h bc bs (dQ Q) := by
  refine wp_sub [(0, vr (some o)), (1, vi (nI 9)), (2, vi a), (3, vi b), (4, vi c)] (fun _ hz => hz) ?_
  refine wp_iload_n (i := 1) dL_plain_0 rfl rfl ?_
  refine wp_tableIn (off := 183) 184 dL_plain_1 (by decide) (by decide) (by decide +kernel) (by decide) ?_
  refine wp_aload_n (i := 0) dL_plain_184 rfl rfl ?_
  refine wp_iload_n (i := 2) dL_plain_185 rfl rfl ?_
  refine wp_iload_n (i := 3) dL_plain_186 rfl rfl ?_
  refine wp_iload (i := 4) dL_plain_187 rfl ?_
  refine wp_cV (y' := m_X11_put) 12 [vi a, vi b, vi c] [] bc bs dL_plain_189 ml_L_48 im_X11_put se_X11_put (by decide) hk ok_X11_put rfl (Nat.le_of_ble_eq_true rfl) rfl (Nat.le_of_ble_eq_true rfl) (d' := d - 1) (by omega) (Nat.le_refl _) (Nat.le_refl _) (wp_mono (fun o' h' hq => ?_) K)
  match o', hq with
  | .inl (some (.inl (.inl x))), hq => exact cont_ret (wp_ireturn dL_plain_192 rfl hq)
  | .inl none, hq => exact hq.elim
  | .inl (some (.inl (.inr x))), hq => exact hq.elim
  | .inl (some (.inr x)), hq => exact hq.elim
  | .inr E, hq => exact cont_thr rfl hq
set_option maxRecDepth 100000 in
set_option maxHeartbeats 4000000 in
theorem p_without {G : GG} {d bc bs : Nat} {h : Hp} {Q : Pst} {o : Nat} {a b c : Int32} (hk : h_k h o = 13) (hd : 2 ≤ d) (K : WP G m_X11_without (d - 1) 0 (aargs 0 [vr (some o), vi a, vi b]) [] h bc bs (dQ Q)) : WP G m_L_plain d 0 (aargs 0 [vr (some o), vi (nI 10), vi a, vi b, vi c]) [] h bc bs (dQ Q) := by
  refine wp_sub [(0, vr (some o)), (1, vi (nI 10)), (2, vi a), (3, vi b), (4, vi c)] (fun _ hz => hz) ?_
  refine wp_iload_n (i := 1) dL_plain_0 rfl rfl ?_
  refine wp_tableIn (off := 192) 193 dL_plain_1 (by decide) (by decide) (by decide +kernel) (by decide) ?_
  refine wp_aload_n (i := 0) dL_plain_193 rfl rfl ?_
  refine wp_iload_n (i := 2) dL_plain_194 rfl rfl ?_
  refine wp_iload_n (i := 3) dL_plain_195 rfl rfl ?_
  refine wp_cV (y' := m_X11_without) 12 [vi a, vi b] [] bc bs dL_plain_196 ml_L_51 im_X11_without se_X11_without (by decide) hk ok_X11_without rfl (Nat.le_of_ble_eq_true rfl) rfl (Nat.le_of_ble_eq_true rfl) (d' := d - 1) (by omega) (Nat.le_refl _) (Nat.le_refl _) (wp_mono (fun o' h' hq => ?_) K)
  match o', hq with
  | .inl (some (.inl (.inl x))), hq => exact cont_ret (wp_ireturn dL_plain_199 rfl hq)
  | .inl none, hq => exact hq.elim
  | .inl (some (.inl (.inr x))), hq => exact hq.elim
  | .inl (some (.inr x)), hq => exact hq.elim
  | .inr E, hq => exact cont_thr rfl hq
set_option maxRecDepth 100000 in
set_option maxHeartbeats 4000000 in
theorem p_range {G : GG} {d bc bs : Nat} {h : Hp} {Q : Pst} {o : Nat} {a b c : Int32} (hk : h_k h o = 13) (hd : 2 ≤ d) (K : WP G m_X11_range (d - 1) 0 (aargs 0 [vr (some o), vi a, vi b, vi c]) [] h bc bs (dQ Q)) : WP G m_L_plain d 0 (aargs 0 [vr (some o), vi (nI 11), vi a, vi b, vi c]) [] h bc bs (dQ Q) := by
  refine wp_sub [(0, vr (some o)), (1, vi (nI 11)), (2, vi a), (3, vi b), (4, vi c)] (fun _ hz => hz) ?_
  refine wp_iload_n (i := 1) dL_plain_0 rfl rfl ?_
  refine wp_tableIn (off := 199) 200 dL_plain_1 (by decide) (by decide) (by decide +kernel) (by decide) ?_
  refine wp_aload_n (i := 0) dL_plain_200 rfl rfl ?_
  refine wp_iload_n (i := 2) dL_plain_201 rfl rfl ?_
  refine wp_iload_n (i := 3) dL_plain_202 rfl rfl ?_
  refine wp_iload (i := 4) dL_plain_203 rfl ?_
  refine wp_cV (y' := m_X11_range) 12 [vi a, vi b, vi c] [] bc bs dL_plain_205 ml_L_54 im_X11_range se_X11_range (by decide) hk ok_X11_range rfl (Nat.le_of_ble_eq_true rfl) rfl (Nat.le_of_ble_eq_true rfl) (d' := d - 1) (by omega) (Nat.le_refl _) (Nat.le_refl _) (wp_mono (fun o' h' hq => ?_) K)
  match o', hq with
  | .inl (some (.inl (.inl x))), hq => exact cont_ret (wp_ireturn dL_plain_208 rfl hq)
  | .inl none, hq => exact hq.elim
  | .inl (some (.inl (.inr x))), hq => exact hq.elim
  | .inl (some (.inr x)), hq => exact hq.elim
  | .inr E, hq => exact cont_thr rfl hq
set_option maxRecDepth 100000 in
set_option maxHeartbeats 4000000 in
theorem p_over {G : GG} {d bc bs : Nat} {h : Hp} {Q : Pst} {o : Nat} {a b c : Int32} (hk : h_k h o = 13) (hd : 2 ≤ d) (K : WP G m_X11_over (d - 1) 0 (aargs 0 [vr (some o), vi a, vi (b.toUInt32 % 65536).toInt32, vi c]) [] h bc bs (dQ Q)) : WP G m_L_plain d 0 (aargs 0 [vr (some o), vi (nI 12), vi a, vi b, vi c]) [] h bc bs (dQ Q) := by
  refine wp_sub [(0, vr (some o)), (1, vi (nI 12)), (2, vi a), (3, vi b), (4, vi c)] (fun _ hz => hz) ?_
  refine wp_iload_n (i := 1) dL_plain_0 rfl rfl ?_
  refine wp_tableIn (off := 208) 209 dL_plain_1 (by decide) (by decide) (by decide +kernel) (by decide) ?_
  refine wp_aload_n (i := 0) dL_plain_209 rfl rfl ?_
  refine wp_iload_n (i := 2) dL_plain_210 rfl rfl ?_
  refine wp_iload_n (i := 3) dL_plain_211 rfl rfl ?_
  refine wp_i2c dL_plain_212 ?_
  refine wp_iload (i := 4) dL_plain_213 rfl ?_
  refine wp_cV (y' := m_X11_over) 12 [vi a, vi (b.toUInt32 % 65536).toInt32, vi c] [] bc bs dL_plain_215 ml_L_57 im_X11_over se_X11_over (by decide) hk ok_X11_over rfl (Nat.le_of_ble_eq_true rfl) rfl (Nat.le_of_ble_eq_true rfl) (d' := d - 1) (by omega) (Nat.le_refl _) (Nat.le_refl _) (wp_mono (fun o' h' hq => ?_) K)
  match o', hq with
  | .inl (some (.inl (.inl x))), hq => exact cont_ret (wp_ireturn dL_plain_218 rfl hq)
  | .inl none, hq => exact hq.elim
  | .inl (some (.inl (.inr x))), hq => exact hq.elim
  | .inl (some (.inr x)), hq => exact hq.elim
  | .inr E, hq => exact cont_thr rfl hq
set_option maxRecDepth 100000 in
set_option maxHeartbeats 4000000 in
theorem p_at {G : GG} {d bc bs : Nat} {h : Hp} {Q : Pst} {o : Nat} {a b c : Int32} (hk : h_k h o = 13) (hd : 2 ≤ d) (K : WP G m_X11_at (d - 1) 0 (aargs 0 [vr (some o), vi a, vi b]) [] h bc bs (dQ Q)) : WP G m_L_plain d 0 (aargs 0 [vr (some o), vi (nI 13), vi a, vi b, vi c]) [] h bc bs (dQ Q) := by
  refine wp_sub [(0, vr (some o)), (1, vi (nI 13)), (2, vi a), (3, vi b), (4, vi c)] (fun _ hz => hz) ?_
  refine wp_iload_n (i := 1) dL_plain_0 rfl rfl ?_
  refine wp_tableIn (off := 218) 219 dL_plain_1 (by decide) (by decide) (by decide +kernel) (by decide) ?_
  refine wp_aload_n (i := 0) dL_plain_219 rfl rfl ?_
  refine wp_iload_n (i := 2) dL_plain_220 rfl rfl ?_
  refine wp_iload_n (i := 3) dL_plain_221 rfl rfl ?_
  refine wp_cV (y' := m_X11_at) 12 [vi a, vi b] [] bc bs dL_plain_222 ml_L_61 im_X11_at se_X11_at (by decide) hk ok_X11_at rfl (Nat.le_of_ble_eq_true rfl) rfl (Nat.le_of_ble_eq_true rfl) (d' := d - 1) (by omega) (Nat.le_refl _) (Nat.le_refl _) (wp_mono (fun o' h' hq => ?_) K)
  match o', hq with
  | .inl (some (.inl (.inl x))), hq => exact cont_ret (wp_ireturn dL_plain_225 rfl hq)
  | .inl none, hq => exact hq.elim
  | .inl (some (.inl (.inr x))), hq => exact hq.elim
  | .inl (some (.inr x)), hq => exact hq.elim
  | .inr E, hq => exact cont_thr rfl hq
set_option maxRecDepth 100000 in
set_option maxHeartbeats 4000000 in
theorem p_all {G : GG} {d bc bs : Nat} {h : Hp} {Q : Pst} {o : Nat} {a b c : Int32} (hk : h_k h o = 13) (hd : 2 ≤ d) (K : WP G m_X11_all (d - 1) 0 (aargs 0 [vr (some o), vi a]) [] h bc bs (dQ Q)) : WP G m_L_plain d 0 (aargs 0 [vr (some o), vi (nI 14), vi a, vi b, vi c]) [] h bc bs (dQ Q) := by
  refine wp_sub [(0, vr (some o)), (1, vi (nI 14)), (2, vi a), (3, vi b), (4, vi c)] (fun _ hz => hz) ?_
  refine wp_iload_n (i := 1) dL_plain_0 rfl rfl ?_
  refine wp_tableIn (off := 225) 226 dL_plain_1 (by decide) (by decide) (by decide +kernel) (by decide) ?_
  refine wp_aload_n (i := 0) dL_plain_226 rfl rfl ?_
  refine wp_iload_n (i := 2) dL_plain_227 rfl rfl ?_
  refine wp_cV (y' := m_X11_all) 12 [vi a] [] bc bs dL_plain_228 ml_L_64 im_X11_all se_X11_all (by decide) hk ok_X11_all rfl (Nat.le_of_ble_eq_true rfl) rfl (Nat.le_of_ble_eq_true rfl) (d' := d - 1) (by omega) (Nat.le_refl _) (Nat.le_refl _) (wp_mono (fun o' h' hq => ?_) K)
  match o', hq with
  | .inl (some (.inl (.inl x))), hq => exact cont_ret (wp_ireturn dL_plain_231 rfl hq)
  | .inl none, hq => exact hq.elim
  | .inl (some (.inl (.inr x))), hq => exact hq.elim
  | .inl (some (.inr x)), hq => exact hq.elim
  | .inr E, hq => exact cont_thr rfl hq
set_option maxRecDepth 100000 in
set_option maxHeartbeats 4000000 in
theorem p_addReference {G : GG} {d bc bs : Nat} {h : Hp} {Q : Pst} {o : Nat} {a b c : Int32} (hk : h_k h o = 13) (hd : 2 ≤ d) (K : WP G m_X11_addReference (d - 1) 0 (aargs 0 [vr (some o), vi a, vi b, vi c]) [] h bc bs (dQ Q)) : WP G m_L_plain d 0 (aargs 0 [vr (some o), vi (nI 16), vi a, vi b, vi c]) [] h bc bs (dQ Q) := by
  refine wp_sub [(0, vr (some o)), (1, vi (nI 16)), (2, vi a), (3, vi b), (4, vi c)] (fun _ hz => hz) ?_
  refine wp_iload_n (i := 1) dL_plain_0 rfl rfl ?_
  refine wp_tableIn (off := 237) 238 dL_plain_1 (by decide) (by decide) (by decide +kernel) (by decide) ?_
  refine wp_aload_n (i := 0) dL_plain_238 rfl rfl ?_
  refine wp_iload_n (i := 2) dL_plain_239 rfl rfl ?_
  refine wp_iload_n (i := 3) dL_plain_240 rfl rfl ?_
  refine wp_iload (i := 4) dL_plain_241 rfl ?_
  refine wp_cV (y' := m_X11_addReference) 12 [vi a, vi b, vi c] [] bc bs dL_plain_243 ml_L_70 im_X11_addReference se_X11_addReference (by decide) hk ok_X11_addReference rfl (Nat.le_of_ble_eq_true rfl) rfl (Nat.le_of_ble_eq_true rfl) (d' := d - 1) (by omega) (Nat.le_refl _) (Nat.le_refl _) (wp_mono (fun o' h' hq => ?_) K)
  match o', hq with
  | .inl (some (.inl (.inl x))), hq => exact cont_ret (wp_ireturn dL_plain_246 rfl hq)
  | .inl none, hq => exact hq.elim
  | .inl (some (.inl (.inr x))), hq => exact hq.elim
  | .inl (some (.inr x)), hq => exact hq.elim
  | .inr E, hq => exact cont_thr rfl hq
set_option maxRecDepth 100000 in
set_option maxHeartbeats 4000000 in
theorem p_begin {G : GG} {d bc bs : Nat} {h : Hp} {Q : Pst} {o : Nat} {a b c : Int32} (hk : h_k h o = 13) (hd : 2 ≤ d) (K : WP G m_X11_begin (d - 1) 0 (aargs 0 [vr (some o), vi a]) [] h bc bs (dQ Q)) : WP G m_L_plain d 0 (aargs 0 [vr (some o), vi (nI 17), vi a, vi b, vi c]) [] h bc bs (dQ Q) := by
  refine wp_sub [(0, vr (some o)), (1, vi (nI 17)), (2, vi a), (3, vi b), (4, vi c)] (fun _ hz => hz) ?_
  refine wp_iload_n (i := 1) dL_plain_0 rfl rfl ?_
  refine wp_tableIn (off := 246) 247 dL_plain_1 (by decide) (by decide) (by decide +kernel) (by decide) ?_
  refine wp_aload_n (i := 0) dL_plain_247 rfl rfl ?_
  refine wp_iload_n (i := 2) dL_plain_248 rfl rfl ?_
  refine wp_cV (y' := m_X11_begin) 12 [vi a] [] bc bs dL_plain_249 ml_L_73 im_X11_begin se_X11_begin (by decide) hk ok_X11_begin rfl (Nat.le_of_ble_eq_true rfl) rfl (Nat.le_of_ble_eq_true rfl) (d' := d - 1) (by omega) (Nat.le_refl _) (Nat.le_refl _) (wp_mono (fun o' h' hq => ?_) K)
  match o', hq with
  | .inl (some (.inl (.inl x))), hq => exact cont_ret (wp_ireturn dL_plain_252 rfl hq)
  | .inl none, hq => exact hq.elim
  | .inl (some (.inl (.inr x))), hq => exact hq.elim
  | .inl (some (.inr x)), hq => exact hq.elim
  | .inr E, hq => exact cont_thr rfl hq
set_option maxRecDepth 100000 in
set_option maxHeartbeats 4000000 in
theorem p_read {G : GG} {d bc bs : Nat} {h : Hp} {Q : Pst} {o : Nat} {a b c : Int32} (hk : h_k h o = 13) (hd : 2 ≤ d) (K : WP G m_X11_read (d - 1) 0 (aargs 0 [vr (some o), vi a, vi b]) [] h bc bs (dQ Q)) : WP G m_L_plain d 0 (aargs 0 [vr (some o), vi (nI 18), vi a, vi b, vi c]) [] h bc bs (dQ Q) := by
  refine wp_sub [(0, vr (some o)), (1, vi (nI 18)), (2, vi a), (3, vi b), (4, vi c)] (fun _ hz => hz) ?_
  refine wp_iload_n (i := 1) dL_plain_0 rfl rfl ?_
  refine wp_tableIn (off := 252) 253 dL_plain_1 (by decide) (by decide) (by decide +kernel) (by decide) ?_
  refine wp_aload_n (i := 0) dL_plain_253 rfl rfl ?_
  refine wp_iload_n (i := 2) dL_plain_254 rfl rfl ?_
  refine wp_iload_n (i := 3) dL_plain_255 rfl rfl ?_
  refine wp_cV (y' := m_X11_read) 12 [vi a, vi b] [] bc bs dL_plain_256 ml_L_76 im_X11_read se_X11_read (by decide) hk ok_X11_read rfl (Nat.le_of_ble_eq_true rfl) rfl (Nat.le_of_ble_eq_true rfl) (d' := d - 1) (by omega) (Nat.le_refl _) (Nat.le_refl _) (wp_mono (fun o' h' hq => ?_) K)
  match o', hq with
  | .inl (some (.inl (.inl x))), hq => exact cont_ret (wp_ireturn dL_plain_259 rfl hq)
  | .inl none, hq => exact hq.elim
  | .inl (some (.inl (.inr x))), hq => exact hq.elim
  | .inl (some (.inr x)), hq => exact hq.elim
  | .inr E, hq => exact cont_thr rfl hq
set_option maxRecDepth 100000 in
set_option maxHeartbeats 4000000 in
theorem p_write {G : GG} {d bc bs : Nat} {h : Hp} {Q : Pst} {o : Nat} {a b c : Int32} (hk : h_k h o = 13) (hd : 2 ≤ d) (K : WP G m_X11_write (d - 1) 0 (aargs 0 [vr (some o), vi a, vi b, vi c]) [] h bc bs (bQ (dQ Q))) : WP G m_L_plain d 0 (aargs 0 [vr (some o), vi (nI 19), vi a, vi b, vi c]) [] h bc bs (dQ Q) := by
  refine wp_sub [(0, vr (some o)), (1, vi (nI 19)), (2, vi a), (3, vi b), (4, vi c)] (fun _ hz => hz) ?_
  refine wp_iload_n (i := 1) dL_plain_0 rfl rfl ?_
  refine wp_tableIn (off := 259) 260 dL_plain_1 (by decide) (by decide) (by decide +kernel) (by decide) ?_
  refine wp_aload_n (i := 0) dL_plain_260 rfl rfl ?_
  refine wp_iload_n (i := 2) dL_plain_261 rfl rfl ?_
  refine wp_iload_n (i := 3) dL_plain_262 rfl rfl ?_
  refine wp_iload (i := 4) dL_plain_263 rfl ?_
  refine wp_cV (y' := m_X11_write) 12 [vi a, vi b, vi c] [] bc bs dL_plain_265 ml_L_79 im_X11_write se_X11_write (by decide) hk ok_X11_write rfl (Nat.le_of_ble_eq_true rfl) rfl (Nat.le_of_ble_eq_true rfl) (d' := d - 1) (by omega) (Nat.le_refl _) (Nat.le_refl _) (wp_mono (fun o' h' hq => ?_) K)
  match o', hq with
  | .inl (some (.inl (.inl x))), hq =>
    obtain ⟨b, rfl, hq⟩ := hq
    refine cont_ret ?_
    refine wp_cS (y' := m_L_told) [vi (bI b)] [] 0 0 dL_plain_268 ml_L_83 st_L_told ok_L_told rfl (Nat.le_of_ble_eq_true rfl) rfl (Nat.le_of_ble_eq_true rfl) (d' := d - 1) (by omega) (Nat.zero_le _) (Nat.zero_le _) (c_L_told (cont_ret ?_))
    exact wp_ireturn dL_plain_271 rfl hq
  | .inl none, hq => exact hq.elim
  | .inl (some (.inl (.inr x))), hq => exact hq.elim
  | .inl (some (.inr x)), hq => exact hq.elim
  | .inr E, hq => exact cont_thr rfl hq
set_option maxRecDepth 100000 in
set_option maxHeartbeats 4000000 in
theorem p_ensure {G : GG} {d bc bs : Nat} {h : Hp} {Q : Pst} {o : Nat} {a b c : Int32} (hk : h_k h o = 13) (hd : 2 ≤ d) (K : WP G m_X11_ensure (d - 1) 0 (aargs 0 [vr (some o), vi a, vi b]) [] h bc bs (bQ (dQ Q))) : WP G m_L_plain d 0 (aargs 0 [vr (some o), vi (nI 20), vi a, vi b, vi c]) [] h bc bs (dQ Q) := by
  refine wp_sub [(0, vr (some o)), (1, vi (nI 20)), (2, vi a), (3, vi b), (4, vi c)] (fun _ hz => hz) ?_
  refine wp_iload_n (i := 1) dL_plain_0 rfl rfl ?_
  refine wp_tableIn (off := 271) 272 dL_plain_1 (by decide) (by decide) (by decide +kernel) (by decide) ?_
  refine wp_aload_n (i := 0) dL_plain_272 rfl rfl ?_
  refine wp_iload_n (i := 2) dL_plain_273 rfl rfl ?_
  refine wp_iload_n (i := 3) dL_plain_274 rfl rfl ?_
  refine wp_cV (y' := m_X11_ensure) 12 [vi a, vi b] [] bc bs dL_plain_275 ml_L_87 im_X11_ensure se_X11_ensure (by decide) hk ok_X11_ensure rfl (Nat.le_of_ble_eq_true rfl) rfl (Nat.le_of_ble_eq_true rfl) (d' := d - 1) (by omega) (Nat.le_refl _) (Nat.le_refl _) (wp_mono (fun o' h' hq => ?_) K)
  match o', hq with
  | .inl (some (.inl (.inl x))), hq =>
    obtain ⟨b, rfl, hq⟩ := hq
    refine cont_ret ?_
    refine wp_cS (y' := m_L_told) [vi (bI b)] [] 0 0 dL_plain_278 ml_L_83 st_L_told ok_L_told rfl (Nat.le_of_ble_eq_true rfl) rfl (Nat.le_of_ble_eq_true rfl) (d' := d - 1) (by omega) (Nat.zero_le _) (Nat.zero_le _) (c_L_told (cont_ret ?_))
    exact wp_ireturn dL_plain_281 rfl hq
  | .inl none, hq => exact hq.elim
  | .inl (some (.inl (.inr x))), hq => exact hq.elim
  | .inl (some (.inr x)), hq => exact hq.elim
  | .inr E, hq => exact cont_thr rfl hq
set_option maxRecDepth 100000 in
set_option maxHeartbeats 4000000 in
theorem p_add {G : GG} {d bc bs : Nat} {h : Hp} {Q : Pst} {o : Nat} {a b c : Int32} (hk : h_k h o = 13) (hd : 2 ≤ d) (K : WP G m_X11_add (d - 1) 0 (aargs 0 [vr (some o), vi a, vi b, vi c]) [] h bc bs (bQ (dQ Q))) : WP G m_L_plain d 0 (aargs 0 [vr (some o), vi (nI 21), vi a, vi b, vi c]) [] h bc bs (dQ Q) := by
  refine wp_sub [(0, vr (some o)), (1, vi (nI 21)), (2, vi a), (3, vi b), (4, vi c)] (fun _ hz => hz) ?_
  refine wp_iload_n (i := 1) dL_plain_0 rfl rfl ?_
  refine wp_tableIn (off := 281) 282 dL_plain_1 (by decide) (by decide) (by decide +kernel) (by decide) ?_
  refine wp_aload_n (i := 0) dL_plain_282 rfl rfl ?_
  refine wp_iload_n (i := 2) dL_plain_283 rfl rfl ?_
  refine wp_iload_n (i := 3) dL_plain_284 rfl rfl ?_
  refine wp_iload (i := 4) dL_plain_285 rfl ?_
  refine wp_cV (y' := m_X11_add) 12 [vi a, vi b, vi c] [] bc bs dL_plain_287 ml_L_91 im_X11_add se_X11_add (by decide) hk ok_X11_add rfl (Nat.le_of_ble_eq_true rfl) rfl (Nat.le_of_ble_eq_true rfl) (d' := d - 1) (by omega) (Nat.le_refl _) (Nat.le_refl _) (wp_mono (fun o' h' hq => ?_) K)
  match o', hq with
  | .inl (some (.inl (.inl x))), hq =>
    obtain ⟨b, rfl, hq⟩ := hq
    refine cont_ret ?_
    refine wp_cS (y' := m_L_told) [vi (bI b)] [] 0 0 dL_plain_290 ml_L_83 st_L_told ok_L_told rfl (Nat.le_of_ble_eq_true rfl) rfl (Nat.le_of_ble_eq_true rfl) (d' := d - 1) (by omega) (Nat.zero_le _) (Nat.zero_le _) (c_L_told (cont_ret ?_))
    exact wp_ireturn dL_plain_293 rfl hq
  | .inl none, hq => exact hq.elim
  | .inl (some (.inl (.inr x))), hq => exact hq.elim
  | .inl (some (.inr x)), hq => exact hq.elim
  | .inr E, hq => exact cont_thr rfl hq
set_option maxRecDepth 100000 in
set_option maxHeartbeats 4000000 in
theorem p_commit {G : GG} {d bc bs : Nat} {h : Hp} {Q : Pst} {o : Nat} {a b c : Int32} (hk : h_k h o = 13) (hd : 2 ≤ d) (K : WP G m_X11_commit (d - 1) 0 (aargs 0 [vr (some o), vi a]) [] h bc bs (dQ Q)) : WP G m_L_plain d 0 (aargs 0 [vr (some o), vi (nI 22), vi a, vi b, vi c]) [] h bc bs (dQ Q) := by
  refine wp_sub [(0, vr (some o)), (1, vi (nI 22)), (2, vi a), (3, vi b), (4, vi c)] (fun _ hz => hz) ?_
  refine wp_iload_n (i := 1) dL_plain_0 rfl rfl ?_
  refine wp_tableIn (off := 293) 294 dL_plain_1 (by decide) (by decide) (by decide +kernel) (by decide) ?_
  refine wp_aload_n (i := 0) dL_plain_294 rfl rfl ?_
  refine wp_iload_n (i := 2) dL_plain_295 rfl rfl ?_
  refine wp_cV (y' := m_X11_commit) 12 [vi a] [] bc bs dL_plain_296 ml_L_94 im_X11_commit se_X11_commit (by decide) hk ok_X11_commit rfl (Nat.le_of_ble_eq_true rfl) rfl (Nat.le_of_ble_eq_true rfl) (d' := d - 1) (by omega) (Nat.le_refl _) (Nat.le_refl _) (wp_mono (fun o' h' hq => ?_) K)
  match o', hq with
  | .inl (some (.inl (.inl x))), hq => exact cont_ret (wp_ireturn dL_plain_299 rfl hq)
  | .inl none, hq => exact hq.elim
  | .inl (some (.inl (.inr x))), hq => exact hq.elim
  | .inl (some (.inr x)), hq => exact hq.elim
  | .inr E, hq => exact cont_thr rfl hq
set_option maxRecDepth 100000 in
set_option maxHeartbeats 4000000 in
theorem p_end {G : GG} {d bc bs : Nat} {h : Hp} {Q : Pst} {o : Nat} {a b c : Int32} (hk : h_k h o = 13) (hd : 2 ≤ d) (K : WP G m_X11_end (d - 1) 0 (aargs 0 [vr (some o), vi a]) [] h bc bs (dQ Q)) : WP G m_L_plain d 0 (aargs 0 [vr (some o), vi (nI 23), vi a, vi b, vi c]) [] h bc bs (dQ Q) := by
  refine wp_sub [(0, vr (some o)), (1, vi (nI 23)), (2, vi a), (3, vi b), (4, vi c)] (fun _ hz => hz) ?_
  refine wp_iload_n (i := 1) dL_plain_0 rfl rfl ?_
  refine wp_tableIn (off := 299) 300 dL_plain_1 (by decide) (by decide) (by decide +kernel) (by decide) ?_
  refine wp_aload_n (i := 0) dL_plain_300 rfl rfl ?_
  refine wp_iload_n (i := 2) dL_plain_301 rfl rfl ?_
  refine wp_cV (y' := m_X11_end) 12 [vi a] [] bc bs dL_plain_302 ml_L_98 im_X11_end se_X11_end (by decide) hk ok_X11_end rfl (Nat.le_of_ble_eq_true rfl) rfl (Nat.le_of_ble_eq_true rfl) (d' := d - 1) (by omega) (Nat.le_refl _) (Nat.le_refl _) (wp_mono (fun o' h' hq => ?_) K)
  match o', hq with
  | .inl (some (.inl (.inl x))), hq => exact cont_ret (wp_ireturn dL_plain_305 rfl hq)
  | .inl none, hq => exact hq.elim
  | .inl (some (.inl (.inr x))), hq => exact hq.elim
  | .inl (some (.inr x)), hq => exact hq.elim
  | .inr E, hq => exact cont_thr rfl hq
set_option maxRecDepth 100000 in
set_option maxHeartbeats 4000000 in
theorem a_depth {G : GG} {d bc bs : Nat} {h : Hp} {Q : Pst} {o : Nat} {a b : Int32} (hk : h_k h o = 13) (hd : 2 ≤ d) (K : WP G m_X11_depth (d - 1) 0 (aargs 0 [vr (some o), vi a]) [] h bc bs (aQ Q)) : WP G m_L_asked d 0 (aargs 0 [vr (some o), vi (nI 0), vi a, vi b]) [] h bc bs (aQ Q) := by
  refine wp_sub [(0, vr (some o)), (1, vi (nI 0)), (2, vi a), (3, vi b)] (fun _ hz => hz) ?_
  refine wp_iload_n (i := 1) dL_asked_0 rfl rfl ?_
  refine wp_tableIn (off := 79) 80 dL_asked_1 (by decide) (by decide) (by decide +kernel) (by decide) ?_
  refine wp_aload_n (i := 0) dL_asked_80 rfl rfl ?_
  refine wp_iload_n (i := 2) dL_asked_81 rfl rfl ?_
  refine wp_cV (y' := m_X11_depth) 12 [vi a] [] bc bs dL_asked_82 ml_L_128 im_X11_depth se_X11_depth (by decide) hk ok_X11_depth rfl (Nat.le_of_ble_eq_true rfl) rfl (Nat.le_of_ble_eq_true rfl) (d' := d - 1) (by omega) (Nat.le_refl _) (Nat.le_refl _) (wp_mono (fun o' h' hq => ?_) K)
  match o', hq with
  | .inl (some (.inl (.inl x))), hq => exact cont_ret (wp_ireturn dL_asked_85 rfl hq)
  | .inl none, hq => exact hq.elim
  | .inl (some (.inl (.inr x))), hq => exact hq.elim
  | .inl (some (.inr x)), hq => exact hq.elim
  | .inr E, hq => exact cont_thr rfl hq
set_option maxRecDepth 100000 in
set_option maxHeartbeats 4000000 in
theorem a_get {G : GG} {d bc bs : Nat} {h : Hp} {Q : Pst} {o : Nat} {a b : Int32} (hk : h_k h o = 13) (hd : 2 ≤ d) (K : WP G m_X11_get (d - 1) 0 (aargs 0 [vr (some o), vi a, vi b]) [] h bc bs (aQ Q)) : WP G m_L_asked d 0 (aargs 0 [vr (some o), vi (nI 1), vi a, vi b]) [] h bc bs (aQ Q) := by
  refine wp_sub [(0, vr (some o)), (1, vi (nI 1)), (2, vi a), (3, vi b)] (fun _ hz => hz) ?_
  refine wp_iload_n (i := 1) dL_asked_0 rfl rfl ?_
  refine wp_tableIn (off := 85) 86 dL_asked_1 (by decide) (by decide) (by decide +kernel) (by decide) ?_
  refine wp_aload_n (i := 0) dL_asked_86 rfl rfl ?_
  refine wp_iload_n (i := 2) dL_asked_87 rfl rfl ?_
  refine wp_iload_n (i := 3) dL_asked_88 rfl rfl ?_
  refine wp_cV (y' := m_X11_get) 12 [vi a, vi b] [] bc bs dL_asked_89 ml_L_131 im_X11_get se_X11_get (by decide) hk ok_X11_get rfl (Nat.le_of_ble_eq_true rfl) rfl (Nat.le_of_ble_eq_true rfl) (d' := d - 1) (by omega) (Nat.le_refl _) (Nat.le_refl _) (wp_mono (fun o' h' hq => ?_) K)
  match o', hq with
  | .inl (some (.inl (.inl x))), hq => exact cont_ret (wp_ireturn dL_asked_92 rfl hq)
  | .inl none, hq => exact hq.elim
  | .inl (some (.inl (.inr x))), hq => exact hq.elim
  | .inl (some (.inr x)), hq => exact hq.elim
  | .inr E, hq => exact cont_thr rfl hq
set_option maxRecDepth 100000 in
set_option maxHeartbeats 4000000 in
theorem a_getPlain {G : GG} {d bc bs : Nat} {h : Hp} {Q : Pst} {o : Nat} {a b : Int32} (hk : h_k h o = 13) (hd : 2 ≤ d) (K : WP G m_X11_getPlain (d - 1) 0 (aargs 0 [vr (some o), vi a, vi b]) [] h bc bs (aQ Q)) : WP G m_L_asked d 0 (aargs 0 [vr (some o), vi (nI 2), vi a, vi b]) [] h bc bs (aQ Q) := by
  refine wp_sub [(0, vr (some o)), (1, vi (nI 2)), (2, vi a), (3, vi b)] (fun _ hz => hz) ?_
  refine wp_iload_n (i := 1) dL_asked_0 rfl rfl ?_
  refine wp_tableIn (off := 92) 93 dL_asked_1 (by decide) (by decide) (by decide +kernel) (by decide) ?_
  refine wp_aload_n (i := 0) dL_asked_93 rfl rfl ?_
  refine wp_iload_n (i := 2) dL_asked_94 rfl rfl ?_
  refine wp_iload_n (i := 3) dL_asked_95 rfl rfl ?_
  refine wp_cV (y' := m_X11_getPlain) 12 [vi a, vi b] [] bc bs dL_asked_96 ml_L_134 im_X11_getPlain se_X11_getPlain (by decide) hk ok_X11_getPlain rfl (Nat.le_of_ble_eq_true rfl) rfl (Nat.le_of_ble_eq_true rfl) (d' := d - 1) (by omega) (Nat.le_refl _) (Nat.le_refl _) (wp_mono (fun o' h' hq => ?_) K)
  match o', hq with
  | .inl (some (.inl (.inl x))), hq => exact cont_ret (wp_ireturn dL_asked_99 rfl hq)
  | .inl none, hq => exact hq.elim
  | .inl (some (.inl (.inr x))), hq => exact hq.elim
  | .inl (some (.inr x)), hq => exact hq.elim
  | .inr E, hq => exact cont_thr rfl hq
set_option maxRecDepth 100000 in
set_option maxHeartbeats 4000000 in
theorem a_levelOf {G : GG} {d bc bs : Nat} {h : Hp} {Q : Pst} {o : Nat} {a b : Int32} (hk : h_k h o = 13) (hd : 2 ≤ d) (K : WP G m_X11_levelOf (d - 1) 0 (aargs 0 [vr (some o), vi a, vi b]) [] h bc bs (aQ Q)) : WP G m_L_asked d 0 (aargs 0 [vr (some o), vi (nI 3), vi a, vi b]) [] h bc bs (aQ Q) := by
  refine wp_sub [(0, vr (some o)), (1, vi (nI 3)), (2, vi a), (3, vi b)] (fun _ hz => hz) ?_
  refine wp_iload_n (i := 1) dL_asked_0 rfl rfl ?_
  refine wp_tableIn (off := 99) 100 dL_asked_1 (by decide) (by decide) (by decide +kernel) (by decide) ?_
  refine wp_aload_n (i := 0) dL_asked_100 rfl rfl ?_
  refine wp_iload_n (i := 2) dL_asked_101 rfl rfl ?_
  refine wp_iload_n (i := 3) dL_asked_102 rfl rfl ?_
  refine wp_cV (y' := m_X11_levelOf) 12 [vi a, vi b] [] bc bs dL_asked_103 ml_L_137 im_X11_levelOf se_X11_levelOf (by decide) hk ok_X11_levelOf rfl (Nat.le_of_ble_eq_true rfl) rfl (Nat.le_of_ble_eq_true rfl) (d' := d - 1) (by omega) (Nat.le_refl _) (Nat.le_refl _) (wp_mono (fun o' h' hq => ?_) K)
  match o', hq with
  | .inl (some (.inl (.inl x))), hq => exact cont_ret (wp_ireturn dL_asked_106 rfl hq)
  | .inl none, hq => exact hq.elim
  | .inl (some (.inl (.inr x))), hq => exact hq.elim
  | .inl (some (.inr x)), hq => exact hq.elim
  | .inr E, hq => exact cont_thr rfl hq
set_option maxRecDepth 100000 in
set_option maxHeartbeats 4000000 in
theorem a_size {G : GG} {d bc bs : Nat} {h : Hp} {Q : Pst} {o : Nat} {a b : Int32} (hk : h_k h o = 13) (hd : 2 ≤ d) (K : WP G m_X11_size (d - 1) 0 (aargs 0 [vr (some o), vi a]) [] h bc bs (aQ Q)) : WP G m_L_asked d 0 (aargs 0 [vr (some o), vi (nI 4), vi a, vi b]) [] h bc bs (aQ Q) := by
  refine wp_sub [(0, vr (some o)), (1, vi (nI 4)), (2, vi a), (3, vi b)] (fun _ hz => hz) ?_
  refine wp_iload_n (i := 1) dL_asked_0 rfl rfl ?_
  refine wp_tableIn (off := 106) 107 dL_asked_1 (by decide) (by decide) (by decide +kernel) (by decide) ?_
  refine wp_aload_n (i := 0) dL_asked_107 rfl rfl ?_
  refine wp_iload_n (i := 2) dL_asked_108 rfl rfl ?_
  refine wp_cV (y' := m_X11_size) 12 [vi a] [] bc bs dL_asked_109 ml_L_140 im_X11_size se_X11_size (by decide) hk ok_X11_size rfl (Nat.le_of_ble_eq_true rfl) rfl (Nat.le_of_ble_eq_true rfl) (d' := d - 1) (by omega) (Nat.le_refl _) (Nat.le_refl _) (wp_mono (fun o' h' hq => ?_) K)
  match o', hq with
  | .inl (some (.inl (.inl x))), hq => exact cont_ret (wp_ireturn dL_asked_112 rfl hq)
  | .inl none, hq => exact hq.elim
  | .inl (some (.inl (.inr x))), hq => exact hq.elim
  | .inl (some (.inr x)), hq => exact hq.elim
  | .inr E, hq => exact cont_thr rfl hq
set_option maxRecDepth 100000 in
set_option maxHeartbeats 4000000 in
theorem a_nodes {G : GG} {d bc bs : Nat} {h : Hp} {Q : Pst} {o : Nat} {a b : Int32} (hk : h_k h o = 13) (hd : 2 ≤ d) (K : WP G m_X11_nodes (d - 1) 0 (aargs 0 [vr (some o), vi a]) [] h bc bs (aQ Q)) : WP G m_L_asked d 0 (aargs 0 [vr (some o), vi (nI 5), vi a, vi b]) [] h bc bs (aQ Q) := by
  refine wp_sub [(0, vr (some o)), (1, vi (nI 5)), (2, vi a), (3, vi b)] (fun _ hz => hz) ?_
  refine wp_iload_n (i := 1) dL_asked_0 rfl rfl ?_
  refine wp_tableIn (off := 112) 113 dL_asked_1 (by decide) (by decide) (by decide +kernel) (by decide) ?_
  refine wp_aload_n (i := 0) dL_asked_113 rfl rfl ?_
  refine wp_iload_n (i := 2) dL_asked_114 rfl rfl ?_
  refine wp_cV (y' := m_X11_nodes) 12 [vi a] [] bc bs dL_asked_115 ml_L_143 im_X11_nodes se_X11_nodes (by decide) hk ok_X11_nodes rfl (Nat.le_of_ble_eq_true rfl) rfl (Nat.le_of_ble_eq_true rfl) (d' := d - 1) (by omega) (Nat.le_refl _) (Nat.le_refl _) (wp_mono (fun o' h' hq => ?_) K)
  match o', hq with
  | .inl (some (.inl (.inl x))), hq => exact cont_ret (wp_ireturn dL_asked_118 rfl hq)
  | .inl none, hq => exact hq.elim
  | .inl (some (.inl (.inr x))), hq => exact hq.elim
  | .inl (some (.inr x)), hq => exact hq.elim
  | .inr E, hq => exact cont_thr rfl hq
set_option maxRecDepth 100000 in
set_option maxHeartbeats 4000000 in
theorem a_shared {G : GG} {d bc bs : Nat} {h : Hp} {Q : Pst} {o : Nat} {a b : Int32} (hk : h_k h o = 13) (hd : 2 ≤ d) (K : WP G m_X11_shared (d - 1) 0 (aargs 0 [vr (some o), vi a, vi b]) [] h bc bs (aQ Q)) : WP G m_L_asked d 0 (aargs 0 [vr (some o), vi (nI 6), vi a, vi b]) [] h bc bs (aQ Q) := by
  refine wp_sub [(0, vr (some o)), (1, vi (nI 6)), (2, vi a), (3, vi b)] (fun _ hz => hz) ?_
  refine wp_iload_n (i := 1) dL_asked_0 rfl rfl ?_
  refine wp_tableIn (off := 118) 119 dL_asked_1 (by decide) (by decide) (by decide +kernel) (by decide) ?_
  refine wp_aload_n (i := 0) dL_asked_119 rfl rfl ?_
  refine wp_iload_n (i := 2) dL_asked_120 rfl rfl ?_
  refine wp_iload_n (i := 3) dL_asked_121 rfl rfl ?_
  refine wp_cV (y' := m_X11_shared) 12 [vi a, vi b] [] bc bs dL_asked_122 ml_L_146 im_X11_shared se_X11_shared (by decide) hk ok_X11_shared rfl (Nat.le_of_ble_eq_true rfl) rfl (Nat.le_of_ble_eq_true rfl) (d' := d - 1) (by omega) (Nat.le_refl _) (Nat.le_refl _) (wp_mono (fun o' h' hq => ?_) K)
  match o', hq with
  | .inl (some (.inl (.inl x))), hq => exact cont_ret (wp_ireturn dL_asked_125 rfl hq)
  | .inl none, hq => exact hq.elim
  | .inl (some (.inl (.inr x))), hq => exact hq.elim
  | .inl (some (.inr x)), hq => exact hq.elim
  | .inr E, hq => exact cont_thr rfl hq
set_option maxRecDepth 100000 in
set_option maxHeartbeats 4000000 in
theorem a_areSame {G : GG} {d bc bs : Nat} {h : Hp} {Q : Pst} {o : Nat} {a b : Int32} (hk : h_k h o = 13) (hd : 2 ≤ d) (K : WP G m_X11_areSame (d - 1) 0 (aargs 0 [vr (some o), vi a, vi b]) [] h bc bs (bQ (aQ Q))) : WP G m_L_asked d 0 (aargs 0 [vr (some o), vi (nI 7), vi a, vi b]) [] h bc bs (aQ Q) := by
  refine wp_sub [(0, vr (some o)), (1, vi (nI 7)), (2, vi a), (3, vi b)] (fun _ hz => hz) ?_
  refine wp_iload_n (i := 1) dL_asked_0 rfl rfl ?_
  refine wp_tableIn (off := 125) 126 dL_asked_1 (by decide) (by decide) (by decide +kernel) (by decide) ?_
  refine wp_aload_n (i := 0) dL_asked_126 rfl rfl ?_
  refine wp_iload_n (i := 2) dL_asked_127 rfl rfl ?_
  refine wp_iload_n (i := 3) dL_asked_128 rfl rfl ?_
  refine wp_cV (y' := m_X11_areSame) 12 [vi a, vi b] [] bc bs dL_asked_129 ml_L_149 im_X11_areSame se_X11_areSame (by decide) hk ok_X11_areSame rfl (Nat.le_of_ble_eq_true rfl) rfl (Nat.le_of_ble_eq_true rfl) (d' := d - 1) (by omega) (Nat.le_refl _) (Nat.le_refl _) (wp_mono (fun o' h' hq => ?_) K)
  match o', hq with
  | .inl (some (.inl (.inl x))), hq =>
    obtain ⟨b, rfl, hq⟩ := hq
    refine cont_ret ?_
    refine wp_cS (y' := m_L_told) [vi (bI b)] [] 0 0 dL_asked_132 ml_L_83 st_L_told ok_L_told rfl (Nat.le_of_ble_eq_true rfl) rfl (Nat.le_of_ble_eq_true rfl) (d' := d - 1) (by omega) (Nat.zero_le _) (Nat.zero_le _) (c_L_told (cont_ret ?_))
    exact wp_ireturn dL_asked_135 rfl hq
  | .inl none, hq => exact hq.elim
  | .inl (some (.inl (.inr x))), hq => exact hq.elim
  | .inl (some (.inr x)), hq => exact hq.elim
  | .inr E, hq => exact cont_thr rfl hq
set_option maxRecDepth 100000 in
set_option maxHeartbeats 4000000 in
theorem a_realised {G : GG} {d bc bs : Nat} {h : Hp} {Q : Pst} {o : Nat} {a b : Int32} (hk : h_k h o = 13) (hd : 2 ≤ d) (K : WP G m_X11_realised (d - 1) 0 (aargs 0 [vr (some o), vi a]) [] h bc bs (aQ Q)) : WP G m_L_asked d 0 (aargs 0 [vr (some o), vi (nI 8), vi a, vi b]) [] h bc bs (aQ Q) := by
  refine wp_sub [(0, vr (some o)), (1, vi (nI 8)), (2, vi a), (3, vi b)] (fun _ hz => hz) ?_
  refine wp_iload_n (i := 1) dL_asked_0 rfl rfl ?_
  refine wp_tableIn (off := 135) 136 dL_asked_1 (by decide) (by decide) (by decide +kernel) (by decide) ?_
  refine wp_aload_n (i := 0) dL_asked_136 rfl rfl ?_
  refine wp_iload_n (i := 2) dL_asked_137 rfl rfl ?_
  refine wp_cV (y' := m_X11_realised) 12 [vi a] [] bc bs dL_asked_138 ml_L_152 im_X11_realised se_X11_realised (by decide) hk ok_X11_realised rfl (Nat.le_of_ble_eq_true rfl) rfl (Nat.le_of_ble_eq_true rfl) (d' := d - 1) (by omega) (Nat.le_refl _) (Nat.le_refl _) (wp_mono (fun o' h' hq => ?_) K)
  match o', hq with
  | .inl (some (.inl (.inl x))), hq => exact cont_ret (wp_ireturn dL_asked_141 rfl hq)
  | .inl none, hq => exact hq.elim
  | .inl (some (.inl (.inr x))), hq => exact hq.elim
  | .inl (some (.inr x)), hq => exact hq.elim
  | .inr E, hq => exact cont_thr rfl hq
set_option maxRecDepth 100000 in
set_option maxHeartbeats 4000000 in
theorem a_chunks {G : GG} {d bc bs : Nat} {h : Hp} {Q : Pst} {o : Nat} {a b : Int32} (hk : h_k h o = 13) (hd : 2 ≤ d) (K : WP G m_X11_chunks (d - 1) 0 (aargs 0 [vr (some o), vi a]) [] h bc bs (aQ Q)) : WP G m_L_asked d 0 (aargs 0 [vr (some o), vi (nI 9), vi a, vi b]) [] h bc bs (aQ Q) := by
  refine wp_sub [(0, vr (some o)), (1, vi (nI 9)), (2, vi a), (3, vi b)] (fun _ hz => hz) ?_
  refine wp_iload_n (i := 1) dL_asked_0 rfl rfl ?_
  refine wp_tableIn (off := 141) 142 dL_asked_1 (by decide) (by decide) (by decide +kernel) (by decide) ?_
  refine wp_aload_n (i := 0) dL_asked_142 rfl rfl ?_
  refine wp_iload_n (i := 2) dL_asked_143 rfl rfl ?_
  refine wp_cV (y' := m_X11_chunks) 12 [vi a] [] bc bs dL_asked_144 ml_L_155 im_X11_chunks se_X11_chunks (by decide) hk ok_X11_chunks rfl (Nat.le_of_ble_eq_true rfl) rfl (Nat.le_of_ble_eq_true rfl) (d' := d - 1) (by omega) (Nat.le_refl _) (Nat.le_refl _) (wp_mono (fun o' h' hq => ?_) K)
  match o', hq with
  | .inl (some (.inl (.inl x))), hq => exact cont_ret (wp_ireturn dL_asked_147 rfl hq)
  | .inl none, hq => exact hq.elim
  | .inl (some (.inl (.inr x))), hq => exact hq.elim
  | .inl (some (.inr x)), hq => exact hq.elim
  | .inr E, hq => exact cont_thr rfl hq
set_option maxRecDepth 100000 in
set_option maxHeartbeats 4000000 in
theorem a_sentBack {G : GG} {d bc bs : Nat} {h : Hp} {Q : Pst} {o : Nat} {a b : Int32} (hk : h_k h o = 13) (hd : 2 ≤ d) (K : WP G m_X11_sentBack (d - 1) 0 (aargs 0 [vr (some o), vi a]) [] h bc bs (aQ Q)) : WP G m_L_asked d 0 (aargs 0 [vr (some o), vi (nI 10), vi a, vi b]) [] h bc bs (aQ Q) := by
  refine wp_sub [(0, vr (some o)), (1, vi (nI 10)), (2, vi a), (3, vi b)] (fun _ hz => hz) ?_
  refine wp_iload_n (i := 1) dL_asked_0 rfl rfl ?_
  refine wp_tableIn (off := 147) 148 dL_asked_1 (by decide) (by decide) (by decide +kernel) (by decide) ?_
  refine wp_aload_n (i := 0) dL_asked_148 rfl rfl ?_
  refine wp_iload_n (i := 2) dL_asked_149 rfl rfl ?_
  refine wp_cV (y' := m_X11_sentBack) 12 [vi a] [] bc bs dL_asked_150 ml_L_158 im_X11_sentBack se_X11_sentBack (by decide) hk ok_X11_sentBack rfl (Nat.le_of_ble_eq_true rfl) rfl (Nat.le_of_ble_eq_true rfl) (d' := d - 1) (by omega) (Nat.le_refl _) (Nat.le_refl _) (wp_mono (fun o' h' hq => ?_) K)
  match o', hq with
  | .inl (some (.inl (.inl x))), hq => exact cont_ret (wp_ireturn dL_asked_153 rfl hq)
  | .inl none, hq => exact hq.elim
  | .inl (some (.inl (.inr x))), hq => exact hq.elim
  | .inl (some (.inr x)), hq => exact hq.elim
  | .inr E, hq => exact cont_thr rfl hq
set_option maxRecDepth 100000 in
set_option maxHeartbeats 4000000 in
theorem a_valueOf {G : GG} {d bc bs : Nat} {h : Hp} {Q : Pst} {o : Nat} {a b : Int32} (hk : h_k h o = 13) (hd : 2 ≤ d) (K : WP G m_X11_valueOf (d - 1) 0 (aargs 0 [vr (some o), vi a]) [] h bc bs (aQ Q)) : WP G m_L_asked d 0 (aargs 0 [vr (some o), vi (nI 11), vi a, vi b]) [] h bc bs (aQ Q) := by
  refine wp_sub [(0, vr (some o)), (1, vi (nI 11)), (2, vi a), (3, vi b)] (fun _ hz => hz) ?_
  refine wp_iload_n (i := 1) dL_asked_0 rfl rfl ?_
  refine wp_tableIn (off := 153) 154 dL_asked_1 (by decide) (by decide) (by decide +kernel) (by decide) ?_
  refine wp_aload_n (i := 0) dL_asked_154 rfl rfl ?_
  refine wp_iload_n (i := 2) dL_asked_155 rfl rfl ?_
  refine wp_cV (y' := m_X11_valueOf) 12 [vi a] [] bc bs dL_asked_156 ml_L_161 im_X11_valueOf se_X11_valueOf (by decide) hk ok_X11_valueOf rfl (Nat.le_of_ble_eq_true rfl) rfl (Nat.le_of_ble_eq_true rfl) (d' := d - 1) (by omega) (Nat.le_refl _) (Nat.le_refl _) (wp_mono (fun o' h' hq => ?_) K)
  match o', hq with
  | .inl (some (.inl (.inl x))), hq => exact cont_ret (wp_ireturn dL_asked_159 rfl hq)
  | .inl none, hq => exact hq.elim
  | .inl (some (.inl (.inr x))), hq => exact hq.elim
  | .inl (some (.inr x)), hq => exact hq.elim
  | .inr E, hq => exact cont_thr rfl hq
set_option maxRecDepth 100000 in
set_option maxHeartbeats 4000000 in
theorem a_valueByLog {G : GG} {d bc bs : Nat} {h : Hp} {Q : Pst} {o : Nat} {a b : Int32} (hk : h_k h o = 13) (hd : 2 ≤ d) (K : WP G m_X11_valueByLog (d - 1) 0 (aargs 0 [vr (some o), vi a]) [] h bc bs (aQ Q)) : WP G m_L_asked d 0 (aargs 0 [vr (some o), vi (nI 12), vi a, vi b]) [] h bc bs (aQ Q) := by
  refine wp_sub [(0, vr (some o)), (1, vi (nI 12)), (2, vi a), (3, vi b)] (fun _ hz => hz) ?_
  refine wp_iload_n (i := 1) dL_asked_0 rfl rfl ?_
  refine wp_tableIn (off := 159) 160 dL_asked_1 (by decide) (by decide) (by decide +kernel) (by decide) ?_
  refine wp_aload_n (i := 0) dL_asked_160 rfl rfl ?_
  refine wp_iload_n (i := 2) dL_asked_161 rfl rfl ?_
  refine wp_cV (y' := m_X11_valueByLog) 12 [vi a] [] bc bs dL_asked_162 ml_L_164 im_X11_valueByLog se_X11_valueByLog (by decide) hk ok_X11_valueByLog rfl (Nat.le_of_ble_eq_true rfl) rfl (Nat.le_of_ble_eq_true rfl) (d' := d - 1) (by omega) (Nat.le_refl _) (Nat.le_refl _) (wp_mono (fun o' h' hq => ?_) K)
  match o', hq with
  | .inl (some (.inl (.inl x))), hq => exact cont_ret (wp_ireturn dL_asked_165 rfl hq)
  | .inl none, hq => exact hq.elim
  | .inl (some (.inl (.inr x))), hq => exact hq.elim
  | .inl (some (.inr x)), hq => exact hq.elim
  | .inr E, hq => exact cont_thr rfl hq
set_option maxRecDepth 100000 in
set_option maxHeartbeats 4000000 in
theorem a_history {G : GG} {d bc bs : Nat} {h : Hp} {Q : Pst} {o : Nat} {a b : Int32} (hk : h_k h o = 13) (hd : 2 ≤ d) (K : WP G m_X11_history (d - 1) 0 (aargs 0 [vr (some o), vi a]) [] h bc bs (aQ Q)) : WP G m_L_asked d 0 (aargs 0 [vr (some o), vi (nI 13), vi a, vi b]) [] h bc bs (aQ Q) := by
  refine wp_sub [(0, vr (some o)), (1, vi (nI 13)), (2, vi a), (3, vi b)] (fun _ hz => hz) ?_
  refine wp_iload_n (i := 1) dL_asked_0 rfl rfl ?_
  refine wp_tableIn (off := 165) 166 dL_asked_1 (by decide) (by decide) (by decide +kernel) (by decide) ?_
  refine wp_aload_n (i := 0) dL_asked_166 rfl rfl ?_
  refine wp_iload_n (i := 2) dL_asked_167 rfl rfl ?_
  refine wp_cV (y' := m_X11_history) 12 [vi a] [] bc bs dL_asked_168 ml_L_167 im_X11_history se_X11_history (by decide) hk ok_X11_history rfl (Nat.le_of_ble_eq_true rfl) rfl (Nat.le_of_ble_eq_true rfl) (d' := d - 1) (by omega) (Nat.le_refl _) (Nat.le_refl _) (wp_mono (fun o' h' hq => ?_) K)
  match o', hq with
  | .inl (some (.inl (.inl x))), hq => exact cont_ret (wp_ireturn dL_asked_171 rfl hq)
  | .inl none, hq => exact hq.elim
  | .inl (some (.inl (.inr x))), hq => exact hq.elim
  | .inl (some (.inr x)), hq => exact hq.elim
  | .inr E, hq => exact cont_thr rfl hq
set_option maxRecDepth 100000 in
set_option maxHeartbeats 4000000 in
theorem a_logAt {G : GG} {d bc bs : Nat} {h : Hp} {Q : Pst} {o : Nat} {a b : Int32} (hk : h_k h o = 13) (hd : 2 ≤ d) (K : WP G m_X11_logAt (d - 1) 0 (aargs 0 [vr (some o), vi a, vi b]) [] h bc bs (aQ Q)) : WP G m_L_asked d 0 (aargs 0 [vr (some o), vi (nI 14), vi a, vi b]) [] h bc bs (aQ Q) := by
  refine wp_sub [(0, vr (some o)), (1, vi (nI 14)), (2, vi a), (3, vi b)] (fun _ hz => hz) ?_
  refine wp_iload_n (i := 1) dL_asked_0 rfl rfl ?_
  refine wp_tableIn (off := 171) 172 dL_asked_1 (by decide) (by decide) (by decide +kernel) (by decide) ?_
  refine wp_aload_n (i := 0) dL_asked_172 rfl rfl ?_
  refine wp_iload_n (i := 2) dL_asked_173 rfl rfl ?_
  refine wp_iload_n (i := 3) dL_asked_174 rfl rfl ?_
  refine wp_cV (y' := m_X11_logAt) 12 [vi a, vi b] [] bc bs dL_asked_175 ml_L_170 im_X11_logAt se_X11_logAt (by decide) hk ok_X11_logAt rfl (Nat.le_of_ble_eq_true rfl) rfl (Nat.le_of_ble_eq_true rfl) (d' := d - 1) (by omega) (Nat.le_refl _) (Nat.le_refl _) (wp_mono (fun o' h' hq => ?_) K)
  match o', hq with
  | .inl (some (.inl (.inl x))), hq => exact cont_ret (wp_ireturn dL_asked_178 rfl hq)
  | .inl none, hq => exact hq.elim
  | .inl (some (.inl (.inr x))), hq => exact hq.elim
  | .inl (some (.inr x)), hq => exact hq.elim
  | .inr E, hq => exact cont_thr rfl hq
set_option maxRecDepth 100000 in
set_option maxHeartbeats 4000000 in
theorem a_isOpen {G : GG} {d bc bs : Nat} {h : Hp} {Q : Pst} {o : Nat} {a b : Int32} (hk : h_k h o = 13) (hd : 2 ≤ d) (K : WP G m_X11_isOpen (d - 1) 0 (aargs 0 [vr (some o), vi a]) [] h bc bs (bQ (aQ Q))) : WP G m_L_asked d 0 (aargs 0 [vr (some o), vi (nI 16), vi a, vi b]) [] h bc bs (aQ Q) := by
  refine wp_sub [(0, vr (some o)), (1, vi (nI 16)), (2, vi a), (3, vi b)] (fun _ hz => hz) ?_
  refine wp_iload_n (i := 1) dL_asked_0 rfl rfl ?_
  refine wp_tableOut 185 dL_asked_1 (by decide) (by decide) ?_
  refine wp_aload_n (i := 0) dL_asked_185 rfl rfl ?_
  refine wp_iload_n (i := 2) dL_asked_186 rfl rfl ?_
  refine wp_cV (y' := m_X11_isOpen) 12 [vi a] [] bc bs dL_asked_187 ml_L_176 im_X11_isOpen se_X11_isOpen (by decide) hk ok_X11_isOpen rfl (Nat.le_of_ble_eq_true rfl) rfl (Nat.le_of_ble_eq_true rfl) (d' := d - 1) (by omega) (Nat.le_refl _) (Nat.le_refl _) (wp_mono (fun o' h' hq => ?_) K)
  match o', hq with
  | .inl (some (.inl (.inl x))), hq =>
    obtain ⟨b, rfl, hq⟩ := hq
    refine cont_ret ?_
    refine wp_cS (y' := m_L_told) [vi (bI b)] [] 0 0 dL_asked_190 ml_L_83 st_L_told ok_L_told rfl (Nat.le_of_ble_eq_true rfl) rfl (Nat.le_of_ble_eq_true rfl) (d' := d - 1) (by omega) (Nat.zero_le _) (Nat.zero_le _) (c_L_told (cont_ret ?_))
    exact wp_ireturn dL_asked_193 rfl hq
  | .inl none, hq => exact hq.elim
  | .inl (some (.inl (.inr x))), hq => exact hq.elim
  | .inl (some (.inr x)), hq => exact hq.elim
  | .inr E, hq => exact cont_thr rfl hq
