/-! The model: references, transactions, one call after another. -/
theorem th_m {h : Hp} {k : Nat} {x : Int32} (hk : (0 : Nat) ≠ k) : h_I (wI h (nm 1 0) k x) (nm 1 0) 0 = h_I h (nm 1 0) 0 := by rw [gI_wI, if_neg (fun z => hk z.2)]
theorem th_oT {h h' : Hp} {t : Nat} (hF : Fr h h' (WT t)) : h_I h' (nm 1 0) 0 = h_I h (nm 1 0) 0 := th_fr hF
theorem th_oR {h h' : Hp} {t : Nat} (hF : Fr h h' (WRf t)) : h_I h' (nm 1 0) 0 = h_I h (nm 1 0) 0 := by rw [ce_I (hF _ (WRf_n (by omega) (by decide)))]
theorem th_oA {h h' : Hp} {t : Nat} (hF : Fr h h' (WAg t)) : h_I h' (nm 1 0) 0 = h_I h (nm 1 0) 0 := by rw [ce_I (hF _ (WAg_n (by omega) (by decide)))]
def o_begin (S : RS) (v : Int32) (t : Nat) : Int32 × Int32 × RS :=
  if (!ixB v 3) = true then (nI 1, nI 0, S) else if OT_op (RS_tt S t) = true then (nI 2, nI 0, S)
  else (nI 0, nI (RS_mo S), RS_ubg (RS_utt1 S t (fgt (OT_ubk (OT_uag (OT_upt (OT_uop (RS_tt S t) true) (RS_mo S)) (RS_bg S)) 0))) (RS_bg S + 1))
def o_write (S : RS) (v : Int32) (t : Nat) (u : Int32) (r : Nat) (x : Int32) : Int32 × Int32 × RS :=
  if (!ixB v 3) = true then (nI 1, nI 0, S) else if (!ixB u (RS_rn S)) = true then (nI 2, nI 0, S) else if (!OT_op (RS_tt S t)) = true then (nI 3, nI 0, S)
  else if OT_ad (RS_tt S t) r = true ∨ (!elB x) = true then (nI 4, nI 0, S)
  else if OT_pt (RS_tt S t) < (lastq (RS_rr S r)).1 then (nI 0, nI 0, RS_utt1 S t (sbk (RS_tt S t) (RS_mo S)))
  else if (gos t r true 3 S).1 = false then (nI 0, nI 0, (gos t r true 3 S).2)
  else (nI 0, nI 1, RS_utt1 (gos t r true 3 S).2 t (OT_uwn (OT_uwr (RS_tt (gos t r true 3 S).2 t) r true) r x))
def o_ensure (S : RS) (v : Int32) (t : Nat) (u : Int32) (r : Nat) : Int32 × Int32 × RS :=
  if (!ixB v 3) = true then (nI 1, nI 0, S) else if (!ixB u (RS_rn S)) = true then (nI 2, nI 0, S) else if (!OT_op (RS_tt S t)) = true then (nI 3, nI 0, S)
  else if OT_pt (RS_tt S t) < (lastq (RS_rr S r)).1 then (nI 0, nI 0, RS_utt1 S t (sbk (RS_tt S t) (RS_mo S)))
  else if (gos t r false 3 S).1 = false then (nI 0, nI 0, (gos t r false 3 S).2)
  else (nI 0, nI 1, RS_utt1 (gos t r false 3 S).2 t (OT_uen (RS_tt (gos t r false 3 S).2 t) r true))
def adz (x : OTS) (r : Nat) (y : Int32) : Int32 := (if OT_wr x r = true then OT_wn x r else OT_sm x r) + (if inB y (-99) (nI 99) = true then y else nI 0)
def o_add (S : RS) (v : Int32) (t : Nat) (u : Int32) (r : Nat) (y : Int32) : Int32 × Int32 × RS :=
  if (!ixB v 3) = true then (nI 1, nI 0, S) else if (!ixB u (RS_rn S)) = true then (nI 2, nI 0, S) else if (!OT_op (RS_tt S t)) = true then (nI 3, nI 0, S)
  else if inB y (-99) (nI 99) = false ∨ (!elB (adz (RS_tt S t) r y)) = true then (nI 4, nI 0, S)
  else if OT_wr (RS_tt S t) r = true then (nI 0, nI 1, RS_utt1 S t (OT_uwn (RS_tt S t) r (adz (RS_tt S t) r y)))
  else (nI 0, nI 1, RS_utt1 S t (OT_usm (OT_uad (RS_tt S t) r true) r (adz (RS_tt S t) r y)))
def o_end (S : RS) (v : Int32) (t : Nat) : Int32 × Int32 × RS :=
  if (!ixB v 3) = true then (nI 1, nI 0, S) else if (!OT_op (RS_tt S t)) = true then (nI 2, nI 0, S)
  else (nI 0, nI (OT_bk (RS_tt S t)), RS_utt1 S t (fgt (OT_uop (RS_tt S t) false)))
def o_sentBack (S : RS) (v : Int32) (t : Nat) : Int32 × Int32 × RS :=
  if (!ixB v 3) = true then (nI 1, nI 0, S) else (nI 0, nI (OT_bk (RS_tt S t)), S)
def o_valueOf (S : RS) (u : Int32) (r : Nat) : Int32 × Int32 × RS :=
  if (!ixB u (RS_rn S)) = true then (nI 1, nI 0, S) else (nI 0, (lastq (RS_rr S r)).2, S)
def o_history (S : RS) (u : Int32) (r : Nat) : Int32 × Int32 × RS :=
  if (!ixB u (RS_rn S)) = true then (nI 1, nI 0, S) else (nI 0, nI (OR_hs (RS_rr S r)).length, S)
def o_moment (S : RS) : Int32 × Int32 × RS := (nI 0, nI (RS_mo S), S)
def o_logged (S : RS) : Int32 × Int32 × RS := (nI 0, nI (RS_lg S).length, S)
theorem lgL_len {l : List (Nat × Nat × Int32 × Int32)} : (lgL l).length = l.length := List.length_map _
