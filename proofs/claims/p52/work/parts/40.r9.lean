/-! The model: commit, its first half. -/
def chg (x : OTS) (r : Nat) : Bool := OT_wr x r || OT_ad x r
def vth (x : OTS) (y : ORS) (r : Nat) : Int32 := if OT_wr x r = true then OT_wn x r else (lastq y).2 + OT_sm x r
theorem chg_t1 {x : OTS} {r : Nat} (h : OT_wr x r = true) : chg x r = true := by unfold chg; rw [h]; rfl
theorem chg_t2 {x : OTS} {r : Nat} (h1 : OT_wr x r = false) (h2 : OT_ad x r = true) : chg x r = true := by unfold chg; rw [h1, h2]; rfl
theorem chg_f {x : OTS} {r : Nat} (h1 : OT_wr x r = false) (h2 : OT_ad x r = false) : chg x r = false := by unfold chg; rw [h1, h2]; rfl
theorem gos_utt (t r : Nat) (e : Bool) : ∀ m S, ∃ f, (gos t r e m S).2 = RS_utt S f := by
  intro m
  induction m with
  | zero => intro S; exact ⟨RS_tt S, rfl⟩
  | succ m ih =>
    intro S
    rw [gos]
    split
    · split
      · exact ⟨_, rfl⟩
      · obtain ⟨f, hf⟩ := ih (RS_utt1 S (2 - m) (sbk (RS_tt S (2 - m)) (RS_mo S)))
        exact ⟨f, hf.trans rfl⟩
    · exact ih S
theorem gos_rn {t r : Nat} {e : Bool} {m : Nat} {S : RS} : RS_rn (gos t r e m S).2 = RS_rn S := by
  obtain ⟨f, hf⟩ := gos_utt t r e m S
  rw [hf]
/-- what is added wins against the others, from the r-th reference on: whether, and the state -/
def cmA (t : Nat) : Nat → Nat → RS → Bool × RS
  | 0, _, S => (true, S)
  | m + 1, r, S => if OT_ad (RS_tt S t) r = true then (if (gos t r true 3 S).1 = false then (false, (gos t r true 3 S).2) else cmA t m (r + 1) (gos t r true 3 S).2) else cmA t m (r + 1) S
def cmB (S : RS) (t : Nat) : Nat → Nat → Bool → Bool → Bool × Bool
  | 0, _, o, s => (o, s)
  | m + 1, r, o, s => cmB S t m (r + 1) (o || (chg (RS_tt S t) r && !inB (vth (RS_tt S t) (RS_rr S r) r) (OR_lo (RS_rr S r)) (OR_hi (RS_rr S r)))) (s || chg (RS_tt S t) r)
