/-! The model: an empty transaction. -/
def OT0 : OTS := (false, 0, 0, 0, fun _ => false, fun _ => 0, fun _ => false, fun _ => false, fun _ => 0, [])
/-- one more row made, and put into a field -/
abbrev nwF (h : Hp) (m f q kd n : Nat) : Hp := wR (mk h q kd n) m f (some q)
theorem ce_nwF {h : Hp} {m f q kd n b : Nat} (h1 : b ≠ m) (h2 : b ≠ q) : ce (nwF h m f q kd n) b = ce h b := (ce_wR h1).trans (ce_mk h2)
