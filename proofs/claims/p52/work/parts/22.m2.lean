/-! The model: its helpers of the values. -/
def vecB (S : SV) (k : Nat) : Bool := decide (sTy S k = 118) || decide (sTy S k = 111)
theorem ty_bd {S : SV} (hS : SB S) (k : Nat) : sTy S k < 2147483648 := by have := hS.2.2.1 k; omega
theorem sz_bd {S : SV} (hS : SB S) (k : Nat) : sSz S k < 2147483648 := by have := hS.2.2.2.1 k; omega
theorem nd_bd {S : SV} (hS : SB S) (k : Nat) : sNd S k < 2147483648 := by have := hS.2.2.2.2.1 k; omega
theorem mn_bd {S : SV} (hS : SB S) (k : Nat) : sMn S k < 2147483648 := by have := hS.2.2.2.2.2 k; omega
theorem md_bd {S : SV} (hS : SB S) : sMd S < 2147483648 := by have := hS.2.1; omega
theorem nv_bd {S : SV} (hS : SB S) : sNv S < 2147483648 := by have := hS.1; omega
/-- the state with one more node made -/
abbrev s_2 (S : SV) (x : Nat) : SV := (sNv S, x, sTy S, sSz S, sEl S, sNd S, sOw S, sHs S, sOf S, sMn S)
abbrev s_1 (S : SV) (x : Nat) : SV := (x, sMd S, sTy S, sSz S, sEl S, sNd S, sOw S, sHs S, sOf S, sMn S)
