/-! The law's long methods. -/
theorem ok_L_isLike : MOk m_L_isLike 3 := ⟨lw_in3 59 rfl (by decide +kernel), ini_L, by decide +kernel, ⟨by decide +kernel, by decide +kernel, by decide +kernel⟩, by decide, rfl⟩
theorem ok_L_value : MOk m_L_value 5 := ⟨lw_in3 62 rfl (by decide +kernel), ini_L, by decide +kernel, ⟨by decide +kernel, by decide +kernel, by decide +kernel⟩, by decide, rfl⟩
theorem ok_L_sequence : MOk m_L_sequence 4 := ⟨lw_in6 63 rfl (by decide +kernel), ini_L, by decide +kernel, ⟨by decide +kernel, by decide +kernel, by decide +kernel⟩, by decide, rfl⟩
theorem ok_L_transact : MOk m_L_transact 5 := ⟨lw_in6 105 rfl (by decide +kernel), ini_L, by decide +kernel, ⟨by decide +kernel, by decide +kernel, by decide +kernel⟩, by decide, rfl⟩
theorem ok_L_areReferences : MOk m_L_areReferences 2 := ⟨lw_in6 116 rfl (by decide +kernel), ini_L, by decide +kernel, ⟨by decide +kernel, by decide +kernel, by decide +kernel⟩, by decide, rfl⟩
