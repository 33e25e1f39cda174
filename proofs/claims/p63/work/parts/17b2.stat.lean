/-! the words of the two long methods of the law: their bytes are the statement's own by name, so that nothing need be counted out -/
set_option maxRecDepth 100000 in
set_option maxHeartbeats 4000000 in
theorem wc_W_isSound : lx_tbl[694]? = some (Cond.code (mY I_W_isSound) (mB I_W_isSound) (mL I_W_isSound) (mR I_W_isSound)) := by rfl
theorem md_W_isSound : MDs I_W_isSound 1 := ⟨tb_in (i := 693) (by decide +kernel) (by decide +kernel), rfl, ⟨tb_in (i := 30) (by decide +kernel) (by decide +kernel), tb_in wc_W_isSound (by decide +kernel), ⟨by decide, by decide, by decide +kernel⟩⟩⟩
set_option maxRecDepth 100000 in
set_option maxHeartbeats 4000000 in
theorem wc_W_acts : lx_tbl[910]? = some (Cond.code (mY I_W_acts) (mB I_W_acts) (mL I_W_acts) (mR I_W_acts)) := by rfl
theorem md_W_acts : MDs I_W_acts 2 := ⟨tb_in (i := 909) (by decide +kernel) (by decide +kernel), rfl, ⟨tb_in (i := 30) (by decide +kernel) (by decide +kernel), tb_in wc_W_acts (by decide +kernel), ⟨by decide, by decide, by decide +kernel⟩⟩⟩
