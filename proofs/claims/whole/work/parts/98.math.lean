theorem q_check : lm_check Rl := sorry
theorem lm_proof : ∃ Rl : ck_S → mk_S → Prop, lm_all Rl := ⟨Rl, q_init, q_clear, q_set, q_run, q_entry, q_hold, q_bit, q_tell, q_check, q_about, q_runOf, q_entryOf, q_isTaken, q_told, q_find⟩
