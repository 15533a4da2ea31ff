theorem q_check : lm_check Rl := q_check_of pp1 sp1 pp2 sp2 pp3 sp3 pp4 sp4 pp5
theorem lm_proof : ∃ Rl : ck_S → mk_S → Prop, lm_all Rl := ⟨Rl, q_init, q_clear, q_set, q_run, q_entry, q_hold, q_bit, q_tell, q_check, q_about, q_runOf, q_entryOf, q_isTaken, q_told, q_find⟩
