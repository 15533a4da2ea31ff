theorem lm_proof : ∃ Rl : ck_S → mk_S → Prop, lm_all Rl := sorry
