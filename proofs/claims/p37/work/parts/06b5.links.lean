set_option maxRecDepth 1000000 in
set_option maxHeartbeats 4000000 in
theorem cs_L_171 : CS RL 171 yL_act cL_act 11 (some .long) 3 := ⟨Or.inl (mT 1195 (by decide +kernel)), (mT 1196 (by decide +kernel)), (mT 1197 rfl), (mT 0 (by decide +kernel)), ⟨by decide +kernel, by decide +kernel⟩, by decide +kernel⟩
