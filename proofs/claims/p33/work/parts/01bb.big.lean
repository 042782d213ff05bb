set_option maxRecDepth 1000000 in
set_option maxHeartbeats 4000000 in
theorem co_L_sound : Cond.code yL_sound cL_sound 13 (Option.some FieldType.boolean) ∈ tb := inT 1062 ⟨rfl, by decide +kernel⟩
set_option maxRecDepth 1000000 in
set_option maxHeartbeats 4000000 in
theorem co_L_edges : Cond.code yL_edges cL_edges 16 (Option.some FieldType.boolean) ∈ tb := inT 1082 ⟨rfl, by decide +kernel⟩
set_option maxRecDepth 1000000 in
set_option maxHeartbeats 4000000 in
theorem co_L_images : Cond.code yL_images cL_images 16 (Option.some FieldType.boolean) ∈ tb := inT 1085 ⟨rfl, by decide +kernel⟩
set_option maxRecDepth 1000000 in
set_option maxHeartbeats 4000000 in
theorem co_L_refuses : Cond.code yL_refuses cL_refuses 4 (Option.some FieldType.boolean) ∈ tb := inT 1143 ⟨rfl, by decide +kernel⟩
