/-! words of the three longest methods: where they stand in the tables (their bytes are not compared) -/
set_option maxHeartbeats 4000000 in
set_option maxRecDepth 100000 in
theorem tq_L_errors : tables_1[536]? = some (.code yL_errors cL_errors 6 (some .boolean)) := rfl
set_option maxHeartbeats 4000000 in
set_option maxRecDepth 100000 in
theorem tq_L_kept : tables_1[773]? = some (.code yL_kept cL_kept 18 (some .boolean)) := rfl
set_option maxHeartbeats 4000000 in
set_option maxRecDepth 100000 in
theorem tq_L_follows : tables_1[783]? = some (.code yL_follows cL_follows 14 (some .boolean)) := rfl
