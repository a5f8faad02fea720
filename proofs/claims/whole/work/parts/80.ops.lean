/-! all thirty calls -/
theorem ops_ok : OpsOK InvC := ⟨op_steps, op_least, op_size, op_classes, op_nth, op_normal, op_prime, op_differ, op_vector, op_twin, op_others, op_multiplied, op_within, op_common, op_best, op_keeps, op_even, op_spread, op_generator, op_add, op_clear, op_form, op_forms, op_table, op_unlike, op_rows, op_fills, op_derived, op_kept, op_rounds⟩
