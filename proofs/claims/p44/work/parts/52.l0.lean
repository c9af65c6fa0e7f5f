theorem dm_X11_sign : yX11_sign.cls = RX11 ∧ yX11_sign.cls ≠ "java/lang/invoke/MethodHandle" ∧ yX11_sign.cls ≠ "java/lang/invoke/VarHandle" ∧ (parseMethodDescriptor yX11_sign.desc).map (fun d => d.parameters.length) = some 1 := by decide +kernel
theorem dm_X12_sign : yX12_sign.cls = RX12 ∧ yX12_sign.cls ≠ "java/lang/invoke/MethodHandle" ∧ yX12_sign.cls ≠ "java/lang/invoke/VarHandle" ∧ (parseMethodDescriptor yX12_sign.desc).map (fun d => d.parameters.length) = some 1 := by decide +kernel
theorem dm_X11_end : yX11_end.cls = RX11 ∧ yX11_end.cls ≠ "java/lang/invoke/MethodHandle" ∧ yX11_end.cls ≠ "java/lang/invoke/VarHandle" ∧ (parseMethodDescriptor yX11_end.desc).map (fun d => d.parameters.length) = some 1 := by decide +kernel
theorem dm_X12_end : yX12_end.cls = RX12 ∧ yX12_end.cls ≠ "java/lang/invoke/MethodHandle" ∧ yX12_end.cls ≠ "java/lang/invoke/VarHandle" ∧ (parseMethodDescriptor yX12_end.desc).map (fun d => d.parameters.length) = some 1 := by decide +kernel
theorem dm_X11_splice : yX11_splice.cls = RX11 ∧ yX11_splice.cls ≠ "java/lang/invoke/MethodHandle" ∧ yX11_splice.cls ≠ "java/lang/invoke/VarHandle" ∧ (parseMethodDescriptor yX11_splice.desc).map (fun d => d.parameters.length) = some 0 := by decide +kernel
theorem dm_X12_splice : yX12_splice.cls = RX12 ∧ yX12_splice.cls ≠ "java/lang/invoke/MethodHandle" ∧ yX12_splice.cls ≠ "java/lang/invoke/VarHandle" ∧ (parseMethodDescriptor yX12_splice.desc).map (fun d => d.parameters.length) = some 0 := by decide +kernel
theorem dm_X11_hand : yX11_hand.cls = RX11 ∧ yX11_hand.cls ≠ "java/lang/invoke/MethodHandle" ∧ yX11_hand.cls ≠ "java/lang/invoke/VarHandle" ∧ (parseMethodDescriptor yX11_hand.desc).map (fun d => d.parameters.length) = some 1 := by decide +kernel
theorem dm_X12_hand : yX12_hand.cls = RX12 ∧ yX12_hand.cls ≠ "java/lang/invoke/MethodHandle" ∧ yX12_hand.cls ≠ "java/lang/invoke/VarHandle" ∧ (parseMethodDescriptor yX12_hand.desc).map (fun d => d.parameters.length) = some 1 := by decide +kernel
theorem dm_X11_ring : yX11_ring.cls = RX11 ∧ yX11_ring.cls ≠ "java/lang/invoke/MethodHandle" ∧ yX11_ring.cls ≠ "java/lang/invoke/VarHandle" ∧ (parseMethodDescriptor yX11_ring.desc).map (fun d => d.parameters.length) = some 2 := by decide +kernel
theorem dm_X12_ring : yX12_ring.cls = RX12 ∧ yX12_ring.cls ≠ "java/lang/invoke/MethodHandle" ∧ yX12_ring.cls ≠ "java/lang/invoke/VarHandle" ∧ (parseMethodDescriptor yX12_ring.desc).map (fun d => d.parameters.length) = some 2 := by decide +kernel
theorem dm_X11_over : yX11_over.cls = RX11 ∧ yX11_over.cls ≠ "java/lang/invoke/MethodHandle" ∧ yX11_over.cls ≠ "java/lang/invoke/VarHandle" ∧ (parseMethodDescriptor yX11_over.desc).map (fun d => d.parameters.length) = some 3 := by decide +kernel
theorem dm_X12_over : yX12_over.cls = RX12 ∧ yX12_over.cls ≠ "java/lang/invoke/MethodHandle" ∧ yX12_over.cls ≠ "java/lang/invoke/VarHandle" ∧ (parseMethodDescriptor yX12_over.desc).map (fun d => d.parameters.length) = some 3 := by decide +kernel
theorem dm_X11_set : yX11_set.cls = RX11 ∧ yX11_set.cls ≠ "java/lang/invoke/MethodHandle" ∧ yX11_set.cls ≠ "java/lang/invoke/VarHandle" ∧ (parseMethodDescriptor yX11_set.desc).map (fun d => d.parameters.length) = some 3 := by decide +kernel
theorem dm_X12_set : yX12_set.cls = RX12 ∧ yX12_set.cls ≠ "java/lang/invoke/MethodHandle" ∧ yX12_set.cls ≠ "java/lang/invoke/VarHandle" ∧ (parseMethodDescriptor yX12_set.desc).map (fun d => d.parameters.length) = some 3 := by decide +kernel
theorem dm_X11_head : yX11_head.cls = RX11 ∧ yX11_head.cls ≠ "java/lang/invoke/MethodHandle" ∧ yX11_head.cls ≠ "java/lang/invoke/VarHandle" ∧ (parseMethodDescriptor yX11_head.desc).map (fun d => d.parameters.length) = some 3 := by decide +kernel
theorem dm_X12_head : yX12_head.cls = RX12 ∧ yX12_head.cls ≠ "java/lang/invoke/MethodHandle" ∧ yX12_head.cls ≠ "java/lang/invoke/VarHandle" ∧ (parseMethodDescriptor yX12_head.desc).map (fun d => d.parameters.length) = some 3 := by decide +kernel
theorem dm_X11_motor : yX11_motor.cls = RX11 ∧ yX11_motor.cls ≠ "java/lang/invoke/MethodHandle" ∧ yX11_motor.cls ≠ "java/lang/invoke/VarHandle" ∧ (parseMethodDescriptor yX11_motor.desc).map (fun d => d.parameters.length) = some 3 := by decide +kernel
theorem dm_X12_motor : yX12_motor.cls = RX12 ∧ yX12_motor.cls ≠ "java/lang/invoke/MethodHandle" ∧ yX12_motor.cls ≠ "java/lang/invoke/VarHandle" ∧ (parseMethodDescriptor yX12_motor.desc).map (fun d => d.parameters.length) = some 3 := by decide +kernel
theorem dm_X11_clear : yX11_clear.cls = RX11 ∧ yX11_clear.cls ≠ "java/lang/invoke/MethodHandle" ∧ yX11_clear.cls ≠ "java/lang/invoke/VarHandle" ∧ (parseMethodDescriptor yX11_clear.desc).map (fun d => d.parameters.length) = some 0 := by decide +kernel
theorem dm_X12_clear : yX12_clear.cls = RX12 ∧ yX12_clear.cls ≠ "java/lang/invoke/MethodHandle" ∧ yX12_clear.cls ≠ "java/lang/invoke/VarHandle" ∧ (parseMethodDescriptor yX12_clear.desc).map (fun d => d.parameters.length) = some 0 := by decide +kernel
theorem dm_X11_count : yX11_count.cls = RX11 ∧ yX11_count.cls ≠ "java/lang/invoke/MethodHandle" ∧ yX11_count.cls ≠ "java/lang/invoke/VarHandle" ∧ (parseMethodDescriptor yX11_count.desc).map (fun d => d.parameters.length) = some 1 := by decide +kernel
theorem dm_X12_count : yX12_count.cls = RX12 ∧ yX12_count.cls ≠ "java/lang/invoke/MethodHandle" ∧ yX12_count.cls ≠ "java/lang/invoke/VarHandle" ∧ (parseMethodDescriptor yX12_count.desc).map (fun d => d.parameters.length) = some 1 := by decide +kernel
theorem dm_L_of : yL_of.cls = RL ∧ yL_of.cls ≠ "java/lang/invoke/MethodHandle" ∧ yL_of.cls ≠ "java/lang/invoke/VarHandle" ∧ (parseMethodDescriptor yL_of.desc).map (fun d => d.parameters.length) = some 4 := by decide +kernel
theorem dm_X12_of : yX12_of.cls = RX12 ∧ yX12_of.cls ≠ "java/lang/invoke/MethodHandle" ∧ yX12_of.cls ≠ "java/lang/invoke/VarHandle" ∧ (parseMethodDescriptor yX12_of.desc).map (fun d => d.parameters.length) = some 2 := by decide +kernel
theorem dm_X11_inch : yX11_inch.cls = RX11 ∧ yX11_inch.cls ≠ "java/lang/invoke/MethodHandle" ∧ yX11_inch.cls ≠ "java/lang/invoke/VarHandle" ∧ (parseMethodDescriptor yX11_inch.desc).map (fun d => d.parameters.length) = some 2 := by decide +kernel
theorem dm_X12_inch : yX12_inch.cls = RX12 ∧ yX12_inch.cls ≠ "java/lang/invoke/MethodHandle" ∧ yX12_inch.cls ≠ "java/lang/invoke/VarHandle" ∧ (parseMethodDescriptor yX12_inch.desc).map (fun d => d.parameters.length) = some 2 := by decide +kernel
theorem dm_L_way : yL_way.cls = RL ∧ yL_way.cls ≠ "java/lang/invoke/MethodHandle" ∧ yL_way.cls ≠ "java/lang/invoke/VarHandle" ∧ (parseMethodDescriptor yL_way.desc).map (fun d => d.parameters.length) = some 4 := by decide +kernel
theorem dm_X12_way : yX12_way.cls = RX12 ∧ yX12_way.cls ≠ "java/lang/invoke/MethodHandle" ∧ yX12_way.cls ≠ "java/lang/invoke/VarHandle" ∧ (parseMethodDescriptor yX12_way.desc).map (fun d => d.parameters.length) = some 2 := by decide +kernel
theorem dm_X11_heard : yX11_heard.cls = RX11 ∧ yX11_heard.cls ≠ "java/lang/invoke/MethodHandle" ∧ yX11_heard.cls ≠ "java/lang/invoke/VarHandle" ∧ (parseMethodDescriptor yX11_heard.desc).map (fun d => d.parameters.length) = some 2 := by decide +kernel
theorem dm_X12_heard : yX12_heard.cls = RX12 ∧ yX12_heard.cls ≠ "java/lang/invoke/MethodHandle" ∧ yX12_heard.cls ≠ "java/lang/invoke/VarHandle" ∧ (parseMethodDescriptor yX12_heard.desc).map (fun d => d.parameters.length) = some 2 := by decide +kernel
theorem dm_X11_all : yX11_all.cls = RX11 ∧ yX11_all.cls ≠ "java/lang/invoke/MethodHandle" ∧ yX11_all.cls ≠ "java/lang/invoke/VarHandle" ∧ (parseMethodDescriptor yX11_all.desc).map (fun d => d.parameters.length) = some 0 := by decide +kernel
theorem dm_X12_all : yX12_all.cls = RX12 ∧ yX12_all.cls ≠ "java/lang/invoke/MethodHandle" ∧ yX12_all.cls ≠ "java/lang/invoke/VarHandle" ∧ (parseMethodDescriptor yX12_all.desc).map (fun d => d.parameters.length) = some 0 := by decide +kernel
theorem dm_X11_wish : yX11_wish.cls = RX11 ∧ yX11_wish.cls ≠ "java/lang/invoke/MethodHandle" ∧ yX11_wish.cls ≠ "java/lang/invoke/VarHandle" ∧ (parseMethodDescriptor yX11_wish.desc).map (fun d => d.parameters.length) = some 2 := by decide +kernel
theorem dm_X12_wish : yX12_wish.cls = RX12 ∧ yX12_wish.cls ≠ "java/lang/invoke/MethodHandle" ∧ yX12_wish.cls ≠ "java/lang/invoke/VarHandle" ∧ (parseMethodDescriptor yX12_wish.desc).map (fun d => d.parameters.length) = some 2 := by decide +kernel
theorem dm_X11_meets : yX11_meets.cls = RX11 ∧ yX11_meets.cls ≠ "java/lang/invoke/MethodHandle" ∧ yX11_meets.cls ≠ "java/lang/invoke/VarHandle" ∧ (parseMethodDescriptor yX11_meets.desc).map (fun d => d.parameters.length) = some 1 := by decide +kernel
theorem dm_X12_meets : yX12_meets.cls = RX12 ∧ yX12_meets.cls ≠ "java/lang/invoke/MethodHandle" ∧ yX12_meets.cls ≠ "java/lang/invoke/VarHandle" ∧ (parseMethodDescriptor yX12_meets.desc).map (fun d => d.parameters.length) = some 1 := by decide +kernel
theorem dm_X11_often : yX11_often.cls = RX11 ∧ yX11_often.cls ≠ "java/lang/invoke/MethodHandle" ∧ yX11_often.cls ≠ "java/lang/invoke/VarHandle" ∧ (parseMethodDescriptor yX11_often.desc).map (fun d => d.parameters.length) = some 0 := by decide +kernel
theorem dm_X12_often : yX12_often.cls = RX12 ∧ yX12_often.cls ≠ "java/lang/invoke/MethodHandle" ∧ yX12_often.cls ≠ "java/lang/invoke/VarHandle" ∧ (parseMethodDescriptor yX12_often.desc).map (fun d => d.parameters.length) = some 0 := by decide +kernel
theorem dm_X11_mark : yX11_mark.cls = RX11 ∧ yX11_mark.cls ≠ "java/lang/invoke/MethodHandle" ∧ yX11_mark.cls ≠ "java/lang/invoke/VarHandle" ∧ (parseMethodDescriptor yX11_mark.desc).map (fun d => d.parameters.length) = some 2 := by decide +kernel
theorem dm_X12_mark : yX12_mark.cls = RX12 ∧ yX12_mark.cls ≠ "java/lang/invoke/MethodHandle" ∧ yX12_mark.cls ≠ "java/lang/invoke/VarHandle" ∧ (parseMethodDescriptor yX12_mark.desc).map (fun d => d.parameters.length) = some 2 := by decide +kernel
theorem dm_X11_kept : yX11_kept.cls = RX11 ∧ yX11_kept.cls ≠ "java/lang/invoke/MethodHandle" ∧ yX11_kept.cls ≠ "java/lang/invoke/VarHandle" ∧ (parseMethodDescriptor yX11_kept.desc).map (fun d => d.parameters.length) = some 0 := by decide +kernel
theorem dm_X12_kept : yX12_kept.cls = RX12 ∧ yX12_kept.cls ≠ "java/lang/invoke/MethodHandle" ∧ yX12_kept.cls ≠ "java/lang/invoke/VarHandle" ∧ (parseMethodDescriptor yX12_kept.desc).map (fun d => d.parameters.length) = some 0 := by decide +kernel
theorem dm_X11_plan : yX11_plan.cls = RX11 ∧ yX11_plan.cls ≠ "java/lang/invoke/MethodHandle" ∧ yX11_plan.cls ≠ "java/lang/invoke/VarHandle" ∧ (parseMethodDescriptor yX11_plan.desc).map (fun d => d.parameters.length) = some 0 := by decide +kernel
theorem dm_X12_plan : yX12_plan.cls = RX12 ∧ yX12_plan.cls ≠ "java/lang/invoke/MethodHandle" ∧ yX12_plan.cls ≠ "java/lang/invoke/VarHandle" ∧ (parseMethodDescriptor yX12_plan.desc).map (fun d => d.parameters.length) = some 0 := by decide +kernel
theorem dm_X11_make : yX11_make.cls = RX11 ∧ yX11_make.cls ≠ "java/lang/invoke/MethodHandle" ∧ yX11_make.cls ≠ "java/lang/invoke/VarHandle" ∧ (parseMethodDescriptor yX11_make.desc).map (fun d => d.parameters.length) = some 0 := by decide +kernel
theorem dm_X12_make : yX12_make.cls = RX12 ∧ yX12_make.cls ≠ "java/lang/invoke/MethodHandle" ∧ yX12_make.cls ≠ "java/lang/invoke/VarHandle" ∧ (parseMethodDescriptor yX12_make.desc).map (fun d => d.parameters.length) = some 0 := by decide +kernel
theorem dm_X11_cut : yX11_cut.cls = RX11 ∧ yX11_cut.cls ≠ "java/lang/invoke/MethodHandle" ∧ yX11_cut.cls ≠ "java/lang/invoke/VarHandle" ∧ (parseMethodDescriptor yX11_cut.desc).map (fun d => d.parameters.length) = some 2 := by decide +kernel
theorem dm_X12_cut : yX12_cut.cls = RX12 ∧ yX12_cut.cls ≠ "java/lang/invoke/MethodHandle" ∧ yX12_cut.cls ≠ "java/lang/invoke/VarHandle" ∧ (parseMethodDescriptor yX12_cut.desc).map (fun d => d.parameters.length) = some 2 := by decide +kernel
theorem dm_X11_weight : yX11_weight.cls = RX11 ∧ yX11_weight.cls ≠ "java/lang/invoke/MethodHandle" ∧ yX11_weight.cls ≠ "java/lang/invoke/VarHandle" ∧ (parseMethodDescriptor yX11_weight.desc).map (fun d => d.parameters.length) = some 2 := by decide +kernel
theorem dm_X12_weight : yX12_weight.cls = RX12 ∧ yX12_weight.cls ≠ "java/lang/invoke/MethodHandle" ∧ yX12_weight.cls ≠ "java/lang/invoke/VarHandle" ∧ (parseMethodDescriptor yX12_weight.desc).map (fun d => d.parameters.length) = some 2 := by decide +kernel
theorem dm_X11_heads : yX11_heads.cls = RX11 ∧ yX11_heads.cls ≠ "java/lang/invoke/MethodHandle" ∧ yX11_heads.cls ≠ "java/lang/invoke/VarHandle" ∧ (parseMethodDescriptor yX11_heads.desc).map (fun d => d.parameters.length) = some 4 := by decide +kernel
theorem dm_X12_heads : yX12_heads.cls = RX12 ∧ yX12_heads.cls ≠ "java/lang/invoke/MethodHandle" ∧ yX12_heads.cls ≠ "java/lang/invoke/VarHandle" ∧ (parseMethodDescriptor yX12_heads.desc).map (fun d => d.parameters.length) = some 4 := by decide +kernel
theorem dm_X11_stop : yX11_stop.cls = RX11 ∧ yX11_stop.cls ≠ "java/lang/invoke/MethodHandle" ∧ yX11_stop.cls ≠ "java/lang/invoke/VarHandle" ∧ (parseMethodDescriptor yX11_stop.desc).map (fun d => d.parameters.length) = some 1 := by decide +kernel
theorem dm_X12_stop : yX12_stop.cls = RX12 ∧ yX12_stop.cls ≠ "java/lang/invoke/MethodHandle" ∧ yX12_stop.cls ≠ "java/lang/invoke/VarHandle" ∧ (parseMethodDescriptor yX12_stop.desc).map (fun d => d.parameters.length) = some 1 := by decide +kernel
theorem dm_X11_out : yX11_out.cls = RX11 ∧ yX11_out.cls ≠ "java/lang/invoke/MethodHandle" ∧ yX11_out.cls ≠ "java/lang/invoke/VarHandle" ∧ (parseMethodDescriptor yX11_out.desc).map (fun d => d.parameters.length) = some 1 := by decide +kernel
theorem dm_X12_out : yX12_out.cls = RX12 ∧ yX12_out.cls ≠ "java/lang/invoke/MethodHandle" ∧ yX12_out.cls ≠ "java/lang/invoke/VarHandle" ∧ (parseMethodDescriptor yX12_out.desc).map (fun d => d.parameters.length) = some 1 := by decide +kernel
theorem dm_X11_dies : yX11_dies.cls = RX11 ∧ yX11_dies.cls ≠ "java/lang/invoke/MethodHandle" ∧ yX11_dies.cls ≠ "java/lang/invoke/VarHandle" ∧ (parseMethodDescriptor yX11_dies.desc).map (fun d => d.parameters.length) = some 0 := by decide +kernel
theorem dm_X12_dies : yX12_dies.cls = RX12 ∧ yX12_dies.cls ≠ "java/lang/invoke/MethodHandle" ∧ yX12_dies.cls ≠ "java/lang/invoke/VarHandle" ∧ (parseMethodDescriptor yX12_dies.desc).map (fun d => d.parameters.length) = some 0 := by decide +kernel
theorem dm_X11_tape : yX11_tape.cls = RX11 ∧ yX11_tape.cls ≠ "java/lang/invoke/MethodHandle" ∧ yX11_tape.cls ≠ "java/lang/invoke/VarHandle" ∧ (parseMethodDescriptor yX11_tape.desc).map (fun d => d.parameters.length) = some 1 := by decide +kernel
theorem dm_X12_tape : yX12_tape.cls = RX12 ∧ yX12_tape.cls ≠ "java/lang/invoke/MethodHandle" ∧ yX12_tape.cls ≠ "java/lang/invoke/VarHandle" ∧ (parseMethodDescriptor yX12_tape.desc).map (fun d => d.parameters.length) = some 1 := by decide +kernel
theorem dm_X11_take : yX11_take.cls = RX11 ∧ yX11_take.cls ≠ "java/lang/invoke/MethodHandle" ∧ yX11_take.cls ≠ "java/lang/invoke/VarHandle" ∧ (parseMethodDescriptor yX11_take.desc).map (fun d => d.parameters.length) = some 2 := by decide +kernel
theorem dm_X12_take : yX12_take.cls = RX12 ∧ yX12_take.cls ≠ "java/lang/invoke/MethodHandle" ∧ yX12_take.cls ≠ "java/lang/invoke/VarHandle" ∧ (parseMethodDescriptor yX12_take.desc).map (fun d => d.parameters.length) = some 2 := by decide +kernel
theorem dm_X11_gap : yX11_gap.cls = RX11 ∧ yX11_gap.cls ≠ "java/lang/invoke/MethodHandle" ∧ yX11_gap.cls ≠ "java/lang/invoke/VarHandle" ∧ (parseMethodDescriptor yX11_gap.desc).map (fun d => d.parameters.length) = some 1 := by decide +kernel
theorem dm_X12_gap : yX12_gap.cls = RX12 ∧ yX12_gap.cls ≠ "java/lang/invoke/MethodHandle" ∧ yX12_gap.cls ≠ "java/lang/invoke/VarHandle" ∧ (parseMethodDescriptor yX12_gap.desc).map (fun d => d.parameters.length) = some 1 := by decide +kernel
theorem dm_X11_wipe : yX11_wipe.cls = RX11 ∧ yX11_wipe.cls ≠ "java/lang/invoke/MethodHandle" ∧ yX11_wipe.cls ≠ "java/lang/invoke/VarHandle" ∧ (parseMethodDescriptor yX11_wipe.desc).map (fun d => d.parameters.length) = some 0 := by decide +kernel
theorem dm_X12_wipe : yX12_wipe.cls = RX12 ∧ yX12_wipe.cls ≠ "java/lang/invoke/MethodHandle" ∧ yX12_wipe.cls ≠ "java/lang/invoke/VarHandle" ∧ (parseMethodDescriptor yX12_wipe.desc).map (fun d => d.parameters.length) = some 0 := by decide +kernel
theorem dm_X11_span : yX11_span.cls = RX11 ∧ yX11_span.cls ≠ "java/lang/invoke/MethodHandle" ∧ yX11_span.cls ≠ "java/lang/invoke/VarHandle" ∧ (parseMethodDescriptor yX11_span.desc).map (fun d => d.parameters.length) = some 1 := by decide +kernel
theorem dm_X12_span : yX12_span.cls = RX12 ∧ yX12_span.cls ≠ "java/lang/invoke/MethodHandle" ∧ yX12_span.cls ≠ "java/lang/invoke/VarHandle" ∧ (parseMethodDescriptor yX12_span.desc).map (fun d => d.parameters.length) = some 1 := by decide +kernel
theorem dm_X11_pair : yX11_pair.cls = RX11 ∧ yX11_pair.cls ≠ "java/lang/invoke/MethodHandle" ∧ yX11_pair.cls ≠ "java/lang/invoke/VarHandle" ∧ (parseMethodDescriptor yX11_pair.desc).map (fun d => d.parameters.length) = some 1 := by decide +kernel
theorem dm_X12_pair : yX12_pair.cls = RX12 ∧ yX12_pair.cls ≠ "java/lang/invoke/MethodHandle" ∧ yX12_pair.cls ≠ "java/lang/invoke/VarHandle" ∧ (parseMethodDescriptor yX12_pair.desc).map (fun d => d.parameters.length) = some 1 := by decide +kernel
theorem dm_X11_mended : yX11_mended.cls = RX11 ∧ yX11_mended.cls ≠ "java/lang/invoke/MethodHandle" ∧ yX11_mended.cls ≠ "java/lang/invoke/VarHandle" ∧ (parseMethodDescriptor yX11_mended.desc).map (fun d => d.parameters.length) = some 1 := by decide +kernel
theorem dm_X12_mended : yX12_mended.cls = RX12 ∧ yX12_mended.cls ≠ "java/lang/invoke/MethodHandle" ∧ yX12_mended.cls ≠ "java/lang/invoke/VarHandle" ∧ (parseMethodDescriptor yX12_mended.desc).map (fun d => d.parameters.length) = some 1 := by decide +kernel
theorem dm_X11_piece : yX11_piece.cls = RX11 ∧ yX11_piece.cls ≠ "java/lang/invoke/MethodHandle" ∧ yX11_piece.cls ≠ "java/lang/invoke/VarHandle" ∧ (parseMethodDescriptor yX11_piece.desc).map (fun d => d.parameters.length) = some 2 := by decide +kernel
theorem dm_X12_piece : yX12_piece.cls = RX12 ∧ yX12_piece.cls ≠ "java/lang/invoke/MethodHandle" ∧ yX12_piece.cls ≠ "java/lang/invoke/VarHandle" ∧ (parseMethodDescriptor yX12_piece.desc).map (fun d => d.parameters.length) = some 2 := by decide +kernel
theorem dm_X11_burn : yX11_burn.cls = RX11 ∧ yX11_burn.cls ≠ "java/lang/invoke/MethodHandle" ∧ yX11_burn.cls ≠ "java/lang/invoke/VarHandle" ∧ (parseMethodDescriptor yX11_burn.desc).map (fun d => d.parameters.length) = some 0 := by decide +kernel
theorem dm_X12_burn : yX12_burn.cls = RX12 ∧ yX12_burn.cls ≠ "java/lang/invoke/MethodHandle" ∧ yX12_burn.cls ≠ "java/lang/invoke/VarHandle" ∧ (parseMethodDescriptor yX12_burn.desc).map (fun d => d.parameters.length) = some 0 := by decide +kernel
theorem dm_X11_join : yX11_join.cls = RX11 ∧ yX11_join.cls ≠ "java/lang/invoke/MethodHandle" ∧ yX11_join.cls ≠ "java/lang/invoke/VarHandle" ∧ (parseMethodDescriptor yX11_join.desc).map (fun d => d.parameters.length) = some 0 := by decide +kernel
theorem dm_X12_join : yX12_join.cls = RX12 ∧ yX12_join.cls ≠ "java/lang/invoke/MethodHandle" ∧ yX12_join.cls ≠ "java/lang/invoke/VarHandle" ∧ (parseMethodDescriptor yX12_join.desc).map (fun d => d.parameters.length) = some 0 := by decide +kernel
theorem dm_X11_keep : yX11_keep.cls = RX11 ∧ yX11_keep.cls ≠ "java/lang/invoke/MethodHandle" ∧ yX11_keep.cls ≠ "java/lang/invoke/VarHandle" ∧ (parseMethodDescriptor yX11_keep.desc).map (fun d => d.parameters.length) = some 2 := by decide +kernel
theorem dm_X12_keep : yX12_keep.cls = RX12 ∧ yX12_keep.cls ≠ "java/lang/invoke/MethodHandle" ∧ yX12_keep.cls ≠ "java/lang/invoke/VarHandle" ∧ (parseMethodDescriptor yX12_keep.desc).map (fun d => d.parameters.length) = some 2 := by decide +kernel
theorem dm_X11_known : yX11_known.cls = RX11 ∧ yX11_known.cls ≠ "java/lang/invoke/MethodHandle" ∧ yX11_known.cls ≠ "java/lang/invoke/VarHandle" ∧ (parseMethodDescriptor yX11_known.desc).map (fun d => d.parameters.length) = some 2 := by decide +kernel
theorem dm_X12_known : yX12_known.cls = RX12 ∧ yX12_known.cls ≠ "java/lang/invoke/MethodHandle" ∧ yX12_known.cls ≠ "java/lang/invoke/VarHandle" ∧ (parseMethodDescriptor yX12_known.desc).map (fun d => d.parameters.length) = some 2 := by decide +kernel
theorem dm_X11_fetch : yX11_fetch.cls = RX11 ∧ yX11_fetch.cls ≠ "java/lang/invoke/MethodHandle" ∧ yX11_fetch.cls ≠ "java/lang/invoke/VarHandle" ∧ (parseMethodDescriptor yX11_fetch.desc).map (fun d => d.parameters.length) = some 1 := by decide +kernel
theorem dm_X12_fetch : yX12_fetch.cls = RX12 ∧ yX12_fetch.cls ≠ "java/lang/invoke/MethodHandle" ∧ yX12_fetch.cls ≠ "java/lang/invoke/VarHandle" ∧ (parseMethodDescriptor yX12_fetch.desc).map (fun d => d.parameters.length) = some 1 := by decide +kernel
theorem dm_X11_edits : yX11_edits.cls = RX11 ∧ yX11_edits.cls ≠ "java/lang/invoke/MethodHandle" ∧ yX11_edits.cls ≠ "java/lang/invoke/VarHandle" ∧ (parseMethodDescriptor yX11_edits.desc).map (fun d => d.parameters.length) = some 2 := by decide +kernel
theorem dm_X12_edits : yX12_edits.cls = RX12 ∧ yX12_edits.cls ≠ "java/lang/invoke/MethodHandle" ∧ yX12_edits.cls ≠ "java/lang/invoke/VarHandle" ∧ (parseMethodDescriptor yX12_edits.desc).map (fun d => d.parameters.length) = some 2 := by decide +kernel
theorem dm_L_row : yL_row.cls = RL ∧ yL_row.cls ≠ "java/lang/invoke/MethodHandle" ∧ yL_row.cls ≠ "java/lang/invoke/VarHandle" ∧ (parseMethodDescriptor yL_row.desc).map (fun d => d.parameters.length) = some 3 := by decide +kernel
theorem dm_X12_row : yX12_row.cls = RX12 ∧ yX12_row.cls ≠ "java/lang/invoke/MethodHandle" ∧ yX12_row.cls ≠ "java/lang/invoke/VarHandle" ∧ (parseMethodDescriptor yX12_row.desc).map (fun d => d.parameters.length) = some 1 := by decide +kernel
set_option maxHeartbeats 4000000 in
set_option maxRecDepth 100000 in
theorem lc_0 {p : Program} {e : Env} {s : State} {m : MethodId} {below : List Frame} {meth : Method} {c : Code} {l : Launch} (hst : l.stackTraces = false) {b0 L n : Nat} {xs : Nat → Int32} (hL : L ≤ 2560) (C0 : lw_At p s m meth c b0 L xs) {D : va_G} {dA : Nat → ClassId} (hK : zKK D vwCl (z_tys dA) s) (hTw : zTw s) (hZ0 : zZ (yA s.heap.size) s s.heap) (hn : n + 5 ≤ L) {H : Heap} {locs : List Loc} {cells slots : Nat} {ls : Array Slot} {MC MR MO : zM} (hI : INV MC MR) (hS : LW3 D dA s.heap.size MC MR MO H) (hS0 : va_S (yA s.heap.size) s.heap H locs) (hl : lv_has ls 8 [(4, .int (iI (n : Int))), (3, .ref (s.heap.size + 168 + 0)), (2, .ref (s.heap.size + 134 + 0)), (1, .ref (s.heap.size + 0)), (0, .ref b0)]) (hcc : cells + 1 ≤ 601024) (hss : slots + 6 ≤ 7293034)
    (kk : ∀ (MC1 MR1 MO1 : zM) (H1 : Heap) (locs1 : List Loc) (c1 s1 : Nat) (ls1 : Array Slot), INV MC1 MR1 → LW3 D dA s.heap.size MC1 MR1 MO1 H1 → c1 ≤ cells + 1 → s1 ≤ slots + 6 → va_S (yA s.heap.size) s.heap H1 locs1 → lv_has ls1 8 [(4, .int (iI (n : Int))), (3, .ref (s.heap.size + 168 + 0)), (2, .ref (s.heap.size + 134 + 0)), (1, .ref (s.heap.size + 0)), (0, .ref b0)] → W p l e room_1 s m #[Value.ref b0] below meth c H1 locs1 c1 s1 (lw_Z below #[Value.ref b0] s) (F0 m 1585 ls1 [])) :
    W p l e room_1 s m #[Value.ref b0] below meth c H locs cells slots (lw_Z below #[Value.ref b0] s) (F0 m 228 ls []) := by
  obtain ⟨hx, hb, hr, hml, hown, htsL, hX, hbl, hlocks, hgv⟩ := id C0
  have hts := l_hts htsL
  have hbA : ¬ yA s.heap.size b0 := Nat.not_le.mpr hbl
  have hLb : L < 2147483648 := by omega
  obtain ⟨v1, rv1, ev1⟩ := iI_of (xs (n + 1))
  refine lv_aload_n hx hb dL_law_228 rfl (lv_at hl 3 rfl) ?_
  refine lv_aload_n hx hb dL_law_229 rfl (lv_at hl 4 rfl) ?_
  refine lv_iload hx hb dL_law_230 (lv_at hl 0 rfl) ?_
  refine z_iconst hx hb dL_law_232 ?_
  refine z_iadd hx hb dL_law_233 ?_
  refine l_sld hx hb hX hbl hbA hS0 (k := n + 1) (v := v1) (by omega) (by omega) hLb ev1 dL_law_234 ?_
  have h1 := st_sign hI (a0 := v1) rv1
  refine l_wCi (va_runV (As := [.int (iI v1)]) (rest := []) ⟨hx, hb, hml, hown, hts⟩ (cC_sign l D dA s.heap.size MC v1 _ h1) (cwV 1 hts (z_gV k264 k265 k266 k1 k267) rfl rfl rfl dm_X11_sign ⟨(Nat.le_of_ble_eq_true rfl), (Nat.le_of_ble_eq_true rfl)⟩) ⟨wPre_blind, w_recv hS.1 hK.1 (by decide) (zkd_of (rfl : zcd wC 0 = 0) rfl) (by decide) (rfl : vwCl[11]? = some (RX11, TX11, 11)), w_pre hS.1 hK⟩ rfl rfl hl.1 rfl (lv_room (Nat.le_of_ble_eq_true rfl)) dL_law_235 ⟨(by show cells + 0 ≤ 601024; omega), (by show slots + 0 ≤ 7293034; omega)⟩) hS hS0 (fun z2 M3 H locs r4 hp5 hS hS0 => ?_)
  refine lv_pop hx hb dL_law_238 rfl ?_
  refine lv_aload_n hx hb dL_law_239 rfl (lv_at hl 2 rfl) ?_
  refine lv_aload_n hx hb dL_law_240 rfl (lv_at hl 4 rfl) ?_
  refine lv_iload hx hb dL_law_241 (lv_at hl 0 rfl) ?_
  refine z_iconst hx hb dL_law_243 ?_
  refine z_iadd hx hb dL_law_244 ?_
  refine l_sld hx hb hX hbl hbA hS0 (k := n + 1) (v := v1) (by omega) (by omega) hLb ev1 dL_law_245 ?_
  refine l_wRi (va_runV (As := [.int (iI v1)]) (rest := []) ⟨hx, hb, hml, hown, hts⟩ (cR_sign l D dA (s.heap.size + 134) MR v1 _ hp5) (cwV 1 hts (z_gV k1046 k1047 k1048 k14 k1049) rfl rfl rfl dm_X12_sign ⟨(Nat.le_of_ble_eq_true rfl), (Nat.le_of_ble_eq_true rfl)⟩) ⟨wPre_blind, w_recv hS.2.1 hK.1 (by decide) (zkd_of (rfl : zcd wR 0 = 50) rfl) (by decide) (rfl : vwCl[12]? = some (RX12, TX12, 50)), w_pre hS.2.1 hK⟩ rfl rfl hl.1 rfl (lv_room (Nat.le_of_ble_eq_true rfl)) dL_law_246 ⟨(by show cells + 0 ≤ 601024; omega), (by show slots + 0 ≤ 7293034; omega)⟩) hS hS0 (fun z6 M7 H locs r8 hp9 hS hS0 => ?_)
  have hE9 := hp9.2
  have hI := hp9.1
  refine lv_pop hx hb dL_law_249 rfl ?_
  refine lv_goto (tgt := 1585) hx hb dL_law_250 (by decide) ?_
  exact kk _ _ _ H locs _ _ ls hI hS (by omega) (by omega) hS0 (lv_sub hl [0, 1, 2, 3, 4] rfl)

set_option maxHeartbeats 4000000 in
set_option maxRecDepth 100000 in
theorem lc_1 {p : Program} {e : Env} {s : State} {m : MethodId} {below : List Frame} {meth : Method} {c : Code} {l : Launch} (hst : l.stackTraces = false) {b0 L n : Nat} {xs : Nat → Int32} (hL : L ≤ 2560) (C0 : lw_At p s m meth c b0 L xs) {D : va_G} {dA : Nat → ClassId} (hK : zKK D vwCl (z_tys dA) s) (hTw : zTw s) (hZ0 : zZ (yA s.heap.size) s s.heap) (hn : n + 5 ≤ L) {H : Heap} {locs : List Loc} {cells slots : Nat} {ls : Array Slot} {MC MR MO : zM} (hI : INV MC MR) (hS : LW3 D dA s.heap.size MC MR MO H) (hS0 : va_S (yA s.heap.size) s.heap H locs) (hl : lv_has ls 8 [(4, .int (iI (n : Int))), (3, .ref (s.heap.size + 168 + 0)), (2, .ref (s.heap.size + 134 + 0)), (1, .ref (s.heap.size + 0)), (0, .ref b0)]) (hcc : cells + 1 ≤ 601024) (hss : slots + 6 ≤ 7293034)
    (kk : ∀ (MC1 MR1 MO1 : zM) (H1 : Heap) (locs1 : List Loc) (c1 s1 : Nat) (ls1 : Array Slot), INV MC1 MR1 → LW3 D dA s.heap.size MC1 MR1 MO1 H1 → c1 ≤ cells + 1 → s1 ≤ slots + 6 → va_S (yA s.heap.size) s.heap H1 locs1 → lv_has ls1 8 [(4, .int (iI (n : Int))), (3, .ref (s.heap.size + 168 + 0)), (2, .ref (s.heap.size + 134 + 0)), (1, .ref (s.heap.size + 0)), (0, .ref b0)] → W p l e room_1 s m #[Value.ref b0] below meth c H1 locs1 c1 s1 (lw_Z below #[Value.ref b0] s) (F0 m 1585 ls1 [])) :
    W p l e room_1 s m #[Value.ref b0] below meth c H locs cells slots (lw_Z below #[Value.ref b0] s) (F0 m 253 ls []) := by
  obtain ⟨hx, hb, hr, hml, hown, htsL, hX, hbl, hlocks, hgv⟩ := id C0
  have hts := l_hts htsL
  have hbA : ¬ yA s.heap.size b0 := Nat.not_le.mpr hbl
  have hLb : L < 2147483648 := by omega
  obtain ⟨v1, rv1, ev1⟩ := iI_of (xs (n + 1))
  refine lv_aload_n hx hb dL_law_253 rfl (lv_at hl 3 rfl) ?_
  refine lv_aload_n hx hb dL_law_254 rfl (lv_at hl 4 rfl) ?_
  refine lv_iload hx hb dL_law_255 (lv_at hl 0 rfl) ?_
  refine z_iconst hx hb dL_law_257 ?_
  refine z_iadd hx hb dL_law_258 ?_
  refine l_sld hx hb hX hbl hbA hS0 (k := n + 1) (v := v1) (by omega) (by omega) hLb ev1 dL_law_259 ?_
  have h1 := st_end hI (a0 := v1) rv1
  refine l_wCz (va_runV (As := [.int (iI v1)]) (rest := []) ⟨hx, hb, hml, hown, hts⟩ (cC_end l D dA s.heap.size MC v1 _ h1) (cwV 1 hts (z_gV k272 k273 k274 k1 k275) rfl rfl rfl dm_X11_end ⟨(Nat.le_of_ble_eq_true rfl), (Nat.le_of_ble_eq_true rfl)⟩) ⟨wPre_blind, w_recv hS.1 hK.1 (by decide) (zkd_of (rfl : zcd wC 0 = 0) rfl) (by decide) (rfl : vwCl[11]? = some (RX11, TX11, 11)), w_pre hS.1 hK⟩ rfl rfl hl.1 rfl (lv_room (Nat.le_of_ble_eq_true rfl)) dL_law_260 ⟨(by show cells + 0 ≤ 601024; omega), (by show slots + 0 ≤ 7293034; omega)⟩) hS hS0 (fun z2 M3 H locs r4 hp5 hS hS0 => ?_)
  refine lv_pop hx hb dL_law_263 rfl ?_
  refine lv_aload_n hx hb dL_law_264 rfl (lv_at hl 2 rfl) ?_
  refine lv_aload_n hx hb dL_law_265 rfl (lv_at hl 4 rfl) ?_
  refine lv_iload hx hb dL_law_266 (lv_at hl 0 rfl) ?_
  refine z_iconst hx hb dL_law_268 ?_
  refine z_iadd hx hb dL_law_269 ?_
  refine l_sld hx hb hX hbl hbA hS0 (k := n + 1) (v := v1) (by omega) (by omega) hLb ev1 dL_law_270 ?_
  refine l_wRz (va_runV (As := [.int (iI v1)]) (rest := []) ⟨hx, hb, hml, hown, hts⟩ (cR_end l D dA (s.heap.size + 134) MR v1 _ hp5) (cwV 1 hts (z_gV k1050 k1051 k1052 k14 k1053) rfl rfl rfl dm_X12_end ⟨(Nat.le_of_ble_eq_true rfl), (Nat.le_of_ble_eq_true rfl)⟩) ⟨wPre_blind, w_recv hS.2.1 hK.1 (by decide) (zkd_of (rfl : zcd wR 0 = 50) rfl) (by decide) (rfl : vwCl[12]? = some (RX12, TX12, 50)), w_pre hS.2.1 hK⟩ rfl rfl hl.1 rfl (lv_room (Nat.le_of_ble_eq_true rfl)) dL_law_271 ⟨(by show cells + 0 ≤ 601024; omega), (by show slots + 0 ≤ 7293034; omega)⟩) hS hS0 (fun z6 M7 H locs r8 hp9 hS hS0 => ?_)
  have hE9 := hp9.2
  have hI := hp9.1
  refine lv_pop hx hb dL_law_274 rfl ?_
  refine lv_goto (tgt := 1585) hx hb dL_law_275 (by decide) ?_
  exact kk _ _ _ H locs _ _ ls hI hS (by omega) (by omega) hS0 (lv_sub hl [0, 1, 2, 3, 4] rfl)

set_option maxHeartbeats 4000000 in
set_option maxRecDepth 100000 in
theorem lc_2 {p : Program} {e : Env} {s : State} {m : MethodId} {below : List Frame} {meth : Method} {c : Code} {l : Launch} (hst : l.stackTraces = false) {b0 L n : Nat} {xs : Nat → Int32} (hL : L ≤ 2560) (C0 : lw_At p s m meth c b0 L xs) {D : va_G} {dA : Nat → ClassId} (hK : zKK D vwCl (z_tys dA) s) (hTw : zTw s) (hZ0 : zZ (yA s.heap.size) s s.heap) (hn : n + 5 ≤ L) {H : Heap} {locs : List Loc} {cells slots : Nat} {ls : Array Slot} {MC MR MO : zM} (hI : INV MC MR) (hS : LW3 D dA s.heap.size MC MR MO H) (hS0 : va_S (yA s.heap.size) s.heap H locs) (hl : lv_has ls 8 [(4, .int (iI (n : Int))), (3, .ref (s.heap.size + 168 + 0)), (2, .ref (s.heap.size + 134 + 0)), (1, .ref (s.heap.size + 0)), (0, .ref b0)]) (hcc : cells + 1 ≤ 601024) (hss : slots + 6 ≤ 7293034)
    (kk : ∀ (MC1 MR1 MO1 : zM) (H1 : Heap) (locs1 : List Loc) (c1 s1 : Nat) (ls1 : Array Slot), INV MC1 MR1 → LW3 D dA s.heap.size MC1 MR1 MO1 H1 → c1 ≤ cells + 1 → s1 ≤ slots + 6 → va_S (yA s.heap.size) s.heap H1 locs1 → lv_has ls1 8 [(4, .int (iI (n : Int))), (3, .ref (s.heap.size + 168 + 0)), (2, .ref (s.heap.size + 134 + 0)), (1, .ref (s.heap.size + 0)), (0, .ref b0)] → W p l e room_1 s m #[Value.ref b0] below meth c H1 locs1 c1 s1 (lw_Z below #[Value.ref b0] s) (F0 m 1585 ls1 [])) :
    W p l e room_1 s m #[Value.ref b0] below meth c H locs cells slots (lw_Z below #[Value.ref b0] s) (F0 m 278 ls []) := by
  obtain ⟨hx, hb, hr, hml, hown, htsL, hX, hbl, hlocks, hgv⟩ := id C0
  have hts := l_hts htsL
  have hbA : ¬ yA s.heap.size b0 := Nat.not_le.mpr hbl
  have hLb : L < 2147483648 := by omega
  refine lv_aload_n hx hb dL_law_278 rfl (lv_at hl 3 rfl) ?_
  have h1 := st_splice hI  
  refine l_wCi (va_runV (As := []) (rest := []) ⟨hx, hb, hml, hown, hts⟩ (cC_splice l D dA s.heap.size MC  _ h1) (cwV 0 hts (z_gV k280 k281 k282 k1 k283) rfl rfl rfl dm_X11_splice ⟨(Nat.le_of_ble_eq_true rfl), (Nat.le_of_ble_eq_true rfl)⟩) ⟨wPre_blind, w_recv hS.1 hK.1 (by decide) (zkd_of (rfl : zcd wC 0 = 0) rfl) (by decide) (rfl : vwCl[11]? = some (RX11, TX11, 11)), w_pre hS.1 hK⟩ rfl rfl hl.1 rfl (lv_room (Nat.le_of_ble_eq_true rfl)) dL_law_279 ⟨(by show cells + 0 ≤ 601024; omega), (by show slots + 0 ≤ 7293034; omega)⟩) hS hS0 (fun z2 M3 H locs r4 hp5 hS hS0 => ?_)
  refine lv_pop hx hb dL_law_282 rfl ?_
  refine lv_aload_n hx hb dL_law_283 rfl (lv_at hl 2 rfl) ?_
  refine l_wRi (va_runV (As := []) (rest := []) ⟨hx, hb, hml, hown, hts⟩ (cR_splice l D dA (s.heap.size + 134) MR  _ hp5) (cwV 0 hts (z_gV k1054 k1055 k1056 k14 k1057) rfl rfl rfl dm_X12_splice ⟨(Nat.le_of_ble_eq_true rfl), (Nat.le_of_ble_eq_true rfl)⟩) ⟨wPre_blind, w_recv hS.2.1 hK.1 (by decide) (zkd_of (rfl : zcd wR 0 = 50) rfl) (by decide) (rfl : vwCl[12]? = some (RX12, TX12, 50)), w_pre hS.2.1 hK⟩ rfl rfl hl.1 rfl (lv_room (Nat.le_of_ble_eq_true rfl)) dL_law_284 ⟨(by show cells + 0 ≤ 601024; omega), (by show slots + 0 ≤ 7293034; omega)⟩) hS hS0 (fun z6 M7 H locs r8 hp9 hS hS0 => ?_)
  have hE9 := hp9.2
  have hI := hp9.1
  refine lv_pop hx hb dL_law_287 rfl ?_
  refine lv_goto (tgt := 1585) hx hb dL_law_288 (by decide) ?_
  exact kk _ _ _ H locs _ _ ls hI hS (by omega) (by omega) hS0 (lv_sub hl [0, 1, 2, 3, 4] rfl)

set_option maxHeartbeats 4000000 in
set_option maxRecDepth 100000 in
theorem lc_3 {p : Program} {e : Env} {s : State} {m : MethodId} {below : List Frame} {meth : Method} {c : Code} {l : Launch} (hst : l.stackTraces = false) {b0 L n : Nat} {xs : Nat → Int32} (hL : L ≤ 2560) (C0 : lw_At p s m meth c b0 L xs) {D : va_G} {dA : Nat → ClassId} (hK : zKK D vwCl (z_tys dA) s) (hTw : zTw s) (hZ0 : zZ (yA s.heap.size) s s.heap) (hn : n + 5 ≤ L) {H : Heap} {locs : List Loc} {cells slots : Nat} {ls : Array Slot} {MC MR MO : zM} (hI : INV MC MR) (hS : LW3 D dA s.heap.size MC MR MO H) (hS0 : va_S (yA s.heap.size) s.heap H locs) (hl : lv_has ls 8 [(4, .int (iI (n : Int))), (3, .ref (s.heap.size + 168 + 0)), (2, .ref (s.heap.size + 134 + 0)), (1, .ref (s.heap.size + 0)), (0, .ref b0)]) (hcc : cells + 1 ≤ 601024) (hss : slots + 6 ≤ 7293034)
    (kk : ∀ (MC1 MR1 MO1 : zM) (H1 : Heap) (locs1 : List Loc) (c1 s1 : Nat) (ls1 : Array Slot), INV MC1 MR1 → LW3 D dA s.heap.size MC1 MR1 MO1 H1 → c1 ≤ cells + 1 → s1 ≤ slots + 6 → va_S (yA s.heap.size) s.heap H1 locs1 → lv_has ls1 8 [(4, .int (iI (n : Int))), (3, .ref (s.heap.size + 168 + 0)), (2, .ref (s.heap.size + 134 + 0)), (1, .ref (s.heap.size + 0)), (0, .ref b0)] → W p l e room_1 s m #[Value.ref b0] below meth c H1 locs1 c1 s1 (lw_Z below #[Value.ref b0] s) (F0 m 1585 ls1 [])) :
    W p l e room_1 s m #[Value.ref b0] below meth c H locs cells slots (lw_Z below #[Value.ref b0] s) (F0 m 291 ls []) := by
  obtain ⟨hx, hb, hr, hml, hown, htsL, hX, hbl, hlocks, hgv⟩ := id C0
  have hts := l_hts htsL
  have hbA : ¬ yA s.heap.size b0 := Nat.not_le.mpr hbl
  have hLb : L < 2147483648 := by omega
  obtain ⟨v1, rv1, ev1⟩ := iI_of (xs (n + 1))
  refine lv_aload_n hx hb dL_law_291 rfl (lv_at hl 3 rfl) ?_
  refine lv_aload_n hx hb dL_law_292 rfl (lv_at hl 4 rfl) ?_
  refine lv_iload hx hb dL_law_293 (lv_at hl 0 rfl) ?_
  refine z_iconst hx hb dL_law_295 ?_
  refine z_iadd hx hb dL_law_296 ?_
  refine l_sld hx hb hX hbl hbA hS0 (k := n + 1) (v := v1) (by omega) (by omega) hLb ev1 dL_law_297 ?_
  have h1 := st_hand hI (a0 := v1) rv1
  refine l_wCi (va_runV (As := [.int (iI v1)]) (rest := []) ⟨hx, hb, hml, hown, hts⟩ (cC_hand l D dA s.heap.size MC v1 _ h1) (cwV 1 hts (z_gV k367 k368 k369 k1 k370) rfl rfl rfl dm_X11_hand ⟨(Nat.le_of_ble_eq_true rfl), (Nat.le_of_ble_eq_true rfl)⟩) ⟨wPre_blind, w_recv hS.1 hK.1 (by decide) (zkd_of (rfl : zcd wC 0 = 0) rfl) (by decide) (rfl : vwCl[11]? = some (RX11, TX11, 11)), w_pre hS.1 hK⟩ rfl rfl hl.1 rfl (lv_room (Nat.le_of_ble_eq_true rfl)) dL_law_298 ⟨(by show cells + 0 ≤ 601024; omega), (by show slots + 0 ≤ 7293034; omega)⟩) hS hS0 (fun z2 M3 H locs r4 hp5 hS hS0 => ?_)
  obtain ⟨hu7, hp5⟩ := hp5
  rw [hu7] at hS
  refine lv_pop hx hb dL_law_301 rfl ?_
  refine lv_aload_n hx hb dL_law_302 rfl (lv_at hl 2 rfl) ?_
  refine lv_aload_n hx hb dL_law_303 rfl (lv_at hl 4 rfl) ?_
  refine lv_iload hx hb dL_law_304 (lv_at hl 0 rfl) ?_
  refine z_iconst hx hb dL_law_306 ?_
  refine z_iadd hx hb dL_law_307 ?_
  refine l_sld hx hb hX hbl hbA hS0 (k := n + 1) (v := v1) (by omega) (by omega) hLb ev1 dL_law_308 ?_
  refine l_wRi (va_runV (As := [.int (iI v1)]) (rest := []) ⟨hx, hb, hml, hown, hts⟩ (cR_hand l D dA (s.heap.size + 134) MR v1 _ hp5) (cwV 1 hts (z_gV k1079 k1080 k1081 k14 k1082) rfl rfl rfl dm_X12_hand ⟨(Nat.le_of_ble_eq_true rfl), (Nat.le_of_ble_eq_true rfl)⟩) ⟨wPre_blind, w_recv hS.2.1 hK.1 (by decide) (zkd_of (rfl : zcd wR 0 = 50) rfl) (by decide) (rfl : vwCl[12]? = some (RX12, TX12, 50)), w_pre hS.2.1 hK⟩ rfl rfl hl.1 rfl (lv_room (Nat.le_of_ble_eq_true rfl)) dL_law_309 ⟨(by show cells + 0 ≤ 601024; omega), (by show slots + 0 ≤ 7293034; omega)⟩) hS hS0 (fun z6 M7 H locs r8 hp9 hS hS0 => ?_)
  have hE9 := hp9.2
  have hI := hp9.1
  refine lv_pop hx hb dL_law_312 rfl ?_
  refine lv_goto (tgt := 1585) hx hb dL_law_313 (by decide) ?_
  exact kk _ _ _ H locs _ _ ls hI hS (by omega) (by omega) hS0 (lv_sub hl [0, 1, 2, 3, 4] rfl)

set_option maxHeartbeats 4000000 in
set_option maxRecDepth 100000 in
theorem lc_4 {p : Program} {e : Env} {s : State} {m : MethodId} {below : List Frame} {meth : Method} {c : Code} {l : Launch} (hst : l.stackTraces = false) {b0 L n : Nat} {xs : Nat → Int32} (hL : L ≤ 2560) (C0 : lw_At p s m meth c b0 L xs) {D : va_G} {dA : Nat → ClassId} (hK : zKK D vwCl (z_tys dA) s) (hTw : zTw s) (hZ0 : zZ (yA s.heap.size) s s.heap) (hn : n + 5 ≤ L) {H : Heap} {locs : List Loc} {cells slots : Nat} {ls : Array Slot} {MC MR MO : zM} (hI : INV MC MR) (hS : LW3 D dA s.heap.size MC MR MO H) (hS0 : va_S (yA s.heap.size) s.heap H locs) (hl : lv_has ls 8 [(4, .int (iI (n : Int))), (3, .ref (s.heap.size + 168 + 0)), (2, .ref (s.heap.size + 134 + 0)), (1, .ref (s.heap.size + 0)), (0, .ref b0)]) (hcc : cells + 1 ≤ 601024) (hss : slots + 6 ≤ 7293034)
    (kk : ∀ (MC1 MR1 MO1 : zM) (H1 : Heap) (locs1 : List Loc) (c1 s1 : Nat) (ls1 : Array Slot), INV MC1 MR1 → LW3 D dA s.heap.size MC1 MR1 MO1 H1 → c1 ≤ cells + 1 → s1 ≤ slots + 6 → va_S (yA s.heap.size) s.heap H1 locs1 → lv_has ls1 8 [(4, .int (iI (n : Int))), (3, .ref (s.heap.size + 168 + 0)), (2, .ref (s.heap.size + 134 + 0)), (1, .ref (s.heap.size + 0)), (0, .ref b0)] → W p l e room_1 s m #[Value.ref b0] below meth c H1 locs1 c1 s1 (lw_Z below #[Value.ref b0] s) (F0 m 1585 ls1 [])) :
    W p l e room_1 s m #[Value.ref b0] below meth c H locs cells slots (lw_Z below #[Value.ref b0] s) (F0 m 316 ls []) := by
  obtain ⟨hx, hb, hr, hml, hown, htsL, hX, hbl, hlocks, hgv⟩ := id C0
  have hts := l_hts htsL
  have hbA : ¬ yA s.heap.size b0 := Nat.not_le.mpr hbl
  have hLb : L < 2147483648 := by omega
  obtain ⟨v1, rv1, ev1⟩ := iI_of (xs (n + 1))
  obtain ⟨v2, rv2, ev2⟩ := iI_of (xs (n + 2))
  refine lv_aload_n hx hb dL_law_316 rfl (lv_at hl 3 rfl) ?_
  refine lv_aload_n hx hb dL_law_317 rfl (lv_at hl 4 rfl) ?_
  refine lv_iload hx hb dL_law_318 (lv_at hl 0 rfl) ?_
  refine z_iconst hx hb dL_law_320 ?_
  refine z_iadd hx hb dL_law_321 ?_
  refine l_sld hx hb hX hbl hbA hS0 (k := n + 1) (v := v1) (by omega) (by omega) hLb ev1 dL_law_322 ?_
  refine lv_aload_n hx hb dL_law_323 rfl (lv_at hl 4 rfl) ?_
  refine lv_iload hx hb dL_law_324 (lv_at hl 0 rfl) ?_
  refine z_iconst hx hb dL_law_326 ?_
  refine z_iadd hx hb dL_law_327 ?_
  refine l_sld hx hb hX hbl hbA hS0 (k := n + 2) (v := v2) (by omega) (by omega) hLb ev2 dL_law_328 ?_
  have h1 := st_ring hI (a0 := v1) (a1 := v2) rv1 rv2
  refine l_wCi (va_runV (As := [.int (iI v1), .int (iI v2)]) (rest := []) ⟨hx, hb, hml, hown, hts⟩ (cC_ring l D dA s.heap.size MC v1 v2 _ h1) (cwV 2 hts (z_gV k375 k376 k377 k1 k378) rfl rfl rfl dm_X11_ring ⟨(Nat.le_of_ble_eq_true rfl), (Nat.le_of_ble_eq_true rfl)⟩) ⟨wPre_blind, w_recv hS.1 hK.1 (by decide) (zkd_of (rfl : zcd wC 0 = 0) rfl) (by decide) (rfl : vwCl[11]? = some (RX11, TX11, 11)), w_pre hS.1 hK⟩ rfl rfl hl.1 rfl (lv_room (Nat.le_of_ble_eq_true rfl)) dL_law_329 ⟨(by show cells + 0 ≤ 601024; omega), (by show slots + 0 ≤ 7293034; omega)⟩) hS hS0 (fun z2 M3 H locs r4 hp5 hS hS0 => ?_)
  refine lv_pop hx hb dL_law_332 rfl ?_
  refine lv_aload_n hx hb dL_law_333 rfl (lv_at hl 2 rfl) ?_
  refine lv_aload_n hx hb dL_law_334 rfl (lv_at hl 4 rfl) ?_
  refine lv_iload hx hb dL_law_335 (lv_at hl 0 rfl) ?_
  refine z_iconst hx hb dL_law_337 ?_
  refine z_iadd hx hb dL_law_338 ?_
  refine l_sld hx hb hX hbl hbA hS0 (k := n + 1) (v := v1) (by omega) (by omega) hLb ev1 dL_law_339 ?_
  refine lv_aload_n hx hb dL_law_340 rfl (lv_at hl 4 rfl) ?_
  refine lv_iload hx hb dL_law_341 (lv_at hl 0 rfl) ?_
  refine z_iconst hx hb dL_law_343 ?_
  refine z_iadd hx hb dL_law_344 ?_
  refine l_sld hx hb hX hbl hbA hS0 (k := n + 2) (v := v2) (by omega) (by omega) hLb ev2 dL_law_345 ?_
  refine l_wRi (va_runV (As := [.int (iI v1), .int (iI v2)]) (rest := []) ⟨hx, hb, hml, hown, hts⟩ (cR_ring l D dA (s.heap.size + 134) MR v1 v2 _ hp5) (cwV 2 hts (z_gV k1086 k1087 k1088 k14 k1089) rfl rfl rfl dm_X12_ring ⟨(Nat.le_of_ble_eq_true rfl), (Nat.le_of_ble_eq_true rfl)⟩) ⟨wPre_blind, w_recv hS.2.1 hK.1 (by decide) (zkd_of (rfl : zcd wR 0 = 50) rfl) (by decide) (rfl : vwCl[12]? = some (RX12, TX12, 50)), w_pre hS.2.1 hK⟩ rfl rfl hl.1 rfl (lv_room (Nat.le_of_ble_eq_true rfl)) dL_law_346 ⟨(by show cells + 0 ≤ 601024; omega), (by show slots + 0 ≤ 7293034; omega)⟩) hS hS0 (fun z6 M7 H locs r8 hp9 hS hS0 => ?_)
  have hE9 := hp9.2
  have hI := hp9.1
  refine lv_pop hx hb dL_law_349 rfl ?_
  refine lv_goto (tgt := 1585) hx hb dL_law_350 (by decide) ?_
  exact kk _ _ _ H locs _ _ ls hI hS (by omega) (by omega) hS0 (lv_sub hl [0, 1, 2, 3, 4] rfl)

set_option maxHeartbeats 4000000 in
set_option maxRecDepth 100000 in
theorem lc_5 {p : Program} {e : Env} {s : State} {m : MethodId} {below : List Frame} {meth : Method} {c : Code} {l : Launch} (hst : l.stackTraces = false) {b0 L n : Nat} {xs : Nat → Int32} (hL : L ≤ 2560) (C0 : lw_At p s m meth c b0 L xs) {D : va_G} {dA : Nat → ClassId} (hK : zKK D vwCl (z_tys dA) s) (hTw : zTw s) (hZ0 : zZ (yA s.heap.size) s s.heap) (hn : n + 5 ≤ L) {H : Heap} {locs : List Loc} {cells slots : Nat} {ls : Array Slot} {MC MR MO : zM} (hI : INV MC MR) (hS : LW3 D dA s.heap.size MC MR MO H) (hS0 : va_S (yA s.heap.size) s.heap H locs) (hl : lv_has ls 8 [(4, .int (iI (n : Int))), (3, .ref (s.heap.size + 168 + 0)), (2, .ref (s.heap.size + 134 + 0)), (1, .ref (s.heap.size + 0)), (0, .ref b0)]) (hcc : cells + 1 ≤ 601024) (hss : slots + 6 ≤ 7293034)
    (kk : ∀ (MC1 MR1 MO1 : zM) (H1 : Heap) (locs1 : List Loc) (c1 s1 : Nat) (ls1 : Array Slot), INV MC1 MR1 → LW3 D dA s.heap.size MC1 MR1 MO1 H1 → c1 ≤ cells + 1 → s1 ≤ slots + 6 → va_S (yA s.heap.size) s.heap H1 locs1 → lv_has ls1 8 [(4, .int (iI (n : Int))), (3, .ref (s.heap.size + 168 + 0)), (2, .ref (s.heap.size + 134 + 0)), (1, .ref (s.heap.size + 0)), (0, .ref b0)] → W p l e room_1 s m #[Value.ref b0] below meth c H1 locs1 c1 s1 (lw_Z below #[Value.ref b0] s) (F0 m 1585 ls1 [])) :
    W p l e room_1 s m #[Value.ref b0] below meth c H locs cells slots (lw_Z below #[Value.ref b0] s) (F0 m 353 ls []) := by
  obtain ⟨hx, hb, hr, hml, hown, htsL, hX, hbl, hlocks, hgv⟩ := id C0
  have hts := l_hts htsL
  have hbA : ¬ yA s.heap.size b0 := Nat.not_le.mpr hbl
  have hLb : L < 2147483648 := by omega
  obtain ⟨v1, rv1, ev1⟩ := iI_of (xs (n + 1))
  obtain ⟨v2, rv2, ev2⟩ := iI_of (xs (n + 2))
  obtain ⟨v3, rv3, ev3⟩ := iI_of (xs (n + 3))
  refine lv_aload_n hx hb dL_law_353 rfl (lv_at hl 3 rfl) ?_
  refine lv_aload_n hx hb dL_law_354 rfl (lv_at hl 4 rfl) ?_
  refine lv_iload hx hb dL_law_355 (lv_at hl 0 rfl) ?_
  refine z_iconst hx hb dL_law_357 ?_
  refine z_iadd hx hb dL_law_358 ?_
  refine l_sld hx hb hX hbl hbA hS0 (k := n + 1) (v := v1) (by omega) (by omega) hLb ev1 dL_law_359 ?_
  refine lv_aload_n hx hb dL_law_360 rfl (lv_at hl 4 rfl) ?_
  refine lv_iload hx hb dL_law_361 (lv_at hl 0 rfl) ?_
  refine z_iconst hx hb dL_law_363 ?_
  refine z_iadd hx hb dL_law_364 ?_
  refine l_sld hx hb hX hbl hbA hS0 (k := n + 2) (v := v2) (by omega) (by omega) hLb ev2 dL_law_365 ?_
  refine lv_aload_n hx hb dL_law_366 rfl (lv_at hl 4 rfl) ?_
  refine lv_iload hx hb dL_law_367 (lv_at hl 0 rfl) ?_
  refine z_iconst hx hb dL_law_369 ?_
  refine z_iadd hx hb dL_law_370 ?_
  refine l_sld hx hb hX hbl hbA hS0 (k := n + 3) (v := v3) (by omega) (by omega) hLb ev3 dL_law_371 ?_
  have h1 := st_over hI (a0 := v1) (a1 := v2) (a2 := v3) rv1 rv2 rv3
  refine l_wCi (va_runV (As := [.int (iI v1), .int (iI v2), .int (iI v3)]) (rest := []) ⟨hx, hb, hml, hown, hts⟩ (cC_over l D dA s.heap.size MC v1 v2 v3 _ h1) (cwV 3 hts (z_gV k407 k408 k409 k1 k410) rfl rfl rfl dm_X11_over ⟨(Nat.le_of_ble_eq_true rfl), (Nat.le_of_ble_eq_true rfl)⟩) ⟨wPre_blind, w_recv hS.1 hK.1 (by decide) (zkd_of (rfl : zcd wC 0 = 0) rfl) (by decide) (rfl : vwCl[11]? = some (RX11, TX11, 11)), w_pre hS.1 hK⟩ rfl rfl hl.1 rfl (lv_room (Nat.le_of_ble_eq_true rfl)) dL_law_372 ⟨(by show cells + 0 ≤ 601024; omega), (by show slots + 0 ≤ 7293034; omega)⟩) hS hS0 (fun z2 M3 H locs r4 hp5 hS hS0 => ?_)
  refine lv_pop hx hb dL_law_375 rfl ?_
  refine lv_aload_n hx hb dL_law_376 rfl (lv_at hl 2 rfl) ?_
  refine lv_aload_n hx hb dL_law_377 rfl (lv_at hl 4 rfl) ?_
  refine lv_iload hx hb dL_law_378 (lv_at hl 0 rfl) ?_
  refine z_iconst hx hb dL_law_380 ?_
  refine z_iadd hx hb dL_law_381 ?_
  refine l_sld hx hb hX hbl hbA hS0 (k := n + 1) (v := v1) (by omega) (by omega) hLb ev1 dL_law_382 ?_
  refine lv_aload_n hx hb dL_law_383 rfl (lv_at hl 4 rfl) ?_
  refine lv_iload hx hb dL_law_384 (lv_at hl 0 rfl) ?_
  refine z_iconst hx hb dL_law_386 ?_
  refine z_iadd hx hb dL_law_387 ?_
  refine l_sld hx hb hX hbl hbA hS0 (k := n + 2) (v := v2) (by omega) (by omega) hLb ev2 dL_law_388 ?_
  refine lv_aload_n hx hb dL_law_389 rfl (lv_at hl 4 rfl) ?_
  refine lv_iload hx hb dL_law_390 (lv_at hl 0 rfl) ?_
  refine z_iconst hx hb dL_law_392 ?_
  refine z_iadd hx hb dL_law_393 ?_
  refine l_sld hx hb hX hbl hbA hS0 (k := n + 3) (v := v3) (by omega) (by omega) hLb ev3 dL_law_394 ?_
  refine l_wRi (va_runV (As := [.int (iI v1), .int (iI v2), .int (iI v3)]) (rest := []) ⟨hx, hb, hml, hown, hts⟩ (cR_over l D dA (s.heap.size + 134) MR v1 v2 v3 _ hp5) (cwV 3 hts (z_gV k1093 k1094 k1095 k14 k1096) rfl rfl rfl dm_X12_over ⟨(Nat.le_of_ble_eq_true rfl), (Nat.le_of_ble_eq_true rfl)⟩) ⟨wPre_blind, w_recv hS.2.1 hK.1 (by decide) (zkd_of (rfl : zcd wR 0 = 50) rfl) (by decide) (rfl : vwCl[12]? = some (RX12, TX12, 50)), w_pre hS.2.1 hK⟩ rfl rfl hl.1 rfl (lv_room (Nat.le_of_ble_eq_true rfl)) dL_law_395 ⟨(by show cells + 0 ≤ 601024; omega), (by show slots + 0 ≤ 7293034; omega)⟩) hS hS0 (fun z6 M7 H locs r8 hp9 hS hS0 => ?_)
  have hE9 := hp9.2
  have hI := hp9.1
  refine lv_pop hx hb dL_law_398 rfl ?_
  refine lv_goto (tgt := 1585) hx hb dL_law_399 (by decide) ?_
  exact kk _ _ _ H locs _ _ ls hI hS (by omega) (by omega) hS0 (lv_sub hl [0, 1, 2, 3, 4] rfl)

set_option maxHeartbeats 4000000 in
set_option maxRecDepth 100000 in
theorem lc_6 {p : Program} {e : Env} {s : State} {m : MethodId} {below : List Frame} {meth : Method} {c : Code} {l : Launch} (hst : l.stackTraces = false) {b0 L n : Nat} {xs : Nat → Int32} (hL : L ≤ 2560) (C0 : lw_At p s m meth c b0 L xs) {D : va_G} {dA : Nat → ClassId} (hK : zKK D vwCl (z_tys dA) s) (hTw : zTw s) (hZ0 : zZ (yA s.heap.size) s s.heap) (hn : n + 5 ≤ L) {H : Heap} {locs : List Loc} {cells slots : Nat} {ls : Array Slot} {MC MR MO : zM} (hI : INV MC MR) (hS : LW3 D dA s.heap.size MC MR MO H) (hS0 : va_S (yA s.heap.size) s.heap H locs) (hl : lv_has ls 8 [(4, .int (iI (n : Int))), (3, .ref (s.heap.size + 168 + 0)), (2, .ref (s.heap.size + 134 + 0)), (1, .ref (s.heap.size + 0)), (0, .ref b0)]) (hcc : cells + 1 ≤ 601024) (hss : slots + 6 ≤ 7293034)
    (kk : ∀ (MC1 MR1 MO1 : zM) (H1 : Heap) (locs1 : List Loc) (c1 s1 : Nat) (ls1 : Array Slot), INV MC1 MR1 → LW3 D dA s.heap.size MC1 MR1 MO1 H1 → c1 ≤ cells + 1 → s1 ≤ slots + 6 → va_S (yA s.heap.size) s.heap H1 locs1 → lv_has ls1 8 [(4, .int (iI (n : Int))), (3, .ref (s.heap.size + 168 + 0)), (2, .ref (s.heap.size + 134 + 0)), (1, .ref (s.heap.size + 0)), (0, .ref b0)] → W p l e room_1 s m #[Value.ref b0] below meth c H1 locs1 c1 s1 (lw_Z below #[Value.ref b0] s) (F0 m 1585 ls1 [])) :
    W p l e room_1 s m #[Value.ref b0] below meth c H locs cells slots (lw_Z below #[Value.ref b0] s) (F0 m 402 ls []) := by
  obtain ⟨hx, hb, hr, hml, hown, htsL, hX, hbl, hlocks, hgv⟩ := id C0
  have hts := l_hts htsL
  have hbA : ¬ yA s.heap.size b0 := Nat.not_le.mpr hbl
  have hLb : L < 2147483648 := by omega
  obtain ⟨v1, rv1, ev1⟩ := iI_of (xs (n + 1))
  obtain ⟨v2, rv2, ev2⟩ := iI_of (xs (n + 2))
  obtain ⟨v3, rv3, ev3⟩ := iI_of (xs (n + 3))
  refine lv_aload_n hx hb dL_law_402 rfl (lv_at hl 3 rfl) ?_
  refine lv_aload_n hx hb dL_law_403 rfl (lv_at hl 4 rfl) ?_
  refine lv_iload hx hb dL_law_404 (lv_at hl 0 rfl) ?_
  refine z_iconst hx hb dL_law_406 ?_
  refine z_iadd hx hb dL_law_407 ?_
  refine l_sld hx hb hX hbl hbA hS0 (k := n + 1) (v := v1) (by omega) (by omega) hLb ev1 dL_law_408 ?_
  refine lv_aload_n hx hb dL_law_409 rfl (lv_at hl 4 rfl) ?_
  refine lv_iload hx hb dL_law_410 (lv_at hl 0 rfl) ?_
  refine z_iconst hx hb dL_law_412 ?_
  refine z_iadd hx hb dL_law_413 ?_
  refine l_sld hx hb hX hbl hbA hS0 (k := n + 2) (v := v2) (by omega) (by omega) hLb ev2 dL_law_414 ?_
  refine lv_aload_n hx hb dL_law_415 rfl (lv_at hl 4 rfl) ?_
  refine lv_iload hx hb dL_law_416 (lv_at hl 0 rfl) ?_
  refine z_iconst hx hb dL_law_418 ?_
  refine z_iadd hx hb dL_law_419 ?_
  refine l_sld hx hb hX hbl hbA hS0 (k := n + 3) (v := v3) (by omega) (by omega) hLb ev3 dL_law_420 ?_
  have h1 := st_set hI (a0 := v1) (a1 := v2) (a2 := v3) rv1 rv2 rv3
  refine l_wCi (va_runV (As := [.int (iI v1), .int (iI v2), .int (iI v3)]) (rest := []) ⟨hx, hb, hml, hown, hts⟩ (cC_set l D dA s.heap.size MC v1 v2 v3 _ h1) (cwV 3 hts (z_gV k420 k421 k422 k1 k423) rfl rfl rfl dm_X11_set ⟨(Nat.le_of_ble_eq_true rfl), (Nat.le_of_ble_eq_true rfl)⟩) ⟨wPre_blind, w_recv hS.1 hK.1 (by decide) (zkd_of (rfl : zcd wC 0 = 0) rfl) (by decide) (rfl : vwCl[11]? = some (RX11, TX11, 11)), w_pre hS.1 hK⟩ rfl rfl hl.1 rfl (lv_room (Nat.le_of_ble_eq_true rfl)) dL_law_421 ⟨(by show cells + 0 ≤ 601024; omega), (by show slots + 0 ≤ 7293034; omega)⟩) hS hS0 (fun z2 M3 H locs r4 hp5 hS hS0 => ?_)
  refine lv_pop hx hb dL_law_424 rfl ?_
  refine lv_aload_n hx hb dL_law_425 rfl (lv_at hl 2 rfl) ?_
  refine lv_aload_n hx hb dL_law_426 rfl (lv_at hl 4 rfl) ?_
  refine lv_iload hx hb dL_law_427 (lv_at hl 0 rfl) ?_
  refine z_iconst hx hb dL_law_429 ?_
  refine z_iadd hx hb dL_law_430 ?_
  refine l_sld hx hb hX hbl hbA hS0 (k := n + 1) (v := v1) (by omega) (by omega) hLb ev1 dL_law_431 ?_
  refine lv_aload_n hx hb dL_law_432 rfl (lv_at hl 4 rfl) ?_
  refine lv_iload hx hb dL_law_433 (lv_at hl 0 rfl) ?_
  refine z_iconst hx hb dL_law_435 ?_
  refine z_iadd hx hb dL_law_436 ?_
  refine l_sld hx hb hX hbl hbA hS0 (k := n + 2) (v := v2) (by omega) (by omega) hLb ev2 dL_law_437 ?_
  refine lv_aload_n hx hb dL_law_438 rfl (lv_at hl 4 rfl) ?_
  refine lv_iload hx hb dL_law_439 (lv_at hl 0 rfl) ?_
  refine z_iconst hx hb dL_law_441 ?_
  refine z_iadd hx hb dL_law_442 ?_
  refine l_sld hx hb hX hbl hbA hS0 (k := n + 3) (v := v3) (by omega) (by omega) hLb ev3 dL_law_443 ?_
  refine l_wRi (va_runV (As := [.int (iI v1), .int (iI v2), .int (iI v3)]) (rest := []) ⟨hx, hb, hml, hown, hts⟩ (cR_set l D dA (s.heap.size + 134) MR v1 v2 v3 _ hp5) (cwV 3 hts (z_gV k1100 k1101 k1102 k14 k1103) rfl rfl rfl dm_X12_set ⟨(Nat.le_of_ble_eq_true rfl), (Nat.le_of_ble_eq_true rfl)⟩) ⟨wPre_blind, w_recv hS.2.1 hK.1 (by decide) (zkd_of (rfl : zcd wR 0 = 50) rfl) (by decide) (rfl : vwCl[12]? = some (RX12, TX12, 50)), w_pre hS.2.1 hK⟩ rfl rfl hl.1 rfl (lv_room (Nat.le_of_ble_eq_true rfl)) dL_law_444 ⟨(by show cells + 0 ≤ 601024; omega), (by show slots + 0 ≤ 7293034; omega)⟩) hS hS0 (fun z6 M7 H locs r8 hp9 hS hS0 => ?_)
  have hE9 := hp9.2
  have hI := hp9.1
  refine lv_pop hx hb dL_law_447 rfl ?_
  refine lv_goto (tgt := 1585) hx hb dL_law_448 (by decide) ?_
  exact kk _ _ _ H locs _ _ ls hI hS (by omega) (by omega) hS0 (lv_sub hl [0, 1, 2, 3, 4] rfl)

set_option maxHeartbeats 4000000 in
set_option maxRecDepth 100000 in
theorem lc_7 {p : Program} {e : Env} {s : State} {m : MethodId} {below : List Frame} {meth : Method} {c : Code} {l : Launch} (hst : l.stackTraces = false) {b0 L n : Nat} {xs : Nat → Int32} (hL : L ≤ 2560) (C0 : lw_At p s m meth c b0 L xs) {D : va_G} {dA : Nat → ClassId} (hK : zKK D vwCl (z_tys dA) s) (hTw : zTw s) (hZ0 : zZ (yA s.heap.size) s s.heap) (hn : n + 5 ≤ L) {H : Heap} {locs : List Loc} {cells slots : Nat} {ls : Array Slot} {MC MR MO : zM} (hI : INV MC MR) (hS : LW3 D dA s.heap.size MC MR MO H) (hS0 : va_S (yA s.heap.size) s.heap H locs) (hl : lv_has ls 8 [(4, .int (iI (n : Int))), (3, .ref (s.heap.size + 168 + 0)), (2, .ref (s.heap.size + 134 + 0)), (1, .ref (s.heap.size + 0)), (0, .ref b0)]) (hcc : cells + 1 ≤ 601024) (hss : slots + 6 ≤ 7293034)
    (kk : ∀ (MC1 MR1 MO1 : zM) (H1 : Heap) (locs1 : List Loc) (c1 s1 : Nat) (ls1 : Array Slot), INV MC1 MR1 → LW3 D dA s.heap.size MC1 MR1 MO1 H1 → c1 ≤ cells + 1 → s1 ≤ slots + 6 → va_S (yA s.heap.size) s.heap H1 locs1 → lv_has ls1 8 [(4, .int (iI (n : Int))), (3, .ref (s.heap.size + 168 + 0)), (2, .ref (s.heap.size + 134 + 0)), (1, .ref (s.heap.size + 0)), (0, .ref b0)] → W p l e room_1 s m #[Value.ref b0] below meth c H1 locs1 c1 s1 (lw_Z below #[Value.ref b0] s) (F0 m 1585 ls1 [])) :
    W p l e room_1 s m #[Value.ref b0] below meth c H locs cells slots (lw_Z below #[Value.ref b0] s) (F0 m 451 ls []) := by
  obtain ⟨hx, hb, hr, hml, hown, htsL, hX, hbl, hlocks, hgv⟩ := id C0
  have hts := l_hts htsL
  have hbA : ¬ yA s.heap.size b0 := Nat.not_le.mpr hbl
  have hLb : L < 2147483648 := by omega
  obtain ⟨v1, rv1, ev1⟩ := iI_of (xs (n + 1))
  obtain ⟨v2, rv2, ev2⟩ := iI_of (xs (n + 2))
  obtain ⟨v3, rv3, ev3⟩ := iI_of (xs (n + 3))
  refine lv_aload_n hx hb dL_law_451 rfl (lv_at hl 3 rfl) ?_
  refine lv_aload_n hx hb dL_law_452 rfl (lv_at hl 4 rfl) ?_
  refine lv_iload hx hb dL_law_453 (lv_at hl 0 rfl) ?_
  refine z_iconst hx hb dL_law_455 ?_
  refine z_iadd hx hb dL_law_456 ?_
  refine l_sld hx hb hX hbl hbA hS0 (k := n + 1) (v := v1) (by omega) (by omega) hLb ev1 dL_law_457 ?_
  refine lv_aload_n hx hb dL_law_458 rfl (lv_at hl 4 rfl) ?_
  refine lv_iload hx hb dL_law_459 (lv_at hl 0 rfl) ?_
  refine z_iconst hx hb dL_law_461 ?_
  refine z_iadd hx hb dL_law_462 ?_
  refine l_sld hx hb hX hbl hbA hS0 (k := n + 2) (v := v2) (by omega) (by omega) hLb ev2 dL_law_463 ?_
  refine lv_aload_n hx hb dL_law_464 rfl (lv_at hl 4 rfl) ?_
  refine lv_iload hx hb dL_law_465 (lv_at hl 0 rfl) ?_
  refine z_iconst hx hb dL_law_467 ?_
  refine z_iadd hx hb dL_law_468 ?_
  refine l_sld hx hb hX hbl hbA hS0 (k := n + 3) (v := v3) (by omega) (by omega) hLb ev3 dL_law_469 ?_
  rcases Decidable.em (v3 = 0) with c1 | c1
  · skip
    refine z_if_eq (tgt := 477) hx hb rv3 dL_law_470 (by decide) (fun _ => ?_) (fun c9 => absurd c1 c9)
    refine z_iconst hx hb dL_law_477 ?_
    have h2 := st_head hI (a0 := v1) (a1 := v2) (a2 := 0) rv1 rv2 (by decide)
    refine l_wCi (va_runV (As := [.int (iI v1), .int (iI v2), .int (iI 0)]) (rest := []) ⟨hx, hb, hml, hown, hts⟩ (cC_head l D dA s.heap.size MC v1 v2 0 _ h2) (cwV 3 hts (z_gV k424 k425 k426 k1 k427) rfl rfl rfl dm_X11_head ⟨(Nat.le_of_ble_eq_true rfl), (Nat.le_of_ble_eq_true rfl)⟩) ⟨wPre_blind, w_recv hS.1 hK.1 (by decide) (zkd_of (rfl : zcd wC 0 = 0) rfl) (by decide) (rfl : vwCl[11]? = some (RX11, TX11, 11)), w_pre hS.1 hK⟩ rfl rfl hl.1 rfl (lv_room (Nat.le_of_ble_eq_true rfl)) dL_law_478 ⟨(by show cells + 0 ≤ 601024; omega), (by show slots + 0 ≤ 7293034; omega)⟩) hS hS0 (fun z3 M4 H locs r5 hp6 hS hS0 => ?_)
    refine lv_pop hx hb dL_law_481 rfl ?_
    refine lv_aload_n hx hb dL_law_482 rfl (lv_at hl 2 rfl) ?_
    refine lv_aload_n hx hb dL_law_483 rfl (lv_at hl 4 rfl) ?_
    refine lv_iload hx hb dL_law_484 (lv_at hl 0 rfl) ?_
    refine z_iconst hx hb dL_law_486 ?_
    refine z_iadd hx hb dL_law_487 ?_
    refine l_sld hx hb hX hbl hbA hS0 (k := n + 1) (v := v1) (by omega) (by omega) hLb ev1 dL_law_488 ?_
    refine lv_aload_n hx hb dL_law_489 rfl (lv_at hl 4 rfl) ?_
    refine lv_iload hx hb dL_law_490 (lv_at hl 0 rfl) ?_
    refine z_iconst hx hb dL_law_492 ?_
    refine z_iadd hx hb dL_law_493 ?_
    refine l_sld hx hb hX hbl hbA hS0 (k := n + 2) (v := v2) (by omega) (by omega) hLb ev2 dL_law_494 ?_
    refine lv_aload_n hx hb dL_law_495 rfl (lv_at hl 4 rfl) ?_
    refine lv_iload hx hb dL_law_496 (lv_at hl 0 rfl) ?_
    refine z_iconst hx hb dL_law_498 ?_
    refine z_iadd hx hb dL_law_499 ?_
    refine l_sld hx hb hX hbl hbA hS0 (k := n + 3) (v := v3) (by omega) (by omega) hLb ev3 dL_law_500 ?_
    refine z_if_eq (tgt := 508) hx hb rv3 dL_law_501 (by decide) (fun _ => ?_) (fun c9 => absurd c1 c9)
    refine z_iconst hx hb dL_law_508 ?_
    refine l_wRi (va_runV (As := [.int (iI v1), .int (iI v2), .int (iI 0)]) (rest := []) ⟨hx, hb, hml, hown, hts⟩ (cR_head l D dA (s.heap.size + 134) MR v1 v2 0 _ hp6) (cwV 3 hts (z_gV k1104 k1105 k1106 k14 k1107) rfl rfl rfl dm_X12_head ⟨(Nat.le_of_ble_eq_true rfl), (Nat.le_of_ble_eq_true rfl)⟩) ⟨wPre_blind, w_recv hS.2.1 hK.1 (by decide) (zkd_of (rfl : zcd wR 0 = 50) rfl) (by decide) (rfl : vwCl[12]? = some (RX12, TX12, 50)), w_pre hS.2.1 hK⟩ rfl rfl hl.1 rfl (lv_room (Nat.le_of_ble_eq_true rfl)) dL_law_509 ⟨(by show cells + 0 ≤ 601024; omega), (by show slots + 0 ≤ 7293034; omega)⟩) hS hS0 (fun z7 M8 H locs r9 hp10 hS hS0 => ?_)
    have hE9 := hp10.2
    have hI := hp10.1
    refine lv_pop hx hb dL_law_512 rfl ?_
    refine lv_goto (tgt := 1585) hx hb dL_law_513 (by decide) ?_
    exact kk _ _ _ H locs _ _ ls hI hS (by omega) (by omega) hS0 (lv_sub hl [0, 1, 2, 3, 4] rfl)
  · skip
    refine z_if_eq (tgt := 477) hx hb rv3 dL_law_470 (by decide) (fun c9 => absurd c9 c1) (fun _ => ?_)
    refine z_iconst hx hb dL_law_473 ?_
    refine lv_goto (tgt := 478) hx hb dL_law_474 (by decide) ?_
    have h11 := st_head hI (a0 := v1) (a1 := v2) (a2 := 1) rv1 rv2 (by decide)
    refine l_wCi (va_runV (As := [.int (iI v1), .int (iI v2), .int (iI 1)]) (rest := []) ⟨hx, hb, hml, hown, hts⟩ (cC_head l D dA s.heap.size MC v1 v2 1 _ h11) (cwV 3 hts (z_gV k424 k425 k426 k1 k427) rfl rfl rfl dm_X11_head ⟨(Nat.le_of_ble_eq_true rfl), (Nat.le_of_ble_eq_true rfl)⟩) ⟨wPre_blind, w_recv hS.1 hK.1 (by decide) (zkd_of (rfl : zcd wC 0 = 0) rfl) (by decide) (rfl : vwCl[11]? = some (RX11, TX11, 11)), w_pre hS.1 hK⟩ rfl rfl hl.1 rfl (lv_room (Nat.le_of_ble_eq_true rfl)) dL_law_478 ⟨(by show cells + 0 ≤ 601024; omega), (by show slots + 0 ≤ 7293034; omega)⟩) hS hS0 (fun z12 M13 H locs r14 hp15 hS hS0 => ?_)
    refine lv_pop hx hb dL_law_481 rfl ?_
    refine lv_aload_n hx hb dL_law_482 rfl (lv_at hl 2 rfl) ?_
    refine lv_aload_n hx hb dL_law_483 rfl (lv_at hl 4 rfl) ?_
    refine lv_iload hx hb dL_law_484 (lv_at hl 0 rfl) ?_
    refine z_iconst hx hb dL_law_486 ?_
    refine z_iadd hx hb dL_law_487 ?_
    refine l_sld hx hb hX hbl hbA hS0 (k := n + 1) (v := v1) (by omega) (by omega) hLb ev1 dL_law_488 ?_
    refine lv_aload_n hx hb dL_law_489 rfl (lv_at hl 4 rfl) ?_
    refine lv_iload hx hb dL_law_490 (lv_at hl 0 rfl) ?_
    refine z_iconst hx hb dL_law_492 ?_
    refine z_iadd hx hb dL_law_493 ?_
    refine l_sld hx hb hX hbl hbA hS0 (k := n + 2) (v := v2) (by omega) (by omega) hLb ev2 dL_law_494 ?_
    refine lv_aload_n hx hb dL_law_495 rfl (lv_at hl 4 rfl) ?_
    refine lv_iload hx hb dL_law_496 (lv_at hl 0 rfl) ?_
    refine z_iconst hx hb dL_law_498 ?_
    refine z_iadd hx hb dL_law_499 ?_
    refine l_sld hx hb hX hbl hbA hS0 (k := n + 3) (v := v3) (by omega) (by omega) hLb ev3 dL_law_500 ?_
    refine z_if_eq (tgt := 508) hx hb rv3 dL_law_501 (by decide) (fun c9 => absurd c9 c1) (fun _ => ?_)
    refine z_iconst hx hb dL_law_504 ?_
    refine lv_goto (tgt := 509) hx hb dL_law_505 (by decide) ?_
    refine l_wRi (va_runV (As := [.int (iI v1), .int (iI v2), .int (iI 1)]) (rest := []) ⟨hx, hb, hml, hown, hts⟩ (cR_head l D dA (s.heap.size + 134) MR v1 v2 1 _ hp15) (cwV 3 hts (z_gV k1104 k1105 k1106 k14 k1107) rfl rfl rfl dm_X12_head ⟨(Nat.le_of_ble_eq_true rfl), (Nat.le_of_ble_eq_true rfl)⟩) ⟨wPre_blind, w_recv hS.2.1 hK.1 (by decide) (zkd_of (rfl : zcd wR 0 = 50) rfl) (by decide) (rfl : vwCl[12]? = some (RX12, TX12, 50)), w_pre hS.2.1 hK⟩ rfl rfl hl.1 rfl (lv_room (Nat.le_of_ble_eq_true rfl)) dL_law_509 ⟨(by show cells + 0 ≤ 601024; omega), (by show slots + 0 ≤ 7293034; omega)⟩) hS hS0 (fun z16 M17 H locs r18 hp19 hS hS0 => ?_)
    have hE9 := hp19.2
    have hI := hp19.1
    refine lv_pop hx hb dL_law_512 rfl ?_
    refine lv_goto (tgt := 1585) hx hb dL_law_513 (by decide) ?_
    exact kk _ _ _ H locs _ _ ls hI hS (by omega) (by omega) hS0 (lv_sub hl [0, 1, 2, 3, 4] rfl)

set_option maxHeartbeats 4000000 in
set_option maxRecDepth 100000 in
theorem lc_8 {p : Program} {e : Env} {s : State} {m : MethodId} {below : List Frame} {meth : Method} {c : Code} {l : Launch} (hst : l.stackTraces = false) {b0 L n : Nat} {xs : Nat → Int32} (hL : L ≤ 2560) (C0 : lw_At p s m meth c b0 L xs) {D : va_G} {dA : Nat → ClassId} (hK : zKK D vwCl (z_tys dA) s) (hTw : zTw s) (hZ0 : zZ (yA s.heap.size) s s.heap) (hn : n + 5 ≤ L) {H : Heap} {locs : List Loc} {cells slots : Nat} {ls : Array Slot} {MC MR MO : zM} (hI : INV MC MR) (hS : LW3 D dA s.heap.size MC MR MO H) (hS0 : va_S (yA s.heap.size) s.heap H locs) (hl : lv_has ls 8 [(4, .int (iI (n : Int))), (3, .ref (s.heap.size + 168 + 0)), (2, .ref (s.heap.size + 134 + 0)), (1, .ref (s.heap.size + 0)), (0, .ref b0)]) (hcc : cells + 1 ≤ 601024) (hss : slots + 6 ≤ 7293034)
    (kk : ∀ (MC1 MR1 MO1 : zM) (H1 : Heap) (locs1 : List Loc) (c1 s1 : Nat) (ls1 : Array Slot), INV MC1 MR1 → LW3 D dA s.heap.size MC1 MR1 MO1 H1 → c1 ≤ cells + 1 → s1 ≤ slots + 6 → va_S (yA s.heap.size) s.heap H1 locs1 → lv_has ls1 8 [(4, .int (iI (n : Int))), (3, .ref (s.heap.size + 168 + 0)), (2, .ref (s.heap.size + 134 + 0)), (1, .ref (s.heap.size + 0)), (0, .ref b0)] → W p l e room_1 s m #[Value.ref b0] below meth c H1 locs1 c1 s1 (lw_Z below #[Value.ref b0] s) (F0 m 1585 ls1 [])) :
    W p l e room_1 s m #[Value.ref b0] below meth c H locs cells slots (lw_Z below #[Value.ref b0] s) (F0 m 516 ls []) := by
  obtain ⟨hx, hb, hr, hml, hown, htsL, hX, hbl, hlocks, hgv⟩ := id C0
  have hts := l_hts htsL
  have hbA : ¬ yA s.heap.size b0 := Nat.not_le.mpr hbl
  have hLb : L < 2147483648 := by omega
  obtain ⟨v1, rv1, ev1⟩ := iI_of (xs (n + 1))
  obtain ⟨v2, rv2, ev2⟩ := iI_of (xs (n + 2))
  obtain ⟨v3, rv3, ev3⟩ := iI_of (xs (n + 3))
  refine lv_aload_n hx hb dL_law_516 rfl (lv_at hl 3 rfl) ?_
  refine lv_aload_n hx hb dL_law_517 rfl (lv_at hl 4 rfl) ?_
  refine lv_iload hx hb dL_law_518 (lv_at hl 0 rfl) ?_
  refine z_iconst hx hb dL_law_520 ?_
  refine z_iadd hx hb dL_law_521 ?_
  refine l_sld hx hb hX hbl hbA hS0 (k := n + 1) (v := v1) (by omega) (by omega) hLb ev1 dL_law_522 ?_
  refine lv_aload_n hx hb dL_law_523 rfl (lv_at hl 4 rfl) ?_
  refine lv_iload hx hb dL_law_524 (lv_at hl 0 rfl) ?_
  refine z_iconst hx hb dL_law_526 ?_
  refine z_iadd hx hb dL_law_527 ?_
  refine l_sld hx hb hX hbl hbA hS0 (k := n + 2) (v := v2) (by omega) (by omega) hLb ev2 dL_law_528 ?_
  refine lv_aload_n hx hb dL_law_529 rfl (lv_at hl 4 rfl) ?_
  refine lv_iload hx hb dL_law_530 (lv_at hl 0 rfl) ?_
  refine z_iconst hx hb dL_law_532 ?_
  refine z_iadd hx hb dL_law_533 ?_
  refine l_sld hx hb hX hbl hbA hS0 (k := n + 3) (v := v3) (by omega) (by omega) hLb ev3 dL_law_534 ?_
  have h1 := st_motor hI (a0 := v1) (a1 := v2) (a2 := v3) rv1 rv2 rv3
  refine l_wCz (va_runV (As := [.int (iI v1), .int (iI v2), .int (iI v3)]) (rest := []) ⟨hx, hb, hml, hown, hts⟩ (cC_motor l D dA s.heap.size MC v1 v2 v3 _ h1) (cwV 3 hts (z_gV k438 k439 k440 k1 k441) rfl rfl rfl dm_X11_motor ⟨(Nat.le_of_ble_eq_true rfl), (Nat.le_of_ble_eq_true rfl)⟩) ⟨wPre_blind, w_recv hS.1 hK.1 (by decide) (zkd_of (rfl : zcd wC 0 = 0) rfl) (by decide) (rfl : vwCl[11]? = some (RX11, TX11, 11)), w_pre hS.1 hK⟩ rfl rfl hl.1 rfl (lv_room (Nat.le_of_ble_eq_true rfl)) dL_law_535 ⟨(by show cells + 0 ≤ 601024; omega), (by show slots + 0 ≤ 7293034; omega)⟩) hS hS0 (fun z2 M3 H locs r4 hp5 hS hS0 => ?_)
  refine lv_pop hx hb dL_law_538 rfl ?_
  refine lv_aload_n hx hb dL_law_539 rfl (lv_at hl 2 rfl) ?_
  refine lv_aload_n hx hb dL_law_540 rfl (lv_at hl 4 rfl) ?_
  refine lv_iload hx hb dL_law_541 (lv_at hl 0 rfl) ?_
  refine z_iconst hx hb dL_law_543 ?_
  refine z_iadd hx hb dL_law_544 ?_
  refine l_sld hx hb hX hbl hbA hS0 (k := n + 1) (v := v1) (by omega) (by omega) hLb ev1 dL_law_545 ?_
  refine lv_aload_n hx hb dL_law_546 rfl (lv_at hl 4 rfl) ?_
  refine lv_iload hx hb dL_law_547 (lv_at hl 0 rfl) ?_
  refine z_iconst hx hb dL_law_549 ?_
  refine z_iadd hx hb dL_law_550 ?_
  refine l_sld hx hb hX hbl hbA hS0 (k := n + 2) (v := v2) (by omega) (by omega) hLb ev2 dL_law_551 ?_
  refine lv_aload_n hx hb dL_law_552 rfl (lv_at hl 4 rfl) ?_
  refine lv_iload hx hb dL_law_553 (lv_at hl 0 rfl) ?_
  refine z_iconst hx hb dL_law_555 ?_
  refine z_iadd hx hb dL_law_556 ?_
  refine l_sld hx hb hX hbl hbA hS0 (k := n + 3) (v := v3) (by omega) (by omega) hLb ev3 dL_law_557 ?_
  refine l_wRz (va_runV (As := [.int (iI v1), .int (iI v2), .int (iI v3)]) (rest := []) ⟨hx, hb, hml, hown, hts⟩ (cR_motor l D dA (s.heap.size + 134) MR v1 v2 v3 _ hp5) (cwV 3 hts (z_gV k1109 k1110 k1111 k14 k1112) rfl rfl rfl dm_X12_motor ⟨(Nat.le_of_ble_eq_true rfl), (Nat.le_of_ble_eq_true rfl)⟩) ⟨wPre_blind, w_recv hS.2.1 hK.1 (by decide) (zkd_of (rfl : zcd wR 0 = 50) rfl) (by decide) (rfl : vwCl[12]? = some (RX12, TX12, 50)), w_pre hS.2.1 hK⟩ rfl rfl hl.1 rfl (lv_room (Nat.le_of_ble_eq_true rfl)) dL_law_558 ⟨(by show cells + 0 ≤ 601024; omega), (by show slots + 0 ≤ 7293034; omega)⟩) hS hS0 (fun z6 M7 H locs r8 hp9 hS hS0 => ?_)
  have hE9 := hp9.2
  have hI := hp9.1
  refine lv_pop hx hb dL_law_561 rfl ?_
  refine lv_goto (tgt := 1585) hx hb dL_law_562 (by decide) ?_
  exact kk _ _ _ H locs _ _ ls hI hS (by omega) (by omega) hS0 (lv_sub hl [0, 1, 2, 3, 4] rfl)

set_option maxHeartbeats 4000000 in
set_option maxRecDepth 100000 in
theorem lc_9 {p : Program} {e : Env} {s : State} {m : MethodId} {below : List Frame} {meth : Method} {c : Code} {l : Launch} (hst : l.stackTraces = false) {b0 L n : Nat} {xs : Nat → Int32} (hL : L ≤ 2560) (C0 : lw_At p s m meth c b0 L xs) {D : va_G} {dA : Nat → ClassId} (hK : zKK D vwCl (z_tys dA) s) (hTw : zTw s) (hZ0 : zZ (yA s.heap.size) s s.heap) (hn : n + 5 ≤ L) {H : Heap} {locs : List Loc} {cells slots : Nat} {ls : Array Slot} {MC MR MO : zM} (hI : INV MC MR) (hS : LW3 D dA s.heap.size MC MR MO H) (hS0 : va_S (yA s.heap.size) s.heap H locs) (hl : lv_has ls 8 [(4, .int (iI (n : Int))), (3, .ref (s.heap.size + 168 + 0)), (2, .ref (s.heap.size + 134 + 0)), (1, .ref (s.heap.size + 0)), (0, .ref b0)]) (hcc : cells + 1 ≤ 601024) (hss : slots + 6 ≤ 7293034)
    (kk : ∀ (MC1 MR1 MO1 : zM) (H1 : Heap) (locs1 : List Loc) (c1 s1 : Nat) (ls1 : Array Slot), INV MC1 MR1 → LW3 D dA s.heap.size MC1 MR1 MO1 H1 → c1 ≤ cells + 1 → s1 ≤ slots + 6 → va_S (yA s.heap.size) s.heap H1 locs1 → lv_has ls1 8 [(4, .int (iI (n : Int))), (3, .ref (s.heap.size + 168 + 0)), (2, .ref (s.heap.size + 134 + 0)), (1, .ref (s.heap.size + 0)), (0, .ref b0)] → W p l e room_1 s m #[Value.ref b0] below meth c H1 locs1 c1 s1 (lw_Z below #[Value.ref b0] s) (F0 m 1585 ls1 [])) :
    W p l e room_1 s m #[Value.ref b0] below meth c H locs cells slots (lw_Z below #[Value.ref b0] s) (F0 m 565 ls []) := by
  obtain ⟨hx, hb, hr, hml, hown, htsL, hX, hbl, hlocks, hgv⟩ := id C0
  have hts := l_hts htsL
  have hbA : ¬ yA s.heap.size b0 := Nat.not_le.mpr hbl
  have hLb : L < 2147483648 := by omega
  refine lv_aload_n hx hb dL_law_565 rfl (lv_at hl 3 rfl) ?_
  have h1 := st_clear hI  
  refine l_wCi (va_runV (As := []) (rest := []) ⟨hx, hb, hml, hown, hts⟩ (cC_clear l D dA s.heap.size MC  _ h1) (cwV 0 hts (z_gV k450 k451 k452 k1 k453) rfl rfl rfl dm_X11_clear ⟨(Nat.le_of_ble_eq_true rfl), (Nat.le_of_ble_eq_true rfl)⟩) ⟨wPre_blind, w_recv hS.1 hK.1 (by decide) (zkd_of (rfl : zcd wC 0 = 0) rfl) (by decide) (rfl : vwCl[11]? = some (RX11, TX11, 11)), w_pre hS.1 hK⟩ rfl rfl hl.1 rfl (lv_room (Nat.le_of_ble_eq_true rfl)) dL_law_566 ⟨(by show cells + 0 ≤ 601024; omega), (by show slots + 0 ≤ 7293034; omega)⟩) hS hS0 (fun z2 M3 H locs r4 hp5 hS hS0 => ?_)
  refine lv_pop hx hb dL_law_569 rfl ?_
  refine lv_aload_n hx hb dL_law_570 rfl (lv_at hl 2 rfl) ?_
  refine l_wRi (va_runV (As := []) (rest := []) ⟨hx, hb, hml, hown, hts⟩ (cR_clear l D dA (s.heap.size + 134) MR  _ hp5) (cwV 0 hts (z_gV k1113 k1114 k1115 k14 k1116) rfl rfl rfl dm_X12_clear ⟨(Nat.le_of_ble_eq_true rfl), (Nat.le_of_ble_eq_true rfl)⟩) ⟨wPre_blind, w_recv hS.2.1 hK.1 (by decide) (zkd_of (rfl : zcd wR 0 = 50) rfl) (by decide) (rfl : vwCl[12]? = some (RX12, TX12, 50)), w_pre hS.2.1 hK⟩ rfl rfl hl.1 rfl (lv_room (Nat.le_of_ble_eq_true rfl)) dL_law_571 ⟨(by show cells + 0 ≤ 601024; omega), (by show slots + 0 ≤ 7293034; omega)⟩) hS hS0 (fun z6 M7 H locs r8 hp9 hS hS0 => ?_)
  have hE9 := hp9.2
  have hI := hp9.1
  refine lv_pop hx hb dL_law_574 rfl ?_
  refine lv_goto (tgt := 1585) hx hb dL_law_575 (by decide) ?_
  exact kk _ _ _ H locs _ _ ls hI hS (by omega) (by omega) hS0 (lv_sub hl [0, 1, 2, 3, 4] rfl)

set_option maxHeartbeats 4000000 in
set_option maxRecDepth 100000 in
theorem lc_10 {p : Program} {e : Env} {s : State} {m : MethodId} {below : List Frame} {meth : Method} {c : Code} {l : Launch} (hst : l.stackTraces = false) {b0 L n : Nat} {xs : Nat → Int32} (hL : L ≤ 2560) (C0 : lw_At p s m meth c b0 L xs) {D : va_G} {dA : Nat → ClassId} (hK : zKK D vwCl (z_tys dA) s) (hTw : zTw s) (hZ0 : zZ (yA s.heap.size) s s.heap) (hn : n + 5 ≤ L) {H : Heap} {locs : List Loc} {cells slots : Nat} {ls : Array Slot} {MC MR MO : zM} (hI : INV MC MR) (hS : LW3 D dA s.heap.size MC MR MO H) (hS0 : va_S (yA s.heap.size) s.heap H locs) (hl : lv_has ls 8 [(4, .int (iI (n : Int))), (3, .ref (s.heap.size + 168 + 0)), (2, .ref (s.heap.size + 134 + 0)), (1, .ref (s.heap.size + 0)), (0, .ref b0)]) (hcc : cells + 1 ≤ 601024) (hss : slots + 6 ≤ 7293034)
    (kk : ∀ (MC1 MR1 MO1 : zM) (H1 : Heap) (locs1 : List Loc) (c1 s1 : Nat) (ls1 : Array Slot), INV MC1 MR1 → LW3 D dA s.heap.size MC1 MR1 MO1 H1 → c1 ≤ cells + 1 → s1 ≤ slots + 6 → va_S (yA s.heap.size) s.heap H1 locs1 → lv_has ls1 8 [(4, .int (iI (n : Int))), (3, .ref (s.heap.size + 168 + 0)), (2, .ref (s.heap.size + 134 + 0)), (1, .ref (s.heap.size + 0)), (0, .ref b0)] → W p l e room_1 s m #[Value.ref b0] below meth c H1 locs1 c1 s1 (lw_Z below #[Value.ref b0] s) (F0 m 1585 ls1 [])) :
    W p l e room_1 s m #[Value.ref b0] below meth c H locs cells slots (lw_Z below #[Value.ref b0] s) (F0 m 578 ls []) := by
  obtain ⟨hx, hb, hr, hml, hown, htsL, hX, hbl, hlocks, hgv⟩ := id C0
  have hts := l_hts htsL
  have hbA : ¬ yA s.heap.size b0 := Nat.not_le.mpr hbl
  have hLb : L < 2147483648 := by omega
  obtain ⟨v1, rv1, ev1⟩ := iI_of (xs (n + 1))
  refine lv_aload_n hx hb dL_law_578 rfl (lv_at hl 3 rfl) ?_
  refine lv_aload_n hx hb dL_law_579 rfl (lv_at hl 4 rfl) ?_
  refine lv_iload hx hb dL_law_580 (lv_at hl 0 rfl) ?_
  refine z_iconst hx hb dL_law_582 ?_
  refine z_iadd hx hb dL_law_583 ?_
  refine l_sld hx hb hX hbl hbA hS0 (k := n + 1) (v := v1) (by omega) (by omega) hLb ev1 dL_law_584 ?_
  have h1 := st_count hI (a0 := v1) rv1
  refine l_wCi (va_runV (As := [.int (iI v1)]) (rest := []) ⟨hx, hb, hml, hown, hts⟩ (cC_count l D dA s.heap.size MC v1 _ h1) (cwV 1 hts (z_gV k462 k463 k464 k1 k465) rfl rfl rfl dm_X11_count ⟨(Nat.le_of_ble_eq_true rfl), (Nat.le_of_ble_eq_true rfl)⟩) ⟨wPre_blind, w_recv hS.1 hK.1 (by decide) (zkd_of (rfl : zcd wC 0 = 0) rfl) (by decide) (rfl : vwCl[11]? = some (RX11, TX11, 11)), w_pre hS.1 hK⟩ rfl rfl hl.1 rfl (lv_room (Nat.le_of_ble_eq_true rfl)) dL_law_585 ⟨(by show cells + 0 ≤ 601024; omega), (by show slots + 0 ≤ 7293034; omega)⟩) hS hS0 (fun z2 M3 H locs r4 hp5 hS hS0 => ?_)
  obtain ⟨hu7, hp5⟩ := hp5
  rw [hu7] at hS
  refine lv_pop hx hb dL_law_588 rfl ?_
  refine lv_aload_n hx hb dL_law_589 rfl (lv_at hl 2 rfl) ?_
  refine lv_aload_n hx hb dL_law_590 rfl (lv_at hl 4 rfl) ?_
  refine lv_iload hx hb dL_law_591 (lv_at hl 0 rfl) ?_
  refine z_iconst hx hb dL_law_593 ?_
  refine z_iadd hx hb dL_law_594 ?_
  refine l_sld hx hb hX hbl hbA hS0 (k := n + 1) (v := v1) (by omega) (by omega) hLb ev1 dL_law_595 ?_
  refine l_wRi (va_runV (As := [.int (iI v1)]) (rest := []) ⟨hx, hb, hml, hown, hts⟩ (cR_count l D dA (s.heap.size + 134) MR v1 _ hp5) (cwV 1 hts (z_gV k1117 k1118 k1119 k14 k1120) rfl rfl rfl dm_X12_count ⟨(Nat.le_of_ble_eq_true rfl), (Nat.le_of_ble_eq_true rfl)⟩) ⟨wPre_blind, w_recv hS.2.1 hK.1 (by decide) (zkd_of (rfl : zcd wR 0 = 50) rfl) (by decide) (rfl : vwCl[12]? = some (RX12, TX12, 50)), w_pre hS.2.1 hK⟩ rfl rfl hl.1 rfl (lv_room (Nat.le_of_ble_eq_true rfl)) dL_law_596 ⟨(by show cells + 0 ≤ 601024; omega), (by show slots + 0 ≤ 7293034; omega)⟩) hS hS0 (fun z6 M7 H locs r8 hp9 hS hS0 => ?_)
  have hE9 := hp9.2
  have hI := hp9.1
  refine lv_pop hx hb dL_law_599 rfl ?_
  refine lv_goto (tgt := 1585) hx hb dL_law_600 (by decide) ?_
  exact kk _ _ _ H locs _ _ ls hI hS (by omega) (by omega) hS0 (lv_sub hl [0, 1, 2, 3, 4] rfl)

set_option maxHeartbeats 4000000 in
set_option maxRecDepth 100000 in
theorem lc_11 {p : Program} {e : Env} {s : State} {m : MethodId} {below : List Frame} {meth : Method} {c : Code} {l : Launch} (hst : l.stackTraces = false) {b0 L n : Nat} {xs : Nat → Int32} (hL : L ≤ 2560) (C0 : lw_At p s m meth c b0 L xs) {D : va_G} {dA : Nat → ClassId} (hK : zKK D vwCl (z_tys dA) s) (hTw : zTw s) (hZ0 : zZ (yA s.heap.size) s s.heap) (hn : n + 5 ≤ L) {H : Heap} {locs : List Loc} {cells slots : Nat} {ls : Array Slot} {MC MR MO : zM} (hI : INV MC MR) (hS : LW3 D dA s.heap.size MC MR MO H) (hS0 : va_S (yA s.heap.size) s.heap H locs) (hl : lv_has ls 8 [(4, .int (iI (n : Int))), (3, .ref (s.heap.size + 168 + 0)), (2, .ref (s.heap.size + 134 + 0)), (1, .ref (s.heap.size + 0)), (0, .ref b0)]) (hcc : cells + 1 ≤ 601024) (hss : slots + 6 ≤ 7293034)
    (kk : ∀ (MC1 MR1 MO1 : zM) (H1 : Heap) (locs1 : List Loc) (c1 s1 : Nat) (ls1 : Array Slot), INV MC1 MR1 → LW3 D dA s.heap.size MC1 MR1 MO1 H1 → c1 ≤ cells + 1 → s1 ≤ slots + 6 → va_S (yA s.heap.size) s.heap H1 locs1 → lv_has ls1 8 [(4, .int (iI (n : Int))), (3, .ref (s.heap.size + 168 + 0)), (2, .ref (s.heap.size + 134 + 0)), (1, .ref (s.heap.size + 0)), (0, .ref b0)] → W p l e room_1 s m #[Value.ref b0] below meth c H1 locs1 c1 s1 (lw_Z below #[Value.ref b0] s) (F0 m 1585 ls1 [])) :
    W p l e room_1 s m #[Value.ref b0] below meth c H locs cells slots (lw_Z below #[Value.ref b0] s) (F0 m 603 ls []) := by
  obtain ⟨hx, hb, hr, hml, hown, htsL, hX, hbl, hlocks, hgv⟩ := id C0
  have hts := l_hts htsL
  have hbA : ¬ yA s.heap.size b0 := Nat.not_le.mpr hbl
  have hLb : L < 2147483648 := by omega
  obtain ⟨v1, rv1, ev1⟩ := iI_of (xs (n + 1))
  obtain ⟨v2, rv2, ev2⟩ := iI_of (xs (n + 2))
  refine lv_aload_n hx hb dL_law_603 rfl (lv_at hl 3 rfl) ?_
  refine lv_aload_n hx hb dL_law_604 rfl (lv_at hl 4 rfl) ?_
  refine lv_iload hx hb dL_law_605 (lv_at hl 0 rfl) ?_
  refine z_iconst hx hb dL_law_607 ?_
  refine z_iadd hx hb dL_law_608 ?_
  refine l_sld hx hb hX hbl hbA hS0 (k := n + 1) (v := v1) (by omega) (by omega) hLb ev1 dL_law_609 ?_
  refine lv_aload_n hx hb dL_law_610 rfl (lv_at hl 4 rfl) ?_
  refine lv_iload hx hb dL_law_611 (lv_at hl 0 rfl) ?_
  refine z_iconst hx hb dL_law_613 ?_
  refine z_iadd hx hb dL_law_614 ?_
  refine l_sld hx hb hX hbl hbA hS0 (k := n + 2) (v := v2) (by omega) (by omega) hLb ev2 dL_law_615 ?_
  refine lv_aload_n hx hb dL_law_616 rfl (lv_at hl 1 rfl) ?_
  have h4 := st_of hI (a0 := v1) (a1 := v2) rv1 rv2
  refine va_calli (vx_runSW (As := [.ref (s.heap.size + 0), .int (iI v1), .int (iI v2), .ref (s.heap.size + 168 + 0)]) (rest := []) ⟨hx, hb, hml, hown, hts⟩ (lw_of (MO := MO) (cC_of l hst D dA s.heap.size MC v1 v2 _ _ h4)) (vx_cwSW 4 hts (z_gS k876 k877 k0 w_of) rfl rfl rfl dm_L_of.2 ⟨(Nat.le_of_ble_eq_true rfl), (Nat.le_of_ble_eq_true rfl)⟩) ⟨wPW_blind, fun U hU hW => ⟨rfl, (w_pre (As := []) hS.1 hK U hU hW).2, by rw [hU]; exact hS.2.2, hTw.warm hW, by rw [hU]; exact (hZ0.kept hS0.2.1).moved hW.alike⟩⟩ rfl rfl hl.1 rfl (lv_room (Nat.le_of_ble_eq_true rfl)) dL_law_617 ⟨(by show cells + 1 ≤ 601024; omega), (by show slots + 6 ≤ 7293034; omega)⟩) hS0 (fun q _ h => h.elim (fun z => z.1) (fun z => by show s.heap.size ≤ q; omega)) (fun q h => h.elim (fun z => z.1) (fun z => by show s.heap.size ≤ q; omega)) (fun rr u3 t9 H1 locs1 ht hvm hp1 hB2 hz hk hS1 => ?_)
  obtain ⟨hR1, hR2⟩ := hB2
  rw [ht] at hR1 hR2
  have hS : LW3 D dA s.heap.size u3.1 MR u3.2 H1 := ⟨hR1, zR_kept hS.2.1 (fun q h1 h2 h3 => hk q h1 (fun z => z.elim (fun y => by have e1 : nC = 134 := rfl; have e2 : nR = 34 := rfl; have := y.2; omega) (fun y => by have e2 : nR = 34 := rfl; omega))), hR2⟩
  have hS0 := hS1
  generalize H1 = H at hS hS0 ⊢
  generalize locs1 = locs at hS0 ⊢
  rcases hp1 with ⟨hr9, v9, hv9, hp1, hu8, hu9⟩ | ⟨hr9, hp1, hu8, hu9⟩
  · skip
    subst hr9
    rw [hu8] at hS
    refine lv_istore (lv' := [(5, .int (iI 0)), (4, .int (iI (n : Int))), (3, .ref (s.heap.size + 168 + 0)), (2, .ref (s.heap.size + 134 + 0)), (1, .ref (s.heap.size + 0)), (0, .ref b0)]) hx hb dL_law_620 hl (by decide) rfl (fun ls hl => ?_)
    refine lv_aload_n hx hb dL_law_622 rfl (lv_at hl 3 rfl) ?_
    refine lv_aload_n hx hb dL_law_623 rfl (lv_at hl 5 rfl) ?_
    refine lv_iload hx hb dL_law_624 (lv_at hl 1 rfl) ?_
    refine z_iconst hx hb dL_law_626 ?_
    refine z_iadd hx hb dL_law_627 ?_
    refine l_sld hx hb hX hbl hbA hS0 (k := n + 1) (v := v1) (by omega) (by omega) hLb ev1 dL_law_628 ?_
    refine lv_aload_n hx hb dL_law_629 rfl (lv_at hl 5 rfl) ?_
    refine lv_iload hx hb dL_law_630 (lv_at hl 1 rfl) ?_
    refine z_iconst hx hb dL_law_632 ?_
    refine z_iadd hx hb dL_law_633 ?_
    refine l_sld hx hb hX hbl hbA hS0 (k := n + 2) (v := v2) (by omega) (by omega) hLb ev2 dL_law_634 ?_
    refine l_wRi (va_runV (As := [.int (iI v1), .int (iI v2)]) (rest := []) ⟨hx, hb, hml, hown, hts⟩ (cR_of l D dA (s.heap.size + 134) MR v1 v2 _ hp1) (cwV 2 hts (z_gV k1121 k1122 k1123 k14 k1124) rfl rfl rfl dm_X12_of ⟨(Nat.le_of_ble_eq_true rfl), (Nat.le_of_ble_eq_true rfl)⟩) ⟨wPre_blind, w_recv hS.2.1 hK.1 (by decide) (zkd_of (rfl : zcd wR 0 = 50) rfl) (by decide) (rfl : vwCl[12]? = some (RX12, TX12, 50)), w_pre hS.2.1 hK⟩ rfl rfl hl.1 rfl (lv_room (Nat.le_of_ble_eq_true rfl)) dL_law_635 ⟨(by show (cells + 1) + 0 ≤ 601024; omega), (by show (slots + 6) + 0 ≤ 7293034; omega)⟩) hS hS0 (fun z5 M6 H locs r7 hp8 hS hS0 => ?_)
    have hE9 := hp8.2
    have hI := hp8.1
    refine lv_istore (lv' := [(6, .int (iI z5)), (5, .int (iI 0)), (4, .int (iI (n : Int))), (3, .ref (s.heap.size + 168 + 0)), (2, .ref (s.heap.size + 134 + 0)), (1, .ref (s.heap.size + 0)), (0, .ref b0)]) hx hb dL_law_638 hl (by decide) rfl (fun ls hl => ?_)
    refine lv_goto (tgt := 1585) hx hb dL_law_640 (by decide) ?_
    exact kk _ _ _ H locs _ _ ls hI hS (by omega) (by omega) hS0 (lv_sub hl [2, 3, 4, 5, 6] rfl)
  · skip
    subst hr9
    rw [hu8] at hS
    refine lv_istore (lv' := [(5, .int (iI 1)), (4, .int (iI (n : Int))), (3, .ref (s.heap.size + 168 + 0)), (2, .ref (s.heap.size + 134 + 0)), (1, .ref (s.heap.size + 0)), (0, .ref b0)]) hx hb dL_law_620 hl (by decide) rfl (fun ls hl => ?_)
    refine lv_aload_n hx hb dL_law_622 rfl (lv_at hl 3 rfl) ?_
    refine lv_aload_n hx hb dL_law_623 rfl (lv_at hl 5 rfl) ?_
    refine lv_iload hx hb dL_law_624 (lv_at hl 1 rfl) ?_
    refine z_iconst hx hb dL_law_626 ?_
    refine z_iadd hx hb dL_law_627 ?_
    refine l_sld hx hb hX hbl hbA hS0 (k := n + 1) (v := v1) (by omega) (by omega) hLb ev1 dL_law_628 ?_
    refine lv_aload_n hx hb dL_law_629 rfl (lv_at hl 5 rfl) ?_
    refine lv_iload hx hb dL_law_630 (lv_at hl 1 rfl) ?_
    refine z_iconst hx hb dL_law_632 ?_
    refine z_iadd hx hb dL_law_633 ?_
    refine l_sld hx hb hX hbl hbA hS0 (k := n + 2) (v := v2) (by omega) (by omega) hLb ev2 dL_law_634 ?_
    refine l_wRi (va_runV (As := [.int (iI v1), .int (iI v2)]) (rest := []) ⟨hx, hb, hml, hown, hts⟩ (cR_of l D dA (s.heap.size + 134) MR v1 v2 _ hp1) (cwV 2 hts (z_gV k1121 k1122 k1123 k14 k1124) rfl rfl rfl dm_X12_of ⟨(Nat.le_of_ble_eq_true rfl), (Nat.le_of_ble_eq_true rfl)⟩) ⟨wPre_blind, w_recv hS.2.1 hK.1 (by decide) (zkd_of (rfl : zcd wR 0 = 50) rfl) (by decide) (rfl : vwCl[12]? = some (RX12, TX12, 50)), w_pre hS.2.1 hK⟩ rfl rfl hl.1 rfl (lv_room (Nat.le_of_ble_eq_true rfl)) dL_law_635 ⟨(by show (cells + 1) + 0 ≤ 601024; omega), (by show (slots + 6) + 0 ≤ 7293034; omega)⟩) hS hS0 (fun z9 M10 H locs r11 hp12 hS hS0 => ?_)
    have hE9 := hp12.2
    have hI := hp12.1
    refine lv_istore (lv' := [(6, .int (iI z9)), (5, .int (iI 1)), (4, .int (iI (n : Int))), (3, .ref (s.heap.size + 168 + 0)), (2, .ref (s.heap.size + 134 + 0)), (1, .ref (s.heap.size + 0)), (0, .ref b0)]) hx hb dL_law_638 hl (by decide) rfl (fun ls hl => ?_)
    refine lv_goto (tgt := 1585) hx hb dL_law_640 (by decide) ?_
    exact kk _ _ _ H locs _ _ ls hI hS (by omega) (by omega) hS0 (lv_sub hl [2, 3, 4, 5, 6] rfl)

set_option maxHeartbeats 4000000 in
set_option maxRecDepth 100000 in
theorem lc_12 {p : Program} {e : Env} {s : State} {m : MethodId} {below : List Frame} {meth : Method} {c : Code} {l : Launch} (hst : l.stackTraces = false) {b0 L n : Nat} {xs : Nat → Int32} (hL : L ≤ 2560) (C0 : lw_At p s m meth c b0 L xs) {D : va_G} {dA : Nat → ClassId} (hK : zKK D vwCl (z_tys dA) s) (hTw : zTw s) (hZ0 : zZ (yA s.heap.size) s s.heap) (hn : n + 5 ≤ L) {H : Heap} {locs : List Loc} {cells slots : Nat} {ls : Array Slot} {MC MR MO : zM} (hI : INV MC MR) (hS : LW3 D dA s.heap.size MC MR MO H) (hS0 : va_S (yA s.heap.size) s.heap H locs) (hl : lv_has ls 8 [(4, .int (iI (n : Int))), (3, .ref (s.heap.size + 168 + 0)), (2, .ref (s.heap.size + 134 + 0)), (1, .ref (s.heap.size + 0)), (0, .ref b0)]) (hcc : cells + 1 ≤ 601024) (hss : slots + 6 ≤ 7293034)
    (kk : ∀ (MC1 MR1 MO1 : zM) (H1 : Heap) (locs1 : List Loc) (c1 s1 : Nat) (ls1 : Array Slot), INV MC1 MR1 → LW3 D dA s.heap.size MC1 MR1 MO1 H1 → c1 ≤ cells + 1 → s1 ≤ slots + 6 → va_S (yA s.heap.size) s.heap H1 locs1 → lv_has ls1 8 [(4, .int (iI (n : Int))), (3, .ref (s.heap.size + 168 + 0)), (2, .ref (s.heap.size + 134 + 0)), (1, .ref (s.heap.size + 0)), (0, .ref b0)] → W p l e room_1 s m #[Value.ref b0] below meth c H1 locs1 c1 s1 (lw_Z below #[Value.ref b0] s) (F0 m 1585 ls1 [])) :
    W p l e room_1 s m #[Value.ref b0] below meth c H locs cells slots (lw_Z below #[Value.ref b0] s) (F0 m 643 ls []) := by
  obtain ⟨hx, hb, hr, hml, hown, htsL, hX, hbl, hlocks, hgv⟩ := id C0
  have hts := l_hts htsL
  have hbA : ¬ yA s.heap.size b0 := Nat.not_le.mpr hbl
  have hLb : L < 2147483648 := by omega
  obtain ⟨v1, rv1, ev1⟩ := iI_of (xs (n + 1))
  obtain ⟨v2, rv2, ev2⟩ := iI_of (xs (n + 2))
  refine lv_aload_n hx hb dL_law_643 rfl (lv_at hl 3 rfl) ?_
  refine lv_aload_n hx hb dL_law_644 rfl (lv_at hl 4 rfl) ?_
  refine lv_iload hx hb dL_law_645 (lv_at hl 0 rfl) ?_
  refine z_iconst hx hb dL_law_647 ?_
  refine z_iadd hx hb dL_law_648 ?_
  refine l_sld hx hb hX hbl hbA hS0 (k := n + 1) (v := v1) (by omega) (by omega) hLb ev1 dL_law_649 ?_
  refine lv_aload_n hx hb dL_law_650 rfl (lv_at hl 4 rfl) ?_
  refine lv_iload hx hb dL_law_651 (lv_at hl 0 rfl) ?_
  refine z_iconst hx hb dL_law_653 ?_
  refine z_iadd hx hb dL_law_654 ?_
  refine l_sld hx hb hX hbl hbA hS0 (k := n + 2) (v := v2) (by omega) (by omega) hLb ev2 dL_law_655 ?_
  have h1 := st_inch hI (a0 := v1) (a1 := v2) rv1 rv2
  refine l_wCi (va_runV (As := [.int (iI v1), .int (iI v2)]) (rest := []) ⟨hx, hb, hml, hown, hts⟩ (cC_inch l D dA s.heap.size MC v1 v2 _ h1) (cwV 2 hts (z_gV k466 k467 k468 k1 k469) rfl rfl rfl dm_X11_inch ⟨(Nat.le_of_ble_eq_true rfl), (Nat.le_of_ble_eq_true rfl)⟩) ⟨wPre_blind, w_recv hS.1 hK.1 (by decide) (zkd_of (rfl : zcd wC 0 = 0) rfl) (by decide) (rfl : vwCl[11]? = some (RX11, TX11, 11)), w_pre hS.1 hK⟩ rfl rfl hl.1 rfl (lv_room (Nat.le_of_ble_eq_true rfl)) dL_law_656 ⟨(by show cells + 0 ≤ 601024; omega), (by show slots + 0 ≤ 7293034; omega)⟩) hS hS0 (fun z2 M3 H locs r4 hp5 hS hS0 => ?_)
  obtain ⟨hu7, hp5⟩ := hp5
  rw [hu7] at hS
  refine lv_pop hx hb dL_law_659 rfl ?_
  refine lv_aload_n hx hb dL_law_660 rfl (lv_at hl 2 rfl) ?_
  refine lv_aload_n hx hb dL_law_661 rfl (lv_at hl 4 rfl) ?_
  refine lv_iload hx hb dL_law_662 (lv_at hl 0 rfl) ?_
  refine z_iconst hx hb dL_law_664 ?_
  refine z_iadd hx hb dL_law_665 ?_
  refine l_sld hx hb hX hbl hbA hS0 (k := n + 1) (v := v1) (by omega) (by omega) hLb ev1 dL_law_666 ?_
  refine lv_aload_n hx hb dL_law_667 rfl (lv_at hl 4 rfl) ?_
  refine lv_iload hx hb dL_law_668 (lv_at hl 0 rfl) ?_
  refine z_iconst hx hb dL_law_670 ?_
  refine z_iadd hx hb dL_law_671 ?_
  refine l_sld hx hb hX hbl hbA hS0 (k := n + 2) (v := v2) (by omega) (by omega) hLb ev2 dL_law_672 ?_
  refine l_wRi (va_runV (As := [.int (iI v1), .int (iI v2)]) (rest := []) ⟨hx, hb, hml, hown, hts⟩ (cR_inch l D dA (s.heap.size + 134) MR v1 v2 _ hp5) (cwV 2 hts (z_gV k1135 k1136 k1137 k14 k1138) rfl rfl rfl dm_X12_inch ⟨(Nat.le_of_ble_eq_true rfl), (Nat.le_of_ble_eq_true rfl)⟩) ⟨wPre_blind, w_recv hS.2.1 hK.1 (by decide) (zkd_of (rfl : zcd wR 0 = 50) rfl) (by decide) (rfl : vwCl[12]? = some (RX12, TX12, 50)), w_pre hS.2.1 hK⟩ rfl rfl hl.1 rfl (lv_room (Nat.le_of_ble_eq_true rfl)) dL_law_673 ⟨(by show cells + 0 ≤ 601024; omega), (by show slots + 0 ≤ 7293034; omega)⟩) hS hS0 (fun z6 M7 H locs r8 hp9 hS hS0 => ?_)
  have hE9 := hp9.2
  have hI := hp9.1
  refine lv_pop hx hb dL_law_676 rfl ?_
  refine lv_goto (tgt := 1585) hx hb dL_law_677 (by decide) ?_
  exact kk _ _ _ H locs _ _ ls hI hS (by omega) (by omega) hS0 (lv_sub hl [0, 1, 2, 3, 4] rfl)

set_option maxHeartbeats 4000000 in
set_option maxRecDepth 100000 in
theorem lc_13 {p : Program} {e : Env} {s : State} {m : MethodId} {below : List Frame} {meth : Method} {c : Code} {l : Launch} (hst : l.stackTraces = false) {b0 L n : Nat} {xs : Nat → Int32} (hL : L ≤ 2560) (C0 : lw_At p s m meth c b0 L xs) {D : va_G} {dA : Nat → ClassId} (hK : zKK D vwCl (z_tys dA) s) (hTw : zTw s) (hZ0 : zZ (yA s.heap.size) s s.heap) (hn : n + 5 ≤ L) {H : Heap} {locs : List Loc} {cells slots : Nat} {ls : Array Slot} {MC MR MO : zM} (hI : INV MC MR) (hS : LW3 D dA s.heap.size MC MR MO H) (hS0 : va_S (yA s.heap.size) s.heap H locs) (hl : lv_has ls 8 [(4, .int (iI (n : Int))), (3, .ref (s.heap.size + 168 + 0)), (2, .ref (s.heap.size + 134 + 0)), (1, .ref (s.heap.size + 0)), (0, .ref b0)]) (hcc : cells + 1 ≤ 601024) (hss : slots + 6 ≤ 7293034)
    (kk : ∀ (MC1 MR1 MO1 : zM) (H1 : Heap) (locs1 : List Loc) (c1 s1 : Nat) (ls1 : Array Slot), INV MC1 MR1 → LW3 D dA s.heap.size MC1 MR1 MO1 H1 → c1 ≤ cells + 1 → s1 ≤ slots + 6 → va_S (yA s.heap.size) s.heap H1 locs1 → lv_has ls1 8 [(4, .int (iI (n : Int))), (3, .ref (s.heap.size + 168 + 0)), (2, .ref (s.heap.size + 134 + 0)), (1, .ref (s.heap.size + 0)), (0, .ref b0)] → W p l e room_1 s m #[Value.ref b0] below meth c H1 locs1 c1 s1 (lw_Z below #[Value.ref b0] s) (F0 m 1585 ls1 [])) :
    W p l e room_1 s m #[Value.ref b0] below meth c H locs cells slots (lw_Z below #[Value.ref b0] s) (F0 m 680 ls []) := by
  obtain ⟨hx, hb, hr, hml, hown, htsL, hX, hbl, hlocks, hgv⟩ := id C0
  have hts := l_hts htsL
  have hbA : ¬ yA s.heap.size b0 := Nat.not_le.mpr hbl
  have hLb : L < 2147483648 := by omega
  obtain ⟨v1, rv1, ev1⟩ := iI_of (xs (n + 1))
  obtain ⟨v2, rv2, ev2⟩ := iI_of (xs (n + 2))
  refine lv_aload_n hx hb dL_law_680 rfl (lv_at hl 3 rfl) ?_
  refine lv_aload_n hx hb dL_law_681 rfl (lv_at hl 4 rfl) ?_
  refine lv_iload hx hb dL_law_682 (lv_at hl 0 rfl) ?_
  refine z_iconst hx hb dL_law_684 ?_
  refine z_iadd hx hb dL_law_685 ?_
  refine l_sld hx hb hX hbl hbA hS0 (k := n + 1) (v := v1) (by omega) (by omega) hLb ev1 dL_law_686 ?_
  refine lv_aload_n hx hb dL_law_687 rfl (lv_at hl 4 rfl) ?_
  refine lv_iload hx hb dL_law_688 (lv_at hl 0 rfl) ?_
  refine z_iconst hx hb dL_law_690 ?_
  refine z_iadd hx hb dL_law_691 ?_
  refine l_sld hx hb hX hbl hbA hS0 (k := n + 2) (v := v2) (by omega) (by omega) hLb ev2 dL_law_692 ?_
  refine lv_aload_n hx hb dL_law_693 rfl (lv_at hl 1 rfl) ?_
  have h4 := st_way hI (a0 := v1) (a1 := v2) rv1 rv2
  refine va_calli (vx_runSW (As := [.ref (s.heap.size + 0), .int (iI v1), .int (iI v2), .ref (s.heap.size + 168 + 0)]) (rest := []) ⟨hx, hb, hml, hown, hts⟩ (lw_way (MO := MO) (cC_way l hst D dA s.heap.size MC v1 v2 _ _ h4)) (vx_cwSW 4 hts (z_gS k924 k925 k0 w_way) rfl rfl rfl dm_L_way.2 ⟨(Nat.le_of_ble_eq_true rfl), (Nat.le_of_ble_eq_true rfl)⟩) ⟨wPW_blind, fun U hU hW => ⟨rfl, (w_pre (As := []) hS.1 hK U hU hW).2, by rw [hU]; exact hS.2.2, hTw.warm hW, by rw [hU]; exact (hZ0.kept hS0.2.1).moved hW.alike⟩⟩ rfl rfl hl.1 rfl (lv_room (Nat.le_of_ble_eq_true rfl)) dL_law_694 ⟨(by show cells + 1 ≤ 601024; omega), (by show slots + 6 ≤ 7293034; omega)⟩) hS0 (fun q _ h => h.elim (fun z => z.1) (fun z => by show s.heap.size ≤ q; omega)) (fun q h => h.elim (fun z => z.1) (fun z => by show s.heap.size ≤ q; omega)) (fun rr u3 t9 H1 locs1 ht hvm hp1 hB2 hz hk hS1 => ?_)
  obtain ⟨hR1, hR2⟩ := hB2
  rw [ht] at hR1 hR2
  have hS : LW3 D dA s.heap.size u3.1 MR u3.2 H1 := ⟨hR1, zR_kept hS.2.1 (fun q h1 h2 h3 => hk q h1 (fun z => z.elim (fun y => by have e1 : nC = 134 := rfl; have e2 : nR = 34 := rfl; have := y.2; omega) (fun y => by have e2 : nR = 34 := rfl; omega))), hR2⟩
  have hS0 := hS1
  generalize H1 = H at hS hS0 ⊢
  generalize locs1 = locs at hS0 ⊢
  rcases hp1 with ⟨hr9, v9, hv9, hp1, hu8, hu9⟩ | ⟨hr9, hp1, hu8, hu9⟩
  · skip
    subst hr9
    rw [hu8] at hS
    refine lv_istore (lv' := [(5, .int (iI 0)), (4, .int (iI (n : Int))), (3, .ref (s.heap.size + 168 + 0)), (2, .ref (s.heap.size + 134 + 0)), (1, .ref (s.heap.size + 0)), (0, .ref b0)]) hx hb dL_law_697 hl (by decide) rfl (fun ls hl => ?_)
    refine lv_aload_n hx hb dL_law_699 rfl (lv_at hl 3 rfl) ?_
    refine lv_aload_n hx hb dL_law_700 rfl (lv_at hl 5 rfl) ?_
    refine lv_iload hx hb dL_law_701 (lv_at hl 1 rfl) ?_
    refine z_iconst hx hb dL_law_703 ?_
    refine z_iadd hx hb dL_law_704 ?_
    refine l_sld hx hb hX hbl hbA hS0 (k := n + 1) (v := v1) (by omega) (by omega) hLb ev1 dL_law_705 ?_
    refine lv_aload_n hx hb dL_law_706 rfl (lv_at hl 5 rfl) ?_
    refine lv_iload hx hb dL_law_707 (lv_at hl 1 rfl) ?_
    refine z_iconst hx hb dL_law_709 ?_
    refine z_iadd hx hb dL_law_710 ?_
    refine l_sld hx hb hX hbl hbA hS0 (k := n + 2) (v := v2) (by omega) (by omega) hLb ev2 dL_law_711 ?_
    refine l_wRl (va_runV (As := [.int (iI v1), .int (iI v2)]) (rest := []) ⟨hx, hb, hml, hown, hts⟩ (cR_way l D dA (s.heap.size + 134) MR v1 v2 _ hp1) (cwV 2 hts (z_gV k1139 k1140 k1141 k14 k1142) rfl rfl rfl dm_X12_way ⟨(Nat.le_of_ble_eq_true rfl), (Nat.le_of_ble_eq_true rfl)⟩) ⟨wPre_blind, w_recv hS.2.1 hK.1 (by decide) (zkd_of (rfl : zcd wR 0 = 50) rfl) (by decide) (rfl : vwCl[12]? = some (RX12, TX12, 50)), w_pre hS.2.1 hK⟩ rfl rfl hl.1 rfl (lv_room (Nat.le_of_ble_eq_true rfl)) dL_law_712 ⟨(by show (cells + 1) + 0 ≤ 601024; omega), (by show (slots + 6) + 0 ≤ 7293034; omega)⟩) hS hS0 (fun z5 M6 H locs r7 hp8 hS hS0 => ?_)
    have hE9 := hp8.2
    have hI := hp8.1
    refine lv_lstore (lv' := [(6, .long (iL z5)), (5, .int (iI 0)), (4, .int (iI (n : Int))), (3, .ref (s.heap.size + 168 + 0)), (2, .ref (s.heap.size + 134 + 0)), (1, .ref (s.heap.size + 0)), (0, .ref b0)]) hx hb dL_law_715 hl (by decide) rfl (fun ls hl => ?_)
    refine lv_goto (tgt := 1585) hx hb dL_law_717 (by decide) ?_
    exact kk _ _ _ H locs _ _ ls hI hS (by omega) (by omega) hS0 (lv_sub hl [2, 3, 4, 5, 6] rfl)
  · skip
    subst hr9
    rw [hu8] at hS
    refine lv_istore (lv' := [(5, .int (iI 1)), (4, .int (iI (n : Int))), (3, .ref (s.heap.size + 168 + 0)), (2, .ref (s.heap.size + 134 + 0)), (1, .ref (s.heap.size + 0)), (0, .ref b0)]) hx hb dL_law_697 hl (by decide) rfl (fun ls hl => ?_)
    refine lv_aload_n hx hb dL_law_699 rfl (lv_at hl 3 rfl) ?_
    refine lv_aload_n hx hb dL_law_700 rfl (lv_at hl 5 rfl) ?_
    refine lv_iload hx hb dL_law_701 (lv_at hl 1 rfl) ?_
    refine z_iconst hx hb dL_law_703 ?_
    refine z_iadd hx hb dL_law_704 ?_
    refine l_sld hx hb hX hbl hbA hS0 (k := n + 1) (v := v1) (by omega) (by omega) hLb ev1 dL_law_705 ?_
    refine lv_aload_n hx hb dL_law_706 rfl (lv_at hl 5 rfl) ?_
    refine lv_iload hx hb dL_law_707 (lv_at hl 1 rfl) ?_
    refine z_iconst hx hb dL_law_709 ?_
    refine z_iadd hx hb dL_law_710 ?_
    refine l_sld hx hb hX hbl hbA hS0 (k := n + 2) (v := v2) (by omega) (by omega) hLb ev2 dL_law_711 ?_
    refine l_wRl (va_runV (As := [.int (iI v1), .int (iI v2)]) (rest := []) ⟨hx, hb, hml, hown, hts⟩ (cR_way l D dA (s.heap.size + 134) MR v1 v2 _ hp1) (cwV 2 hts (z_gV k1139 k1140 k1141 k14 k1142) rfl rfl rfl dm_X12_way ⟨(Nat.le_of_ble_eq_true rfl), (Nat.le_of_ble_eq_true rfl)⟩) ⟨wPre_blind, w_recv hS.2.1 hK.1 (by decide) (zkd_of (rfl : zcd wR 0 = 50) rfl) (by decide) (rfl : vwCl[12]? = some (RX12, TX12, 50)), w_pre hS.2.1 hK⟩ rfl rfl hl.1 rfl (lv_room (Nat.le_of_ble_eq_true rfl)) dL_law_712 ⟨(by show (cells + 1) + 0 ≤ 601024; omega), (by show (slots + 6) + 0 ≤ 7293034; omega)⟩) hS hS0 (fun z9 M10 H locs r11 hp12 hS hS0 => ?_)
    have hE9 := hp12.2
    have hI := hp12.1
    refine lv_lstore (lv' := [(6, .long (iL z9)), (5, .int (iI 1)), (4, .int (iI (n : Int))), (3, .ref (s.heap.size + 168 + 0)), (2, .ref (s.heap.size + 134 + 0)), (1, .ref (s.heap.size + 0)), (0, .ref b0)]) hx hb dL_law_715 hl (by decide) rfl (fun ls hl => ?_)
    refine lv_goto (tgt := 1585) hx hb dL_law_717 (by decide) ?_
    exact kk _ _ _ H locs _ _ ls hI hS (by omega) (by omega) hS0 (lv_sub hl [2, 3, 4, 5, 6] rfl)

set_option maxHeartbeats 4000000 in
set_option maxRecDepth 100000 in
theorem lc_14 {p : Program} {e : Env} {s : State} {m : MethodId} {below : List Frame} {meth : Method} {c : Code} {l : Launch} (hst : l.stackTraces = false) {b0 L n : Nat} {xs : Nat → Int32} (hL : L ≤ 2560) (C0 : lw_At p s m meth c b0 L xs) {D : va_G} {dA : Nat → ClassId} (hK : zKK D vwCl (z_tys dA) s) (hTw : zTw s) (hZ0 : zZ (yA s.heap.size) s s.heap) (hn : n + 5 ≤ L) {H : Heap} {locs : List Loc} {cells slots : Nat} {ls : Array Slot} {MC MR MO : zM} (hI : INV MC MR) (hS : LW3 D dA s.heap.size MC MR MO H) (hS0 : va_S (yA s.heap.size) s.heap H locs) (hl : lv_has ls 8 [(4, .int (iI (n : Int))), (3, .ref (s.heap.size + 168 + 0)), (2, .ref (s.heap.size + 134 + 0)), (1, .ref (s.heap.size + 0)), (0, .ref b0)]) (hcc : cells + 1 ≤ 601024) (hss : slots + 6 ≤ 7293034)
    (kk : ∀ (MC1 MR1 MO1 : zM) (H1 : Heap) (locs1 : List Loc) (c1 s1 : Nat) (ls1 : Array Slot), INV MC1 MR1 → LW3 D dA s.heap.size MC1 MR1 MO1 H1 → c1 ≤ cells + 1 → s1 ≤ slots + 6 → va_S (yA s.heap.size) s.heap H1 locs1 → lv_has ls1 8 [(4, .int (iI (n : Int))), (3, .ref (s.heap.size + 168 + 0)), (2, .ref (s.heap.size + 134 + 0)), (1, .ref (s.heap.size + 0)), (0, .ref b0)] → W p l e room_1 s m #[Value.ref b0] below meth c H1 locs1 c1 s1 (lw_Z below #[Value.ref b0] s) (F0 m 1585 ls1 [])) :
    W p l e room_1 s m #[Value.ref b0] below meth c H locs cells slots (lw_Z below #[Value.ref b0] s) (F0 m 720 ls []) := by
  obtain ⟨hx, hb, hr, hml, hown, htsL, hX, hbl, hlocks, hgv⟩ := id C0
  have hts := l_hts htsL
  have hbA : ¬ yA s.heap.size b0 := Nat.not_le.mpr hbl
  have hLb : L < 2147483648 := by omega
  obtain ⟨v1, rv1, ev1⟩ := iI_of (xs (n + 1))
  obtain ⟨v2, rv2, ev2⟩ := iI_of (xs (n + 2))
  obtain ⟨v3, rv3, ev3⟩ := iI_of (xs (n + 3))
  refine lv_aload_n hx hb dL_law_720 rfl (lv_at hl 3 rfl) ?_
  refine lv_aload_n hx hb dL_law_721 rfl (lv_at hl 4 rfl) ?_
  refine lv_iload hx hb dL_law_722 (lv_at hl 0 rfl) ?_
  refine z_iconst hx hb dL_law_724 ?_
  refine z_iadd hx hb dL_law_725 ?_
  refine l_sld hx hb hX hbl hbA hS0 (k := n + 1) (v := v1) (by omega) (by omega) hLb ev1 dL_law_726 ?_
  refine lv_aload_n hx hb dL_law_727 rfl (lv_at hl 4 rfl) ?_
  refine lv_iload hx hb dL_law_728 (lv_at hl 0 rfl) ?_
  refine z_iconst hx hb dL_law_730 ?_
  refine z_iadd hx hb dL_law_731 ?_
  refine l_sld hx hb hX hbl hbA hS0 (k := n + 2) (v := v2) (by omega) (by omega) hLb ev2 dL_law_732 ?_
  refine lv_i2l hx hb dL_law_733 rfl ?_
  refine z_bipush hx hb (by decide) dL_law_734 ?_
  refine lv_lshl hx hb dL_law_736 rfl ?_
  refine lv_aload_n hx hb dL_law_737 rfl (lv_at hl 4 rfl) ?_
  refine lv_iload hx hb dL_law_738 (lv_at hl 0 rfl) ?_
  refine z_iconst hx hb dL_law_740 ?_
  refine z_iadd hx hb dL_law_741 ?_
  refine l_sld hx hb hX hbl hbA hS0 (k := n + 3) (v := v3) (by omega) (by omega) hLb ev3 dL_law_742 ?_
  refine lv_i2l hx hb dL_law_743 rfl ?_
  refine z_ldc2 (n := 4294967295) hx hb hown (hts _ (z_mem k1348)) (by decide) dL_law_744 ?_
  refine lv_land hx hb dL_law_747 ?_
  refine lv_lor hx hb dL_law_748 ?_
  obtain ⟨t1, rt2, et3⟩ := iL_of (((iI v2).toInt64 <<< ((iI 32).toInt64 &&& 63)) ||| ((iI v3).toInt64 &&& iL 4294967295))
  rw [et3]
  have h4 := st_heard hI (a0 := v1) (a1 := t1) rv1 rt2
  refine l_wCi (va_runV (As := [.int (iI v1), .long (iL t1)]) (rest := []) ⟨hx, hb, hml, hown, hts⟩ (cC_heard l D dA s.heap.size MC v1 t1 _ h4) (cwV 2 hts (z_gV k470 k471 k472 k1 k473) rfl rfl rfl dm_X11_heard ⟨(Nat.le_of_ble_eq_true rfl), (Nat.le_of_ble_eq_true rfl)⟩) ⟨wPre_blind, w_recv hS.1 hK.1 (by decide) (zkd_of (rfl : zcd wC 0 = 0) rfl) (by decide) (rfl : vwCl[11]? = some (RX11, TX11, 11)), w_pre hS.1 hK⟩ rfl rfl hl.1 rfl (lv_room (Nat.le_of_ble_eq_true rfl)) dL_law_749 ⟨(by show cells + 0 ≤ 601024; omega), (by show slots + 0 ≤ 7293034; omega)⟩) hS hS0 (fun z5 M6 H locs r7 hp8 hS hS0 => ?_)
  obtain ⟨hu7, hp8⟩ := hp8
  rw [hu7] at hS
  refine lv_pop hx hb dL_law_752 rfl ?_
  refine lv_aload_n hx hb dL_law_753 rfl (lv_at hl 2 rfl) ?_
  refine lv_aload_n hx hb dL_law_754 rfl (lv_at hl 4 rfl) ?_
  refine lv_iload hx hb dL_law_755 (lv_at hl 0 rfl) ?_
  refine z_iconst hx hb dL_law_757 ?_
  refine z_iadd hx hb dL_law_758 ?_
  refine l_sld hx hb hX hbl hbA hS0 (k := n + 1) (v := v1) (by omega) (by omega) hLb ev1 dL_law_759 ?_
  refine lv_aload_n hx hb dL_law_760 rfl (lv_at hl 4 rfl) ?_
  refine lv_iload hx hb dL_law_761 (lv_at hl 0 rfl) ?_
  refine z_iconst hx hb dL_law_763 ?_
  refine z_iadd hx hb dL_law_764 ?_
  refine l_sld hx hb hX hbl hbA hS0 (k := n + 2) (v := v2) (by omega) (by omega) hLb ev2 dL_law_765 ?_
  refine lv_i2l hx hb dL_law_766 rfl ?_
  refine z_bipush hx hb (by decide) dL_law_767 ?_
  refine lv_lshl hx hb dL_law_769 rfl ?_
  refine lv_aload_n hx hb dL_law_770 rfl (lv_at hl 4 rfl) ?_
  refine lv_iload hx hb dL_law_771 (lv_at hl 0 rfl) ?_
  refine z_iconst hx hb dL_law_773 ?_
  refine z_iadd hx hb dL_law_774 ?_
  refine l_sld hx hb hX hbl hbA hS0 (k := n + 3) (v := v3) (by omega) (by omega) hLb ev3 dL_law_775 ?_
  refine lv_i2l hx hb dL_law_776 rfl ?_
  refine z_ldc2 (n := 4294967295) hx hb hown (hts _ (z_mem k1348)) (by decide) dL_law_777 ?_
  refine lv_land hx hb dL_law_780 ?_
  refine lv_lor hx hb dL_law_781 ?_
  rw [et3]
  refine l_wRi (va_runV (As := [.int (iI v1), .long (iL t1)]) (rest := []) ⟨hx, hb, hml, hown, hts⟩ (cR_heard l D dA (s.heap.size + 134) MR v1 t1 _ hp8) (cwV 2 hts (z_gV k1147 k1148 k1149 k14 k1150) rfl rfl rfl dm_X12_heard ⟨(Nat.le_of_ble_eq_true rfl), (Nat.le_of_ble_eq_true rfl)⟩) ⟨wPre_blind, w_recv hS.2.1 hK.1 (by decide) (zkd_of (rfl : zcd wR 0 = 50) rfl) (by decide) (rfl : vwCl[12]? = some (RX12, TX12, 50)), w_pre hS.2.1 hK⟩ rfl rfl hl.1 rfl (lv_room (Nat.le_of_ble_eq_true rfl)) dL_law_782 ⟨(by show cells + 0 ≤ 601024; omega), (by show slots + 0 ≤ 7293034; omega)⟩) hS hS0 (fun z9 M10 H locs r11 hp12 hS hS0 => ?_)
  have hE9 := hp12.2
  have hI := hp12.1
  refine lv_pop hx hb dL_law_785 rfl ?_
  refine lv_goto (tgt := 1585) hx hb dL_law_786 (by decide) ?_
  exact kk _ _ _ H locs _ _ ls hI hS (by omega) (by omega) hS0 (lv_sub hl [0, 1, 2, 3, 4] rfl)
