abbrev rm_J13_bitCount_95d88 : Room := { frames := 0, cells := 0, slots := 0, locals := 0 }
theorem hd_J13_bitCount_95d88 : yJ13_bitCount_95d88.cls = RJ13 ∧ yJ13_bitCount_95d88.cls ≠ "java/lang/invoke/MethodHandle" ∧ yJ13_bitCount_95d88.cls ≠ "java/lang/invoke/VarHandle" ∧ (parseMethodDescriptor yJ13_bitCount_95d88.desc).map (fun d => d.parameters.length) = some 1 := by decide +kernel
theorem hy_J13_bitCount_95d88 : plainName yJ13_bitCount_95d88.cls = true ∧ yJ13_bitCount_95d88.cls = RJ13 ∧ yJ13_bitCount_95d88.name = "bitCount" := by decide +kernel
abbrev rm_J6_compare_7cf53 : Room := { frames := 0, cells := 0, slots := 0, locals := 0 }
theorem hd_J6_compare_7cf53 : yJ6_compare_7cf53.cls = RJ6 ∧ yJ6_compare_7cf53.cls ≠ "java/lang/invoke/MethodHandle" ∧ yJ6_compare_7cf53.cls ≠ "java/lang/invoke/VarHandle" ∧ (parseMethodDescriptor yJ6_compare_7cf53.desc).map (fun d => d.parameters.length) = some 2 := by decide +kernel
theorem hy_J6_compare_7cf53 : plainName yJ6_compare_7cf53.cls = true ∧ yJ6_compare_7cf53.cls = RJ6 ∧ yJ6_compare_7cf53.name = "compare" := by decide +kernel
abbrev rm_J9_max_7cf53 : Room := { frames := 0, cells := 0, slots := 0, locals := 0 }
theorem hd_J9_max_7cf53 : yJ9_max_7cf53.cls = RJ9 ∧ yJ9_max_7cf53.cls ≠ "java/lang/invoke/MethodHandle" ∧ yJ9_max_7cf53.cls ≠ "java/lang/invoke/VarHandle" ∧ (parseMethodDescriptor yJ9_max_7cf53.desc).map (fun d => d.parameters.length) = some 2 := by decide +kernel
abbrev rm_J9_min_7cf53 : Room := { frames := 0, cells := 0, slots := 0, locals := 0 }
theorem hd_J9_min_7cf53 : yJ9_min_7cf53.cls = RJ9 ∧ yJ9_min_7cf53.cls ≠ "java/lang/invoke/MethodHandle" ∧ yJ9_min_7cf53.cls ≠ "java/lang/invoke/VarHandle" ∧ (parseMethodDescriptor yJ9_min_7cf53.desc).map (fun d => d.parameters.length) = some 2 := by decide +kernel
abbrev rm_X0_init : Room := { frames := 2, cells := 0, slots := 0, locals := 41 }
theorem hd_X0_init : yX0_init.cls = RX0 ∧ yX0_init.cls ≠ "java/lang/invoke/MethodHandle" ∧ yX0_init.cls ≠ "java/lang/invoke/VarHandle" ∧ (parseMethodDescriptor yX0_init.desc).map (fun d => d.parameters.length) = some 1 := by decide +kernel
theorem hy_X0_init : plainName yX0_init.cls = true ∧ yX0_init.cls = RX0 ∧ yX0_init.name = "<init>" := by decide +kernel
abbrev rm_X0_size : Room := { frames := 0, cells := 0, slots := 0, locals := 0 }
theorem hd_X0_size : yX0_size.cls = RX0 ∧ yX0_size.cls ≠ "java/lang/invoke/MethodHandle" ∧ yX0_size.cls ≠ "java/lang/invoke/VarHandle" ∧ (parseMethodDescriptor yX0_size.desc).map (fun d => d.parameters.length) = some 0 := by decide +kernel
theorem hy_X0_size : plainName yX0_size.cls = true ∧ yX0_size.cls = RX0 ∧ yX0_size.name = "size" := by decide +kernel
abbrev rm_X10_about : Room := { frames := 3, cells := 0, slots := 0, locals := 64 }
theorem hd_X10_about : yX10_about.cls = RX10 ∧ yX10_about.cls ≠ "java/lang/invoke/MethodHandle" ∧ yX10_about.cls ≠ "java/lang/invoke/VarHandle" ∧ (parseMethodDescriptor yX10_about.desc).map (fun d => d.parameters.length) = some 2 := by decide +kernel
theorem hy_X10_about : plainName yX10_about.cls = true ∧ yX10_about.cls = RX10 ∧ yX10_about.name = "about" := by decide +kernel
abbrev rm_X10_bareRowAt : Room := { frames := 2, cells := 0, slots := 0, locals := 41 }
theorem hd_X10_bareRowAt : yX10_bareRowAt.cls = RX10 ∧ yX10_bareRowAt.cls ≠ "java/lang/invoke/MethodHandle" ∧ yX10_bareRowAt.cls ≠ "java/lang/invoke/VarHandle" ∧ (parseMethodDescriptor yX10_bareRowAt.desc).map (fun d => d.parameters.length) = some 1 := by decide +kernel
theorem hy_X10_bareRowAt : plainName yX10_bareRowAt.cls = true ∧ yX10_bareRowAt.cls = RX10 ∧ yX10_bareRowAt.name = "bareRowAt" := by decide +kernel
abbrev rm_X10_below : Room := { frames := 5, cells := 2, slots := 25, locals := 107 }
theorem hd_X10_below : yX10_below.cls = RX10 ∧ yX10_below.cls ≠ "java/lang/invoke/MethodHandle" ∧ yX10_below.cls ≠ "java/lang/invoke/VarHandle" ∧ (parseMethodDescriptor yX10_below.desc).map (fun d => d.parameters.length) = some 1 := by decide +kernel
theorem hy_X10_below : plainName yX10_below.cls = true ∧ yX10_below.cls = RX10 ∧ yX10_below.name = "below" := by decide +kernel
abbrev rm_X10_bit : Room := { frames := 4, cells := 0, slots := 0, locals := 86 }
theorem hd_X10_bit : yX10_bit.cls = RX10 ∧ yX10_bit.cls ≠ "java/lang/invoke/MethodHandle" ∧ yX10_bit.cls ≠ "java/lang/invoke/VarHandle" ∧ (parseMethodDescriptor yX10_bit.desc).map (fun d => d.parameters.length) = some 2 := by decide +kernel
theorem hy_X10_bit : plainName yX10_bit.cls = true ∧ yX10_bit.cls = RX10 ∧ yX10_bit.name = "bit" := by decide +kernel
abbrev rm_X10_bookAt : Room := { frames := 2, cells := 0, slots := 0, locals := 41 }
theorem hd_X10_bookAt : yX10_bookAt.cls = RX10 ∧ yX10_bookAt.cls ≠ "java/lang/invoke/MethodHandle" ∧ yX10_bookAt.cls ≠ "java/lang/invoke/VarHandle" ∧ (parseMethodDescriptor yX10_bookAt.desc).map (fun d => d.parameters.length) = some 1 := by decide +kernel
theorem hy_X10_bookAt : plainName yX10_bookAt.cls = true ∧ yX10_bookAt.cls = RX10 ∧ yX10_bookAt.name = "bookAt" := by decide +kernel
abbrev rm_X10_check : Room := { frames := 5, cells := 2, slots := 25, locals := 117 }
theorem hd_X10_check : yX10_check.cls = RX10 ∧ yX10_check.cls ≠ "java/lang/invoke/MethodHandle" ∧ yX10_check.cls ≠ "java/lang/invoke/VarHandle" ∧ (parseMethodDescriptor yX10_check.desc).map (fun d => d.parameters.length) = some 1 := by decide +kernel
theorem hy_X10_check : plainName yX10_check.cls = true ∧ yX10_check.cls = RX10 ∧ yX10_check.name = "check" := by decide +kernel
abbrev rm_X10_clear : Room := { frames := 3, cells := 0, slots := 0, locals := 63 }
theorem hd_X10_clear : yX10_clear.cls = RX10 ∧ yX10_clear.cls ≠ "java/lang/invoke/MethodHandle" ∧ yX10_clear.cls ≠ "java/lang/invoke/VarHandle" ∧ (parseMethodDescriptor yX10_clear.desc).map (fun d => d.parameters.length) = some 1 := by decide +kernel
theorem hy_X10_clear : plainName yX10_clear.cls = true ∧ yX10_clear.cls = RX10 ∧ yX10_clear.name = "clear" := by decide +kernel
abbrev rm_X10_common : Room := { frames := 3, cells := 0, slots := 0, locals := 64 }
theorem hd_X10_common : yX10_common.cls = RX10 ∧ yX10_common.cls ≠ "java/lang/invoke/MethodHandle" ∧ yX10_common.cls ≠ "java/lang/invoke/VarHandle" ∧ (parseMethodDescriptor yX10_common.desc).map (fun d => d.parameters.length) = some 3 := by decide +kernel
theorem hy_X10_common : plainName yX10_common.cls = true ∧ yX10_common.cls = RX10 ∧ yX10_common.name = "common" := by decide +kernel
abbrev rm_X10_count : Room := { frames := 2, cells := 0, slots := 0, locals := 41 }
theorem hd_X10_count : yX10_count.cls = RX10 ∧ yX10_count.cls ≠ "java/lang/invoke/MethodHandle" ∧ yX10_count.cls ≠ "java/lang/invoke/VarHandle" ∧ (parseMethodDescriptor yX10_count.desc).map (fun d => d.parameters.length) = some 1 := by decide +kernel
theorem hy_X10_count : plainName yX10_count.cls = true ∧ yX10_count.cls = RX10 ∧ yX10_count.name = "count" := by decide +kernel
abbrev rm_X10_cut : Room := { frames := 0, cells := 0, slots := 0, locals := 0 }
theorem hd_X10_cut : yX10_cut.cls = RX10 ∧ yX10_cut.cls ≠ "java/lang/invoke/MethodHandle" ∧ yX10_cut.cls ≠ "java/lang/invoke/VarHandle" ∧ (parseMethodDescriptor yX10_cut.desc).map (fun d => d.parameters.length) = some 1 := by decide +kernel
theorem hy_X10_cut : plainName yX10_cut.cls = true ∧ yX10_cut.cls = RX10 ∧ yX10_cut.name = "cut" := by decide +kernel
abbrev rm_X10_draft : Room := { frames := 3, cells := 4, slots := 205, locals := 62 }
theorem hd_X10_draft : yX10_draft.cls = RX10 ∧ yX10_draft.cls ≠ "java/lang/invoke/MethodHandle" ∧ yX10_draft.cls ≠ "java/lang/invoke/VarHandle" ∧ (parseMethodDescriptor yX10_draft.desc).map (fun d => d.parameters.length) = some 1 := by decide +kernel
theorem hy_X10_draft : plainName yX10_draft.cls = true ∧ yX10_draft.cls = RX10 ∧ yX10_draft.name = "draft" := by decide +kernel
abbrev rm_X10_draftAt : Room := { frames := 2, cells := 0, slots := 0, locals := 41 }
theorem hd_X10_draftAt : yX10_draftAt.cls = RX10 ∧ yX10_draftAt.cls ≠ "java/lang/invoke/MethodHandle" ∧ yX10_draftAt.cls ≠ "java/lang/invoke/VarHandle" ∧ (parseMethodDescriptor yX10_draftAt.desc).map (fun d => d.parameters.length) = some 1 := by decide +kernel
theorem hy_X10_draftAt : plainName yX10_draftAt.cls = true ∧ yX10_draftAt.cls = RX10 ∧ yX10_draftAt.name = "draftAt" := by decide +kernel
abbrev rm_X10_feed : Room := { frames := 2, cells := 0, slots := 0, locals := 45 }
theorem hd_X10_feed : yX10_feed.cls = RX10 ∧ yX10_feed.cls ≠ "java/lang/invoke/MethodHandle" ∧ yX10_feed.cls ≠ "java/lang/invoke/VarHandle" ∧ (parseMethodDescriptor yX10_feed.desc).map (fun d => d.parameters.length) = some 2 := by decide +kernel
theorem hy_X10_feed : plainName yX10_feed.cls = true ∧ yX10_feed.cls = RX10 ∧ yX10_feed.name = "feed" := by decide +kernel
abbrev rm_X10_flip : Room := { frames := 3, cells := 0, slots := 0, locals := 64 }
theorem hd_X10_flip : yX10_flip.cls = RX10 ∧ yX10_flip.cls ≠ "java/lang/invoke/MethodHandle" ∧ yX10_flip.cls ≠ "java/lang/invoke/VarHandle" ∧ (parseMethodDescriptor yX10_flip.desc).map (fun d => d.parameters.length) = some 3 := by decide +kernel
theorem hy_X10_flip : plainName yX10_flip.cls = true ∧ yX10_flip.cls = RX10 ∧ yX10_flip.name = "flip" := by decide +kernel
abbrev rm_X10_forge : Room := { frames := 1, cells := 0, slots := 0, locals := 21 }
theorem hd_X10_forge : yX10_forge.cls = RX10 ∧ yX10_forge.cls ≠ "java/lang/invoke/MethodHandle" ∧ yX10_forge.cls ≠ "java/lang/invoke/VarHandle" ∧ (parseMethodDescriptor yX10_forge.desc).map (fun d => d.parameters.length) = some 2 := by decide +kernel
theorem hy_X10_forge : plainName yX10_forge.cls = true ∧ yX10_forge.cls = RX10 ∧ yX10_forge.name = "forge" := by decide +kernel
abbrev rm_X10_forkedAt : Room := { frames := 3, cells := 0, slots := 0, locals := 64 }
theorem hd_X10_forkedAt : yX10_forkedAt.cls = RX10 ∧ yX10_forkedAt.cls ≠ "java/lang/invoke/MethodHandle" ∧ yX10_forkedAt.cls ≠ "java/lang/invoke/VarHandle" ∧ (parseMethodDescriptor yX10_forkedAt.desc).map (fun d => d.parameters.length) = some 1 := by decide +kernel
theorem hy_X10_forkedAt : plainName yX10_forkedAt.cls = true ∧ yX10_forkedAt.cls = RX10 ∧ yX10_forkedAt.name = "forkedAt" := by decide +kernel
abbrev rm_X10_image : Room := { frames := 3, cells := 0, slots := 0, locals := 69 }
theorem hd_X10_image : yX10_image.cls = RX10 ∧ yX10_image.cls ≠ "java/lang/invoke/MethodHandle" ∧ yX10_image.cls ≠ "java/lang/invoke/VarHandle" ∧ (parseMethodDescriptor yX10_image.desc).map (fun d => d.parameters.length) = some 1 := by decide +kernel
theorem hy_X10_image : plainName yX10_image.cls = true ∧ yX10_image.cls = RX10 ∧ yX10_image.name = "image" := by decide +kernel
abbrev rm_X10_init : Room := { frames := 2, cells := 14, slots := 11200, locals := 41 }
theorem hd_X10_init : yX10_init.cls = RX10 ∧ yX10_init.cls ≠ "java/lang/invoke/MethodHandle" ∧ yX10_init.cls ≠ "java/lang/invoke/VarHandle" ∧ (parseMethodDescriptor yX10_init.desc).map (fun d => d.parameters.length) = some 0 := by decide +kernel
theorem hy_X10_init : plainName yX10_init.cls = true ∧ yX10_init.cls = RX10 ∧ yX10_init.name = "<init>" := by decide +kernel
abbrev rm_X10_isBeyond : Room := { frames := 0, cells := 0, slots := 0, locals := 0 }
theorem hd_X10_isBeyond : yX10_isBeyond.cls = RX10 ∧ yX10_isBeyond.cls ≠ "java/lang/invoke/MethodHandle" ∧ yX10_isBeyond.cls ≠ "java/lang/invoke/VarHandle" ∧ (parseMethodDescriptor yX10_isBeyond.desc).map (fun d => d.parameters.length) = some 1 := by decide +kernel
theorem hy_X10_isBeyond : plainName yX10_isBeyond.cls = true ∧ yX10_isBeyond.cls = RX10 ∧ yX10_isBeyond.name = "isBeyond" := by decide +kernel
abbrev rm_X10_isBookKind : Room := { frames := 0, cells := 0, slots := 0, locals := 0 }
theorem hd_X10_isBookKind : yX10_isBookKind.cls = RX10 ∧ yX10_isBookKind.cls ≠ "java/lang/invoke/MethodHandle" ∧ yX10_isBookKind.cls ≠ "java/lang/invoke/VarHandle" ∧ (parseMethodDescriptor yX10_isBookKind.desc).map (fun d => d.parameters.length) = some 1 := by decide +kernel
theorem hy_X10_isBookKind : plainName yX10_isBookKind.cls = true ∧ yX10_isBookKind.cls = RX10 ∧ yX10_isBookKind.name = "isBookKind" := by decide +kernel
abbrev rm_X10_kind : Room := { frames := 3, cells := 0, slots := 0, locals := 63 }
theorem hd_X10_kind : yX10_kind.cls = RX10 ∧ yX10_kind.cls ≠ "java/lang/invoke/MethodHandle" ∧ yX10_kind.cls ≠ "java/lang/invoke/VarHandle" ∧ (parseMethodDescriptor yX10_kind.desc).map (fun d => d.parameters.length) = some 1 := by decide +kernel
theorem hy_X10_kind : plainName yX10_kind.cls = true ∧ yX10_kind.cls = RX10 ∧ yX10_kind.name = "kind" := by decide +kernel
abbrev rm_X10_kindHeld : Room := { frames := 2, cells := 0, slots := 0, locals := 41 }
theorem hd_X10_kindHeld : yX10_kindHeld.cls = RX10 ∧ yX10_kindHeld.cls ≠ "java/lang/invoke/MethodHandle" ∧ yX10_kindHeld.cls ≠ "java/lang/invoke/VarHandle" ∧ (parseMethodDescriptor yX10_kindHeld.desc).map (fun d => d.parameters.length) = some 1 := by decide +kernel
theorem hy_X10_kindHeld : plainName yX10_kindHeld.cls = true ∧ yX10_kindHeld.cls = RX10 ∧ yX10_kindHeld.name = "kindHeld" := by decide +kernel
abbrev rm_X10_load : Room := { frames := 5, cells := 220, slots := 5400, locals := 127 }
theorem hd_X10_load : yX10_load.cls = RX10 ∧ yX10_load.cls ≠ "java/lang/invoke/MethodHandle" ∧ yX10_load.cls ≠ "java/lang/invoke/VarHandle" ∧ (parseMethodDescriptor yX10_load.desc).map (fun d => d.parameters.length) = some 1 := by decide +kernel
theorem hy_X10_load : plainName yX10_load.cls = true ∧ yX10_load.cls = RX10 ∧ yX10_load.name = "load" := by decide +kernel
abbrev rm_X10_longest : Room := { frames := 5, cells := 2, slots := 25, locals := 107 }
theorem hd_X10_longest : yX10_longest.cls = RX10 ∧ yX10_longest.cls ≠ "java/lang/invoke/MethodHandle" ∧ yX10_longest.cls ≠ "java/lang/invoke/VarHandle" ∧ (parseMethodDescriptor yX10_longest.desc).map (fun d => d.parameters.length) = some 1 := by decide +kernel
theorem hy_X10_longest : plainName yX10_longest.cls = true ∧ yX10_longest.cls = RX10 ∧ yX10_longest.name = "longest" := by decide +kernel
abbrev rm_X10_lose : Room := { frames := 4, cells := 0, slots := 0, locals := 86 }
theorem hd_X10_lose : yX10_lose.cls = RX10 ∧ yX10_lose.cls ≠ "java/lang/invoke/MethodHandle" ∧ yX10_lose.cls ≠ "java/lang/invoke/VarHandle" ∧ (parseMethodDescriptor yX10_lose.desc).map (fun d => d.parameters.length) = some 2 := by decide +kernel
theorem hy_X10_lose : plainName yX10_lose.cls = true ∧ yX10_lose.cls = RX10 ∧ yX10_lose.name = "lose" := by decide +kernel
abbrev rm_X10_mend : Room := { frames := 4, cells := 0, slots := 0, locals := 86 }
theorem hd_X10_mend : yX10_mend.cls = RX10 ∧ yX10_mend.cls ≠ "java/lang/invoke/MethodHandle" ∧ yX10_mend.cls ≠ "java/lang/invoke/VarHandle" ∧ (parseMethodDescriptor yX10_mend.desc).map (fun d => d.parameters.length) = some 1 := by decide +kernel
theorem hy_X10_mend : plainName yX10_mend.cls = true ∧ yX10_mend.cls = RX10 ∧ yX10_mend.name = "mend" := by decide +kernel
abbrev rm_X10_merge : Room := { frames := 5, cells := 10, slots := 2778, locals := 127 }
theorem hd_X10_merge : yX10_merge.cls = RX10 ∧ yX10_merge.cls ≠ "java/lang/invoke/MethodHandle" ∧ yX10_merge.cls ≠ "java/lang/invoke/VarHandle" ∧ (parseMethodDescriptor yX10_merge.desc).map (fun d => d.parameters.length) = some 5 := by decide +kernel
theorem hy_X10_merge : plainName yX10_merge.cls = true ∧ yX10_merge.cls = RX10 ∧ yX10_merge.name = "merge" := by decide +kernel
abbrev rm_X10_name : Room := { frames := 3, cells := 0, slots := 0, locals := 64 }
theorem hd_X10_name : yX10_name.cls = RX10 ∧ yX10_name.cls ≠ "java/lang/invoke/MethodHandle" ∧ yX10_name.cls ≠ "java/lang/invoke/VarHandle" ∧ (parseMethodDescriptor yX10_name.desc).map (fun d => d.parameters.length) = some 2 := by decide +kernel
theorem hy_X10_name : plainName yX10_name.cls = true ∧ yX10_name.cls = RX10 ∧ yX10_name.name = "name" := by decide +kernel
abbrev rm_X10_nameFor : Room := { frames := 4, cells := 2, slots := 25, locals := 86 }
theorem hd_X10_nameFor : yX10_nameFor.cls = RX10 ∧ yX10_nameFor.cls ≠ "java/lang/invoke/MethodHandle" ∧ yX10_nameFor.cls ≠ "java/lang/invoke/VarHandle" ∧ (parseMethodDescriptor yX10_nameFor.desc).map (fun d => d.parameters.length) = some 1 := by decide +kernel
theorem hy_X10_nameFor : plainName yX10_nameFor.cls = true ∧ yX10_nameFor.cls = RX10 ∧ yX10_nameFor.name = "nameFor" := by decide +kernel
abbrev rm_X10_next : Room := { frames := 5, cells := 2, slots := 25, locals := 107 }
theorem hd_X10_next : yX10_next.cls = RX10 ∧ yX10_next.cls ≠ "java/lang/invoke/MethodHandle" ∧ yX10_next.cls ≠ "java/lang/invoke/VarHandle" ∧ (parseMethodDescriptor yX10_next.desc).map (fun d => d.parameters.length) = some 1 := by decide +kernel
theorem hy_X10_next : plainName yX10_next.cls = true ∧ yX10_next.cls = RX10 ∧ yX10_next.name = "next" := by decide +kernel
abbrev rm_X10_number : Room := { frames := 5, cells := 2, slots := 25, locals := 107 }
theorem hd_X10_number : yX10_number.cls = RX10 ∧ yX10_number.cls ≠ "java/lang/invoke/MethodHandle" ∧ yX10_number.cls ≠ "java/lang/invoke/VarHandle" ∧ (parseMethodDescriptor yX10_number.desc).map (fun d => d.parameters.length) = some 1 := by decide +kernel
theorem hy_X10_number : plainName yX10_number.cls = true ∧ yX10_number.cls = RX10 ∧ yX10_number.name = "number" := by decide +kernel
abbrev rm_X10_prefix : Room := { frames := 5, cells := 2, slots := 25, locals := 107 }
theorem hd_X10_prefix : yX10_prefix.cls = RX10 ∧ yX10_prefix.cls ≠ "java/lang/invoke/MethodHandle" ∧ yX10_prefix.cls ≠ "java/lang/invoke/VarHandle" ∧ (parseMethodDescriptor yX10_prefix.desc).map (fun d => d.parameters.length) = some 2 := by decide +kernel
theorem hy_X10_prefix : plainName yX10_prefix.cls = true ∧ yX10_prefix.cls = RX10 ∧ yX10_prefix.name = "prefix" := by decide +kernel
abbrev rm_X10_prior : Room := { frames := 5, cells := 2, slots := 25, locals := 107 }
theorem hd_X10_prior : yX10_prior.cls = RX10 ∧ yX10_prior.cls ≠ "java/lang/invoke/MethodHandle" ∧ yX10_prior.cls ≠ "java/lang/invoke/VarHandle" ∧ (parseMethodDescriptor yX10_prior.desc).map (fun d => d.parameters.length) = some 1 := by decide +kernel
theorem hy_X10_prior : plainName yX10_prior.cls = true ∧ yX10_prior.cls = RX10 ∧ yX10_prior.name = "prior" := by decide +kernel
abbrev rm_X10_put : Room := { frames := 5, cells := 2, slots := 25, locals := 113 }
theorem hd_X10_put : yX10_put.cls = RX10 ∧ yX10_put.cls ≠ "java/lang/invoke/MethodHandle" ∧ yX10_put.cls ≠ "java/lang/invoke/VarHandle" ∧ (parseMethodDescriptor yX10_put.desc).map (fun d => d.parameters.length) = some 2 := by decide +kernel
theorem hy_X10_put : plainName yX10_put.cls = true ∧ yX10_put.cls = RX10 ∧ yX10_put.name = "put" := by decide +kernel
abbrev rm_X10_rank : Room := { frames := 4, cells := 0, slots := 0, locals := 86 }
theorem hd_X10_rank : yX10_rank.cls = RX10 ∧ yX10_rank.cls ≠ "java/lang/invoke/MethodHandle" ∧ yX10_rank.cls ≠ "java/lang/invoke/VarHandle" ∧ (parseMethodDescriptor yX10_rank.desc).map (fun d => d.parameters.length) = some 2 := by decide +kernel
theorem hy_X10_rank : plainName yX10_rank.cls = true ∧ yX10_rank.cls = RX10 ∧ yX10_rank.name = "rank" := by decide +kernel
abbrev rm_X10_refusalAt : Room := { frames := 1, cells := 0, slots := 0, locals := 20 }
theorem hd_X10_refusalAt : yX10_refusalAt.cls = RX10 ∧ yX10_refusalAt.cls ≠ "java/lang/invoke/MethodHandle" ∧ yX10_refusalAt.cls ≠ "java/lang/invoke/VarHandle" ∧ (parseMethodDescriptor yX10_refusalAt.desc).map (fun d => d.parameters.length) = some 1 := by decide +kernel
theorem hy_X10_refusalAt : plainName yX10_refusalAt.cls = true ∧ yX10_refusalAt.cls = RX10 ∧ yX10_refusalAt.name = "refusalAt" := by decide +kernel
abbrev rm_X10_refusalOfAsking : Room := { frames := 2, cells := 0, slots := 0, locals := 41 }
theorem hd_X10_refusalOfAsking : yX10_refusalOfAsking.cls = RX10 ∧ yX10_refusalOfAsking.cls ≠ "java/lang/invoke/MethodHandle" ∧ yX10_refusalOfAsking.cls ≠ "java/lang/invoke/VarHandle" ∧ (parseMethodDescriptor yX10_refusalOfAsking.desc).map (fun d => d.parameters.length) = some 3 := by decide +kernel
theorem hy_X10_refusalOfAsking : plainName yX10_refusalOfAsking.cls = true ∧ yX10_refusalOfAsking.cls = RX10 ∧ yX10_refusalOfAsking.name = "refusalOfAsking" := by decide +kernel
abbrev rm_X10_row : Room := { frames := 3, cells := 5, slots := 171, locals := 62 }
theorem hd_X10_row : yX10_row.cls = RX10 ∧ yX10_row.cls ≠ "java/lang/invoke/MethodHandle" ∧ yX10_row.cls ≠ "java/lang/invoke/VarHandle" ∧ (parseMethodDescriptor yX10_row.desc).map (fun d => d.parameters.length) = some 2 := by decide +kernel
theorem hy_X10_row : plainName yX10_row.cls = true ∧ yX10_row.cls = RX10 ∧ yX10_row.name = "row" := by decide +kernel
abbrev rm_X10_rowAt : Room := { frames := 3, cells := 0, slots := 0, locals := 64 }
theorem hd_X10_rowAt : yX10_rowAt.cls = RX10 ∧ yX10_rowAt.cls ≠ "java/lang/invoke/MethodHandle" ∧ yX10_rowAt.cls ≠ "java/lang/invoke/VarHandle" ∧ (parseMethodDescriptor yX10_rowAt.desc).map (fun d => d.parameters.length) = some 1 := by decide +kernel
theorem hy_X10_rowAt : plainName yX10_rowAt.cls = true ∧ yX10_rowAt.cls = RX10 ∧ yX10_rowAt.name = "rowAt" := by decide +kernel
abbrev rm_X10_same : Room := { frames := 1, cells := 0, slots := 0, locals := 20 }
theorem hd_X10_same : yX10_same.cls = RX10 ∧ yX10_same.cls ≠ "java/lang/invoke/MethodHandle" ∧ yX10_same.cls ≠ "java/lang/invoke/VarHandle" ∧ (parseMethodDescriptor yX10_same.desc).map (fun d => d.parameters.length) = some 1 := by decide +kernel
theorem hy_X10_same : plainName yX10_same.cls = true ∧ yX10_same.cls = RX10 ∧ yX10_same.name = "same" := by decide +kernel
abbrev rm_X10_seal : Room := { frames := 5, cells := 10, slots := 2778, locals := 127 }
theorem hd_X10_seal : yX10_seal.cls = RX10 ∧ yX10_seal.cls ≠ "java/lang/invoke/MethodHandle" ∧ yX10_seal.cls ≠ "java/lang/invoke/VarHandle" ∧ (parseMethodDescriptor yX10_seal.desc).map (fun d => d.parameters.length) = some 3 := by decide +kernel
theorem hy_X10_seal : plainName yX10_seal.cls = true ∧ yX10_seal.cls = RX10 ∧ yX10_seal.name = "seal" := by decide +kernel
abbrev rm_X10_select : Room := { frames := 4, cells := 0, slots := 0, locals := 86 }
theorem hd_X10_select : yX10_select.cls = RX10 ∧ yX10_select.cls ≠ "java/lang/invoke/MethodHandle" ∧ yX10_select.cls ≠ "java/lang/invoke/VarHandle" ∧ (parseMethodDescriptor yX10_select.desc).map (fun d => d.parameters.length) = some 2 := by decide +kernel
theorem hy_X10_select : plainName yX10_select.cls = true ∧ yX10_select.cls = RX10 ∧ yX10_select.name = "select" := by decide +kernel
abbrev rm_X10_share : Room := { frames := 3, cells := 0, slots := 0, locals := 63 }
theorem hd_X10_share : yX10_share.cls = RX10 ∧ yX10_share.cls ≠ "java/lang/invoke/MethodHandle" ∧ yX10_share.cls ≠ "java/lang/invoke/VarHandle" ∧ (parseMethodDescriptor yX10_share.desc).map (fun d => d.parameters.length) = some 2 := by decide +kernel
theorem hy_X10_share : plainName yX10_share.cls = true ∧ yX10_share.cls = RX10 ∧ yX10_share.name = "share" := by decide +kernel
abbrev rm_X10_shelve : Room := { frames := 1, cells := 0, slots := 0, locals := 20 }
theorem hd_X10_shelve : yX10_shelve.cls = RX10 ∧ yX10_shelve.cls ≠ "java/lang/invoke/MethodHandle" ∧ yX10_shelve.cls ≠ "java/lang/invoke/VarHandle" ∧ (parseMethodDescriptor yX10_shelve.desc).map (fun d => d.parameters.length) = some 2 := by decide +kernel
theorem hy_X10_shelve : plainName yX10_shelve.cls = true ∧ yX10_shelve.cls = RX10 ∧ yX10_shelve.name = "shelve" := by decide +kernel
abbrev rm_X10_status : Room := { frames := 0, cells := 0, slots := 0, locals := 0 }
theorem hd_X10_status : yX10_status.cls = RX10 ∧ yX10_status.cls ≠ "java/lang/invoke/MethodHandle" ∧ yX10_status.cls ≠ "java/lang/invoke/VarHandle" ∧ (parseMethodDescriptor yX10_status.desc).map (fun d => d.parameters.length) = some 0 := by decide +kernel
theorem hy_X10_status : plainName yX10_status.cls = true ∧ yX10_status.cls = RX10 ∧ yX10_status.name = "status" := by decide +kernel
abbrev rm_X10_tape : Room := { frames := 0, cells := 0, slots := 0, locals := 0 }
theorem hd_X10_tape : yX10_tape.cls = RX10 ∧ yX10_tape.cls ≠ "java/lang/invoke/MethodHandle" ∧ yX10_tape.cls ≠ "java/lang/invoke/VarHandle" ∧ (parseMethodDescriptor yX10_tape.desc).map (fun d => d.parameters.length) = some 1 := by decide +kernel
theorem hy_X10_tape : plainName yX10_tape.cls = true ∧ yX10_tape.cls = RX10 ∧ yX10_tape.name = "tape" := by decide +kernel
abbrev rm_X10_thingAt : Room := { frames := 1, cells := 0, slots := 0, locals := 20 }
theorem hd_X10_thingAt : yX10_thingAt.cls = RX10 ∧ yX10_thingAt.cls ≠ "java/lang/invoke/MethodHandle" ∧ yX10_thingAt.cls ≠ "java/lang/invoke/VarHandle" ∧ (parseMethodDescriptor yX10_thingAt.desc).map (fun d => d.parameters.length) = some 1 := by decide +kernel
theorem hy_X10_thingAt : plainName yX10_thingAt.cls = true ∧ yX10_thingAt.cls = RX10 ∧ yX10_thingAt.name = "thingAt" := by decide +kernel
abbrev rm_X10_told : Room := { frames := 1, cells := 0, slots := 0, locals := 21 }
theorem hd_X10_told : yX10_told.cls = RX10 ∧ yX10_told.cls ≠ "java/lang/invoke/MethodHandle" ∧ yX10_told.cls ≠ "java/lang/invoke/VarHandle" ∧ (parseMethodDescriptor yX10_told.desc).map (fun d => d.parameters.length) = some 1 := by decide +kernel
theorem hy_X10_told : plainName yX10_told.cls = true ∧ yX10_told.cls = RX10 ∧ yX10_told.name = "told" := by decide +kernel
abbrev rm_X10_unput : Room := { frames := 5, cells := 2, slots := 25, locals := 111 }
theorem hd_X10_unput : yX10_unput.cls = RX10 ∧ yX10_unput.cls ≠ "java/lang/invoke/MethodHandle" ∧ yX10_unput.cls ≠ "java/lang/invoke/VarHandle" ∧ (parseMethodDescriptor yX10_unput.desc).map (fun d => d.parameters.length) = some 1 := by decide +kernel
theorem hy_X10_unput : plainName yX10_unput.cls = true ∧ yX10_unput.cls = RX10 ∧ yX10_unput.name = "unput" := by decide +kernel
abbrev rm_X10_unseal : Room := { frames := 3, cells := 4, slots := 205, locals := 64 }
theorem hd_X10_unseal : yX10_unseal.cls = RX10 ∧ yX10_unseal.cls ≠ "java/lang/invoke/MethodHandle" ∧ yX10_unseal.cls ≠ "java/lang/invoke/VarHandle" ∧ (parseMethodDescriptor yX10_unseal.desc).map (fun d => d.parameters.length) = some 2 := by decide +kernel
theorem hy_X10_unseal : plainName yX10_unseal.cls = true ∧ yX10_unseal.cls = RX10 ∧ yX10_unseal.name = "unseal" := by decide +kernel
abbrev rm_X10_value : Room := { frames := 3, cells := 0, slots := 0, locals := 64 }
theorem hd_X10_value : yX10_value.cls = RX10 ∧ yX10_value.cls ≠ "java/lang/invoke/MethodHandle" ∧ yX10_value.cls ≠ "java/lang/invoke/VarHandle" ∧ (parseMethodDescriptor yX10_value.desc).map (fun d => d.parameters.length) = some 2 := by decide +kernel
theorem hy_X10_value : plainName yX10_value.cls = true ∧ yX10_value.cls = RX10 ∧ yX10_value.name = "value" := by decide +kernel
abbrev rm_X10_witness : Room := { frames := 5, cells := 2, slots := 25, locals := 117 }
theorem hd_X10_witness : yX10_witness.cls = RX10 ∧ yX10_witness.cls ≠ "java/lang/invoke/MethodHandle" ∧ yX10_witness.cls ≠ "java/lang/invoke/VarHandle" ∧ (parseMethodDescriptor yX10_witness.desc).map (fun d => d.parameters.length) = some 1 := by decide +kernel
theorem hy_X10_witness : plainName yX10_witness.cls = true ∧ yX10_witness.cls = RX10 ∧ yX10_witness.name = "witness" := by decide +kernel
abbrev rm_X10_witnessed : Room := { frames := 0, cells := 0, slots := 0, locals := 0 }
theorem hd_X10_witnessed : yX10_witnessed.cls = RX10 ∧ yX10_witnessed.cls ≠ "java/lang/invoke/MethodHandle" ∧ yX10_witnessed.cls ≠ "java/lang/invoke/VarHandle" ∧ (parseMethodDescriptor yX10_witnessed.desc).map (fun d => d.parameters.length) = some 0 := by decide +kernel
theorem hy_X10_witnessed : plainName yX10_witnessed.cls = true ∧ yX10_witnessed.cls = RX10 ∧ yX10_witnessed.name = "witnessed" := by decide +kernel
abbrev rm_X11_about : Room := { frames := 2, cells := 0, slots := 0, locals := 42 }
theorem hd_X11_about : yX11_about.cls = RX11 ∧ yX11_about.cls ≠ "java/lang/invoke/MethodHandle" ∧ yX11_about.cls ≠ "java/lang/invoke/VarHandle" ∧ (parseMethodDescriptor yX11_about.desc).map (fun d => d.parameters.length) = some 2 := by decide +kernel
theorem hy_X11_about : plainName yX11_about.cls = true ∧ yX11_about.cls = RX11 ∧ yX11_about.name = "about" := by decide +kernel
abbrev rm_X11_addBit : Room := { frames := 0, cells := 0, slots := 0, locals := 0 }
theorem hd_X11_addBit : yX11_addBit.cls = RX11 ∧ yX11_addBit.cls ≠ "java/lang/invoke/MethodHandle" ∧ yX11_addBit.cls ≠ "java/lang/invoke/VarHandle" ∧ (parseMethodDescriptor yX11_addBit.desc).map (fun d => d.parameters.length) = some 2 := by decide +kernel
theorem hy_X11_addBit : plainName yX11_addBit.cls = true ∧ yX11_addBit.cls = RX11 ∧ yX11_addBit.name = "addBit" := by decide +kernel
abbrev rm_X11_addNode : Room := { frames := 0, cells := 0, slots := 0, locals := 0 }
theorem hd_X11_addNode : yX11_addNode.cls = RX11 ∧ yX11_addNode.cls ≠ "java/lang/invoke/MethodHandle" ∧ yX11_addNode.cls ≠ "java/lang/invoke/VarHandle" ∧ (parseMethodDescriptor yX11_addNode.desc).map (fun d => d.parameters.length) = some 4 := by decide +kernel
theorem hy_X11_addNode : plainName yX11_addNode.cls = true ∧ yX11_addNode.cls = RX11 ∧ yX11_addNode.name = "addNode" := by decide +kernel
abbrev rm_X11_ahead : Room := { frames := 2, cells := 0, slots := 0, locals := 47 }
theorem hd_X11_ahead : yX11_ahead.cls = RX11 ∧ yX11_ahead.cls ≠ "java/lang/invoke/MethodHandle" ∧ yX11_ahead.cls ≠ "java/lang/invoke/VarHandle" ∧ (parseMethodDescriptor yX11_ahead.desc).map (fun d => d.parameters.length) = some 1 := by decide +kernel
theorem hy_X11_ahead : plainName yX11_ahead.cls = true ∧ yX11_ahead.cls = RX11 ∧ yX11_ahead.name = "ahead" := by decide +kernel
abbrev rm_X11_alike : Room := { frames := 1, cells := 0, slots := 0, locals := 23 }
theorem hd_X11_alike : yX11_alike.cls = RX11 ∧ yX11_alike.cls ≠ "java/lang/invoke/MethodHandle" ∧ yX11_alike.cls ≠ "java/lang/invoke/VarHandle" ∧ (parseMethodDescriptor yX11_alike.desc).map (fun d => d.parameters.length) = some 2 := by decide +kernel
theorem hy_X11_alike : plainName yX11_alike.cls = true ∧ yX11_alike.cls = RX11 ∧ yX11_alike.name = "alike" := by decide +kernel
abbrev rm_X11_asked : Room := { frames := 2, cells := 0, slots := 0, locals := 42 }
theorem hd_X11_asked : yX11_asked.cls = RX11 ∧ yX11_asked.cls ≠ "java/lang/invoke/MethodHandle" ∧ yX11_asked.cls ≠ "java/lang/invoke/VarHandle" ∧ (parseMethodDescriptor yX11_asked.desc).map (fun d => d.parameters.length) = some 1 := by decide +kernel
theorem hy_X11_asked : plainName yX11_asked.cls = true ∧ yX11_asked.cls = RX11 ∧ yX11_asked.name = "asked" := by decide +kernel
abbrev rm_X11_at : Room := { frames := 0, cells := 0, slots := 0, locals := 0 }
theorem hd_X11_at : yX11_at.cls = RX11 ∧ yX11_at.cls ≠ "java/lang/invoke/MethodHandle" ∧ yX11_at.cls ≠ "java/lang/invoke/VarHandle" ∧ (parseMethodDescriptor yX11_at.desc).map (fun d => d.parameters.length) = some 1 := by decide +kernel
theorem hy_X11_at : plainName yX11_at.cls = true ∧ yX11_at.cls = RX11 ∧ yX11_at.name = "at" := by decide +kernel
abbrev rm_X11_below : Room := { frames := 3, cells := 0, slots := 0, locals := 69 }
theorem hd_X11_below : yX11_below.cls = RX11 ∧ yX11_below.cls ≠ "java/lang/invoke/MethodHandle" ∧ yX11_below.cls ≠ "java/lang/invoke/VarHandle" ∧ (parseMethodDescriptor yX11_below.desc).map (fun d => d.parameters.length) = some 1 := by decide +kernel
theorem hy_X11_below : plainName yX11_below.cls = true ∧ yX11_below.cls = RX11 ∧ yX11_below.name = "below" := by decide +kernel
abbrev rm_X11_bit : Room := { frames := 2, cells := 0, slots := 0, locals := 42 }
theorem hd_X11_bit : yX11_bit.cls = RX11 ∧ yX11_bit.cls ≠ "java/lang/invoke/MethodHandle" ∧ yX11_bit.cls ≠ "java/lang/invoke/VarHandle" ∧ (parseMethodDescriptor yX11_bit.desc).map (fun d => d.parameters.length) = some 2 := by decide +kernel
theorem hy_X11_bit : plainName yX11_bit.cls = true ∧ yX11_bit.cls = RX11 ∧ yX11_bit.name = "bit" := by decide +kernel
abbrev rm_X11_book : Room := { frames := 1, cells := 0, slots := 0, locals := 21 }
theorem hd_X11_book : yX11_book.cls = RX11 ∧ yX11_book.cls ≠ "java/lang/invoke/MethodHandle" ∧ yX11_book.cls ≠ "java/lang/invoke/VarHandle" ∧ (parseMethodDescriptor yX11_book.desc).map (fun d => d.parameters.length) = some 1 := by decide +kernel
theorem hy_X11_book : plainName yX11_book.cls = true ∧ yX11_book.cls = RX11 ∧ yX11_book.name = "book" := by decide +kernel
abbrev rm_X11_byteAt : Room := { frames := 0, cells := 0, slots := 0, locals := 0 }
theorem hd_X11_byteAt : yX11_byteAt.cls = RX11 ∧ yX11_byteAt.cls ≠ "java/lang/invoke/MethodHandle" ∧ yX11_byteAt.cls ≠ "java/lang/invoke/VarHandle" ∧ (parseMethodDescriptor yX11_byteAt.desc).map (fun d => d.parameters.length) = some 3 := by decide +kernel
theorem hy_X11_byteAt : plainName yX11_byteAt.cls = true ∧ yX11_byteAt.cls = RX11 ∧ yX11_byteAt.name = "byteAt" := by decide +kernel
abbrev rm_X11_check : Room := { frames := 4, cells := 0, slots := 0, locals := 102 }
theorem hd_X11_check : yX11_check.cls = RX11 ∧ yX11_check.cls ≠ "java/lang/invoke/MethodHandle" ∧ yX11_check.cls ≠ "java/lang/invoke/VarHandle" ∧ (parseMethodDescriptor yX11_check.desc).map (fun d => d.parameters.length) = some 1 := by decide +kernel
theorem hy_X11_check : plainName yX11_check.cls = true ∧ yX11_check.cls = RX11 ∧ yX11_check.name = "check" := by decide +kernel
abbrev rm_X11_clear : Room := { frames := 2, cells := 0, slots := 0, locals := 42 }
theorem hd_X11_clear : yX11_clear.cls = RX11 ∧ yX11_clear.cls ≠ "java/lang/invoke/MethodHandle" ∧ yX11_clear.cls ≠ "java/lang/invoke/VarHandle" ∧ (parseMethodDescriptor yX11_clear.desc).map (fun d => d.parameters.length) = some 1 := by decide +kernel
theorem hy_X11_clear : plainName yX11_clear.cls = true ∧ yX11_clear.cls = RX11 ∧ yX11_clear.name = "clear" := by decide +kernel
abbrev rm_X11_common : Room := { frames := 2, cells := 0, slots := 0, locals := 46 }
theorem hd_X11_common : yX11_common.cls = RX11 ∧ yX11_common.cls ≠ "java/lang/invoke/MethodHandle" ∧ yX11_common.cls ≠ "java/lang/invoke/VarHandle" ∧ (parseMethodDescriptor yX11_common.desc).map (fun d => d.parameters.length) = some 3 := by decide +kernel
theorem hy_X11_common : plainName yX11_common.cls = true ∧ yX11_common.cls = RX11 ∧ yX11_common.name = "common" := by decide +kernel
abbrev rm_X11_copy : Room := { frames := 0, cells := 0, slots := 0, locals := 0 }
theorem hd_X11_copy : yX11_copy.cls = RX11 ∧ yX11_copy.cls ≠ "java/lang/invoke/MethodHandle" ∧ yX11_copy.cls ≠ "java/lang/invoke/VarHandle" ∧ (parseMethodDescriptor yX11_copy.desc).map (fun d => d.parameters.length) = some 4 := by decide +kernel
theorem hy_X11_copy : plainName yX11_copy.cls = true ∧ yX11_copy.cls = RX11 ∧ yX11_copy.name = "copy" := by decide +kernel
abbrev rm_X11_count : Room := { frames := 1, cells := 0, slots := 0, locals := 21 }
theorem hd_X11_count : yX11_count.cls = RX11 ∧ yX11_count.cls ≠ "java/lang/invoke/MethodHandle" ∧ yX11_count.cls ≠ "java/lang/invoke/VarHandle" ∧ (parseMethodDescriptor yX11_count.desc).map (fun d => d.parameters.length) = some 1 := by decide +kernel
theorem hy_X11_count : plainName yX11_count.cls = true ∧ yX11_count.cls = RX11 ∧ yX11_count.name = "count" := by decide +kernel
abbrev rm_X11_cut : Room := { frames := 0, cells := 0, slots := 0, locals := 0 }
theorem hd_X11_cut : yX11_cut.cls = RX11 ∧ yX11_cut.cls ≠ "java/lang/invoke/MethodHandle" ∧ yX11_cut.cls ≠ "java/lang/invoke/VarHandle" ∧ (parseMethodDescriptor yX11_cut.desc).map (fun d => d.parameters.length) = some 1 := by decide +kernel
theorem hy_X11_cut : plainName yX11_cut.cls = true ∧ yX11_cut.cls = RX11 ∧ yX11_cut.name = "cut" := by decide +kernel
abbrev rm_X11_draft : Room := { frames := 1, cells := 0, slots := 0, locals := 24 }
theorem hd_X11_draft : yX11_draft.cls = RX11 ∧ yX11_draft.cls ≠ "java/lang/invoke/MethodHandle" ∧ yX11_draft.cls ≠ "java/lang/invoke/VarHandle" ∧ (parseMethodDescriptor yX11_draft.desc).map (fun d => d.parameters.length) = some 1 := by decide +kernel
theorem hy_X11_draft : plainName yX11_draft.cls = true ∧ yX11_draft.cls = RX11 ∧ yX11_draft.name = "draft" := by decide +kernel
abbrev rm_X11_drafted : Room := { frames := 1, cells := 0, slots := 0, locals := 21 }
theorem hd_X11_drafted : yX11_drafted.cls = RX11 ∧ yX11_drafted.cls ≠ "java/lang/invoke/MethodHandle" ∧ yX11_drafted.cls ≠ "java/lang/invoke/VarHandle" ∧ (parseMethodDescriptor yX11_drafted.desc).map (fun d => d.parameters.length) = some 1 := by decide +kernel
theorem hy_X11_drafted : plainName yX11_drafted.cls = true ∧ yX11_drafted.cls = RX11 ∧ yX11_drafted.name = "drafted" := by decide +kernel
abbrev rm_X11_feed : Room := { frames := 0, cells := 0, slots := 0, locals := 0 }
theorem hd_X11_feed : yX11_feed.cls = RX11 ∧ yX11_feed.cls ≠ "java/lang/invoke/MethodHandle" ∧ yX11_feed.cls ≠ "java/lang/invoke/VarHandle" ∧ (parseMethodDescriptor yX11_feed.desc).map (fun d => d.parameters.length) = some 2 := by decide +kernel
theorem hy_X11_feed : plainName yX11_feed.cls = true ∧ yX11_feed.cls = RX11 ∧ yX11_feed.name = "feed" := by decide +kernel
abbrev rm_X11_fits : Room := { frames := 0, cells := 0, slots := 0, locals := 0 }
theorem hd_X11_fits : yX11_fits.cls = RX11 ∧ yX11_fits.cls ≠ "java/lang/invoke/MethodHandle" ∧ yX11_fits.cls ≠ "java/lang/invoke/VarHandle" ∧ (parseMethodDescriptor yX11_fits.desc).map (fun d => d.parameters.length) = some 2 := by decide +kernel
theorem hy_X11_fits : plainName yX11_fits.cls = true ∧ yX11_fits.cls = RX11 ∧ yX11_fits.name = "fits" := by decide +kernel
abbrev rm_X11_flip : Room := { frames := 1, cells := 0, slots := 0, locals := 21 }
theorem hd_X11_flip : yX11_flip.cls = RX11 ∧ yX11_flip.cls ≠ "java/lang/invoke/MethodHandle" ∧ yX11_flip.cls ≠ "java/lang/invoke/VarHandle" ∧ (parseMethodDescriptor yX11_flip.desc).map (fun d => d.parameters.length) = some 3 := by decide +kernel
theorem hy_X11_flip : plainName yX11_flip.cls = true ∧ yX11_flip.cls = RX11 ∧ yX11_flip.name = "flip" := by decide +kernel
abbrev rm_X11_forge : Room := { frames := 0, cells := 0, slots := 0, locals := 0 }
theorem hd_X11_forge : yX11_forge.cls = RX11 ∧ yX11_forge.cls ≠ "java/lang/invoke/MethodHandle" ∧ yX11_forge.cls ≠ "java/lang/invoke/VarHandle" ∧ (parseMethodDescriptor yX11_forge.desc).map (fun d => d.parameters.length) = some 2 := by decide +kernel
theorem hy_X11_forge : plainName yX11_forge.cls = true ∧ yX11_forge.cls = RX11 ∧ yX11_forge.name = "forge" := by decide +kernel
abbrev rm_X11_forked : Room := { frames := 2, cells := 0, slots := 0, locals := 42 }
theorem hd_X11_forked : yX11_forked.cls = RX11 ∧ yX11_forked.cls ≠ "java/lang/invoke/MethodHandle" ∧ yX11_forked.cls ≠ "java/lang/invoke/VarHandle" ∧ (parseMethodDescriptor yX11_forked.desc).map (fun d => d.parameters.length) = some 1 := by decide +kernel
theorem hy_X11_forked : plainName yX11_forked.cls = true ∧ yX11_forked.cls = RX11 ∧ yX11_forked.name = "forked" := by decide +kernel
abbrev rm_X11_goes : Room := { frames := 4, cells := 0, slots := 0, locals := 92 }
theorem hd_X11_goes : yX11_goes.cls = RX11 ∧ yX11_goes.cls ≠ "java/lang/invoke/MethodHandle" ∧ yX11_goes.cls ≠ "java/lang/invoke/VarHandle" ∧ (parseMethodDescriptor yX11_goes.desc).map (fun d => d.parameters.length) = some 4 := by decide +kernel
theorem hy_X11_goes : plainName yX11_goes.cls = true ∧ yX11_goes.cls = RX11 ∧ yX11_goes.name = "goes" := by decide +kernel
abbrev rm_X11_goesDown : Room := { frames := 3, cells := 0, slots := 0, locals := 76 }
theorem hd_X11_goesDown : yX11_goesDown.cls = RX11 ∧ yX11_goesDown.cls ≠ "java/lang/invoke/MethodHandle" ∧ yX11_goesDown.cls ≠ "java/lang/invoke/VarHandle" ∧ (parseMethodDescriptor yX11_goesDown.desc).map (fun d => d.parameters.length) = some 1 := by decide +kernel
theorem hy_X11_goesDown : plainName yX11_goesDown.cls = true ∧ yX11_goesDown.cls = RX11 ∧ yX11_goesDown.name = "goesDown" := by decide +kernel
abbrev rm_X11_groupEnd : Room := { frames := 1, cells := 0, slots := 0, locals := 23 }
theorem hd_X11_groupEnd : yX11_groupEnd.cls = RX11 ∧ yX11_groupEnd.cls ≠ "java/lang/invoke/MethodHandle" ∧ yX11_groupEnd.cls ≠ "java/lang/invoke/VarHandle" ∧ (parseMethodDescriptor yX11_groupEnd.desc).map (fun d => d.parameters.length) = some 4 := by decide +kernel
theorem hy_X11_groupEnd : plainName yX11_groupEnd.cls = true ∧ yX11_groupEnd.cls = RX11 ∧ yX11_groupEnd.name = "groupEnd" := by decide +kernel
abbrev rm_X11_highBits : Room := { frames := 0, cells := 0, slots := 0, locals := 0 }
theorem hd_X11_highBits : yX11_highBits.cls = RX11 ∧ yX11_highBits.cls ≠ "java/lang/invoke/MethodHandle" ∧ yX11_highBits.cls ≠ "java/lang/invoke/VarHandle" ∧ (parseMethodDescriptor yX11_highBits.desc).map (fun d => d.parameters.length) = some 1 := by decide +kernel
theorem hy_X11_highBits : plainName yX11_highBits.cls = true ∧ yX11_highBits.cls = RX11 ∧ yX11_highBits.name = "highBits" := by decide +kernel
abbrev rm_X11_image : Room := { frames := 2, cells := 0, slots := 0, locals := 43 }
theorem hd_X11_image : yX11_image.cls = RX11 ∧ yX11_image.cls ≠ "java/lang/invoke/MethodHandle" ∧ yX11_image.cls ≠ "java/lang/invoke/VarHandle" ∧ (parseMethodDescriptor yX11_image.desc).map (fun d => d.parameters.length) = some 1 := by decide +kernel
theorem hy_X11_image : plainName yX11_image.cls = true ∧ yX11_image.cls = RX11 ∧ yX11_image.name = "image" := by decide +kernel
abbrev rm_X11_init : Room := { frames := 1, cells := 21, slots := 110000, locals := 20 }
theorem hd_X11_init : yX11_init.cls = RX11 ∧ yX11_init.cls ≠ "java/lang/invoke/MethodHandle" ∧ yX11_init.cls ≠ "java/lang/invoke/VarHandle" ∧ (parseMethodDescriptor yX11_init.desc).map (fun d => d.parameters.length) = some 0 := by decide +kernel
theorem hy_X11_init : plainName yX11_init.cls = true ∧ yX11_init.cls = RX11 ∧ yX11_init.name = "<init>" := by decide +kernel
abbrev rm_X11_insert : Room := { frames := 1, cells := 0, slots := 0, locals := 25 }
theorem hd_X11_insert : yX11_insert.cls = RX11 ∧ yX11_insert.cls ≠ "java/lang/invoke/MethodHandle" ∧ yX11_insert.cls ≠ "java/lang/invoke/VarHandle" ∧ (parseMethodDescriptor yX11_insert.desc).map (fun d => d.parameters.length) = some 3 := by decide +kernel
theorem hy_X11_insert : plainName yX11_insert.cls = true ∧ yX11_insert.cls = RX11 ∧ yX11_insert.name = "insert" := by decide +kernel
abbrev rm_X11_isAgain : Room := { frames := 1, cells := 0, slots := 0, locals := 23 }
theorem hd_X11_isAgain : yX11_isAgain.cls = RX11 ∧ yX11_isAgain.cls ≠ "java/lang/invoke/MethodHandle" ∧ yX11_isAgain.cls ≠ "java/lang/invoke/VarHandle" ∧ (parseMethodDescriptor yX11_isAgain.desc).map (fun d => d.parameters.length) = some 2 := by decide +kernel
theorem hy_X11_isAgain : plainName yX11_isAgain.cls = true ∧ yX11_isAgain.cls = RX11 ∧ yX11_isAgain.name = "isAgain" := by decide +kernel
abbrev rm_X11_isAt : Room := { frames := 2, cells := 0, slots := 0, locals := 47 }
theorem hd_X11_isAt : yX11_isAt.cls = RX11 ∧ yX11_isAt.cls ≠ "java/lang/invoke/MethodHandle" ∧ yX11_isAt.cls ≠ "java/lang/invoke/VarHandle" ∧ (parseMethodDescriptor yX11_isAt.desc).map (fun d => d.parameters.length) = some 2 := by decide +kernel
theorem hy_X11_isAt : plainName yX11_isAt.cls = true ∧ yX11_isAt.cls = RX11 ∧ yX11_isAt.name = "isAt" := by decide +kernel
abbrev rm_X11_isEnd : Room := { frames := 0, cells := 0, slots := 0, locals := 0 }
theorem hd_X11_isEnd : yX11_isEnd.cls = RX11 ∧ yX11_isEnd.cls ≠ "java/lang/invoke/MethodHandle" ∧ yX11_isEnd.cls ≠ "java/lang/invoke/VarHandle" ∧ (parseMethodDescriptor yX11_isEnd.desc).map (fun d => d.parameters.length) = some 2 := by decide +kernel
theorem hy_X11_isEnd : plainName yX11_isEnd.cls = true ∧ yX11_isEnd.cls = RX11 ∧ yX11_isEnd.name = "isEnd" := by decide +kernel
abbrev rm_X11_isImage : Room := { frames := 2, cells := 0, slots := 0, locals := 50 }
theorem hd_X11_isImage : yX11_isImage.cls = RX11 ∧ yX11_isImage.cls ≠ "java/lang/invoke/MethodHandle" ∧ yX11_isImage.cls ≠ "java/lang/invoke/VarHandle" ∧ (parseMethodDescriptor yX11_isImage.desc).map (fun d => d.parameters.length) = some 2 := by decide +kernel
theorem hy_X11_isImage : plainName yX11_isImage.cls = true ∧ yX11_isImage.cls = RX11 ∧ yX11_isImage.name = "isImage" := by decide +kernel
abbrev rm_X11_isIn : Room := { frames := 3, cells := 0, slots := 0, locals := 69 }
theorem hd_X11_isIn : yX11_isIn.cls = RX11 ∧ yX11_isIn.cls ≠ "java/lang/invoke/MethodHandle" ∧ yX11_isIn.cls ≠ "java/lang/invoke/VarHandle" ∧ (parseMethodDescriptor yX11_isIn.desc).map (fun d => d.parameters.length) = some 3 := by decide +kernel
theorem hy_X11_isIn : plainName yX11_isIn.cls = true ∧ yX11_isIn.cls = RX11 ∧ yX11_isIn.name = "isIn" := by decide +kernel
abbrev rm_X11_isName : Room := { frames := 0, cells := 0, slots := 0, locals := 0 }
theorem hd_X11_isName : yX11_isName.cls = RX11 ∧ yX11_isName.cls ≠ "java/lang/invoke/MethodHandle" ∧ yX11_isName.cls ≠ "java/lang/invoke/VarHandle" ∧ (parseMethodDescriptor yX11_isName.desc).map (fun d => d.parameters.length) = some 2 := by decide +kernel
theorem hy_X11_isName : plainName yX11_isName.cls = true ∧ yX11_isName.cls = RX11 ∧ yX11_isName.name = "isName" := by decide +kernel
abbrev rm_X11_isPlace : Room := { frames := 0, cells := 0, slots := 0, locals := 0 }
theorem hd_X11_isPlace : yX11_isPlace.cls = RX11 ∧ yX11_isPlace.cls ≠ "java/lang/invoke/MethodHandle" ∧ yX11_isPlace.cls ≠ "java/lang/invoke/VarHandle" ∧ (parseMethodDescriptor yX11_isPlace.desc).map (fun d => d.parameters.length) = some 1 := by decide +kernel
theorem hy_X11_isPlace : plainName yX11_isPlace.cls = true ∧ yX11_isPlace.cls = RX11 ∧ yX11_isPlace.name = "isPlace" := by decide +kernel
abbrev rm_X11_kind : Room := { frames := 1, cells := 0, slots := 0, locals := 21 }
theorem hd_X11_kind : yX11_kind.cls = RX11 ∧ yX11_kind.cls ≠ "java/lang/invoke/MethodHandle" ∧ yX11_kind.cls ≠ "java/lang/invoke/VarHandle" ∧ (parseMethodDescriptor yX11_kind.desc).map (fun d => d.parameters.length) = some 1 := by decide +kernel
theorem hy_X11_kind : plainName yX11_kind.cls = true ∧ yX11_kind.cls = RX11 ∧ yX11_kind.name = "kind" := by decide +kernel
abbrev rm_X11_lay : Room := { frames := 1, cells := 0, slots := 0, locals := 23 }
theorem hd_X11_lay : yX11_lay.cls = RX11 ∧ yX11_lay.cls ≠ "java/lang/invoke/MethodHandle" ∧ yX11_lay.cls ≠ "java/lang/invoke/VarHandle" ∧ (parseMethodDescriptor yX11_lay.desc).map (fun d => d.parameters.length) = some 2 := by decide +kernel
theorem hy_X11_lay : plainName yX11_lay.cls = true ∧ yX11_lay.cls = RX11 ∧ yX11_lay.name = "lay" := by decide +kernel
abbrev rm_X11_lay_ : Room := { frames := 0, cells := 0, slots := 0, locals := 0 }
theorem hd_X11_lay_ : yX11_lay_.cls = RX11 ∧ yX11_lay_.cls ≠ "java/lang/invoke/MethodHandle" ∧ yX11_lay_.cls ≠ "java/lang/invoke/VarHandle" ∧ (parseMethodDescriptor yX11_lay_.desc).map (fun d => d.parameters.length) = some 1 := by decide +kernel
theorem hy_X11_lay_ : plainName yX11_lay_.cls = true ∧ yX11_lay_.cls = RX11 ∧ yX11_lay_.name = "lay" := by decide +kernel
abbrev rm_X11_load : Room := { frames := 4, cells := 0, slots := 0, locals := 100 }
theorem hd_X11_load : yX11_load.cls = RX11 ∧ yX11_load.cls ≠ "java/lang/invoke/MethodHandle" ∧ yX11_load.cls ≠ "java/lang/invoke/VarHandle" ∧ (parseMethodDescriptor yX11_load.desc).map (fun d => d.parameters.length) = some 1 := by decide +kernel
theorem hy_X11_load : plainName yX11_load.cls = true ∧ yX11_load.cls = RX11 ∧ yX11_load.name = "load" := by decide +kernel
abbrev rm_X11_longest : Room := { frames := 3, cells := 0, slots := 0, locals := 64 }
theorem hd_X11_longest : yX11_longest.cls = RX11 ∧ yX11_longest.cls ≠ "java/lang/invoke/MethodHandle" ∧ yX11_longest.cls ≠ "java/lang/invoke/VarHandle" ∧ (parseMethodDescriptor yX11_longest.desc).map (fun d => d.parameters.length) = some 1 := by decide +kernel
theorem hy_X11_longest : plainName yX11_longest.cls = true ∧ yX11_longest.cls = RX11 ∧ yX11_longest.name = "longest" := by decide +kernel
abbrev rm_X11_lose : Room := { frames := 2, cells := 0, slots := 0, locals := 42 }
theorem hd_X11_lose : yX11_lose.cls = RX11 ∧ yX11_lose.cls ≠ "java/lang/invoke/MethodHandle" ∧ yX11_lose.cls ≠ "java/lang/invoke/VarHandle" ∧ (parseMethodDescriptor yX11_lose.desc).map (fun d => d.parameters.length) = some 2 := by decide +kernel
theorem hy_X11_lose : plainName yX11_lose.cls = true ∧ yX11_lose.cls = RX11 ∧ yX11_lose.name = "lose" := by decide +kernel
abbrev rm_X11_made : Room := { frames := 0, cells := 0, slots := 0, locals := 0 }
theorem hd_X11_made : yX11_made.cls = RX11 ∧ yX11_made.cls ≠ "java/lang/invoke/MethodHandle" ∧ yX11_made.cls ≠ "java/lang/invoke/VarHandle" ∧ (parseMethodDescriptor yX11_made.desc).map (fun d => d.parameters.length) = some 1 := by decide +kernel
theorem hy_X11_made : plainName yX11_made.cls = true ∧ yX11_made.cls = RX11 ∧ yX11_made.name = "made" := by decide +kernel
abbrev rm_X11_mend : Room := { frames := 2, cells := 0, slots := 0, locals := 42 }
theorem hd_X11_mend : yX11_mend.cls = RX11 ∧ yX11_mend.cls ≠ "java/lang/invoke/MethodHandle" ∧ yX11_mend.cls ≠ "java/lang/invoke/VarHandle" ∧ (parseMethodDescriptor yX11_mend.desc).map (fun d => d.parameters.length) = some 1 := by decide +kernel
theorem hy_X11_mend : plainName yX11_mend.cls = true ∧ yX11_mend.cls = RX11 ∧ yX11_mend.name = "mend" := by decide +kernel
abbrev rm_X11_merge : Room := { frames := 5, cells := 0, slots := 0, locals := 116 }
theorem hd_X11_merge : yX11_merge.cls = RX11 ∧ yX11_merge.cls ≠ "java/lang/invoke/MethodHandle" ∧ yX11_merge.cls ≠ "java/lang/invoke/VarHandle" ∧ (parseMethodDescriptor yX11_merge.desc).map (fun d => d.parameters.length) = some 5 := by decide +kernel
theorem hy_X11_merge : plainName yX11_merge.cls = true ∧ yX11_merge.cls = RX11 ∧ yX11_merge.name = "merge" := by decide +kernel
abbrev rm_X11_misses : Room := { frames := 0, cells := 0, slots := 0, locals := 0 }
theorem hd_X11_misses : yX11_misses.cls = RX11 ∧ yX11_misses.cls ≠ "java/lang/invoke/MethodHandle" ∧ yX11_misses.cls ≠ "java/lang/invoke/VarHandle" ∧ (parseMethodDescriptor yX11_misses.desc).map (fun d => d.parameters.length) = some 1 := by decide +kernel
theorem hy_X11_misses : plainName yX11_misses.cls = true ∧ yX11_misses.cls = RX11 ∧ yX11_misses.name = "misses" := by decide +kernel
abbrev rm_X11_name : Room := { frames := 2, cells := 0, slots := 0, locals := 42 }
theorem hd_X11_name : yX11_name.cls = RX11 ∧ yX11_name.cls ≠ "java/lang/invoke/MethodHandle" ∧ yX11_name.cls ≠ "java/lang/invoke/VarHandle" ∧ (parseMethodDescriptor yX11_name.desc).map (fun d => d.parameters.length) = some 2 := by decide +kernel
theorem hy_X11_name : plainName yX11_name.cls = true ∧ yX11_name.cls = RX11 ∧ yX11_name.name = "name" := by decide +kernel
abbrev rm_X11_next : Room := { frames := 3, cells := 0, slots := 0, locals := 69 }
theorem hd_X11_next : yX11_next.cls = RX11 ∧ yX11_next.cls ≠ "java/lang/invoke/MethodHandle" ∧ yX11_next.cls ≠ "java/lang/invoke/VarHandle" ∧ (parseMethodDescriptor yX11_next.desc).map (fun d => d.parameters.length) = some 1 := by decide +kernel
theorem hy_X11_next : plainName yX11_next.cls = true ∧ yX11_next.cls = RX11 ∧ yX11_next.name = "next" := by decide +kernel
abbrev rm_X11_number : Room := { frames := 3, cells := 0, slots := 0, locals := 69 }
theorem hd_X11_number : yX11_number.cls = RX11 ∧ yX11_number.cls ≠ "java/lang/invoke/MethodHandle" ∧ yX11_number.cls ≠ "java/lang/invoke/VarHandle" ∧ (parseMethodDescriptor yX11_number.desc).map (fun d => d.parameters.length) = some 1 := by decide +kernel
theorem hy_X11_number : plainName yX11_number.cls = true ∧ yX11_number.cls = RX11 ∧ yX11_number.name = "number" := by decide +kernel
abbrev rm_X11_ones : Room := { frames := 0, cells := 0, slots := 0, locals := 0 }
theorem hd_X11_ones : yX11_ones.cls = RX11 ∧ yX11_ones.cls ≠ "java/lang/invoke/MethodHandle" ∧ yX11_ones.cls ≠ "java/lang/invoke/VarHandle" ∧ (parseMethodDescriptor yX11_ones.desc).map (fun d => d.parameters.length) = some 2 := by decide +kernel
theorem hy_X11_ones : plainName yX11_ones.cls = true ∧ yX11_ones.cls = RX11 ∧ yX11_ones.name = "ones" := by decide +kernel
abbrev rm_X11_order : Room := { frames := 1, cells := 0, slots := 0, locals := 23 }
theorem hd_X11_order : yX11_order.cls = RX11 ∧ yX11_order.cls ≠ "java/lang/invoke/MethodHandle" ∧ yX11_order.cls ≠ "java/lang/invoke/VarHandle" ∧ (parseMethodDescriptor yX11_order.desc).map (fun d => d.parameters.length) = some 2 := by decide +kernel
theorem hy_X11_order : plainName yX11_order.cls = true ∧ yX11_order.cls = RX11 ∧ yX11_order.name = "order" := by decide +kernel
abbrev rm_X11_prefix : Room := { frames := 3, cells := 0, slots := 0, locals := 69 }
theorem hd_X11_prefix : yX11_prefix.cls = RX11 ∧ yX11_prefix.cls ≠ "java/lang/invoke/MethodHandle" ∧ yX11_prefix.cls ≠ "java/lang/invoke/VarHandle" ∧ (parseMethodDescriptor yX11_prefix.desc).map (fun d => d.parameters.length) = some 2 := by decide +kernel
theorem hy_X11_prefix : plainName yX11_prefix.cls = true ∧ yX11_prefix.cls = RX11 ∧ yX11_prefix.name = "prefix" := by decide +kernel
abbrev rm_X11_prior : Room := { frames := 3, cells := 0, slots := 0, locals := 69 }
theorem hd_X11_prior : yX11_prior.cls = RX11 ∧ yX11_prior.cls ≠ "java/lang/invoke/MethodHandle" ∧ yX11_prior.cls ≠ "java/lang/invoke/VarHandle" ∧ (parseMethodDescriptor yX11_prior.desc).map (fun d => d.parameters.length) = some 1 := by decide +kernel
theorem hy_X11_prior : plainName yX11_prior.cls = true ∧ yX11_prior.cls = RX11 ∧ yX11_prior.name = "prior" := by decide +kernel
abbrev rm_X11_put : Room := { frames := 3, cells := 0, slots := 0, locals := 69 }
theorem hd_X11_put : yX11_put.cls = RX11 ∧ yX11_put.cls ≠ "java/lang/invoke/MethodHandle" ∧ yX11_put.cls ≠ "java/lang/invoke/VarHandle" ∧ (parseMethodDescriptor yX11_put.desc).map (fun d => d.parameters.length) = some 2 := by decide +kernel
theorem hy_X11_put : plainName yX11_put.cls = true ∧ yX11_put.cls = RX11 ∧ yX11_put.name = "put" := by decide +kernel
abbrev rm_X11_rank : Room := { frames := 2, cells := 0, slots := 0, locals := 42 }
theorem hd_X11_rank : yX11_rank.cls = RX11 ∧ yX11_rank.cls ≠ "java/lang/invoke/MethodHandle" ∧ yX11_rank.cls ≠ "java/lang/invoke/VarHandle" ∧ (parseMethodDescriptor yX11_rank.desc).map (fun d => d.parameters.length) = some 2 := by decide +kernel
theorem hy_X11_rank : plainName yX11_rank.cls = true ∧ yX11_rank.cls = RX11 ∧ yX11_rank.name = "rank" := by decide +kernel
abbrev rm_X11_row : Room := { frames := 1, cells := 0, slots := 0, locals := 24 }
theorem hd_X11_row : yX11_row.cls = RX11 ∧ yX11_row.cls ≠ "java/lang/invoke/MethodHandle" ∧ yX11_row.cls ≠ "java/lang/invoke/VarHandle" ∧ (parseMethodDescriptor yX11_row.desc).map (fun d => d.parameters.length) = some 2 := by decide +kernel
theorem hy_X11_row : plainName yX11_row.cls = true ∧ yX11_row.cls = RX11 ∧ yX11_row.name = "row" := by decide +kernel
abbrev rm_X11_rowed : Room := { frames := 1, cells := 0, slots := 0, locals := 21 }
theorem hd_X11_rowed : yX11_rowed.cls = RX11 ∧ yX11_rowed.cls ≠ "java/lang/invoke/MethodHandle" ∧ yX11_rowed.cls ≠ "java/lang/invoke/VarHandle" ∧ (parseMethodDescriptor yX11_rowed.desc).map (fun d => d.parameters.length) = some 1 := by decide +kernel
theorem hy_X11_rowed : plainName yX11_rowed.cls = true ∧ yX11_rowed.cls = RX11 ∧ yX11_rowed.name = "rowed" := by decide +kernel
abbrev rm_X11_same : Room := { frames := 1, cells := 0, slots := 0, locals := 21 }
theorem hd_X11_same : yX11_same.cls = RX11 ∧ yX11_same.cls ≠ "java/lang/invoke/MethodHandle" ∧ yX11_same.cls ≠ "java/lang/invoke/VarHandle" ∧ (parseMethodDescriptor yX11_same.desc).map (fun d => d.parameters.length) = some 1 := by decide +kernel
theorem hy_X11_same : plainName yX11_same.cls = true ∧ yX11_same.cls = RX11 ∧ yX11_same.name = "same" := by decide +kernel
abbrev rm_X11_seal : Room := { frames := 4, cells := 0, slots := 0, locals := 100 }
theorem hd_X11_seal : yX11_seal.cls = RX11 ∧ yX11_seal.cls ≠ "java/lang/invoke/MethodHandle" ∧ yX11_seal.cls ≠ "java/lang/invoke/VarHandle" ∧ (parseMethodDescriptor yX11_seal.desc).map (fun d => d.parameters.length) = some 3 := by decide +kernel
theorem hy_X11_seal : plainName yX11_seal.cls = true ∧ yX11_seal.cls = RX11 ∧ yX11_seal.name = "seal" := by decide +kernel
abbrev rm_X11_sealTape : Room := { frames := 1, cells := 0, slots := 0, locals := 21 }
theorem hd_X11_sealTape : yX11_sealTape.cls = RX11 ∧ yX11_sealTape.cls ≠ "java/lang/invoke/MethodHandle" ∧ yX11_sealTape.cls ≠ "java/lang/invoke/VarHandle" ∧ (parseMethodDescriptor yX11_sealTape.desc).map (fun d => d.parameters.length) = some 0 := by decide +kernel
theorem hy_X11_sealTape : plainName yX11_sealTape.cls = true ∧ yX11_sealTape.cls = RX11 ∧ yX11_sealTape.name = "sealTape" := by decide +kernel
abbrev rm_X11_sealed : Room := { frames := 3, cells := 0, slots := 0, locals := 76 }
theorem hd_X11_sealed : yX11_sealed.cls = RX11 ∧ yX11_sealed.cls ≠ "java/lang/invoke/MethodHandle" ∧ yX11_sealed.cls ≠ "java/lang/invoke/VarHandle" ∧ (parseMethodDescriptor yX11_sealed.desc).map (fun d => d.parameters.length) = some 2 := by decide +kernel
theorem hy_X11_sealed : plainName yX11_sealed.cls = true ∧ yX11_sealed.cls = RX11 ∧ yX11_sealed.name = "sealed" := by decide +kernel
abbrev rm_X11_select : Room := { frames := 2, cells := 0, slots := 0, locals := 42 }
theorem hd_X11_select : yX11_select.cls = RX11 ∧ yX11_select.cls ≠ "java/lang/invoke/MethodHandle" ∧ yX11_select.cls ≠ "java/lang/invoke/VarHandle" ∧ (parseMethodDescriptor yX11_select.desc).map (fun d => d.parameters.length) = some 2 := by decide +kernel
theorem hy_X11_select : plainName yX11_select.cls = true ∧ yX11_select.cls = RX11 ∧ yX11_select.name = "select" := by decide +kernel
abbrev rm_X11_share : Room := { frames := 2, cells := 0, slots := 0, locals := 42 }
theorem hd_X11_share : yX11_share.cls = RX11 ∧ yX11_share.cls ≠ "java/lang/invoke/MethodHandle" ∧ yX11_share.cls ≠ "java/lang/invoke/VarHandle" ∧ (parseMethodDescriptor yX11_share.desc).map (fun d => d.parameters.length) = some 2 := by decide +kernel
theorem hy_X11_share : plainName yX11_share.cls = true ∧ yX11_share.cls = RX11 ∧ yX11_share.name = "share" := by decide +kernel
abbrev rm_X11_split : Room := { frames := 1, cells := 0, slots := 0, locals := 23 }
theorem hd_X11_split : yX11_split.cls = RX11 ∧ yX11_split.cls ≠ "java/lang/invoke/MethodHandle" ∧ yX11_split.cls ≠ "java/lang/invoke/VarHandle" ∧ (parseMethodDescriptor yX11_split.desc).map (fun d => d.parameters.length) = some 1 := by decide +kernel
theorem hy_X11_split : plainName yX11_split.cls = true ∧ yX11_split.cls = RX11 ∧ yX11_split.name = "split" := by decide +kernel
abbrev rm_X11_status : Room := { frames := 0, cells := 0, slots := 0, locals := 0 }
theorem hd_X11_status : yX11_status.cls = RX11 ∧ yX11_status.cls ≠ "java/lang/invoke/MethodHandle" ∧ yX11_status.cls ≠ "java/lang/invoke/VarHandle" ∧ (parseMethodDescriptor yX11_status.desc).map (fun d => d.parameters.length) = some 0 := by decide +kernel
theorem hy_X11_status : plainName yX11_status.cls = true ∧ yX11_status.cls = RX11 ∧ yX11_status.name = "status" := by decide +kernel
abbrev rm_X11_take : Room := { frames := 3, cells := 0, slots := 0, locals := 69 }
theorem hd_X11_take : yX11_take.cls = RX11 ∧ yX11_take.cls ≠ "java/lang/invoke/MethodHandle" ∧ yX11_take.cls ≠ "java/lang/invoke/VarHandle" ∧ (parseMethodDescriptor yX11_take.desc).map (fun d => d.parameters.length) = some 3 := by decide +kernel
theorem hy_X11_take : plainName yX11_take.cls = true ∧ yX11_take.cls = RX11 ∧ yX11_take.name = "take" := by decide +kernel
abbrev rm_X11_takes : Room := { frames := 0, cells := 0, slots := 0, locals := 0 }
theorem hd_X11_takes : yX11_takes.cls = RX11 ∧ yX11_takes.cls ≠ "java/lang/invoke/MethodHandle" ∧ yX11_takes.cls ≠ "java/lang/invoke/VarHandle" ∧ (parseMethodDescriptor yX11_takes.desc).map (fun d => d.parameters.length) = some 0 := by decide +kernel
theorem hy_X11_takes : plainName yX11_takes.cls = true ∧ yX11_takes.cls = RX11 ∧ yX11_takes.name = "takes" := by decide +kernel
abbrev rm_X11_tape : Room := { frames := 0, cells := 0, slots := 0, locals := 0 }
theorem hd_X11_tape : yX11_tape.cls = RX11 ∧ yX11_tape.cls ≠ "java/lang/invoke/MethodHandle" ∧ yX11_tape.cls ≠ "java/lang/invoke/VarHandle" ∧ (parseMethodDescriptor yX11_tape.desc).map (fun d => d.parameters.length) = some 1 := by decide +kernel
theorem hy_X11_tape : plainName yX11_tape.cls = true ∧ yX11_tape.cls = RX11 ∧ yX11_tape.name = "tape" := by decide +kernel
abbrev rm_X11_tell : Room := { frames := 0, cells := 0, slots := 0, locals := 0 }
theorem hd_X11_tell : yX11_tell.cls = RX11 ∧ yX11_tell.cls ≠ "java/lang/invoke/MethodHandle" ∧ yX11_tell.cls ≠ "java/lang/invoke/VarHandle" ∧ (parseMethodDescriptor yX11_tell.desc).map (fun d => d.parameters.length) = some 1 := by decide +kernel
theorem hy_X11_tell : plainName yX11_tell.cls = true ∧ yX11_tell.cls = RX11 ∧ yX11_tell.name = "tell" := by decide +kernel
abbrev rm_X11_told : Room := { frames := 0, cells := 0, slots := 0, locals := 0 }
theorem hd_X11_told : yX11_told.cls = RX11 ∧ yX11_told.cls ≠ "java/lang/invoke/MethodHandle" ∧ yX11_told.cls ≠ "java/lang/invoke/VarHandle" ∧ (parseMethodDescriptor yX11_told.desc).map (fun d => d.parameters.length) = some 1 := by decide +kernel
theorem hy_X11_told : plainName yX11_told.cls = true ∧ yX11_told.cls = RX11 ∧ yX11_told.name = "told" := by decide +kernel
abbrev rm_X11_tree : Room := { frames := 2, cells := 0, slots := 0, locals := 48 }
theorem hd_X11_tree : yX11_tree.cls = RX11 ∧ yX11_tree.cls ≠ "java/lang/invoke/MethodHandle" ∧ yX11_tree.cls ≠ "java/lang/invoke/VarHandle" ∧ (parseMethodDescriptor yX11_tree.desc).map (fun d => d.parameters.length) = some 2 := by decide +kernel
theorem hy_X11_tree : plainName yX11_tree.cls = true ∧ yX11_tree.cls = RX11 ∧ yX11_tree.name = "tree" := by decide +kernel
abbrev rm_X11_unput : Room := { frames := 3, cells := 0, slots := 0, locals := 69 }
theorem hd_X11_unput : yX11_unput.cls = RX11 ∧ yX11_unput.cls ≠ "java/lang/invoke/MethodHandle" ∧ yX11_unput.cls ≠ "java/lang/invoke/VarHandle" ∧ (parseMethodDescriptor yX11_unput.desc).map (fun d => d.parameters.length) = some 1 := by decide +kernel
theorem hy_X11_unput : plainName yX11_unput.cls = true ∧ yX11_unput.cls = RX11 ∧ yX11_unput.name = "unput" := by decide +kernel
abbrev rm_X11_unseal : Room := { frames := 2, cells := 0, slots := 0, locals := 42 }
theorem hd_X11_unseal : yX11_unseal.cls = RX11 ∧ yX11_unseal.cls ≠ "java/lang/invoke/MethodHandle" ∧ yX11_unseal.cls ≠ "java/lang/invoke/VarHandle" ∧ (parseMethodDescriptor yX11_unseal.desc).map (fun d => d.parameters.length) = some 2 := by decide +kernel
theorem hy_X11_unseal : plainName yX11_unseal.cls = true ∧ yX11_unseal.cls = RX11 ∧ yX11_unseal.name = "unseal" := by decide +kernel
abbrev rm_X11_value : Room := { frames := 2, cells := 0, slots := 0, locals := 42 }
theorem hd_X11_value : yX11_value.cls = RX11 ∧ yX11_value.cls ≠ "java/lang/invoke/MethodHandle" ∧ yX11_value.cls ≠ "java/lang/invoke/VarHandle" ∧ (parseMethodDescriptor yX11_value.desc).map (fun d => d.parameters.length) = some 2 := by decide +kernel
theorem hy_X11_value : plainName yX11_value.cls = true ∧ yX11_value.cls = RX11 ∧ yX11_value.name = "value" := by decide +kernel
abbrev rm_X11_width : Room := { frames := 0, cells := 0, slots := 0, locals := 0 }
theorem hd_X11_width : yX11_width.cls = RX11 ∧ yX11_width.cls ≠ "java/lang/invoke/MethodHandle" ∧ yX11_width.cls ≠ "java/lang/invoke/VarHandle" ∧ (parseMethodDescriptor yX11_width.desc).map (fun d => d.parameters.length) = some 1 := by decide +kernel
theorem hy_X11_width : plainName yX11_width.cls = true ∧ yX11_width.cls = RX11 ∧ yX11_width.name = "width" := by decide +kernel
abbrev rm_X11_witness : Room := { frames := 4, cells := 0, slots := 0, locals := 102 }
theorem hd_X11_witness : yX11_witness.cls = RX11 ∧ yX11_witness.cls ≠ "java/lang/invoke/MethodHandle" ∧ yX11_witness.cls ≠ "java/lang/invoke/VarHandle" ∧ (parseMethodDescriptor yX11_witness.desc).map (fun d => d.parameters.length) = some 1 := by decide +kernel
theorem hy_X11_witness : plainName yX11_witness.cls = true ∧ yX11_witness.cls = RX11 ∧ yX11_witness.name = "witness" := by decide +kernel
abbrev rm_X11_witnessed : Room := { frames := 0, cells := 0, slots := 0, locals := 0 }
theorem hd_X11_witnessed : yX11_witnessed.cls = RX11 ∧ yX11_witnessed.cls ≠ "java/lang/invoke/MethodHandle" ∧ yX11_witnessed.cls ≠ "java/lang/invoke/VarHandle" ∧ (parseMethodDescriptor yX11_witnessed.desc).map (fun d => d.parameters.length) = some 0 := by decide +kernel
theorem hy_X11_witnessed : plainName yX11_witnessed.cls = true ∧ yX11_witnessed.cls = RX11 ∧ yX11_witnessed.name = "witnessed" := by decide +kernel
abbrev rm_X1_addBelow : Room := { frames := 2, cells := 0, slots := 0, locals := 50 }
theorem hd_X1_addBelow : yX1_addBelow.cls = RX1 ∧ yX1_addBelow.cls ≠ "java/lang/invoke/MethodHandle" ∧ yX1_addBelow.cls ≠ "java/lang/invoke/VarHandle" ∧ (parseMethodDescriptor yX1_addBelow.desc).map (fun d => d.parameters.length) = some 3 := by decide +kernel
theorem hy_X1_addBelow : plainName yX1_addBelow.cls = true ∧ yX1_addBelow.cls = RX1 ∧ yX1_addBelow.name = "addBelow" := by decide +kernel
abbrev rm_X1_addNode : Room := { frames := 0, cells := 0, slots := 0, locals := 0 }
theorem hd_X1_addNode : yX1_addNode.cls = RX1 ∧ yX1_addNode.cls ≠ "java/lang/invoke/MethodHandle" ∧ yX1_addNode.cls ≠ "java/lang/invoke/VarHandle" ∧ (parseMethodDescriptor yX1_addNode.desc).map (fun d => d.parameters.length) = some 3 := by decide +kernel
theorem hy_X1_addNode : plainName yX1_addNode.cls = true ∧ yX1_addNode.cls = RX1 ∧ yX1_addNode.name = "addNode" := by decide +kernel
abbrev rm_X1_bind : Room := { frames := 4, cells := 10, slots := 2778, locals := 102 }
theorem hd_X1_bind : yX1_bind.cls = RX1 ∧ yX1_bind.cls ≠ "java/lang/invoke/MethodHandle" ∧ yX1_bind.cls ≠ "java/lang/invoke/VarHandle" ∧ (parseMethodDescriptor yX1_bind.desc).map (fun d => d.parameters.length) = some 2 := by decide +kernel
theorem hy_X1_bind : plainName yX1_bind.cls = true ∧ yX1_bind.cls = RX1 ∧ yX1_bind.name = "bind" := by decide +kernel
abbrev rm_X1_edgeBytes : Room := { frames := 0, cells := 1, slots := 2400, locals := 0 }
theorem hd_X1_edgeBytes : yX1_edgeBytes.cls = RX1 ∧ yX1_edgeBytes.cls ≠ "java/lang/invoke/MethodHandle" ∧ yX1_edgeBytes.cls ≠ "java/lang/invoke/VarHandle" ∧ (parseMethodDescriptor yX1_edgeBytes.desc).map (fun d => d.parameters.length) = some 1 := by decide +kernel
theorem hy_X1_edgeBytes : plainName yX1_edgeBytes.cls = true ∧ yX1_edgeBytes.cls = RX1 ∧ yX1_edgeBytes.name = "edgeBytes" := by decide +kernel
abbrev rm_X1_growTree : Room := { frames := 3, cells := 0, slots := 0, locals := 78 }
theorem hd_X1_growTree : yX1_growTree.cls = RX1 ∧ yX1_growTree.cls ≠ "java/lang/invoke/MethodHandle" ∧ yX1_growTree.cls ≠ "java/lang/invoke/VarHandle" ∧ (parseMethodDescriptor yX1_growTree.desc).map (fun d => d.parameters.length) = some 2 := by decide +kernel
theorem hy_X1_growTree : plainName yX1_growTree.cls = true ∧ yX1_growTree.cls = RX1 ∧ yX1_growTree.name = "growTree" := by decide +kernel
abbrev rm_X1_init : Room := { frames := 1, cells := 5, slots := 9704, locals := 20 }
theorem hd_X1_init : yX1_init.cls = RX1 ∧ yX1_init.cls ≠ "java/lang/invoke/MethodHandle" ∧ yX1_init.cls ≠ "java/lang/invoke/VarHandle" ∧ (parseMethodDescriptor yX1_init.desc).map (fun d => d.parameters.length) = some 0 := by decide +kernel
theorem hy_X1_init : plainName yX1_init.cls = true ∧ yX1_init.cls = RX1 ∧ yX1_init.name = "<init>" := by decide +kernel
abbrev rm_X1_isSameString : Room := { frames := 0, cells := 0, slots := 0, locals := 0 }
theorem hd_X1_isSameString : yX1_isSameString.cls = RX1 ∧ yX1_isSameString.cls ≠ "java/lang/invoke/MethodHandle" ∧ yX1_isSameString.cls ≠ "java/lang/invoke/VarHandle" ∧ (parseMethodDescriptor yX1_isSameString.desc).map (fun d => d.parameters.length) = some 3 := by decide +kernel
theorem hy_X1_isSameString : plainName yX1_isSameString.cls = true ∧ yX1_isSameString.cls = RX1 ∧ yX1_isSameString.name = "isSameString" := by decide +kernel
abbrev rm_X1_isStringBefore : Room := { frames := 1, cells := 0, slots := 0, locals := 27 }
theorem hd_X1_isStringBefore : yX1_isStringBefore.cls = RX1 ∧ yX1_isStringBefore.cls ≠ "java/lang/invoke/MethodHandle" ∧ yX1_isStringBefore.cls ≠ "java/lang/invoke/VarHandle" ∧ (parseMethodDescriptor yX1_isStringBefore.desc).map (fun d => d.parameters.length) = some 2 := by decide +kernel
theorem hy_X1_isStringBefore : plainName yX1_isStringBefore.cls = true ∧ yX1_isStringBefore.cls = RX1 ∧ yX1_isStringBefore.name = "isStringBefore" := by decide +kernel
abbrev rm_X1_lengthInCommon : Room := { frames := 1, cells := 0, slots := 0, locals := 24 }
theorem hd_X1_lengthInCommon : yX1_lengthInCommon.cls = RX1 ∧ yX1_lengthInCommon.cls ≠ "java/lang/invoke/MethodHandle" ∧ yX1_lengthInCommon.cls ≠ "java/lang/invoke/VarHandle" ∧ (parseMethodDescriptor yX1_lengthInCommon.desc).map (fun d => d.parameters.length) = some 3 := by decide +kernel
theorem hy_X1_lengthInCommon : plainName yX1_lengthInCommon.cls = true ∧ yX1_lengthInCommon.cls = RX1 ∧ yX1_lengthInCommon.name = "lengthInCommon" := by decide +kernel
abbrev rm_X1_pastAlike : Room := { frames := 0, cells := 0, slots := 0, locals := 0 }
theorem hd_X1_pastAlike : yX1_pastAlike.cls = RX1 ∧ yX1_pastAlike.cls ≠ "java/lang/invoke/MethodHandle" ∧ yX1_pastAlike.cls ≠ "java/lang/invoke/VarHandle" ∧ (parseMethodDescriptor yX1_pastAlike.desc).map (fun d => d.parameters.length) = some 3 := by decide +kernel
theorem hy_X1_pastAlike : plainName yX1_pastAlike.cls = true ∧ yX1_pastAlike.cls = RX1 ∧ yX1_pastAlike.name = "pastAlike" := by decide +kernel
abbrev rm_X1_splitRow : Room := { frames := 2, cells := 4, slots := 169, locals := 45 }
theorem hd_X1_splitRow : yX1_splitRow.cls = RX1 ∧ yX1_splitRow.cls ≠ "java/lang/invoke/MethodHandle" ∧ yX1_splitRow.cls ≠ "java/lang/invoke/VarHandle" ∧ (parseMethodDescriptor yX1_splitRow.desc).map (fun d => d.parameters.length) = some 1 := by decide +kernel
theorem hy_X1_splitRow : plainName yX1_splitRow.cls = true ∧ yX1_splitRow.cls = RX1 ∧ yX1_splitRow.name = "splitRow" := by decide +kernel
abbrev rm_X1_stringBytes : Room := { frames := 2, cells := 0, slots := 0, locals := 50 }
theorem hd_X1_stringBytes : yX1_stringBytes.cls = RX1 ∧ yX1_stringBytes.cls ≠ "java/lang/invoke/MethodHandle" ∧ yX1_stringBytes.cls ≠ "java/lang/invoke/VarHandle" ∧ (parseMethodDescriptor yX1_stringBytes.desc).map (fun d => d.parameters.length) = some 2 := by decide +kernel
theorem hy_X1_stringBytes : plainName yX1_stringBytes.cls = true ∧ yX1_stringBytes.cls = RX1 ∧ yX1_stringBytes.name = "stringBytes" := by decide +kernel
abbrev rm_X1_treeRow : Room := { frames := 2, cells := 4, slots := 169, locals := 45 }
theorem hd_X1_treeRow : yX1_treeRow.cls = RX1 ∧ yX1_treeRow.cls ≠ "java/lang/invoke/MethodHandle" ∧ yX1_treeRow.cls ≠ "java/lang/invoke/VarHandle" ∧ (parseMethodDescriptor yX1_treeRow.desc).map (fun d => d.parameters.length) = some 0 := by decide +kernel
theorem hy_X1_treeRow : plainName yX1_treeRow.cls = true ∧ yX1_treeRow.cls = RX1 ∧ yX1_treeRow.name = "treeRow" := by decide +kernel
abbrev rm_X2_edgeFrom : Room := { frames := 3, cells := 0, slots := 0, locals := 69 }
theorem hd_X2_edgeFrom : yX2_edgeFrom.cls = RX2 ∧ yX2_edgeFrom.cls ≠ "java/lang/invoke/MethodHandle" ∧ yX2_edgeFrom.cls ≠ "java/lang/invoke/VarHandle" ∧ (parseMethodDescriptor yX2_edgeFrom.desc).map (fun d => d.parameters.length) = some 2 := by decide +kernel
theorem hy_X2_edgeFrom : plainName yX2_edgeFrom.cls = true ∧ yX2_edgeFrom.cls = RX2 ∧ yX2_edgeFrom.name = "edgeFrom" := by decide +kernel
abbrev rm_X2_imageBytes : Room := { frames := 2, cells := 0, slots := 0, locals := 45 }
theorem hd_X2_imageBytes : yX2_imageBytes.cls = RX2 ∧ yX2_imageBytes.cls ≠ "java/lang/invoke/MethodHandle" ∧ yX2_imageBytes.cls ≠ "java/lang/invoke/VarHandle" ∧ (parseMethodDescriptor yX2_imageBytes.desc).map (fun d => d.parameters.length) = some 0 := by decide +kernel
theorem hy_X2_imageBytes : plainName yX2_imageBytes.cls = true ∧ yX2_imageBytes.cls = RX2 ∧ yX2_imageBytes.name = "imageBytes" := by decide +kernel
abbrev rm_X2_init : Room := { frames := 2, cells := 0, slots := 0, locals := 41 }
theorem hd_X2_init : yX2_init.cls = RX2 ∧ yX2_init.cls ≠ "java/lang/invoke/MethodHandle" ∧ yX2_init.cls ≠ "java/lang/invoke/VarHandle" ∧ (parseMethodDescriptor yX2_init.desc).map (fun d => d.parameters.length) = some 6 := by decide +kernel
theorem hy_X2_init : plainName yX2_init.cls = true ∧ yX2_init.cls = RX2 ∧ yX2_init.name = "<init>" := by decide +kernel
abbrev rm_X2_isTree : Room := { frames := 0, cells := 0, slots := 0, locals := 0 }
theorem hd_X2_isTree : yX2_isTree.cls = RX2 ∧ yX2_isTree.cls ≠ "java/lang/invoke/MethodHandle" ∧ yX2_isTree.cls ≠ "java/lang/invoke/VarHandle" ∧ (parseMethodDescriptor yX2_isTree.desc).map (fun d => d.parameters.length) = some 0 := by decide +kernel
theorem hy_X2_isTree : plainName yX2_isTree.cls = true ∧ yX2_isTree.cls = RX2 ∧ yX2_isTree.name = "isTree" := by decide +kernel
abbrev rm_X2_lacksTable : Room := { frames := 1, cells := 0, slots := 0, locals := 20 }
theorem hd_X2_lacksTable : yX2_lacksTable.cls = RX2 ∧ yX2_lacksTable.cls ≠ "java/lang/invoke/MethodHandle" ∧ yX2_lacksTable.cls ≠ "java/lang/invoke/VarHandle" ∧ (parseMethodDescriptor yX2_lacksTable.desc).map (fun d => d.parameters.length) = some 0 := by decide +kernel
theorem hy_X2_lacksTable : plainName yX2_lacksTable.cls = true ∧ yX2_lacksTable.cls = RX2 ∧ yX2_lacksTable.name = "lacksTable" := by decide +kernel
abbrev rm_X2_lowBits : Room := { frames := 1, cells := 0, slots := 0, locals := 21 }
theorem hd_X2_lowBits : yX2_lowBits.cls = RX2 ∧ yX2_lowBits.cls ≠ "java/lang/invoke/MethodHandle" ∧ yX2_lowBits.cls ≠ "java/lang/invoke/VarHandle" ∧ (parseMethodDescriptor yX2_lowBits.desc).map (fun d => d.parameters.length) = some 0 := by decide +kernel
theorem hy_X2_lowBits : plainName yX2_lowBits.cls = true ∧ yX2_lowBits.cls = RX2 ∧ yX2_lowBits.name = "lowBits" := by decide +kernel
abbrev rm_X2_size : Room := { frames := 0, cells := 0, slots := 0, locals := 0 }
theorem hd_X2_size : yX2_size.cls = RX2 ∧ yX2_size.cls ≠ "java/lang/invoke/MethodHandle" ∧ yX2_size.cls ≠ "java/lang/invoke/VarHandle" ∧ (parseMethodDescriptor yX2_size.desc).map (fun d => d.parameters.length) = some 0 := by decide +kernel
theorem hy_X2_size : plainName yX2_size.cls = true ∧ yX2_size.cls = RX2 ∧ yX2_size.name = "size" := by decide +kernel
abbrev rm_X3_init : Room := { frames := 2, cells := 0, slots := 0, locals := 41 }
theorem hd_X3_init : yX3_init.cls = RX3 ∧ yX3_init.cls ≠ "java/lang/invoke/MethodHandle" ∧ yX3_init.cls ≠ "java/lang/invoke/VarHandle" ∧ (parseMethodDescriptor yX3_init.desc).map (fun d => d.parameters.length) = some 1 := by decide +kernel
theorem hy_X3_init : plainName yX3_init.cls = true ∧ yX3_init.cls = RX3 ∧ yX3_init.name = "<init>" := by decide +kernel
abbrev rm_X3_size : Room := { frames := 0, cells := 0, slots := 0, locals := 0 }
theorem hd_X3_size : yX3_size.cls = RX3 ∧ yX3_size.cls ≠ "java/lang/invoke/MethodHandle" ∧ yX3_size.cls ≠ "java/lang/invoke/VarHandle" ∧ (parseMethodDescriptor yX3_size.desc).map (fun d => d.parameters.length) = some 0 := by decide +kernel
theorem hy_X3_size : plainName yX3_size.cls = true ∧ yX3_size.cls = RX3 ∧ yX3_size.name = "size" := by decide +kernel
abbrev rm_X4_ahead : Room := { frames := 3, cells := 0, slots := 0, locals := 66 }
theorem hd_X4_ahead : yX4_ahead.cls = RX4 ∧ yX4_ahead.cls ≠ "java/lang/invoke/MethodHandle" ∧ yX4_ahead.cls ≠ "java/lang/invoke/VarHandle" ∧ (parseMethodDescriptor yX4_ahead.desc).map (fun d => d.parameters.length) = some 1 := by decide +kernel
theorem hy_X4_ahead : plainName yX4_ahead.cls = true ∧ yX4_ahead.cls = RX4 ∧ yX4_ahead.name = "ahead" := by decide +kernel
abbrev rm_X4_allHaveBytes : Room := { frames := 0, cells := 0, slots := 0, locals := 0 }
theorem hd_X4_allHaveBytes : yX4_allHaveBytes.cls = RX4 ∧ yX4_allHaveBytes.cls ≠ "java/lang/invoke/MethodHandle" ∧ yX4_allHaveBytes.cls ≠ "java/lang/invoke/VarHandle" ∧ (parseMethodDescriptor yX4_allHaveBytes.desc).map (fun d => d.parameters.length) = some 1 := by decide +kernel
theorem hy_X4_allHaveBytes : plainName yX4_allHaveBytes.cls = true ∧ yX4_allHaveBytes.cls = RX4 ∧ yX4_allHaveBytes.name = "allHaveBytes" := by decide +kernel
abbrev rm_X4_append : Room := { frames := 3, cells := 0, slots := 0, locals := 66 }
theorem hd_X4_append : yX4_append.cls = RX4 ∧ yX4_append.cls ≠ "java/lang/invoke/MethodHandle" ∧ yX4_append.cls ≠ "java/lang/invoke/VarHandle" ∧ (parseMethodDescriptor yX4_append.desc).map (fun d => d.parameters.length) = some 2 := by decide +kernel
theorem hy_X4_append : plainName yX4_append.cls = true ∧ yX4_append.cls = RX4 ∧ yX4_append.name = "append" := by decide +kernel
abbrev rm_X4_copyWithRoom : Room := { frames := 2, cells := 3, slots := 203, locals := 41 }
theorem hd_X4_copyWithRoom : yX4_copyWithRoom.cls = RX4 ∧ yX4_copyWithRoom.cls ≠ "java/lang/invoke/MethodHandle" ∧ yX4_copyWithRoom.cls ≠ "java/lang/invoke/VarHandle" ∧ (parseMethodDescriptor yX4_copyWithRoom.desc).map (fun d => d.parameters.length) = some 1 := by decide +kernel
theorem hy_X4_copyWithRoom : plainName yX4_copyWithRoom.cls = true ∧ yX4_copyWithRoom.cls = RX4 ∧ yX4_copyWithRoom.name = "copyWithRoom" := by decide +kernel
abbrev rm_X4_enter : Room := { frames := 4, cells := 0, slots := 0, locals := 88 }
theorem hd_X4_enter : yX4_enter.cls = RX4 ∧ yX4_enter.cls ≠ "java/lang/invoke/MethodHandle" ∧ yX4_enter.cls ≠ "java/lang/invoke/VarHandle" ∧ (parseMethodDescriptor yX4_enter.desc).map (fun d => d.parameters.length) = some 2 := by decide +kernel
theorem hy_X4_enter : plainName yX4_enter.cls = true ∧ yX4_enter.cls = RX4 ∧ yX4_enter.name = "enter" := by decide +kernel
abbrev rm_X4_fits : Room := { frames := 0, cells := 0, slots := 0, locals := 0 }
theorem hd_X4_fits : yX4_fits.cls = RX4 ∧ yX4_fits.cls ≠ "java/lang/invoke/MethodHandle" ∧ yX4_fits.cls ≠ "java/lang/invoke/VarHandle" ∧ (parseMethodDescriptor yX4_fits.desc).map (fun d => d.parameters.length) = some 2 := by decide +kernel
theorem hy_X4_fits : plainName yX4_fits.cls = true ∧ yX4_fits.cls = RX4 ∧ yX4_fits.name = "fits" := by decide +kernel
abbrev rm_X4_hasAt : Room := { frames := 3, cells := 0, slots := 0, locals := 66 }
theorem hd_X4_hasAt : yX4_hasAt.cls = RX4 ∧ yX4_hasAt.cls ≠ "java/lang/invoke/MethodHandle" ∧ yX4_hasAt.cls ≠ "java/lang/invoke/VarHandle" ∧ (parseMethodDescriptor yX4_hasAt.desc).map (fun d => d.parameters.length) = some 2 := by decide +kernel
theorem hy_X4_hasAt : plainName yX4_hasAt.cls = true ∧ yX4_hasAt.cls = RX4 ∧ yX4_hasAt.name = "hasAt" := by decide +kernel
abbrev rm_X4_hasNumber : Room := { frames := 0, cells := 0, slots := 0, locals := 0 }
theorem hd_X4_hasNumber : yX4_hasNumber.cls = RX4 ∧ yX4_hasNumber.cls ≠ "java/lang/invoke/MethodHandle" ∧ yX4_hasNumber.cls ≠ "java/lang/invoke/VarHandle" ∧ (parseMethodDescriptor yX4_hasNumber.desc).map (fun d => d.parameters.length) = some 1 := by decide +kernel
theorem hy_X4_hasNumber : plainName yX4_hasNumber.cls = true ∧ yX4_hasNumber.cls = RX4 ∧ yX4_hasNumber.name = "hasNumber" := by decide +kernel
abbrev rm_X4_highBits : Room := { frames := 0, cells := 0, slots := 0, locals := 0 }
theorem hd_X4_highBits : yX4_highBits.cls = RX4 ∧ yX4_highBits.cls ≠ "java/lang/invoke/MethodHandle" ∧ yX4_highBits.cls ≠ "java/lang/invoke/VarHandle" ∧ (parseMethodDescriptor yX4_highBits.desc).map (fun d => d.parameters.length) = some 0 := by decide +kernel
theorem hy_X4_highBits : plainName yX4_highBits.cls = true ∧ yX4_highBits.cls = RX4 ∧ yX4_highBits.name = "highBits" := by decide +kernel
abbrev rm_X4_init : Room := { frames := 1, cells := 2, slots := 200, locals := 20 }
theorem hd_X4_init : yX4_init.cls = RX4 ∧ yX4_init.cls ≠ "java/lang/invoke/MethodHandle" ∧ yX4_init.cls ≠ "java/lang/invoke/VarHandle" ∧ (parseMethodDescriptor yX4_init.desc).map (fun d => d.parameters.length) = some 1 := by decide +kernel
theorem hy_X4_init : plainName yX4_init.cls = true ∧ yX4_init.cls = RX4 ∧ yX4_init.name = "<init>" := by decide +kernel
abbrev rm_X4_longestWithin : Room := { frames := 3, cells := 0, slots := 0, locals := 65 }
theorem hd_X4_longestWithin : yX4_longestWithin.cls = RX4 ∧ yX4_longestWithin.cls ≠ "java/lang/invoke/MethodHandle" ∧ yX4_longestWithin.cls ≠ "java/lang/invoke/VarHandle" ∧ (parseMethodDescriptor yX4_longestWithin.desc).map (fun d => d.parameters.length) = some 1 := by decide +kernel
theorem hy_X4_longestWithin : plainName yX4_longestWithin.cls = true ∧ yX4_longestWithin.cls = RX4 ∧ yX4_longestWithin.name = "longestWithin" := by decide +kernel
abbrev rm_X4_nameBytes : Room := { frames := 0, cells := 0, slots := 0, locals := 0 }
theorem hd_X4_nameBytes : yX4_nameBytes.cls = RX4 ∧ yX4_nameBytes.cls ≠ "java/lang/invoke/MethodHandle" ∧ yX4_nameBytes.cls ≠ "java/lang/invoke/VarHandle" ∧ (parseMethodDescriptor yX4_nameBytes.desc).map (fun d => d.parameters.length) = some 0 := by decide +kernel
theorem hy_X4_nameBytes : plainName yX4_nameBytes.cls = true ∧ yX4_nameBytes.cls = RX4 ∧ yX4_nameBytes.name = "nameBytes" := by decide +kernel
abbrev rm_X4_orderOf : Room := { frames := 3, cells := 0, slots := 0, locals := 66 }
theorem hd_X4_orderOf : yX4_orderOf.cls = RX4 ∧ yX4_orderOf.cls ≠ "java/lang/invoke/MethodHandle" ∧ yX4_orderOf.cls ≠ "java/lang/invoke/VarHandle" ∧ (parseMethodDescriptor yX4_orderOf.desc).map (fun d => d.parameters.length) = some 3 := by decide +kernel
theorem hy_X4_orderOf : plainName yX4_orderOf.cls = true ∧ yX4_orderOf.cls = RX4 ∧ yX4_orderOf.name = "orderOf" := by decide +kernel
abbrev rm_X4_pastBeginningWith : Room := { frames := 3, cells := 0, slots := 0, locals := 65 }
theorem hd_X4_pastBeginningWith : yX4_pastBeginningWith.cls = RX4 ∧ yX4_pastBeginningWith.cls ≠ "java/lang/invoke/MethodHandle" ∧ yX4_pastBeginningWith.cls ≠ "java/lang/invoke/VarHandle" ∧ (parseMethodDescriptor yX4_pastBeginningWith.desc).map (fun d => d.parameters.length) = some 2 := by decide +kernel
theorem hy_X4_pastBeginningWith : plainName yX4_pastBeginningWith.cls = true ∧ yX4_pastBeginningWith.cls = RX4 ∧ yX4_pastBeginningWith.name = "pastBeginningWith" := by decide +kernel
abbrev rm_X4_strike : Room := { frames := 4, cells := 0, slots := 0, locals := 88 }
theorem hd_X4_strike : yX4_strike.cls = RX4 ∧ yX4_strike.cls ≠ "java/lang/invoke/MethodHandle" ∧ yX4_strike.cls ≠ "java/lang/invoke/VarHandle" ∧ (parseMethodDescriptor yX4_strike.desc).map (fun d => d.parameters.length) = some 1 := by decide +kernel
theorem hy_X4_strike : plainName yX4_strike.cls = true ∧ yX4_strike.cls = RX4 ∧ yX4_strike.name = "strike" := by decide +kernel
abbrev rm_X4_takeMerged : Room := { frames := 4, cells := 0, slots := 0, locals := 91 }
theorem hd_X4_takeMerged : yX4_takeMerged.cls = RX4 ∧ yX4_takeMerged.cls ≠ "java/lang/invoke/MethodHandle" ∧ yX4_takeMerged.cls ≠ "java/lang/invoke/VarHandle" ∧ (parseMethodDescriptor yX4_takeMerged.desc).map (fun d => d.parameters.length) = some 3 := by decide +kernel
theorem hy_X4_takeMerged : plainName yX4_takeMerged.cls = true ∧ yX4_takeMerged.cls = RX4 ∧ yX4_takeMerged.name = "takeMerged" := by decide +kernel
abbrev rm_X4_width : Room := { frames := 1, cells := 0, slots := 0, locals := 23 }
theorem hd_X4_width : yX4_width.cls = RX4 ∧ yX4_width.cls ≠ "java/lang/invoke/MethodHandle" ∧ yX4_width.cls ≠ "java/lang/invoke/VarHandle" ∧ (parseMethodDescriptor yX4_width.desc).map (fun d => d.parameters.length) = some 0 := by decide +kernel
theorem hy_X4_width : plainName yX4_width.cls = true ∧ yX4_width.cls = RX4 ∧ yX4_width.name = "width" := by decide +kernel
abbrev rm_X5_alike : Room := { frames := 1, cells := 0, slots := 0, locals := 21 }
theorem hd_X5_alike : yX5_alike.cls = RX5 ∧ yX5_alike.cls ≠ "java/lang/invoke/MethodHandle" ∧ yX5_alike.cls ≠ "java/lang/invoke/VarHandle" ∧ (parseMethodDescriptor yX5_alike.desc).map (fun d => d.parameters.length) = some 1 := by decide +kernel
theorem hy_X5_alike : plainName yX5_alike.cls = true ∧ yX5_alike.cls = RX5 ∧ yX5_alike.name = "alike" := by decide +kernel
abbrev rm_X5_beginsWith : Room := { frames := 2, cells := 0, slots := 0, locals := 44 }
theorem hd_X5_beginsWith : yX5_beginsWith.cls = RX5 ∧ yX5_beginsWith.cls ≠ "java/lang/invoke/MethodHandle" ∧ yX5_beginsWith.cls ≠ "java/lang/invoke/VarHandle" ∧ (parseMethodDescriptor yX5_beginsWith.desc).map (fun d => d.parameters.length) = some 1 := by decide +kernel
theorem hy_X5_beginsWith : plainName yX5_beginsWith.cls = true ∧ yX5_beginsWith.cls = RX5 ∧ yX5_beginsWith.name = "beginsWith" := by decide +kernel
abbrev rm_X5_compareWith : Room := { frames := 2, cells := 0, slots := 0, locals := 44 }
theorem hd_X5_compareWith : yX5_compareWith.cls = RX5 ∧ yX5_compareWith.cls ≠ "java/lang/invoke/MethodHandle" ∧ yX5_compareWith.cls ≠ "java/lang/invoke/VarHandle" ∧ (parseMethodDescriptor yX5_compareWith.desc).map (fun d => d.parameters.length) = some 1 := by decide +kernel
theorem hy_X5_compareWith : plainName yX5_compareWith.cls = true ∧ yX5_compareWith.cls = RX5 ∧ yX5_compareWith.name = "compareWith" := by decide +kernel
abbrev rm_X5_highPart : Room := { frames := 0, cells := 0, slots := 0, locals := 0 }
theorem hd_X5_highPart : yX5_highPart.cls = RX5 ∧ yX5_highPart.cls ≠ "java/lang/invoke/MethodHandle" ∧ yX5_highPart.cls ≠ "java/lang/invoke/VarHandle" ∧ (parseMethodDescriptor yX5_highPart.desc).map (fun d => d.parameters.length) = some 1 := by decide +kernel
theorem hy_X5_highPart : plainName yX5_highPart.cls = true ∧ yX5_highPart.cls = RX5 ∧ yX5_highPart.name = "highPart" := by decide +kernel
abbrev rm_X5_init : Room := { frames := 1, cells := 0, slots := 0, locals := 20 }
theorem hd_X5_init : yX5_init.cls = RX5 ∧ yX5_init.cls ≠ "java/lang/invoke/MethodHandle" ∧ yX5_init.cls ≠ "java/lang/invoke/VarHandle" ∧ (parseMethodDescriptor yX5_init.desc).map (fun d => d.parameters.length) = some 1 := by decide +kernel
theorem hy_X5_init : plainName yX5_init.cls = true ∧ yX5_init.cls = RX5 ∧ yX5_init.name = "<init>" := by decide +kernel
abbrev rm_X6_behindZeros : Room := { frames := 2, cells := 0, slots := 0, locals := 44 }
theorem hd_X6_behindZeros : yX6_behindZeros.cls = RX6 ∧ yX6_behindZeros.cls ≠ "java/lang/invoke/MethodHandle" ∧ yX6_behindZeros.cls ≠ "java/lang/invoke/VarHandle" ∧ (parseMethodDescriptor yX6_behindZeros.desc).map (fun d => d.parameters.length) = some 1 := by decide +kernel
theorem hy_X6_behindZeros : plainName yX6_behindZeros.cls = true ∧ yX6_behindZeros.cls = RX6 ∧ yX6_behindZeros.name = "behindZeros" := by decide +kernel
abbrev rm_X6_bitAt : Room := { frames := 0, cells := 0, slots := 0, locals := 0 }
theorem hd_X6_bitAt : yX6_bitAt.cls = RX6 ∧ yX6_bitAt.cls ≠ "java/lang/invoke/MethodHandle" ∧ yX6_bitAt.cls ≠ "java/lang/invoke/VarHandle" ∧ (parseMethodDescriptor yX6_bitAt.desc).map (fun d => d.parameters.length) = some 1 := by decide +kernel
theorem hy_X6_bitAt : plainName yX6_bitAt.cls = true ∧ yX6_bitAt.cls = RX6 ∧ yX6_bitAt.name = "bitAt" := by decide +kernel
abbrev rm_X6_fillTables : Room := { frames := 1, cells := 0, slots := 0, locals := 21 }
theorem hd_X6_fillTables : yX6_fillTables.cls = RX6 ∧ yX6_fillTables.cls ≠ "java/lang/invoke/MethodHandle" ∧ yX6_fillTables.cls ≠ "java/lang/invoke/VarHandle" ∧ (parseMethodDescriptor yX6_fillTables.desc).map (fun d => d.parameters.length) = some 0 := by decide +kernel
theorem hy_X6_fillTables : plainName yX6_fillTables.cls = true ∧ yX6_fillTables.cls = RX6 ∧ yX6_fillTables.name = "fillTables" := by decide +kernel
abbrev rm_X6_hasBit : Room := { frames := 0, cells := 0, slots := 0, locals := 0 }
theorem hd_X6_hasBit : yX6_hasBit.cls = RX6 ∧ yX6_hasBit.cls ≠ "java/lang/invoke/MethodHandle" ∧ yX6_hasBit.cls ≠ "java/lang/invoke/VarHandle" ∧ (parseMethodDescriptor yX6_hasBit.desc).map (fun d => d.parameters.length) = some 1 := by decide +kernel
theorem hy_X6_hasBit : plainName yX6_hasBit.cls = true ∧ yX6_hasBit.cls = RX6 ∧ yX6_hasBit.name = "hasBit" := by decide +kernel
abbrev rm_X6_init : Room := { frames := 1, cells := 3, slots := 162, locals := 20 }
theorem hd_X6_init : yX6_init.cls = RX6 ∧ yX6_init.cls ≠ "java/lang/invoke/MethodHandle" ∧ yX6_init.cls ≠ "java/lang/invoke/VarHandle" ∧ (parseMethodDescriptor yX6_init.desc).map (fun d => d.parameters.length) = some 1 := by decide +kernel
theorem hy_X6_init : plainName yX6_init.cls = true ∧ yX6_init.cls = RX6 ∧ yX6_init.name = "<init>" := by decide +kernel
abbrev rm_X6_lacksTable : Room := { frames := 0, cells := 0, slots := 0, locals := 0 }
theorem hd_X6_lacksTable : yX6_lacksTable.cls = RX6 ∧ yX6_lacksTable.cls ≠ "java/lang/invoke/MethodHandle" ∧ yX6_lacksTable.cls ≠ "java/lang/invoke/VarHandle" ∧ (parseMethodDescriptor yX6_lacksTable.desc).map (fun d => d.parameters.length) = some 0 := by decide +kernel
theorem hy_X6_lacksTable : plainName yX6_lacksTable.cls = true ∧ yX6_lacksTable.cls = RX6 ∧ yX6_lacksTable.name = "lacksTable" := by decide +kernel
abbrev rm_X6_onesAhead : Room := { frames := 1, cells := 0, slots := 0, locals := 21 }
theorem hd_X6_onesAhead : yX6_onesAhead.cls = RX6 ∧ yX6_onesAhead.cls ≠ "java/lang/invoke/MethodHandle" ∧ yX6_onesAhead.cls ≠ "java/lang/invoke/VarHandle" ∧ (parseMethodDescriptor yX6_onesAhead.desc).map (fun d => d.parameters.length) = some 1 := by decide +kernel
theorem hy_X6_onesAhead : plainName yX6_onesAhead.cls = true ∧ yX6_onesAhead.cls = RX6 ∧ yX6_onesAhead.name = "onesAhead" := by decide +kernel
abbrev rm_X6_placeOfOne : Room := { frames := 1, cells := 0, slots := 0, locals := 21 }
theorem hd_X6_placeOfOne : yX6_placeOfOne.cls = RX6 ∧ yX6_placeOfOne.cls ≠ "java/lang/invoke/MethodHandle" ∧ yX6_placeOfOne.cls ≠ "java/lang/invoke/VarHandle" ∧ (parseMethodDescriptor yX6_placeOfOne.desc).map (fun d => d.parameters.length) = some 1 := by decide +kernel
theorem hy_X6_placeOfOne : plainName yX6_placeOfOne.cls = true ∧ yX6_placeOfOne.cls = RX6 ∧ yX6_placeOfOne.name = "placeOfOne" := by decide +kernel
abbrev rm_X6_tableNumbers : Room := { frames := 0, cells := 0, slots := 0, locals := 0 }
theorem hd_X6_tableNumbers : yX6_tableNumbers.cls = RX6 ∧ yX6_tableNumbers.cls ≠ "java/lang/invoke/MethodHandle" ∧ yX6_tableNumbers.cls ≠ "java/lang/invoke/VarHandle" ∧ (parseMethodDescriptor yX6_tableNumbers.desc).map (fun d => d.parameters.length) = some 0 := by decide +kernel
theorem hy_X6_tableNumbers : plainName yX6_tableNumbers.cls = true ∧ yX6_tableNumbers.cls = RX6 ∧ yX6_tableNumbers.name = "tableNumbers" := by decide +kernel
abbrev rm_X6_write : Room := { frames := 1, cells := 0, slots := 0, locals := 21 }
theorem hd_X6_write : yX6_write.cls = RX6 ∧ yX6_write.cls ≠ "java/lang/invoke/MethodHandle" ∧ yX6_write.cls ≠ "java/lang/invoke/VarHandle" ∧ (parseMethodDescriptor yX6_write.desc).map (fun d => d.parameters.length) = some 2 := by decide +kernel
theorem hy_X6_write : plainName yX6_write.cls = true ∧ yX6_write.cls = RX6 ∧ yX6_write.name = "write" := by decide +kernel
abbrev rm_X7_add : Room := { frames := 0, cells := 0, slots := 0, locals := 0 }
theorem hd_X7_add : yX7_add.cls = RX7 ∧ yX7_add.cls ≠ "java/lang/invoke/MethodHandle" ∧ yX7_add.cls ≠ "java/lang/invoke/VarHandle" ∧ (parseMethodDescriptor yX7_add.desc).map (fun d => d.parameters.length) = some 1 := by decide +kernel
theorem hy_X7_add : plainName yX7_add.cls = true ∧ yX7_add.cls = RX7 ∧ yX7_add.name = "add" := by decide +kernel
abbrev rm_X7_addName : Room := { frames := 1, cells := 0, slots := 0, locals := 21 }
theorem hd_X7_addName : yX7_addName.cls = RX7 ∧ yX7_addName.cls ≠ "java/lang/invoke/MethodHandle" ∧ yX7_addName.cls ≠ "java/lang/invoke/VarHandle" ∧ (parseMethodDescriptor yX7_addName.desc).map (fun d => d.parameters.length) = some 1 := by decide +kernel
theorem hy_X7_addName : plainName yX7_addName.cls = true ∧ yX7_addName.cls = RX7 ∧ yX7_addName.name = "addName" := by decide +kernel
abbrev rm_X7_addNumber : Room := { frames := 1, cells := 0, slots := 0, locals := 21 }
theorem hd_X7_addNumber : yX7_addNumber.cls = RX7 ∧ yX7_addNumber.cls ≠ "java/lang/invoke/MethodHandle" ∧ yX7_addNumber.cls ≠ "java/lang/invoke/VarHandle" ∧ (parseMethodDescriptor yX7_addNumber.desc).map (fun d => d.parameters.length) = some 2 := by decide +kernel
theorem hy_X7_addNumber : plainName yX7_addNumber.cls = true ∧ yX7_addNumber.cls = RX7 ∧ yX7_addNumber.name = "addNumber" := by decide +kernel
abbrev rm_X7_init : Room := { frames := 1, cells := 1, slots := 1000, locals := 20 }
theorem hd_X7_init : yX7_init.cls = RX7 ∧ yX7_init.cls ≠ "java/lang/invoke/MethodHandle" ∧ yX7_init.cls ≠ "java/lang/invoke/VarHandle" ∧ (parseMethodDescriptor yX7_init.desc).map (fun d => d.parameters.length) = some 0 := by decide +kernel
theorem hy_X7_init : plainName yX7_init.cls = true ∧ yX7_init.cls = RX7 ∧ yX7_init.name = "<init>" := by decide +kernel
abbrev rm_X7_nameAt : Room := { frames := 2, cells := 2, slots := 25, locals := 41 }
theorem hd_X7_nameAt : yX7_nameAt.cls = RX7 ∧ yX7_nameAt.cls ≠ "java/lang/invoke/MethodHandle" ∧ yX7_nameAt.cls ≠ "java/lang/invoke/VarHandle" ∧ (parseMethodDescriptor yX7_nameAt.desc).map (fun d => d.parameters.length) = some 2 := by decide +kernel
theorem hy_X7_nameAt : plainName yX7_nameAt.cls = true ∧ yX7_nameAt.cls = RX7 ∧ yX7_nameAt.name = "nameAt" := by decide +kernel
abbrev rm_X7_readImage : Room := { frames := 4, cells := 202, slots := 2525, locals := 91 }
theorem hd_X7_readImage : yX7_readImage.cls = RX7 ∧ yX7_readImage.cls ≠ "java/lang/invoke/MethodHandle" ∧ yX7_readImage.cls ≠ "java/lang/invoke/VarHandle" ∧ (parseMethodDescriptor yX7_readImage.desc).map (fun d => d.parameters.length) = some 1 := by decide +kernel
theorem hy_X7_readImage : plainName yX7_readImage.cls = true ∧ yX7_readImage.cls = RX7 ∧ yX7_readImage.name = "readImage" := by decide +kernel
abbrev rm_X7_signedAt : Room := { frames := 0, cells := 0, slots := 0, locals := 0 }
theorem hd_X7_signedAt : yX7_signedAt.cls = RX7 ∧ yX7_signedAt.cls ≠ "java/lang/invoke/MethodHandle" ∧ yX7_signedAt.cls ≠ "java/lang/invoke/VarHandle" ∧ (parseMethodDescriptor yX7_signedAt.desc).map (fun d => d.parameters.length) = some 2 := by decide +kernel
theorem hy_X7_signedAt : plainName yX7_signedAt.cls = true ∧ yX7_signedAt.cls = RX7 ∧ yX7_signedAt.name = "signedAt" := by decide +kernel
abbrev rm_X7_sum : Room := { frames := 0, cells := 0, slots := 0, locals := 0 }
theorem hd_X7_sum : yX7_sum.cls = RX7 ∧ yX7_sum.cls ≠ "java/lang/invoke/MethodHandle" ∧ yX7_sum.cls ≠ "java/lang/invoke/VarHandle" ∧ (parseMethodDescriptor yX7_sum.desc).map (fun d => d.parameters.length) = some 0 := by decide +kernel
theorem hy_X7_sum : plainName yX7_sum.cls = true ∧ yX7_sum.cls = RX7 ∧ yX7_sum.name = "sum" := by decide +kernel
abbrev rm_X7_takeName : Room := { frames := 3, cells := 2, slots := 25, locals := 65 }
theorem hd_X7_takeName : yX7_takeName.cls = RX7 ∧ yX7_takeName.cls ≠ "java/lang/invoke/MethodHandle" ∧ yX7_takeName.cls ≠ "java/lang/invoke/VarHandle" ∧ (parseMethodDescriptor yX7_takeName.desc).map (fun d => d.parameters.length) = some 0 := by decide +kernel
theorem hy_X7_takeName : plainName yX7_takeName.cls = true ∧ yX7_takeName.cls = RX7 ∧ yX7_takeName.name = "takeName" := by decide +kernel
abbrev rm_X7_writeImage : Room := { frames := 2, cells := 0, slots := 0, locals := 45 }
theorem hd_X7_writeImage : yX7_writeImage.cls = RX7 ∧ yX7_writeImage.cls ≠ "java/lang/invoke/MethodHandle" ∧ yX7_writeImage.cls ≠ "java/lang/invoke/VarHandle" ∧ (parseMethodDescriptor yX7_writeImage.desc).map (fun d => d.parameters.length) = some 1 := by decide +kernel
theorem hy_X7_writeImage : plainName yX7_writeImage.cls = true ∧ yX7_writeImage.cls = RX7 ∧ yX7_writeImage.name = "writeImage" := by decide +kernel
abbrev rm_X8_init : Room := { frames := 1, cells := 0, slots := 0, locals := 20 }
theorem hd_X8_init : yX8_init.cls = RX8 ∧ yX8_init.cls ≠ "java/lang/invoke/MethodHandle" ∧ yX8_init.cls ≠ "java/lang/invoke/VarHandle" ∧ (parseMethodDescriptor yX8_init.desc).map (fun d => d.parameters.length) = some 1 := by decide +kernel
theorem hy_X8_init : plainName yX8_init.cls = true ∧ yX8_init.cls = RX8 ∧ yX8_init.name = "<init>" := by decide +kernel
abbrev rm_X9_addThree : Room := { frames := 0, cells := 0, slots := 0, locals := 0 }
theorem hd_X9_addThree : yX9_addThree.cls = RX9 ∧ yX9_addThree.cls ≠ "java/lang/invoke/MethodHandle" ∧ yX9_addThree.cls ≠ "java/lang/invoke/VarHandle" ∧ (parseMethodDescriptor yX9_addThree.desc).map (fun d => d.parameters.length) = some 3 := by decide +kernel
theorem hy_X9_addThree : plainName yX9_addThree.cls = true ∧ yX9_addThree.cls = RX9 ∧ yX9_addThree.name = "addThree" := by decide +kernel
abbrev rm_X9_goDown : Room := { frames := 4, cells := 0, slots := 0, locals := 92 }
theorem hd_X9_goDown : yX9_goDown.cls = RX9 ∧ yX9_goDown.cls ≠ "java/lang/invoke/MethodHandle" ∧ yX9_goDown.cls ≠ "java/lang/invoke/VarHandle" ∧ (parseMethodDescriptor yX9_goDown.desc).map (fun d => d.parameters.length) = some 2 := by decide +kernel
theorem hy_X9_goDown : plainName yX9_goDown.cls = true ∧ yX9_goDown.cls = RX9 ∧ yX9_goDown.name = "goDown" := by decide +kernel
abbrev rm_X9_hasNumber : Room := { frames := 0, cells := 0, slots := 0, locals := 0 }
theorem hd_X9_hasNumber : yX9_hasNumber.cls = RX9 ∧ yX9_hasNumber.cls ≠ "java/lang/invoke/MethodHandle" ∧ yX9_hasNumber.cls ≠ "java/lang/invoke/VarHandle" ∧ (parseMethodDescriptor yX9_hasNumber.desc).map (fun d => d.parameters.length) = some 1 := by decide +kernel
theorem hy_X9_hasNumber : plainName yX9_hasNumber.cls = true ∧ yX9_hasNumber.cls = RX9 ∧ yX9_hasNumber.name = "hasNumber" := by decide +kernel
abbrev rm_X9_init : Room := { frames := 1, cells := 1, slots := 75, locals := 20 }
theorem hd_X9_init : yX9_init.cls = RX9 ∧ yX9_init.cls ≠ "java/lang/invoke/MethodHandle" ∧ yX9_init.cls ≠ "java/lang/invoke/VarHandle" ∧ (parseMethodDescriptor yX9_init.desc).map (fun d => d.parameters.length) = some 0 := by decide +kernel
theorem hy_X9_init : plainName yX9_init.cls = true ∧ yX9_init.cls = RX9 ∧ yX9_init.name = "<init>" := by decide +kernel
abbrev rm_X9_isLike : Room := { frames := 0, cells := 0, slots := 0, locals := 0 }
theorem hd_X9_isLike : yX9_isLike.cls = RX9 ∧ yX9_isLike.cls ≠ "java/lang/invoke/MethodHandle" ∧ yX9_isLike.cls ≠ "java/lang/invoke/VarHandle" ∧ (parseMethodDescriptor yX9_isLike.desc).map (fun d => d.parameters.length) = some 1 := by decide +kernel
theorem hy_X9_isLike : plainName yX9_isLike.cls = true ∧ yX9_isLike.cls = RX9 ∧ yX9_isLike.name = "isLike" := by decide +kernel
