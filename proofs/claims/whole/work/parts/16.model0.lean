abbrev rmX9_in : Room := { frames := 0, cells := 0, slots := 0, locals := 0 }
theorem hd_X9_in : yX9_in.cls ≠ "java/lang/invoke/MethodHandle" ∧ yX9_in.cls ≠ "java/lang/invoke/VarHandle" ∧ (parseMethodDescriptor yX9_in.desc).map (fun d => d.parameters.length) = some 3 := by decide +kernel
set_option maxHeartbeats 4000000 in
set_option maxRecDepth 100000 in
theorem c_X9_in (l : Launch) (dC : Nat → ClassId) (dI : Nat → Nat → Nat) (cI cZ : ClassId) (ts : Nat → Nat) (sz : Nat) (x0 : Int32) (x1 : Int32) (x2 : Int32) (R : Int32) (hf : f_X9_in x0 x1 x2 = some R) : Met l yX9_in wyX9_in rmX9_in (PRE (dC, dI) cI cZ ts [.int x0, .int x1, .int x2] sz []) (POSTi (dC, dI) R sz [] []) 0 0 (va_A [] sz) := by
  refine Met.ofW (cc := cX9_in) (maxL := 3) (ret := (some .boolean)) (by decide) rfl ?_
  intro p e s m args below meth c s₁ B hml hv
  obtain ⟨rfl, hv⟩ := hv
  have hG := hg_of hv
  obtain ⟨hsz, hP, -, hD0, -⟩ := hv
  have hx := B.exec
  have hb := B.bytes
  have hr := B.returns
  have hlk := B.notSynchronized
  have hown : s.vm.findClass RX9 = some m.cls := findClass_of_methodNamed B.named
  have hD := hD0.self (sz := sz)
  have hS : va_S (va_A [] sz) s.heap s.heap [] := va_S.rf
  have hl := lv_entry ([.int x0, .int x1, .int x2]) (n := 3) (Nat.le_of_ble_eq_true rfl)
  rw [lg_entry_eq]
  generalize (lg_sl ([.int x0, .int x1, .int x2]) ++ List.replicate (3 - (lg_sl ([.int x0, .int x1, .int x2])).length) Slot.unset).toArray = ls at hl ⊢
  have hl : lv_has ls 3 [(0, .int x0), (1, .int x1), (2, .int x2)] := hl
  unfold f_X9_in at hf
  refine lv_iload_n hx hb dX9_in_0 rfl (lv_at hl 0 rfl) ?_
  refine lv_iload_n hx hb dX9_in_1 rfl (lv_at hl 1 rfl) ?_
  refine lv_icmp_lt (tgt := 14) hx hb dX9_in_2 (by decide) (fun c1 => ?_) (fun c1 => ?_)
  · have hf := (if_pos c1).symm.trans hf
    refine lv_iconst (v := 0) hx hb dX9_in_14 (by decide) ?_
    have hR := Option.some.inj hf
    rw [← hR]
    exact rt_z hx hb hr hlk rfl hsz hP hD hS rfl rfl dX9_in_15
  · have hf := (if_neg c1).symm.trans hf
    refine lv_iload_n hx hb dX9_in_5 rfl (lv_at hl 0 rfl) ?_
    refine lv_iload_n hx hb dX9_in_6 rfl (lv_at hl 2 rfl) ?_
    refine lv_icmp_gt (tgt := 14) hx hb dX9_in_7 (by decide) (fun c2 => ?_) (fun c2 => ?_)
    · have hf := (if_pos c2).symm.trans hf
      refine lv_iconst (v := 0) hx hb dX9_in_14 (by decide) ?_
      have hR := Option.some.inj hf
      rw [← hR]
      exact rt_z hx hb hr hlk rfl hsz hP hD hS rfl rfl dX9_in_15
    · have hf := (if_neg c2).symm.trans hf
      refine lv_iconst (v := 1) hx hb dX9_in_10 (by decide) ?_
      refine lv_goto (tgt := 15) hx hb dX9_in_11 (by decide) ?_
      have hR := Option.some.inj hf
      rw [← hR]
      exact rt_z hx hb hr hlk rfl hsz hP hD hS rfl rfl dX9_in_15
abbrev rmX9_leastOf : Room := { frames := 0, cells := 0, slots := 0, locals := 0 }
theorem hd_X9_leastOf : yX9_leastOf.cls ≠ "java/lang/invoke/MethodHandle" ∧ yX9_leastOf.cls ≠ "java/lang/invoke/VarHandle" ∧ (parseMethodDescriptor yX9_leastOf.desc).map (fun d => d.parameters.length) = some 1 := by decide +kernel
set_option maxHeartbeats 4000000 in
set_option maxRecDepth 100000 in
theorem c_X9_leastOf (l : Launch) (dC : Nat → ClassId) (dI : Nat → Nat → Nat) (cI cZ : ClassId) (ts : Nat → Nat) (sz : Nat) (x0 : Int32) (R : Int32) (hf : f_X9_leastOf x0 = some R) : Met l yX9_leastOf wyX9_leastOf rmX9_leastOf (PRE (dC, dI) cI cZ ts [.int x0] sz []) (POSTi (dC, dI) R sz [] []) 0 0 (va_A [] sz) := by
  refine Met.ofW (cc := cX9_leastOf) (maxL := 1) (ret := (some .int)) (by decide) rfl ?_
  intro p e s m args below meth c s₁ B hml hv
  obtain ⟨rfl, hv⟩ := hv
  have hG := hg_of hv
  obtain ⟨hsz, hP, -, hD0, -⟩ := hv
  have hx := B.exec
  have hb := B.bytes
  have hr := B.returns
  have hlk := B.notSynchronized
  have hown : s.vm.findClass RX9 = some m.cls := findClass_of_methodNamed B.named
  have hD := hD0.self (sz := sz)
  have hS : va_S (va_A [] sz) s.heap s.heap [] := va_S.rf
  have hl := lv_entry ([.int x0]) (n := 1) (Nat.le_of_ble_eq_true rfl)
  rw [lg_entry_eq]
  generalize (lg_sl ([.int x0]) ++ List.replicate (1 - (lg_sl ([.int x0])).length) Slot.unset).toArray = ls at hl ⊢
  have hl : lv_has ls 1 [(0, .int x0)] := hl
  unfold f_X9_leastOf at hf
  refine lv_iload_n hx hb dX9_leastOf_0 rfl (lv_at hl 0 rfl) ?_
  refine lv_iconst (v := 2) hx hb dX9_leastOf_1 (by decide) ?_
  refine lv_icmp_ne (tgt := 10) hx hb dX9_leastOf_2 (by decide) (fun c1 => ?_) (fun c1 => ?_)
  · have hf := (if_neg c1).symm.trans hf
    refine lv_iload_n hx hb dX9_leastOf_10 rfl (lv_at hl 0 rfl) ?_
    refine lv_bipush (v := 6) hx hb dX9_leastOf_11 (by decide) ?_
    refine lv_icmp_ne (tgt := 20) hx hb dX9_leastOf_13 (by decide) (fun c2 => ?_) (fun c2 => ?_)
    · have hf := (if_neg c2).symm.trans hf
      refine lv_iconst (v := 0) hx hb dX9_leastOf_20 (by decide) ?_
      have hR := Option.some.inj hf
      rw [← hR]
      exact rt_i hx hb hr hlk hsz hP hD hS rfl rfl dX9_leastOf_21
    · have hf := (if_pos c2).symm.trans hf
      refine lv_iconst (v := 1) hx hb dX9_leastOf_16 (by decide) ?_
      refine lv_goto (tgt := 21) hx hb dX9_leastOf_17 (by decide) ?_
      have hR := Option.some.inj hf
      rw [← hR]
      exact rt_i hx hb hr hlk hsz hP hD hS rfl rfl dX9_leastOf_21
  · have hf := (if_pos c1).symm.trans hf
    refine lv_bipush (v := 100) hx hb dX9_leastOf_5 (by decide) ?_
    refine lv_goto (tgt := 21) hx hb dX9_leastOf_7 (by decide) ?_
    have hR := Option.some.inj hf
    rw [← hR]
    exact rt_i hx hb hr hlk hsz hP hD hS rfl rfl dX9_leastOf_21
abbrev rmX9_mostOf : Room := { frames := 0, cells := 0, slots := 0, locals := 0 }
theorem hd_X9_mostOf : yX9_mostOf.cls ≠ "java/lang/invoke/MethodHandle" ∧ yX9_mostOf.cls ≠ "java/lang/invoke/VarHandle" ∧ (parseMethodDescriptor yX9_mostOf.desc).map (fun d => d.parameters.length) = some 1 := by decide +kernel
set_option maxHeartbeats 4000000 in
set_option maxRecDepth 100000 in
theorem c_X9_mostOf (l : Launch) (dC : Nat → ClassId) (dI : Nat → Nat → Nat) (cI cZ : ClassId) (ts : Nat → Nat) (sz : Nat) (x0 : Int32) (R : Int32) (hf : f_X9_mostOf x0 = some R) : Met l yX9_mostOf wyX9_mostOf rmX9_mostOf (PRE (dC, dI) cI cZ ts [.int x0] sz []) (POSTi (dC, dI) R sz [] []) 0 0 (va_A [] sz) := by
  refine Met.ofW (cc := cX9_mostOf) (maxL := 1) (ret := (some .int)) (by decide) rfl ?_
  intro p e s m args below meth c s₁ B hml hv
  obtain ⟨rfl, hv⟩ := hv
  have hG := hg_of hv
  obtain ⟨hsz, hP, -, hD0, -⟩ := hv
  have hx := B.exec
  have hb := B.bytes
  have hr := B.returns
  have hlk := B.notSynchronized
  have hown : s.vm.findClass RX9 = some m.cls := findClass_of_methodNamed B.named
  have hD := hD0.self (sz := sz)
  have hS : va_S (va_A [] sz) s.heap s.heap [] := va_S.rf
  have hl := lv_entry ([.int x0]) (n := 1) (Nat.le_of_ble_eq_true rfl)
  rw [lg_entry_eq]
  generalize (lg_sl ([.int x0]) ++ List.replicate (1 - (lg_sl ([.int x0])).length) Slot.unset).toArray = ls at hl ⊢
  have hl : lv_has ls 1 [(0, .int x0)] := hl
  unfold f_X9_mostOf at hf
  refine lv_iload_n hx hb dX9_mostOf_0 rfl (lv_at hl 0 rfl) ?_
  by_cases c1 : x0 = 0
  · have hf := (if_pos c1).symm.trans hf
    refine sw_in 0 0 hx hb c1 dX9_mostOf_1 (by decide) (by decide) (by decide) rfl (tgt := 44) (by decide) ?_
    refine lv_sipush (v := 9000) hx hb dX9_mostOf_44 (by decide) ?_
    have hR := Option.some.inj hf
    rw [← hR]
    exact rt_i hx hb hr hlk hsz hP hD hS rfl rfl dX9_mostOf_47
  have hf := (if_neg c1).symm.trans hf
  by_cases c2 : x0 = 1
  · have hf := (if_pos c2).symm.trans hf
    refine sw_in 1 1 hx hb c2 dX9_mostOf_1 (by decide) (by decide) (by decide) rfl (tgt := 48) (by decide) ?_
    refine lv_sipush (v := 3000) hx hb dX9_mostOf_48 (by decide) ?_
    have hR := Option.some.inj hf
    rw [← hR]
    exact rt_i hx hb hr hlk hsz hP hD hS rfl rfl dX9_mostOf_51
  have hf := (if_neg c2).symm.trans hf
  by_cases c3 : x0 = 2
  · have hf := (if_pos c3).symm.trans hf
    refine sw_in 2 2 hx hb c3 dX9_mostOf_1 (by decide) (by decide) (by decide) rfl (tgt := 52) (by decide) ?_
    refine lv_sipush (v := 2000) hx hb dX9_mostOf_52 (by decide) ?_
    have hR := Option.some.inj hf
    rw [← hR]
    exact rt_i hx hb hr hlk hsz hP hD hS rfl rfl dX9_mostOf_55
  have hf := (if_neg c3).symm.trans hf
  by_cases c4 : x0 = 3
  · have hf := (if_pos c4).symm.trans hf
    refine sw_in 3 3 hx hb c4 dX9_mostOf_1 (by decide) (by decide) (by decide) rfl (tgt := 56) (by decide) ?_
    refine lv_sipush (v := 600) hx hb dX9_mostOf_56 (by decide) ?_
    have hR := Option.some.inj hf
    rw [← hR]
    exact rt_i hx hb hr hlk hsz hP hD hS rfl rfl dX9_mostOf_59
  have hf := (if_neg c4).symm.trans hf
  by_cases c5 : x0 = 4
  · have hf := (if_pos c5).symm.trans hf
    refine sw_in 4 4 hx hb c5 dX9_mostOf_1 (by decide) (by decide) (by decide) rfl (tgt := 60) (by decide) ?_
    refine lv_sipush (v := 400) hx hb dX9_mostOf_60 (by decide) ?_
    have hR := Option.some.inj hf
    rw [← hR]
    exact rt_i hx hb hr hlk hsz hP hD hS rfl rfl dX9_mostOf_63
  have hf := (if_neg c5).symm.trans hf
  by_cases c6 : x0 = 5
  · have hf := (if_pos c6).symm.trans hf
    refine sw_in 5 5 hx hb c6 dX9_mostOf_1 (by decide) (by decide) (by decide) rfl (tgt := 64) (by decide) ?_
    refine lv_sipush (v := 300) hx hb dX9_mostOf_64 (by decide) ?_
    have hR := Option.some.inj hf
    rw [← hR]
    exact rt_i hx hb hr hlk hsz hP hD hS rfl rfl dX9_mostOf_67
  have hf := (if_neg c6).symm.trans hf
  by_cases c7 : x0 = 6
  · have hf := (if_pos c7).symm.trans hf
    refine sw_in 6 6 hx hb c7 dX9_mostOf_1 (by decide) (by decide) (by decide) rfl (tgt := 68) (by decide) ?_
    refine lv_sipush (v := 900) hx hb dX9_mostOf_68 (by decide) ?_
    have hR := Option.some.inj hf
    rw [← hR]
    exact rt_i hx hb hr hlk hsz hP hD hS rfl rfl dX9_mostOf_71
  have hf := (if_neg c7).symm.trans hf
  have o_c1 := lv_neT c1 (k := 0) (a := 0) (by decide)
  have o_c2 := lv_neT c2 (k := 1) (a := 1) (by decide)
  have o_c3 := lv_neT c3 (k := 2) (a := 2) (by decide)
  have o_c4 := lv_neT c4 (k := 3) (a := 3) (by decide)
  have o_c5 := lv_neT c5 (k := 4) (a := 4) (by decide)
  have o_c6 := lv_neT c6 (k := 5) (a := 5) (by decide)
  have o_c7 := lv_neT c7 (k := 6) (a := 6) (by decide)
  refine lv_tableOut hx hb dX9_mostOf_1 (by omega) (tgt := 72) (by decide) ?_
  refine lv_bipush (v := 9) hx hb dX9_mostOf_72 (by decide) ?_
  have hR := Option.some.inj hf
  rw [← hR]
  exact rt_i hx hb hr hlk hsz hP hD hS rfl rfl dX9_mostOf_74
abbrev woX9_set (cI cZ : ClassId) (a_t a_t_how a_t_strong a_t_pad a_t_plan a_t_box a_t_instead a_t_flakes a_t_tired a_t_image a_t_isKept : Nat) (t_signs : Int32) (t_parts : Int32) (t_swings : Int32) (t_saltFirst : Int32) (t_paceOfAll : Int32) (t_ice : Int32) (t_salt : Int32) (t_brine : Int32) (t_cold : Int32) (t_warm : Int32) (t_frozen : Int32) (t_layer : Int32) (t_air : Int32) (t_churned : Int32) (t_held : Int32) (t_heldFirst : Int32) (t_stiffWanted : Int32) (t_stiffFirst : Int32) (t_how : Nat → Int32) : va_W := [(a_t, .inr (9, [.ref a_t_how, .ref a_t_strong, .int t_signs, .ref a_t_pad, .int t_parts, .ref a_t_plan, .int t_swings, .ref a_t_box, .ref a_t_instead, .int t_saltFirst, .int t_paceOfAll, .int t_ice, .int t_salt, .int t_brine, .int t_cold, .int t_warm, .int t_frozen, .int t_layer, .int t_air, .int t_churned, .ref a_t_flakes, .ref a_t_tired, .int t_held, .int t_heldFirst, .int t_stiffWanted, .int t_stiffFirst, .ref a_t_image, .ref a_t_isKept])), (a_t_how, .inl (cI, 8, .inl t_how))]
abbrev rmX9_set : Room := { frames := 1, cells := 0, slots := 0, locals := 22 }
theorem hd_X9_set : yX9_set.cls ≠ "java/lang/invoke/MethodHandle" ∧ yX9_set.cls ≠ "java/lang/invoke/VarHandle" ∧ (parseMethodDescriptor yX9_set.desc).map (fun d => d.parameters.length) = some 2 := by decide +kernel
set_option maxHeartbeats 4000000 in
set_option maxRecDepth 100000 in
theorem c_X9_set (l : Launch) (dC : Nat → ClassId) (dI : Nat → Nat → Nat) (cI cZ : ClassId) (ts : Nat → Nat) (sz : Nat) (a_t a_t_how a_t_strong a_t_pad a_t_plan a_t_box a_t_instead a_t_flakes a_t_tired a_t_image a_t_isKept : Nat) (t_signs : Int32) (t_parts : Int32) (t_swings : Int32) (t_saltFirst : Int32) (t_paceOfAll : Int32) (t_ice : Int32) (t_salt : Int32) (t_brine : Int32) (t_cold : Int32) (t_warm : Int32) (t_frozen : Int32) (t_layer : Int32) (t_air : Int32) (t_churned : Int32) (t_held : Int32) (t_heldFirst : Int32) (t_stiffWanted : Int32) (t_stiffFirst : Int32) (t_how : Nat → Int32) (x1 : Int32) (x2 : Int32) (R : Int32 × (Nat → Int32)) (hf : f_X9_set t_how x1 x2 = some R) : Met l yX9_set wyX9_set rmX9_set (PRE (dC, dI) cI cZ ts [.ref a_t, .int x1, .int x2] sz (woX9_set cI cZ a_t a_t_how a_t_strong a_t_pad a_t_plan a_t_box a_t_instead a_t_flakes a_t_tired a_t_image a_t_isKept t_signs t_parts t_swings t_saltFirst t_paceOfAll t_ice t_salt t_brine t_cold t_warm t_frozen t_layer t_air t_churned t_held t_heldFirst t_stiffWanted t_stiffFirst t_how)) (POSTi (dC, dI) R.1 sz (woX9_set cI cZ a_t a_t_how a_t_strong a_t_pad a_t_plan a_t_box a_t_instead a_t_flakes a_t_tired a_t_image a_t_isKept t_signs t_parts t_swings t_saltFirst t_paceOfAll t_ice t_salt t_brine t_cold t_warm t_frozen t_layer t_air t_churned t_held t_heldFirst t_stiffWanted t_stiffFirst t_how) (woX9_set cI cZ a_t a_t_how a_t_strong a_t_pad a_t_plan a_t_box a_t_instead a_t_flakes a_t_tired a_t_image a_t_isKept t_signs t_parts t_swings t_saltFirst t_paceOfAll t_ice t_salt t_brine t_cold t_warm t_frozen t_layer t_air t_churned t_held t_heldFirst t_stiffWanted t_stiffFirst R.2)) 0 0 (va_A (woX9_set cI cZ a_t a_t_how a_t_strong a_t_pad a_t_plan a_t_box a_t_instead a_t_flakes a_t_tired a_t_image a_t_isKept t_signs t_parts t_swings t_saltFirst t_paceOfAll t_ice t_salt t_brine t_cold t_warm t_frozen t_layer t_air t_churned t_held t_heldFirst t_stiffWanted t_stiffFirst t_how) sz) := by
  refine Met.ofW (cc := cX9_set) (maxL := 4) (ret := (some .int)) (by decide) rfl ?_
  intro p e s m args below meth c s₁ B hml hv
  obtain ⟨rfl, hv⟩ := hv
  have hG := hg_of hv
  obtain ⟨hsz, hP, -, hD0, -⟩ := hv
  have hx := B.exec
  have hb := B.bytes
  have hr := B.returns
  have hlk := B.notSynchronized
  have hown : s.vm.findClass RX9 = some m.cls := findClass_of_methodNamed B.named
  have hD := hD0.self (sz := sz)
  have hS : va_S (va_A (woX9_set cI cZ a_t a_t_how a_t_strong a_t_pad a_t_plan a_t_box a_t_instead a_t_flakes a_t_tired a_t_image a_t_isKept t_signs t_parts t_swings t_saltFirst t_paceOfAll t_ice t_salt t_brine t_cold t_warm t_frozen t_layer t_air t_churned t_held t_heldFirst t_stiffWanted t_stiffFirst t_how) sz) s.heap s.heap [] := va_S.rf
  have hl := lv_entry ([.ref a_t, .int x1, .int x2]) (n := 4) (Nat.le_of_ble_eq_true rfl)
  rw [lg_entry_eq]
  generalize (lg_sl ([.ref a_t, .int x1, .int x2]) ++ List.replicate (4 - (lg_sl ([.ref a_t, .int x1, .int x2])).length) Slot.unset).toArray = ls at hl ⊢
  have hl : lv_has ls 4 [(0, .ref a_t), (1, .int x1), (2, .int x2)] := hl
  unfold f_X9_set at hf
  refine lv_iload_n hx hb dX9_set_0 rfl (lv_at hl 1 rfl) ?_
  refine lv_iconst (v := 0) hx hb dX9_set_1 (by decide) ?_
  refine lv_bipush (v := 7) hx hb dX9_set_2 (by decide) ?_
  obtain ⟨r4, hc4, hf⟩ := bd1_some hf
  refine cl_Si (r := r4) (As := [.int x1, .int (0 : Int32), .int (7 : Int32)]) (w1 := []) (wN := (woX9_set cI cZ a_t a_t_how a_t_strong a_t_pad a_t_plan a_t_box a_t_instead a_t_flakes a_t_tired a_t_image a_t_isKept t_signs t_parts t_swings t_saltFirst t_paceOfAll t_ice t_salt t_brine t_cold t_warm t_frozen t_layer t_air t_churned t_held t_heldFirst t_stiffWanted t_stiffFirst t_how)) [] 0 0 (c_X9_in l dC dI cI cZ ts _ x1 (0 : Int32) (7 : Int32) (r4) hc4) ⟨hx, hb, hml, hown, hG.2.1.hts _⟩ ⟨callB_of 3 (hG.2.1.hts _) giX9_in rfl rfl rfl (wd_1_10 hG.2.1) (wd_3_222 hG.2.1) hd_X9_in ⟨Nat.le_of_ble_eq_true rfl, Nat.le_of_ble_eq_true rfl⟩, wd_3_223 hG.2.1⟩ hG hP hD hS rfl rfl rfl rfl rfl hl.1 rfl (Nat.le_of_ble_eq_true rfl) dX9_set_4 ⟨Nat.zero_le _, Nat.zero_le _⟩ (fun H locs hP hD hS => ?_)
  refine lv_if_eq (tgt := 25) hx hb dX9_set_7 (by decide) (fun c1 => ?_) (fun c1 => ?_)
  · have hf := (if_pos c1).symm.trans hf
    refine lv_bipush (v := -2) hx hb dX9_set_25 (by decide) ?_
    have hR := Option.some.inj hf
    rw [← hR]
    exact rt_i hx hb hr hlk hsz hP hD hS rfl rfl dX9_set_27
  · have hf := (if_neg c1).symm.trans hf
    refine lv_iload_n hx hb dX9_set_10 rfl (lv_at hl 2 rfl) ?_
    refine lv_iload_n hx hb dX9_set_11 rfl (lv_at hl 1 rfl) ?_
    obtain ⟨r12, hc12, hf⟩ := bd1_some hf
    refine cl_Si (r := r12) (As := [.int x1]) (w1 := []) (wN := (woX9_set cI cZ a_t a_t_how a_t_strong a_t_pad a_t_plan a_t_box a_t_instead a_t_flakes a_t_tired a_t_image a_t_isKept t_signs t_parts t_swings t_saltFirst t_paceOfAll t_ice t_salt t_brine t_cold t_warm t_frozen t_layer t_air t_churned t_held t_heldFirst t_stiffWanted t_stiffFirst t_how)) [] 0 0 (c_X9_leastOf l dC dI cI cZ ts _ x1 (r12) hc12) ⟨hx, hb, hml, hown, hG.2.1.hts _⟩ ⟨callB_of 1 (hG.2.1.hts _) giX9_leastOf rfl rfl rfl (wd_1_10 hG.2.1) (wd_3_225 hG.2.1) hd_X9_leastOf ⟨Nat.le_of_ble_eq_true rfl, Nat.le_of_ble_eq_true rfl⟩, wd_3_226 hG.2.1⟩ hG hP hD hS rfl rfl rfl rfl rfl hl.1 rfl (Nat.le_of_ble_eq_true rfl) dX9_set_12 ⟨Nat.zero_le _, Nat.zero_le _⟩ (fun H locs hP hD hS => ?_)
    refine lv_iload_n hx hb dX9_set_15 rfl (lv_at hl 1 rfl) ?_
    obtain ⟨r16, hc16, hf⟩ := bd1_some hf
    refine cl_Si (r := r16) (As := [.int x1]) (w1 := []) (wN := (woX9_set cI cZ a_t a_t_how a_t_strong a_t_pad a_t_plan a_t_box a_t_instead a_t_flakes a_t_tired a_t_image a_t_isKept t_signs t_parts t_swings t_saltFirst t_paceOfAll t_ice t_salt t_brine t_cold t_warm t_frozen t_layer t_air t_churned t_held t_heldFirst t_stiffWanted t_stiffFirst t_how)) [] 0 0 (c_X9_mostOf l dC dI cI cZ ts _ x1 (r16) hc16) ⟨hx, hb, hml, hown, hG.2.1.hts _⟩ ⟨callB_of 1 (hG.2.1.hts _) giX9_mostOf rfl rfl rfl (wd_1_10 hG.2.1) (wd_3_228 hG.2.1) hd_X9_mostOf ⟨Nat.le_of_ble_eq_true rfl, Nat.le_of_ble_eq_true rfl⟩, wd_3_229 hG.2.1⟩ hG hP hD hS rfl rfl rfl rfl rfl hl.1 rfl (Nat.le_of_ble_eq_true rfl) dX9_set_16 ⟨Nat.zero_le _, Nat.zero_le _⟩ (fun H locs hP hD hS => ?_)
    obtain ⟨r19, hc19, hf⟩ := bd1_some hf
    refine cl_Si (r := r19) (As := [.int x2, .int r12, .int r16]) (w1 := []) (wN := (woX9_set cI cZ a_t a_t_how a_t_strong a_t_pad a_t_plan a_t_box a_t_instead a_t_flakes a_t_tired a_t_image a_t_isKept t_signs t_parts t_swings t_saltFirst t_paceOfAll t_ice t_salt t_brine t_cold t_warm t_frozen t_layer t_air t_churned t_held t_heldFirst t_stiffWanted t_stiffFirst t_how)) [] 0 0 (c_X9_in l dC dI cI cZ ts _ x2 r12 r16 (r19) hc19) ⟨hx, hb, hml, hown, hG.2.1.hts _⟩ ⟨callB_of 3 (hG.2.1.hts _) giX9_in rfl rfl rfl (wd_1_10 hG.2.1) (wd_3_222 hG.2.1) hd_X9_in ⟨Nat.le_of_ble_eq_true rfl, Nat.le_of_ble_eq_true rfl⟩, wd_3_223 hG.2.1⟩ hG hP hD hS rfl rfl rfl rfl rfl hl.1 rfl (Nat.le_of_ble_eq_true rfl) dX9_set_19 ⟨Nat.zero_le _, Nat.zero_le _⟩ (fun H locs hP hD hS => ?_)
    refine lv_if_ne (tgt := 28) hx hb dX9_set_22 (by decide) (fun c2 => ?_) (fun c2 => ?_)
    · have hf := (if_neg c2).symm.trans hf
      refine lv_aload_n hx hb dX9_set_28 rfl (lv_at hl 0 rfl) ?_
      refine mg (ci := 9) 0 0 hx hb hG igX9 hown hP rfl rfl (by decide) (wd_3_132 hG.2.1) rfl rfl dX9_set_29 ?_
      refine lv_iload_n hx hb dX9_set_32 rfl (lv_at hl 1 rfl) ?_
      obtain ⟨g3, hf⟩ := gd_some hf
      refine mal 1 hx hb hG hP rfl g3 dX9_set_33 ?_
      refine lv_istore_n (lv' := [(3, .int (t_how (x1).toNatClampNeg)), (0, .ref a_t), (1, .int x1), (2, .int x2)]) hx hb dX9_set_34 rfl hl (by decide) rfl (fun ls hl => ?_)
      refine lv_aload_n hx hb dX9_set_35 rfl (lv_at hl 1 rfl) ?_
      refine mg (ci := 9) 0 0 hx hb hG igX9 hown hP rfl rfl (by decide) (wd_3_132 hG.2.1) rfl rfl dX9_set_36 ?_
      refine lv_iload_n hx hb dX9_set_39 rfl (lv_at hl 2 rfl) ?_
      refine lv_iload_n hx hb dX9_set_40 rfl (lv_at hl 3 rfl) ?_
      obtain ⟨g4, hf⟩ := gd_some hf
      refine mas (wN := (woX9_set cI cZ a_t a_t_how a_t_strong a_t_pad a_t_plan a_t_box a_t_instead a_t_flakes a_t_tired a_t_image a_t_isKept t_signs t_parts t_swings t_saltFirst t_paceOfAll t_ice t_salt t_brine t_cold t_warm t_frozen t_layer t_air t_churned t_held t_heldFirst t_stiffWanted t_stiffFirst (upd t_how (x1).toNatClampNeg x2))) 1 hx hb hG hP hD hS rfl g4 rfl dX9_set_41 (fun H locs hP hD hS => ?_)
      refine lv_iload_n hx hb dX9_set_42 rfl (lv_at hl 0 rfl) ?_
      have hR := Option.some.inj hf
      rw [← hR]
      exact rt_i hx hb hr hlk hsz hP hD hS rfl rfl dX9_set_43
    · have hf := (if_pos c2).symm.trans hf
      refine lv_bipush (v := -2) hx hb dX9_set_25 (by decide) ?_
      have hR := Option.some.inj hf
      rw [← hR]
      exact rt_i hx hb hr hlk hsz hP hD hS rfl rfl dX9_set_27
abbrev woX9_strong (cI cZ : ClassId) (a_t a_t_how a_t_strong a_t_pad a_t_plan a_t_box a_t_instead a_t_flakes a_t_tired a_t_image a_t_isKept : Nat) (t_signs : Int32) (t_parts : Int32) (t_swings : Int32) (t_saltFirst : Int32) (t_paceOfAll : Int32) (t_ice : Int32) (t_salt : Int32) (t_brine : Int32) (t_cold : Int32) (t_warm : Int32) (t_frozen : Int32) (t_layer : Int32) (t_air : Int32) (t_churned : Int32) (t_held : Int32) (t_heldFirst : Int32) (t_stiffWanted : Int32) (t_stiffFirst : Int32) (t_strong : Nat → Int32) : va_W := [(a_t, .inr (9, [.ref a_t_how, .ref a_t_strong, .int t_signs, .ref a_t_pad, .int t_parts, .ref a_t_plan, .int t_swings, .ref a_t_box, .ref a_t_instead, .int t_saltFirst, .int t_paceOfAll, .int t_ice, .int t_salt, .int t_brine, .int t_cold, .int t_warm, .int t_frozen, .int t_layer, .int t_air, .int t_churned, .ref a_t_flakes, .ref a_t_tired, .int t_held, .int t_heldFirst, .int t_stiffWanted, .int t_stiffFirst, .ref a_t_image, .ref a_t_isKept])), (a_t_strong, .inl (cI, 4, .inl t_strong))]
abbrev rmX9_strong : Room := { frames := 1, cells := 0, slots := 0, locals := 22 }
theorem hd_X9_strong : yX9_strong.cls ≠ "java/lang/invoke/MethodHandle" ∧ yX9_strong.cls ≠ "java/lang/invoke/VarHandle" ∧ (parseMethodDescriptor yX9_strong.desc).map (fun d => d.parameters.length) = some 2 := by decide +kernel
set_option maxHeartbeats 4000000 in
set_option maxRecDepth 100000 in
theorem c_X9_strong (l : Launch) (dC : Nat → ClassId) (dI : Nat → Nat → Nat) (cI cZ : ClassId) (ts : Nat → Nat) (sz : Nat) (a_t a_t_how a_t_strong a_t_pad a_t_plan a_t_box a_t_instead a_t_flakes a_t_tired a_t_image a_t_isKept : Nat) (t_signs : Int32) (t_parts : Int32) (t_swings : Int32) (t_saltFirst : Int32) (t_paceOfAll : Int32) (t_ice : Int32) (t_salt : Int32) (t_brine : Int32) (t_cold : Int32) (t_warm : Int32) (t_frozen : Int32) (t_layer : Int32) (t_air : Int32) (t_churned : Int32) (t_held : Int32) (t_heldFirst : Int32) (t_stiffWanted : Int32) (t_stiffFirst : Int32) (t_strong : Nat → Int32) (x1 : Int32) (x2 : Int32) (R : Int32 × (Nat → Int32)) (hf : f_X9_strong t_strong x1 x2 = some R) : Met l yX9_strong wyX9_strong rmX9_strong (PRE (dC, dI) cI cZ ts [.ref a_t, .int x1, .int x2] sz (woX9_strong cI cZ a_t a_t_how a_t_strong a_t_pad a_t_plan a_t_box a_t_instead a_t_flakes a_t_tired a_t_image a_t_isKept t_signs t_parts t_swings t_saltFirst t_paceOfAll t_ice t_salt t_brine t_cold t_warm t_frozen t_layer t_air t_churned t_held t_heldFirst t_stiffWanted t_stiffFirst t_strong)) (POSTi (dC, dI) R.1 sz (woX9_strong cI cZ a_t a_t_how a_t_strong a_t_pad a_t_plan a_t_box a_t_instead a_t_flakes a_t_tired a_t_image a_t_isKept t_signs t_parts t_swings t_saltFirst t_paceOfAll t_ice t_salt t_brine t_cold t_warm t_frozen t_layer t_air t_churned t_held t_heldFirst t_stiffWanted t_stiffFirst t_strong) (woX9_strong cI cZ a_t a_t_how a_t_strong a_t_pad a_t_plan a_t_box a_t_instead a_t_flakes a_t_tired a_t_image a_t_isKept t_signs t_parts t_swings t_saltFirst t_paceOfAll t_ice t_salt t_brine t_cold t_warm t_frozen t_layer t_air t_churned t_held t_heldFirst t_stiffWanted t_stiffFirst R.2)) 0 0 (va_A (woX9_strong cI cZ a_t a_t_how a_t_strong a_t_pad a_t_plan a_t_box a_t_instead a_t_flakes a_t_tired a_t_image a_t_isKept t_signs t_parts t_swings t_saltFirst t_paceOfAll t_ice t_salt t_brine t_cold t_warm t_frozen t_layer t_air t_churned t_held t_heldFirst t_stiffWanted t_stiffFirst t_strong) sz) := by
  refine Met.ofW (cc := cX9_strong) (maxL := 4) (ret := (some .int)) (by decide) rfl ?_
  intro p e s m args below meth c s₁ B hml hv
  obtain ⟨rfl, hv⟩ := hv
  have hG := hg_of hv
  obtain ⟨hsz, hP, -, hD0, -⟩ := hv
  have hx := B.exec
  have hb := B.bytes
  have hr := B.returns
  have hlk := B.notSynchronized
  have hown : s.vm.findClass RX9 = some m.cls := findClass_of_methodNamed B.named
  have hD := hD0.self (sz := sz)
  have hS : va_S (va_A (woX9_strong cI cZ a_t a_t_how a_t_strong a_t_pad a_t_plan a_t_box a_t_instead a_t_flakes a_t_tired a_t_image a_t_isKept t_signs t_parts t_swings t_saltFirst t_paceOfAll t_ice t_salt t_brine t_cold t_warm t_frozen t_layer t_air t_churned t_held t_heldFirst t_stiffWanted t_stiffFirst t_strong) sz) s.heap s.heap [] := va_S.rf
  have hl := lv_entry ([.ref a_t, .int x1, .int x2]) (n := 4) (Nat.le_of_ble_eq_true rfl)
  rw [lg_entry_eq]
  generalize (lg_sl ([.ref a_t, .int x1, .int x2]) ++ List.replicate (4 - (lg_sl ([.ref a_t, .int x1, .int x2])).length) Slot.unset).toArray = ls at hl ⊢
  have hl : lv_has ls 4 [(0, .ref a_t), (1, .int x1), (2, .int x2)] := hl
  unfold f_X9_strong at hf
  refine lv_iload_n hx hb dX9_strong_0 rfl (lv_at hl 1 rfl) ?_
  refine lv_iconst (v := 0) hx hb dX9_strong_1 (by decide) ?_
  refine lv_iconst (v := 3) hx hb dX9_strong_2 (by decide) ?_
  obtain ⟨r3, hc3, hf⟩ := bd1_some hf
  refine cl_Si (r := r3) (As := [.int x1, .int (0 : Int32), .int (3 : Int32)]) (w1 := []) (wN := (woX9_strong cI cZ a_t a_t_how a_t_strong a_t_pad a_t_plan a_t_box a_t_instead a_t_flakes a_t_tired a_t_image a_t_isKept t_signs t_parts t_swings t_saltFirst t_paceOfAll t_ice t_salt t_brine t_cold t_warm t_frozen t_layer t_air t_churned t_held t_heldFirst t_stiffWanted t_stiffFirst t_strong)) [] 0 0 (c_X9_in l dC dI cI cZ ts _ x1 (0 : Int32) (3 : Int32) (r3) hc3) ⟨hx, hb, hml, hown, hG.2.1.hts _⟩ ⟨callB_of 3 (hG.2.1.hts _) giX9_in rfl rfl rfl (wd_1_10 hG.2.1) (wd_3_222 hG.2.1) hd_X9_in ⟨Nat.le_of_ble_eq_true rfl, Nat.le_of_ble_eq_true rfl⟩, wd_3_223 hG.2.1⟩ hG hP hD hS rfl rfl rfl rfl rfl hl.1 rfl (Nat.le_of_ble_eq_true rfl) dX9_strong_3 ⟨Nat.zero_le _, Nat.zero_le _⟩ (fun H locs hP hD hS => ?_)
  refine lv_if_ne (tgt := 11) hx hb dX9_strong_6 (by decide) (fun c1 => ?_) (fun c1 => ?_)
  · have hf := (if_neg c1).symm.trans hf
    refine lv_iload_n hx hb dX9_strong_11 rfl (lv_at hl 2 rfl) ?_
    refine lv_iconst (v := 0) hx hb dX9_strong_12 (by decide) ?_
    refine lv_sipush (v := 200) hx hb dX9_strong_13 (by decide) ?_
    obtain ⟨r16, hc16, hf⟩ := bd1_some hf
    refine cl_Si (r := r16) (As := [.int x2, .int (0 : Int32), .int (200 : Int32)]) (w1 := []) (wN := (woX9_strong cI cZ a_t a_t_how a_t_strong a_t_pad a_t_plan a_t_box a_t_instead a_t_flakes a_t_tired a_t_image a_t_isKept t_signs t_parts t_swings t_saltFirst t_paceOfAll t_ice t_salt t_brine t_cold t_warm t_frozen t_layer t_air t_churned t_held t_heldFirst t_stiffWanted t_stiffFirst t_strong)) [] 0 0 (c_X9_in l dC dI cI cZ ts _ x2 (0 : Int32) (200 : Int32) (r16) hc16) ⟨hx, hb, hml, hown, hG.2.1.hts _⟩ ⟨callB_of 3 (hG.2.1.hts _) giX9_in rfl rfl rfl (wd_1_10 hG.2.1) (wd_3_222 hG.2.1) hd_X9_in ⟨Nat.le_of_ble_eq_true rfl, Nat.le_of_ble_eq_true rfl⟩, wd_3_223 hG.2.1⟩ hG hP hD hS rfl rfl rfl rfl rfl hl.1 rfl (Nat.le_of_ble_eq_true rfl) dX9_strong_16 ⟨Nat.zero_le _, Nat.zero_le _⟩ (fun H locs hP hD hS => ?_)
    refine lv_if_ne (tgt := 25) hx hb dX9_strong_19 (by decide) (fun c2 => ?_) (fun c2 => ?_)
    · have hf := (if_neg c2).symm.trans hf
      refine lv_aload_n hx hb dX9_strong_25 rfl (lv_at hl 0 rfl) ?_
      refine mg (ci := 9) 0 1 hx hb hG igX9 hown hP rfl rfl (by decide) (wd_3_133 hG.2.1) rfl rfl dX9_strong_26 ?_
      refine lv_iload_n hx hb dX9_strong_29 rfl (lv_at hl 1 rfl) ?_
      obtain ⟨g3, hf⟩ := gd_some hf
      refine mal 1 hx hb hG hP rfl g3 dX9_strong_30 ?_
      refine lv_istore_n (lv' := [(3, .int (t_strong (x1).toNatClampNeg)), (0, .ref a_t), (1, .int x1), (2, .int x2)]) hx hb dX9_strong_31 rfl hl (by decide) rfl (fun ls hl => ?_)
      refine lv_aload_n hx hb dX9_strong_32 rfl (lv_at hl 1 rfl) ?_
      refine mg (ci := 9) 0 1 hx hb hG igX9 hown hP rfl rfl (by decide) (wd_3_133 hG.2.1) rfl rfl dX9_strong_33 ?_
      refine lv_iload_n hx hb dX9_strong_36 rfl (lv_at hl 2 rfl) ?_
      refine lv_iload_n hx hb dX9_strong_37 rfl (lv_at hl 3 rfl) ?_
      obtain ⟨g4, hf⟩ := gd_some hf
      refine mas (wN := (woX9_strong cI cZ a_t a_t_how a_t_strong a_t_pad a_t_plan a_t_box a_t_instead a_t_flakes a_t_tired a_t_image a_t_isKept t_signs t_parts t_swings t_saltFirst t_paceOfAll t_ice t_salt t_brine t_cold t_warm t_frozen t_layer t_air t_churned t_held t_heldFirst t_stiffWanted t_stiffFirst (upd t_strong (x1).toNatClampNeg x2))) 1 hx hb hG hP hD hS rfl g4 rfl dX9_strong_38 (fun H locs hP hD hS => ?_)
      refine lv_iload_n hx hb dX9_strong_39 rfl (lv_at hl 0 rfl) ?_
      have hR := Option.some.inj hf
      rw [← hR]
      exact rt_i hx hb hr hlk hsz hP hD hS rfl rfl dX9_strong_40
    · have hf := (if_pos c2).symm.trans hf
      refine lv_bipush (v := -2) hx hb dX9_strong_22 (by decide) ?_
      have hR := Option.some.inj hf
      rw [← hR]
      exact rt_i hx hb hr hlk hsz hP hD hS rfl rfl dX9_strong_24
  · have hf := (if_pos c1).symm.trans hf
    refine lv_iconst (v := -1) hx hb dX9_strong_9 (by decide) ?_
    have hR := Option.some.inj hf
    rw [← hR]
    exact rt_i hx hb hr hlk hsz hP hD hS rfl rfl dX9_strong_10
abbrev woX9_say (cI cZ : ClassId) (a_t a_t_how a_t_strong a_t_pad a_t_plan a_t_box a_t_instead a_t_flakes a_t_tired a_t_image a_t_isKept : Nat) (t_signs : Int32) (t_parts : Int32) (t_swings : Int32) (t_saltFirst : Int32) (t_paceOfAll : Int32) (t_ice : Int32) (t_salt : Int32) (t_brine : Int32) (t_cold : Int32) (t_warm : Int32) (t_frozen : Int32) (t_layer : Int32) (t_air : Int32) (t_churned : Int32) (t_held : Int32) (t_heldFirst : Int32) (t_stiffWanted : Int32) (t_stiffFirst : Int32) (t_pad : Nat → Int32) : va_W := [(a_t, .inr (9, [.ref a_t_how, .ref a_t_strong, .int t_signs, .ref a_t_pad, .int t_parts, .ref a_t_plan, .int t_swings, .ref a_t_box, .ref a_t_instead, .int t_saltFirst, .int t_paceOfAll, .int t_ice, .int t_salt, .int t_brine, .int t_cold, .int t_warm, .int t_frozen, .int t_layer, .int t_air, .int t_churned, .ref a_t_flakes, .ref a_t_tired, .int t_held, .int t_heldFirst, .int t_stiffWanted, .int t_stiffFirst, .ref a_t_image, .ref a_t_isKept])), (a_t_pad, .inl (cI, 40, .inl t_pad))]
abbrev rmX9_say : Room := { frames := 1, cells := 0, slots := 0, locals := 22 }
theorem hd_X9_say : yX9_say.cls ≠ "java/lang/invoke/MethodHandle" ∧ yX9_say.cls ≠ "java/lang/invoke/VarHandle" ∧ (parseMethodDescriptor yX9_say.desc).map (fun d => d.parameters.length) = some 1 := by decide +kernel
set_option maxHeartbeats 4000000 in
set_option maxRecDepth 100000 in
theorem c_X9_say (l : Launch) (dC : Nat → ClassId) (dI : Nat → Nat → Nat) (cI cZ : ClassId) (ts : Nat → Nat) (sz : Nat) (a_t a_t_how a_t_strong a_t_pad a_t_plan a_t_box a_t_instead a_t_flakes a_t_tired a_t_image a_t_isKept : Nat) (t_signs : Int32) (t_parts : Int32) (t_swings : Int32) (t_saltFirst : Int32) (t_paceOfAll : Int32) (t_ice : Int32) (t_salt : Int32) (t_brine : Int32) (t_cold : Int32) (t_warm : Int32) (t_frozen : Int32) (t_layer : Int32) (t_air : Int32) (t_churned : Int32) (t_held : Int32) (t_heldFirst : Int32) (t_stiffWanted : Int32) (t_stiffFirst : Int32) (t_pad : Nat → Int32) (x1 : Int32) (R : Int32 × Int32 × (Nat → Int32)) (hf : f_X9_say t_signs t_pad x1 = some R) : Met l yX9_say wyX9_say rmX9_say (PRE (dC, dI) cI cZ ts [.ref a_t, .int x1] sz (woX9_say cI cZ a_t a_t_how a_t_strong a_t_pad a_t_plan a_t_box a_t_instead a_t_flakes a_t_tired a_t_image a_t_isKept t_signs t_parts t_swings t_saltFirst t_paceOfAll t_ice t_salt t_brine t_cold t_warm t_frozen t_layer t_air t_churned t_held t_heldFirst t_stiffWanted t_stiffFirst t_pad)) (POSTi (dC, dI) R.1 sz (woX9_say cI cZ a_t a_t_how a_t_strong a_t_pad a_t_plan a_t_box a_t_instead a_t_flakes a_t_tired a_t_image a_t_isKept t_signs t_parts t_swings t_saltFirst t_paceOfAll t_ice t_salt t_brine t_cold t_warm t_frozen t_layer t_air t_churned t_held t_heldFirst t_stiffWanted t_stiffFirst t_pad) (woX9_say cI cZ a_t a_t_how a_t_strong a_t_pad a_t_plan a_t_box a_t_instead a_t_flakes a_t_tired a_t_image a_t_isKept R.2.1 t_parts t_swings t_saltFirst t_paceOfAll t_ice t_salt t_brine t_cold t_warm t_frozen t_layer t_air t_churned t_held t_heldFirst t_stiffWanted t_stiffFirst R.2.2)) 0 0 (va_A (woX9_say cI cZ a_t a_t_how a_t_strong a_t_pad a_t_plan a_t_box a_t_instead a_t_flakes a_t_tired a_t_image a_t_isKept t_signs t_parts t_swings t_saltFirst t_paceOfAll t_ice t_salt t_brine t_cold t_warm t_frozen t_layer t_air t_churned t_held t_heldFirst t_stiffWanted t_stiffFirst t_pad) sz) := by
  refine Met.ofW (cc := cX9_say) (maxL := 2) (ret := (some .int)) (by decide) rfl ?_
  intro p e s m args below meth c s₁ B hml hv
  obtain ⟨rfl, hv⟩ := hv
  have hG := hg_of hv
  obtain ⟨hsz, hP, -, hD0, -⟩ := hv
  have hx := B.exec
  have hb := B.bytes
  have hr := B.returns
  have hlk := B.notSynchronized
  have hown : s.vm.findClass RX9 = some m.cls := findClass_of_methodNamed B.named
  have hD := hD0.self (sz := sz)
  have hS : va_S (va_A (woX9_say cI cZ a_t a_t_how a_t_strong a_t_pad a_t_plan a_t_box a_t_instead a_t_flakes a_t_tired a_t_image a_t_isKept t_signs t_parts t_swings t_saltFirst t_paceOfAll t_ice t_salt t_brine t_cold t_warm t_frozen t_layer t_air t_churned t_held t_heldFirst t_stiffWanted t_stiffFirst t_pad) sz) s.heap s.heap [] := va_S.rf
  have hl := lv_entry ([.ref a_t, .int x1]) (n := 2) (Nat.le_of_ble_eq_true rfl)
  rw [lg_entry_eq]
  generalize (lg_sl ([.ref a_t, .int x1]) ++ List.replicate (2 - (lg_sl ([.ref a_t, .int x1])).length) Slot.unset).toArray = ls at hl ⊢
  have hl : lv_has ls 2 [(0, .ref a_t), (1, .int x1)] := hl
  unfold f_X9_say at hf
  refine lv_iload_n hx hb dX9_say_0 rfl (lv_at hl 1 rfl) ?_
  refine lv_bipush (v := 33) hx hb dX9_say_1 (by decide) ?_
  refine lv_bipush (v := 126) hx hb dX9_say_3 (by decide) ?_
  obtain ⟨r5, hc5, hf⟩ := bd1_some hf
  refine cl_Si (r := r5) (As := [.int x1, .int (33 : Int32), .int (126 : Int32)]) (w1 := []) (wN := (woX9_say cI cZ a_t a_t_how a_t_strong a_t_pad a_t_plan a_t_box a_t_instead a_t_flakes a_t_tired a_t_image a_t_isKept t_signs t_parts t_swings t_saltFirst t_paceOfAll t_ice t_salt t_brine t_cold t_warm t_frozen t_layer t_air t_churned t_held t_heldFirst t_stiffWanted t_stiffFirst t_pad)) [] 0 0 (c_X9_in l dC dI cI cZ ts _ x1 (33 : Int32) (126 : Int32) (r5) hc5) ⟨hx, hb, hml, hown, hG.2.1.hts _⟩ ⟨callB_of 3 (hG.2.1.hts _) giX9_in rfl rfl rfl (wd_1_10 hG.2.1) (wd_3_222 hG.2.1) hd_X9_in ⟨Nat.le_of_ble_eq_true rfl, Nat.le_of_ble_eq_true rfl⟩, wd_3_223 hG.2.1⟩ hG hP hD hS rfl rfl rfl rfl rfl hl.1 rfl (Nat.le_of_ble_eq_true rfl) dX9_say_5 ⟨Nat.zero_le _, Nat.zero_le _⟩ (fun H locs hP hD hS => ?_)
  refine lv_if_ne (tgt := 14) hx hb dX9_say_8 (by decide) (fun c1 => ?_) (fun c1 => ?_)
  · have hf := (if_neg c1).symm.trans hf
    refine lv_aload_n hx hb dX9_say_14 rfl (lv_at hl 0 rfl) ?_
    refine mg (ci := 9) 0 2 hx hb hG igX9 hown hP rfl rfl (by decide) (wd_3_134 hG.2.1) rfl rfl dX9_say_15 ?_
    refine lv_bipush (v := 40) hx hb dX9_say_18 (by decide) ?_
    refine lv_icmp_ne (tgt := 26) hx hb dX9_say_20 (by decide) (fun c2 => ?_) (fun c2 => ?_)
    · have hf := (if_neg c2).symm.trans hf
      refine lv_aload_n hx hb dX9_say_26 rfl (lv_at hl 0 rfl) ?_
      refine mg (ci := 9) 0 3 hx hb hG igX9 hown hP rfl rfl (by decide) (wd_3_135 hG.2.1) rfl rfl dX9_say_27 ?_
      refine lv_aload_n hx hb dX9_say_30 rfl (lv_at hl 0 rfl) ?_
      refine mg (ci := 9) 0 2 hx hb hG igX9 hown hP rfl rfl (by decide) (wd_3_134 hG.2.1) rfl rfl dX9_say_31 ?_
      refine lv_iload_n hx hb dX9_say_34 rfl (lv_at hl 1 rfl) ?_
      obtain ⟨g3, hf⟩ := gd_some hf
      refine mas (wN := (woX9_say cI cZ a_t a_t_how a_t_strong a_t_pad a_t_plan a_t_box a_t_instead a_t_flakes a_t_tired a_t_image a_t_isKept t_signs t_parts t_swings t_saltFirst t_paceOfAll t_ice t_salt t_brine t_cold t_warm t_frozen t_layer t_air t_churned t_held t_heldFirst t_stiffWanted t_stiffFirst (upd t_pad (t_signs).toNatClampNeg x1))) 1 hx hb hG hP hD hS rfl g3 rfl dX9_say_35 (fun H locs hP hD hS => ?_)
      refine lv_aload_n hx hb dX9_say_36 rfl (lv_at hl 0 rfl) ?_
      refine lv_dup hx hb dX9_say_37 rfl ?_
      refine mg (ci := 9) 0 2 hx hb hG igX9 hown hP rfl rfl (by decide) (wd_3_134 hG.2.1) rfl rfl dX9_say_38 ?_
      refine lv_iconst (v := 1) hx hb dX9_say_41 (by decide) ?_
      refine lv_iadd hx hb dX9_say_42 ?_
      refine mp (ci := 9) (wN := (woX9_say cI cZ a_t a_t_how a_t_strong a_t_pad a_t_plan a_t_box a_t_instead a_t_flakes a_t_tired a_t_image a_t_isKept (t_signs + (1 : Int32)) t_parts t_swings t_saltFirst t_paceOfAll t_ice t_salt t_brine t_cold t_warm t_frozen t_layer t_air t_churned t_held t_heldFirst t_stiffWanted t_stiffFirst (upd t_pad (t_signs).toNatClampNeg x1))) 0 2 hx hb hG igX9 tyX9 tyX9_ok nmX9 hown hP hD hS rfl rfl (by decide) (wd_3_134 hG.2.1) rfl rfl rfl rfl rfl (Nat.le_of_ble_eq_true rfl) rfl dX9_say_43 (fun H locs hP hD hS => ?_)
      refine lv_aload_n hx hb dX9_say_46 rfl (lv_at hl 0 rfl) ?_
      refine mg (ci := 9) 0 2 hx hb hG igX9 hown hP rfl rfl (by decide) (wd_3_134 hG.2.1) rfl rfl dX9_say_47 ?_
      have hR := Option.some.inj hf
      rw [← hR]
      exact rt_i hx hb hr hlk hsz hP hD hS rfl rfl dX9_say_50
    · have hf := (if_pos c2).symm.trans hf
      refine lv_bipush (v := -4) hx hb dX9_say_23 (by decide) ?_
      have hR := Option.some.inj hf
      rw [← hR]
      exact rt_i hx hb hr hlk hsz hP hD hS rfl rfl dX9_say_25
  · have hf := (if_pos c1).symm.trans hf
    refine lv_bipush (v := -2) hx hb dX9_say_11 (by decide) ?_
    have hR := Option.some.inj hf
    rw [← hR]
    exact rt_i hx hb hr hlk hsz hP hD hS rfl rfl dX9_say_13
abbrev woX9_wipe (cI cZ : ClassId) (a_t a_t_how a_t_strong a_t_pad a_t_plan a_t_box a_t_instead a_t_flakes a_t_tired a_t_image a_t_isKept : Nat) (t_signs : Int32) (t_parts : Int32) (t_swings : Int32) (t_saltFirst : Int32) (t_paceOfAll : Int32) (t_ice : Int32) (t_salt : Int32) (t_brine : Int32) (t_cold : Int32) (t_warm : Int32) (t_frozen : Int32) (t_layer : Int32) (t_air : Int32) (t_churned : Int32) (t_held : Int32) (t_heldFirst : Int32) (t_stiffWanted : Int32) (t_stiffFirst : Int32) : va_W := [(a_t, .inr (9, [.ref a_t_how, .ref a_t_strong, .int t_signs, .ref a_t_pad, .int t_parts, .ref a_t_plan, .int t_swings, .ref a_t_box, .ref a_t_instead, .int t_saltFirst, .int t_paceOfAll, .int t_ice, .int t_salt, .int t_brine, .int t_cold, .int t_warm, .int t_frozen, .int t_layer, .int t_air, .int t_churned, .ref a_t_flakes, .ref a_t_tired, .int t_held, .int t_heldFirst, .int t_stiffWanted, .int t_stiffFirst, .ref a_t_image, .ref a_t_isKept]))]
abbrev rmX9_wipe : Room := { frames := 0, cells := 0, slots := 0, locals := 0 }
theorem hd_X9_wipe : yX9_wipe.cls ≠ "java/lang/invoke/MethodHandle" ∧ yX9_wipe.cls ≠ "java/lang/invoke/VarHandle" ∧ (parseMethodDescriptor yX9_wipe.desc).map (fun d => d.parameters.length) = some 0 := by decide +kernel
set_option maxHeartbeats 4000000 in
set_option maxRecDepth 100000 in
theorem c_X9_wipe (l : Launch) (dC : Nat → ClassId) (dI : Nat → Nat → Nat) (cI cZ : ClassId) (ts : Nat → Nat) (sz : Nat) (a_t a_t_how a_t_strong a_t_pad a_t_plan a_t_box a_t_instead a_t_flakes a_t_tired a_t_image a_t_isKept : Nat) (t_signs : Int32) (t_parts : Int32) (t_swings : Int32) (t_saltFirst : Int32) (t_paceOfAll : Int32) (t_ice : Int32) (t_salt : Int32) (t_brine : Int32) (t_cold : Int32) (t_warm : Int32) (t_frozen : Int32) (t_layer : Int32) (t_air : Int32) (t_churned : Int32) (t_held : Int32) (t_heldFirst : Int32) (t_stiffWanted : Int32) (t_stiffFirst : Int32) (R : Int32 × Int32) (hf : f_X9_wipe t_signs = some R) : Met l yX9_wipe wyX9_wipe rmX9_wipe (PRE (dC, dI) cI cZ ts [.ref a_t] sz (woX9_wipe cI cZ a_t a_t_how a_t_strong a_t_pad a_t_plan a_t_box a_t_instead a_t_flakes a_t_tired a_t_image a_t_isKept t_signs t_parts t_swings t_saltFirst t_paceOfAll t_ice t_salt t_brine t_cold t_warm t_frozen t_layer t_air t_churned t_held t_heldFirst t_stiffWanted t_stiffFirst)) (POSTi (dC, dI) R.1 sz (woX9_wipe cI cZ a_t a_t_how a_t_strong a_t_pad a_t_plan a_t_box a_t_instead a_t_flakes a_t_tired a_t_image a_t_isKept t_signs t_parts t_swings t_saltFirst t_paceOfAll t_ice t_salt t_brine t_cold t_warm t_frozen t_layer t_air t_churned t_held t_heldFirst t_stiffWanted t_stiffFirst) (woX9_wipe cI cZ a_t a_t_how a_t_strong a_t_pad a_t_plan a_t_box a_t_instead a_t_flakes a_t_tired a_t_image a_t_isKept R.2 t_parts t_swings t_saltFirst t_paceOfAll t_ice t_salt t_brine t_cold t_warm t_frozen t_layer t_air t_churned t_held t_heldFirst t_stiffWanted t_stiffFirst)) 0 0 (va_A (woX9_wipe cI cZ a_t a_t_how a_t_strong a_t_pad a_t_plan a_t_box a_t_instead a_t_flakes a_t_tired a_t_image a_t_isKept t_signs t_parts t_swings t_saltFirst t_paceOfAll t_ice t_salt t_brine t_cold t_warm t_frozen t_layer t_air t_churned t_held t_heldFirst t_stiffWanted t_stiffFirst) sz) := by
  refine Met.ofW (cc := cX9_wipe) (maxL := 2) (ret := (some .int)) (by decide) rfl ?_
  intro p e s m args below meth c s₁ B hml hv
  obtain ⟨rfl, hv⟩ := hv
  have hG := hg_of hv
  obtain ⟨hsz, hP, -, hD0, -⟩ := hv
  have hx := B.exec
  have hb := B.bytes
  have hr := B.returns
  have hlk := B.notSynchronized
  have hown : s.vm.findClass RX9 = some m.cls := findClass_of_methodNamed B.named
  have hD := hD0.self (sz := sz)
  have hS : va_S (va_A (woX9_wipe cI cZ a_t a_t_how a_t_strong a_t_pad a_t_plan a_t_box a_t_instead a_t_flakes a_t_tired a_t_image a_t_isKept t_signs t_parts t_swings t_saltFirst t_paceOfAll t_ice t_salt t_brine t_cold t_warm t_frozen t_layer t_air t_churned t_held t_heldFirst t_stiffWanted t_stiffFirst) sz) s.heap s.heap [] := va_S.rf
  have hl := lv_entry ([.ref a_t]) (n := 2) (Nat.le_of_ble_eq_true rfl)
  rw [lg_entry_eq]
  generalize (lg_sl ([.ref a_t]) ++ List.replicate (2 - (lg_sl ([.ref a_t])).length) Slot.unset).toArray = ls at hl ⊢
  have hl : lv_has ls 2 [(0, .ref a_t)] := hl
  unfold f_X9_wipe at hf
  refine lv_aload_n hx hb dX9_wipe_0 rfl (lv_at hl 0 rfl) ?_
  refine mg (ci := 9) 0 2 hx hb hG igX9 hown hP rfl rfl (by decide) (wd_3_134 hG.2.1) rfl rfl dX9_wipe_1 ?_
  refine lv_istore_n (lv' := [(1, .int t_signs), (0, .ref a_t)]) hx hb dX9_wipe_4 rfl hl (by decide) rfl (fun ls hl => ?_)
  refine lv_aload_n hx hb dX9_wipe_5 rfl (lv_at hl 1 rfl) ?_
  refine lv_iconst (v := 0) hx hb dX9_wipe_6 (by decide) ?_
  refine mp (ci := 9) (wN := (woX9_wipe cI cZ a_t a_t_how a_t_strong a_t_pad a_t_plan a_t_box a_t_instead a_t_flakes a_t_tired a_t_image a_t_isKept (0 : Int32) t_parts t_swings t_saltFirst t_paceOfAll t_ice t_salt t_brine t_cold t_warm t_frozen t_layer t_air t_churned t_held t_heldFirst t_stiffWanted t_stiffFirst)) 0 2 hx hb hG igX9 tyX9 tyX9_ok nmX9 hown hP hD hS rfl rfl (by decide) (wd_3_134 hG.2.1) rfl rfl rfl rfl rfl (Nat.le_of_ble_eq_true rfl) rfl dX9_wipe_7 (fun H locs hP hD hS => ?_)
  refine lv_iload_n hx hb dX9_wipe_10 rfl (lv_at hl 0 rfl) ?_
  have hR := Option.some.inj hf
  rw [← hR]
  exact rt_i hx hb hr hlk hsz hP hD hS rfl rfl dX9_wipe_11
abbrev rmX9_isDigit : Room := { frames := 1, cells := 0, slots := 0, locals := 22 }
theorem hd_X9_isDigit : yX9_isDigit.cls ≠ "java/lang/invoke/MethodHandle" ∧ yX9_isDigit.cls ≠ "java/lang/invoke/VarHandle" ∧ (parseMethodDescriptor yX9_isDigit.desc).map (fun d => d.parameters.length) = some 1 := by decide +kernel
set_option maxHeartbeats 4000000 in
set_option maxRecDepth 100000 in
theorem c_X9_isDigit (l : Launch) (dC : Nat → ClassId) (dI : Nat → Nat → Nat) (cI cZ : ClassId) (ts : Nat → Nat) (sz : Nat) (x0 : Int32) (R : Int32) (hf : f_X9_isDigit x0 = some R) : Met l yX9_isDigit wyX9_isDigit rmX9_isDigit (PRE (dC, dI) cI cZ ts [.int x0] sz []) (POSTi (dC, dI) R sz [] []) 0 0 (va_A [] sz) := by
  refine Met.ofW (cc := cX9_isDigit) (maxL := 1) (ret := (some .boolean)) (by decide) rfl ?_
  intro p e s m args below meth c s₁ B hml hv
  obtain ⟨rfl, hv⟩ := hv
  have hG := hg_of hv
  obtain ⟨hsz, hP, -, hD0, -⟩ := hv
  have hx := B.exec
  have hb := B.bytes
  have hr := B.returns
  have hlk := B.notSynchronized
  have hown : s.vm.findClass RX9 = some m.cls := findClass_of_methodNamed B.named
  have hD := hD0.self (sz := sz)
  have hS : va_S (va_A [] sz) s.heap s.heap [] := va_S.rf
  have hl := lv_entry ([.int x0]) (n := 1) (Nat.le_of_ble_eq_true rfl)
  rw [lg_entry_eq]
  generalize (lg_sl ([.int x0]) ++ List.replicate (1 - (lg_sl ([.int x0])).length) Slot.unset).toArray = ls at hl ⊢
  have hl : lv_has ls 1 [(0, .int x0)] := hl
  unfold f_X9_isDigit at hf
  refine lv_iload_n hx hb dX9_isDigit_0 rfl (lv_at hl 0 rfl) ?_
  refine lv_bipush (v := 48) hx hb dX9_isDigit_1 (by decide) ?_
  refine lv_bipush (v := 57) hx hb dX9_isDigit_3 (by decide) ?_
  obtain ⟨r5, hc5, hf⟩ := bd1_some hf
  refine cl_Si (r := r5) (As := [.int x0, .int (48 : Int32), .int (57 : Int32)]) (w1 := []) (wN := []) [] 0 0 (c_X9_in l dC dI cI cZ ts _ x0 (48 : Int32) (57 : Int32) (r5) hc5) ⟨hx, hb, hml, hown, hG.2.1.hts _⟩ ⟨callB_of 3 (hG.2.1.hts _) giX9_in rfl rfl rfl (wd_1_10 hG.2.1) (wd_3_222 hG.2.1) hd_X9_in ⟨Nat.le_of_ble_eq_true rfl, Nat.le_of_ble_eq_true rfl⟩, wd_3_223 hG.2.1⟩ hG hP hD hS rfl rfl rfl rfl rfl hl.1 rfl (Nat.le_of_ble_eq_true rfl) dX9_isDigit_5 ⟨Nat.zero_le _, Nat.zero_le _⟩ (fun H locs hP hD hS => ?_)
  obtain ⟨g1, hf⟩ := gd_some hf
  have hR := Option.some.inj hf
  rw [← hR]
  exact rt_z hx hb hr hlk g1 hsz hP hD hS rfl rfl dX9_isDigit_8
abbrev rmX9_isWho : Room := { frames := 1, cells := 0, slots := 0, locals := 22 }
theorem hd_X9_isWho : yX9_isWho.cls ≠ "java/lang/invoke/MethodHandle" ∧ yX9_isWho.cls ≠ "java/lang/invoke/VarHandle" ∧ (parseMethodDescriptor yX9_isWho.desc).map (fun d => d.parameters.length) = some 1 := by decide +kernel
set_option maxHeartbeats 4000000 in
set_option maxRecDepth 100000 in
theorem c_X9_isWho (l : Launch) (dC : Nat → ClassId) (dI : Nat → Nat → Nat) (cI cZ : ClassId) (ts : Nat → Nat) (sz : Nat) (x0 : Int32) (R : Int32) (hf : f_X9_isWho x0 = some R) : Met l yX9_isWho wyX9_isWho rmX9_isWho (PRE (dC, dI) cI cZ ts [.int x0] sz []) (POSTi (dC, dI) R sz [] []) 0 0 (va_A [] sz) := by
  refine Met.ofW (cc := cX9_isWho) (maxL := 1) (ret := (some .boolean)) (by decide) rfl ?_
  intro p e s m args below meth c s₁ B hml hv
  obtain ⟨rfl, hv⟩ := hv
  have hG := hg_of hv
  obtain ⟨hsz, hP, -, hD0, -⟩ := hv
  have hx := B.exec
  have hb := B.bytes
  have hr := B.returns
  have hlk := B.notSynchronized
  have hown : s.vm.findClass RX9 = some m.cls := findClass_of_methodNamed B.named
  have hD := hD0.self (sz := sz)
  have hS : va_S (va_A [] sz) s.heap s.heap [] := va_S.rf
  have hl := lv_entry ([.int x0]) (n := 1) (Nat.le_of_ble_eq_true rfl)
  rw [lg_entry_eq]
  generalize (lg_sl ([.int x0]) ++ List.replicate (1 - (lg_sl ([.int x0])).length) Slot.unset).toArray = ls at hl ⊢
  have hl : lv_has ls 1 [(0, .int x0)] := hl
  unfold f_X9_isWho at hf
  refine lv_iload_n hx hb dX9_isWho_0 rfl (lv_at hl 0 rfl) ?_
  refine lv_bipush (v := 97) hx hb dX9_isWho_1 (by decide) ?_
  refine lv_bipush (v := 100) hx hb dX9_isWho_3 (by decide) ?_
  obtain ⟨r5, hc5, hf⟩ := bd1_some hf
  refine cl_Si (r := r5) (As := [.int x0, .int (97 : Int32), .int (100 : Int32)]) (w1 := []) (wN := []) [] 0 0 (c_X9_in l dC dI cI cZ ts _ x0 (97 : Int32) (100 : Int32) (r5) hc5) ⟨hx, hb, hml, hown, hG.2.1.hts _⟩ ⟨callB_of 3 (hG.2.1.hts _) giX9_in rfl rfl rfl (wd_1_10 hG.2.1) (wd_3_222 hG.2.1) hd_X9_in ⟨Nat.le_of_ble_eq_true rfl, Nat.le_of_ble_eq_true rfl⟩, wd_3_223 hG.2.1⟩ hG hP hD hS rfl rfl rfl rfl rfl hl.1 rfl (Nat.le_of_ble_eq_true rfl) dX9_isWho_5 ⟨Nat.zero_le _, Nat.zero_le _⟩ (fun H locs hP hD hS => ?_)
  refine lv_if_ne (tgt := 17) hx hb dX9_isWho_8 (by decide) (fun c1 => ?_) (fun c1 => ?_)
  · have hf := (if_neg c1).symm.trans hf
    refine lv_iconst (v := 1) hx hb dX9_isWho_17 (by decide) ?_
    refine lv_goto (tgt := 22) hx hb dX9_isWho_18 (by decide) ?_
    have hR := Option.some.inj hf
    rw [← hR]
    exact rt_z hx hb hr hlk rfl hsz hP hD hS rfl rfl dX9_isWho_22
  · have hf := (if_pos c1).symm.trans hf
    refine lv_iload_n hx hb dX9_isWho_11 rfl (lv_at hl 0 rfl) ?_
    refine lv_bipush (v := 45) hx hb dX9_isWho_12 (by decide) ?_
    refine lv_icmp_ne (tgt := 21) hx hb dX9_isWho_14 (by decide) (fun c2 => ?_) (fun c2 => ?_)
    · have hf := (if_neg c2).symm.trans hf
      refine lv_iconst (v := 0) hx hb dX9_isWho_21 (by decide) ?_
      have hR := Option.some.inj hf
      rw [← hR]
      exact rt_z hx hb hr hlk rfl hsz hP hD hS rfl rfl dX9_isWho_22
    · have hf := (if_pos c2).symm.trans hf
      refine lv_iconst (v := 1) hx hb dX9_isWho_17 (by decide) ?_
      refine lv_goto (tgt := 22) hx hb dX9_isWho_18 (by decide) ?_
      have hR := Option.some.inj hf
      rw [← hR]
      exact rt_z hx hb hr hlk rfl hsz hP hD hS rfl rfl dX9_isWho_22
abbrev woX9_planFault (cI cZ : ClassId) (a_t a_t_how a_t_strong a_t_pad a_t_plan a_t_box a_t_instead a_t_flakes a_t_tired a_t_image a_t_isKept : Nat) (t_signs : Int32) (t_parts : Int32) (t_swings : Int32) (t_saltFirst : Int32) (t_paceOfAll : Int32) (t_ice : Int32) (t_salt : Int32) (t_brine : Int32) (t_cold : Int32) (t_warm : Int32) (t_frozen : Int32) (t_layer : Int32) (t_air : Int32) (t_churned : Int32) (t_held : Int32) (t_heldFirst : Int32) (t_stiffWanted : Int32) (t_stiffFirst : Int32) (t_pad : Nat → Int32) : va_W := [(a_t, .inr (9, [.ref a_t_how, .ref a_t_strong, .int t_signs, .ref a_t_pad, .int t_parts, .ref a_t_plan, .int t_swings, .ref a_t_box, .ref a_t_instead, .int t_saltFirst, .int t_paceOfAll, .int t_ice, .int t_salt, .int t_brine, .int t_cold, .int t_warm, .int t_frozen, .int t_layer, .int t_air, .int t_churned, .ref a_t_flakes, .ref a_t_tired, .int t_held, .int t_heldFirst, .int t_stiffWanted, .int t_stiffFirst, .ref a_t_image, .ref a_t_isKept])), (a_t_pad, .inl (cI, 40, .inl t_pad))]
abbrev rmX9_planFault : Room := { frames := 2, cells := 0, slots := 0, locals := 42 }
theorem hd_X9_planFault : yX9_planFault.cls ≠ "java/lang/invoke/MethodHandle" ∧ yX9_planFault.cls ≠ "java/lang/invoke/VarHandle" ∧ (parseMethodDescriptor yX9_planFault.desc).map (fun d => d.parameters.length) = some 0 := by decide +kernel
set_option maxHeartbeats 4000000 in
set_option maxRecDepth 100000 in
theorem c_X9_planFault (l : Launch) (dC : Nat → ClassId) (dI : Nat → Nat → Nat) (cI cZ : ClassId) (ts : Nat → Nat) (sz : Nat) (a_t a_t_how a_t_strong a_t_pad a_t_plan a_t_box a_t_instead a_t_flakes a_t_tired a_t_image a_t_isKept : Nat) (t_signs : Int32) (t_parts : Int32) (t_swings : Int32) (t_saltFirst : Int32) (t_paceOfAll : Int32) (t_ice : Int32) (t_salt : Int32) (t_brine : Int32) (t_cold : Int32) (t_warm : Int32) (t_frozen : Int32) (t_layer : Int32) (t_air : Int32) (t_churned : Int32) (t_held : Int32) (t_heldFirst : Int32) (t_stiffWanted : Int32) (t_stiffFirst : Int32) (t_pad : Nat → Int32) (R : Int32) (hf : f_X9_planFault t_signs t_pad = some R) : Met l yX9_planFault wyX9_planFault rmX9_planFault (PRE (dC, dI) cI cZ ts [.ref a_t] sz (woX9_planFault cI cZ a_t a_t_how a_t_strong a_t_pad a_t_plan a_t_box a_t_instead a_t_flakes a_t_tired a_t_image a_t_isKept t_signs t_parts t_swings t_saltFirst t_paceOfAll t_ice t_salt t_brine t_cold t_warm t_frozen t_layer t_air t_churned t_held t_heldFirst t_stiffWanted t_stiffFirst t_pad)) (POSTi (dC, dI) R sz (woX9_planFault cI cZ a_t a_t_how a_t_strong a_t_pad a_t_plan a_t_box a_t_instead a_t_flakes a_t_tired a_t_image a_t_isKept t_signs t_parts t_swings t_saltFirst t_paceOfAll t_ice t_salt t_brine t_cold t_warm t_frozen t_layer t_air t_churned t_held t_heldFirst t_stiffWanted t_stiffFirst t_pad) (woX9_planFault cI cZ a_t a_t_how a_t_strong a_t_pad a_t_plan a_t_box a_t_instead a_t_flakes a_t_tired a_t_image a_t_isKept t_signs t_parts t_swings t_saltFirst t_paceOfAll t_ice t_salt t_brine t_cold t_warm t_frozen t_layer t_air t_churned t_held t_heldFirst t_stiffWanted t_stiffFirst t_pad)) 0 0 (va_A (woX9_planFault cI cZ a_t a_t_how a_t_strong a_t_pad a_t_plan a_t_box a_t_instead a_t_flakes a_t_tired a_t_image a_t_isKept t_signs t_parts t_swings t_saltFirst t_paceOfAll t_ice t_salt t_brine t_cold t_warm t_frozen t_layer t_air t_churned t_held t_heldFirst t_stiffWanted t_stiffFirst t_pad) sz) := by
  refine Met.ofW (cc := cX9_planFault) (maxL := 4) (ret := (some .int)) (by decide) rfl ?_
  intro p e s m args below meth c s₁ B hml hv
  obtain ⟨rfl, hv⟩ := hv
  have hG := hg_of hv
  obtain ⟨hsz, hP, -, hD0, -⟩ := hv
  have hx := B.exec
  have hb := B.bytes
  have hr := B.returns
  have hlk := B.notSynchronized
  have hown : s.vm.findClass RX9 = some m.cls := findClass_of_methodNamed B.named
  have hD := hD0.self (sz := sz)
  have hS : va_S (va_A (woX9_planFault cI cZ a_t a_t_how a_t_strong a_t_pad a_t_plan a_t_box a_t_instead a_t_flakes a_t_tired a_t_image a_t_isKept t_signs t_parts t_swings t_saltFirst t_paceOfAll t_ice t_salt t_brine t_cold t_warm t_frozen t_layer t_air t_churned t_held t_heldFirst t_stiffWanted t_stiffFirst t_pad) sz) s.heap s.heap [] := va_S.rf
  have L83 : ∀ (rc4 : Int32 → Int32 → Option (Int32)), (∀ (y1 : Int32) (y2 : Int32) (H : Heap) (locs : List Loc) (ls : Array Slot), rc4 y1 y2 = some R → va_P (dC, dI) vwCl (woX9_planFault cI cZ a_t a_t_how a_t_strong a_t_pad a_t_plan a_t_box a_t_instead a_t_flakes a_t_tired a_t_image a_t_isKept t_signs t_parts t_swings t_saltFirst t_paceOfAll t_ice t_salt t_brine t_cold t_warm t_frozen t_layer t_air t_churned t_held t_heldFirst t_stiffWanted t_stiffFirst t_pad) H → va_D (va_A (woX9_planFault cI cZ a_t a_t_how a_t_strong a_t_pad a_t_plan a_t_box a_t_instead a_t_flakes a_t_tired a_t_image a_t_isKept t_signs t_parts t_swings t_saltFirst t_paceOfAll t_ice t_salt t_brine t_cold t_warm t_frozen t_layer t_air t_churned t_held t_heldFirst t_stiffWanted t_stiffFirst t_pad) sz) (woX9_planFault cI cZ a_t a_t_how a_t_strong a_t_pad a_t_plan a_t_box a_t_instead a_t_flakes a_t_tired a_t_image a_t_isKept t_signs t_parts t_swings t_saltFirst t_paceOfAll t_ice t_salt t_brine t_cold t_warm t_frozen t_layer t_air t_churned t_held t_heldFirst t_stiffWanted t_stiffFirst t_pad) → va_S (va_A (woX9_planFault cI cZ a_t a_t_how a_t_strong a_t_pad a_t_plan a_t_box a_t_instead a_t_flakes a_t_tired a_t_image a_t_isKept t_signs t_parts t_swings t_saltFirst t_paceOfAll t_ice t_salt t_brine t_cold t_warm t_frozen t_layer t_air t_churned t_held t_heldFirst t_stiffWanted t_stiffFirst t_pad) sz) s.heap H locs → lv_has ls 4 [(0, .ref a_t), (1, .int y1), (2, .int y2)] → W p l e (headSpec wyX9_planFault rmX9_planFault).room s m ([Value.ref a_t] : List Value).toArray below meth c H locs 0 0 (MQ below (POSTi (dC, dI) R sz (woX9_planFault cI cZ a_t a_t_how a_t_strong a_t_pad a_t_plan a_t_box a_t_instead a_t_flakes a_t_tired a_t_image a_t_isKept t_signs t_parts t_swings t_saltFirst t_paceOfAll t_ice t_salt t_brine t_cold t_warm t_frozen t_layer t_air t_churned t_held t_heldFirst t_stiffWanted t_stiffFirst t_pad) (woX9_planFault cI cZ a_t a_t_how a_t_strong a_t_pad a_t_plan a_t_box a_t_instead a_t_flakes a_t_tired a_t_image a_t_isKept t_signs t_parts t_swings t_saltFirst t_paceOfAll t_ice t_salt t_brine t_cold t_warm t_frozen t_layer t_air t_churned t_held t_heldFirst t_stiffWanted t_stiffFirst t_pad)) ([Value.ref a_t] : List Value).toArray s 0 0 (va_A (woX9_planFault cI cZ a_t a_t_how a_t_strong a_t_pad a_t_plan a_t_box a_t_instead a_t_flakes a_t_tired a_t_image a_t_isKept t_signs t_parts t_swings t_saltFirst t_paceOfAll t_ice t_salt t_brine t_cold t_warm t_frozen t_layer t_air t_churned t_held t_heldFirst t_stiffWanted t_stiffFirst t_pad) sz)) (F0 m 4 ls [])) → ∀ (y1 : Int32) (y2 : Int32) (y3 : Int32) (H : Heap) (locs : List Loc) (ls : Array Slot), f_X9_planFault_L83 rc4 t_signs t_pad y1 y2 y3 = some R → va_P (dC, dI) vwCl (woX9_planFault cI cZ a_t a_t_how a_t_strong a_t_pad a_t_plan a_t_box a_t_instead a_t_flakes a_t_tired a_t_image a_t_isKept t_signs t_parts t_swings t_saltFirst t_paceOfAll t_ice t_salt t_brine t_cold t_warm t_frozen t_layer t_air t_churned t_held t_heldFirst t_stiffWanted t_stiffFirst t_pad) H → va_D (va_A (woX9_planFault cI cZ a_t a_t_how a_t_strong a_t_pad a_t_plan a_t_box a_t_instead a_t_flakes a_t_tired a_t_image a_t_isKept t_signs t_parts t_swings t_saltFirst t_paceOfAll t_ice t_salt t_brine t_cold t_warm t_frozen t_layer t_air t_churned t_held t_heldFirst t_stiffWanted t_stiffFirst t_pad) sz) (woX9_planFault cI cZ a_t a_t_how a_t_strong a_t_pad a_t_plan a_t_box a_t_instead a_t_flakes a_t_tired a_t_image a_t_isKept t_signs t_parts t_swings t_saltFirst t_paceOfAll t_ice t_salt t_brine t_cold t_warm t_frozen t_layer t_air t_churned t_held t_heldFirst t_stiffWanted t_stiffFirst t_pad) → va_S (va_A (woX9_planFault cI cZ a_t a_t_how a_t_strong a_t_pad a_t_plan a_t_box a_t_instead a_t_flakes a_t_tired a_t_image a_t_isKept t_signs t_parts t_swings t_saltFirst t_paceOfAll t_ice t_salt t_brine t_cold t_warm t_frozen t_layer t_air t_churned t_held t_heldFirst t_stiffWanted t_stiffFirst t_pad) sz) s.heap H locs → lv_has ls 4 [(0, .ref a_t), (1, .int y1), (2, .int y2), (3, .int y3)] → W p l e (headSpec wyX9_planFault rmX9_planFault).room s m ([Value.ref a_t] : List Value).toArray below meth c H locs 0 0 (MQ below (POSTi (dC, dI) R sz (woX9_planFault cI cZ a_t a_t_how a_t_strong a_t_pad a_t_plan a_t_box a_t_instead a_t_flakes a_t_tired a_t_image a_t_isKept t_signs t_parts t_swings t_saltFirst t_paceOfAll t_ice t_salt t_brine t_cold t_warm t_frozen t_layer t_air t_churned t_held t_heldFirst t_stiffWanted t_stiffFirst t_pad) (woX9_planFault cI cZ a_t a_t_how a_t_strong a_t_pad a_t_plan a_t_box a_t_instead a_t_flakes a_t_tired a_t_image a_t_isKept t_signs t_parts t_swings t_saltFirst t_paceOfAll t_ice t_salt t_brine t_cold t_warm t_frozen t_layer t_air t_churned t_held t_heldFirst t_stiffWanted t_stiffFirst t_pad)) ([Value.ref a_t] : List Value).toArray s 0 0 (va_A (woX9_planFault cI cZ a_t a_t_how a_t_strong a_t_pad a_t_plan a_t_box a_t_instead a_t_flakes a_t_tired a_t_image a_t_isKept t_signs t_parts t_swings t_saltFirst t_paceOfAll t_ice t_salt t_brine t_cold t_warm t_frozen t_layer t_air t_churned t_held t_heldFirst t_stiffWanted t_stiffFirst t_pad) sz)) (F0 m 83 ls []) := by
    intro rc4 hrc4 y1 y2 y3 H locs ls hf hP hD hS hl
    unfold f_X9_planFault_L83 at hf
    refine lv_iload_n hx hb dX9_planFault_83 rfl (lv_at hl 1 rfl) ?_
    refine lv_iconst (v := 3) hx hb dX9_planFault_84 (by decide) ?_
    refine lv_icmp_ne (tgt := 100) hx hb dX9_planFault_85 (by decide) (fun c1 => ?_) (fun c1 => ?_)
    · have hf := (if_neg c1).symm.trans hf
      refine lv_iload_n hx hb dX9_planFault_100 rfl (lv_at hl 2 rfl) ?_
      have hR := Option.some.inj hf
      rw [← hR]
      exact rt_i hx hb hr hlk hsz hP hD hS rfl rfl dX9_planFault_101
    · have hf := (if_pos c1).symm.trans hf
      refine lv_iload_n hx hb dX9_planFault_88 rfl (lv_at hl 3 rfl) ?_
      obtain ⟨r89, hc89, hf⟩ := bd1_some hf
      refine cl_Si (r := r89) (As := [.int y3]) (w1 := []) (wN := (woX9_planFault cI cZ a_t a_t_how a_t_strong a_t_pad a_t_plan a_t_box a_t_instead a_t_flakes a_t_tired a_t_image a_t_isKept t_signs t_parts t_swings t_saltFirst t_paceOfAll t_ice t_salt t_brine t_cold t_warm t_frozen t_layer t_air t_churned t_held t_heldFirst t_stiffWanted t_stiffFirst t_pad)) [] 0 0 (c_X9_isDigit l dC dI cI cZ ts _ y3 (r89) hc89) ⟨hx, hb, hml, hown, hG.2.1.hts _⟩ ⟨callB_of 1 (hG.2.1.hts _) giX9_isDigit rfl rfl rfl (wd_1_10 hG.2.1) (wd_4_14 hG.2.1) hd_X9_isDigit ⟨Nat.le_of_ble_eq_true rfl, Nat.le_of_ble_eq_true rfl⟩, wd_4_15 hG.2.1⟩ hG hP hD hS rfl rfl rfl rfl rfl hl.1 rfl (Nat.le_of_ble_eq_true rfl) dX9_planFault_89 ⟨Nat.zero_le _, Nat.zero_le _⟩ (fun H locs hP hD hS => ?_)
      refine lv_if_eq (tgt := 100) hx hb dX9_planFault_92 (by decide) (fun c2 => ?_) (fun c2 => ?_)
      · have hf := (if_pos c2).symm.trans hf
        refine lv_iload_n hx hb dX9_planFault_100 rfl (lv_at hl 2 rfl) ?_
        have hR := Option.some.inj hf
        rw [← hR]
        exact rt_i hx hb hr hlk hsz hP hD hS rfl rfl dX9_planFault_101
      · have hf := (if_neg c2).symm.trans hf
        refine lv_iconst (v := 0) hx hb dX9_planFault_95 (by decide) ?_
        refine lv_istore_n (lv' := [(1, .int (0 : Int32)), (0, .ref a_t), (2, .int y2), (3, .int y3)]) hx hb dX9_planFault_96 rfl hl (by decide) rfl (fun ls hl => ?_)
        refine lv_goto (tgt := 102) hx hb dX9_planFault_97 (by decide) ?_
        refine lv_iinc (v := (y2 + (1 : Int32))) (lv' := [(2, .int (y2 + (1 : Int32))), (1, .int (0 : Int32)), (0, .ref a_t), (3, .int y3)]) hx hb dX9_planFault_102 hl (k := 2) rfl rfl (by decide) rfl (fun ls hl => ?_)
        refine lv_goto (tgt := 4) hx hb dX9_planFault_105 (by decide) ?_
        exact hrc4 (0 : Int32) (y2 + (1 : Int32)) _ _ _ hf hP hD hS (lv_sub hl [2, 1, 0] rfl)
  have L67 : ∀ (rc4 : Int32 → Int32 → Option (Int32)), (∀ (y1 : Int32) (y2 : Int32) (H : Heap) (locs : List Loc) (ls : Array Slot), rc4 y1 y2 = some R → va_P (dC, dI) vwCl (woX9_planFault cI cZ a_t a_t_how a_t_strong a_t_pad a_t_plan a_t_box a_t_instead a_t_flakes a_t_tired a_t_image a_t_isKept t_signs t_parts t_swings t_saltFirst t_paceOfAll t_ice t_salt t_brine t_cold t_warm t_frozen t_layer t_air t_churned t_held t_heldFirst t_stiffWanted t_stiffFirst t_pad) H → va_D (va_A (woX9_planFault cI cZ a_t a_t_how a_t_strong a_t_pad a_t_plan a_t_box a_t_instead a_t_flakes a_t_tired a_t_image a_t_isKept t_signs t_parts t_swings t_saltFirst t_paceOfAll t_ice t_salt t_brine t_cold t_warm t_frozen t_layer t_air t_churned t_held t_heldFirst t_stiffWanted t_stiffFirst t_pad) sz) (woX9_planFault cI cZ a_t a_t_how a_t_strong a_t_pad a_t_plan a_t_box a_t_instead a_t_flakes a_t_tired a_t_image a_t_isKept t_signs t_parts t_swings t_saltFirst t_paceOfAll t_ice t_salt t_brine t_cold t_warm t_frozen t_layer t_air t_churned t_held t_heldFirst t_stiffWanted t_stiffFirst t_pad) → va_S (va_A (woX9_planFault cI cZ a_t a_t_how a_t_strong a_t_pad a_t_plan a_t_box a_t_instead a_t_flakes a_t_tired a_t_image a_t_isKept t_signs t_parts t_swings t_saltFirst t_paceOfAll t_ice t_salt t_brine t_cold t_warm t_frozen t_layer t_air t_churned t_held t_heldFirst t_stiffWanted t_stiffFirst t_pad) sz) s.heap H locs → lv_has ls 4 [(0, .ref a_t), (1, .int y1), (2, .int y2)] → W p l e (headSpec wyX9_planFault rmX9_planFault).room s m ([Value.ref a_t] : List Value).toArray below meth c H locs 0 0 (MQ below (POSTi (dC, dI) R sz (woX9_planFault cI cZ a_t a_t_how a_t_strong a_t_pad a_t_plan a_t_box a_t_instead a_t_flakes a_t_tired a_t_image a_t_isKept t_signs t_parts t_swings t_saltFirst t_paceOfAll t_ice t_salt t_brine t_cold t_warm t_frozen t_layer t_air t_churned t_held t_heldFirst t_stiffWanted t_stiffFirst t_pad) (woX9_planFault cI cZ a_t a_t_how a_t_strong a_t_pad a_t_plan a_t_box a_t_instead a_t_flakes a_t_tired a_t_image a_t_isKept t_signs t_parts t_swings t_saltFirst t_paceOfAll t_ice t_salt t_brine t_cold t_warm t_frozen t_layer t_air t_churned t_held t_heldFirst t_stiffWanted t_stiffFirst t_pad)) ([Value.ref a_t] : List Value).toArray s 0 0 (va_A (woX9_planFault cI cZ a_t a_t_how a_t_strong a_t_pad a_t_plan a_t_box a_t_instead a_t_flakes a_t_tired a_t_image a_t_isKept t_signs t_parts t_swings t_saltFirst t_paceOfAll t_ice t_salt t_brine t_cold t_warm t_frozen t_layer t_air t_churned t_held t_heldFirst t_stiffWanted t_stiffFirst t_pad) sz)) (F0 m 4 ls [])) → ∀ (y1 : Int32) (y2 : Int32) (y3 : Int32) (H : Heap) (locs : List Loc) (ls : Array Slot), f_X9_planFault_L67 rc4 t_signs t_pad y1 y2 y3 = some R → va_P (dC, dI) vwCl (woX9_planFault cI cZ a_t a_t_how a_t_strong a_t_pad a_t_plan a_t_box a_t_instead a_t_flakes a_t_tired a_t_image a_t_isKept t_signs t_parts t_swings t_saltFirst t_paceOfAll t_ice t_salt t_brine t_cold t_warm t_frozen t_layer t_air t_churned t_held t_heldFirst t_stiffWanted t_stiffFirst t_pad) H → va_D (va_A (woX9_planFault cI cZ a_t a_t_how a_t_strong a_t_pad a_t_plan a_t_box a_t_instead a_t_flakes a_t_tired a_t_image a_t_isKept t_signs t_parts t_swings t_saltFirst t_paceOfAll t_ice t_salt t_brine t_cold t_warm t_frozen t_layer t_air t_churned t_held t_heldFirst t_stiffWanted t_stiffFirst t_pad) sz) (woX9_planFault cI cZ a_t a_t_how a_t_strong a_t_pad a_t_plan a_t_box a_t_instead a_t_flakes a_t_tired a_t_image a_t_isKept t_signs t_parts t_swings t_saltFirst t_paceOfAll t_ice t_salt t_brine t_cold t_warm t_frozen t_layer t_air t_churned t_held t_heldFirst t_stiffWanted t_stiffFirst t_pad) → va_S (va_A (woX9_planFault cI cZ a_t a_t_how a_t_strong a_t_pad a_t_plan a_t_box a_t_instead a_t_flakes a_t_tired a_t_image a_t_isKept t_signs t_parts t_swings t_saltFirst t_paceOfAll t_ice t_salt t_brine t_cold t_warm t_frozen t_layer t_air t_churned t_held t_heldFirst t_stiffWanted t_stiffFirst t_pad) sz) s.heap H locs → lv_has ls 4 [(0, .ref a_t), (1, .int y1), (2, .int y2), (3, .int y3)] → W p l e (headSpec wyX9_planFault rmX9_planFault).room s m ([Value.ref a_t] : List Value).toArray below meth c H locs 0 0 (MQ below (POSTi (dC, dI) R sz (woX9_planFault cI cZ a_t a_t_how a_t_strong a_t_pad a_t_plan a_t_box a_t_instead a_t_flakes a_t_tired a_t_image a_t_isKept t_signs t_parts t_swings t_saltFirst t_paceOfAll t_ice t_salt t_brine t_cold t_warm t_frozen t_layer t_air t_churned t_held t_heldFirst t_stiffWanted t_stiffFirst t_pad) (woX9_planFault cI cZ a_t a_t_how a_t_strong a_t_pad a_t_plan a_t_box a_t_instead a_t_flakes a_t_tired a_t_image a_t_isKept t_signs t_parts t_swings t_saltFirst t_paceOfAll t_ice t_salt t_brine t_cold t_warm t_frozen t_layer t_air t_churned t_held t_heldFirst t_stiffWanted t_stiffFirst t_pad)) ([Value.ref a_t] : List Value).toArray s 0 0 (va_A (woX9_planFault cI cZ a_t a_t_how a_t_strong a_t_pad a_t_plan a_t_box a_t_instead a_t_flakes a_t_tired a_t_image a_t_isKept t_signs t_parts t_swings t_saltFirst t_paceOfAll t_ice t_salt t_brine t_cold t_warm t_frozen t_layer t_air t_churned t_held t_heldFirst t_stiffWanted t_stiffFirst t_pad) sz)) (F0 m 67 ls []) := by
    intro rc4 hrc4 y1 y2 y3 H locs ls hf hP hD hS hl
    unfold f_X9_planFault_L67 at hf
    refine lv_iload_n hx hb dX9_planFault_67 rfl (lv_at hl 1 rfl) ?_
    refine lv_iconst (v := 2) hx hb dX9_planFault_68 (by decide) ?_
    refine lv_icmp_ne (tgt := 83) hx hb dX9_planFault_69 (by decide) (fun c3 => ?_) (fun c3 => ?_)
    · have hf := (if_neg c3).symm.trans hf
      exact L83 rc4 hrc4 y1 y2 y3 _ _ _ hf hP hD hS (lv_sub hl [0, 1, 2, 3] rfl)
    · have hf := (if_pos c3).symm.trans hf
      refine lv_iload_n hx hb dX9_planFault_72 rfl (lv_at hl 3 rfl) ?_
      refine lv_bipush (v := 49) hx hb dX9_planFault_73 (by decide) ?_
      refine lv_bipush (v := 57) hx hb dX9_planFault_75 (by decide) ?_
      obtain ⟨r77, hc77, hf⟩ := bd1_some hf
      refine cl_Si (r := r77) (As := [.int y3, .int (49 : Int32), .int (57 : Int32)]) (w1 := []) (wN := (woX9_planFault cI cZ a_t a_t_how a_t_strong a_t_pad a_t_plan a_t_box a_t_instead a_t_flakes a_t_tired a_t_image a_t_isKept t_signs t_parts t_swings t_saltFirst t_paceOfAll t_ice t_salt t_brine t_cold t_warm t_frozen t_layer t_air t_churned t_held t_heldFirst t_stiffWanted t_stiffFirst t_pad)) [] 0 0 (c_X9_in l dC dI cI cZ ts _ y3 (49 : Int32) (57 : Int32) (r77) hc77) ⟨hx, hb, hml, hown, hG.2.1.hts _⟩ ⟨callB_of 3 (hG.2.1.hts _) giX9_in rfl rfl rfl (wd_1_10 hG.2.1) (wd_3_222 hG.2.1) hd_X9_in ⟨Nat.le_of_ble_eq_true rfl, Nat.le_of_ble_eq_true rfl⟩, wd_3_223 hG.2.1⟩ hG hP hD hS rfl rfl rfl rfl rfl hl.1 rfl (Nat.le_of_ble_eq_true rfl) dX9_planFault_77 ⟨Nat.zero_le _, Nat.zero_le _⟩ (fun H locs hP hD hS => ?_)
      refine lv_if_ne (tgt := 95) hx hb dX9_planFault_80 (by decide) (fun c4 => ?_) (fun c4 => ?_)
      · have hf := (if_neg c4).symm.trans hf
        refine lv_iconst (v := 0) hx hb dX9_planFault_95 (by decide) ?_
        refine lv_istore_n (lv' := [(1, .int (0 : Int32)), (0, .ref a_t), (2, .int y2), (3, .int y3)]) hx hb dX9_planFault_96 rfl hl (by decide) rfl (fun ls hl => ?_)
        refine lv_goto (tgt := 102) hx hb dX9_planFault_97 (by decide) ?_
        refine lv_iinc (v := (y2 + (1 : Int32))) (lv' := [(2, .int (y2 + (1 : Int32))), (1, .int (0 : Int32)), (0, .ref a_t), (3, .int y3)]) hx hb dX9_planFault_102 hl (k := 2) rfl rfl (by decide) rfl (fun ls hl => ?_)
        refine lv_goto (tgt := 4) hx hb dX9_planFault_105 (by decide) ?_
        exact hrc4 (0 : Int32) (y2 + (1 : Int32)) _ _ _ hf hP hD hS (lv_sub hl [2, 1, 0] rfl)
      · have hf := (if_pos c4).symm.trans hf
        exact L83 rc4 hrc4 y1 y2 y3 _ _ _ hf hP hD hS (lv_sub hl [0, 1, 2, 3] rfl)
  have L50 : ∀ (rc4 : Int32 → Int32 → Option (Int32)), (∀ (y1 : Int32) (y2 : Int32) (H : Heap) (locs : List Loc) (ls : Array Slot), rc4 y1 y2 = some R → va_P (dC, dI) vwCl (woX9_planFault cI cZ a_t a_t_how a_t_strong a_t_pad a_t_plan a_t_box a_t_instead a_t_flakes a_t_tired a_t_image a_t_isKept t_signs t_parts t_swings t_saltFirst t_paceOfAll t_ice t_salt t_brine t_cold t_warm t_frozen t_layer t_air t_churned t_held t_heldFirst t_stiffWanted t_stiffFirst t_pad) H → va_D (va_A (woX9_planFault cI cZ a_t a_t_how a_t_strong a_t_pad a_t_plan a_t_box a_t_instead a_t_flakes a_t_tired a_t_image a_t_isKept t_signs t_parts t_swings t_saltFirst t_paceOfAll t_ice t_salt t_brine t_cold t_warm t_frozen t_layer t_air t_churned t_held t_heldFirst t_stiffWanted t_stiffFirst t_pad) sz) (woX9_planFault cI cZ a_t a_t_how a_t_strong a_t_pad a_t_plan a_t_box a_t_instead a_t_flakes a_t_tired a_t_image a_t_isKept t_signs t_parts t_swings t_saltFirst t_paceOfAll t_ice t_salt t_brine t_cold t_warm t_frozen t_layer t_air t_churned t_held t_heldFirst t_stiffWanted t_stiffFirst t_pad) → va_S (va_A (woX9_planFault cI cZ a_t a_t_how a_t_strong a_t_pad a_t_plan a_t_box a_t_instead a_t_flakes a_t_tired a_t_image a_t_isKept t_signs t_parts t_swings t_saltFirst t_paceOfAll t_ice t_salt t_brine t_cold t_warm t_frozen t_layer t_air t_churned t_held t_heldFirst t_stiffWanted t_stiffFirst t_pad) sz) s.heap H locs → lv_has ls 4 [(0, .ref a_t), (1, .int y1), (2, .int y2)] → W p l e (headSpec wyX9_planFault rmX9_planFault).room s m ([Value.ref a_t] : List Value).toArray below meth c H locs 0 0 (MQ below (POSTi (dC, dI) R sz (woX9_planFault cI cZ a_t a_t_how a_t_strong a_t_pad a_t_plan a_t_box a_t_instead a_t_flakes a_t_tired a_t_image a_t_isKept t_signs t_parts t_swings t_saltFirst t_paceOfAll t_ice t_salt t_brine t_cold t_warm t_frozen t_layer t_air t_churned t_held t_heldFirst t_stiffWanted t_stiffFirst t_pad) (woX9_planFault cI cZ a_t a_t_how a_t_strong a_t_pad a_t_plan a_t_box a_t_instead a_t_flakes a_t_tired a_t_image a_t_isKept t_signs t_parts t_swings t_saltFirst t_paceOfAll t_ice t_salt t_brine t_cold t_warm t_frozen t_layer t_air t_churned t_held t_heldFirst t_stiffWanted t_stiffFirst t_pad)) ([Value.ref a_t] : List Value).toArray s 0 0 (va_A (woX9_planFault cI cZ a_t a_t_how a_t_strong a_t_pad a_t_plan a_t_box a_t_instead a_t_flakes a_t_tired a_t_image a_t_isKept t_signs t_parts t_swings t_saltFirst t_paceOfAll t_ice t_salt t_brine t_cold t_warm t_frozen t_layer t_air t_churned t_held t_heldFirst t_stiffWanted t_stiffFirst t_pad) sz)) (F0 m 4 ls [])) → ∀ (y1 : Int32) (y2 : Int32) (y3 : Int32) (H : Heap) (locs : List Loc) (ls : Array Slot), f_X9_planFault_L50 rc4 t_signs t_pad y1 y2 y3 = some R → va_P (dC, dI) vwCl (woX9_planFault cI cZ a_t a_t_how a_t_strong a_t_pad a_t_plan a_t_box a_t_instead a_t_flakes a_t_tired a_t_image a_t_isKept t_signs t_parts t_swings t_saltFirst t_paceOfAll t_ice t_salt t_brine t_cold t_warm t_frozen t_layer t_air t_churned t_held t_heldFirst t_stiffWanted t_stiffFirst t_pad) H → va_D (va_A (woX9_planFault cI cZ a_t a_t_how a_t_strong a_t_pad a_t_plan a_t_box a_t_instead a_t_flakes a_t_tired a_t_image a_t_isKept t_signs t_parts t_swings t_saltFirst t_paceOfAll t_ice t_salt t_brine t_cold t_warm t_frozen t_layer t_air t_churned t_held t_heldFirst t_stiffWanted t_stiffFirst t_pad) sz) (woX9_planFault cI cZ a_t a_t_how a_t_strong a_t_pad a_t_plan a_t_box a_t_instead a_t_flakes a_t_tired a_t_image a_t_isKept t_signs t_parts t_swings t_saltFirst t_paceOfAll t_ice t_salt t_brine t_cold t_warm t_frozen t_layer t_air t_churned t_held t_heldFirst t_stiffWanted t_stiffFirst t_pad) → va_S (va_A (woX9_planFault cI cZ a_t a_t_how a_t_strong a_t_pad a_t_plan a_t_box a_t_instead a_t_flakes a_t_tired a_t_image a_t_isKept t_signs t_parts t_swings t_saltFirst t_paceOfAll t_ice t_salt t_brine t_cold t_warm t_frozen t_layer t_air t_churned t_held t_heldFirst t_stiffWanted t_stiffFirst t_pad) sz) s.heap H locs → lv_has ls 4 [(0, .ref a_t), (1, .int y1), (2, .int y2), (3, .int y3)] → W p l e (headSpec wyX9_planFault rmX9_planFault).room s m ([Value.ref a_t] : List Value).toArray below meth c H locs 0 0 (MQ below (POSTi (dC, dI) R sz (woX9_planFault cI cZ a_t a_t_how a_t_strong a_t_pad a_t_plan a_t_box a_t_instead a_t_flakes a_t_tired a_t_image a_t_isKept t_signs t_parts t_swings t_saltFirst t_paceOfAll t_ice t_salt t_brine t_cold t_warm t_frozen t_layer t_air t_churned t_held t_heldFirst t_stiffWanted t_stiffFirst t_pad) (woX9_planFault cI cZ a_t a_t_how a_t_strong a_t_pad a_t_plan a_t_box a_t_instead a_t_flakes a_t_tired a_t_image a_t_isKept t_signs t_parts t_swings t_saltFirst t_paceOfAll t_ice t_salt t_brine t_cold t_warm t_frozen t_layer t_air t_churned t_held t_heldFirst t_stiffWanted t_stiffFirst t_pad)) ([Value.ref a_t] : List Value).toArray s 0 0 (va_A (woX9_planFault cI cZ a_t a_t_how a_t_strong a_t_pad a_t_plan a_t_box a_t_instead a_t_flakes a_t_tired a_t_image a_t_isKept t_signs t_parts t_swings t_saltFirst t_paceOfAll t_ice t_salt t_brine t_cold t_warm t_frozen t_layer t_air t_churned t_held t_heldFirst t_stiffWanted t_stiffFirst t_pad) sz)) (F0 m 50 ls []) := by
    intro rc4 hrc4 y1 y2 y3 H locs ls hf hP hD hS hl
    unfold f_X9_planFault_L50 at hf
    refine lv_iload_n hx hb dX9_planFault_50 rfl (lv_at hl 1 rfl) ?_
    refine lv_iconst (v := 1) hx hb dX9_planFault_51 (by decide) ?_
    refine lv_icmp_ne (tgt := 67) hx hb dX9_planFault_52 (by decide) (fun c5 => ?_) (fun c5 => ?_)
    · have hf := (if_neg c5).symm.trans hf
      exact L67 rc4 hrc4 y1 y2 y3 _ _ _ hf hP hD hS (lv_sub hl [0, 1, 2, 3] rfl)
    · have hf := (if_pos c5).symm.trans hf
      refine lv_iload_n hx hb dX9_planFault_55 rfl (lv_at hl 3 rfl) ?_
      obtain ⟨r56, hc56, hf⟩ := bd1_some hf
      refine cl_Si (r := r56) (As := [.int y3]) (w1 := []) (wN := (woX9_planFault cI cZ a_t a_t_how a_t_strong a_t_pad a_t_plan a_t_box a_t_instead a_t_flakes a_t_tired a_t_image a_t_isKept t_signs t_parts t_swings t_saltFirst t_paceOfAll t_ice t_salt t_brine t_cold t_warm t_frozen t_layer t_air t_churned t_held t_heldFirst t_stiffWanted t_stiffFirst t_pad)) [] 0 0 (c_X9_isDigit l dC dI cI cZ ts _ y3 (r56) hc56) ⟨hx, hb, hml, hown, hG.2.1.hts _⟩ ⟨callB_of 1 (hG.2.1.hts _) giX9_isDigit rfl rfl rfl (wd_1_10 hG.2.1) (wd_4_14 hG.2.1) hd_X9_isDigit ⟨Nat.le_of_ble_eq_true rfl, Nat.le_of_ble_eq_true rfl⟩, wd_4_15 hG.2.1⟩ hG hP hD hS rfl rfl rfl rfl rfl hl.1 rfl (Nat.le_of_ble_eq_true rfl) dX9_planFault_56 ⟨Nat.zero_le _, Nat.zero_le _⟩ (fun H locs hP hD hS => ?_)
      refine lv_if_eq (tgt := 67) hx hb dX9_planFault_59 (by decide) (fun c6 => ?_) (fun c6 => ?_)
      · have hf := (if_pos c6).symm.trans hf
        exact L67 rc4 hrc4 y1 y2 y3 _ _ _ hf hP hD hS (lv_sub hl [0, 1, 2, 3] rfl)
      · have hf := (if_neg c6).symm.trans hf
        refine lv_iconst (v := 2) hx hb dX9_planFault_62 (by decide) ?_
        refine lv_istore_n (lv' := [(1, .int (2 : Int32)), (0, .ref a_t), (2, .int y2), (3, .int y3)]) hx hb dX9_planFault_63 rfl hl (by decide) rfl (fun ls hl => ?_)
        refine lv_goto (tgt := 102) hx hb dX9_planFault_64 (by decide) ?_
        refine lv_iinc (v := (y2 + (1 : Int32))) (lv' := [(2, .int (y2 + (1 : Int32))), (1, .int (2 : Int32)), (0, .ref a_t), (3, .int y3)]) hx hb dX9_planFault_102 hl (k := 2) rfl rfl (by decide) rfl (fun ls hl => ?_)
        refine lv_goto (tgt := 4) hx hb dX9_planFault_105 (by decide) ?_
        exact hrc4 (2 : Int32) (y2 + (1 : Int32)) _ _ _ hf hP hD hS (lv_sub hl [2, 1, 0] rfl)
  have L35 : ∀ (rc4 : Int32 → Int32 → Option (Int32)), (∀ (y1 : Int32) (y2 : Int32) (H : Heap) (locs : List Loc) (ls : Array Slot), rc4 y1 y2 = some R → va_P (dC, dI) vwCl (woX9_planFault cI cZ a_t a_t_how a_t_strong a_t_pad a_t_plan a_t_box a_t_instead a_t_flakes a_t_tired a_t_image a_t_isKept t_signs t_parts t_swings t_saltFirst t_paceOfAll t_ice t_salt t_brine t_cold t_warm t_frozen t_layer t_air t_churned t_held t_heldFirst t_stiffWanted t_stiffFirst t_pad) H → va_D (va_A (woX9_planFault cI cZ a_t a_t_how a_t_strong a_t_pad a_t_plan a_t_box a_t_instead a_t_flakes a_t_tired a_t_image a_t_isKept t_signs t_parts t_swings t_saltFirst t_paceOfAll t_ice t_salt t_brine t_cold t_warm t_frozen t_layer t_air t_churned t_held t_heldFirst t_stiffWanted t_stiffFirst t_pad) sz) (woX9_planFault cI cZ a_t a_t_how a_t_strong a_t_pad a_t_plan a_t_box a_t_instead a_t_flakes a_t_tired a_t_image a_t_isKept t_signs t_parts t_swings t_saltFirst t_paceOfAll t_ice t_salt t_brine t_cold t_warm t_frozen t_layer t_air t_churned t_held t_heldFirst t_stiffWanted t_stiffFirst t_pad) → va_S (va_A (woX9_planFault cI cZ a_t a_t_how a_t_strong a_t_pad a_t_plan a_t_box a_t_instead a_t_flakes a_t_tired a_t_image a_t_isKept t_signs t_parts t_swings t_saltFirst t_paceOfAll t_ice t_salt t_brine t_cold t_warm t_frozen t_layer t_air t_churned t_held t_heldFirst t_stiffWanted t_stiffFirst t_pad) sz) s.heap H locs → lv_has ls 4 [(0, .ref a_t), (1, .int y1), (2, .int y2)] → W p l e (headSpec wyX9_planFault rmX9_planFault).room s m ([Value.ref a_t] : List Value).toArray below meth c H locs 0 0 (MQ below (POSTi (dC, dI) R sz (woX9_planFault cI cZ a_t a_t_how a_t_strong a_t_pad a_t_plan a_t_box a_t_instead a_t_flakes a_t_tired a_t_image a_t_isKept t_signs t_parts t_swings t_saltFirst t_paceOfAll t_ice t_salt t_brine t_cold t_warm t_frozen t_layer t_air t_churned t_held t_heldFirst t_stiffWanted t_stiffFirst t_pad) (woX9_planFault cI cZ a_t a_t_how a_t_strong a_t_pad a_t_plan a_t_box a_t_instead a_t_flakes a_t_tired a_t_image a_t_isKept t_signs t_parts t_swings t_saltFirst t_paceOfAll t_ice t_salt t_brine t_cold t_warm t_frozen t_layer t_air t_churned t_held t_heldFirst t_stiffWanted t_stiffFirst t_pad)) ([Value.ref a_t] : List Value).toArray s 0 0 (va_A (woX9_planFault cI cZ a_t a_t_how a_t_strong a_t_pad a_t_plan a_t_box a_t_instead a_t_flakes a_t_tired a_t_image a_t_isKept t_signs t_parts t_swings t_saltFirst t_paceOfAll t_ice t_salt t_brine t_cold t_warm t_frozen t_layer t_air t_churned t_held t_heldFirst t_stiffWanted t_stiffFirst t_pad) sz)) (F0 m 4 ls [])) → ∀ (y1 : Int32) (y2 : Int32) (y3 : Int32) (H : Heap) (locs : List Loc) (ls : Array Slot), f_X9_planFault_L35 rc4 t_signs t_pad y1 y2 y3 = some R → va_P (dC, dI) vwCl (woX9_planFault cI cZ a_t a_t_how a_t_strong a_t_pad a_t_plan a_t_box a_t_instead a_t_flakes a_t_tired a_t_image a_t_isKept t_signs t_parts t_swings t_saltFirst t_paceOfAll t_ice t_salt t_brine t_cold t_warm t_frozen t_layer t_air t_churned t_held t_heldFirst t_stiffWanted t_stiffFirst t_pad) H → va_D (va_A (woX9_planFault cI cZ a_t a_t_how a_t_strong a_t_pad a_t_plan a_t_box a_t_instead a_t_flakes a_t_tired a_t_image a_t_isKept t_signs t_parts t_swings t_saltFirst t_paceOfAll t_ice t_salt t_brine t_cold t_warm t_frozen t_layer t_air t_churned t_held t_heldFirst t_stiffWanted t_stiffFirst t_pad) sz) (woX9_planFault cI cZ a_t a_t_how a_t_strong a_t_pad a_t_plan a_t_box a_t_instead a_t_flakes a_t_tired a_t_image a_t_isKept t_signs t_parts t_swings t_saltFirst t_paceOfAll t_ice t_salt t_brine t_cold t_warm t_frozen t_layer t_air t_churned t_held t_heldFirst t_stiffWanted t_stiffFirst t_pad) → va_S (va_A (woX9_planFault cI cZ a_t a_t_how a_t_strong a_t_pad a_t_plan a_t_box a_t_instead a_t_flakes a_t_tired a_t_image a_t_isKept t_signs t_parts t_swings t_saltFirst t_paceOfAll t_ice t_salt t_brine t_cold t_warm t_frozen t_layer t_air t_churned t_held t_heldFirst t_stiffWanted t_stiffFirst t_pad) sz) s.heap H locs → lv_has ls 4 [(0, .ref a_t), (1, .int y1), (2, .int y2), (3, .int y3)] → W p l e (headSpec wyX9_planFault rmX9_planFault).room s m ([Value.ref a_t] : List Value).toArray below meth c H locs 0 0 (MQ below (POSTi (dC, dI) R sz (woX9_planFault cI cZ a_t a_t_how a_t_strong a_t_pad a_t_plan a_t_box a_t_instead a_t_flakes a_t_tired a_t_image a_t_isKept t_signs t_parts t_swings t_saltFirst t_paceOfAll t_ice t_salt t_brine t_cold t_warm t_frozen t_layer t_air t_churned t_held t_heldFirst t_stiffWanted t_stiffFirst t_pad) (woX9_planFault cI cZ a_t a_t_how a_t_strong a_t_pad a_t_plan a_t_box a_t_instead a_t_flakes a_t_tired a_t_image a_t_isKept t_signs t_parts t_swings t_saltFirst t_paceOfAll t_ice t_salt t_brine t_cold t_warm t_frozen t_layer t_air t_churned t_held t_heldFirst t_stiffWanted t_stiffFirst t_pad)) ([Value.ref a_t] : List Value).toArray s 0 0 (va_A (woX9_planFault cI cZ a_t a_t_how a_t_strong a_t_pad a_t_plan a_t_box a_t_instead a_t_flakes a_t_tired a_t_image a_t_isKept t_signs t_parts t_swings t_saltFirst t_paceOfAll t_ice t_salt t_brine t_cold t_warm t_frozen t_layer t_air t_churned t_held t_heldFirst t_stiffWanted t_stiffFirst t_pad) sz)) (F0 m 35 ls []) := by
    intro rc4 hrc4 y1 y2 y3 H locs ls hf hP hD hS hl
    unfold f_X9_planFault_L35 at hf
    refine lv_iload_n hx hb dX9_planFault_35 rfl (lv_at hl 1 rfl) ?_
    refine lv_if_ne (tgt := 50) hx hb dX9_planFault_36 (by decide) (fun c7 => ?_) (fun c7 => ?_)
    · have hf := (if_neg c7).symm.trans hf
      exact L50 rc4 hrc4 y1 y2 y3 _ _ _ hf hP hD hS (lv_sub hl [0, 1, 2, 3] rfl)
    · have hf := (if_pos c7).symm.trans hf
      refine lv_iload_n hx hb dX9_planFault_39 rfl (lv_at hl 3 rfl) ?_
      refine lv_bipush (v := 115) hx hb dX9_planFault_40 (by decide) ?_
      refine lv_icmp_ne (tgt := 50) hx hb dX9_planFault_42 (by decide) (fun c8 => ?_) (fun c8 => ?_)
      · have hf := (if_neg c8).symm.trans hf
        exact L50 rc4 hrc4 y1 y2 y3 _ _ _ hf hP hD hS (lv_sub hl [0, 1, 2, 3] rfl)
      · have hf := (if_pos c8).symm.trans hf
        refine lv_iconst (v := 3) hx hb dX9_planFault_45 (by decide) ?_
        refine lv_istore_n (lv' := [(1, .int (3 : Int32)), (0, .ref a_t), (2, .int y2), (3, .int y3)]) hx hb dX9_planFault_46 rfl hl (by decide) rfl (fun ls hl => ?_)
        refine lv_goto (tgt := 102) hx hb dX9_planFault_47 (by decide) ?_
        refine lv_iinc (v := (y2 + (1 : Int32))) (lv' := [(2, .int (y2 + (1 : Int32))), (1, .int (3 : Int32)), (0, .ref a_t), (3, .int y3)]) hx hb dX9_planFault_102 hl (k := 2) rfl rfl (by decide) rfl (fun ls hl => ?_)
        refine lv_goto (tgt := 4) hx hb dX9_planFault_105 (by decide) ?_
        exact hrc4 (3 : Int32) (y2 + (1 : Int32)) _ _ _ hf hP hD hS (lv_sub hl [2, 1, 0] rfl)
  have L4 : ∀ (fu : Nat) (y1 : Int32) (y2 : Int32) (H : Heap) (locs : List Loc) (ls : Array Slot), f_X9_planFault_L4 t_signs t_pad fu y1 y2 = some R → va_P (dC, dI) vwCl (woX9_planFault cI cZ a_t a_t_how a_t_strong a_t_pad a_t_plan a_t_box a_t_instead a_t_flakes a_t_tired a_t_image a_t_isKept t_signs t_parts t_swings t_saltFirst t_paceOfAll t_ice t_salt t_brine t_cold t_warm t_frozen t_layer t_air t_churned t_held t_heldFirst t_stiffWanted t_stiffFirst t_pad) H → va_D (va_A (woX9_planFault cI cZ a_t a_t_how a_t_strong a_t_pad a_t_plan a_t_box a_t_instead a_t_flakes a_t_tired a_t_image a_t_isKept t_signs t_parts t_swings t_saltFirst t_paceOfAll t_ice t_salt t_brine t_cold t_warm t_frozen t_layer t_air t_churned t_held t_heldFirst t_stiffWanted t_stiffFirst t_pad) sz) (woX9_planFault cI cZ a_t a_t_how a_t_strong a_t_pad a_t_plan a_t_box a_t_instead a_t_flakes a_t_tired a_t_image a_t_isKept t_signs t_parts t_swings t_saltFirst t_paceOfAll t_ice t_salt t_brine t_cold t_warm t_frozen t_layer t_air t_churned t_held t_heldFirst t_stiffWanted t_stiffFirst t_pad) → va_S (va_A (woX9_planFault cI cZ a_t a_t_how a_t_strong a_t_pad a_t_plan a_t_box a_t_instead a_t_flakes a_t_tired a_t_image a_t_isKept t_signs t_parts t_swings t_saltFirst t_paceOfAll t_ice t_salt t_brine t_cold t_warm t_frozen t_layer t_air t_churned t_held t_heldFirst t_stiffWanted t_stiffFirst t_pad) sz) s.heap H locs → lv_has ls 4 [(0, .ref a_t), (1, .int y1), (2, .int y2)] → W p l e (headSpec wyX9_planFault rmX9_planFault).room s m ([Value.ref a_t] : List Value).toArray below meth c H locs 0 0 (MQ below (POSTi (dC, dI) R sz (woX9_planFault cI cZ a_t a_t_how a_t_strong a_t_pad a_t_plan a_t_box a_t_instead a_t_flakes a_t_tired a_t_image a_t_isKept t_signs t_parts t_swings t_saltFirst t_paceOfAll t_ice t_salt t_brine t_cold t_warm t_frozen t_layer t_air t_churned t_held t_heldFirst t_stiffWanted t_stiffFirst t_pad) (woX9_planFault cI cZ a_t a_t_how a_t_strong a_t_pad a_t_plan a_t_box a_t_instead a_t_flakes a_t_tired a_t_image a_t_isKept t_signs t_parts t_swings t_saltFirst t_paceOfAll t_ice t_salt t_brine t_cold t_warm t_frozen t_layer t_air t_churned t_held t_heldFirst t_stiffWanted t_stiffFirst t_pad)) ([Value.ref a_t] : List Value).toArray s 0 0 (va_A (woX9_planFault cI cZ a_t a_t_how a_t_strong a_t_pad a_t_plan a_t_box a_t_instead a_t_flakes a_t_tired a_t_image a_t_isKept t_signs t_parts t_swings t_saltFirst t_paceOfAll t_ice t_salt t_brine t_cold t_warm t_frozen t_layer t_air t_churned t_held t_heldFirst t_stiffWanted t_stiffFirst t_pad) sz)) (F0 m 4 ls []) := by
    intro  fu
    induction fu with
    | zero => intro y1 y2 H locs ls hf; cases hf
    | succ fu ih =>
      intro y1 y2 H locs ls hf hP hD hS hl
      rw [f_X9_planFault_L4] at hf
      refine lv_iload_n hx hb dX9_planFault_4 rfl (lv_at hl 2 rfl) ?_
      refine lv_aload_n hx hb dX9_planFault_5 rfl (lv_at hl 0 rfl) ?_
      refine mg (ci := 9) 0 2 hx hb hG igX9 hown hP rfl rfl (by decide) (wd_3_134 hG.2.1) rfl rfl dX9_planFault_6 ?_
      refine lv_icmp_ge (tgt := 108) hx hb dX9_planFault_9 (by decide) (fun c9 => ?_) (fun c9 => ?_)
      · have hf := (if_pos c9).symm.trans hf
        refine lv_iload_n hx hb dX9_planFault_108 rfl (lv_at hl 1 rfl) ?_
        refine lv_if_ne (tgt := 117) hx hb dX9_planFault_109 (by decide) (fun c10 => ?_) (fun c10 => ?_)
        · have hf := (if_neg c10).symm.trans hf
          refine lv_aload_n hx hb dX9_planFault_117 rfl (lv_at hl 0 rfl) ?_
          refine mg (ci := 9) 0 2 hx hb hG igX9 hown hP rfl rfl (by decide) (wd_3_134 hG.2.1) rfl rfl dX9_planFault_118 ?_
          have hR := Option.some.inj hf
          rw [← hR]
          exact rt_i hx hb hr hlk hsz hP hD hS rfl rfl dX9_planFault_121
        · have hf := (if_pos c10).symm.trans hf
          refine lv_bipush (v := -6) hx hb dX9_planFault_112 (by decide) ?_
          refine lv_goto (tgt := 121) hx hb dX9_planFault_114 (by decide) ?_
          have hR := Option.some.inj hf
          rw [← hR]
          exact rt_i hx hb hr hlk hsz hP hD hS rfl rfl dX9_planFault_121
      · have hf := (if_neg c9).symm.trans hf
        refine lv_aload_n hx hb dX9_planFault_12 rfl (lv_at hl 0 rfl) ?_
        refine mg (ci := 9) 0 3 hx hb hG igX9 hown hP rfl rfl (by decide) (wd_3_135 hG.2.1) rfl rfl dX9_planFault_13 ?_
        refine lv_iload_n hx hb dX9_planFault_16 rfl (lv_at hl 2 rfl) ?_
        obtain ⟨g11, hf⟩ := gd_some hf
        refine mal 1 hx hb hG hP rfl g11 dX9_planFault_17 ?_
        refine lv_istore_n (lv' := [(3, .int (t_pad (y2).toNatClampNeg)), (0, .ref a_t), (1, .int y1), (2, .int y2)]) hx hb dX9_planFault_18 rfl hl (by decide) rfl (fun ls hl => ?_)
        refine lv_iload_n hx hb dX9_planFault_19 rfl (lv_at hl 2 rfl) ?_
        refine lv_if_ne (tgt := 35) hx hb dX9_planFault_20 (by decide) (fun c12 => ?_) (fun c12 => ?_)
        · have hf := (if_neg c12).symm.trans hf
          exact L35 (f_X9_planFault_L4 t_signs t_pad fu) ih y1 y2 (t_pad (y2).toNatClampNeg) _ _ _ hf hP hD hS (lv_sub hl [1, 2, 3, 0] rfl)
        · have hf := (if_pos c12).symm.trans hf
          refine lv_iload_n hx hb dX9_planFault_23 rfl (lv_at hl 0 rfl) ?_
          obtain ⟨r24, hc24, hf⟩ := bd1_some hf
          refine cl_Si (r := r24) (As := [.int (t_pad (y2).toNatClampNeg)]) (w1 := []) (wN := (woX9_planFault cI cZ a_t a_t_how a_t_strong a_t_pad a_t_plan a_t_box a_t_instead a_t_flakes a_t_tired a_t_image a_t_isKept t_signs t_parts t_swings t_saltFirst t_paceOfAll t_ice t_salt t_brine t_cold t_warm t_frozen t_layer t_air t_churned t_held t_heldFirst t_stiffWanted t_stiffFirst t_pad)) [] 0 0 (c_X9_isWho l dC dI cI cZ ts _ (t_pad (y2).toNatClampNeg) (r24) hc24) ⟨hx, hb, hml, hown, hG.2.1.hts _⟩ ⟨callB_of 1 (hG.2.1.hts _) giX9_isWho rfl rfl rfl (wd_1_10 hG.2.1) (wd_4_11 hG.2.1) hd_X9_isWho ⟨Nat.le_of_ble_eq_true rfl, Nat.le_of_ble_eq_true rfl⟩, wd_4_12 hG.2.1⟩ hG hP hD hS rfl rfl rfl rfl rfl hl.1 rfl (Nat.le_of_ble_eq_true rfl) dX9_planFault_24 ⟨Nat.zero_le _, Nat.zero_le _⟩ (fun H locs hP hD hS => ?_)
          refine lv_if_eq (tgt := 35) hx hb dX9_planFault_27 (by decide) (fun c13 => ?_) (fun c13 => ?_)
          · have hf := (if_pos c13).symm.trans hf
            exact L35 (f_X9_planFault_L4 t_signs t_pad fu) ih y1 y2 (t_pad (y2).toNatClampNeg) _ _ _ hf hP hD hS (lv_sub hl [1, 2, 3, 0] rfl)
          · have hf := (if_neg c13).symm.trans hf
            refine lv_iconst (v := 1) hx hb dX9_planFault_30 (by decide) ?_
            refine lv_istore_n (lv' := [(1, .int (1 : Int32)), (3, .int (t_pad (y2).toNatClampNeg)), (0, .ref a_t), (2, .int y2)]) hx hb dX9_planFault_31 rfl hl (by decide) rfl (fun ls hl => ?_)
            refine lv_goto (tgt := 102) hx hb dX9_planFault_32 (by decide) ?_
            refine lv_iinc (v := (y2 + (1 : Int32))) (lv' := [(2, .int (y2 + (1 : Int32))), (1, .int (1 : Int32)), (3, .int (t_pad (y2).toNatClampNeg)), (0, .ref a_t)]) hx hb dX9_planFault_102 hl (k := 3) rfl rfl (by decide) rfl (fun ls hl => ?_)
            refine lv_goto (tgt := 4) hx hb dX9_planFault_105 (by decide) ?_
            exact ih (1 : Int32) (y2 + (1 : Int32)) _ _ _ hf hP hD hS (lv_sub hl [3, 1, 0] rfl)
  have hl := lv_entry ([.ref a_t]) (n := 4) (Nat.le_of_ble_eq_true rfl)
  rw [lg_entry_eq]
  generalize (lg_sl ([.ref a_t]) ++ List.replicate (4 - (lg_sl ([.ref a_t])).length) Slot.unset).toArray = ls at hl ⊢
  have hl : lv_has ls 4 [(0, .ref a_t)] := hl
  unfold f_X9_planFault at hf
  refine lv_iconst (v := 0) hx hb dX9_planFault_0 (by decide) ?_
  refine lv_istore_n (lv' := [(1, .int (0 : Int32)), (0, .ref a_t)]) hx hb dX9_planFault_1 rfl hl (by decide) rfl (fun ls hl => ?_)
  refine lv_iconst (v := 0) hx hb dX9_planFault_2 (by decide) ?_
  refine lv_istore_n (lv' := [(2, .int (0 : Int32)), (1, .int (0 : Int32)), (0, .ref a_t)]) hx hb dX9_planFault_3 rfl hl (by decide) rfl (fun ls hl => ?_)
  exact L4 FU (0 : Int32) (0 : Int32) _ _ _ hf hP hD hS (lv_sub hl [2, 1, 0] rfl)
abbrev woX9_boxFault (cI cZ : ClassId) (a_t a_t_how a_t_strong a_t_pad a_t_plan a_t_box a_t_instead a_t_flakes a_t_tired a_t_image a_t_isKept : Nat) (t_signs : Int32) (t_parts : Int32) (t_swings : Int32) (t_saltFirst : Int32) (t_paceOfAll : Int32) (t_ice : Int32) (t_salt : Int32) (t_brine : Int32) (t_cold : Int32) (t_warm : Int32) (t_frozen : Int32) (t_layer : Int32) (t_air : Int32) (t_churned : Int32) (t_held : Int32) (t_heldFirst : Int32) (t_stiffWanted : Int32) (t_stiffFirst : Int32) (t_pad : Nat → Int32) : va_W := [(a_t, .inr (9, [.ref a_t_how, .ref a_t_strong, .int t_signs, .ref a_t_pad, .int t_parts, .ref a_t_plan, .int t_swings, .ref a_t_box, .ref a_t_instead, .int t_saltFirst, .int t_paceOfAll, .int t_ice, .int t_salt, .int t_brine, .int t_cold, .int t_warm, .int t_frozen, .int t_layer, .int t_air, .int t_churned, .ref a_t_flakes, .ref a_t_tired, .int t_held, .int t_heldFirst, .int t_stiffWanted, .int t_stiffFirst, .ref a_t_image, .ref a_t_isKept])), (a_t_pad, .inl (cI, 40, .inl t_pad))]
abbrev rmX9_boxFault : Room := { frames := 2, cells := 0, slots := 0, locals := 42 }
theorem hd_X9_boxFault : yX9_boxFault.cls ≠ "java/lang/invoke/MethodHandle" ∧ yX9_boxFault.cls ≠ "java/lang/invoke/VarHandle" ∧ (parseMethodDescriptor yX9_boxFault.desc).map (fun d => d.parameters.length) = some 0 := by decide +kernel
set_option maxHeartbeats 4000000 in
set_option maxRecDepth 100000 in
theorem c_X9_boxFault (l : Launch) (dC : Nat → ClassId) (dI : Nat → Nat → Nat) (cI cZ : ClassId) (ts : Nat → Nat) (sz : Nat) (a_t a_t_how a_t_strong a_t_pad a_t_plan a_t_box a_t_instead a_t_flakes a_t_tired a_t_image a_t_isKept : Nat) (t_signs : Int32) (t_parts : Int32) (t_swings : Int32) (t_saltFirst : Int32) (t_paceOfAll : Int32) (t_ice : Int32) (t_salt : Int32) (t_brine : Int32) (t_cold : Int32) (t_warm : Int32) (t_frozen : Int32) (t_layer : Int32) (t_air : Int32) (t_churned : Int32) (t_held : Int32) (t_heldFirst : Int32) (t_stiffWanted : Int32) (t_stiffFirst : Int32) (t_pad : Nat → Int32) (R : Int32) (hf : f_X9_boxFault t_signs t_pad = some R) : Met l yX9_boxFault wyX9_boxFault rmX9_boxFault (PRE (dC, dI) cI cZ ts [.ref a_t] sz (woX9_boxFault cI cZ a_t a_t_how a_t_strong a_t_pad a_t_plan a_t_box a_t_instead a_t_flakes a_t_tired a_t_image a_t_isKept t_signs t_parts t_swings t_saltFirst t_paceOfAll t_ice t_salt t_brine t_cold t_warm t_frozen t_layer t_air t_churned t_held t_heldFirst t_stiffWanted t_stiffFirst t_pad)) (POSTi (dC, dI) R sz (woX9_boxFault cI cZ a_t a_t_how a_t_strong a_t_pad a_t_plan a_t_box a_t_instead a_t_flakes a_t_tired a_t_image a_t_isKept t_signs t_parts t_swings t_saltFirst t_paceOfAll t_ice t_salt t_brine t_cold t_warm t_frozen t_layer t_air t_churned t_held t_heldFirst t_stiffWanted t_stiffFirst t_pad) (woX9_boxFault cI cZ a_t a_t_how a_t_strong a_t_pad a_t_plan a_t_box a_t_instead a_t_flakes a_t_tired a_t_image a_t_isKept t_signs t_parts t_swings t_saltFirst t_paceOfAll t_ice t_salt t_brine t_cold t_warm t_frozen t_layer t_air t_churned t_held t_heldFirst t_stiffWanted t_stiffFirst t_pad)) 0 0 (va_A (woX9_boxFault cI cZ a_t a_t_how a_t_strong a_t_pad a_t_plan a_t_box a_t_instead a_t_flakes a_t_tired a_t_image a_t_isKept t_signs t_parts t_swings t_saltFirst t_paceOfAll t_ice t_salt t_brine t_cold t_warm t_frozen t_layer t_air t_churned t_held t_heldFirst t_stiffWanted t_stiffFirst t_pad) sz) := by
  refine Met.ofW (cc := cX9_boxFault) (maxL := 2) (ret := (some .int)) (by decide) rfl ?_
  intro p e s m args below meth c s₁ B hml hv
  obtain ⟨rfl, hv⟩ := hv
  have hG := hg_of hv
  obtain ⟨hsz, hP, -, hD0, -⟩ := hv
  have hx := B.exec
  have hb := B.bytes
  have hr := B.returns
  have hlk := B.notSynchronized
  have hown : s.vm.findClass RX9 = some m.cls := findClass_of_methodNamed B.named
  have hD := hD0.self (sz := sz)
  have hS : va_S (va_A (woX9_boxFault cI cZ a_t a_t_how a_t_strong a_t_pad a_t_plan a_t_box a_t_instead a_t_flakes a_t_tired a_t_image a_t_isKept t_signs t_parts t_swings t_saltFirst t_paceOfAll t_ice t_salt t_brine t_cold t_warm t_frozen t_layer t_air t_churned t_held t_heldFirst t_stiffWanted t_stiffFirst t_pad) sz) s.heap s.heap [] := va_S.rf
  have L2 : ∀ (fu : Nat) (y1 : Int32) (H : Heap) (locs : List Loc) (ls : Array Slot), f_X9_boxFault_L2 t_signs t_pad fu y1 = some R → va_P (dC, dI) vwCl (woX9_boxFault cI cZ a_t a_t_how a_t_strong a_t_pad a_t_plan a_t_box a_t_instead a_t_flakes a_t_tired a_t_image a_t_isKept t_signs t_parts t_swings t_saltFirst t_paceOfAll t_ice t_salt t_brine t_cold t_warm t_frozen t_layer t_air t_churned t_held t_heldFirst t_stiffWanted t_stiffFirst t_pad) H → va_D (va_A (woX9_boxFault cI cZ a_t a_t_how a_t_strong a_t_pad a_t_plan a_t_box a_t_instead a_t_flakes a_t_tired a_t_image a_t_isKept t_signs t_parts t_swings t_saltFirst t_paceOfAll t_ice t_salt t_brine t_cold t_warm t_frozen t_layer t_air t_churned t_held t_heldFirst t_stiffWanted t_stiffFirst t_pad) sz) (woX9_boxFault cI cZ a_t a_t_how a_t_strong a_t_pad a_t_plan a_t_box a_t_instead a_t_flakes a_t_tired a_t_image a_t_isKept t_signs t_parts t_swings t_saltFirst t_paceOfAll t_ice t_salt t_brine t_cold t_warm t_frozen t_layer t_air t_churned t_held t_heldFirst t_stiffWanted t_stiffFirst t_pad) → va_S (va_A (woX9_boxFault cI cZ a_t a_t_how a_t_strong a_t_pad a_t_plan a_t_box a_t_instead a_t_flakes a_t_tired a_t_image a_t_isKept t_signs t_parts t_swings t_saltFirst t_paceOfAll t_ice t_salt t_brine t_cold t_warm t_frozen t_layer t_air t_churned t_held t_heldFirst t_stiffWanted t_stiffFirst t_pad) sz) s.heap H locs → lv_has ls 2 [(0, .ref a_t), (1, .int y1)] → W p l e (headSpec wyX9_boxFault rmX9_boxFault).room s m ([Value.ref a_t] : List Value).toArray below meth c H locs 0 0 (MQ below (POSTi (dC, dI) R sz (woX9_boxFault cI cZ a_t a_t_how a_t_strong a_t_pad a_t_plan a_t_box a_t_instead a_t_flakes a_t_tired a_t_image a_t_isKept t_signs t_parts t_swings t_saltFirst t_paceOfAll t_ice t_salt t_brine t_cold t_warm t_frozen t_layer t_air t_churned t_held t_heldFirst t_stiffWanted t_stiffFirst t_pad) (woX9_boxFault cI cZ a_t a_t_how a_t_strong a_t_pad a_t_plan a_t_box a_t_instead a_t_flakes a_t_tired a_t_image a_t_isKept t_signs t_parts t_swings t_saltFirst t_paceOfAll t_ice t_salt t_brine t_cold t_warm t_frozen t_layer t_air t_churned t_held t_heldFirst t_stiffWanted t_stiffFirst t_pad)) ([Value.ref a_t] : List Value).toArray s 0 0 (va_A (woX9_boxFault cI cZ a_t a_t_how a_t_strong a_t_pad a_t_plan a_t_box a_t_instead a_t_flakes a_t_tired a_t_image a_t_isKept t_signs t_parts t_swings t_saltFirst t_paceOfAll t_ice t_salt t_brine t_cold t_warm t_frozen t_layer t_air t_churned t_held t_heldFirst t_stiffWanted t_stiffFirst t_pad) sz)) (F0 m 2 ls []) := by
    intro  fu
    induction fu with
    | zero => intro y1 H locs ls hf; cases hf
    | succ fu ih =>
      intro y1 H locs ls hf hP hD hS hl
      rw [f_X9_boxFault_L2] at hf
      refine lv_iload_n hx hb dX9_boxFault_2 rfl (lv_at hl 1 rfl) ?_
      refine lv_aload_n hx hb dX9_boxFault_3 rfl (lv_at hl 0 rfl) ?_
      refine mg (ci := 9) 0 2 hx hb hG igX9 hown hP rfl rfl (by decide) (wd_3_134 hG.2.1) rfl rfl dX9_boxFault_4 ?_
      refine lv_icmp_ge (tgt := 30) hx hb dX9_boxFault_7 (by decide) (fun c1 => ?_) (fun c1 => ?_)
      · have hf := (if_pos c1).symm.trans hf
        refine lv_aload_n hx hb dX9_boxFault_30 rfl (lv_at hl 0 rfl) ?_
        refine mg (ci := 9) 0 2 hx hb hG igX9 hown hP rfl rfl (by decide) (wd_3_134 hG.2.1) rfl rfl dX9_boxFault_31 ?_
        refine lv_if_ne (tgt := 41) hx hb dX9_boxFault_34 (by decide) (fun c2 => ?_) (fun c2 => ?_)
        · have hf := (if_neg c2).symm.trans hf
          refine lv_bipush (v := -6) hx hb dX9_boxFault_41 (by decide) ?_
          have hR := Option.some.inj hf
          rw [← hR]
          exact rt_i hx hb hr hlk hsz hP hD hS rfl rfl dX9_boxFault_43
        · have hf := (if_pos c2).symm.trans hf
          refine lv_iconst (v := 0) hx hb dX9_boxFault_37 (by decide) ?_
          refine lv_goto (tgt := 43) hx hb dX9_boxFault_38 (by decide) ?_
          have hR := Option.some.inj hf
          rw [← hR]
          exact rt_i hx hb hr hlk hsz hP hD hS rfl rfl dX9_boxFault_43
      · have hf := (if_neg c1).symm.trans hf
        refine lv_aload_n hx hb dX9_boxFault_10 rfl (lv_at hl 0 rfl) ?_
        refine mg (ci := 9) 0 3 hx hb hG igX9 hown hP rfl rfl (by decide) (wd_3_135 hG.2.1) rfl rfl dX9_boxFault_11 ?_
        refine lv_iload_n hx hb dX9_boxFault_14 rfl (lv_at hl 1 rfl) ?_
        obtain ⟨g3, hf⟩ := gd_some hf
        refine mal 1 hx hb hG hP rfl g3 dX9_boxFault_15 ?_
        obtain ⟨r16, hc16, hf⟩ := bd1_some hf
        refine cl_Si (r := r16) (As := [.int (t_pad (y1).toNatClampNeg)]) (w1 := []) (wN := (woX9_boxFault cI cZ a_t a_t_how a_t_strong a_t_pad a_t_plan a_t_box a_t_instead a_t_flakes a_t_tired a_t_image a_t_isKept t_signs t_parts t_swings t_saltFirst t_paceOfAll t_ice t_salt t_brine t_cold t_warm t_frozen t_layer t_air t_churned t_held t_heldFirst t_stiffWanted t_stiffFirst t_pad)) [] 0 0 (c_X9_isDigit l dC dI cI cZ ts _ (t_pad (y1).toNatClampNeg) (r16) hc16) ⟨hx, hb, hml, hown, hG.2.1.hts _⟩ ⟨callB_of 1 (hG.2.1.hts _) giX9_isDigit rfl rfl rfl (wd_1_10 hG.2.1) (wd_4_14 hG.2.1) hd_X9_isDigit ⟨Nat.le_of_ble_eq_true rfl, Nat.le_of_ble_eq_true rfl⟩, wd_4_15 hG.2.1⟩ hG hP hD hS rfl rfl rfl rfl rfl hl.1 rfl (Nat.le_of_ble_eq_true rfl) dX9_boxFault_16 ⟨Nat.zero_le _, Nat.zero_le _⟩ (fun H locs hP hD hS => ?_)
        refine lv_if_ne (tgt := 24) hx hb dX9_boxFault_19 (by decide) (fun c4 => ?_) (fun c4 => ?_)
        · have hf := (if_neg c4).symm.trans hf
          refine lv_iinc (v := (y1 + (1 : Int32))) (lv' := [(1, .int (y1 + (1 : Int32))), (0, .ref a_t)]) hx hb dX9_boxFault_24 hl (k := 1) rfl rfl (by decide) rfl (fun ls hl => ?_)
          refine lv_goto (tgt := 2) hx hb dX9_boxFault_27 (by decide) ?_
          exact ih (y1 + (1 : Int32)) _ _ _ hf hP hD hS (lv_sub hl [1, 0] rfl)
        · have hf := (if_pos c4).symm.trans hf
          refine lv_iload_n hx hb dX9_boxFault_22 rfl (lv_at hl 1 rfl) ?_
          have hR := Option.some.inj hf
          rw [← hR]
          exact rt_i hx hb hr hlk hsz hP hD hS rfl rfl dX9_boxFault_23
  have hl := lv_entry ([.ref a_t]) (n := 2) (Nat.le_of_ble_eq_true rfl)
  rw [lg_entry_eq]
  generalize (lg_sl ([.ref a_t]) ++ List.replicate (2 - (lg_sl ([.ref a_t])).length) Slot.unset).toArray = ls at hl ⊢
  have hl : lv_has ls 2 [(0, .ref a_t)] := hl
  unfold f_X9_boxFault at hf
  refine lv_iconst (v := 0) hx hb dX9_boxFault_0 (by decide) ?_
  refine lv_istore_n (lv' := [(1, .int (0 : Int32)), (0, .ref a_t)]) hx hb dX9_boxFault_1 rfl hl (by decide) rfl (fun ls hl => ?_)
  exact L2 FU (0 : Int32) _ _ _ hf hP hD hS (lv_sub hl [1, 0] rfl)
abbrev woX9_fault (cI cZ : ClassId) (a_t a_t_how a_t_strong a_t_pad a_t_plan a_t_box a_t_instead a_t_flakes a_t_tired a_t_image a_t_isKept : Nat) (t_signs : Int32) (t_parts : Int32) (t_swings : Int32) (t_saltFirst : Int32) (t_paceOfAll : Int32) (t_ice : Int32) (t_salt : Int32) (t_brine : Int32) (t_cold : Int32) (t_warm : Int32) (t_frozen : Int32) (t_layer : Int32) (t_air : Int32) (t_churned : Int32) (t_held : Int32) (t_heldFirst : Int32) (t_stiffWanted : Int32) (t_stiffFirst : Int32) (t_pad : Nat → Int32) : va_W := [(a_t, .inr (9, [.ref a_t_how, .ref a_t_strong, .int t_signs, .ref a_t_pad, .int t_parts, .ref a_t_plan, .int t_swings, .ref a_t_box, .ref a_t_instead, .int t_saltFirst, .int t_paceOfAll, .int t_ice, .int t_salt, .int t_brine, .int t_cold, .int t_warm, .int t_frozen, .int t_layer, .int t_air, .int t_churned, .ref a_t_flakes, .ref a_t_tired, .int t_held, .int t_heldFirst, .int t_stiffWanted, .int t_stiffFirst, .ref a_t_image, .ref a_t_isKept])), (a_t_pad, .inl (cI, 40, .inl t_pad))]
abbrev rmX9_fault : Room := { frames := 3, cells := 0, slots := 0, locals := 65 }
theorem hd_X9_fault : yX9_fault.cls ≠ "java/lang/invoke/MethodHandle" ∧ yX9_fault.cls ≠ "java/lang/invoke/VarHandle" ∧ (parseMethodDescriptor yX9_fault.desc).map (fun d => d.parameters.length) = some 1 := by decide +kernel
set_option maxHeartbeats 4000000 in
set_option maxRecDepth 100000 in
theorem c_X9_fault (l : Launch) (dC : Nat → ClassId) (dI : Nat → Nat → Nat) (cI cZ : ClassId) (ts : Nat → Nat) (sz : Nat) (a_t a_t_how a_t_strong a_t_pad a_t_plan a_t_box a_t_instead a_t_flakes a_t_tired a_t_image a_t_isKept : Nat) (t_signs : Int32) (t_parts : Int32) (t_swings : Int32) (t_saltFirst : Int32) (t_paceOfAll : Int32) (t_ice : Int32) (t_salt : Int32) (t_brine : Int32) (t_cold : Int32) (t_warm : Int32) (t_frozen : Int32) (t_layer : Int32) (t_air : Int32) (t_churned : Int32) (t_held : Int32) (t_heldFirst : Int32) (t_stiffWanted : Int32) (t_stiffFirst : Int32) (t_pad : Nat → Int32) (x1 : Int32) (R : Int32) (hf : f_X9_fault t_signs t_pad x1 = some R) : Met l yX9_fault wyX9_fault rmX9_fault (PRE (dC, dI) cI cZ ts [.ref a_t, .int x1] sz (woX9_fault cI cZ a_t a_t_how a_t_strong a_t_pad a_t_plan a_t_box a_t_instead a_t_flakes a_t_tired a_t_image a_t_isKept t_signs t_parts t_swings t_saltFirst t_paceOfAll t_ice t_salt t_brine t_cold t_warm t_frozen t_layer t_air t_churned t_held t_heldFirst t_stiffWanted t_stiffFirst t_pad)) (POSTi (dC, dI) R sz (woX9_fault cI cZ a_t a_t_how a_t_strong a_t_pad a_t_plan a_t_box a_t_instead a_t_flakes a_t_tired a_t_image a_t_isKept t_signs t_parts t_swings t_saltFirst t_paceOfAll t_ice t_salt t_brine t_cold t_warm t_frozen t_layer t_air t_churned t_held t_heldFirst t_stiffWanted t_stiffFirst t_pad) (woX9_fault cI cZ a_t a_t_how a_t_strong a_t_pad a_t_plan a_t_box a_t_instead a_t_flakes a_t_tired a_t_image a_t_isKept t_signs t_parts t_swings t_saltFirst t_paceOfAll t_ice t_salt t_brine t_cold t_warm t_frozen t_layer t_air t_churned t_held t_heldFirst t_stiffWanted t_stiffFirst t_pad)) 0 0 (va_A (woX9_fault cI cZ a_t a_t_how a_t_strong a_t_pad a_t_plan a_t_box a_t_instead a_t_flakes a_t_tired a_t_image a_t_isKept t_signs t_parts t_swings t_saltFirst t_paceOfAll t_ice t_salt t_brine t_cold t_warm t_frozen t_layer t_air t_churned t_held t_heldFirst t_stiffWanted t_stiffFirst t_pad) sz) := by
  refine Met.ofW (cc := cX9_fault) (maxL := 2) (ret := (some .int)) (by decide) rfl ?_
  intro p e s m args below meth c s₁ B hml hv
  obtain ⟨rfl, hv⟩ := hv
  have hG := hg_of hv
  obtain ⟨hsz, hP, -, hD0, -⟩ := hv
  have hx := B.exec
  have hb := B.bytes
  have hr := B.returns
  have hlk := B.notSynchronized
  have hown : s.vm.findClass RX9 = some m.cls := findClass_of_methodNamed B.named
  have hD := hD0.self (sz := sz)
  have hS : va_S (va_A (woX9_fault cI cZ a_t a_t_how a_t_strong a_t_pad a_t_plan a_t_box a_t_instead a_t_flakes a_t_tired a_t_image a_t_isKept t_signs t_parts t_swings t_saltFirst t_paceOfAll t_ice t_salt t_brine t_cold t_warm t_frozen t_layer t_air t_churned t_held t_heldFirst t_stiffWanted t_stiffFirst t_pad) sz) s.heap s.heap [] := va_S.rf
  have hl := lv_entry ([.ref a_t, .int x1]) (n := 2) (Nat.le_of_ble_eq_true rfl)
  rw [lg_entry_eq]
  generalize (lg_sl ([.ref a_t, .int x1]) ++ List.replicate (2 - (lg_sl ([.ref a_t, .int x1])).length) Slot.unset).toArray = ls at hl ⊢
  have hl : lv_has ls 2 [(0, .ref a_t), (1, .int x1)] := hl
  unfold f_X9_fault at hf
  refine lv_iload_n hx hb dX9_fault_0 rfl (lv_at hl 1 rfl) ?_
  refine lv_if_ne (tgt := 11) hx hb dX9_fault_1 (by decide) (fun c1 => ?_) (fun c1 => ?_)
  · have hf := (if_neg c1).symm.trans hf
    refine lv_iload_n hx hb dX9_fault_11 rfl (lv_at hl 1 rfl) ?_
    refine lv_iconst (v := 1) hx hb dX9_fault_12 (by decide) ?_
    refine lv_icmp_ne (tgt := 23) hx hb dX9_fault_13 (by decide) (fun c2 => ?_) (fun c2 => ?_)
    · have hf := (if_neg c2).symm.trans hf
      refine lv_bipush (v := -2) hx hb dX9_fault_23 (by decide) ?_
      have hR := Option.some.inj hf
      rw [← hR]
      exact rt_i hx hb hr hlk hsz hP hD hS rfl rfl dX9_fault_25
    · have hf := (if_pos c2).symm.trans hf
      refine lv_aload_n hx hb dX9_fault_16 rfl (lv_at hl 0 rfl) ?_
      obtain ⟨r17, hc17, hf⟩ := bd1_some hf
      refine cl_Vi (r := r17) (b := a_t) (As := []) (w1 := (woX9_boxFault cI cZ a_t a_t_how a_t_strong a_t_pad a_t_plan a_t_box a_t_instead a_t_flakes a_t_tired a_t_image a_t_isKept t_signs t_parts t_swings t_saltFirst t_paceOfAll t_ice t_salt t_brine t_cold t_warm t_frozen t_layer t_air t_churned t_held t_heldFirst t_stiffWanted t_stiffFirst t_pad)) (wN := (woX9_fault cI cZ a_t a_t_how a_t_strong a_t_pad a_t_plan a_t_box a_t_instead a_t_flakes a_t_tired a_t_image a_t_isKept t_signs t_parts t_swings t_saltFirst t_paceOfAll t_ice t_salt t_brine t_cold t_warm t_frozen t_layer t_air t_churned t_held t_heldFirst t_stiffWanted t_stiffFirst t_pad)) [0, 1] 0 9 (c_X9_boxFault l dC dI cI cZ ts _ a_t a_t_how a_t_strong a_t_pad a_t_plan a_t_box a_t_instead a_t_flakes a_t_tired a_t_image a_t_isKept t_signs t_parts t_swings t_saltFirst t_paceOfAll t_ice t_salt t_brine t_cold t_warm t_frozen t_layer t_air t_churned t_held t_heldFirst t_stiffWanted t_stiffFirst t_pad (r17) hc17) ⟨hx, hb, hml, hown, hG.2.1.hts _⟩ ⟨callB_of 0 (hG.2.1.hts _) giX9_boxFault rfl rfl rfl (wd_1_10 hG.2.1) (wd_4_17 hG.2.1) hd_X9_boxFault ⟨Nat.le_of_ble_eq_true rfl, Nat.le_of_ble_eq_true rfl⟩, wd_4_19 hG.2.1, ws_16 hG.2.1⟩ hG hP hD hS rfl rfl rfl rfl rfl rfl rfl rfl hl.1 rfl (Nat.le_of_ble_eq_true rfl) dX9_fault_17 ⟨Nat.zero_le _, Nat.zero_le _⟩ (fun H locs hP hD hS => ?_)
      refine lv_goto (tgt := 25) hx hb dX9_fault_20 (by decide) ?_
      have hR := Option.some.inj hf
      rw [← hR]
      exact rt_i hx hb hr hlk hsz hP hD hS rfl rfl dX9_fault_25
  · have hf := (if_pos c1).symm.trans hf
    refine lv_aload_n hx hb dX9_fault_4 rfl (lv_at hl 0 rfl) ?_
    obtain ⟨r5, hc5, hf⟩ := bd1_some hf
    refine cl_Vi (r := r5) (b := a_t) (As := []) (w1 := (woX9_planFault cI cZ a_t a_t_how a_t_strong a_t_pad a_t_plan a_t_box a_t_instead a_t_flakes a_t_tired a_t_image a_t_isKept t_signs t_parts t_swings t_saltFirst t_paceOfAll t_ice t_salt t_brine t_cold t_warm t_frozen t_layer t_air t_churned t_held t_heldFirst t_stiffWanted t_stiffFirst t_pad)) (wN := (woX9_fault cI cZ a_t a_t_how a_t_strong a_t_pad a_t_plan a_t_box a_t_instead a_t_flakes a_t_tired a_t_image a_t_isKept t_signs t_parts t_swings t_saltFirst t_paceOfAll t_ice t_salt t_brine t_cold t_warm t_frozen t_layer t_air t_churned t_held t_heldFirst t_stiffWanted t_stiffFirst t_pad)) [0, 1] 0 9 (c_X9_planFault l dC dI cI cZ ts _ a_t a_t_how a_t_strong a_t_pad a_t_plan a_t_box a_t_instead a_t_flakes a_t_tired a_t_image a_t_isKept t_signs t_parts t_swings t_saltFirst t_paceOfAll t_ice t_salt t_brine t_cold t_warm t_frozen t_layer t_air t_churned t_held t_heldFirst t_stiffWanted t_stiffFirst t_pad (r5) hc5) ⟨hx, hb, hml, hown, hG.2.1.hts _⟩ ⟨callB_of 0 (hG.2.1.hts _) giX9_planFault rfl rfl rfl (wd_1_10 hG.2.1) (wd_4_7 hG.2.1) hd_X9_planFault ⟨Nat.le_of_ble_eq_true rfl, Nat.le_of_ble_eq_true rfl⟩, wd_4_9 hG.2.1, ws_15 hG.2.1⟩ hG hP hD hS rfl rfl rfl rfl rfl rfl rfl rfl hl.1 rfl (Nat.le_of_ble_eq_true rfl) dX9_fault_5 ⟨Nat.zero_le _, Nat.zero_le _⟩ (fun H locs hP hD hS => ?_)
    refine lv_goto (tgt := 25) hx hb dX9_fault_8 (by decide) ?_
    have hR := Option.some.inj hf
    rw [← hR]
    exact rt_i hx hb hr hlk hsz hP hD hS rfl rfl dX9_fault_25
abbrev woX9_minutesOf (cI cZ : ClassId) (a_t a_t_how a_t_strong a_t_pad a_t_plan a_t_box a_t_instead a_t_flakes a_t_tired a_t_image a_t_isKept : Nat) (t_signs : Int32) (t_parts : Int32) (t_swings : Int32) (t_saltFirst : Int32) (t_paceOfAll : Int32) (t_ice : Int32) (t_salt : Int32) (t_brine : Int32) (t_cold : Int32) (t_warm : Int32) (t_frozen : Int32) (t_layer : Int32) (t_air : Int32) (t_churned : Int32) (t_held : Int32) (t_heldFirst : Int32) (t_stiffWanted : Int32) (t_stiffFirst : Int32) (t_plan : Nat → Int32) : va_W := [(a_t, .inr (9, [.ref a_t_how, .ref a_t_strong, .int t_signs, .ref a_t_pad, .int t_parts, .ref a_t_plan, .int t_swings, .ref a_t_box, .ref a_t_instead, .int t_saltFirst, .int t_paceOfAll, .int t_ice, .int t_salt, .int t_brine, .int t_cold, .int t_warm, .int t_frozen, .int t_layer, .int t_air, .int t_churned, .ref a_t_flakes, .ref a_t_tired, .int t_held, .int t_heldFirst, .int t_stiffWanted, .int t_stiffFirst, .ref a_t_image, .ref a_t_isKept])), (a_t_plan, .inl (cI, 60, .inl t_plan))]
abbrev rmX9_minutesOf : Room := { frames := 0, cells := 0, slots := 0, locals := 0 }
theorem hd_X9_minutesOf : yX9_minutesOf.cls ≠ "java/lang/invoke/MethodHandle" ∧ yX9_minutesOf.cls ≠ "java/lang/invoke/VarHandle" ∧ (parseMethodDescriptor yX9_minutesOf.desc).map (fun d => d.parameters.length) = some 0 := by decide +kernel
set_option maxHeartbeats 4000000 in
set_option maxRecDepth 100000 in
theorem c_X9_minutesOf (l : Launch) (dC : Nat → ClassId) (dI : Nat → Nat → Nat) (cI cZ : ClassId) (ts : Nat → Nat) (sz : Nat) (a_t a_t_how a_t_strong a_t_pad a_t_plan a_t_box a_t_instead a_t_flakes a_t_tired a_t_image a_t_isKept : Nat) (t_signs : Int32) (t_parts : Int32) (t_swings : Int32) (t_saltFirst : Int32) (t_paceOfAll : Int32) (t_ice : Int32) (t_salt : Int32) (t_brine : Int32) (t_cold : Int32) (t_warm : Int32) (t_frozen : Int32) (t_layer : Int32) (t_air : Int32) (t_churned : Int32) (t_held : Int32) (t_heldFirst : Int32) (t_stiffWanted : Int32) (t_stiffFirst : Int32) (t_plan : Nat → Int32) (R : Int32) (hf : f_X9_minutesOf t_parts t_plan = some R) : Met l yX9_minutesOf wyX9_minutesOf rmX9_minutesOf (PRE (dC, dI) cI cZ ts [.ref a_t] sz (woX9_minutesOf cI cZ a_t a_t_how a_t_strong a_t_pad a_t_plan a_t_box a_t_instead a_t_flakes a_t_tired a_t_image a_t_isKept t_signs t_parts t_swings t_saltFirst t_paceOfAll t_ice t_salt t_brine t_cold t_warm t_frozen t_layer t_air t_churned t_held t_heldFirst t_stiffWanted t_stiffFirst t_plan)) (POSTi (dC, dI) R sz (woX9_minutesOf cI cZ a_t a_t_how a_t_strong a_t_pad a_t_plan a_t_box a_t_instead a_t_flakes a_t_tired a_t_image a_t_isKept t_signs t_parts t_swings t_saltFirst t_paceOfAll t_ice t_salt t_brine t_cold t_warm t_frozen t_layer t_air t_churned t_held t_heldFirst t_stiffWanted t_stiffFirst t_plan) (woX9_minutesOf cI cZ a_t a_t_how a_t_strong a_t_pad a_t_plan a_t_box a_t_instead a_t_flakes a_t_tired a_t_image a_t_isKept t_signs t_parts t_swings t_saltFirst t_paceOfAll t_ice t_salt t_brine t_cold t_warm t_frozen t_layer t_air t_churned t_held t_heldFirst t_stiffWanted t_stiffFirst t_plan)) 0 0 (va_A (woX9_minutesOf cI cZ a_t a_t_how a_t_strong a_t_pad a_t_plan a_t_box a_t_instead a_t_flakes a_t_tired a_t_image a_t_isKept t_signs t_parts t_swings t_saltFirst t_paceOfAll t_ice t_salt t_brine t_cold t_warm t_frozen t_layer t_air t_churned t_held t_heldFirst t_stiffWanted t_stiffFirst t_plan) sz) := by
  refine Met.ofW (cc := cX9_minutesOf) (maxL := 3) (ret := (some .int)) (by decide) rfl ?_
  intro p e s m args below meth c s₁ B hml hv
  obtain ⟨rfl, hv⟩ := hv
  have hG := hg_of hv
  obtain ⟨hsz, hP, -, hD0, -⟩ := hv
  have hx := B.exec
  have hb := B.bytes
  have hr := B.returns
  have hlk := B.notSynchronized
  have hown : s.vm.findClass RX9 = some m.cls := findClass_of_methodNamed B.named
  have hD := hD0.self (sz := sz)
  have hS : va_S (va_A (woX9_minutesOf cI cZ a_t a_t_how a_t_strong a_t_pad a_t_plan a_t_box a_t_instead a_t_flakes a_t_tired a_t_image a_t_isKept t_signs t_parts t_swings t_saltFirst t_paceOfAll t_ice t_salt t_brine t_cold t_warm t_frozen t_layer t_air t_churned t_held t_heldFirst t_stiffWanted t_stiffFirst t_plan) sz) s.heap s.heap [] := va_S.rf
  have L4 : ∀ (fu : Nat) (y1 : Int32) (y2 : Int32) (H : Heap) (locs : List Loc) (ls : Array Slot), f_X9_minutesOf_L4 t_parts t_plan fu y1 y2 = some R → va_P (dC, dI) vwCl (woX9_minutesOf cI cZ a_t a_t_how a_t_strong a_t_pad a_t_plan a_t_box a_t_instead a_t_flakes a_t_tired a_t_image a_t_isKept t_signs t_parts t_swings t_saltFirst t_paceOfAll t_ice t_salt t_brine t_cold t_warm t_frozen t_layer t_air t_churned t_held t_heldFirst t_stiffWanted t_stiffFirst t_plan) H → va_D (va_A (woX9_minutesOf cI cZ a_t a_t_how a_t_strong a_t_pad a_t_plan a_t_box a_t_instead a_t_flakes a_t_tired a_t_image a_t_isKept t_signs t_parts t_swings t_saltFirst t_paceOfAll t_ice t_salt t_brine t_cold t_warm t_frozen t_layer t_air t_churned t_held t_heldFirst t_stiffWanted t_stiffFirst t_plan) sz) (woX9_minutesOf cI cZ a_t a_t_how a_t_strong a_t_pad a_t_plan a_t_box a_t_instead a_t_flakes a_t_tired a_t_image a_t_isKept t_signs t_parts t_swings t_saltFirst t_paceOfAll t_ice t_salt t_brine t_cold t_warm t_frozen t_layer t_air t_churned t_held t_heldFirst t_stiffWanted t_stiffFirst t_plan) → va_S (va_A (woX9_minutesOf cI cZ a_t a_t_how a_t_strong a_t_pad a_t_plan a_t_box a_t_instead a_t_flakes a_t_tired a_t_image a_t_isKept t_signs t_parts t_swings t_saltFirst t_paceOfAll t_ice t_salt t_brine t_cold t_warm t_frozen t_layer t_air t_churned t_held t_heldFirst t_stiffWanted t_stiffFirst t_plan) sz) s.heap H locs → lv_has ls 3 [(0, .ref a_t), (1, .int y1), (2, .int y2)] → W p l e (headSpec wyX9_minutesOf rmX9_minutesOf).room s m ([Value.ref a_t] : List Value).toArray below meth c H locs 0 0 (MQ below (POSTi (dC, dI) R sz (woX9_minutesOf cI cZ a_t a_t_how a_t_strong a_t_pad a_t_plan a_t_box a_t_instead a_t_flakes a_t_tired a_t_image a_t_isKept t_signs t_parts t_swings t_saltFirst t_paceOfAll t_ice t_salt t_brine t_cold t_warm t_frozen t_layer t_air t_churned t_held t_heldFirst t_stiffWanted t_stiffFirst t_plan) (woX9_minutesOf cI cZ a_t a_t_how a_t_strong a_t_pad a_t_plan a_t_box a_t_instead a_t_flakes a_t_tired a_t_image a_t_isKept t_signs t_parts t_swings t_saltFirst t_paceOfAll t_ice t_salt t_brine t_cold t_warm t_frozen t_layer t_air t_churned t_held t_heldFirst t_stiffWanted t_stiffFirst t_plan)) ([Value.ref a_t] : List Value).toArray s 0 0 (va_A (woX9_minutesOf cI cZ a_t a_t_how a_t_strong a_t_pad a_t_plan a_t_box a_t_instead a_t_flakes a_t_tired a_t_image a_t_isKept t_signs t_parts t_swings t_saltFirst t_paceOfAll t_ice t_salt t_brine t_cold t_warm t_frozen t_layer t_air t_churned t_held t_heldFirst t_stiffWanted t_stiffFirst t_plan) sz)) (F0 m 4 ls []) := by
    intro  fu
    induction fu with
    | zero => intro y1 y2 H locs ls hf; cases hf
    | succ fu ih =>
      intro y1 y2 H locs ls hf hP hD hS hl
      rw [f_X9_minutesOf_L4] at hf
      refine lv_iload_n hx hb dX9_minutesOf_4 rfl (lv_at hl 2 rfl) ?_
      refine lv_aload_n hx hb dX9_minutesOf_5 rfl (lv_at hl 0 rfl) ?_
      refine mg (ci := 9) 0 4 hx hb hG igX9 hown hP rfl rfl (by decide) (wd_3_136 hG.2.1) rfl rfl dX9_minutesOf_6 ?_
      refine lv_icmp_ge (tgt := 47) hx hb dX9_minutesOf_9 (by decide) (fun c1 => ?_) (fun c1 => ?_)
      · have hf := (if_pos c1).symm.trans hf
        refine lv_iload_n hx hb dX9_minutesOf_47 rfl (lv_at hl 1 rfl) ?_
        have hR := Option.some.inj hf
        rw [← hR]
        exact rt_i hx hb hr hlk hsz hP hD hS rfl rfl dX9_minutesOf_48
      · have hf := (if_neg c1).symm.trans hf
        refine lv_iload_n hx hb dX9_minutesOf_12 rfl (lv_at hl 1 rfl) ?_
        refine lv_aload_n hx hb dX9_minutesOf_13 rfl (lv_at hl 0 rfl) ?_
        refine mg (ci := 9) 0 5 hx hb hG igX9 hown hP rfl rfl (by decide) (wd_3_137 hG.2.1) rfl rfl dX9_minutesOf_14 ?_
        refine lv_iconst (v := 3) hx hb dX9_minutesOf_17 (by decide) ?_
        refine lv_iload_n hx hb dX9_minutesOf_18 rfl (lv_at hl 2 rfl) ?_
        refine lv_imul hx hb dX9_minutesOf_19 ?_
        obtain ⟨g2, hf⟩ := gd_some hf
        refine mal 1 hx hb hG hP rfl g2 dX9_minutesOf_20 ?_
        refine lv_iconst (v := 5) hx hb dX9_minutesOf_21 (by decide) ?_
        refine lv_icmp_ne (tgt := 29) hx hb dX9_minutesOf_22 (by decide) (fun c3 => ?_) (fun c3 => ?_)
        · have hf := (if_neg c3).symm.trans hf
          refine lv_aload_n hx hb dX9_minutesOf_29 rfl (lv_at hl 0 rfl) ?_
          refine mg (ci := 9) 0 5 hx hb hG igX9 hown hP rfl rfl (by decide) (wd_3_137 hG.2.1) rfl rfl dX9_minutesOf_30 ?_
          refine lv_iconst (v := 3) hx hb dX9_minutesOf_33 (by decide) ?_
          refine lv_iload_n hx hb dX9_minutesOf_34 rfl (lv_at hl 2 rfl) ?_
          refine lv_imul hx hb dX9_minutesOf_35 ?_
          refine lv_iconst (v := 2) hx hb dX9_minutesOf_36 (by decide) ?_
          refine lv_iadd hx hb dX9_minutesOf_37 ?_
          obtain ⟨g4, hf⟩ := gd_some hf
          refine mal 1 hx hb hG hP rfl g4 dX9_minutesOf_38 ?_
          refine lv_iadd hx hb dX9_minutesOf_39 ?_
          refine lv_istore_n (lv' := [(1, .int (y1 + (t_plan ((((3 : Int32) * y2) + (2 : Int32))).toNatClampNeg))), (0, .ref a_t), (2, .int y2)]) hx hb dX9_minutesOf_40 rfl hl (by decide) rfl (fun ls hl => ?_)
          refine lv_iinc (v := (y2 + (1 : Int32))) (lv' := [(2, .int (y2 + (1 : Int32))), (1, .int (y1 + (t_plan ((((3 : Int32) * y2) + (2 : Int32))).toNatClampNeg))), (0, .ref a_t)]) hx hb dX9_minutesOf_41 hl (k := 2) rfl rfl (by decide) rfl (fun ls hl => ?_)
          refine lv_goto (tgt := 4) hx hb dX9_minutesOf_44 (by decide) ?_
          exact ih (y1 + (t_plan ((((3 : Int32) * y2) + (2 : Int32))).toNatClampNeg)) (y2 + (1 : Int32)) _ _ _ hf hP hD hS (lv_sub hl [2, 1, 0] rfl)
        · have hf := (if_pos c3).symm.trans hf
          refine lv_iconst (v := 0) hx hb dX9_minutesOf_25 (by decide) ?_
          refine lv_goto (tgt := 39) hx hb dX9_minutesOf_26 (by decide) ?_
          refine lv_iadd hx hb dX9_minutesOf_39 ?_
          refine lv_istore_n (lv' := [(1, .int (y1 + (0 : Int32))), (0, .ref a_t), (2, .int y2)]) hx hb dX9_minutesOf_40 rfl hl (by decide) rfl (fun ls hl => ?_)
          refine lv_iinc (v := (y2 + (1 : Int32))) (lv' := [(2, .int (y2 + (1 : Int32))), (1, .int (y1 + (0 : Int32))), (0, .ref a_t)]) hx hb dX9_minutesOf_41 hl (k := 2) rfl rfl (by decide) rfl (fun ls hl => ?_)
          refine lv_goto (tgt := 4) hx hb dX9_minutesOf_44 (by decide) ?_
          exact ih (y1 + (0 : Int32)) (y2 + (1 : Int32)) _ _ _ hf hP hD hS (lv_sub hl [2, 1, 0] rfl)
  have hl := lv_entry ([.ref a_t]) (n := 3) (Nat.le_of_ble_eq_true rfl)
  rw [lg_entry_eq]
  generalize (lg_sl ([.ref a_t]) ++ List.replicate (3 - (lg_sl ([.ref a_t])).length) Slot.unset).toArray = ls at hl ⊢
  have hl : lv_has ls 3 [(0, .ref a_t)] := hl
  unfold f_X9_minutesOf at hf
  refine lv_iconst (v := 0) hx hb dX9_minutesOf_0 (by decide) ?_
  refine lv_istore_n (lv' := [(1, .int (0 : Int32)), (0, .ref a_t)]) hx hb dX9_minutesOf_1 rfl hl (by decide) rfl (fun ls hl => ?_)
  refine lv_iconst (v := 0) hx hb dX9_minutesOf_2 (by decide) ?_
  refine lv_istore_n (lv' := [(2, .int (0 : Int32)), (1, .int (0 : Int32)), (0, .ref a_t)]) hx hb dX9_minutesOf_3 rfl hl (by decide) rfl (fun ls hl => ?_)
  exact L4 FU (0 : Int32) (0 : Int32) _ _ _ hf hP hD hS (lv_sub hl [2, 1, 0] rfl)
abbrev woX9_plan (cI cZ : ClassId) (a_t a_t_how a_t_strong a_t_pad a_t_plan a_t_box a_t_instead a_t_flakes a_t_tired a_t_image a_t_isKept : Nat) (t_signs : Int32) (t_parts : Int32) (t_swings : Int32) (t_saltFirst : Int32) (t_paceOfAll : Int32) (t_ice : Int32) (t_salt : Int32) (t_brine : Int32) (t_cold : Int32) (t_warm : Int32) (t_frozen : Int32) (t_layer : Int32) (t_air : Int32) (t_churned : Int32) (t_held : Int32) (t_heldFirst : Int32) (t_stiffWanted : Int32) (t_stiffFirst : Int32) (t_pad : Nat → Int32) (t_plan : Nat → Int32) : va_W := [(a_t, .inr (9, [.ref a_t_how, .ref a_t_strong, .int t_signs, .ref a_t_pad, .int t_parts, .ref a_t_plan, .int t_swings, .ref a_t_box, .ref a_t_instead, .int t_saltFirst, .int t_paceOfAll, .int t_ice, .int t_salt, .int t_brine, .int t_cold, .int t_warm, .int t_frozen, .int t_layer, .int t_air, .int t_churned, .ref a_t_flakes, .ref a_t_tired, .int t_held, .int t_heldFirst, .int t_stiffWanted, .int t_stiffFirst, .ref a_t_image, .ref a_t_isKept])), (a_t_pad, .inl (cI, 40, .inl t_pad)), (a_t_plan, .inl (cI, 60, .inl t_plan))]
abbrev rmX9_plan : Room := { frames := 3, cells := 0, slots := 0, locals := 65 }
theorem hd_X9_plan : yX9_plan.cls ≠ "java/lang/invoke/MethodHandle" ∧ yX9_plan.cls ≠ "java/lang/invoke/VarHandle" ∧ (parseMethodDescriptor yX9_plan.desc).map (fun d => d.parameters.length) = some 0 := by decide +kernel
set_option maxHeartbeats 4000000 in
set_option maxRecDepth 100000 in
theorem c_X9_plan (l : Launch) (dC : Nat → ClassId) (dI : Nat → Nat → Nat) (cI cZ : ClassId) (ts : Nat → Nat) (sz : Nat) (a_t a_t_how a_t_strong a_t_pad a_t_plan a_t_box a_t_instead a_t_flakes a_t_tired a_t_image a_t_isKept : Nat) (t_signs : Int32) (t_parts : Int32) (t_swings : Int32) (t_saltFirst : Int32) (t_paceOfAll : Int32) (t_ice : Int32) (t_salt : Int32) (t_brine : Int32) (t_cold : Int32) (t_warm : Int32) (t_frozen : Int32) (t_layer : Int32) (t_air : Int32) (t_churned : Int32) (t_held : Int32) (t_heldFirst : Int32) (t_stiffWanted : Int32) (t_stiffFirst : Int32) (t_pad : Nat → Int32) (t_plan : Nat → Int32) (R : Int32 × Int32 × Int32 × (Nat → Int32)) (hf : f_X9_plan t_signs t_parts t_pad t_plan = some R) : Met l yX9_plan wyX9_plan rmX9_plan (PRE (dC, dI) cI cZ ts [.ref a_t] sz (woX9_plan cI cZ a_t a_t_how a_t_strong a_t_pad a_t_plan a_t_box a_t_instead a_t_flakes a_t_tired a_t_image a_t_isKept t_signs t_parts t_swings t_saltFirst t_paceOfAll t_ice t_salt t_brine t_cold t_warm t_frozen t_layer t_air t_churned t_held t_heldFirst t_stiffWanted t_stiffFirst t_pad t_plan)) (POSTi (dC, dI) R.1 sz (woX9_plan cI cZ a_t a_t_how a_t_strong a_t_pad a_t_plan a_t_box a_t_instead a_t_flakes a_t_tired a_t_image a_t_isKept t_signs t_parts t_swings t_saltFirst t_paceOfAll t_ice t_salt t_brine t_cold t_warm t_frozen t_layer t_air t_churned t_held t_heldFirst t_stiffWanted t_stiffFirst t_pad t_plan) (woX9_plan cI cZ a_t a_t_how a_t_strong a_t_pad a_t_plan a_t_box a_t_instead a_t_flakes a_t_tired a_t_image a_t_isKept R.2.1 R.2.2.1 t_swings t_saltFirst t_paceOfAll t_ice t_salt t_brine t_cold t_warm t_frozen t_layer t_air t_churned t_held t_heldFirst t_stiffWanted t_stiffFirst t_pad R.2.2.2)) 0 0 (va_A (woX9_plan cI cZ a_t a_t_how a_t_strong a_t_pad a_t_plan a_t_box a_t_instead a_t_flakes a_t_tired a_t_image a_t_isKept t_signs t_parts t_swings t_saltFirst t_paceOfAll t_ice t_salt t_brine t_cold t_warm t_frozen t_layer t_air t_churned t_held t_heldFirst t_stiffWanted t_stiffFirst t_pad t_plan) sz) := by
  refine Met.ofW (cc := cX9_plan) (maxL := 3) (ret := (some .int)) (by decide) rfl ?_
  intro p e s m args below meth c s₁ B hml hv
  obtain ⟨rfl, hv⟩ := hv
  have hG := hg_of hv
  obtain ⟨hsz, hP, -, hD0, -⟩ := hv
  have hx := B.exec
  have hb := B.bytes
  have hr := B.returns
  have hlk := B.notSynchronized
  have hown : s.vm.findClass RX9 = some m.cls := findClass_of_methodNamed B.named
  have hD := hD0.self (sz := sz)
  have hS : va_S (va_A (woX9_plan cI cZ a_t a_t_how a_t_strong a_t_pad a_t_plan a_t_box a_t_instead a_t_flakes a_t_tired a_t_image a_t_isKept t_signs t_parts t_swings t_saltFirst t_paceOfAll t_ice t_salt t_brine t_cold t_warm t_frozen t_layer t_air t_churned t_held t_heldFirst t_stiffWanted t_stiffFirst t_pad t_plan) sz) s.heap s.heap [] := va_S.rf
  have L151 : ∀ (rc17 : Int32 → Int32 → Int32 → (Nat → Int32) → Option (Int32 × Int32 × Int32 × (Nat → Int32))), (∀ (y1 : Int32) (v_t_signs : Int32) (v_t_parts : Int32) (v_t_plan : Nat → Int32) (H : Heap) (locs : List Loc) (ls : Array Slot), rc17 y1 v_t_signs v_t_parts v_t_plan = some R → va_P (dC, dI) vwCl (woX9_plan cI cZ a_t a_t_how a_t_strong a_t_pad a_t_plan a_t_box a_t_instead a_t_flakes a_t_tired a_t_image a_t_isKept v_t_signs v_t_parts t_swings t_saltFirst t_paceOfAll t_ice t_salt t_brine t_cold t_warm t_frozen t_layer t_air t_churned t_held t_heldFirst t_stiffWanted t_stiffFirst t_pad v_t_plan) H → va_D (va_A (woX9_plan cI cZ a_t a_t_how a_t_strong a_t_pad a_t_plan a_t_box a_t_instead a_t_flakes a_t_tired a_t_image a_t_isKept t_signs t_parts t_swings t_saltFirst t_paceOfAll t_ice t_salt t_brine t_cold t_warm t_frozen t_layer t_air t_churned t_held t_heldFirst t_stiffWanted t_stiffFirst t_pad t_plan) sz) (woX9_plan cI cZ a_t a_t_how a_t_strong a_t_pad a_t_plan a_t_box a_t_instead a_t_flakes a_t_tired a_t_image a_t_isKept v_t_signs v_t_parts t_swings t_saltFirst t_paceOfAll t_ice t_salt t_brine t_cold t_warm t_frozen t_layer t_air t_churned t_held t_heldFirst t_stiffWanted t_stiffFirst t_pad v_t_plan) → va_S (va_A (woX9_plan cI cZ a_t a_t_how a_t_strong a_t_pad a_t_plan a_t_box a_t_instead a_t_flakes a_t_tired a_t_image a_t_isKept t_signs t_parts t_swings t_saltFirst t_paceOfAll t_ice t_salt t_brine t_cold t_warm t_frozen t_layer t_air t_churned t_held t_heldFirst t_stiffWanted t_stiffFirst t_pad t_plan) sz) s.heap H locs → lv_has ls 3 [(0, .ref a_t), (1, .int y1)] → W p l e (headSpec wyX9_plan rmX9_plan).room s m ([Value.ref a_t] : List Value).toArray below meth c H locs 0 0 (MQ below (POSTi (dC, dI) R.1 sz (woX9_plan cI cZ a_t a_t_how a_t_strong a_t_pad a_t_plan a_t_box a_t_instead a_t_flakes a_t_tired a_t_image a_t_isKept t_signs t_parts t_swings t_saltFirst t_paceOfAll t_ice t_salt t_brine t_cold t_warm t_frozen t_layer t_air t_churned t_held t_heldFirst t_stiffWanted t_stiffFirst t_pad t_plan) (woX9_plan cI cZ a_t a_t_how a_t_strong a_t_pad a_t_plan a_t_box a_t_instead a_t_flakes a_t_tired a_t_image a_t_isKept R.2.1 R.2.2.1 t_swings t_saltFirst t_paceOfAll t_ice t_salt t_brine t_cold t_warm t_frozen t_layer t_air t_churned t_held t_heldFirst t_stiffWanted t_stiffFirst t_pad R.2.2.2)) ([Value.ref a_t] : List Value).toArray s 0 0 (va_A (woX9_plan cI cZ a_t a_t_how a_t_strong a_t_pad a_t_plan a_t_box a_t_instead a_t_flakes a_t_tired a_t_image a_t_isKept t_signs t_parts t_swings t_saltFirst t_paceOfAll t_ice t_salt t_brine t_cold t_warm t_frozen t_layer t_air t_churned t_held t_heldFirst t_stiffWanted t_stiffFirst t_pad t_plan) sz)) (F0 m 17 ls [])) → ∀ (z0 : Int32) (z1 : Int32) (v_t_signs : Int32) (v_t_parts : Int32) (v_t_plan : Nat → Int32) (H : Heap) (locs : List Loc) (ls : Array Slot), f_X9_plan_L151 rc17 t_pad z0 z1 v_t_signs v_t_parts v_t_plan = some R → va_P (dC, dI) vwCl (woX9_plan cI cZ a_t a_t_how a_t_strong a_t_pad a_t_plan a_t_box a_t_instead a_t_flakes a_t_tired a_t_image a_t_isKept v_t_signs v_t_parts t_swings t_saltFirst t_paceOfAll t_ice t_salt t_brine t_cold t_warm t_frozen t_layer t_air t_churned t_held t_heldFirst t_stiffWanted t_stiffFirst t_pad v_t_plan) H → va_D (va_A (woX9_plan cI cZ a_t a_t_how a_t_strong a_t_pad a_t_plan a_t_box a_t_instead a_t_flakes a_t_tired a_t_image a_t_isKept t_signs t_parts t_swings t_saltFirst t_paceOfAll t_ice t_salt t_brine t_cold t_warm t_frozen t_layer t_air t_churned t_held t_heldFirst t_stiffWanted t_stiffFirst t_pad t_plan) sz) (woX9_plan cI cZ a_t a_t_how a_t_strong a_t_pad a_t_plan a_t_box a_t_instead a_t_flakes a_t_tired a_t_image a_t_isKept v_t_signs v_t_parts t_swings t_saltFirst t_paceOfAll t_ice t_salt t_brine t_cold t_warm t_frozen t_layer t_air t_churned t_held t_heldFirst t_stiffWanted t_stiffFirst t_pad v_t_plan) → va_S (va_A (woX9_plan cI cZ a_t a_t_how a_t_strong a_t_pad a_t_plan a_t_box a_t_instead a_t_flakes a_t_tired a_t_image a_t_isKept t_signs t_parts t_swings t_saltFirst t_paceOfAll t_ice t_salt t_brine t_cold t_warm t_frozen t_layer t_air t_churned t_held t_heldFirst t_stiffWanted t_stiffFirst t_pad t_plan) sz) s.heap H locs → lv_has ls 3 [(0, .ref a_t)] → W p l e (headSpec wyX9_plan rmX9_plan).room s m ([Value.ref a_t] : List Value).toArray below meth c H locs 0 0 (MQ below (POSTi (dC, dI) R.1 sz (woX9_plan cI cZ a_t a_t_how a_t_strong a_t_pad a_t_plan a_t_box a_t_instead a_t_flakes a_t_tired a_t_image a_t_isKept t_signs t_parts t_swings t_saltFirst t_paceOfAll t_ice t_salt t_brine t_cold t_warm t_frozen t_layer t_air t_churned t_held t_heldFirst t_stiffWanted t_stiffFirst t_pad t_plan) (woX9_plan cI cZ a_t a_t_how a_t_strong a_t_pad a_t_plan a_t_box a_t_instead a_t_flakes a_t_tired a_t_image a_t_isKept R.2.1 R.2.2.1 t_swings t_saltFirst t_paceOfAll t_ice t_salt t_brine t_cold t_warm t_frozen t_layer t_air t_churned t_held t_heldFirst t_stiffWanted t_stiffFirst t_pad R.2.2.2)) ([Value.ref a_t] : List Value).toArray s 0 0 (va_A (woX9_plan cI cZ a_t a_t_how a_t_strong a_t_pad a_t_plan a_t_box a_t_instead a_t_flakes a_t_tired a_t_image a_t_isKept t_signs t_parts t_swings t_saltFirst t_paceOfAll t_ice t_salt t_brine t_cold t_warm t_frozen t_layer t_air t_churned t_held t_heldFirst t_stiffWanted t_stiffFirst t_pad t_plan) sz)) (F0 m 151 ls [.int z1, .int z0]) := by
    intro rc17 hrc17 z0 z1 v_t_signs v_t_parts v_t_plan H locs ls hf hP hD hS hl
    unfold f_X9_plan_L151 at hf
    refine lv_iadd hx hb dX9_plan_151 ?_
    refine lv_istore_n (lv' := [(1, .int (z0 + z1)), (0, .ref a_t)]) hx hb dX9_plan_152 rfl hl (by decide) rfl (fun ls hl => ?_)
    refine lv_aload_n hx hb dX9_plan_153 rfl (lv_at hl 1 rfl) ?_
    refine lv_dup hx hb dX9_plan_154 rfl ?_
    refine mg (ci := 9) 0 4 hx hb hG igX9 hown hP rfl rfl (by decide) (wd_3_136 hG.2.1) rfl rfl dX9_plan_155 ?_
    refine lv_iconst (v := 1) hx hb dX9_plan_158 (by decide) ?_
    refine lv_iadd hx hb dX9_plan_159 ?_
    refine mp (ci := 9) (wN := (woX9_plan cI cZ a_t a_t_how a_t_strong a_t_pad a_t_plan a_t_box a_t_instead a_t_flakes a_t_tired a_t_image a_t_isKept v_t_signs (v_t_parts + (1 : Int32)) t_swings t_saltFirst t_paceOfAll t_ice t_salt t_brine t_cold t_warm t_frozen t_layer t_air t_churned t_held t_heldFirst t_stiffWanted t_stiffFirst t_pad v_t_plan)) 0 4 hx hb hG igX9 tyX9 tyX9_ok nmX9 hown hP hD hS rfl rfl (by decide) (wd_3_136 hG.2.1) rfl rfl rfl rfl rfl (Nat.le_of_ble_eq_true rfl) rfl dX9_plan_160 (fun H locs hP hD hS => ?_)
    refine lv_goto (tgt := 17) hx hb dX9_plan_163 (by decide) ?_
    exact hrc17 (z0 + z1) v_t_signs (v_t_parts + (1 : Int32)) v_t_plan _ _ _ hf hP hD hS (lv_sub hl [1, 0] rfl)
  have L140 : ∀ (rc17 : Int32 → Int32 → Int32 → (Nat → Int32) → Option (Int32 × Int32 × Int32 × (Nat → Int32))), (∀ (y1 : Int32) (v_t_signs : Int32) (v_t_parts : Int32) (v_t_plan : Nat → Int32) (H : Heap) (locs : List Loc) (ls : Array Slot), rc17 y1 v_t_signs v_t_parts v_t_plan = some R → va_P (dC, dI) vwCl (woX9_plan cI cZ a_t a_t_how a_t_strong a_t_pad a_t_plan a_t_box a_t_instead a_t_flakes a_t_tired a_t_image a_t_isKept v_t_signs v_t_parts t_swings t_saltFirst t_paceOfAll t_ice t_salt t_brine t_cold t_warm t_frozen t_layer t_air t_churned t_held t_heldFirst t_stiffWanted t_stiffFirst t_pad v_t_plan) H → va_D (va_A (woX9_plan cI cZ a_t a_t_how a_t_strong a_t_pad a_t_plan a_t_box a_t_instead a_t_flakes a_t_tired a_t_image a_t_isKept t_signs t_parts t_swings t_saltFirst t_paceOfAll t_ice t_salt t_brine t_cold t_warm t_frozen t_layer t_air t_churned t_held t_heldFirst t_stiffWanted t_stiffFirst t_pad t_plan) sz) (woX9_plan cI cZ a_t a_t_how a_t_strong a_t_pad a_t_plan a_t_box a_t_instead a_t_flakes a_t_tired a_t_image a_t_isKept v_t_signs v_t_parts t_swings t_saltFirst t_paceOfAll t_ice t_salt t_brine t_cold t_warm t_frozen t_layer t_air t_churned t_held t_heldFirst t_stiffWanted t_stiffFirst t_pad v_t_plan) → va_S (va_A (woX9_plan cI cZ a_t a_t_how a_t_strong a_t_pad a_t_plan a_t_box a_t_instead a_t_flakes a_t_tired a_t_image a_t_isKept t_signs t_parts t_swings t_saltFirst t_paceOfAll t_ice t_salt t_brine t_cold t_warm t_frozen t_layer t_air t_churned t_held t_heldFirst t_stiffWanted t_stiffFirst t_pad t_plan) sz) s.heap H locs → lv_has ls 3 [(0, .ref a_t), (1, .int y1)] → W p l e (headSpec wyX9_plan rmX9_plan).room s m ([Value.ref a_t] : List Value).toArray below meth c H locs 0 0 (MQ below (POSTi (dC, dI) R.1 sz (woX9_plan cI cZ a_t a_t_how a_t_strong a_t_pad a_t_plan a_t_box a_t_instead a_t_flakes a_t_tired a_t_image a_t_isKept t_signs t_parts t_swings t_saltFirst t_paceOfAll t_ice t_salt t_brine t_cold t_warm t_frozen t_layer t_air t_churned t_held t_heldFirst t_stiffWanted t_stiffFirst t_pad t_plan) (woX9_plan cI cZ a_t a_t_how a_t_strong a_t_pad a_t_plan a_t_box a_t_instead a_t_flakes a_t_tired a_t_image a_t_isKept R.2.1 R.2.2.1 t_swings t_saltFirst t_paceOfAll t_ice t_salt t_brine t_cold t_warm t_frozen t_layer t_air t_churned t_held t_heldFirst t_stiffWanted t_stiffFirst t_pad R.2.2.2)) ([Value.ref a_t] : List Value).toArray s 0 0 (va_A (woX9_plan cI cZ a_t a_t_how a_t_strong a_t_pad a_t_plan a_t_box a_t_instead a_t_flakes a_t_tired a_t_image a_t_isKept t_signs t_parts t_swings t_saltFirst t_paceOfAll t_ice t_salt t_brine t_cold t_warm t_frozen t_layer t_air t_churned t_held t_heldFirst t_stiffWanted t_stiffFirst t_pad t_plan) sz)) (F0 m 17 ls [])) → ∀ (z1 : Int32) (z2 : Int32) (y1 : Int32) (y2 : Int32) (v_t_signs : Int32) (v_t_parts : Int32) (v_t_plan : Nat → Int32) (H : Heap) (locs : List Loc) (ls : Array Slot), f_X9_plan_L140 rc17 t_pad z1 z2 y1 y2 v_t_signs v_t_parts v_t_plan = some R → va_P (dC, dI) vwCl (woX9_plan cI cZ a_t a_t_how a_t_strong a_t_pad a_t_plan a_t_box a_t_instead a_t_flakes a_t_tired a_t_image a_t_isKept v_t_signs v_t_parts t_swings t_saltFirst t_paceOfAll t_ice t_salt t_brine t_cold t_warm t_frozen t_layer t_air t_churned t_held t_heldFirst t_stiffWanted t_stiffFirst t_pad v_t_plan) H → va_D (va_A (woX9_plan cI cZ a_t a_t_how a_t_strong a_t_pad a_t_plan a_t_box a_t_instead a_t_flakes a_t_tired a_t_image a_t_isKept t_signs t_parts t_swings t_saltFirst t_paceOfAll t_ice t_salt t_brine t_cold t_warm t_frozen t_layer t_air t_churned t_held t_heldFirst t_stiffWanted t_stiffFirst t_pad t_plan) sz) (woX9_plan cI cZ a_t a_t_how a_t_strong a_t_pad a_t_plan a_t_box a_t_instead a_t_flakes a_t_tired a_t_image a_t_isKept v_t_signs v_t_parts t_swings t_saltFirst t_paceOfAll t_ice t_salt t_brine t_cold t_warm t_frozen t_layer t_air t_churned t_held t_heldFirst t_stiffWanted t_stiffFirst t_pad v_t_plan) → va_S (va_A (woX9_plan cI cZ a_t a_t_how a_t_strong a_t_pad a_t_plan a_t_box a_t_instead a_t_flakes a_t_tired a_t_image a_t_isKept t_signs t_parts t_swings t_saltFirst t_paceOfAll t_ice t_salt t_brine t_cold t_warm t_frozen t_layer t_air t_churned t_held t_heldFirst t_stiffWanted t_stiffFirst t_pad t_plan) sz) s.heap H locs → lv_has ls 3 [(0, .ref a_t), (1, .int y1), (2, .int y2)] → W p l e (headSpec wyX9_plan rmX9_plan).room s m ([Value.ref a_t] : List Value).toArray below meth c H locs 0 0 (MQ below (POSTi (dC, dI) R.1 sz (woX9_plan cI cZ a_t a_t_how a_t_strong a_t_pad a_t_plan a_t_box a_t_instead a_t_flakes a_t_tired a_t_image a_t_isKept t_signs t_parts t_swings t_saltFirst t_paceOfAll t_ice t_salt t_brine t_cold t_warm t_frozen t_layer t_air t_churned t_held t_heldFirst t_stiffWanted t_stiffFirst t_pad t_plan) (woX9_plan cI cZ a_t a_t_how a_t_strong a_t_pad a_t_plan a_t_box a_t_instead a_t_flakes a_t_tired a_t_image a_t_isKept R.2.1 R.2.2.1 t_swings t_saltFirst t_paceOfAll t_ice t_salt t_brine t_cold t_warm t_frozen t_layer t_air t_churned t_held t_heldFirst t_stiffWanted t_stiffFirst t_pad R.2.2.2)) ([Value.ref a_t] : List Value).toArray s 0 0 (va_A (woX9_plan cI cZ a_t a_t_how a_t_strong a_t_pad a_t_plan a_t_box a_t_instead a_t_flakes a_t_tired a_t_image a_t_isKept t_signs t_parts t_swings t_saltFirst t_paceOfAll t_ice t_salt t_brine t_cold t_warm t_frozen t_layer t_air t_churned t_held t_heldFirst t_stiffWanted t_stiffFirst t_pad t_plan) sz)) (F0 m 140 ls [.int z2, .int z1, .ref a_t_plan]) := by
    intro rc17 hrc17 z1 z2 y1 y2 v_t_signs v_t_parts v_t_plan H locs ls hf hP hD hS hl
    unfold f_X9_plan_L140 at hf
    obtain ⟨g1, hf⟩ := gd_some hf
    refine mas (wN := (woX9_plan cI cZ a_t a_t_how a_t_strong a_t_pad a_t_plan a_t_box a_t_instead a_t_flakes a_t_tired a_t_image a_t_isKept v_t_signs v_t_parts t_swings t_saltFirst t_paceOfAll t_ice t_salt t_brine t_cold t_warm t_frozen t_layer t_air t_churned t_held t_heldFirst t_stiffWanted t_stiffFirst t_pad (upd v_t_plan (z1).toNatClampNeg z2))) 2 hx hb hG hP hD hS rfl g1 rfl dX9_plan_140 (fun H locs hP hD hS => ?_)
    refine lv_iload_n hx hb dX9_plan_141 rfl (lv_at hl 1 rfl) ?_
    refine lv_iload_n hx hb dX9_plan_142 rfl (lv_at hl 2 rfl) ?_
    refine lv_if_eq (tgt := 150) hx hb dX9_plan_143 (by decide) (fun c2 => ?_) (fun c2 => ?_)
    · have hf := (if_pos c2).symm.trans hf
      refine lv_iconst (v := 3) hx hb dX9_plan_150 (by decide) ?_
      exact L151 rc17 hrc17 y1 (3 : Int32) v_t_signs v_t_parts (upd v_t_plan (z1).toNatClampNeg z2) _ _ _ hf hP hD hS (lv_sub hl [0] rfl)
    · have hf := (if_neg c2).symm.trans hf
      refine lv_iconst (v := 2) hx hb dX9_plan_146 (by decide) ?_
      refine lv_goto (tgt := 151) hx hb dX9_plan_147 (by decide) ?_
      exact L151 rc17 hrc17 y1 (2 : Int32) v_t_signs v_t_parts (upd v_t_plan (z1).toNatClampNeg z2) _ _ _ hf hP hD hS (lv_sub hl [0] rfl)
  have L84 : ∀ (rc17 : Int32 → Int32 → Int32 → (Nat → Int32) → Option (Int32 × Int32 × Int32 × (Nat → Int32))), (∀ (y1 : Int32) (v_t_signs : Int32) (v_t_parts : Int32) (v_t_plan : Nat → Int32) (H : Heap) (locs : List Loc) (ls : Array Slot), rc17 y1 v_t_signs v_t_parts v_t_plan = some R → va_P (dC, dI) vwCl (woX9_plan cI cZ a_t a_t_how a_t_strong a_t_pad a_t_plan a_t_box a_t_instead a_t_flakes a_t_tired a_t_image a_t_isKept v_t_signs v_t_parts t_swings t_saltFirst t_paceOfAll t_ice t_salt t_brine t_cold t_warm t_frozen t_layer t_air t_churned t_held t_heldFirst t_stiffWanted t_stiffFirst t_pad v_t_plan) H → va_D (va_A (woX9_plan cI cZ a_t a_t_how a_t_strong a_t_pad a_t_plan a_t_box a_t_instead a_t_flakes a_t_tired a_t_image a_t_isKept t_signs t_parts t_swings t_saltFirst t_paceOfAll t_ice t_salt t_brine t_cold t_warm t_frozen t_layer t_air t_churned t_held t_heldFirst t_stiffWanted t_stiffFirst t_pad t_plan) sz) (woX9_plan cI cZ a_t a_t_how a_t_strong a_t_pad a_t_plan a_t_box a_t_instead a_t_flakes a_t_tired a_t_image a_t_isKept v_t_signs v_t_parts t_swings t_saltFirst t_paceOfAll t_ice t_salt t_brine t_cold t_warm t_frozen t_layer t_air t_churned t_held t_heldFirst t_stiffWanted t_stiffFirst t_pad v_t_plan) → va_S (va_A (woX9_plan cI cZ a_t a_t_how a_t_strong a_t_pad a_t_plan a_t_box a_t_instead a_t_flakes a_t_tired a_t_image a_t_isKept t_signs t_parts t_swings t_saltFirst t_paceOfAll t_ice t_salt t_brine t_cold t_warm t_frozen t_layer t_air t_churned t_held t_heldFirst t_stiffWanted t_stiffFirst t_pad t_plan) sz) s.heap H locs → lv_has ls 3 [(0, .ref a_t), (1, .int y1)] → W p l e (headSpec wyX9_plan rmX9_plan).room s m ([Value.ref a_t] : List Value).toArray below meth c H locs 0 0 (MQ below (POSTi (dC, dI) R.1 sz (woX9_plan cI cZ a_t a_t_how a_t_strong a_t_pad a_t_plan a_t_box a_t_instead a_t_flakes a_t_tired a_t_image a_t_isKept t_signs t_parts t_swings t_saltFirst t_paceOfAll t_ice t_salt t_brine t_cold t_warm t_frozen t_layer t_air t_churned t_held t_heldFirst t_stiffWanted t_stiffFirst t_pad t_plan) (woX9_plan cI cZ a_t a_t_how a_t_strong a_t_pad a_t_plan a_t_box a_t_instead a_t_flakes a_t_tired a_t_image a_t_isKept R.2.1 R.2.2.1 t_swings t_saltFirst t_paceOfAll t_ice t_salt t_brine t_cold t_warm t_frozen t_layer t_air t_churned t_held t_heldFirst t_stiffWanted t_stiffFirst t_pad R.2.2.2)) ([Value.ref a_t] : List Value).toArray s 0 0 (va_A (woX9_plan cI cZ a_t a_t_how a_t_strong a_t_pad a_t_plan a_t_box a_t_instead a_t_flakes a_t_tired a_t_image a_t_isKept t_signs t_parts t_swings t_saltFirst t_paceOfAll t_ice t_salt t_brine t_cold t_warm t_frozen t_layer t_air t_churned t_held t_heldFirst t_stiffWanted t_stiffFirst t_pad t_plan) sz)) (F0 m 17 ls [])) → ∀ (z1 : Int32) (z2 : Int32) (y1 : Int32) (y2 : Int32) (v_t_signs : Int32) (v_t_parts : Int32) (v_t_plan : Nat → Int32) (H : Heap) (locs : List Loc) (ls : Array Slot), f_X9_plan_L84 rc17 t_pad z1 z2 y1 y2 v_t_signs v_t_parts v_t_plan = some R → va_P (dC, dI) vwCl (woX9_plan cI cZ a_t a_t_how a_t_strong a_t_pad a_t_plan a_t_box a_t_instead a_t_flakes a_t_tired a_t_image a_t_isKept v_t_signs v_t_parts t_swings t_saltFirst t_paceOfAll t_ice t_salt t_brine t_cold t_warm t_frozen t_layer t_air t_churned t_held t_heldFirst t_stiffWanted t_stiffFirst t_pad v_t_plan) H → va_D (va_A (woX9_plan cI cZ a_t a_t_how a_t_strong a_t_pad a_t_plan a_t_box a_t_instead a_t_flakes a_t_tired a_t_image a_t_isKept t_signs t_parts t_swings t_saltFirst t_paceOfAll t_ice t_salt t_brine t_cold t_warm t_frozen t_layer t_air t_churned t_held t_heldFirst t_stiffWanted t_stiffFirst t_pad t_plan) sz) (woX9_plan cI cZ a_t a_t_how a_t_strong a_t_pad a_t_plan a_t_box a_t_instead a_t_flakes a_t_tired a_t_image a_t_isKept v_t_signs v_t_parts t_swings t_saltFirst t_paceOfAll t_ice t_salt t_brine t_cold t_warm t_frozen t_layer t_air t_churned t_held t_heldFirst t_stiffWanted t_stiffFirst t_pad v_t_plan) → va_S (va_A (woX9_plan cI cZ a_t a_t_how a_t_strong a_t_pad a_t_plan a_t_box a_t_instead a_t_flakes a_t_tired a_t_image a_t_isKept t_signs t_parts t_swings t_saltFirst t_paceOfAll t_ice t_salt t_brine t_cold t_warm t_frozen t_layer t_air t_churned t_held t_heldFirst t_stiffWanted t_stiffFirst t_pad t_plan) sz) s.heap H locs → lv_has ls 3 [(0, .ref a_t), (1, .int y1), (2, .int y2)] → W p l e (headSpec wyX9_plan rmX9_plan).room s m ([Value.ref a_t] : List Value).toArray below meth c H locs 0 0 (MQ below (POSTi (dC, dI) R.1 sz (woX9_plan cI cZ a_t a_t_how a_t_strong a_t_pad a_t_plan a_t_box a_t_instead a_t_flakes a_t_tired a_t_image a_t_isKept t_signs t_parts t_swings t_saltFirst t_paceOfAll t_ice t_salt t_brine t_cold t_warm t_frozen t_layer t_air t_churned t_held t_heldFirst t_stiffWanted t_stiffFirst t_pad t_plan) (woX9_plan cI cZ a_t a_t_how a_t_strong a_t_pad a_t_plan a_t_box a_t_instead a_t_flakes a_t_tired a_t_image a_t_isKept R.2.1 R.2.2.1 t_swings t_saltFirst t_paceOfAll t_ice t_salt t_brine t_cold t_warm t_frozen t_layer t_air t_churned t_held t_heldFirst t_stiffWanted t_stiffFirst t_pad R.2.2.2)) ([Value.ref a_t] : List Value).toArray s 0 0 (va_A (woX9_plan cI cZ a_t a_t_how a_t_strong a_t_pad a_t_plan a_t_box a_t_instead a_t_flakes a_t_tired a_t_image a_t_isKept t_signs t_parts t_swings t_saltFirst t_paceOfAll t_ice t_salt t_brine t_cold t_warm t_frozen t_layer t_air t_churned t_held t_heldFirst t_stiffWanted t_stiffFirst t_pad t_plan) sz)) (F0 m 84 ls [.int z2, .int z1, .ref a_t_plan]) := by
    intro rc17 hrc17 z1 z2 y1 y2 v_t_signs v_t_parts v_t_plan H locs ls hf hP hD hS hl
    unfold f_X9_plan_L84 at hf
    obtain ⟨g3, hf⟩ := gd_some hf
    refine mas (wN := (woX9_plan cI cZ a_t a_t_how a_t_strong a_t_pad a_t_plan a_t_box a_t_instead a_t_flakes a_t_tired a_t_image a_t_isKept v_t_signs v_t_parts t_swings t_saltFirst t_paceOfAll t_ice t_salt t_brine t_cold t_warm t_frozen t_layer t_air t_churned t_held t_heldFirst t_stiffWanted t_stiffFirst t_pad (upd v_t_plan (z1).toNatClampNeg z2))) 2 hx hb hG hP hD hS rfl g3 rfl dX9_plan_84 (fun H locs hP hD hS => ?_)
    refine lv_aload_n hx hb dX9_plan_85 rfl (lv_at hl 0 rfl) ?_
    refine mg (ci := 9) 0 5 hx hb hG igX9 hown hP rfl rfl (by decide) (wd_3_137 hG.2.1) rfl rfl dX9_plan_86 ?_
    refine lv_iconst (v := 3) hx hb dX9_plan_89 (by decide) ?_
    refine lv_aload_n hx hb dX9_plan_90 rfl (lv_at hl 0 rfl) ?_
    refine mg (ci := 9) 0 4 hx hb hG igX9 hown hP rfl rfl (by decide) (wd_3_136 hG.2.1) rfl rfl dX9_plan_91 ?_
    refine lv_imul hx hb dX9_plan_94 ?_
    refine lv_iconst (v := 1) hx hb dX9_plan_95 (by decide) ?_
    refine lv_iadd hx hb dX9_plan_96 ?_
    refine lv_aload_n hx hb dX9_plan_97 rfl (lv_at hl 0 rfl) ?_
    refine mg (ci := 9) 0 3 hx hb hG igX9 hown hP rfl rfl (by decide) (wd_3_135 hG.2.1) rfl rfl dX9_plan_98 ?_
    refine lv_iload_n hx hb dX9_plan_101 rfl (lv_at hl 1 rfl) ?_
    refine lv_iconst (v := 1) hx hb dX9_plan_102 (by decide) ?_
    refine lv_iadd hx hb dX9_plan_103 ?_
    obtain ⟨g4, hf⟩ := gd_some hf
    refine mal 1 hx hb hG hP rfl g4 dX9_plan_104 ?_
    refine lv_bipush (v := 48) hx hb dX9_plan_105 (by decide) ?_
    refine lv_isub hx hb dX9_plan_107 ?_
    obtain ⟨g5, hf⟩ := gd_some hf
    refine mas (wN := (woX9_plan cI cZ a_t a_t_how a_t_strong a_t_pad a_t_plan a_t_box a_t_instead a_t_flakes a_t_tired a_t_image a_t_isKept v_t_signs v_t_parts t_swings t_saltFirst t_paceOfAll t_ice t_salt t_brine t_cold t_warm t_frozen t_layer t_air t_churned t_held t_heldFirst t_stiffWanted t_stiffFirst t_pad (upd (upd v_t_plan (z1).toNatClampNeg z2) ((((3 : Int32) * v_t_parts) + (1 : Int32))).toNatClampNeg ((t_pad ((y1 + (1 : Int32))).toNatClampNeg) - (48 : Int32))))) 2 hx hb hG hP hD hS rfl g5 rfl dX9_plan_108 (fun H locs hP hD hS => ?_)
    refine lv_aload_n hx hb dX9_plan_109 rfl (lv_at hl 0 rfl) ?_
    refine mg (ci := 9) 0 5 hx hb hG igX9 hown hP rfl rfl (by decide) (wd_3_137 hG.2.1) rfl rfl dX9_plan_110 ?_
    refine lv_iconst (v := 3) hx hb dX9_plan_113 (by decide) ?_
    refine lv_aload_n hx hb dX9_plan_114 rfl (lv_at hl 0 rfl) ?_
    refine mg (ci := 9) 0 4 hx hb hG igX9 hown hP rfl rfl (by decide) (wd_3_136 hG.2.1) rfl rfl dX9_plan_115 ?_
    refine lv_imul hx hb dX9_plan_118 ?_
    refine lv_iconst (v := 2) hx hb dX9_plan_119 (by decide) ?_
    refine lv_iadd hx hb dX9_plan_120 ?_
    refine lv_iload_n hx hb dX9_plan_121 rfl (lv_at hl 2 rfl) ?_
    refine lv_if_eq (tgt := 129) hx hb dX9_plan_122 (by decide) (fun c6 => ?_) (fun c6 => ?_)
    · have hf := (if_pos c6).symm.trans hf
      refine lv_aload_n hx hb dX9_plan_129 rfl (lv_at hl 0 rfl) ?_
      refine mg (ci := 9) 0 3 hx hb hG igX9 hown hP rfl rfl (by decide) (wd_3_135 hG.2.1) rfl rfl dX9_plan_130 ?_
      refine lv_iload_n hx hb dX9_plan_133 rfl (lv_at hl 1 rfl) ?_
      refine lv_iconst (v := 2) hx hb dX9_plan_134 (by decide) ?_
      refine lv_iadd hx hb dX9_plan_135 ?_
      obtain ⟨g7, hf⟩ := gd_some hf
      refine mal 1 hx hb hG hP rfl g7 dX9_plan_136 ?_
      refine lv_bipush (v := 48) hx hb dX9_plan_137 (by decide) ?_
      refine lv_isub hx hb dX9_plan_139 ?_
      exact L140 rc17 hrc17 (((3 : Int32) * v_t_parts) + (2 : Int32)) ((t_pad ((y1 + (2 : Int32))).toNatClampNeg) - (48 : Int32)) y1 y2 v_t_signs v_t_parts (upd (upd v_t_plan (z1).toNatClampNeg z2) ((((3 : Int32) * v_t_parts) + (1 : Int32))).toNatClampNeg ((t_pad ((y1 + (1 : Int32))).toNatClampNeg) - (48 : Int32))) _ _ _ hf hP hD hS (lv_sub hl [0, 1, 2] rfl)
    · have hf := (if_neg c6).symm.trans hf
      refine lv_iconst (v := 0) hx hb dX9_plan_125 (by decide) ?_
      refine lv_goto (tgt := 140) hx hb dX9_plan_126 (by decide) ?_
      exact L140 rc17 hrc17 (((3 : Int32) * v_t_parts) + (2 : Int32)) (0 : Int32) y1 y2 v_t_signs v_t_parts (upd (upd v_t_plan (z1).toNatClampNeg z2) ((((3 : Int32) * v_t_parts) + (1 : Int32))).toNatClampNeg ((t_pad ((y1 + (1 : Int32))).toNatClampNeg) - (48 : Int32))) _ _ _ hf hP hD hS (lv_sub hl [0, 1, 2] rfl)
  have L41 : ∀ (rc17 : Int32 → Int32 → Int32 → (Nat → Int32) → Option (Int32 × Int32 × Int32 × (Nat → Int32))), (∀ (y1 : Int32) (v_t_signs : Int32) (v_t_parts : Int32) (v_t_plan : Nat → Int32) (H : Heap) (locs : List Loc) (ls : Array Slot), rc17 y1 v_t_signs v_t_parts v_t_plan = some R → va_P (dC, dI) vwCl (woX9_plan cI cZ a_t a_t_how a_t_strong a_t_pad a_t_plan a_t_box a_t_instead a_t_flakes a_t_tired a_t_image a_t_isKept v_t_signs v_t_parts t_swings t_saltFirst t_paceOfAll t_ice t_salt t_brine t_cold t_warm t_frozen t_layer t_air t_churned t_held t_heldFirst t_stiffWanted t_stiffFirst t_pad v_t_plan) H → va_D (va_A (woX9_plan cI cZ a_t a_t_how a_t_strong a_t_pad a_t_plan a_t_box a_t_instead a_t_flakes a_t_tired a_t_image a_t_isKept t_signs t_parts t_swings t_saltFirst t_paceOfAll t_ice t_salt t_brine t_cold t_warm t_frozen t_layer t_air t_churned t_held t_heldFirst t_stiffWanted t_stiffFirst t_pad t_plan) sz) (woX9_plan cI cZ a_t a_t_how a_t_strong a_t_pad a_t_plan a_t_box a_t_instead a_t_flakes a_t_tired a_t_image a_t_isKept v_t_signs v_t_parts t_swings t_saltFirst t_paceOfAll t_ice t_salt t_brine t_cold t_warm t_frozen t_layer t_air t_churned t_held t_heldFirst t_stiffWanted t_stiffFirst t_pad v_t_plan) → va_S (va_A (woX9_plan cI cZ a_t a_t_how a_t_strong a_t_pad a_t_plan a_t_box a_t_instead a_t_flakes a_t_tired a_t_image a_t_isKept t_signs t_parts t_swings t_saltFirst t_paceOfAll t_ice t_salt t_brine t_cold t_warm t_frozen t_layer t_air t_churned t_held t_heldFirst t_stiffWanted t_stiffFirst t_pad t_plan) sz) s.heap H locs → lv_has ls 3 [(0, .ref a_t), (1, .int y1)] → W p l e (headSpec wyX9_plan rmX9_plan).room s m ([Value.ref a_t] : List Value).toArray below meth c H locs 0 0 (MQ below (POSTi (dC, dI) R.1 sz (woX9_plan cI cZ a_t a_t_how a_t_strong a_t_pad a_t_plan a_t_box a_t_instead a_t_flakes a_t_tired a_t_image a_t_isKept t_signs t_parts t_swings t_saltFirst t_paceOfAll t_ice t_salt t_brine t_cold t_warm t_frozen t_layer t_air t_churned t_held t_heldFirst t_stiffWanted t_stiffFirst t_pad t_plan) (woX9_plan cI cZ a_t a_t_how a_t_strong a_t_pad a_t_plan a_t_box a_t_instead a_t_flakes a_t_tired a_t_image a_t_isKept R.2.1 R.2.2.1 t_swings t_saltFirst t_paceOfAll t_ice t_salt t_brine t_cold t_warm t_frozen t_layer t_air t_churned t_held t_heldFirst t_stiffWanted t_stiffFirst t_pad R.2.2.2)) ([Value.ref a_t] : List Value).toArray s 0 0 (va_A (woX9_plan cI cZ a_t a_t_how a_t_strong a_t_pad a_t_plan a_t_box a_t_instead a_t_flakes a_t_tired a_t_image a_t_isKept t_signs t_parts t_swings t_saltFirst t_paceOfAll t_ice t_salt t_brine t_cold t_warm t_frozen t_layer t_air t_churned t_held t_heldFirst t_stiffWanted t_stiffFirst t_pad t_plan) sz)) (F0 m 17 ls [])) → ∀ (z0 : Int32) (y1 : Int32) (v_t_signs : Int32) (v_t_parts : Int32) (v_t_plan : Nat → Int32) (H : Heap) (locs : List Loc) (ls : Array Slot), f_X9_plan_L41 rc17 t_pad z0 y1 v_t_signs v_t_parts v_t_plan = some R → va_P (dC, dI) vwCl (woX9_plan cI cZ a_t a_t_how a_t_strong a_t_pad a_t_plan a_t_box a_t_instead a_t_flakes a_t_tired a_t_image a_t_isKept v_t_signs v_t_parts t_swings t_saltFirst t_paceOfAll t_ice t_salt t_brine t_cold t_warm t_frozen t_layer t_air t_churned t_held t_heldFirst t_stiffWanted t_stiffFirst t_pad v_t_plan) H → va_D (va_A (woX9_plan cI cZ a_t a_t_how a_t_strong a_t_pad a_t_plan a_t_box a_t_instead a_t_flakes a_t_tired a_t_image a_t_isKept t_signs t_parts t_swings t_saltFirst t_paceOfAll t_ice t_salt t_brine t_cold t_warm t_frozen t_layer t_air t_churned t_held t_heldFirst t_stiffWanted t_stiffFirst t_pad t_plan) sz) (woX9_plan cI cZ a_t a_t_how a_t_strong a_t_pad a_t_plan a_t_box a_t_instead a_t_flakes a_t_tired a_t_image a_t_isKept v_t_signs v_t_parts t_swings t_saltFirst t_paceOfAll t_ice t_salt t_brine t_cold t_warm t_frozen t_layer t_air t_churned t_held t_heldFirst t_stiffWanted t_stiffFirst t_pad v_t_plan) → va_S (va_A (woX9_plan cI cZ a_t a_t_how a_t_strong a_t_pad a_t_plan a_t_box a_t_instead a_t_flakes a_t_tired a_t_image a_t_isKept t_signs t_parts t_swings t_saltFirst t_paceOfAll t_ice t_salt t_brine t_cold t_warm t_frozen t_layer t_air t_churned t_held t_heldFirst t_stiffWanted t_stiffFirst t_pad t_plan) sz) s.heap H locs → lv_has ls 3 [(0, .ref a_t), (1, .int y1)] → W p l e (headSpec wyX9_plan rmX9_plan).room s m ([Value.ref a_t] : List Value).toArray below meth c H locs 0 0 (MQ below (POSTi (dC, dI) R.1 sz (woX9_plan cI cZ a_t a_t_how a_t_strong a_t_pad a_t_plan a_t_box a_t_instead a_t_flakes a_t_tired a_t_image a_t_isKept t_signs t_parts t_swings t_saltFirst t_paceOfAll t_ice t_salt t_brine t_cold t_warm t_frozen t_layer t_air t_churned t_held t_heldFirst t_stiffWanted t_stiffFirst t_pad t_plan) (woX9_plan cI cZ a_t a_t_how a_t_strong a_t_pad a_t_plan a_t_box a_t_instead a_t_flakes a_t_tired a_t_image a_t_isKept R.2.1 R.2.2.1 t_swings t_saltFirst t_paceOfAll t_ice t_salt t_brine t_cold t_warm t_frozen t_layer t_air t_churned t_held t_heldFirst t_stiffWanted t_stiffFirst t_pad R.2.2.2)) ([Value.ref a_t] : List Value).toArray s 0 0 (va_A (woX9_plan cI cZ a_t a_t_how a_t_strong a_t_pad a_t_plan a_t_box a_t_instead a_t_flakes a_t_tired a_t_image a_t_isKept t_signs t_parts t_swings t_saltFirst t_paceOfAll t_ice t_salt t_brine t_cold t_warm t_frozen t_layer t_air t_churned t_held t_heldFirst t_stiffWanted t_stiffFirst t_pad t_plan) sz)) (F0 m 41 ls [.int z0]) := by
    intro rc17 hrc17 z0 y1 v_t_signs v_t_parts v_t_plan H locs ls hf hP hD hS hl
    unfold f_X9_plan_L41 at hf
    refine lv_istore_n (lv' := [(2, .int z0), (0, .ref a_t), (1, .int y1)]) hx hb dX9_plan_41 rfl hl (by decide) rfl (fun ls hl => ?_)
    refine lv_aload_n hx hb dX9_plan_42 rfl (lv_at hl 1 rfl) ?_
    refine mg (ci := 9) 0 5 hx hb hG igX9 hown hP rfl rfl (by decide) (wd_3_137 hG.2.1) rfl rfl dX9_plan_43 ?_
    refine lv_iconst (v := 3) hx hb dX9_plan_46 (by decide) ?_
    refine lv_aload_n hx hb dX9_plan_47 rfl (lv_at hl 1 rfl) ?_
    refine mg (ci := 9) 0 4 hx hb hG igX9 hown hP rfl rfl (by decide) (wd_3_136 hG.2.1) rfl rfl dX9_plan_48 ?_
    refine lv_imul hx hb dX9_plan_51 ?_
    refine lv_iload_n hx hb dX9_plan_52 rfl (lv_at hl 0 rfl) ?_
    refine lv_if_eq (tgt := 60) hx hb dX9_plan_53 (by decide) (fun c8 => ?_) (fun c8 => ?_)
    · have hf := (if_pos c8).symm.trans hf
      refine lv_aload_n hx hb dX9_plan_60 rfl (lv_at hl 1 rfl) ?_
      refine mg (ci := 9) 0 3 hx hb hG igX9 hown hP rfl rfl (by decide) (wd_3_135 hG.2.1) rfl rfl dX9_plan_61 ?_
      refine lv_iload_n hx hb dX9_plan_64 rfl (lv_at hl 2 rfl) ?_
      obtain ⟨g9, hf⟩ := gd_some hf
      refine mal 1 hx hb hG hP rfl g9 dX9_plan_65 ?_
      refine lv_bipush (v := 45) hx hb dX9_plan_66 (by decide) ?_
      refine lv_icmp_ne (tgt := 75) hx hb dX9_plan_68 (by decide) (fun c10 => ?_) (fun c10 => ?_)
      · have hf := (if_neg c10).symm.trans hf
        refine lv_aload_n hx hb dX9_plan_75 rfl (lv_at hl 1 rfl) ?_
        refine mg (ci := 9) 0 3 hx hb hG igX9 hown hP rfl rfl (by decide) (wd_3_135 hG.2.1) rfl rfl dX9_plan_76 ?_
        refine lv_iload_n hx hb dX9_plan_79 rfl (lv_at hl 2 rfl) ?_
        obtain ⟨g11, hf⟩ := gd_some hf
        refine mal 1 hx hb hG hP rfl g11 dX9_plan_80 ?_
        refine lv_bipush (v := 97) hx hb dX9_plan_81 (by decide) ?_
        refine lv_isub hx hb dX9_plan_83 ?_
        exact L84 rc17 hrc17 ((3 : Int32) * v_t_parts) ((t_pad (y1).toNatClampNeg) - (97 : Int32)) y1 z0 v_t_signs v_t_parts v_t_plan _ _ _ hf hP hD hS (lv_sub hl [1, 2, 0] rfl)
      · have hf := (if_pos c10).symm.trans hf
        refine lv_iconst (v := 4) hx hb dX9_plan_71 (by decide) ?_
        refine lv_goto (tgt := 84) hx hb dX9_plan_72 (by decide) ?_
        exact L84 rc17 hrc17 ((3 : Int32) * v_t_parts) (4 : Int32) y1 z0 v_t_signs v_t_parts v_t_plan _ _ _ hf hP hD hS (lv_sub hl [1, 2, 0] rfl)
    · have hf := (if_neg c8).symm.trans hf
      refine lv_iconst (v := 5) hx hb dX9_plan_56 (by decide) ?_
      refine lv_goto (tgt := 84) hx hb dX9_plan_57 (by decide) ?_
      exact L84 rc17 hrc17 ((3 : Int32) * v_t_parts) (5 : Int32) y1 z0 v_t_signs v_t_parts v_t_plan _ _ _ hf hP hD hS (lv_sub hl [1, 2, 0] rfl)
  have L17 : ∀ (fu : Nat) (y1 : Int32) (v_t_signs : Int32) (v_t_parts : Int32) (v_t_plan : Nat → Int32) (H : Heap) (locs : List Loc) (ls : Array Slot), f_X9_plan_L17 t_pad fu y1 v_t_signs v_t_parts v_t_plan = some R → va_P (dC, dI) vwCl (woX9_plan cI cZ a_t a_t_how a_t_strong a_t_pad a_t_plan a_t_box a_t_instead a_t_flakes a_t_tired a_t_image a_t_isKept v_t_signs v_t_parts t_swings t_saltFirst t_paceOfAll t_ice t_salt t_brine t_cold t_warm t_frozen t_layer t_air t_churned t_held t_heldFirst t_stiffWanted t_stiffFirst t_pad v_t_plan) H → va_D (va_A (woX9_plan cI cZ a_t a_t_how a_t_strong a_t_pad a_t_plan a_t_box a_t_instead a_t_flakes a_t_tired a_t_image a_t_isKept t_signs t_parts t_swings t_saltFirst t_paceOfAll t_ice t_salt t_brine t_cold t_warm t_frozen t_layer t_air t_churned t_held t_heldFirst t_stiffWanted t_stiffFirst t_pad t_plan) sz) (woX9_plan cI cZ a_t a_t_how a_t_strong a_t_pad a_t_plan a_t_box a_t_instead a_t_flakes a_t_tired a_t_image a_t_isKept v_t_signs v_t_parts t_swings t_saltFirst t_paceOfAll t_ice t_salt t_brine t_cold t_warm t_frozen t_layer t_air t_churned t_held t_heldFirst t_stiffWanted t_stiffFirst t_pad v_t_plan) → va_S (va_A (woX9_plan cI cZ a_t a_t_how a_t_strong a_t_pad a_t_plan a_t_box a_t_instead a_t_flakes a_t_tired a_t_image a_t_isKept t_signs t_parts t_swings t_saltFirst t_paceOfAll t_ice t_salt t_brine t_cold t_warm t_frozen t_layer t_air t_churned t_held t_heldFirst t_stiffWanted t_stiffFirst t_pad t_plan) sz) s.heap H locs → lv_has ls 3 [(0, .ref a_t), (1, .int y1)] → W p l e (headSpec wyX9_plan rmX9_plan).room s m ([Value.ref a_t] : List Value).toArray below meth c H locs 0 0 (MQ below (POSTi (dC, dI) R.1 sz (woX9_plan cI cZ a_t a_t_how a_t_strong a_t_pad a_t_plan a_t_box a_t_instead a_t_flakes a_t_tired a_t_image a_t_isKept t_signs t_parts t_swings t_saltFirst t_paceOfAll t_ice t_salt t_brine t_cold t_warm t_frozen t_layer t_air t_churned t_held t_heldFirst t_stiffWanted t_stiffFirst t_pad t_plan) (woX9_plan cI cZ a_t a_t_how a_t_strong a_t_pad a_t_plan a_t_box a_t_instead a_t_flakes a_t_tired a_t_image a_t_isKept R.2.1 R.2.2.1 t_swings t_saltFirst t_paceOfAll t_ice t_salt t_brine t_cold t_warm t_frozen t_layer t_air t_churned t_held t_heldFirst t_stiffWanted t_stiffFirst t_pad R.2.2.2)) ([Value.ref a_t] : List Value).toArray s 0 0 (va_A (woX9_plan cI cZ a_t a_t_how a_t_strong a_t_pad a_t_plan a_t_box a_t_instead a_t_flakes a_t_tired a_t_image a_t_isKept t_signs t_parts t_swings t_saltFirst t_paceOfAll t_ice t_salt t_brine t_cold t_warm t_frozen t_layer t_air t_churned t_held t_heldFirst t_stiffWanted t_stiffFirst t_pad t_plan) sz)) (F0 m 17 ls []) := by
    intro  fu
    induction fu with
    | zero => intro y1 v_t_signs v_t_parts v_t_plan H locs ls hf; cases hf
    | succ fu ih =>
      intro y1 v_t_signs v_t_parts v_t_plan H locs ls hf hP hD hS hl
      rw [f_X9_plan_L17] at hf
      refine lv_iload_n hx hb dX9_plan_17 rfl (lv_at hl 1 rfl) ?_
      refine lv_aload_n hx hb dX9_plan_18 rfl (lv_at hl 0 rfl) ?_
      refine mg (ci := 9) 0 2 hx hb hG igX9 hown hP rfl rfl (by decide) (wd_3_134 hG.2.1) rfl rfl dX9_plan_19 ?_
      refine lv_icmp_ge (tgt := 166) hx hb dX9_plan_22 (by decide) (fun c12 => ?_) (fun c12 => ?_)
      · have hf := (if_pos c12).symm.trans hf
        refine lv_aload_n hx hb dX9_plan_166 rfl (lv_at hl 0 rfl) ?_
        refine lv_iconst (v := 0) hx hb dX9_plan_167 (by decide) ?_
        refine mp (ci := 9) (wN := (woX9_plan cI cZ a_t a_t_how a_t_strong a_t_pad a_t_plan a_t_box a_t_instead a_t_flakes a_t_tired a_t_image a_t_isKept (0 : Int32) v_t_parts t_swings t_saltFirst t_paceOfAll t_ice t_salt t_brine t_cold t_warm t_frozen t_layer t_air t_churned t_held t_heldFirst t_stiffWanted t_stiffFirst t_pad v_t_plan)) 0 2 hx hb hG igX9 tyX9 tyX9_ok nmX9 hown hP hD hS rfl rfl (by decide) (wd_3_134 hG.2.1) rfl rfl rfl rfl rfl (Nat.le_of_ble_eq_true rfl) rfl dX9_plan_168 (fun H locs hP hD hS => ?_)
        refine lv_aload_n hx hb dX9_plan_171 rfl (lv_at hl 0 rfl) ?_
        obtain ⟨r172, hc172, hf⟩ := bd1_some hf
        refine cl_Vi (r := r172) (b := a_t) (As := []) (w1 := (woX9_minutesOf cI cZ a_t a_t_how a_t_strong a_t_pad a_t_plan a_t_box a_t_instead a_t_flakes a_t_tired a_t_image a_t_isKept (0 : Int32) v_t_parts t_swings t_saltFirst t_paceOfAll t_ice t_salt t_brine t_cold t_warm t_frozen t_layer t_air t_churned t_held t_heldFirst t_stiffWanted t_stiffFirst v_t_plan)) (wN := (woX9_plan cI cZ a_t a_t_how a_t_strong a_t_pad a_t_plan a_t_box a_t_instead a_t_flakes a_t_tired a_t_image a_t_isKept (0 : Int32) v_t_parts t_swings t_saltFirst t_paceOfAll t_ice t_salt t_brine t_cold t_warm t_frozen t_layer t_air t_churned t_held t_heldFirst t_stiffWanted t_stiffFirst t_pad v_t_plan)) [0, 2] 0 9 (c_X9_minutesOf l dC dI cI cZ ts _ a_t a_t_how a_t_strong a_t_pad a_t_plan a_t_box a_t_instead a_t_flakes a_t_tired a_t_image a_t_isKept (0 : Int32) v_t_parts t_swings t_saltFirst t_paceOfAll t_ice t_salt t_brine t_cold t_warm t_frozen t_layer t_air t_churned t_held t_heldFirst t_stiffWanted t_stiffFirst v_t_plan (r172) hc172) ⟨hx, hb, hml, hown, hG.2.1.hts _⟩ ⟨callB_of 0 (hG.2.1.hts _) giX9_minutesOf rfl rfl rfl (wd_1_10 hG.2.1) (wd_4_25 hG.2.1) hd_X9_minutesOf ⟨Nat.le_of_ble_eq_true rfl, Nat.le_of_ble_eq_true rfl⟩, wd_4_27 hG.2.1, ws_17 hG.2.1⟩ hG hP hD hS rfl rfl rfl rfl rfl rfl rfl rfl hl.1 rfl (Nat.le_of_ble_eq_true rfl) dX9_plan_172 ⟨Nat.zero_le _, Nat.zero_le _⟩ (fun H locs hP hD hS => ?_)
        have hR := Option.some.inj hf
        rw [← hR]
        exact rt_i hx hb hr hlk hsz hP hD hS rfl rfl dX9_plan_175
      · have hf := (if_neg c12).symm.trans hf
        refine lv_aload_n hx hb dX9_plan_25 rfl (lv_at hl 0 rfl) ?_
        refine mg (ci := 9) 0 3 hx hb hG igX9 hown hP rfl rfl (by decide) (wd_3_135 hG.2.1) rfl rfl dX9_plan_26 ?_
        refine lv_iload_n hx hb dX9_plan_29 rfl (lv_at hl 1 rfl) ?_
        obtain ⟨g13, hf⟩ := gd_some hf
        refine mal 1 hx hb hG hP rfl g13 dX9_plan_30 ?_
        refine lv_bipush (v := 115) hx hb dX9_plan_31 (by decide) ?_
        refine lv_icmp_ne (tgt := 40) hx hb dX9_plan_33 (by decide) (fun c14 => ?_) (fun c14 => ?_)
        · have hf := (if_neg c14).symm.trans hf
          refine lv_iconst (v := 0) hx hb dX9_plan_40 (by decide) ?_
          exact L41 (f_X9_plan_L17 t_pad fu) ih (0 : Int32) y1 v_t_signs v_t_parts v_t_plan _ _ _ hf hP hD hS (lv_sub hl [0, 1] rfl)
        · have hf := (if_pos c14).symm.trans hf
          refine lv_iconst (v := 1) hx hb dX9_plan_36 (by decide) ?_
          refine lv_goto (tgt := 41) hx hb dX9_plan_37 (by decide) ?_
          exact L41 (f_X9_plan_L17 t_pad fu) ih (1 : Int32) y1 v_t_signs v_t_parts v_t_plan _ _ _ hf hP hD hS (lv_sub hl [0, 1] rfl)
  have hl := lv_entry ([.ref a_t]) (n := 3) (Nat.le_of_ble_eq_true rfl)
  rw [lg_entry_eq]
  generalize (lg_sl ([.ref a_t]) ++ List.replicate (3 - (lg_sl ([.ref a_t])).length) Slot.unset).toArray = ls at hl ⊢
  have hl : lv_has ls 3 [(0, .ref a_t)] := hl
  unfold f_X9_plan at hf
  refine lv_aload_n hx hb dX9_plan_0 rfl (lv_at hl 0 rfl) ?_
  obtain ⟨r1, hc1, hf⟩ := bd1_some hf
  refine cl_Vi (r := r1) (b := a_t) (As := []) (w1 := (woX9_planFault cI cZ a_t a_t_how a_t_strong a_t_pad a_t_plan a_t_box a_t_instead a_t_flakes a_t_tired a_t_image a_t_isKept t_signs t_parts t_swings t_saltFirst t_paceOfAll t_ice t_salt t_brine t_cold t_warm t_frozen t_layer t_air t_churned t_held t_heldFirst t_stiffWanted t_stiffFirst t_pad)) (wN := (woX9_plan cI cZ a_t a_t_how a_t_strong a_t_pad a_t_plan a_t_box a_t_instead a_t_flakes a_t_tired a_t_image a_t_isKept t_signs t_parts t_swings t_saltFirst t_paceOfAll t_ice t_salt t_brine t_cold t_warm t_frozen t_layer t_air t_churned t_held t_heldFirst t_stiffWanted t_stiffFirst t_pad t_plan)) [0, 1] 0 9 (c_X9_planFault l dC dI cI cZ ts _ a_t a_t_how a_t_strong a_t_pad a_t_plan a_t_box a_t_instead a_t_flakes a_t_tired a_t_image a_t_isKept t_signs t_parts t_swings t_saltFirst t_paceOfAll t_ice t_salt t_brine t_cold t_warm t_frozen t_layer t_air t_churned t_held t_heldFirst t_stiffWanted t_stiffFirst t_pad (r1) hc1) ⟨hx, hb, hml, hown, hG.2.1.hts _⟩ ⟨callB_of 0 (hG.2.1.hts _) giX9_planFault rfl rfl rfl (wd_1_10 hG.2.1) (wd_4_7 hG.2.1) hd_X9_planFault ⟨Nat.le_of_ble_eq_true rfl, Nat.le_of_ble_eq_true rfl⟩, wd_4_9 hG.2.1, ws_15 hG.2.1⟩ hG hP hD hS rfl rfl rfl rfl rfl rfl rfl rfl hl.1 rfl (Nat.le_of_ble_eq_true rfl) dX9_plan_1 ⟨Nat.zero_le _, Nat.zero_le _⟩ (fun H locs hP hD hS => ?_)
  refine lv_if_lt (tgt := 10) hx hb dX9_plan_4 (by decide) (fun c15 => ?_) (fun c15 => ?_)
  · have hf := (if_pos c15).symm.trans hf
    refine lv_aload_n hx hb dX9_plan_10 rfl (lv_at hl 0 rfl) ?_
    refine lv_iconst (v := 0) hx hb dX9_plan_11 (by decide) ?_
    refine mp (ci := 9) (wN := (woX9_plan cI cZ a_t a_t_how a_t_strong a_t_pad a_t_plan a_t_box a_t_instead a_t_flakes a_t_tired a_t_image a_t_isKept t_signs (0 : Int32) t_swings t_saltFirst t_paceOfAll t_ice t_salt t_brine t_cold t_warm t_frozen t_layer t_air t_churned t_held t_heldFirst t_stiffWanted t_stiffFirst t_pad t_plan)) 0 4 hx hb hG igX9 tyX9 tyX9_ok nmX9 hown hP hD hS rfl rfl (by decide) (wd_3_136 hG.2.1) rfl rfl rfl rfl rfl (Nat.le_of_ble_eq_true rfl) rfl dX9_plan_12 (fun H locs hP hD hS => ?_)
    refine lv_iconst (v := 0) hx hb dX9_plan_15 (by decide) ?_
    refine lv_istore_n (lv' := [(1, .int (0 : Int32)), (0, .ref a_t)]) hx hb dX9_plan_16 rfl hl (by decide) rfl (fun ls hl => ?_)
    exact L17 FU (0 : Int32) t_signs (0 : Int32) t_plan _ _ _ hf hP hD hS (lv_sub hl [1, 0] rfl)
  · have hf := (if_neg c15).symm.trans hf
    refine lv_bipush (v := -5) hx hb dX9_plan_7 (by decide) ?_
    have hR := Option.some.inj hf
    rw [← hR]
    exact rt_i hx hb hr hlk hsz hP hD hS rfl rfl dX9_plan_9
abbrev woX9_asTold (cI cZ : ClassId) (a_t a_t_how a_t_strong a_t_pad a_t_plan a_t_box a_t_instead a_t_flakes a_t_tired a_t_image a_t_isKept : Nat) (t_signs : Int32) (t_parts : Int32) (t_swings : Int32) (t_saltFirst : Int32) (t_paceOfAll : Int32) (t_ice : Int32) (t_salt : Int32) (t_brine : Int32) (t_cold : Int32) (t_warm : Int32) (t_frozen : Int32) (t_layer : Int32) (t_air : Int32) (t_churned : Int32) (t_held : Int32) (t_heldFirst : Int32) (t_stiffWanted : Int32) (t_stiffFirst : Int32) (t_how : Nat → Int32) (t_instead : Nat → Int32) : va_W := [(a_t, .inr (9, [.ref a_t_how, .ref a_t_strong, .int t_signs, .ref a_t_pad, .int t_parts, .ref a_t_plan, .int t_swings, .ref a_t_box, .ref a_t_instead, .int t_saltFirst, .int t_paceOfAll, .int t_ice, .int t_salt, .int t_brine, .int t_cold, .int t_warm, .int t_frozen, .int t_layer, .int t_air, .int t_churned, .ref a_t_flakes, .ref a_t_tired, .int t_held, .int t_heldFirst, .int t_stiffWanted, .int t_stiffFirst, .ref a_t_image, .ref a_t_isKept])), (a_t_how, .inl (cI, 8, .inl t_how)), (a_t_instead, .inl (cI, 4, .inl t_instead))]
abbrev rmX9_asTold : Room := { frames := 0, cells := 0, slots := 0, locals := 0 }
theorem hd_X9_asTold : yX9_asTold.cls ≠ "java/lang/invoke/MethodHandle" ∧ yX9_asTold.cls ≠ "java/lang/invoke/VarHandle" ∧ (parseMethodDescriptor yX9_asTold.desc).map (fun d => d.parameters.length) = some 0 := by decide +kernel
set_option maxHeartbeats 4000000 in
set_option maxRecDepth 100000 in
theorem c_X9_asTold (l : Launch) (dC : Nat → ClassId) (dI : Nat → Nat → Nat) (cI cZ : ClassId) (ts : Nat → Nat) (sz : Nat) (a_t a_t_how a_t_strong a_t_pad a_t_plan a_t_box a_t_instead a_t_flakes a_t_tired a_t_image a_t_isKept : Nat) (t_signs : Int32) (t_parts : Int32) (t_swings : Int32) (t_saltFirst : Int32) (t_paceOfAll : Int32) (t_ice : Int32) (t_salt : Int32) (t_brine : Int32) (t_cold : Int32) (t_warm : Int32) (t_frozen : Int32) (t_layer : Int32) (t_air : Int32) (t_churned : Int32) (t_held : Int32) (t_heldFirst : Int32) (t_stiffWanted : Int32) (t_stiffFirst : Int32) (t_how : Nat → Int32) (t_instead : Nat → Int32) (R : Int32 × Int32 × (Nat → Int32)) (hf : f_X9_asTold t_saltFirst t_paceOfAll t_how t_instead = some R) : Met l yX9_asTold wyX9_asTold rmX9_asTold (PRE (dC, dI) cI cZ ts [.ref a_t] sz (woX9_asTold cI cZ a_t a_t_how a_t_strong a_t_pad a_t_plan a_t_box a_t_instead a_t_flakes a_t_tired a_t_image a_t_isKept t_signs t_parts t_swings t_saltFirst t_paceOfAll t_ice t_salt t_brine t_cold t_warm t_frozen t_layer t_air t_churned t_held t_heldFirst t_stiffWanted t_stiffFirst t_how t_instead)) (POSTv (dC, dI) sz (woX9_asTold cI cZ a_t a_t_how a_t_strong a_t_pad a_t_plan a_t_box a_t_instead a_t_flakes a_t_tired a_t_image a_t_isKept t_signs t_parts t_swings t_saltFirst t_paceOfAll t_ice t_salt t_brine t_cold t_warm t_frozen t_layer t_air t_churned t_held t_heldFirst t_stiffWanted t_stiffFirst t_how t_instead) (woX9_asTold cI cZ a_t a_t_how a_t_strong a_t_pad a_t_plan a_t_box a_t_instead a_t_flakes a_t_tired a_t_image a_t_isKept t_signs t_parts t_swings R.1 R.2.1 t_ice t_salt t_brine t_cold t_warm t_frozen t_layer t_air t_churned t_held t_heldFirst t_stiffWanted t_stiffFirst t_how R.2.2)) 0 0 (va_A (woX9_asTold cI cZ a_t a_t_how a_t_strong a_t_pad a_t_plan a_t_box a_t_instead a_t_flakes a_t_tired a_t_image a_t_isKept t_signs t_parts t_swings t_saltFirst t_paceOfAll t_ice t_salt t_brine t_cold t_warm t_frozen t_layer t_air t_churned t_held t_heldFirst t_stiffWanted t_stiffFirst t_how t_instead) sz) := by
  refine Met.ofW (cc := cX9_asTold) (maxL := 2) (ret := none) (by decide) rfl ?_
  intro p e s m args below meth c s₁ B hml hv
  obtain ⟨rfl, hv⟩ := hv
  have hG := hg_of hv
  obtain ⟨hsz, hP, -, hD0, -⟩ := hv
  have hx := B.exec
  have hb := B.bytes
  have hr := B.returns
  have hlk := B.notSynchronized
  have hown : s.vm.findClass RX9 = some m.cls := findClass_of_methodNamed B.named
  have hD := hD0.self (sz := sz)
  have hS : va_S (va_A (woX9_asTold cI cZ a_t a_t_how a_t_strong a_t_pad a_t_plan a_t_box a_t_instead a_t_flakes a_t_tired a_t_image a_t_isKept t_signs t_parts t_swings t_saltFirst t_paceOfAll t_ice t_salt t_brine t_cold t_warm t_frozen t_layer t_air t_churned t_held t_heldFirst t_stiffWanted t_stiffFirst t_how t_instead) sz) s.heap s.heap [] := va_S.rf
  have L2 : ∀ (fu : Nat) (y1 : Int32) (v_t_saltFirst : Int32) (v_t_paceOfAll : Int32) (v_t_instead : Nat → Int32) (H : Heap) (locs : List Loc) (ls : Array Slot), f_X9_asTold_L2 t_how fu y1 v_t_saltFirst v_t_paceOfAll v_t_instead = some R → va_P (dC, dI) vwCl (woX9_asTold cI cZ a_t a_t_how a_t_strong a_t_pad a_t_plan a_t_box a_t_instead a_t_flakes a_t_tired a_t_image a_t_isKept t_signs t_parts t_swings v_t_saltFirst v_t_paceOfAll t_ice t_salt t_brine t_cold t_warm t_frozen t_layer t_air t_churned t_held t_heldFirst t_stiffWanted t_stiffFirst t_how v_t_instead) H → va_D (va_A (woX9_asTold cI cZ a_t a_t_how a_t_strong a_t_pad a_t_plan a_t_box a_t_instead a_t_flakes a_t_tired a_t_image a_t_isKept t_signs t_parts t_swings t_saltFirst t_paceOfAll t_ice t_salt t_brine t_cold t_warm t_frozen t_layer t_air t_churned t_held t_heldFirst t_stiffWanted t_stiffFirst t_how t_instead) sz) (woX9_asTold cI cZ a_t a_t_how a_t_strong a_t_pad a_t_plan a_t_box a_t_instead a_t_flakes a_t_tired a_t_image a_t_isKept t_signs t_parts t_swings v_t_saltFirst v_t_paceOfAll t_ice t_salt t_brine t_cold t_warm t_frozen t_layer t_air t_churned t_held t_heldFirst t_stiffWanted t_stiffFirst t_how v_t_instead) → va_S (va_A (woX9_asTold cI cZ a_t a_t_how a_t_strong a_t_pad a_t_plan a_t_box a_t_instead a_t_flakes a_t_tired a_t_image a_t_isKept t_signs t_parts t_swings t_saltFirst t_paceOfAll t_ice t_salt t_brine t_cold t_warm t_frozen t_layer t_air t_churned t_held t_heldFirst t_stiffWanted t_stiffFirst t_how t_instead) sz) s.heap H locs → lv_has ls 2 [(0, .ref a_t), (1, .int y1)] → W p l e (headSpec wyX9_asTold rmX9_asTold).room s m ([Value.ref a_t] : List Value).toArray below meth c H locs 0 0 (MQ below (POSTv (dC, dI) sz (woX9_asTold cI cZ a_t a_t_how a_t_strong a_t_pad a_t_plan a_t_box a_t_instead a_t_flakes a_t_tired a_t_image a_t_isKept t_signs t_parts t_swings t_saltFirst t_paceOfAll t_ice t_salt t_brine t_cold t_warm t_frozen t_layer t_air t_churned t_held t_heldFirst t_stiffWanted t_stiffFirst t_how t_instead) (woX9_asTold cI cZ a_t a_t_how a_t_strong a_t_pad a_t_plan a_t_box a_t_instead a_t_flakes a_t_tired a_t_image a_t_isKept t_signs t_parts t_swings R.1 R.2.1 t_ice t_salt t_brine t_cold t_warm t_frozen t_layer t_air t_churned t_held t_heldFirst t_stiffWanted t_stiffFirst t_how R.2.2)) ([Value.ref a_t] : List Value).toArray s 0 0 (va_A (woX9_asTold cI cZ a_t a_t_how a_t_strong a_t_pad a_t_plan a_t_box a_t_instead a_t_flakes a_t_tired a_t_image a_t_isKept t_signs t_parts t_swings t_saltFirst t_paceOfAll t_ice t_salt t_brine t_cold t_warm t_frozen t_layer t_air t_churned t_held t_heldFirst t_stiffWanted t_stiffFirst t_how t_instead) sz)) (F0 m 2 ls []) := by
    intro  fu
    induction fu with
    | zero => intro y1 v_t_saltFirst v_t_paceOfAll v_t_instead H locs ls hf; cases hf
    | succ fu ih =>
      intro y1 v_t_saltFirst v_t_paceOfAll v_t_instead H locs ls hf hP hD hS hl
      rw [f_X9_asTold_L2] at hf
      refine lv_iload_n hx hb dX9_asTold_2 rfl (lv_at hl 1 rfl) ?_
      refine lv_iconst (v := 4) hx hb dX9_asTold_3 (by decide) ?_
      refine lv_icmp_ge (tgt := 20) hx hb dX9_asTold_4 (by decide) (fun c1 => ?_) (fun c1 => ?_)
      · have hf := (if_pos c1).symm.trans hf
        refine lv_aload_n hx hb dX9_asTold_20 rfl (lv_at hl 0 rfl) ?_
        refine lv_aload_n hx hb dX9_asTold_21 rfl (lv_at hl 0 rfl) ?_
        refine mg (ci := 9) 0 0 hx hb hG igX9 hown hP rfl rfl (by decide) (wd_3_132 hG.2.1) rfl rfl dX9_asTold_22 ?_
        refine lv_iconst (v := 1) hx hb dX9_asTold_25 (by decide) ?_
        obtain ⟨g2, hf⟩ := gd_some hf
        refine mal 1 hx hb hG hP rfl g2 dX9_asTold_26 ?_
        refine mp (ci := 9) (wN := (woX9_asTold cI cZ a_t a_t_how a_t_strong a_t_pad a_t_plan a_t_box a_t_instead a_t_flakes a_t_tired a_t_image a_t_isKept t_signs t_parts t_swings (t_how ((1 : Int32)).toNatClampNeg) v_t_paceOfAll t_ice t_salt t_brine t_cold t_warm t_frozen t_layer t_air t_churned t_held t_heldFirst t_stiffWanted t_stiffFirst t_how v_t_instead)) 0 9 hx hb hG igX9 tyX9 tyX9_ok nmX9 hown hP hD hS rfl rfl (by decide) (wd_3_141 hG.2.1) rfl rfl rfl rfl rfl (Nat.le_of_ble_eq_true rfl) rfl dX9_asTold_27 (fun H locs hP hD hS => ?_)
        refine lv_aload_n hx hb dX9_asTold_30 rfl (lv_at hl 0 rfl) ?_
        refine lv_bipush (v := -6) hx hb dX9_asTold_31 (by decide) ?_
        refine mp (ci := 9) (wN := (woX9_asTold cI cZ a_t a_t_how a_t_strong a_t_pad a_t_plan a_t_box a_t_instead a_t_flakes a_t_tired a_t_image a_t_isKept t_signs t_parts t_swings (t_how ((1 : Int32)).toNatClampNeg) (-6 : Int32) t_ice t_salt t_brine t_cold t_warm t_frozen t_layer t_air t_churned t_held t_heldFirst t_stiffWanted t_stiffFirst t_how v_t_instead)) 0 10 hx hb hG igX9 tyX9 tyX9_ok nmX9 hown hP hD hS rfl rfl (by decide) (wd_3_142 hG.2.1) rfl rfl rfl rfl rfl (Nat.le_of_ble_eq_true rfl) rfl dX9_asTold_33 (fun H locs hP hD hS => ?_)
        have hR := Option.some.inj hf
        rw [← hR]
        exact rt_v hx hb hr hlk hsz hP hD hS rfl dX9_asTold_36
      · have hf := (if_neg c1).symm.trans hf
        refine lv_aload_n hx hb dX9_asTold_7 rfl (lv_at hl 0 rfl) ?_
        refine mg (ci := 9) 0 8 hx hb hG igX9 hown hP rfl rfl (by decide) (wd_3_140 hG.2.1) rfl rfl dX9_asTold_8 ?_
        refine lv_iload_n hx hb dX9_asTold_11 rfl (lv_at hl 1 rfl) ?_
        refine lv_iload_n hx hb dX9_asTold_12 rfl (lv_at hl 1 rfl) ?_
        obtain ⟨g3, hf⟩ := gd_some hf
        refine mas (wN := (woX9_asTold cI cZ a_t a_t_how a_t_strong a_t_pad a_t_plan a_t_box a_t_instead a_t_flakes a_t_tired a_t_image a_t_isKept t_signs t_parts t_swings v_t_saltFirst v_t_paceOfAll t_ice t_salt t_brine t_cold t_warm t_frozen t_layer t_air t_churned t_held t_heldFirst t_stiffWanted t_stiffFirst t_how (upd v_t_instead (y1).toNatClampNeg y1))) 2 hx hb hG hP hD hS rfl g3 rfl dX9_asTold_13 (fun H locs hP hD hS => ?_)
        refine lv_iinc (v := (y1 + (1 : Int32))) (lv' := [(1, .int (y1 + (1 : Int32))), (0, .ref a_t)]) hx hb dX9_asTold_14 hl (k := 1) rfl rfl (by decide) rfl (fun ls hl => ?_)
        refine lv_goto (tgt := 2) hx hb dX9_asTold_17 (by decide) ?_
        exact ih (y1 + (1 : Int32)) v_t_saltFirst v_t_paceOfAll (upd v_t_instead (y1).toNatClampNeg y1) _ _ _ hf hP hD hS (lv_sub hl [1, 0] rfl)
  have hl := lv_entry ([.ref a_t]) (n := 2) (Nat.le_of_ble_eq_true rfl)
  rw [lg_entry_eq]
  generalize (lg_sl ([.ref a_t]) ++ List.replicate (2 - (lg_sl ([.ref a_t])).length) Slot.unset).toArray = ls at hl ⊢
  have hl : lv_has ls 2 [(0, .ref a_t)] := hl
  unfold f_X9_asTold at hf
  refine lv_iconst (v := 0) hx hb dX9_asTold_0 (by decide) ?_
  refine lv_istore_n (lv' := [(1, .int (0 : Int32)), (0, .ref a_t)]) hx hb dX9_asTold_1 rfl hl (by decide) rfl (fun ls hl => ?_)
  exact L2 FU (0 : Int32) t_saltFirst t_paceOfAll t_instead _ _ _ hf hP hD hS (lv_sub hl [1, 0] rfl)
abbrev woX9_lineNow (cI cZ : ClassId) (a_t a_t_how a_t_strong a_t_pad a_t_plan a_t_box a_t_instead a_t_flakes a_t_tired a_t_image a_t_isKept : Nat) (t_signs : Int32) (t_parts : Int32) (t_swings : Int32) (t_saltFirst : Int32) (t_paceOfAll : Int32) (t_ice : Int32) (t_salt : Int32) (t_brine : Int32) (t_cold : Int32) (t_warm : Int32) (t_frozen : Int32) (t_layer : Int32) (t_air : Int32) (t_churned : Int32) (t_held : Int32) (t_heldFirst : Int32) (t_stiffWanted : Int32) (t_stiffFirst : Int32) (t_how : Nat → Int32) : va_W := [(a_t, .inr (9, [.ref a_t_how, .ref a_t_strong, .int t_signs, .ref a_t_pad, .int t_parts, .ref a_t_plan, .int t_swings, .ref a_t_box, .ref a_t_instead, .int t_saltFirst, .int t_paceOfAll, .int t_ice, .int t_salt, .int t_brine, .int t_cold, .int t_warm, .int t_frozen, .int t_layer, .int t_air, .int t_churned, .ref a_t_flakes, .ref a_t_tired, .int t_held, .int t_heldFirst, .int t_stiffWanted, .int t_stiffFirst, .ref a_t_image, .ref a_t_isKept])), (a_t_how, .inl (cI, 8, .inl t_how))]
abbrev rmX9_lineNow : Room := { frames := 0, cells := 0, slots := 0, locals := 0 }
theorem hd_X9_lineNow : yX9_lineNow.cls ≠ "java/lang/invoke/MethodHandle" ∧ yX9_lineNow.cls ≠ "java/lang/invoke/VarHandle" ∧ (parseMethodDescriptor yX9_lineNow.desc).map (fun d => d.parameters.length) = some 0 := by decide +kernel
set_option maxHeartbeats 4000000 in
set_option maxRecDepth 100000 in
theorem c_X9_lineNow (l : Launch) (dC : Nat → ClassId) (dI : Nat → Nat → Nat) (cI cZ : ClassId) (ts : Nat → Nat) (sz : Nat) (a_t a_t_how a_t_strong a_t_pad a_t_plan a_t_box a_t_instead a_t_flakes a_t_tired a_t_image a_t_isKept : Nat) (t_signs : Int32) (t_parts : Int32) (t_swings : Int32) (t_saltFirst : Int32) (t_paceOfAll : Int32) (t_ice : Int32) (t_salt : Int32) (t_brine : Int32) (t_cold : Int32) (t_warm : Int32) (t_frozen : Int32) (t_layer : Int32) (t_air : Int32) (t_churned : Int32) (t_held : Int32) (t_heldFirst : Int32) (t_stiffWanted : Int32) (t_stiffFirst : Int32) (t_how : Nat → Int32) (R : Int32) (hf : f_X9_lineNow t_frozen t_layer t_how = some R) : Met l yX9_lineNow wyX9_lineNow rmX9_lineNow (PRE (dC, dI) cI cZ ts [.ref a_t] sz (woX9_lineNow cI cZ a_t a_t_how a_t_strong a_t_pad a_t_plan a_t_box a_t_instead a_t_flakes a_t_tired a_t_image a_t_isKept t_signs t_parts t_swings t_saltFirst t_paceOfAll t_ice t_salt t_brine t_cold t_warm t_frozen t_layer t_air t_churned t_held t_heldFirst t_stiffWanted t_stiffFirst t_how)) (POSTi (dC, dI) R sz (woX9_lineNow cI cZ a_t a_t_how a_t_strong a_t_pad a_t_plan a_t_box a_t_instead a_t_flakes a_t_tired a_t_image a_t_isKept t_signs t_parts t_swings t_saltFirst t_paceOfAll t_ice t_salt t_brine t_cold t_warm t_frozen t_layer t_air t_churned t_held t_heldFirst t_stiffWanted t_stiffFirst t_how) (woX9_lineNow cI cZ a_t a_t_how a_t_strong a_t_pad a_t_plan a_t_box a_t_instead a_t_flakes a_t_tired a_t_image a_t_isKept t_signs t_parts t_swings t_saltFirst t_paceOfAll t_ice t_salt t_brine t_cold t_warm t_frozen t_layer t_air t_churned t_held t_heldFirst t_stiffWanted t_stiffFirst t_how)) 0 0 (va_A (woX9_lineNow cI cZ a_t a_t_how a_t_strong a_t_pad a_t_plan a_t_box a_t_instead a_t_flakes a_t_tired a_t_image a_t_isKept t_signs t_parts t_swings t_saltFirst t_paceOfAll t_ice t_salt t_brine t_cold t_warm t_frozen t_layer t_air t_churned t_held t_heldFirst t_stiffWanted t_stiffFirst t_how) sz) := by
  refine Met.ofW (cc := cX9_lineNow) (maxL := 1) (ret := (some .int)) (by decide) rfl ?_
  intro p e s m args below meth c s₁ B hml hv
  obtain ⟨rfl, hv⟩ := hv
  have hG := hg_of hv
  obtain ⟨hsz, hP, -, hD0, -⟩ := hv
  have hx := B.exec
  have hb := B.bytes
  have hr := B.returns
  have hlk := B.notSynchronized
  have hown : s.vm.findClass RX9 = some m.cls := findClass_of_methodNamed B.named
  have hD := hD0.self (sz := sz)
  have hS : va_S (va_A (woX9_lineNow cI cZ a_t a_t_how a_t_strong a_t_pad a_t_plan a_t_box a_t_instead a_t_flakes a_t_tired a_t_image a_t_isKept t_signs t_parts t_swings t_saltFirst t_paceOfAll t_ice t_salt t_brine t_cold t_warm t_frozen t_layer t_air t_churned t_held t_heldFirst t_stiffWanted t_stiffFirst t_how) sz) s.heap s.heap [] := va_S.rf
  have hl := lv_entry ([.ref a_t]) (n := 1) (Nat.le_of_ble_eq_true rfl)
  rw [lg_entry_eq]
  generalize (lg_sl ([.ref a_t]) ++ List.replicate (1 - (lg_sl ([.ref a_t])).length) Slot.unset).toArray = ls at hl ⊢
  have hl : lv_has ls 1 [(0, .ref a_t)] := hl
  unfold f_X9_lineNow at hf
  refine lv_bipush (v := 54) hx hb dX9_lineNow_0 (by decide) ?_
  refine lv_aload_n hx hb dX9_lineNow_2 rfl (lv_at hl 0 rfl) ?_
  refine mg (ci := 9) 0 0 hx hb hG igX9 hown hP rfl rfl (by decide) (wd_3_132 hG.2.1) rfl rfl dX9_lineNow_3 ?_
  refine lv_iconst (v := 3) hx hb dX9_lineNow_6 (by decide) ?_
  obtain ⟨g1, hf⟩ := gd_some hf
  refine mal 1 hx hb hG hP rfl g1 dX9_lineNow_7 ?_
  refine lv_imul hx hb dX9_lineNow_8 ?_
  refine lv_aload_n hx hb dX9_lineNow_9 rfl (lv_at hl 0 rfl) ?_
  refine mg (ci := 9) 0 0 hx hb hG igX9 hown hP rfl rfl (by decide) (wd_3_132 hG.2.1) rfl rfl dX9_lineNow_10 ?_
  refine lv_iconst (v := 2) hx hb dX9_lineNow_13 (by decide) ?_
  obtain ⟨g2, hf⟩ := gd_some hf
  refine mal 1 hx hb hG hP rfl g2 dX9_lineNow_14 ?_
  refine lv_aload_n hx hb dX9_lineNow_15 rfl (lv_at hl 0 rfl) ?_
  refine mg (ci := 9) 0 16 hx hb hG igX9 hown hP rfl rfl (by decide) (wd_3_148 hG.2.1) rfl rfl dX9_lineNow_16 ?_
  refine lv_isub hx hb dX9_lineNow_19 ?_
  refine lv_aload_n hx hb dX9_lineNow_20 rfl (lv_at hl 0 rfl) ?_
  refine mg (ci := 9) 0 17 hx hb hG igX9 hown hP rfl rfl (by decide) (wd_3_149 hG.2.1) rfl rfl dX9_lineNow_21 ?_
  refine lv_isub hx hb dX9_lineNow_24 ?_
  obtain ⟨g3, hf⟩ := gd_some hf
  refine lv_idiv hx hb dX9_lineNow_25 g3 ?_
  have hR := Option.some.inj hf
  rw [← hR]
  exact rt_i hx hb hr hlk hsz hP hD hS rfl rfl dX9_lineNow_26
abbrev woX9_stiffNow (cI cZ : ClassId) (a_t a_t_how a_t_strong a_t_pad a_t_plan a_t_box a_t_instead a_t_flakes a_t_tired a_t_image a_t_isKept : Nat) (t_signs : Int32) (t_parts : Int32) (t_swings : Int32) (t_saltFirst : Int32) (t_paceOfAll : Int32) (t_ice : Int32) (t_salt : Int32) (t_brine : Int32) (t_cold : Int32) (t_warm : Int32) (t_frozen : Int32) (t_layer : Int32) (t_air : Int32) (t_churned : Int32) (t_held : Int32) (t_heldFirst : Int32) (t_stiffWanted : Int32) (t_stiffFirst : Int32) (t_how : Nat → Int32) : va_W := [(a_t, .inr (9, [.ref a_t_how, .ref a_t_strong, .int t_signs, .ref a_t_pad, .int t_parts, .ref a_t_plan, .int t_swings, .ref a_t_box, .ref a_t_instead, .int t_saltFirst, .int t_paceOfAll, .int t_ice, .int t_salt, .int t_brine, .int t_cold, .int t_warm, .int t_frozen, .int t_layer, .int t_air, .int t_churned, .ref a_t_flakes, .ref a_t_tired, .int t_held, .int t_heldFirst, .int t_stiffWanted, .int t_stiffFirst, .ref a_t_image, .ref a_t_isKept])), (a_t_how, .inl (cI, 8, .inl t_how))]
abbrev rmX9_stiffNow : Room := { frames := 0, cells := 0, slots := 0, locals := 0 }
theorem hd_X9_stiffNow : yX9_stiffNow.cls ≠ "java/lang/invoke/MethodHandle" ∧ yX9_stiffNow.cls ≠ "java/lang/invoke/VarHandle" ∧ (parseMethodDescriptor yX9_stiffNow.desc).map (fun d => d.parameters.length) = some 0 := by decide +kernel
set_option maxHeartbeats 4000000 in
set_option maxRecDepth 100000 in
theorem c_X9_stiffNow (l : Launch) (dC : Nat → ClassId) (dI : Nat → Nat → Nat) (cI cZ : ClassId) (ts : Nat → Nat) (sz : Nat) (a_t a_t_how a_t_strong a_t_pad a_t_plan a_t_box a_t_instead a_t_flakes a_t_tired a_t_image a_t_isKept : Nat) (t_signs : Int32) (t_parts : Int32) (t_swings : Int32) (t_saltFirst : Int32) (t_paceOfAll : Int32) (t_ice : Int32) (t_salt : Int32) (t_brine : Int32) (t_cold : Int32) (t_warm : Int32) (t_frozen : Int32) (t_layer : Int32) (t_air : Int32) (t_churned : Int32) (t_held : Int32) (t_heldFirst : Int32) (t_stiffWanted : Int32) (t_stiffFirst : Int32) (t_how : Nat → Int32) (R : Int32) (hf : f_X9_stiffNow t_frozen t_air t_how = some R) : Met l yX9_stiffNow wyX9_stiffNow rmX9_stiffNow (PRE (dC, dI) cI cZ ts [.ref a_t] sz (woX9_stiffNow cI cZ a_t a_t_how a_t_strong a_t_pad a_t_plan a_t_box a_t_instead a_t_flakes a_t_tired a_t_image a_t_isKept t_signs t_parts t_swings t_saltFirst t_paceOfAll t_ice t_salt t_brine t_cold t_warm t_frozen t_layer t_air t_churned t_held t_heldFirst t_stiffWanted t_stiffFirst t_how)) (POSTi (dC, dI) R sz (woX9_stiffNow cI cZ a_t a_t_how a_t_strong a_t_pad a_t_plan a_t_box a_t_instead a_t_flakes a_t_tired a_t_image a_t_isKept t_signs t_parts t_swings t_saltFirst t_paceOfAll t_ice t_salt t_brine t_cold t_warm t_frozen t_layer t_air t_churned t_held t_heldFirst t_stiffWanted t_stiffFirst t_how) (woX9_stiffNow cI cZ a_t a_t_how a_t_strong a_t_pad a_t_plan a_t_box a_t_instead a_t_flakes a_t_tired a_t_image a_t_isKept t_signs t_parts t_swings t_saltFirst t_paceOfAll t_ice t_salt t_brine t_cold t_warm t_frozen t_layer t_air t_churned t_held t_heldFirst t_stiffWanted t_stiffFirst t_how)) 0 0 (va_A (woX9_stiffNow cI cZ a_t a_t_how a_t_strong a_t_pad a_t_plan a_t_box a_t_instead a_t_flakes a_t_tired a_t_image a_t_isKept t_signs t_parts t_swings t_saltFirst t_paceOfAll t_ice t_salt t_brine t_cold t_warm t_frozen t_layer t_air t_churned t_held t_heldFirst t_stiffWanted t_stiffFirst t_how) sz) := by
  refine Met.ofW (cc := cX9_stiffNow) (maxL := 1) (ret := (some .int)) (by decide) rfl ?_
  intro p e s m args below meth c s₁ B hml hv
  obtain ⟨rfl, hv⟩ := hv
  have hG := hg_of hv
  obtain ⟨hsz, hP, -, hD0, -⟩ := hv
  have hx := B.exec
  have hb := B.bytes
  have hr := B.returns
  have hlk := B.notSynchronized
  have hown : s.vm.findClass RX9 = some m.cls := findClass_of_methodNamed B.named
  have hD := hD0.self (sz := sz)
  have hS : va_S (va_A (woX9_stiffNow cI cZ a_t a_t_how a_t_strong a_t_pad a_t_plan a_t_box a_t_instead a_t_flakes a_t_tired a_t_image a_t_isKept t_signs t_parts t_swings t_saltFirst t_paceOfAll t_ice t_salt t_brine t_cold t_warm t_frozen t_layer t_air t_churned t_held t_heldFirst t_stiffWanted t_stiffFirst t_how) sz) s.heap s.heap [] := va_S.rf
  have hl := lv_entry ([.ref a_t]) (n := 1) (Nat.le_of_ble_eq_true rfl)
  rw [lg_entry_eq]
  generalize (lg_sl ([.ref a_t]) ++ List.replicate (1 - (lg_sl ([.ref a_t])).length) Slot.unset).toArray = ls at hl ⊢
  have hl : lv_has ls 1 [(0, .ref a_t)] := hl
  unfold f_X9_stiffNow at hf
  refine lv_bipush (v := 100) hx hb dX9_stiffNow_0 (by decide) ?_
  refine lv_aload_n hx hb dX9_stiffNow_2 rfl (lv_at hl 0 rfl) ?_
  refine mg (ci := 9) 0 16 hx hb hG igX9 hown hP rfl rfl (by decide) (wd_3_148 hG.2.1) rfl rfl dX9_stiffNow_3 ?_
  refine lv_imul hx hb dX9_stiffNow_6 ?_
  refine lv_aload_n hx hb dX9_stiffNow_7 rfl (lv_at hl 0 rfl) ?_
  refine mg (ci := 9) 0 0 hx hb hG igX9 hown hP rfl rfl (by decide) (wd_3_132 hG.2.1) rfl rfl dX9_stiffNow_8 ?_
  refine lv_iconst (v := 2) hx hb dX9_stiffNow_11 (by decide) ?_
  obtain ⟨g1, hf⟩ := gd_some hf
  refine mal 1 hx hb hG hP rfl g1 dX9_stiffNow_12 ?_
  obtain ⟨g2, hf⟩ := gd_some hf
  refine lv_idiv hx hb dX9_stiffNow_13 g2 ?_
  refine lv_aload_n hx hb dX9_stiffNow_14 rfl (lv_at hl 0 rfl) ?_
  refine mg (ci := 9) 0 18 hx hb hG igX9 hown hP rfl rfl (by decide) (wd_3_150 hG.2.1) rfl rfl dX9_stiffNow_15 ?_
  refine lv_iconst (v := 5) hx hb dX9_stiffNow_18 (by decide) ?_
  refine lv_idiv hx hb dX9_stiffNow_19 (by decide) ?_
  refine lv_iadd hx hb dX9_stiffNow_20 ?_
  have hR := Option.some.inj hf
  rw [← hR]
  exact rt_i hx hb hr hlk hsz hP hD hS rfl rfl dX9_stiffNow_21
abbrev woX9_coldOf (cI cZ : ClassId) (a_t a_t_how a_t_strong a_t_pad a_t_plan a_t_box a_t_instead a_t_flakes a_t_tired a_t_image a_t_isKept : Nat) (t_signs : Int32) (t_parts : Int32) (t_swings : Int32) (t_saltFirst : Int32) (t_paceOfAll : Int32) (t_ice : Int32) (t_salt : Int32) (t_brine : Int32) (t_cold : Int32) (t_warm : Int32) (t_frozen : Int32) (t_layer : Int32) (t_air : Int32) (t_churned : Int32) (t_held : Int32) (t_heldFirst : Int32) (t_stiffWanted : Int32) (t_stiffFirst : Int32) : va_W := [(a_t, .inr (9, [.ref a_t_how, .ref a_t_strong, .int t_signs, .ref a_t_pad, .int t_parts, .ref a_t_plan, .int t_swings, .ref a_t_box, .ref a_t_instead, .int t_saltFirst, .int t_paceOfAll, .int t_ice, .int t_salt, .int t_brine, .int t_cold, .int t_warm, .int t_frozen, .int t_layer, .int t_air, .int t_churned, .ref a_t_flakes, .ref a_t_tired, .int t_held, .int t_heldFirst, .int t_stiffWanted, .int t_stiffFirst, .ref a_t_image, .ref a_t_isKept]))]
abbrev rmX9_coldOf : Room := { frames := 0, cells := 0, slots := 0, locals := 0 }
theorem hd_X9_coldOf : yX9_coldOf.cls ≠ "java/lang/invoke/MethodHandle" ∧ yX9_coldOf.cls ≠ "java/lang/invoke/VarHandle" ∧ (parseMethodDescriptor yX9_coldOf.desc).map (fun d => d.parameters.length) = some 0 := by decide +kernel
set_option maxHeartbeats 4000000 in
set_option maxRecDepth 100000 in
theorem c_X9_coldOf (l : Launch) (dC : Nat → ClassId) (dI : Nat → Nat → Nat) (cI cZ : ClassId) (ts : Nat → Nat) (sz : Nat) (a_t a_t_how a_t_strong a_t_pad a_t_plan a_t_box a_t_instead a_t_flakes a_t_tired a_t_image a_t_isKept : Nat) (t_signs : Int32) (t_parts : Int32) (t_swings : Int32) (t_saltFirst : Int32) (t_paceOfAll : Int32) (t_ice : Int32) (t_salt : Int32) (t_brine : Int32) (t_cold : Int32) (t_warm : Int32) (t_frozen : Int32) (t_layer : Int32) (t_air : Int32) (t_churned : Int32) (t_held : Int32) (t_heldFirst : Int32) (t_stiffWanted : Int32) (t_stiffFirst : Int32) (R : Int32) (hf : f_X9_coldOf t_ice t_salt t_brine = some R) : Met l yX9_coldOf wyX9_coldOf rmX9_coldOf (PRE (dC, dI) cI cZ ts [.ref a_t] sz (woX9_coldOf cI cZ a_t a_t_how a_t_strong a_t_pad a_t_plan a_t_box a_t_instead a_t_flakes a_t_tired a_t_image a_t_isKept t_signs t_parts t_swings t_saltFirst t_paceOfAll t_ice t_salt t_brine t_cold t_warm t_frozen t_layer t_air t_churned t_held t_heldFirst t_stiffWanted t_stiffFirst)) (POSTi (dC, dI) R sz (woX9_coldOf cI cZ a_t a_t_how a_t_strong a_t_pad a_t_plan a_t_box a_t_instead a_t_flakes a_t_tired a_t_image a_t_isKept t_signs t_parts t_swings t_saltFirst t_paceOfAll t_ice t_salt t_brine t_cold t_warm t_frozen t_layer t_air t_churned t_held t_heldFirst t_stiffWanted t_stiffFirst) (woX9_coldOf cI cZ a_t a_t_how a_t_strong a_t_pad a_t_plan a_t_box a_t_instead a_t_flakes a_t_tired a_t_image a_t_isKept t_signs t_parts t_swings t_saltFirst t_paceOfAll t_ice t_salt t_brine t_cold t_warm t_frozen t_layer t_air t_churned t_held t_heldFirst t_stiffWanted t_stiffFirst)) 0 0 (va_A (woX9_coldOf cI cZ a_t a_t_how a_t_strong a_t_pad a_t_plan a_t_box a_t_instead a_t_flakes a_t_tired a_t_image a_t_isKept t_signs t_parts t_swings t_saltFirst t_paceOfAll t_ice t_salt t_brine t_cold t_warm t_frozen t_layer t_air t_churned t_held t_heldFirst t_stiffWanted t_stiffFirst) sz) := by
  refine Met.ofW (cc := cX9_coldOf) (maxL := 2) (ret := (some .int)) (by decide) rfl ?_
  intro p e s m args below meth c s₁ B hml hv
  obtain ⟨rfl, hv⟩ := hv
  have hG := hg_of hv
  obtain ⟨hsz, hP, -, hD0, -⟩ := hv
  have hx := B.exec
  have hb := B.bytes
  have hr := B.returns
  have hlk := B.notSynchronized
  have hown : s.vm.findClass RX9 = some m.cls := findClass_of_methodNamed B.named
  have hD := hD0.self (sz := sz)
  have hS : va_S (va_A (woX9_coldOf cI cZ a_t a_t_how a_t_strong a_t_pad a_t_plan a_t_box a_t_instead a_t_flakes a_t_tired a_t_image a_t_isKept t_signs t_parts t_swings t_saltFirst t_paceOfAll t_ice t_salt t_brine t_cold t_warm t_frozen t_layer t_air t_churned t_held t_heldFirst t_stiffWanted t_stiffFirst) sz) s.heap s.heap [] := va_S.rf
  have hl := lv_entry ([.ref a_t]) (n := 2) (Nat.le_of_ble_eq_true rfl)
  rw [lg_entry_eq]
  generalize (lg_sl ([.ref a_t]) ++ List.replicate (2 - (lg_sl ([.ref a_t])).length) Slot.unset).toArray = ls at hl ⊢
  have hl : lv_has ls 2 [(0, .ref a_t)] := hl
  unfold f_X9_coldOf at hf
  refine lv_sipush (v := 900) hx hb dX9_coldOf_0 (by decide) ?_
  refine lv_aload_n hx hb dX9_coldOf_3 rfl (lv_at hl 0 rfl) ?_
  refine mg (ci := 9) 0 12 hx hb hG igX9 hown hP rfl rfl (by decide) (wd_3_144 hG.2.1) rfl rfl dX9_coldOf_4 ?_
  refine lv_imul hx hb dX9_coldOf_7 ?_
  refine lv_aload_n hx hb dX9_coldOf_8 rfl (lv_at hl 0 rfl) ?_
  refine mg (ci := 9) 0 11 hx hb hG igX9 hown hP rfl rfl (by decide) (wd_3_143 hG.2.1) rfl rfl dX9_coldOf_9 ?_
  refine lv_aload_n hx hb dX9_coldOf_12 rfl (lv_at hl 0 rfl) ?_
  refine mg (ci := 9) 0 13 hx hb hG igX9 hown hP rfl rfl (by decide) (wd_3_145 hG.2.1) rfl rfl dX9_coldOf_13 ?_
  refine lv_iadd hx hb dX9_coldOf_16 ?_
  refine lv_aload_n hx hb dX9_coldOf_17 rfl (lv_at hl 0 rfl) ?_
  refine mg (ci := 9) 0 12 hx hb hG igX9 hown hP rfl rfl (by decide) (wd_3_144 hG.2.1) rfl rfl dX9_coldOf_18 ?_
  refine lv_iadd hx hb dX9_coldOf_21 ?_
  obtain ⟨g1, hf⟩ := gd_some hf
  refine lv_idiv hx hb dX9_coldOf_22 g1 ?_
  refine lv_istore_n (lv' := [(1, .int (((900 : Int32) * t_salt) / ((t_ice + t_brine) + t_salt))), (0, .ref a_t)]) hx hb dX9_coldOf_23 rfl hl (by decide) rfl (fun ls hl => ?_)
  refine lv_iload_n hx hb dX9_coldOf_24 rfl (lv_at hl 0 rfl) ?_
  refine lv_sipush (v := 210) hx hb dX9_coldOf_25 (by decide) ?_
  refine lv_icmp_le (tgt := 37) hx hb dX9_coldOf_28 (by decide) (fun c2 => ?_) (fun c2 => ?_)
  · have hf := (if_pos c2).symm.trans hf
    refine lv_iload_n hx hb dX9_coldOf_37 rfl (lv_at hl 0 rfl) ?_
    have hR := Option.some.inj hf
    rw [← hR]
    exact rt_i hx hb hr hlk hsz hP hD hS rfl rfl dX9_coldOf_38
  · have hf := (if_neg c2).symm.trans hf
    refine lv_sipush (v := 210) hx hb dX9_coldOf_31 (by decide) ?_
    refine lv_goto (tgt := 38) hx hb dX9_coldOf_34 (by decide) ?_
    have hR := Option.some.inj hf
    rw [← hR]
    exact rt_i hx hb hr hlk hsz hP hD hS rfl rfl dX9_coldOf_38
