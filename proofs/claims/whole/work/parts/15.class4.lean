abbrev woX8_told (cI cZ : ClassId) (a_t a_t_pad a_t_now a_t_imageZero a_t_imageOne a_t_run a_t_pad_codes a_t_now_numbers a_t_now_strengths a_t_now_steps a_t_now_swings a_t_now_steps_who a_t_now_steps_amount a_t_now_steps_length a_t_now_swings_codes : Nat) (t_pad_count : Int32) (t_now_holds : Int32) (t_now_numbers : Nat → Int32) (t_now_strengths : Nat → Int32) (t_now_steps_parts : Int32) (t_now_steps_minutes : Int32) (t_now_swings_count : Int32) : va_W := [(a_t, .inr (8, [.ref a_t_pad, .ref a_t_now, .ref a_t_imageZero, .ref a_t_imageOne, .ref a_t_run])), (a_t_pad, .inr (6, [.ref a_t_pad_codes, .int t_pad_count])), (a_t_now, .inr (4, [.int t_now_holds, .ref a_t_now_numbers, .ref a_t_now_strengths, .ref a_t_now_steps, .ref a_t_now_swings])), (a_t_now_numbers, .inl (cI, 8, .inl t_now_numbers)), (a_t_now_strengths, .inl (cI, 4, .inl t_now_strengths)), (a_t_now_steps, .inr (7, [.ref a_t_now_steps_who, .ref a_t_now_steps_amount, .ref a_t_now_steps_length, .int t_now_steps_parts, .int t_now_steps_minutes])), (a_t_now_swings, .inr (6, [.ref a_t_now_swings_codes, .int t_now_swings_count]))]
abbrev rmX8_told : Room := { frames := 2, cells := 0, slots := 0, locals := 42 }
theorem hd_X8_told : yX8_told.cls ≠ "java/lang/invoke/MethodHandle" ∧ yX8_told.cls ≠ "java/lang/invoke/VarHandle" ∧ (parseMethodDescriptor yX8_told.desc).map (fun d => d.parameters.length) = some 1 := by decide +kernel
set_option maxHeartbeats 4000000 in
set_option maxRecDepth 100000 in
theorem c_X8_told (l : Launch) (dC : Nat → ClassId) (dI : Nat → Nat → Nat) (cI cZ : ClassId) (ts : Nat → Nat) (sz : Nat) (a_t a_t_pad a_t_now a_t_imageZero a_t_imageOne a_t_run a_t_pad_codes a_t_now_numbers a_t_now_strengths a_t_now_steps a_t_now_swings a_t_now_steps_who a_t_now_steps_amount a_t_now_steps_length a_t_now_swings_codes : Nat) (t_pad_count : Int32) (t_now_holds : Int32) (t_now_numbers : Nat → Int32) (t_now_strengths : Nat → Int32) (t_now_steps_parts : Int32) (t_now_steps_minutes : Int32) (t_now_swings_count : Int32) (x1 : Int32) (R : Int32) (hf : f_X8_told t_pad_count t_now_numbers t_now_strengths t_now_steps_parts t_now_steps_minutes t_now_swings_count x1 = some R) : Met l yX8_told wyX8_told rmX8_told (PRE (dC, dI) cI cZ ts [.ref a_t, .int x1] sz (woX8_told cI cZ a_t a_t_pad a_t_now a_t_imageZero a_t_imageOne a_t_run a_t_pad_codes a_t_now_numbers a_t_now_strengths a_t_now_steps a_t_now_swings a_t_now_steps_who a_t_now_steps_amount a_t_now_steps_length a_t_now_swings_codes t_pad_count t_now_holds t_now_numbers t_now_strengths t_now_steps_parts t_now_steps_minutes t_now_swings_count)) (POSTi (dC, dI) R sz (woX8_told cI cZ a_t a_t_pad a_t_now a_t_imageZero a_t_imageOne a_t_run a_t_pad_codes a_t_now_numbers a_t_now_strengths a_t_now_steps a_t_now_swings a_t_now_steps_who a_t_now_steps_amount a_t_now_steps_length a_t_now_swings_codes t_pad_count t_now_holds t_now_numbers t_now_strengths t_now_steps_parts t_now_steps_minutes t_now_swings_count) (woX8_told cI cZ a_t a_t_pad a_t_now a_t_imageZero a_t_imageOne a_t_run a_t_pad_codes a_t_now_numbers a_t_now_strengths a_t_now_steps a_t_now_swings a_t_now_steps_who a_t_now_steps_amount a_t_now_steps_length a_t_now_swings_codes t_pad_count t_now_holds t_now_numbers t_now_strengths t_now_steps_parts t_now_steps_minutes t_now_swings_count)) 0 0 (va_A (woX8_told cI cZ a_t a_t_pad a_t_now a_t_imageZero a_t_imageOne a_t_run a_t_pad_codes a_t_now_numbers a_t_now_strengths a_t_now_steps a_t_now_swings a_t_now_steps_who a_t_now_steps_amount a_t_now_steps_length a_t_now_swings_codes t_pad_count t_now_holds t_now_numbers t_now_strengths t_now_steps_parts t_now_steps_minutes t_now_swings_count) sz) := by
  refine Met.ofW (cc := cX8_told) (maxL := 2) (ret := (some .int)) (by decide) rfl ?_
  intro p e s m args below meth c s₁ B hml hv
  obtain ⟨rfl, hv⟩ := hv
  have hG := hg_of hv
  obtain ⟨hsz, hP, -, hD0, -⟩ := hv
  have hx := B.exec
  have hb := B.bytes
  have hr := B.returns
  have hlk := B.notSynchronized
  have hown : s.vm.findClass RX8 = some m.cls := findClass_of_methodNamed B.named
  have hD := hD0.self (sz := sz)
  have hS : va_S (va_A (woX8_told cI cZ a_t a_t_pad a_t_now a_t_imageZero a_t_imageOne a_t_run a_t_pad_codes a_t_now_numbers a_t_now_strengths a_t_now_steps a_t_now_swings a_t_now_steps_who a_t_now_steps_amount a_t_now_steps_length a_t_now_swings_codes t_pad_count t_now_holds t_now_numbers t_now_strengths t_now_steps_parts t_now_steps_minutes t_now_swings_count) sz) s.heap s.heap [] := va_S.rf
  have L51 : ∀ (y1 : Int32) (H : Heap) (locs : List Loc) (ls : Array Slot), f_X8_told_L51 t_pad_count t_now_numbers t_now_strengths t_now_steps_parts t_now_steps_minutes t_now_swings_count y1 = some R → va_P (dC, dI) vwCl (woX8_told cI cZ a_t a_t_pad a_t_now a_t_imageZero a_t_imageOne a_t_run a_t_pad_codes a_t_now_numbers a_t_now_strengths a_t_now_steps a_t_now_swings a_t_now_steps_who a_t_now_steps_amount a_t_now_steps_length a_t_now_swings_codes t_pad_count t_now_holds t_now_numbers t_now_strengths t_now_steps_parts t_now_steps_minutes t_now_swings_count) H → va_D (va_A (woX8_told cI cZ a_t a_t_pad a_t_now a_t_imageZero a_t_imageOne a_t_run a_t_pad_codes a_t_now_numbers a_t_now_strengths a_t_now_steps a_t_now_swings a_t_now_steps_who a_t_now_steps_amount a_t_now_steps_length a_t_now_swings_codes t_pad_count t_now_holds t_now_numbers t_now_strengths t_now_steps_parts t_now_steps_minutes t_now_swings_count) sz) (woX8_told cI cZ a_t a_t_pad a_t_now a_t_imageZero a_t_imageOne a_t_run a_t_pad_codes a_t_now_numbers a_t_now_strengths a_t_now_steps a_t_now_swings a_t_now_steps_who a_t_now_steps_amount a_t_now_steps_length a_t_now_swings_codes t_pad_count t_now_holds t_now_numbers t_now_strengths t_now_steps_parts t_now_steps_minutes t_now_swings_count) → va_S (va_A (woX8_told cI cZ a_t a_t_pad a_t_now a_t_imageZero a_t_imageOne a_t_run a_t_pad_codes a_t_now_numbers a_t_now_strengths a_t_now_steps a_t_now_swings a_t_now_steps_who a_t_now_steps_amount a_t_now_steps_length a_t_now_swings_codes t_pad_count t_now_holds t_now_numbers t_now_strengths t_now_steps_parts t_now_steps_minutes t_now_swings_count) sz) s.heap H locs → lv_has ls 2 [(0, .ref a_t), (1, .int y1)] → W p l e (headSpec wyX8_told rmX8_told).room s m ([Value.ref a_t, Value.int x1] : List Value).toArray below meth c H locs 0 0 (MQ below (POSTi (dC, dI) R sz (woX8_told cI cZ a_t a_t_pad a_t_now a_t_imageZero a_t_imageOne a_t_run a_t_pad_codes a_t_now_numbers a_t_now_strengths a_t_now_steps a_t_now_swings a_t_now_steps_who a_t_now_steps_amount a_t_now_steps_length a_t_now_swings_codes t_pad_count t_now_holds t_now_numbers t_now_strengths t_now_steps_parts t_now_steps_minutes t_now_swings_count) (woX8_told cI cZ a_t a_t_pad a_t_now a_t_imageZero a_t_imageOne a_t_run a_t_pad_codes a_t_now_numbers a_t_now_strengths a_t_now_steps a_t_now_swings a_t_now_steps_who a_t_now_steps_amount a_t_now_steps_length a_t_now_swings_codes t_pad_count t_now_holds t_now_numbers t_now_strengths t_now_steps_parts t_now_steps_minutes t_now_swings_count)) ([Value.ref a_t, Value.int x1] : List Value).toArray s 0 0 (va_A (woX8_told cI cZ a_t a_t_pad a_t_now a_t_imageZero a_t_imageOne a_t_run a_t_pad_codes a_t_now_numbers a_t_now_strengths a_t_now_steps a_t_now_swings a_t_now_steps_who a_t_now_steps_amount a_t_now_steps_length a_t_now_swings_codes t_pad_count t_now_holds t_now_numbers t_now_strengths t_now_steps_parts t_now_steps_minutes t_now_swings_count) sz)) (F0 m 51 ls []) := by
    intro  y1 H locs ls hf hP hD hS hl
    unfold f_X8_told_L51 at hf
    refine lv_iload_n hx hb dX8_told_51 rfl (lv_at hl 1 rfl) ?_
    by_cases c1 : y1 = 0
    · have hf := (if_pos c1).symm.trans hf
      refine sw_in 0 0 hx hb c1 dX8_told_52 (by decide) (by decide) (by decide) rfl (tgt := 84) (by decide) ?_
      refine lv_aload_n hx hb dX8_told_84 rfl (lv_at hl 0 rfl) ?_
      refine mg (ci := 8) 0 0 hx hb hG igX8 hown hP rfl rfl (by decide) (wd_1_227 hG.2.1) rfl rfl dX8_told_85 ?_
      refine mgN (ci := 6) 1 1 hx hb hG igX6 hown hP rfl rfl (by decide) (wd_1_29 hG.2.1) rfl rfl dX8_told_88 ?_
      have hR := Option.some.inj hf
      rw [← hR]
      exact rt_i hx hb hr hlk hsz hP hD hS rfl rfl dX8_told_91
    have hf := (if_neg c1).symm.trans hf
    by_cases c2 : y1 = 1
    · have hf := (if_pos c2).symm.trans hf
      refine sw_in 1 1 hx hb c2 dX8_told_52 (by decide) (by decide) (by decide) rfl (tgt := 92) (by decide) ?_
      refine lv_aload_n hx hb dX8_told_92 rfl (lv_at hl 0 rfl) ?_
      refine mg (ci := 8) 0 1 hx hb hG igX8 hown hP rfl rfl (by decide) (wd_1_228 hG.2.1) rfl rfl dX8_told_93 ?_
      refine mgN (ci := 4) 2 3 hx hb hG igX4 hown hP rfl rfl (by decide) (wd_1_93 hG.2.1) rfl rfl dX8_told_96 ?_
      refine mgN (ci := 7) 5 4 hx hb hG igX7 hown hP rfl rfl (by decide) (wd_1_70 hG.2.1) rfl rfl dX8_told_99 ?_
      have hR := Option.some.inj hf
      rw [← hR]
      exact rt_i hx hb hr hlk hsz hP hD hS rfl rfl dX8_told_102
    have hf := (if_neg c2).symm.trans hf
    by_cases c3 : y1 = 2
    · have hf := (if_pos c3).symm.trans hf
      refine sw_in 2 2 hx hb c3 dX8_told_52 (by decide) (by decide) (by decide) rfl (tgt := 103) (by decide) ?_
      refine lv_aload_n hx hb dX8_told_103 rfl (lv_at hl 0 rfl) ?_
      refine mg (ci := 8) 0 1 hx hb hG igX8 hown hP rfl rfl (by decide) (wd_1_228 hG.2.1) rfl rfl dX8_told_104 ?_
      refine mgN (ci := 4) 2 3 hx hb hG igX4 hown hP rfl rfl (by decide) (wd_1_93 hG.2.1) rfl rfl dX8_told_107 ?_
      refine mgN (ci := 7) 5 3 hx hb hG igX7 hown hP rfl rfl (by decide) (wd_1_67 hG.2.1) rfl rfl dX8_told_110 ?_
      have hR := Option.some.inj hf
      rw [← hR]
      exact rt_i hx hb hr hlk hsz hP hD hS rfl rfl dX8_told_113
    have hf := (if_neg c3).symm.trans hf
    by_cases c4 : y1 = 3
    · have hf := (if_pos c4).symm.trans hf
      refine sw_in 3 3 hx hb c4 dX8_told_52 (by decide) (by decide) (by decide) rfl (tgt := 114) (by decide) ?_
      refine lv_aload_n hx hb dX8_told_114 rfl (lv_at hl 0 rfl) ?_
      refine mg (ci := 8) 0 1 hx hb hG igX8 hown hP rfl rfl (by decide) (wd_1_228 hG.2.1) rfl rfl dX8_told_115 ?_
      refine mgN (ci := 4) 2 4 hx hb hG igX4 hown hP rfl rfl (by decide) (wd_1_95 hG.2.1) rfl rfl dX8_told_118 ?_
      refine mgN (ci := 6) 6 1 hx hb hG igX6 hown hP rfl rfl (by decide) (wd_1_29 hG.2.1) rfl rfl dX8_told_121 ?_
      have hR := Option.some.inj hf
      rw [← hR]
      exact rt_i hx hb hr hlk hsz hP hD hS rfl rfl dX8_told_124
    have hf := (if_neg c4).symm.trans hf
    have o_c1 := lv_neT c1 (k := 0) (a := 0) (by decide)
    have o_c2 := lv_neT c2 (k := 1) (a := 1) (by decide)
    have o_c3 := lv_neT c3 (k := 2) (a := 2) (by decide)
    have o_c4 := lv_neT c4 (k := 3) (a := 3) (by decide)
    refine lv_tableOut hx hb dX8_told_52 (by omega) (tgt := 125) (by decide) ?_
    refine lv_bipush (v := -2) hx hb dX8_told_125 (by decide) ?_
    have hR := Option.some.inj hf
    rw [← hR]
    exact rt_i hx hb hr hlk hsz hP hD hS rfl rfl dX8_told_127
  have L24 : ∀ (y1 : Int32) (H : Heap) (locs : List Loc) (ls : Array Slot), f_X8_told_L24 t_pad_count t_now_numbers t_now_strengths t_now_steps_parts t_now_steps_minutes t_now_swings_count y1 = some R → va_P (dC, dI) vwCl (woX8_told cI cZ a_t a_t_pad a_t_now a_t_imageZero a_t_imageOne a_t_run a_t_pad_codes a_t_now_numbers a_t_now_strengths a_t_now_steps a_t_now_swings a_t_now_steps_who a_t_now_steps_amount a_t_now_steps_length a_t_now_swings_codes t_pad_count t_now_holds t_now_numbers t_now_strengths t_now_steps_parts t_now_steps_minutes t_now_swings_count) H → va_D (va_A (woX8_told cI cZ a_t a_t_pad a_t_now a_t_imageZero a_t_imageOne a_t_run a_t_pad_codes a_t_now_numbers a_t_now_strengths a_t_now_steps a_t_now_swings a_t_now_steps_who a_t_now_steps_amount a_t_now_steps_length a_t_now_swings_codes t_pad_count t_now_holds t_now_numbers t_now_strengths t_now_steps_parts t_now_steps_minutes t_now_swings_count) sz) (woX8_told cI cZ a_t a_t_pad a_t_now a_t_imageZero a_t_imageOne a_t_run a_t_pad_codes a_t_now_numbers a_t_now_strengths a_t_now_steps a_t_now_swings a_t_now_steps_who a_t_now_steps_amount a_t_now_steps_length a_t_now_swings_codes t_pad_count t_now_holds t_now_numbers t_now_strengths t_now_steps_parts t_now_steps_minutes t_now_swings_count) → va_S (va_A (woX8_told cI cZ a_t a_t_pad a_t_now a_t_imageZero a_t_imageOne a_t_run a_t_pad_codes a_t_now_numbers a_t_now_strengths a_t_now_steps a_t_now_swings a_t_now_steps_who a_t_now_steps_amount a_t_now_steps_length a_t_now_swings_codes t_pad_count t_now_holds t_now_numbers t_now_strengths t_now_steps_parts t_now_steps_minutes t_now_swings_count) sz) s.heap H locs → lv_has ls 2 [(0, .ref a_t), (1, .int y1)] → W p l e (headSpec wyX8_told rmX8_told).room s m ([Value.ref a_t, Value.int x1] : List Value).toArray below meth c H locs 0 0 (MQ below (POSTi (dC, dI) R sz (woX8_told cI cZ a_t a_t_pad a_t_now a_t_imageZero a_t_imageOne a_t_run a_t_pad_codes a_t_now_numbers a_t_now_strengths a_t_now_steps a_t_now_swings a_t_now_steps_who a_t_now_steps_amount a_t_now_steps_length a_t_now_swings_codes t_pad_count t_now_holds t_now_numbers t_now_strengths t_now_steps_parts t_now_steps_minutes t_now_swings_count) (woX8_told cI cZ a_t a_t_pad a_t_now a_t_imageZero a_t_imageOne a_t_run a_t_pad_codes a_t_now_numbers a_t_now_strengths a_t_now_steps a_t_now_swings a_t_now_steps_who a_t_now_steps_amount a_t_now_steps_length a_t_now_swings_codes t_pad_count t_now_holds t_now_numbers t_now_strengths t_now_steps_parts t_now_steps_minutes t_now_swings_count)) ([Value.ref a_t, Value.int x1] : List Value).toArray s 0 0 (va_A (woX8_told cI cZ a_t a_t_pad a_t_now a_t_imageZero a_t_imageOne a_t_run a_t_pad_codes a_t_now_numbers a_t_now_strengths a_t_now_steps a_t_now_swings a_t_now_steps_who a_t_now_steps_amount a_t_now_steps_length a_t_now_swings_codes t_pad_count t_now_holds t_now_numbers t_now_strengths t_now_steps_parts t_now_steps_minutes t_now_swings_count) sz)) (F0 m 24 ls []) := by
    intro  y1 H locs ls hf hP hD hS hl
    unfold f_X8_told_L24 at hf
    refine lv_iload_n hx hb dX8_told_24 rfl (lv_at hl 1 rfl) ?_
    refine lv_bipush (v := 20) hx hb dX8_told_25 (by decide) ?_
    refine lv_icmp_lt (tgt := 51) hx hb dX8_told_27 (by decide) (fun c5 => ?_) (fun c5 => ?_)
    · have hf := (if_pos c5).symm.trans hf
      exact L51  y1 _ _ _ hf hP hD hS (lv_sub hl [0, 1] rfl)
    · have hf := (if_neg c5).symm.trans hf
      refine lv_iload_n hx hb dX8_told_30 rfl (lv_at hl 1 rfl) ?_
      refine lv_bipush (v := 24) hx hb dX8_told_31 (by decide) ?_
      refine lv_icmp_ge (tgt := 51) hx hb dX8_told_33 (by decide) (fun c6 => ?_) (fun c6 => ?_)
      · have hf := (if_pos c6).symm.trans hf
        exact L51  y1 _ _ _ hf hP hD hS (lv_sub hl [0, 1] rfl)
      · have hf := (if_neg c6).symm.trans hf
        refine lv_aload_n hx hb dX8_told_36 rfl (lv_at hl 0 rfl) ?_
        refine mg (ci := 8) 0 1 hx hb hG igX8 hown hP rfl rfl (by decide) (wd_1_228 hG.2.1) rfl rfl dX8_told_37 ?_
        refine mgN (ci := 4) 2 2 hx hb hG igX4 hown hP rfl rfl (by decide) (wd_1_90 hG.2.1) rfl rfl dX8_told_40 ?_
        refine lv_iload_n hx hb dX8_told_43 rfl (lv_at hl 1 rfl) ?_
        refine lv_bipush (v := 20) hx hb dX8_told_44 (by decide) ?_
        refine lv_isub hx hb dX8_told_46 ?_
        obtain ⟨r47, hc47, hf⟩ := bd1_some hf
        refine cl_Si (r := r47) (As := [.ref a_t_now_strengths, .int (y1 - (20 : Int32))]) (w1 := (woX8_at cI cZ a_t_now_strengths 4 t_now_strengths)) (wN := (woX8_told cI cZ a_t a_t_pad a_t_now a_t_imageZero a_t_imageOne a_t_run a_t_pad_codes a_t_now_numbers a_t_now_strengths a_t_now_steps a_t_now_swings a_t_now_steps_who a_t_now_steps_amount a_t_now_steps_length a_t_now_swings_codes t_pad_count t_now_holds t_now_numbers t_now_strengths t_now_steps_parts t_now_steps_minutes t_now_swings_count)) [4] 0 0 (c_X8_at l dC dI cI cZ ts _ a_t_now_strengths 4 t_now_strengths (y1 - (20 : Int32)) (r47) hc47) ⟨hx, hb, hml, hown, hG.2.1.hts _⟩ ⟨callB_of 2 (hG.2.1.hts _) giX8_at rfl rfl rfl (wd_1_1 hG.2.1) (wd_2_9 hG.2.1) hd_X8_at ⟨Nat.le_of_ble_eq_true rfl, Nat.le_of_ble_eq_true rfl⟩, wd_2_10 hG.2.1⟩ hG hP hD hS rfl rfl rfl rfl rfl hl.1 rfl (Nat.le_of_ble_eq_true rfl) dX8_told_47 ⟨Nat.zero_le _, Nat.zero_le _⟩ (fun H locs hP hD hS => ?_)
        have hR := Option.some.inj hf
        rw [← hR]
        exact rt_i hx hb hr hlk hsz hP hD hS rfl rfl dX8_told_50
  have hl := lv_entry ([.ref a_t, .int x1]) (n := 2) (Nat.le_of_ble_eq_true rfl)
  rw [lg_entry_eq]
  generalize (lg_sl ([.ref a_t, .int x1]) ++ List.replicate (2 - (lg_sl ([.ref a_t, .int x1])).length) Slot.unset).toArray = ls at hl ⊢
  have hl : lv_has ls 2 [(0, .ref a_t), (1, .int x1)] := hl
  unfold f_X8_told at hf
  refine lv_iload_n hx hb dX8_told_0 rfl (lv_at hl 1 rfl) ?_
  refine lv_bipush (v := 10) hx hb dX8_told_1 (by decide) ?_
  refine lv_icmp_lt (tgt := 24) hx hb dX8_told_3 (by decide) (fun c7 => ?_) (fun c7 => ?_)
  · have hf := (if_pos c7).symm.trans hf
    exact L24  x1 _ _ _ hf hP hD hS (lv_sub hl [0, 1] rfl)
  · have hf := (if_neg c7).symm.trans hf
    refine lv_iload_n hx hb dX8_told_6 rfl (lv_at hl 1 rfl) ?_
    refine lv_bipush (v := 18) hx hb dX8_told_7 (by decide) ?_
    refine lv_icmp_ge (tgt := 24) hx hb dX8_told_9 (by decide) (fun c8 => ?_) (fun c8 => ?_)
    · have hf := (if_pos c8).symm.trans hf
      exact L24  x1 _ _ _ hf hP hD hS (lv_sub hl [0, 1] rfl)
    · have hf := (if_neg c8).symm.trans hf
      refine lv_aload_n hx hb dX8_told_12 rfl (lv_at hl 0 rfl) ?_
      refine mg (ci := 8) 0 1 hx hb hG igX8 hown hP rfl rfl (by decide) (wd_1_228 hG.2.1) rfl rfl dX8_told_13 ?_
      refine lv_iload_n hx hb dX8_told_16 rfl (lv_at hl 1 rfl) ?_
      refine lv_bipush (v := 10) hx hb dX8_told_17 (by decide) ?_
      refine lv_isub hx hb dX8_told_19 ?_
      obtain ⟨r20, hc20, hf⟩ := bd1_some hf
      refine cl_Vi (r := r20) (b := a_t_now) (As := [.int (x1 - (10 : Int32))]) (w1 := (woX4_number cI cZ a_t_now a_t_now_numbers a_t_now_strengths a_t_now_steps a_t_now_swings t_now_holds t_now_numbers)) (wN := (woX8_told cI cZ a_t a_t_pad a_t_now a_t_imageZero a_t_imageOne a_t_run a_t_pad_codes a_t_now_numbers a_t_now_strengths a_t_now_steps a_t_now_swings a_t_now_steps_who a_t_now_steps_amount a_t_now_steps_length a_t_now_swings_codes t_pad_count t_now_holds t_now_numbers t_now_strengths t_now_steps_parts t_now_steps_minutes t_now_swings_count)) [2, 3] 2 4 (c_X4_number l dC dI cI cZ ts _ a_t_now a_t_now_numbers a_t_now_strengths a_t_now_steps a_t_now_swings t_now_holds t_now_numbers (x1 - (10 : Int32)) (r20) hc20) ⟨hx, hb, hml, hown, hG.2.1.hts _⟩ ⟨callB_of 1 (hG.2.1.hts _) giX4_number rfl rfl rfl (wd_1_3 hG.2.1) (wd_2_14 hG.2.1) hd_X4_number ⟨Nat.le_of_ble_eq_true rfl, Nat.le_of_ble_eq_true rfl⟩, wd_2_15 hG.2.1, wd_2_16 hG.2.1⟩ hG hP hD hS rfl rfl rfl rfl rfl rfl rfl rfl hl.1 rfl (Nat.le_of_ble_eq_true rfl) dX8_told_20 ⟨Nat.zero_le _, Nat.zero_le _⟩ (fun H locs hP hD hS => ?_)
      have hR := Option.some.inj hf
      rw [← hR]
      exact rt_i hx hb hr hlk hsz hP hD hS rfl rfl dX8_told_23
