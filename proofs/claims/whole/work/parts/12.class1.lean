abbrev woX4_copyFrom (cI cZ : ClassId) (a_t a_t_numbers a_t_strengths a_t_steps a_t_swings a_t_steps_who a_t_steps_amount a_t_steps_length a_t_swings_codes a_o1 a_o1_numbers a_o1_strengths a_o1_steps a_o1_swings a_o1_steps_who a_o1_steps_amount a_o1_steps_length a_o1_swings_codes : Nat) (t_holds : Int32) (t_numbers : Nat → Int32) (t_strengths : Nat → Int32) (t_steps_parts : Int32) (t_steps_minutes : Int32) (t_steps_who : Nat → Int32) (t_steps_amount : Nat → Int32) (t_steps_length : Nat → Int32) (t_swings_count : Int32) (t_swings_codes : Nat → Int32) (o1_holds : Int32) (o1_numbers : Nat → Int32) (o1_strengths : Nat → Int32) (o1_steps_parts : Int32) (o1_steps_minutes : Int32) (o1_steps_who : Nat → Int32) (o1_steps_amount : Nat → Int32) (o1_steps_length : Nat → Int32) (o1_swings_count : Int32) (o1_swings_codes : Nat → Int32) : va_W := [(a_t, .inr (4, [.int t_holds, .ref a_t_numbers, .ref a_t_strengths, .ref a_t_steps, .ref a_t_swings])), (a_t_numbers, .inl (cI, 8, .inl t_numbers)), (a_t_strengths, .inl (cI, 4, .inl t_strengths)), (a_t_steps, .inr (7, [.ref a_t_steps_who, .ref a_t_steps_amount, .ref a_t_steps_length, .int t_steps_parts, .int t_steps_minutes])), (a_t_steps_who, .inl (cI, 20, .inl t_steps_who)), (a_t_steps_amount, .inl (cI, 20, .inl t_steps_amount)), (a_t_steps_length, .inl (cI, 20, .inl t_steps_length)), (a_t_swings, .inr (6, [.ref a_t_swings_codes, .int t_swings_count])), (a_t_swings_codes, .inl (cI, 40, .inl t_swings_codes)), (a_o1, .inr (4, [.int o1_holds, .ref a_o1_numbers, .ref a_o1_strengths, .ref a_o1_steps, .ref a_o1_swings])), (a_o1_numbers, .inl (cI, 8, .inl o1_numbers)), (a_o1_strengths, .inl (cI, 4, .inl o1_strengths)), (a_o1_steps, .inr (7, [.ref a_o1_steps_who, .ref a_o1_steps_amount, .ref a_o1_steps_length, .int o1_steps_parts, .int o1_steps_minutes])), (a_o1_steps_who, .inl (cI, 20, .inl o1_steps_who)), (a_o1_steps_amount, .inl (cI, 20, .inl o1_steps_amount)), (a_o1_steps_length, .inl (cI, 20, .inl o1_steps_length)), (a_o1_swings, .inr (6, [.ref a_o1_swings_codes, .int o1_swings_count])), (a_o1_swings_codes, .inl (cI, 40, .inl o1_swings_codes))]
abbrev rmX4_copyFrom : Room := { frames := 2, cells := 0, slots := 0, locals := 43 }
theorem hd_X4_copyFrom : yX4_copyFrom.cls ≠ "java/lang/invoke/MethodHandle" ∧ yX4_copyFrom.cls ≠ "java/lang/invoke/VarHandle" ∧ (parseMethodDescriptor yX4_copyFrom.desc).map (fun d => d.parameters.length) = some 1 := by decide +kernel
set_option maxHeartbeats 4000000 in
set_option maxRecDepth 100000 in
theorem c_X4_copyFrom (l : Launch) (dC : Nat → ClassId) (dI : Nat → Nat → Nat) (cI cZ : ClassId) (ts : Nat → Nat) (sz : Nat) (a_t a_t_numbers a_t_strengths a_t_steps a_t_swings a_t_steps_who a_t_steps_amount a_t_steps_length a_t_swings_codes a_o1 a_o1_numbers a_o1_strengths a_o1_steps a_o1_swings a_o1_steps_who a_o1_steps_amount a_o1_steps_length a_o1_swings_codes : Nat) (t_holds : Int32) (t_numbers : Nat → Int32) (t_strengths : Nat → Int32) (t_steps_parts : Int32) (t_steps_minutes : Int32) (t_steps_who : Nat → Int32) (t_steps_amount : Nat → Int32) (t_steps_length : Nat → Int32) (t_swings_count : Int32) (t_swings_codes : Nat → Int32) (o1_holds : Int32) (o1_numbers : Nat → Int32) (o1_strengths : Nat → Int32) (o1_steps_parts : Int32) (o1_steps_minutes : Int32) (o1_steps_who : Nat → Int32) (o1_steps_amount : Nat → Int32) (o1_steps_length : Nat → Int32) (o1_swings_count : Int32) (o1_swings_codes : Nat → Int32) (R : (Nat → Int32) × (Nat → Int32) × Int32 × Int32 × (Nat → Int32) × (Nat → Int32) × (Nat → Int32) × Int32 × (Nat → Int32)) (hf : f_X4_copyFrom t_numbers t_strengths t_steps_parts t_steps_minutes t_steps_who t_steps_amount t_steps_length t_swings_count t_swings_codes o1_numbers o1_strengths o1_steps_parts o1_steps_minutes o1_steps_who o1_steps_amount o1_steps_length o1_swings_count o1_swings_codes = some R) : Met l yX4_copyFrom wyX4_copyFrom rmX4_copyFrom (PRE (dC, dI) cI cZ ts [.ref a_t, .ref a_o1] sz (woX4_copyFrom cI cZ a_t a_t_numbers a_t_strengths a_t_steps a_t_swings a_t_steps_who a_t_steps_amount a_t_steps_length a_t_swings_codes a_o1 a_o1_numbers a_o1_strengths a_o1_steps a_o1_swings a_o1_steps_who a_o1_steps_amount a_o1_steps_length a_o1_swings_codes t_holds t_numbers t_strengths t_steps_parts t_steps_minutes t_steps_who t_steps_amount t_steps_length t_swings_count t_swings_codes o1_holds o1_numbers o1_strengths o1_steps_parts o1_steps_minutes o1_steps_who o1_steps_amount o1_steps_length o1_swings_count o1_swings_codes)) (POSTv (dC, dI) sz (woX4_copyFrom cI cZ a_t a_t_numbers a_t_strengths a_t_steps a_t_swings a_t_steps_who a_t_steps_amount a_t_steps_length a_t_swings_codes a_o1 a_o1_numbers a_o1_strengths a_o1_steps a_o1_swings a_o1_steps_who a_o1_steps_amount a_o1_steps_length a_o1_swings_codes t_holds t_numbers t_strengths t_steps_parts t_steps_minutes t_steps_who t_steps_amount t_steps_length t_swings_count t_swings_codes o1_holds o1_numbers o1_strengths o1_steps_parts o1_steps_minutes o1_steps_who o1_steps_amount o1_steps_length o1_swings_count o1_swings_codes) (woX4_copyFrom cI cZ a_t a_t_numbers a_t_strengths a_t_steps a_t_swings a_t_steps_who a_t_steps_amount a_t_steps_length a_t_swings_codes a_o1 a_o1_numbers a_o1_strengths a_o1_steps a_o1_swings a_o1_steps_who a_o1_steps_amount a_o1_steps_length a_o1_swings_codes t_holds R.1 R.2.1 R.2.2.1 R.2.2.2.1 R.2.2.2.2.1 R.2.2.2.2.2.1 R.2.2.2.2.2.2.1 R.2.2.2.2.2.2.2.1 R.2.2.2.2.2.2.2.2 o1_holds o1_numbers o1_strengths o1_steps_parts o1_steps_minutes o1_steps_who o1_steps_amount o1_steps_length o1_swings_count o1_swings_codes)) 0 0 (va_A (woX4_copyFrom cI cZ a_t a_t_numbers a_t_strengths a_t_steps a_t_swings a_t_steps_who a_t_steps_amount a_t_steps_length a_t_swings_codes a_o1 a_o1_numbers a_o1_strengths a_o1_steps a_o1_swings a_o1_steps_who a_o1_steps_amount a_o1_steps_length a_o1_swings_codes t_holds t_numbers t_strengths t_steps_parts t_steps_minutes t_steps_who t_steps_amount t_steps_length t_swings_count t_swings_codes o1_holds o1_numbers o1_strengths o1_steps_parts o1_steps_minutes o1_steps_who o1_steps_amount o1_steps_length o1_swings_count o1_swings_codes) sz) := by
  refine Met.ofW (cc := cX4_copyFrom) (maxL := 2) (ret := none) (by decide) rfl ?_
  intro p e s m args below meth c s₁ B hml hv
  obtain ⟨rfl, hv⟩ := hv
  have hG := hg_of hv
  obtain ⟨hsz, hP, -, hD0, -⟩ := hv
  have hx := B.exec
  have hb := B.bytes
  have hr := B.returns
  have hlk := B.notSynchronized
  have hown : s.vm.findClass RX4 = some m.cls := findClass_of_methodNamed B.named
  have hD := hD0.self (sz := sz)
  have hS : va_S (va_A (woX4_copyFrom cI cZ a_t a_t_numbers a_t_strengths a_t_steps a_t_swings a_t_steps_who a_t_steps_amount a_t_steps_length a_t_swings_codes a_o1 a_o1_numbers a_o1_strengths a_o1_steps a_o1_swings a_o1_steps_who a_o1_steps_amount a_o1_steps_length a_o1_swings_codes t_holds t_numbers t_strengths t_steps_parts t_steps_minutes t_steps_who t_steps_amount t_steps_length t_swings_count t_swings_codes o1_holds o1_numbers o1_strengths o1_steps_parts o1_steps_minutes o1_steps_who o1_steps_amount o1_steps_length o1_swings_count o1_swings_codes) sz) s.heap s.heap [] := va_S.rf
  have hl := lv_entry ([.ref a_t, .ref a_o1]) (n := 2) (Nat.le_of_ble_eq_true rfl)
  rw [lg_entry_eq]
  generalize (lg_sl ([.ref a_t, .ref a_o1]) ++ List.replicate (2 - (lg_sl ([.ref a_t, .ref a_o1])).length) Slot.unset).toArray = ls at hl ⊢
  have hl : lv_has ls 2 [(0, .ref a_t), (1, .ref a_o1)] := hl
  unfold f_X4_copyFrom at hf
  refine lv_aload_n hx hb dX4_copyFrom_0 rfl (lv_at hl 1 rfl) ?_
  refine mg (ci := 4) 9 1 hx hb hG igX4 hown hP rfl rfl (by decide) (wd_1_86 hG.2.1) rfl rfl dX4_copyFrom_1 ?_
  refine lv_aload_n hx hb dX4_copyFrom_4 rfl (lv_at hl 0 rfl) ?_
  refine mg (ci := 4) 0 1 hx hb hG igX4 hown hP rfl rfl (by decide) (wd_1_86 hG.2.1) rfl rfl dX4_copyFrom_5 ?_
  obtain ⟨g8_0, hc8, hf⟩ := bd1_some hf
  refine cl_Nv (As := [.ref a_o1_numbers, .ref a_t_numbers]) (w1 := (woX8_copyRow cI cZ a_o1_numbers a_t_numbers 8 8 o1_numbers g8_0)) (wN := (woX4_copyFrom cI cZ a_t a_t_numbers a_t_strengths a_t_steps a_t_swings a_t_steps_who a_t_steps_amount a_t_steps_length a_t_swings_codes a_o1 a_o1_numbers a_o1_strengths a_o1_steps a_o1_swings a_o1_steps_who a_o1_steps_amount a_o1_steps_length a_o1_swings_codes t_holds g8_0 t_strengths t_steps_parts t_steps_minutes t_steps_who t_steps_amount t_steps_length t_swings_count t_swings_codes o1_holds o1_numbers o1_strengths o1_steps_parts o1_steps_minutes o1_steps_who o1_steps_amount o1_steps_length o1_swings_count o1_swings_codes)) [10, 1] 0 0 (c_X8_copyRow l dC dI cI cZ ts _ a_o1_numbers a_t_numbers 8 8 o1_numbers t_numbers (g8_0) hc8) ⟨hx, hb, hml, hown, hG.2.1.hts _⟩ ⟨va_cnB 2 (hG.2.1.hts _) giX8_copyRow rfl rfl rfl (va_Nw.of (A := #[]) rfl (wd_3_111 hG.2.1)) (wd_1_1 hG.2.1) hd_X8_copyRow ⟨Nat.le_of_ble_eq_true rfl, Nat.le_of_ble_eq_true rfl⟩, wd_3_47 hG.2.1, trivial⟩ hG hP hD hS rfl rfl rfl rfl rfl hl.1 rfl (Nat.le_of_ble_eq_true rfl) dX4_copyFrom_8 ⟨Nat.zero_le _, Nat.zero_le _⟩ (fun H locs hP hD hS => ?_)
  refine lv_aload_n hx hb dX4_copyFrom_11 rfl (lv_at hl 1 rfl) ?_
  refine mg (ci := 4) 9 2 hx hb hG igX4 hown hP rfl rfl (by decide) (wd_1_88 hG.2.1) rfl rfl dX4_copyFrom_12 ?_
  refine lv_aload_n hx hb dX4_copyFrom_15 rfl (lv_at hl 0 rfl) ?_
  refine mg (ci := 4) 0 2 hx hb hG igX4 hown hP rfl rfl (by decide) (wd_1_88 hG.2.1) rfl rfl dX4_copyFrom_16 ?_
  obtain ⟨g19_0, hc19, hf⟩ := bd1_some hf
  refine cl_Nv (As := [.ref a_o1_strengths, .ref a_t_strengths]) (w1 := (woX8_copyRow cI cZ a_o1_strengths a_t_strengths 4 4 o1_strengths g19_0)) (wN := (woX4_copyFrom cI cZ a_t a_t_numbers a_t_strengths a_t_steps a_t_swings a_t_steps_who a_t_steps_amount a_t_steps_length a_t_swings_codes a_o1 a_o1_numbers a_o1_strengths a_o1_steps a_o1_swings a_o1_steps_who a_o1_steps_amount a_o1_steps_length a_o1_swings_codes t_holds g8_0 g19_0 t_steps_parts t_steps_minutes t_steps_who t_steps_amount t_steps_length t_swings_count t_swings_codes o1_holds o1_numbers o1_strengths o1_steps_parts o1_steps_minutes o1_steps_who o1_steps_amount o1_steps_length o1_swings_count o1_swings_codes)) [11, 2] 0 0 (c_X8_copyRow l dC dI cI cZ ts _ a_o1_strengths a_t_strengths 4 4 o1_strengths t_strengths (g19_0) hc19) ⟨hx, hb, hml, hown, hG.2.1.hts _⟩ ⟨va_cnB 2 (hG.2.1.hts _) giX8_copyRow rfl rfl rfl (va_Nw.of (A := #[]) rfl (wd_3_111 hG.2.1)) (wd_1_1 hG.2.1) hd_X8_copyRow ⟨Nat.le_of_ble_eq_true rfl, Nat.le_of_ble_eq_true rfl⟩, wd_3_47 hG.2.1, trivial⟩ hG hP hD hS rfl rfl rfl rfl rfl hl.1 rfl (Nat.le_of_ble_eq_true rfl) dX4_copyFrom_19 ⟨Nat.zero_le _, Nat.zero_le _⟩ (fun H locs hP hD hS => ?_)
  refine lv_aload_n hx hb dX4_copyFrom_22 rfl (lv_at hl 0 rfl) ?_
  refine mg (ci := 4) 0 3 hx hb hG igX4 hown hP rfl rfl (by decide) (wd_1_91 hG.2.1) rfl rfl dX4_copyFrom_23 ?_
  refine lv_aload_n hx hb dX4_copyFrom_26 rfl (lv_at hl 1 rfl) ?_
  refine mg (ci := 4) 9 3 hx hb hG igX4 hown hP rfl rfl (by decide) (wd_1_91 hG.2.1) rfl rfl dX4_copyFrom_27 ?_
  obtain ⟨g30_0, g30_1, g30_2, g30_3, g30_4, hc30, hf⟩ := bd5_some hf
  refine cl_Vv (b := a_t_steps) (As := [.ref a_o1_steps]) (w1 := (woX7_copyFrom cI cZ a_t_steps a_t_steps_who a_t_steps_amount a_t_steps_length a_o1_steps a_o1_steps_who a_o1_steps_amount a_o1_steps_length g30_0 g30_1 g30_2 g30_3 g30_4 o1_steps_parts o1_steps_minutes o1_steps_who o1_steps_amount o1_steps_length)) (wN := (woX4_copyFrom cI cZ a_t a_t_numbers a_t_strengths a_t_steps a_t_swings a_t_steps_who a_t_steps_amount a_t_steps_length a_t_swings_codes a_o1 a_o1_numbers a_o1_strengths a_o1_steps a_o1_swings a_o1_steps_who a_o1_steps_amount a_o1_steps_length a_o1_swings_codes t_holds g8_0 g19_0 g30_0 g30_1 g30_2 g30_3 g30_4 t_swings_count t_swings_codes o1_holds o1_numbers o1_strengths o1_steps_parts o1_steps_minutes o1_steps_who o1_steps_amount o1_steps_length o1_swings_count o1_swings_codes)) [3, 4, 5, 6, 12, 13, 14, 15] 3 7 (c_X7_copyFrom l dC dI cI cZ ts _ a_t_steps a_t_steps_who a_t_steps_amount a_t_steps_length a_o1_steps a_o1_steps_who a_o1_steps_amount a_o1_steps_length t_steps_parts t_steps_minutes t_steps_who t_steps_amount t_steps_length o1_steps_parts o1_steps_minutes o1_steps_who o1_steps_amount o1_steps_length (g30_0, g30_1, g30_2, g30_3, g30_4) hc30) ⟨hx, hb, hml, hown, hG.2.1.hts _⟩ ⟨callB_of 1 (hG.2.1.hts _) giX7_copyFrom rfl rfl rfl (wd_1_4 hG.2.1) (wd_3_112 hG.2.1) hd_X7_copyFrom ⟨Nat.le_of_ble_eq_true rfl, Nat.le_of_ble_eq_true rfl⟩, wd_3_113 hG.2.1, wd_3_114 hG.2.1⟩ hG hP hD hS rfl rfl rfl rfl rfl rfl rfl rfl hl.1 rfl (Nat.le_of_ble_eq_true rfl) dX4_copyFrom_30 ⟨Nat.zero_le _, Nat.zero_le _⟩ (fun H locs hP hD hS => ?_)
  refine lv_aload_n hx hb dX4_copyFrom_33 rfl (lv_at hl 0 rfl) ?_
  refine mg (ci := 4) 0 4 hx hb hG igX4 hown hP rfl rfl (by decide) (wd_1_94 hG.2.1) rfl rfl dX4_copyFrom_34 ?_
  refine lv_aload_n hx hb dX4_copyFrom_37 rfl (lv_at hl 1 rfl) ?_
  refine mg (ci := 4) 9 4 hx hb hG igX4 hown hP rfl rfl (by decide) (wd_1_94 hG.2.1) rfl rfl dX4_copyFrom_38 ?_
  obtain ⟨g41_0, g41_1, hc41, hf⟩ := bd2_some hf
  refine cl_Vv (b := a_t_swings) (As := [.ref a_o1_swings]) (w1 := (woX6_copyFrom cI cZ a_t_swings a_t_swings_codes a_o1_swings a_o1_swings_codes g41_0 g41_1 o1_swings_count o1_swings_codes)) (wN := (woX4_copyFrom cI cZ a_t a_t_numbers a_t_strengths a_t_steps a_t_swings a_t_steps_who a_t_steps_amount a_t_steps_length a_t_swings_codes a_o1 a_o1_numbers a_o1_strengths a_o1_steps a_o1_swings a_o1_steps_who a_o1_steps_amount a_o1_steps_length a_o1_swings_codes t_holds g8_0 g19_0 g30_0 g30_1 g30_2 g30_3 g30_4 g41_0 g41_1 o1_holds o1_numbers o1_strengths o1_steps_parts o1_steps_minutes o1_steps_who o1_steps_amount o1_steps_length o1_swings_count o1_swings_codes)) [7, 8, 16, 17] 7 6 (c_X6_copyFrom l dC dI cI cZ ts _ a_t_swings a_t_swings_codes a_o1_swings a_o1_swings_codes t_swings_count t_swings_codes o1_swings_count o1_swings_codes (g41_0, g41_1) hc41) ⟨hx, hb, hml, hown, hG.2.1.hts _⟩ ⟨callB_of 1 (hG.2.1.hts _) giX6_copyFrom rfl rfl rfl (wd_1_2 hG.2.1) (wd_3_117 hG.2.1) hd_X6_copyFrom ⟨Nat.le_of_ble_eq_true rfl, Nat.le_of_ble_eq_true rfl⟩, wd_3_43 hG.2.1, wd_3_44 hG.2.1⟩ hG hP hD hS rfl rfl rfl rfl rfl rfl rfl rfl hl.1 rfl (Nat.le_of_ble_eq_true rfl) dX4_copyFrom_41 ⟨Nat.zero_le _, Nat.zero_le _⟩ (fun H locs hP hD hS => ?_)
  have hR := Option.some.inj hf
  rw [← hR]
  exact rt_v hx hb hr hlk hsz hP hD hS rfl dX4_copyFrom_44
abbrev woX5_begin (cI cZ : ClassId) (a_t a_t_pail a_t_cream a_t_crew a_t_stiffBehind a_t_cream_scraped a_t_cream_scraped_grams a_t_crew_wearinesses a_o1 a_o1_numbers a_o1_strengths a_o1_steps a_o1_swings : Nat) (t_minutes : Int32) (t_heldMinutes : Int32) (t_firstHeld : Int32) (t_pail_ice : Int32) (t_pail_saltGrams : Int32) (t_pail_brine : Int32) (t_pail_cold : Int32) (t_cream_water : Int32) (t_cream_sugar : Int32) (t_cream_fat : Int32) (t_cream_warm : Int32) (t_cream_layer : Int32) (t_cream_air : Int32) (t_cream_churned : Int32) (t_cream_scraped_total : Int32) (t_cream_scraped_grams : Nat → Int32) (t_crew_wearinesses : Nat → Int32) (o1_holds : Int32) (o1_numbers : Nat → Int32) : va_W := [(a_t, .inr (5, [.ref a_t_pail, .ref a_t_cream, .ref a_t_crew, .ref a_t_stiffBehind, .int t_minutes, .int t_heldMinutes, .int t_firstHeld])), (a_t_pail, .inr (3, [.int t_pail_ice, .int t_pail_saltGrams, .int t_pail_brine, .int t_pail_cold])), (a_t_cream, .inr (0, [.int t_cream_water, .int t_cream_sugar, .int t_cream_fat, .int t_cream_warm, .int t_cream_layer, .int t_cream_air, .int t_cream_churned, .ref a_t_cream_scraped])), (a_t_cream_scraped, .inr (2, [.ref a_t_cream_scraped_grams, .int t_cream_scraped_total])), (a_t_cream_scraped_grams, .inl (cI, 64, .inl t_cream_scraped_grams)), (a_t_crew, .inr (1, [.ref a_t_crew_wearinesses])), (a_t_crew_wearinesses, .inl (cI, 4, .inl t_crew_wearinesses)), (a_o1, .inr (4, [.int o1_holds, .ref a_o1_numbers, .ref a_o1_strengths, .ref a_o1_steps, .ref a_o1_swings])), (a_o1_numbers, .inl (cI, 8, .inl o1_numbers))]
abbrev rmX5_begin : Room := { frames := 3, cells := 0, slots := 0, locals := 65 }
theorem hd_X5_begin : yX5_begin.cls ≠ "java/lang/invoke/MethodHandle" ∧ yX5_begin.cls ≠ "java/lang/invoke/VarHandle" ∧ (parseMethodDescriptor yX5_begin.desc).map (fun d => d.parameters.length) = some 2 := by decide +kernel
set_option maxHeartbeats 4000000 in
set_option maxRecDepth 100000 in
theorem c_X5_begin (l : Launch) (dC : Nat → ClassId) (dI : Nat → Nat → Nat) (cI cZ : ClassId) (ts : Nat → Nat) (sz : Nat) (a_t a_t_pail a_t_cream a_t_crew a_t_stiffBehind a_t_cream_scraped a_t_cream_scraped_grams a_t_crew_wearinesses a_o1 a_o1_numbers a_o1_strengths a_o1_steps a_o1_swings : Nat) (t_minutes : Int32) (t_heldMinutes : Int32) (t_firstHeld : Int32) (t_pail_ice : Int32) (t_pail_saltGrams : Int32) (t_pail_brine : Int32) (t_pail_cold : Int32) (t_cream_water : Int32) (t_cream_sugar : Int32) (t_cream_fat : Int32) (t_cream_warm : Int32) (t_cream_layer : Int32) (t_cream_air : Int32) (t_cream_churned : Int32) (t_cream_scraped_total : Int32) (t_cream_scraped_grams : Nat → Int32) (t_crew_wearinesses : Nat → Int32) (o1_holds : Int32) (o1_numbers : Nat → Int32) (x2 : Int32) (R : Int32 × Int32 × Int32 × Int32 × Int32 × Int32 × Int32 × Int32 × Int32 × Int32 × Int32 × Int32 × Int32 × Int32 × Int32 × (Nat → Int32) × (Nat → Int32)) (hf : f_X5_begin t_minutes t_heldMinutes t_firstHeld t_pail_ice t_pail_saltGrams t_pail_brine t_pail_cold t_cream_water t_cream_sugar t_cream_fat t_cream_warm t_cream_layer t_cream_air t_cream_churned t_cream_scraped_total t_cream_scraped_grams t_crew_wearinesses o1_numbers x2 = some R) : Met l yX5_begin wyX5_begin rmX5_begin (PRE (dC, dI) cI cZ ts [.ref a_t, .ref a_o1, .int x2] sz (woX5_begin cI cZ a_t a_t_pail a_t_cream a_t_crew a_t_stiffBehind a_t_cream_scraped a_t_cream_scraped_grams a_t_crew_wearinesses a_o1 a_o1_numbers a_o1_strengths a_o1_steps a_o1_swings t_minutes t_heldMinutes t_firstHeld t_pail_ice t_pail_saltGrams t_pail_brine t_pail_cold t_cream_water t_cream_sugar t_cream_fat t_cream_warm t_cream_layer t_cream_air t_cream_churned t_cream_scraped_total t_cream_scraped_grams t_crew_wearinesses o1_holds o1_numbers)) (POSTv (dC, dI) sz (woX5_begin cI cZ a_t a_t_pail a_t_cream a_t_crew a_t_stiffBehind a_t_cream_scraped a_t_cream_scraped_grams a_t_crew_wearinesses a_o1 a_o1_numbers a_o1_strengths a_o1_steps a_o1_swings t_minutes t_heldMinutes t_firstHeld t_pail_ice t_pail_saltGrams t_pail_brine t_pail_cold t_cream_water t_cream_sugar t_cream_fat t_cream_warm t_cream_layer t_cream_air t_cream_churned t_cream_scraped_total t_cream_scraped_grams t_crew_wearinesses o1_holds o1_numbers) (woX5_begin cI cZ a_t a_t_pail a_t_cream a_t_crew a_t_stiffBehind a_t_cream_scraped a_t_cream_scraped_grams a_t_crew_wearinesses a_o1 a_o1_numbers a_o1_strengths a_o1_steps a_o1_swings R.1 R.2.1 R.2.2.1 R.2.2.2.1 R.2.2.2.2.1 R.2.2.2.2.2.1 R.2.2.2.2.2.2.1 R.2.2.2.2.2.2.2.1 R.2.2.2.2.2.2.2.2.1 R.2.2.2.2.2.2.2.2.2.1 R.2.2.2.2.2.2.2.2.2.2.1 R.2.2.2.2.2.2.2.2.2.2.2.1 R.2.2.2.2.2.2.2.2.2.2.2.2.1 R.2.2.2.2.2.2.2.2.2.2.2.2.2.1 R.2.2.2.2.2.2.2.2.2.2.2.2.2.2.1 R.2.2.2.2.2.2.2.2.2.2.2.2.2.2.2.1 R.2.2.2.2.2.2.2.2.2.2.2.2.2.2.2.2 o1_holds o1_numbers)) 0 0 (va_A (woX5_begin cI cZ a_t a_t_pail a_t_cream a_t_crew a_t_stiffBehind a_t_cream_scraped a_t_cream_scraped_grams a_t_crew_wearinesses a_o1 a_o1_numbers a_o1_strengths a_o1_steps a_o1_swings t_minutes t_heldMinutes t_firstHeld t_pail_ice t_pail_saltGrams t_pail_brine t_pail_cold t_cream_water t_cream_sugar t_cream_fat t_cream_warm t_cream_layer t_cream_air t_cream_churned t_cream_scraped_total t_cream_scraped_grams t_crew_wearinesses o1_holds o1_numbers) sz) := by
  refine Met.ofW (cc := cX5_begin) (maxL := 3) (ret := none) (by decide) rfl ?_
  intro p e s m args below meth c s₁ B hml hv
  obtain ⟨rfl, hv⟩ := hv
  have hG := hg_of hv
  obtain ⟨hsz, hP, -, hD0, -⟩ := hv
  have hx := B.exec
  have hb := B.bytes
  have hr := B.returns
  have hlk := B.notSynchronized
  have hown : s.vm.findClass RX5 = some m.cls := findClass_of_methodNamed B.named
  have hD := hD0.self (sz := sz)
  have hS : va_S (va_A (woX5_begin cI cZ a_t a_t_pail a_t_cream a_t_crew a_t_stiffBehind a_t_cream_scraped a_t_cream_scraped_grams a_t_crew_wearinesses a_o1 a_o1_numbers a_o1_strengths a_o1_steps a_o1_swings t_minutes t_heldMinutes t_firstHeld t_pail_ice t_pail_saltGrams t_pail_brine t_pail_cold t_cream_water t_cream_sugar t_cream_fat t_cream_warm t_cream_layer t_cream_air t_cream_churned t_cream_scraped_total t_cream_scraped_grams t_crew_wearinesses o1_holds o1_numbers) sz) s.heap s.heap [] := va_S.rf
  have hl := lv_entry ([.ref a_t, .ref a_o1, .int x2]) (n := 3) (Nat.le_of_ble_eq_true rfl)
  rw [lg_entry_eq]
  generalize (lg_sl ([.ref a_t, .ref a_o1, .int x2]) ++ List.replicate (3 - (lg_sl ([.ref a_t, .ref a_o1, .int x2])).length) Slot.unset).toArray = ls at hl ⊢
  have hl : lv_has ls 3 [(0, .ref a_t), (1, .ref a_o1), (2, .int x2)] := hl
  unfold f_X5_begin at hf
  refine lv_aload_n hx hb dX5_begin_0 rfl (lv_at hl 0 rfl) ?_
  refine mg (ci := 5) 0 0 hx hb hG igX5 hown hP rfl rfl (by decide) (wd_1_199 hG.2.1) rfl rfl dX5_begin_1 ?_
  refine lv_aload_n hx hb dX5_begin_4 rfl (lv_at hl 1 rfl) ?_
  refine lv_iconst (v := 0) hx hb dX5_begin_5 (by decide) ?_
  obtain ⟨r6, hc6, hf⟩ := bd1_some hf
  refine cl_Vi (r := r6) (b := a_o1) (As := [.int (0 : Int32)]) (w1 := (woX4_number cI cZ a_o1 a_o1_numbers a_o1_strengths a_o1_steps a_o1_swings o1_holds o1_numbers)) (wN := (woX5_begin cI cZ a_t a_t_pail a_t_cream a_t_crew a_t_stiffBehind a_t_cream_scraped a_t_cream_scraped_grams a_t_crew_wearinesses a_o1 a_o1_numbers a_o1_strengths a_o1_steps a_o1_swings t_minutes t_heldMinutes t_firstHeld t_pail_ice t_pail_saltGrams t_pail_brine t_pail_cold t_cream_water t_cream_sugar t_cream_fat t_cream_warm t_cream_layer t_cream_air t_cream_churned t_cream_scraped_total t_cream_scraped_grams t_crew_wearinesses o1_holds o1_numbers)) [7, 8] 7 4 (c_X4_number l dC dI cI cZ ts _ a_o1 a_o1_numbers a_o1_strengths a_o1_steps a_o1_swings o1_holds o1_numbers (0 : Int32) (r6) hc6) ⟨hx, hb, hml, hown, hG.2.1.hts _⟩ ⟨callB_of 1 (hG.2.1.hts _) giX4_number rfl rfl rfl (wd_1_3 hG.2.1) (wd_2_113 hG.2.1) hd_X4_number ⟨Nat.le_of_ble_eq_true rfl, Nat.le_of_ble_eq_true rfl⟩, wd_2_15 hG.2.1, wd_2_16 hG.2.1⟩ hG hP hD hS rfl rfl rfl rfl rfl rfl rfl rfl hl.1 rfl (Nat.le_of_ble_eq_true rfl) dX5_begin_6 ⟨Nat.zero_le _, Nat.zero_le _⟩ (fun H locs hP hD hS => ?_)
  refine lv_iload_n hx hb dX5_begin_9 rfl (lv_at hl 2 rfl) ?_
  obtain ⟨g10_0, g10_1, g10_2, g10_3, hc10, hf⟩ := bd4_some hf
  refine cl_Vv (b := a_t_pail) (As := [.int r6, .int x2]) (w1 := (woX3_begin cI cZ a_t_pail g10_0 g10_1 g10_2 g10_3)) (wN := (woX5_begin cI cZ a_t a_t_pail a_t_cream a_t_crew a_t_stiffBehind a_t_cream_scraped a_t_cream_scraped_grams a_t_crew_wearinesses a_o1 a_o1_numbers a_o1_strengths a_o1_steps a_o1_swings t_minutes t_heldMinutes t_firstHeld g10_0 g10_1 g10_2 g10_3 t_cream_water t_cream_sugar t_cream_fat t_cream_warm t_cream_layer t_cream_air t_cream_churned t_cream_scraped_total t_cream_scraped_grams t_crew_wearinesses o1_holds o1_numbers)) [1] 1 3 (c_X3_begin l dC dI cI cZ ts _ a_t_pail t_pail_ice t_pail_saltGrams t_pail_brine t_pail_cold r6 x2 (g10_0, g10_1, g10_2, g10_3) hc10) ⟨hx, hb, hml, hown, hG.2.1.hts _⟩ ⟨callB_of 2 (hG.2.1.hts _) giX3_begin rfl rfl rfl (wd_1_6 hG.2.1) (wd_2_114 hG.2.1) hd_X3_begin ⟨Nat.le_of_ble_eq_true rfl, Nat.le_of_ble_eq_true rfl⟩, wd_2_115 hG.2.1, wd_2_116 hG.2.1⟩ hG hP hD hS rfl rfl rfl rfl rfl rfl rfl rfl hl.1 rfl (Nat.le_of_ble_eq_true rfl) dX5_begin_10 ⟨Nat.zero_le _, Nat.zero_le _⟩ (fun H locs hP hD hS => ?_)
  refine lv_aload_n hx hb dX5_begin_13 rfl (lv_at hl 0 rfl) ?_
  refine mg (ci := 5) 0 1 hx hb hG igX5 hown hP rfl rfl (by decide) (wd_1_200 hG.2.1) rfl rfl dX5_begin_14 ?_
  refine lv_aload_n hx hb dX5_begin_17 rfl (lv_at hl 1 rfl) ?_
  obtain ⟨g18_0, g18_1, g18_2, g18_3, g18_4, g18_5, g18_6, g18_7, g18_8, hc18, hf⟩ := bd9_some hf
  refine cl_Vv (b := a_t_cream) (As := [.ref a_o1]) (w1 := (woX0_begin cI cZ a_t_cream a_t_cream_scraped a_t_cream_scraped_grams a_o1 a_o1_numbers a_o1_strengths a_o1_steps a_o1_swings g18_0 g18_1 g18_2 g18_3 g18_4 g18_5 g18_6 g18_7 g18_8 o1_holds o1_numbers)) (wN := (woX5_begin cI cZ a_t a_t_pail a_t_cream a_t_crew a_t_stiffBehind a_t_cream_scraped a_t_cream_scraped_grams a_t_crew_wearinesses a_o1 a_o1_numbers a_o1_strengths a_o1_steps a_o1_swings t_minutes t_heldMinutes t_firstHeld g10_0 g10_1 g10_2 g10_3 g18_0 g18_1 g18_2 g18_3 g18_4 g18_5 g18_6 g18_7 g18_8 t_crew_wearinesses o1_holds o1_numbers)) [2, 3, 4, 7, 8] 2 0 (c_X0_begin l dC dI cI cZ ts _ a_t_cream a_t_cream_scraped a_t_cream_scraped_grams a_o1 a_o1_numbers a_o1_strengths a_o1_steps a_o1_swings t_cream_water t_cream_sugar t_cream_fat t_cream_warm t_cream_layer t_cream_air t_cream_churned t_cream_scraped_total t_cream_scraped_grams o1_holds o1_numbers (g18_0, g18_1, g18_2, g18_3, g18_4, g18_5, g18_6, g18_7, g18_8) hc18) ⟨hx, hb, hml, hown, hG.2.1.hts _⟩ ⟨callB_of 1 (hG.2.1.hts _) giX0_begin rfl rfl rfl (wd_1_7 hG.2.1) (wd_2_131 hG.2.1) hd_X0_begin ⟨Nat.le_of_ble_eq_true rfl, Nat.le_of_ble_eq_true rfl⟩, wd_2_132 hG.2.1, wd_2_133 hG.2.1⟩ hG hP hD hS rfl rfl rfl rfl rfl rfl rfl rfl hl.1 rfl (Nat.le_of_ble_eq_true rfl) dX5_begin_18 ⟨Nat.zero_le _, Nat.zero_le _⟩ (fun H locs hP hD hS => ?_)
  refine lv_aload_n hx hb dX5_begin_21 rfl (lv_at hl 0 rfl) ?_
  refine mg (ci := 5) 0 2 hx hb hG igX5 hown hP rfl rfl (by decide) (wd_1_202 hG.2.1) rfl rfl dX5_begin_22 ?_
  obtain ⟨g25_0, hc25, hf⟩ := bd1_some hf
  refine cl_Vv (b := a_t_crew) (As := []) (w1 := (woX1_begin cI cZ a_t_crew a_t_crew_wearinesses g25_0)) (wN := (woX5_begin cI cZ a_t a_t_pail a_t_cream a_t_crew a_t_stiffBehind a_t_cream_scraped a_t_cream_scraped_grams a_t_crew_wearinesses a_o1 a_o1_numbers a_o1_strengths a_o1_steps a_o1_swings t_minutes t_heldMinutes t_firstHeld g10_0 g10_1 g10_2 g10_3 g18_0 g18_1 g18_2 g18_3 g18_4 g18_5 g18_6 g18_7 g18_8 g25_0 o1_holds o1_numbers)) [5, 6] 5 1 (c_X1_begin l dC dI cI cZ ts _ a_t_crew a_t_crew_wearinesses t_crew_wearinesses (g25_0) hc25) ⟨hx, hb, hml, hown, hG.2.1.hts _⟩ ⟨callB_of 0 (hG.2.1.hts _) giX1_begin rfl rfl rfl (wd_1_9 hG.2.1) (wd_2_140 hG.2.1) hd_X1_begin ⟨Nat.le_of_ble_eq_true rfl, Nat.le_of_ble_eq_true rfl⟩, wd_2_141 hG.2.1, wd_2_142 hG.2.1⟩ hG hP hD hS rfl rfl rfl rfl rfl rfl rfl rfl hl.1 rfl (Nat.le_of_ble_eq_true rfl) dX5_begin_25 ⟨Nat.zero_le _, Nat.zero_le _⟩ (fun H locs hP hD hS => ?_)
  refine lv_aload_n hx hb dX5_begin_28 rfl (lv_at hl 0 rfl) ?_
  refine lv_iconst (v := 0) hx hb dX5_begin_29 (by decide) ?_
  refine mp (ci := 5) (wN := (woX5_begin cI cZ a_t a_t_pail a_t_cream a_t_crew a_t_stiffBehind a_t_cream_scraped a_t_cream_scraped_grams a_t_crew_wearinesses a_o1 a_o1_numbers a_o1_strengths a_o1_steps a_o1_swings (0 : Int32) t_heldMinutes t_firstHeld g10_0 g10_1 g10_2 g10_3 g18_0 g18_1 g18_2 g18_3 g18_4 g18_5 g18_6 g18_7 g18_8 g25_0 o1_holds o1_numbers)) 0 4 hx hb hG igX5 tyX5 tyX5_ok nmX5 hown hP hD hS rfl rfl (by decide) (wd_1_206 hG.2.1) rfl rfl rfl rfl rfl (Nat.le_of_ble_eq_true rfl) rfl dX5_begin_30 (fun H locs hP hD hS => ?_)
  refine lv_aload_n hx hb dX5_begin_33 rfl (lv_at hl 0 rfl) ?_
  refine lv_iconst (v := 0) hx hb dX5_begin_34 (by decide) ?_
  refine mp (ci := 5) (wN := (woX5_begin cI cZ a_t a_t_pail a_t_cream a_t_crew a_t_stiffBehind a_t_cream_scraped a_t_cream_scraped_grams a_t_crew_wearinesses a_o1 a_o1_numbers a_o1_strengths a_o1_steps a_o1_swings (0 : Int32) (0 : Int32) t_firstHeld g10_0 g10_1 g10_2 g10_3 g18_0 g18_1 g18_2 g18_3 g18_4 g18_5 g18_6 g18_7 g18_8 g25_0 o1_holds o1_numbers)) 0 5 hx hb hG igX5 tyX5 tyX5_ok nmX5 hown hP hD hS rfl rfl (by decide) (wd_1_208 hG.2.1) rfl rfl rfl rfl rfl (Nat.le_of_ble_eq_true rfl) rfl dX5_begin_35 (fun H locs hP hD hS => ?_)
  refine lv_aload_n hx hb dX5_begin_38 rfl (lv_at hl 0 rfl) ?_
  refine lv_bipush (v := -6) hx hb dX5_begin_39 (by decide) ?_
  refine mp (ci := 5) (wN := (woX5_begin cI cZ a_t a_t_pail a_t_cream a_t_crew a_t_stiffBehind a_t_cream_scraped a_t_cream_scraped_grams a_t_crew_wearinesses a_o1 a_o1_numbers a_o1_strengths a_o1_steps a_o1_swings (0 : Int32) (0 : Int32) (-6 : Int32) g10_0 g10_1 g10_2 g10_3 g18_0 g18_1 g18_2 g18_3 g18_4 g18_5 g18_6 g18_7 g18_8 g25_0 o1_holds o1_numbers)) 0 6 hx hb hG igX5 tyX5 tyX5_ok nmX5 hown hP hD hS rfl rfl (by decide) (wd_1_210 hG.2.1) rfl rfl rfl rfl rfl (Nat.le_of_ble_eq_true rfl) rfl dX5_begin_41 (fun H locs hP hD hS => ?_)
  have hR := Option.some.inj hf
  rw [← hR]
  exact rt_v hx hb hr hlk hsz hP hD hS rfl dX5_begin_44
abbrev rmX8_isChild : Room := { frames := 0, cells := 0, slots := 0, locals := 0 }
theorem hd_X8_isChild : yX8_isChild.cls ≠ "java/lang/invoke/MethodHandle" ∧ yX8_isChild.cls ≠ "java/lang/invoke/VarHandle" ∧ (parseMethodDescriptor yX8_isChild.desc).map (fun d => d.parameters.length) = some 1 := by decide +kernel
set_option maxHeartbeats 4000000 in
set_option maxRecDepth 100000 in
theorem c_X8_isChild (l : Launch) (dC : Nat → ClassId) (dI : Nat → Nat → Nat) (cI cZ : ClassId) (ts : Nat → Nat) (sz : Nat) (x0 : Int32) (R : Int32) (hf : f_X8_isChild x0 = some R) : Met l yX8_isChild wyX8_isChild rmX8_isChild (PRE (dC, dI) cI cZ ts [.int x0] sz []) (POSTi (dC, dI) R sz [] []) 0 0 (va_A [] sz) := by
  refine Met.ofW (cc := cX8_isChild) (maxL := 1) (ret := (some .boolean)) (by decide) rfl ?_
  intro p e s m args below meth c s₁ B hml hv
  obtain ⟨rfl, hv⟩ := hv
  have hG := hg_of hv
  obtain ⟨hsz, hP, -, hD0, -⟩ := hv
  have hx := B.exec
  have hb := B.bytes
  have hr := B.returns
  have hlk := B.notSynchronized
  have hown : s.vm.findClass RX8 = some m.cls := findClass_of_methodNamed B.named
  have hD := hD0.self (sz := sz)
  have hS : va_S (va_A [] sz) s.heap s.heap [] := va_S.rf
  have hl := lv_entry ([.int x0]) (n := 1) (Nat.le_of_ble_eq_true rfl)
  rw [lg_entry_eq]
  generalize (lg_sl ([.int x0]) ++ List.replicate (1 - (lg_sl ([.int x0])).length) Slot.unset).toArray = ls at hl ⊢
  have hl : lv_has ls 1 [(0, .int x0)] := hl
  unfold f_X8_isChild at hf
  refine lv_iload_n hx hb dX8_isChild_0 rfl (lv_at hl 0 rfl) ?_
  refine lv_if_lt (tgt := 13) hx hb dX8_isChild_1 (by decide) (fun c1 => ?_) (fun c1 => ?_)
  · have hf := (if_pos c1).symm.trans hf
    refine lv_iconst (v := 0) hx hb dX8_isChild_13 (by decide) ?_
    have hR := Option.some.inj hf
    rw [← hR]
    exact rt_z hx hb hr hlk rfl hsz hP hD hS rfl rfl dX8_isChild_14
  · have hf := (if_neg c1).symm.trans hf
    refine lv_iload_n hx hb dX8_isChild_4 rfl (lv_at hl 0 rfl) ?_
    refine lv_iconst (v := 4) hx hb dX8_isChild_5 (by decide) ?_
    refine lv_icmp_ge (tgt := 13) hx hb dX8_isChild_6 (by decide) (fun c2 => ?_) (fun c2 => ?_)
    · have hf := (if_pos c2).symm.trans hf
      refine lv_iconst (v := 0) hx hb dX8_isChild_13 (by decide) ?_
      have hR := Option.some.inj hf
      rw [← hR]
      exact rt_z hx hb hr hlk rfl hsz hP hD hS rfl rfl dX8_isChild_14
    · have hf := (if_neg c2).symm.trans hf
      refine lv_iconst (v := 1) hx hb dX8_isChild_9 (by decide) ?_
      refine lv_goto (tgt := 14) hx hb dX8_isChild_10 (by decide) ?_
      have hR := Option.some.inj hf
      rw [← hR]
      exact rt_z hx hb hr hlk rfl hsz hP hD hS rfl rfl dX8_isChild_14
abbrev rmX8_childInPlace : Room := { frames := 0, cells := 0, slots := 0, locals := 0 }
theorem hd_X8_childInPlace : yX8_childInPlace.cls ≠ "java/lang/invoke/MethodHandle" ∧ yX8_childInPlace.cls ≠ "java/lang/invoke/VarHandle" ∧ (parseMethodDescriptor yX8_childInPlace.desc).map (fun d => d.parameters.length) = some 2 := by decide +kernel
set_option maxHeartbeats 4000000 in
set_option maxRecDepth 100000 in
theorem c_X8_childInPlace (l : Launch) (dC : Nat → ClassId) (dI : Nat → Nat → Nat) (cI cZ : ClassId) (ts : Nat → Nat) (sz : Nat) (x0 : Int32) (x1 : Int32) (R : Int32) (hf : f_X8_childInPlace x0 x1 = some R) : Met l yX8_childInPlace wyX8_childInPlace rmX8_childInPlace (PRE (dC, dI) cI cZ ts [.int x0, .int x1] sz []) (POSTi (dC, dI) R sz [] []) 0 0 (va_A [] sz) := by
  refine Met.ofW (cc := cX8_childInPlace) (maxL := 2) (ret := (some .int)) (by decide) rfl ?_
  intro p e s m args below meth c s₁ B hml hv
  obtain ⟨rfl, hv⟩ := hv
  have hG := hg_of hv
  obtain ⟨hsz, hP, -, hD0, -⟩ := hv
  have hx := B.exec
  have hb := B.bytes
  have hr := B.returns
  have hlk := B.notSynchronized
  have hown : s.vm.findClass RX8 = some m.cls := findClass_of_methodNamed B.named
  have hD := hD0.self (sz := sz)
  have hS : va_S (va_A [] sz) s.heap s.heap [] := va_S.rf
  have hl := lv_entry ([.int x0, .int x1]) (n := 2) (Nat.le_of_ble_eq_true rfl)
  rw [lg_entry_eq]
  generalize (lg_sl ([.int x0, .int x1]) ++ List.replicate (2 - (lg_sl ([.int x0, .int x1])).length) Slot.unset).toArray = ls at hl ⊢
  have hl : lv_has ls 2 [(0, .int x0), (1, .int x1)] := hl
  unfold f_X8_childInPlace at hf
  refine lv_iload_n hx hb dX8_childInPlace_0 rfl (lv_at hl 0 rfl) ?_
  refine lv_iconst (v := 2) hx hb dX8_childInPlace_1 (by decide) ?_
  refine lv_iconst (v := 3) hx hb dX8_childInPlace_2 (by decide) ?_
  refine lv_iload_n hx hb dX8_childInPlace_3 rfl (lv_at hl 1 rfl) ?_
  refine lv_isub hx hb dX8_childInPlace_4 ?_
  refine lv_imul hx hb dX8_childInPlace_5 ?_
  refine lv_ishr hx hb dX8_childInPlace_6 ?_
  refine lv_iconst (v := 3) hx hb dX8_childInPlace_7 (by decide) ?_
  refine lv_iand hx hb dX8_childInPlace_8 ?_
  have hR := Option.some.inj hf
  rw [← hR]
  exact rt_i hx hb hr hlk hsz hP hD hS rfl rfl dX8_childInPlace_9
abbrev woX5_passMinute (cI cZ : ClassId) (a_t a_t_pail a_t_cream a_t_crew a_t_stiffBehind a_t_cream_scraped a_t_cream_scraped_grams a_t_crew_wearinesses : Nat) (t_minutes : Int32) (t_heldMinutes : Int32) (t_firstHeld : Int32) (t_pail_ice : Int32) (t_pail_saltGrams : Int32) (t_pail_brine : Int32) (t_pail_cold : Int32) (t_cream_water : Int32) (t_cream_sugar : Int32) (t_cream_fat : Int32) (t_cream_warm : Int32) (t_cream_layer : Int32) (t_cream_air : Int32) (t_cream_churned : Int32) (t_cream_scraped_total : Int32) (t_cream_scraped_grams : Nat → Int32) (t_crew_wearinesses : Nat → Int32) (t_stiffBehind : Nat → Int32) : va_W := [(a_t, .inr (5, [.ref a_t_pail, .ref a_t_cream, .ref a_t_crew, .ref a_t_stiffBehind, .int t_minutes, .int t_heldMinutes, .int t_firstHeld])), (a_t_pail, .inr (3, [.int t_pail_ice, .int t_pail_saltGrams, .int t_pail_brine, .int t_pail_cold])), (a_t_cream, .inr (0, [.int t_cream_water, .int t_cream_sugar, .int t_cream_fat, .int t_cream_warm, .int t_cream_layer, .int t_cream_air, .int t_cream_churned, .ref a_t_cream_scraped])), (a_t_cream_scraped, .inr (2, [.ref a_t_cream_scraped_grams, .int t_cream_scraped_total])), (a_t_cream_scraped_grams, .inl (cI, 64, .inl t_cream_scraped_grams)), (a_t_crew, .inr (1, [.ref a_t_crew_wearinesses])), (a_t_crew_wearinesses, .inl (cI, 4, .inl t_crew_wearinesses)), (a_t_stiffBehind, .inl (cI, 117, .inl t_stiffBehind))]
abbrev rmX5_passMinute : Room := { frames := 3, cells := 0, slots := 0, locals := 66 }
theorem hd_X5_passMinute : yX5_passMinute.cls ≠ "java/lang/invoke/MethodHandle" ∧ yX5_passMinute.cls ≠ "java/lang/invoke/VarHandle" ∧ (parseMethodDescriptor yX5_passMinute.desc).map (fun d => d.parameters.length) = some 3 := by decide +kernel
set_option maxHeartbeats 4000000 in
set_option maxRecDepth 100000 in
theorem c_X5_passMinute (l : Launch) (dC : Nat → ClassId) (dI : Nat → Nat → Nat) (cI cZ : ClassId) (ts : Nat → Nat) (sz : Nat) (a_t a_t_pail a_t_cream a_t_crew a_t_stiffBehind a_t_cream_scraped a_t_cream_scraped_grams a_t_crew_wearinesses : Nat) (t_minutes : Int32) (t_heldMinutes : Int32) (t_firstHeld : Int32) (t_pail_ice : Int32) (t_pail_saltGrams : Int32) (t_pail_brine : Int32) (t_pail_cold : Int32) (t_cream_water : Int32) (t_cream_sugar : Int32) (t_cream_fat : Int32) (t_cream_warm : Int32) (t_cream_layer : Int32) (t_cream_air : Int32) (t_cream_churned : Int32) (t_cream_scraped_total : Int32) (t_cream_scraped_grams : Nat → Int32) (t_crew_wearinesses : Nat → Int32) (t_stiffBehind : Nat → Int32) (x1 : Int32) (x2 : Int32) (x3 : Int32) (R : Int32 × Int32 × Int32 × Int32 × Int32 × Int32 × Int32 × Int32 × Int32 × Int32 × Int32 × (Nat → Int32) × (Nat → Int32) × (Nat → Int32)) (hf : f_X5_passMinute t_minutes t_heldMinutes t_firstHeld t_pail_ice t_pail_saltGrams t_pail_brine t_pail_cold t_cream_water t_cream_sugar t_cream_fat t_cream_warm t_cream_layer t_cream_air t_cream_churned t_cream_scraped_total t_cream_scraped_grams t_crew_wearinesses t_stiffBehind x1 x2 x3 = some R) : Met l yX5_passMinute wyX5_passMinute rmX5_passMinute (PRE (dC, dI) cI cZ ts [.ref a_t, .int x1, .int x2, .int x3] sz (woX5_passMinute cI cZ a_t a_t_pail a_t_cream a_t_crew a_t_stiffBehind a_t_cream_scraped a_t_cream_scraped_grams a_t_crew_wearinesses t_minutes t_heldMinutes t_firstHeld t_pail_ice t_pail_saltGrams t_pail_brine t_pail_cold t_cream_water t_cream_sugar t_cream_fat t_cream_warm t_cream_layer t_cream_air t_cream_churned t_cream_scraped_total t_cream_scraped_grams t_crew_wearinesses t_stiffBehind)) (POSTv (dC, dI) sz (woX5_passMinute cI cZ a_t a_t_pail a_t_cream a_t_crew a_t_stiffBehind a_t_cream_scraped a_t_cream_scraped_grams a_t_crew_wearinesses t_minutes t_heldMinutes t_firstHeld t_pail_ice t_pail_saltGrams t_pail_brine t_pail_cold t_cream_water t_cream_sugar t_cream_fat t_cream_warm t_cream_layer t_cream_air t_cream_churned t_cream_scraped_total t_cream_scraped_grams t_crew_wearinesses t_stiffBehind) (woX5_passMinute cI cZ a_t a_t_pail a_t_cream a_t_crew a_t_stiffBehind a_t_cream_scraped a_t_cream_scraped_grams a_t_crew_wearinesses R.1 R.2.1 R.2.2.1 R.2.2.2.1 t_pail_saltGrams R.2.2.2.2.1 R.2.2.2.2.2.1 t_cream_water t_cream_sugar t_cream_fat R.2.2.2.2.2.2.1 R.2.2.2.2.2.2.2.1 R.2.2.2.2.2.2.2.2.1 R.2.2.2.2.2.2.2.2.2.1 R.2.2.2.2.2.2.2.2.2.2.1 R.2.2.2.2.2.2.2.2.2.2.2.1 R.2.2.2.2.2.2.2.2.2.2.2.2.1 R.2.2.2.2.2.2.2.2.2.2.2.2.2)) 0 0 (va_A (woX5_passMinute cI cZ a_t a_t_pail a_t_cream a_t_crew a_t_stiffBehind a_t_cream_scraped a_t_cream_scraped_grams a_t_crew_wearinesses t_minutes t_heldMinutes t_firstHeld t_pail_ice t_pail_saltGrams t_pail_brine t_pail_cold t_cream_water t_cream_sugar t_cream_fat t_cream_warm t_cream_layer t_cream_air t_cream_churned t_cream_scraped_total t_cream_scraped_grams t_crew_wearinesses t_stiffBehind) sz) := by
  refine Met.ofW (cc := cX5_passMinute) (maxL := 9) (ret := none) (by decide) rfl ?_
  intro p e s m args below meth c s₁ B hml hv
  obtain ⟨rfl, hv⟩ := hv
  have hG := hg_of hv
  obtain ⟨hsz, hP, -, hD0, -⟩ := hv
  have hx := B.exec
  have hb := B.bytes
  have hr := B.returns
  have hlk := B.notSynchronized
  have hown : s.vm.findClass RX5 = some m.cls := findClass_of_methodNamed B.named
  have hD := hD0.self (sz := sz)
  have hS : va_S (va_A (woX5_passMinute cI cZ a_t a_t_pail a_t_cream a_t_crew a_t_stiffBehind a_t_cream_scraped a_t_cream_scraped_grams a_t_crew_wearinesses t_minutes t_heldMinutes t_firstHeld t_pail_ice t_pail_saltGrams t_pail_brine t_pail_cold t_cream_water t_cream_sugar t_cream_fat t_cream_warm t_cream_layer t_cream_air t_cream_churned t_cream_scraped_total t_cream_scraped_grams t_crew_wearinesses t_stiffBehind) sz) s.heap s.heap [] := va_S.rf
  have L185 : ∀ (z1 : Int32) (y7 : Int32) (v_t_minutes : Int32) (v_t_heldMinutes : Int32) (v_t_firstHeld : Int32) (v_t_pail_ice : Int32) (v_t_pail_brine : Int32) (v_t_pail_cold : Int32) (v_t_cream_warm : Int32) (v_t_cream_layer : Int32) (v_t_cream_air : Int32) (v_t_cream_churned : Int32) (v_t_cream_scraped_total : Int32) (v_t_cream_scraped_grams : Nat → Int32) (v_t_crew_wearinesses : Nat → Int32) (v_t_stiffBehind : Nat → Int32) (H : Heap) (locs : List Loc) (ls : Array Slot), f_X5_passMinute_L185 t_pail_saltGrams t_cream_water t_cream_sugar t_cream_fat z1 y7 v_t_minutes v_t_heldMinutes v_t_firstHeld v_t_pail_ice v_t_pail_brine v_t_pail_cold v_t_cream_warm v_t_cream_layer v_t_cream_air v_t_cream_churned v_t_cream_scraped_total v_t_cream_scraped_grams v_t_crew_wearinesses v_t_stiffBehind = some R → va_P (dC, dI) vwCl (woX5_passMinute cI cZ a_t a_t_pail a_t_cream a_t_crew a_t_stiffBehind a_t_cream_scraped a_t_cream_scraped_grams a_t_crew_wearinesses v_t_minutes v_t_heldMinutes v_t_firstHeld v_t_pail_ice t_pail_saltGrams v_t_pail_brine v_t_pail_cold t_cream_water t_cream_sugar t_cream_fat v_t_cream_warm v_t_cream_layer v_t_cream_air v_t_cream_churned v_t_cream_scraped_total v_t_cream_scraped_grams v_t_crew_wearinesses v_t_stiffBehind) H → va_D (va_A (woX5_passMinute cI cZ a_t a_t_pail a_t_cream a_t_crew a_t_stiffBehind a_t_cream_scraped a_t_cream_scraped_grams a_t_crew_wearinesses t_minutes t_heldMinutes t_firstHeld t_pail_ice t_pail_saltGrams t_pail_brine t_pail_cold t_cream_water t_cream_sugar t_cream_fat t_cream_warm t_cream_layer t_cream_air t_cream_churned t_cream_scraped_total t_cream_scraped_grams t_crew_wearinesses t_stiffBehind) sz) (woX5_passMinute cI cZ a_t a_t_pail a_t_cream a_t_crew a_t_stiffBehind a_t_cream_scraped a_t_cream_scraped_grams a_t_crew_wearinesses v_t_minutes v_t_heldMinutes v_t_firstHeld v_t_pail_ice t_pail_saltGrams v_t_pail_brine v_t_pail_cold t_cream_water t_cream_sugar t_cream_fat v_t_cream_warm v_t_cream_layer v_t_cream_air v_t_cream_churned v_t_cream_scraped_total v_t_cream_scraped_grams v_t_crew_wearinesses v_t_stiffBehind) → va_S (va_A (woX5_passMinute cI cZ a_t a_t_pail a_t_cream a_t_crew a_t_stiffBehind a_t_cream_scraped a_t_cream_scraped_grams a_t_crew_wearinesses t_minutes t_heldMinutes t_firstHeld t_pail_ice t_pail_saltGrams t_pail_brine t_pail_cold t_cream_water t_cream_sugar t_cream_fat t_cream_warm t_cream_layer t_cream_air t_cream_churned t_cream_scraped_total t_cream_scraped_grams t_crew_wearinesses t_stiffBehind) sz) s.heap H locs → lv_has ls 9 [(0, .ref a_t), (7, .int y7)] → W p l e (headSpec wyX5_passMinute rmX5_passMinute).room s m ([Value.ref a_t, Value.int x1, Value.int x2, Value.int x3] : List Value).toArray below meth c H locs 0 0 (MQ below (POSTv (dC, dI) sz (woX5_passMinute cI cZ a_t a_t_pail a_t_cream a_t_crew a_t_stiffBehind a_t_cream_scraped a_t_cream_scraped_grams a_t_crew_wearinesses t_minutes t_heldMinutes t_firstHeld t_pail_ice t_pail_saltGrams t_pail_brine t_pail_cold t_cream_water t_cream_sugar t_cream_fat t_cream_warm t_cream_layer t_cream_air t_cream_churned t_cream_scraped_total t_cream_scraped_grams t_crew_wearinesses t_stiffBehind) (woX5_passMinute cI cZ a_t a_t_pail a_t_cream a_t_crew a_t_stiffBehind a_t_cream_scraped a_t_cream_scraped_grams a_t_crew_wearinesses R.1 R.2.1 R.2.2.1 R.2.2.2.1 t_pail_saltGrams R.2.2.2.2.1 R.2.2.2.2.2.1 t_cream_water t_cream_sugar t_cream_fat R.2.2.2.2.2.2.1 R.2.2.2.2.2.2.2.1 R.2.2.2.2.2.2.2.2.1 R.2.2.2.2.2.2.2.2.2.1 R.2.2.2.2.2.2.2.2.2.2.1 R.2.2.2.2.2.2.2.2.2.2.2.1 R.2.2.2.2.2.2.2.2.2.2.2.2.1 R.2.2.2.2.2.2.2.2.2.2.2.2.2)) ([Value.ref a_t, Value.int x1, Value.int x2, Value.int x3] : List Value).toArray s 0 0 (va_A (woX5_passMinute cI cZ a_t a_t_pail a_t_cream a_t_crew a_t_stiffBehind a_t_cream_scraped a_t_cream_scraped_grams a_t_crew_wearinesses t_minutes t_heldMinutes t_firstHeld t_pail_ice t_pail_saltGrams t_pail_brine t_pail_cold t_cream_water t_cream_sugar t_cream_fat t_cream_warm t_cream_layer t_cream_air t_cream_churned t_cream_scraped_total t_cream_scraped_grams t_crew_wearinesses t_stiffBehind) sz)) (F0 m 185 ls [.int z1, .ref a_t_crew]) := by
    intro  z1 y7 v_t_minutes v_t_heldMinutes v_t_firstHeld v_t_pail_ice v_t_pail_brine v_t_pail_cold v_t_cream_warm v_t_cream_layer v_t_cream_air v_t_cream_churned v_t_cream_scraped_total v_t_cream_scraped_grams v_t_crew_wearinesses v_t_stiffBehind H locs ls hf hP hD hS hl
    unfold f_X5_passMinute_L185 at hf
    refine lv_iload hx hb dX5_passMinute_185 (lv_at hl 1 rfl) ?_
    obtain ⟨g187_0, hc187, hf⟩ := bd1_some hf
    refine cl_Vv (b := a_t_crew) (As := [.int z1, .int y7]) (w1 := (woX1_pass cI cZ a_t_crew a_t_crew_wearinesses g187_0)) (wN := (woX5_passMinute cI cZ a_t a_t_pail a_t_cream a_t_crew a_t_stiffBehind a_t_cream_scraped a_t_cream_scraped_grams a_t_crew_wearinesses v_t_minutes v_t_heldMinutes v_t_firstHeld v_t_pail_ice t_pail_saltGrams v_t_pail_brine v_t_pail_cold t_cream_water t_cream_sugar t_cream_fat v_t_cream_warm v_t_cream_layer v_t_cream_air v_t_cream_churned v_t_cream_scraped_total v_t_cream_scraped_grams g187_0 v_t_stiffBehind)) [5, 6] 5 1 (c_X1_pass l dC dI cI cZ ts _ a_t_crew a_t_crew_wearinesses v_t_crew_wearinesses z1 y7 (g187_0) hc187) ⟨hx, hb, hml, hown, hG.2.1.hts _⟩ ⟨callB_of 2 (hG.2.1.hts _) giX1_pass rfl rfl rfl (wd_1_9 hG.2.1) (wd_2_201 hG.2.1) hd_X1_pass ⟨Nat.le_of_ble_eq_true rfl, Nat.le_of_ble_eq_true rfl⟩, wd_2_202 hG.2.1, wd_2_203 hG.2.1⟩ hG hP hD hS rfl rfl rfl rfl rfl rfl rfl rfl hl.1 rfl (Nat.le_of_ble_eq_true rfl) dX5_passMinute_187 ⟨Nat.zero_le _, Nat.zero_le _⟩ (fun H locs hP hD hS => ?_)
    refine lv_aload_n hx hb dX5_passMinute_190 rfl (lv_at hl 0 rfl) ?_
    refine mg (ci := 5) 0 3 hx hb hG igX5 hown hP rfl rfl (by decide) (wd_1_204 hG.2.1) rfl rfl dX5_passMinute_191 ?_
    refine lv_aload_n hx hb dX5_passMinute_194 rfl (lv_at hl 0 rfl) ?_
    refine mg (ci := 5) 0 4 hx hb hG igX5 hown hP rfl rfl (by decide) (wd_1_206 hG.2.1) rfl rfl dX5_passMinute_195 ?_
    refine lv_aload_n hx hb dX5_passMinute_198 rfl (lv_at hl 0 rfl) ?_
    refine mg (ci := 5) 0 1 hx hb hG igX5 hown hP rfl rfl (by decide) (wd_1_200 hG.2.1) rfl rfl dX5_passMinute_199 ?_
    obtain ⟨r202, hc202, hf⟩ := bd1_some hf
    refine cl_Vi (r := r202) (b := a_t_cream) (As := []) (w1 := (woX0_stiff cI cZ a_t_cream a_t_cream_scraped a_t_cream_scraped_grams t_cream_water t_cream_sugar t_cream_fat v_t_cream_warm v_t_cream_layer v_t_cream_air v_t_cream_churned v_t_cream_scraped_total)) (wN := (woX5_passMinute cI cZ a_t a_t_pail a_t_cream a_t_crew a_t_stiffBehind a_t_cream_scraped a_t_cream_scraped_grams a_t_crew_wearinesses v_t_minutes v_t_heldMinutes v_t_firstHeld v_t_pail_ice t_pail_saltGrams v_t_pail_brine v_t_pail_cold t_cream_water t_cream_sugar t_cream_fat v_t_cream_warm v_t_cream_layer v_t_cream_air v_t_cream_churned v_t_cream_scraped_total v_t_cream_scraped_grams g187_0 v_t_stiffBehind)) [2, 3] 2 0 (c_X0_stiff l dC dI cI cZ ts _ a_t_cream a_t_cream_scraped a_t_cream_scraped_grams t_cream_water t_cream_sugar t_cream_fat v_t_cream_warm v_t_cream_layer v_t_cream_air v_t_cream_churned v_t_cream_scraped_total (r202) hc202) ⟨hx, hb, hml, hown, hG.2.1.hts _⟩ ⟨callB_of 0 (hG.2.1.hts _) giX0_stiff rfl rfl rfl (wd_1_7 hG.2.1) (wd_2_154 hG.2.1) hd_X0_stiff ⟨Nat.le_of_ble_eq_true rfl, Nat.le_of_ble_eq_true rfl⟩, wd_2_155 hG.2.1, wd_2_156 hG.2.1⟩ hG hP hD hS rfl rfl rfl rfl rfl rfl rfl rfl hl.1 rfl (Nat.le_of_ble_eq_true rfl) dX5_passMinute_202 ⟨Nat.zero_le _, Nat.zero_le _⟩ (fun H locs hP hD hS => ?_)
    obtain ⟨g205_0, hc205, hf⟩ := bd1_some hf
    refine cl_Nv (As := [.ref a_t_stiffBehind, .int v_t_minutes, .int r202]) (w1 := (woX8_put cI cZ a_t_stiffBehind 117 g205_0)) (wN := (woX5_passMinute cI cZ a_t a_t_pail a_t_cream a_t_crew a_t_stiffBehind a_t_cream_scraped a_t_cream_scraped_grams a_t_crew_wearinesses v_t_minutes v_t_heldMinutes v_t_firstHeld v_t_pail_ice t_pail_saltGrams v_t_pail_brine v_t_pail_cold t_cream_water t_cream_sugar t_cream_fat v_t_cream_warm v_t_cream_layer v_t_cream_air v_t_cream_churned v_t_cream_scraped_total v_t_cream_scraped_grams g187_0 g205_0)) [7] 0 0 (c_X8_put l dC dI cI cZ ts _ a_t_stiffBehind 117 v_t_stiffBehind v_t_minutes r202 (g205_0) hc205) ⟨hx, hb, hml, hown, hG.2.1.hts _⟩ ⟨va_cnB 3 (hG.2.1.hts _) giX8_put rfl rfl rfl (va_Nw.of (A := #[]) rfl (wd_2_208 hG.2.1)) (wd_1_1 hG.2.1) hd_X8_put ⟨Nat.le_of_ble_eq_true rfl, Nat.le_of_ble_eq_true rfl⟩, wd_2_20 hG.2.1, trivial⟩ hG hP hD hS rfl rfl rfl rfl rfl hl.1 rfl (Nat.le_of_ble_eq_true rfl) dX5_passMinute_205 ⟨Nat.zero_le _, Nat.zero_le _⟩ (fun H locs hP hD hS => ?_)
    refine lv_aload_n hx hb dX5_passMinute_208 rfl (lv_at hl 0 rfl) ?_
    refine lv_dup hx hb dX5_passMinute_209 rfl ?_
    refine mg (ci := 5) 0 4 hx hb hG igX5 hown hP rfl rfl (by decide) (wd_1_206 hG.2.1) rfl rfl dX5_passMinute_210 ?_
    refine lv_iconst (v := 1) hx hb dX5_passMinute_213 (by decide) ?_
    refine lv_iadd hx hb dX5_passMinute_214 ?_
    refine mp (ci := 5) (wN := (woX5_passMinute cI cZ a_t a_t_pail a_t_cream a_t_crew a_t_stiffBehind a_t_cream_scraped a_t_cream_scraped_grams a_t_crew_wearinesses (v_t_minutes + (1 : Int32)) v_t_heldMinutes v_t_firstHeld v_t_pail_ice t_pail_saltGrams v_t_pail_brine v_t_pail_cold t_cream_water t_cream_sugar t_cream_fat v_t_cream_warm v_t_cream_layer v_t_cream_air v_t_cream_churned v_t_cream_scraped_total v_t_cream_scraped_grams g187_0 g205_0)) 0 4 hx hb hG igX5 tyX5 tyX5_ok nmX5 hown hP hD hS rfl rfl (by decide) (wd_1_206 hG.2.1) rfl rfl rfl rfl rfl (Nat.le_of_ble_eq_true rfl) rfl dX5_passMinute_215 (fun H locs hP hD hS => ?_)
    have hR := Option.some.inj hf
    rw [← hR]
    exact rt_v hx hb hr hlk hsz hP hD hS rfl dX5_passMinute_218
  have L108 : ∀ (z0 : Int32) (y1 : Int32) (y4 : Int32) (y6 : Int32) (v_t_minutes : Int32) (v_t_heldMinutes : Int32) (v_t_firstHeld : Int32) (v_t_pail_ice : Int32) (v_t_pail_brine : Int32) (v_t_pail_cold : Int32) (v_t_cream_warm : Int32) (v_t_cream_layer : Int32) (v_t_cream_air : Int32) (v_t_cream_churned : Int32) (v_t_cream_scraped_total : Int32) (v_t_cream_scraped_grams : Nat → Int32) (v_t_crew_wearinesses : Nat → Int32) (v_t_stiffBehind : Nat → Int32) (H : Heap) (locs : List Loc) (ls : Array Slot), f_X5_passMinute_L108 t_pail_saltGrams t_cream_water t_cream_sugar t_cream_fat z0 y1 y4 y6 v_t_minutes v_t_heldMinutes v_t_firstHeld v_t_pail_ice v_t_pail_brine v_t_pail_cold v_t_cream_warm v_t_cream_layer v_t_cream_air v_t_cream_churned v_t_cream_scraped_total v_t_cream_scraped_grams v_t_crew_wearinesses v_t_stiffBehind = some R → va_P (dC, dI) vwCl (woX5_passMinute cI cZ a_t a_t_pail a_t_cream a_t_crew a_t_stiffBehind a_t_cream_scraped a_t_cream_scraped_grams a_t_crew_wearinesses v_t_minutes v_t_heldMinutes v_t_firstHeld v_t_pail_ice t_pail_saltGrams v_t_pail_brine v_t_pail_cold t_cream_water t_cream_sugar t_cream_fat v_t_cream_warm v_t_cream_layer v_t_cream_air v_t_cream_churned v_t_cream_scraped_total v_t_cream_scraped_grams v_t_crew_wearinesses v_t_stiffBehind) H → va_D (va_A (woX5_passMinute cI cZ a_t a_t_pail a_t_cream a_t_crew a_t_stiffBehind a_t_cream_scraped a_t_cream_scraped_grams a_t_crew_wearinesses t_minutes t_heldMinutes t_firstHeld t_pail_ice t_pail_saltGrams t_pail_brine t_pail_cold t_cream_water t_cream_sugar t_cream_fat t_cream_warm t_cream_layer t_cream_air t_cream_churned t_cream_scraped_total t_cream_scraped_grams t_crew_wearinesses t_stiffBehind) sz) (woX5_passMinute cI cZ a_t a_t_pail a_t_cream a_t_crew a_t_stiffBehind a_t_cream_scraped a_t_cream_scraped_grams a_t_crew_wearinesses v_t_minutes v_t_heldMinutes v_t_firstHeld v_t_pail_ice t_pail_saltGrams v_t_pail_brine v_t_pail_cold t_cream_water t_cream_sugar t_cream_fat v_t_cream_warm v_t_cream_layer v_t_cream_air v_t_cream_churned v_t_cream_scraped_total v_t_cream_scraped_grams v_t_crew_wearinesses v_t_stiffBehind) → va_S (va_A (woX5_passMinute cI cZ a_t a_t_pail a_t_cream a_t_crew a_t_stiffBehind a_t_cream_scraped a_t_cream_scraped_grams a_t_crew_wearinesses t_minutes t_heldMinutes t_firstHeld t_pail_ice t_pail_saltGrams t_pail_brine t_pail_cold t_cream_water t_cream_sugar t_cream_fat t_cream_warm t_cream_layer t_cream_air t_cream_churned t_cream_scraped_total t_cream_scraped_grams t_crew_wearinesses t_stiffBehind) sz) s.heap H locs → lv_has ls 9 [(0, .ref a_t), (1, .int y1), (4, .int y4), (6, .int y6)] → W p l e (headSpec wyX5_passMinute rmX5_passMinute).room s m ([Value.ref a_t, Value.int x1, Value.int x2, Value.int x3] : List Value).toArray below meth c H locs 0 0 (MQ below (POSTv (dC, dI) sz (woX5_passMinute cI cZ a_t a_t_pail a_t_cream a_t_crew a_t_stiffBehind a_t_cream_scraped a_t_cream_scraped_grams a_t_crew_wearinesses t_minutes t_heldMinutes t_firstHeld t_pail_ice t_pail_saltGrams t_pail_brine t_pail_cold t_cream_water t_cream_sugar t_cream_fat t_cream_warm t_cream_layer t_cream_air t_cream_churned t_cream_scraped_total t_cream_scraped_grams t_crew_wearinesses t_stiffBehind) (woX5_passMinute cI cZ a_t a_t_pail a_t_cream a_t_crew a_t_stiffBehind a_t_cream_scraped a_t_cream_scraped_grams a_t_crew_wearinesses R.1 R.2.1 R.2.2.1 R.2.2.2.1 t_pail_saltGrams R.2.2.2.2.1 R.2.2.2.2.2.1 t_cream_water t_cream_sugar t_cream_fat R.2.2.2.2.2.2.1 R.2.2.2.2.2.2.2.1 R.2.2.2.2.2.2.2.2.1 R.2.2.2.2.2.2.2.2.2.1 R.2.2.2.2.2.2.2.2.2.2.1 R.2.2.2.2.2.2.2.2.2.2.2.1 R.2.2.2.2.2.2.2.2.2.2.2.2.1 R.2.2.2.2.2.2.2.2.2.2.2.2.2)) ([Value.ref a_t, Value.int x1, Value.int x2, Value.int x3] : List Value).toArray s 0 0 (va_A (woX5_passMinute cI cZ a_t a_t_pail a_t_cream a_t_crew a_t_stiffBehind a_t_cream_scraped a_t_cream_scraped_grams a_t_crew_wearinesses t_minutes t_heldMinutes t_firstHeld t_pail_ice t_pail_saltGrams t_pail_brine t_pail_cold t_cream_water t_cream_sugar t_cream_fat t_cream_warm t_cream_layer t_cream_air t_cream_churned t_cream_scraped_total t_cream_scraped_grams t_crew_wearinesses t_stiffBehind) sz)) (F0 m 108 ls [.int z0]) := by
    intro  z0 y1 y4 y6 v_t_minutes v_t_heldMinutes v_t_firstHeld v_t_pail_ice v_t_pail_brine v_t_pail_cold v_t_cream_warm v_t_cream_layer v_t_cream_air v_t_cream_churned v_t_cream_scraped_total v_t_cream_scraped_grams v_t_crew_wearinesses v_t_stiffBehind H locs ls hf hP hD hS hl
    unfold f_X5_passMinute_L108 at hf
    refine lv_istore (lv' := [(7, .int z0), (0, .ref a_t), (1, .int y1), (4, .int y4), (6, .int y6)]) hx hb dX5_passMinute_108 hl (by decide) rfl (fun ls hl => ?_)
    refine lv_aload_n hx hb dX5_passMinute_110 rfl (lv_at hl 1 rfl) ?_
    refine mg (ci := 5) 0 0 hx hb hG igX5 hown hP rfl rfl (by decide) (wd_1_199 hG.2.1) rfl rfl dX5_passMinute_111 ?_
    obtain ⟨g114_0, hc114, hf⟩ := bd1_some hf
    refine cl_Vv (b := a_t_pail) (As := []) (w1 := (woX3_settle cI cZ a_t_pail v_t_pail_ice t_pail_saltGrams v_t_pail_brine g114_0)) (wN := (woX5_passMinute cI cZ a_t a_t_pail a_t_cream a_t_crew a_t_stiffBehind a_t_cream_scraped a_t_cream_scraped_grams a_t_crew_wearinesses v_t_minutes v_t_heldMinutes v_t_firstHeld v_t_pail_ice t_pail_saltGrams v_t_pail_brine g114_0 t_cream_water t_cream_sugar t_cream_fat v_t_cream_warm v_t_cream_layer v_t_cream_air v_t_cream_churned v_t_cream_scraped_total v_t_cream_scraped_grams v_t_crew_wearinesses v_t_stiffBehind)) [1] 1 3 (c_X3_settle l dC dI cI cZ ts _ a_t_pail v_t_pail_ice t_pail_saltGrams v_t_pail_brine v_t_pail_cold (g114_0) hc114) ⟨hx, hb, hml, hown, hG.2.1.hts _⟩ ⟨callB_of 0 (hG.2.1.hts _) giX3_settle rfl rfl rfl (wd_1_6 hG.2.1) (wd_2_164 hG.2.1) hd_X3_settle ⟨Nat.le_of_ble_eq_true rfl, Nat.le_of_ble_eq_true rfl⟩, wd_2_119 hG.2.1, wd_2_120 hG.2.1⟩ hG hP hD hS rfl rfl rfl rfl rfl rfl rfl rfl hl.1 rfl (Nat.le_of_ble_eq_true rfl) dX5_passMinute_114 ⟨Nat.zero_le _, Nat.zero_le _⟩ (fun H locs hP hD hS => ?_)
    refine lv_aload_n hx hb dX5_passMinute_117 rfl (lv_at hl 1 rfl) ?_
    refine mg (ci := 5) 0 1 hx hb hG igX5 hown hP rfl rfl (by decide) (wd_1_200 hG.2.1) rfl rfl dX5_passMinute_118 ?_
    refine lv_aload_n hx hb dX5_passMinute_121 rfl (lv_at hl 1 rfl) ?_
    refine mg (ci := 5) 0 0 hx hb hG igX5 hown hP rfl rfl (by decide) (wd_1_199 hG.2.1) rfl rfl dX5_passMinute_122 ?_
    refine mgN (ci := 3) 1 3 hx hb hG igX3 hown hP rfl rfl (by decide) (wd_1_126 hG.2.1) rfl rfl dX5_passMinute_125 ?_
    obtain ⟨r128, hc128, hf⟩ := bd1_some hf
    refine cl_Vi (r := r128) (b := a_t_cream) (As := [.int g114_0]) (w1 := (woX0_flow cI cZ a_t_cream a_t_cream_scraped t_cream_water t_cream_sugar t_cream_fat v_t_cream_warm v_t_cream_layer v_t_cream_air v_t_cream_churned)) (wN := (woX5_passMinute cI cZ a_t a_t_pail a_t_cream a_t_crew a_t_stiffBehind a_t_cream_scraped a_t_cream_scraped_grams a_t_crew_wearinesses v_t_minutes v_t_heldMinutes v_t_firstHeld v_t_pail_ice t_pail_saltGrams v_t_pail_brine g114_0 t_cream_water t_cream_sugar t_cream_fat v_t_cream_warm v_t_cream_layer v_t_cream_air v_t_cream_churned v_t_cream_scraped_total v_t_cream_scraped_grams v_t_crew_wearinesses v_t_stiffBehind)) [2] 2 0 (c_X0_flow l dC dI cI cZ ts _ a_t_cream a_t_cream_scraped t_cream_water t_cream_sugar t_cream_fat v_t_cream_warm v_t_cream_layer v_t_cream_air v_t_cream_churned g114_0 (r128) hc128) ⟨hx, hb, hml, hown, hG.2.1.hts _⟩ ⟨callB_of 1 (hG.2.1.hts _) giX0_flow rfl rfl rfl (wd_1_7 hG.2.1) (wd_2_165 hG.2.1) hd_X0_flow ⟨Nat.le_of_ble_eq_true rfl, Nat.le_of_ble_eq_true rfl⟩, wd_2_166 hG.2.1, wd_2_167 hG.2.1⟩ hG hP hD hS rfl rfl rfl rfl rfl rfl rfl rfl hl.1 rfl (Nat.le_of_ble_eq_true rfl) dX5_passMinute_128 ⟨Nat.zero_le _, Nat.zero_le _⟩ (fun H locs hP hD hS => ?_)
    refine lv_istore (lv' := [(8, .int r128), (7, .int z0), (0, .ref a_t), (1, .int y1), (4, .int y4), (6, .int y6)]) hx hb dX5_passMinute_131 hl (by decide) rfl (fun ls hl => ?_)
    refine lv_aload_n hx hb dX5_passMinute_133 rfl (lv_at hl 2 rfl) ?_
    refine mg (ci := 5) 0 0 hx hb hG igX5 hown hP rfl rfl (by decide) (wd_1_199 hG.2.1) rfl rfl dX5_passMinute_134 ?_
    refine lv_iload hx hb dX5_passMinute_137 (lv_at hl 0 rfl) ?_
    obtain ⟨g139_0, g139_1, hc139, hf⟩ := bd2_some hf
    refine cl_Vv (b := a_t_pail) (As := [.int r128]) (w1 := (woX3_melt cI cZ a_t_pail g139_0 t_pail_saltGrams g139_1 g114_0)) (wN := (woX5_passMinute cI cZ a_t a_t_pail a_t_cream a_t_crew a_t_stiffBehind a_t_cream_scraped a_t_cream_scraped_grams a_t_crew_wearinesses v_t_minutes v_t_heldMinutes v_t_firstHeld g139_0 t_pail_saltGrams g139_1 g114_0 t_cream_water t_cream_sugar t_cream_fat v_t_cream_warm v_t_cream_layer v_t_cream_air v_t_cream_churned v_t_cream_scraped_total v_t_cream_scraped_grams v_t_crew_wearinesses v_t_stiffBehind)) [1] 1 3 (c_X3_melt l dC dI cI cZ ts _ a_t_pail v_t_pail_ice t_pail_saltGrams v_t_pail_brine g114_0 r128 (g139_0, g139_1) hc139) ⟨hx, hb, hml, hown, hG.2.1.hts _⟩ ⟨callB_of 1 (hG.2.1.hts _) giX3_melt rfl rfl rfl (wd_1_6 hG.2.1) (wd_2_170 hG.2.1) hd_X3_melt ⟨Nat.le_of_ble_eq_true rfl, Nat.le_of_ble_eq_true rfl⟩, wd_2_171 hG.2.1, wd_2_172 hG.2.1⟩ hG hP hD hS rfl rfl rfl rfl rfl rfl rfl rfl hl.1 rfl (Nat.le_of_ble_eq_true rfl) dX5_passMinute_139 ⟨Nat.zero_le _, Nat.zero_le _⟩ (fun H locs hP hD hS => ?_)
    refine lv_aload_n hx hb dX5_passMinute_142 rfl (lv_at hl 2 rfl) ?_
    refine mg (ci := 5) 0 1 hx hb hG igX5 hown hP rfl rfl (by decide) (wd_1_200 hG.2.1) rfl rfl dX5_passMinute_143 ?_
    refine lv_iload hx hb dX5_passMinute_146 (lv_at hl 0 rfl) ?_
    obtain ⟨g148_0, g148_1, hc148, hf⟩ := bd2_some hf
    refine cl_Vv (b := a_t_cream) (As := [.int r128]) (w1 := (woX0_giveWarmth cI cZ a_t_cream a_t_cream_scraped a_t_cream_scraped_grams t_cream_water t_cream_sugar t_cream_fat g148_0 g148_1 v_t_cream_air v_t_cream_churned v_t_cream_scraped_total)) (wN := (woX5_passMinute cI cZ a_t a_t_pail a_t_cream a_t_crew a_t_stiffBehind a_t_cream_scraped a_t_cream_scraped_grams a_t_crew_wearinesses v_t_minutes v_t_heldMinutes v_t_firstHeld g139_0 t_pail_saltGrams g139_1 g114_0 t_cream_water t_cream_sugar t_cream_fat g148_0 g148_1 v_t_cream_air v_t_cream_churned v_t_cream_scraped_total v_t_cream_scraped_grams v_t_crew_wearinesses v_t_stiffBehind)) [2, 3] 2 0 (c_X0_giveWarmth l dC dI cI cZ ts _ a_t_cream a_t_cream_scraped a_t_cream_scraped_grams t_cream_water t_cream_sugar t_cream_fat v_t_cream_warm v_t_cream_layer v_t_cream_air v_t_cream_churned v_t_cream_scraped_total r128 (g148_0, g148_1) hc148) ⟨hx, hb, hml, hown, hG.2.1.hts _⟩ ⟨callB_of 1 (hG.2.1.hts _) giX0_giveWarmth rfl rfl rfl (wd_1_7 hG.2.1) (wd_2_174 hG.2.1) hd_X0_giveWarmth ⟨Nat.le_of_ble_eq_true rfl, Nat.le_of_ble_eq_true rfl⟩, wd_2_175 hG.2.1, wd_2_176 hG.2.1⟩ hG hP hD hS rfl rfl rfl rfl rfl rfl rfl rfl hl.1 rfl (Nat.le_of_ble_eq_true rfl) dX5_passMinute_148 ⟨Nat.zero_le _, Nat.zero_le _⟩ (fun H locs hP hD hS => ?_)
    refine lv_aload_n hx hb dX5_passMinute_151 rfl (lv_at hl 2 rfl) ?_
    refine mg (ci := 5) 0 1 hx hb hG igX5 hown hP rfl rfl (by decide) (wd_1_200 hG.2.1) rfl rfl dX5_passMinute_152 ?_
    refine lv_iload hx hb dX5_passMinute_155 (lv_at hl 1 rfl) ?_
    obtain ⟨g157_0, g157_1, g157_2, hc157, hf⟩ := bd3_some hf
    refine cl_Vv (b := a_t_cream) (As := [.int z0]) (w1 := (woX0_scrape cI cZ a_t_cream a_t_cream_scraped a_t_cream_scraped_grams t_cream_water t_cream_sugar t_cream_fat g148_0 g157_0 v_t_cream_air v_t_cream_churned g157_1 g157_2)) (wN := (woX5_passMinute cI cZ a_t a_t_pail a_t_cream a_t_crew a_t_stiffBehind a_t_cream_scraped a_t_cream_scraped_grams a_t_crew_wearinesses v_t_minutes v_t_heldMinutes v_t_firstHeld g139_0 t_pail_saltGrams g139_1 g114_0 t_cream_water t_cream_sugar t_cream_fat g148_0 g157_0 v_t_cream_air v_t_cream_churned g157_1 g157_2 v_t_crew_wearinesses v_t_stiffBehind)) [2, 3, 4] 2 0 (c_X0_scrape l dC dI cI cZ ts _ a_t_cream a_t_cream_scraped a_t_cream_scraped_grams t_cream_water t_cream_sugar t_cream_fat g148_0 g148_1 v_t_cream_air v_t_cream_churned v_t_cream_scraped_total v_t_cream_scraped_grams z0 (g157_0, g157_1, g157_2) hc157) ⟨hx, hb, hml, hown, hG.2.1.hts _⟩ ⟨callB_of 1 (hG.2.1.hts _) giX0_scrape rfl rfl rfl (wd_1_7 hG.2.1) (wd_2_187 hG.2.1) hd_X0_scrape ⟨Nat.le_of_ble_eq_true rfl, Nat.le_of_ble_eq_true rfl⟩, wd_2_188 hG.2.1, wd_2_189 hG.2.1⟩ hG hP hD hS rfl rfl rfl rfl rfl rfl rfl rfl hl.1 rfl (Nat.le_of_ble_eq_true rfl) dX5_passMinute_157 ⟨Nat.zero_le _, Nat.zero_le _⟩ (fun H locs hP hD hS => ?_)
    refine lv_aload_n hx hb dX5_passMinute_160 rfl (lv_at hl 2 rfl) ?_
    refine mg (ci := 5) 0 1 hx hb hG igX5 hown hP rfl rfl (by decide) (wd_1_200 hG.2.1) rfl rfl dX5_passMinute_161 ?_
    refine lv_iload hx hb dX5_passMinute_164 (lv_at hl 1 rfl) ?_
    refine lv_iload hx hb dX5_passMinute_166 (lv_at hl 4 rfl) ?_
    obtain ⟨g168_0, g168_1, hc168, hf⟩ := bd2_some hf
    refine cl_Vv (b := a_t_cream) (As := [.int z0, .int y4]) (w1 := (woX0_beat cI cZ a_t_cream a_t_cream_scraped t_cream_water t_cream_sugar t_cream_fat g148_0 g157_0 g168_0 g168_1)) (wN := (woX5_passMinute cI cZ a_t a_t_pail a_t_cream a_t_crew a_t_stiffBehind a_t_cream_scraped a_t_cream_scraped_grams a_t_crew_wearinesses v_t_minutes v_t_heldMinutes v_t_firstHeld g139_0 t_pail_saltGrams g139_1 g114_0 t_cream_water t_cream_sugar t_cream_fat g148_0 g157_0 g168_0 g168_1 g157_1 g157_2 v_t_crew_wearinesses v_t_stiffBehind)) [2] 2 0 (c_X0_beat l dC dI cI cZ ts _ a_t_cream a_t_cream_scraped t_cream_water t_cream_sugar t_cream_fat g148_0 g157_0 v_t_cream_air v_t_cream_churned z0 y4 (g168_0, g168_1) hc168) ⟨hx, hb, hml, hown, hG.2.1.hts _⟩ ⟨callB_of 2 (hG.2.1.hts _) giX0_beat rfl rfl rfl (wd_1_7 hG.2.1) (wd_2_197 hG.2.1) hd_X0_beat ⟨Nat.le_of_ble_eq_true rfl, Nat.le_of_ble_eq_true rfl⟩, wd_2_198 hG.2.1, wd_2_199 hG.2.1⟩ hG hP hD hS rfl rfl rfl rfl rfl rfl rfl rfl hl.1 rfl (Nat.le_of_ble_eq_true rfl) dX5_passMinute_168 ⟨Nat.zero_le _, Nat.zero_le _⟩ (fun H locs hP hD hS => ?_)
    refine lv_aload_n hx hb dX5_passMinute_171 rfl (lv_at hl 2 rfl) ?_
    refine mg (ci := 5) 0 2 hx hb hG igX5 hown hP rfl rfl (by decide) (wd_1_202 hG.2.1) rfl rfl dX5_passMinute_172 ?_
    refine lv_iload hx hb dX5_passMinute_175 (lv_at hl 5 rfl) ?_
    refine lv_if_eq (tgt := 184) hx hb dX5_passMinute_177 (by decide) (fun c1 => ?_) (fun c1 => ?_)
    · have hf := (if_pos c1).symm.trans hf
      refine lv_iconst (v := 4) hx hb dX5_passMinute_184 (by decide) ?_
      exact L185  (4 : Int32) z0 v_t_minutes v_t_heldMinutes v_t_firstHeld g139_0 g139_1 g114_0 g148_0 g157_0 g168_0 g168_1 g157_1 g157_2 v_t_crew_wearinesses v_t_stiffBehind _ _ _ hf hP hD hS (lv_sub hl [2, 1] rfl)
    · have hf := (if_neg c1).symm.trans hf
      refine lv_iload_n hx hb dX5_passMinute_180 rfl (lv_at hl 3 rfl) ?_
      refine lv_goto (tgt := 185) hx hb dX5_passMinute_181 (by decide) ?_
      exact L185  y1 z0 v_t_minutes v_t_heldMinutes v_t_firstHeld g139_0 g139_1 g114_0 g148_0 g157_0 g168_0 g168_1 g157_1 g157_2 v_t_crew_wearinesses v_t_stiffBehind _ _ _ hf hP hD hS (lv_sub hl [2, 1] rfl)
  have L85 : ∀ (z1 : Int32) (y1 : Int32) (y2 : Int32) (y4 : Int32) (y6 : Int32) (v_t_minutes : Int32) (v_t_heldMinutes : Int32) (v_t_firstHeld : Int32) (v_t_pail_ice : Int32) (v_t_pail_brine : Int32) (v_t_pail_cold : Int32) (v_t_cream_warm : Int32) (v_t_cream_layer : Int32) (v_t_cream_air : Int32) (v_t_cream_churned : Int32) (v_t_cream_scraped_total : Int32) (v_t_cream_scraped_grams : Nat → Int32) (v_t_crew_wearinesses : Nat → Int32) (v_t_stiffBehind : Nat → Int32) (H : Heap) (locs : List Loc) (ls : Array Slot), f_X5_passMinute_L85 t_pail_saltGrams t_cream_water t_cream_sugar t_cream_fat z1 y1 y2 y4 y6 v_t_minutes v_t_heldMinutes v_t_firstHeld v_t_pail_ice v_t_pail_brine v_t_pail_cold v_t_cream_warm v_t_cream_layer v_t_cream_air v_t_cream_churned v_t_cream_scraped_total v_t_cream_scraped_grams v_t_crew_wearinesses v_t_stiffBehind = some R → va_P (dC, dI) vwCl (woX5_passMinute cI cZ a_t a_t_pail a_t_cream a_t_crew a_t_stiffBehind a_t_cream_scraped a_t_cream_scraped_grams a_t_crew_wearinesses v_t_minutes v_t_heldMinutes v_t_firstHeld v_t_pail_ice t_pail_saltGrams v_t_pail_brine v_t_pail_cold t_cream_water t_cream_sugar t_cream_fat v_t_cream_warm v_t_cream_layer v_t_cream_air v_t_cream_churned v_t_cream_scraped_total v_t_cream_scraped_grams v_t_crew_wearinesses v_t_stiffBehind) H → va_D (va_A (woX5_passMinute cI cZ a_t a_t_pail a_t_cream a_t_crew a_t_stiffBehind a_t_cream_scraped a_t_cream_scraped_grams a_t_crew_wearinesses t_minutes t_heldMinutes t_firstHeld t_pail_ice t_pail_saltGrams t_pail_brine t_pail_cold t_cream_water t_cream_sugar t_cream_fat t_cream_warm t_cream_layer t_cream_air t_cream_churned t_cream_scraped_total t_cream_scraped_grams t_crew_wearinesses t_stiffBehind) sz) (woX5_passMinute cI cZ a_t a_t_pail a_t_cream a_t_crew a_t_stiffBehind a_t_cream_scraped a_t_cream_scraped_grams a_t_crew_wearinesses v_t_minutes v_t_heldMinutes v_t_firstHeld v_t_pail_ice t_pail_saltGrams v_t_pail_brine v_t_pail_cold t_cream_water t_cream_sugar t_cream_fat v_t_cream_warm v_t_cream_layer v_t_cream_air v_t_cream_churned v_t_cream_scraped_total v_t_cream_scraped_grams v_t_crew_wearinesses v_t_stiffBehind) → va_S (va_A (woX5_passMinute cI cZ a_t a_t_pail a_t_cream a_t_crew a_t_stiffBehind a_t_cream_scraped a_t_cream_scraped_grams a_t_crew_wearinesses t_minutes t_heldMinutes t_firstHeld t_pail_ice t_pail_saltGrams t_pail_brine t_pail_cold t_cream_water t_cream_sugar t_cream_fat t_cream_warm t_cream_layer t_cream_air t_cream_churned t_cream_scraped_total t_cream_scraped_grams t_crew_wearinesses t_stiffBehind) sz) s.heap H locs → lv_has ls 9 [(0, .ref a_t), (1, .int y1), (2, .int y2), (4, .int y4), (6, .int y6)] → W p l e (headSpec wyX5_passMinute rmX5_passMinute).room s m ([Value.ref a_t, Value.int x1, Value.int x2, Value.int x3] : List Value).toArray below meth c H locs 0 0 (MQ below (POSTv (dC, dI) sz (woX5_passMinute cI cZ a_t a_t_pail a_t_cream a_t_crew a_t_stiffBehind a_t_cream_scraped a_t_cream_scraped_grams a_t_crew_wearinesses t_minutes t_heldMinutes t_firstHeld t_pail_ice t_pail_saltGrams t_pail_brine t_pail_cold t_cream_water t_cream_sugar t_cream_fat t_cream_warm t_cream_layer t_cream_air t_cream_churned t_cream_scraped_total t_cream_scraped_grams t_crew_wearinesses t_stiffBehind) (woX5_passMinute cI cZ a_t a_t_pail a_t_cream a_t_crew a_t_stiffBehind a_t_cream_scraped a_t_cream_scraped_grams a_t_crew_wearinesses R.1 R.2.1 R.2.2.1 R.2.2.2.1 t_pail_saltGrams R.2.2.2.2.1 R.2.2.2.2.2.1 t_cream_water t_cream_sugar t_cream_fat R.2.2.2.2.2.2.1 R.2.2.2.2.2.2.2.1 R.2.2.2.2.2.2.2.2.1 R.2.2.2.2.2.2.2.2.2.1 R.2.2.2.2.2.2.2.2.2.2.1 R.2.2.2.2.2.2.2.2.2.2.2.1 R.2.2.2.2.2.2.2.2.2.2.2.2.1 R.2.2.2.2.2.2.2.2.2.2.2.2.2)) ([Value.ref a_t, Value.int x1, Value.int x2, Value.int x3] : List Value).toArray s 0 0 (va_A (woX5_passMinute cI cZ a_t a_t_pail a_t_cream a_t_crew a_t_stiffBehind a_t_cream_scraped a_t_cream_scraped_grams a_t_crew_wearinesses t_minutes t_heldMinutes t_firstHeld t_pail_ice t_pail_saltGrams t_pail_brine t_pail_cold t_cream_water t_cream_sugar t_cream_fat t_cream_warm t_cream_layer t_cream_air t_cream_churned t_cream_scraped_total t_cream_scraped_grams t_crew_wearinesses t_stiffBehind) sz)) (F0 m 85 ls [.int z1, .ref a_t]) := by
    intro  z1 y1 y2 y4 y6 v_t_minutes v_t_heldMinutes v_t_firstHeld v_t_pail_ice v_t_pail_brine v_t_pail_cold v_t_cream_warm v_t_cream_layer v_t_cream_air v_t_cream_churned v_t_cream_scraped_total v_t_cream_scraped_grams v_t_crew_wearinesses v_t_stiffBehind H locs ls hf hP hD hS hl
    unfold f_X5_passMinute_L85 at hf
    refine mp (ci := 5) (wN := (woX5_passMinute cI cZ a_t a_t_pail a_t_cream a_t_crew a_t_stiffBehind a_t_cream_scraped a_t_cream_scraped_grams a_t_crew_wearinesses v_t_minutes v_t_heldMinutes z1 v_t_pail_ice t_pail_saltGrams v_t_pail_brine v_t_pail_cold t_cream_water t_cream_sugar t_cream_fat v_t_cream_warm v_t_cream_layer v_t_cream_air v_t_cream_churned v_t_cream_scraped_total v_t_cream_scraped_grams v_t_crew_wearinesses v_t_stiffBehind)) 0 6 hx hb hG igX5 tyX5 tyX5_ok nmX5 hown hP hD hS rfl rfl (by decide) (wd_1_210 hG.2.1) rfl rfl rfl rfl rfl (Nat.le_of_ble_eq_true rfl) rfl dX5_passMinute_85 (fun H locs hP hD hS => ?_)
    refine lv_aload_n hx hb dX5_passMinute_88 rfl (lv_at hl 0 rfl) ?_
    refine lv_dup hx hb dX5_passMinute_89 rfl ?_
    refine mg (ci := 5) 0 5 hx hb hG igX5 hown hP rfl rfl (by decide) (wd_1_208 hG.2.1) rfl rfl dX5_passMinute_90 ?_
    refine lv_iconst (v := 1) hx hb dX5_passMinute_93 (by decide) ?_
    refine lv_iadd hx hb dX5_passMinute_94 ?_
    refine mp (ci := 5) (wN := (woX5_passMinute cI cZ a_t a_t_pail a_t_cream a_t_crew a_t_stiffBehind a_t_cream_scraped a_t_cream_scraped_grams a_t_crew_wearinesses v_t_minutes (v_t_heldMinutes + (1 : Int32)) z1 v_t_pail_ice t_pail_saltGrams v_t_pail_brine v_t_pail_cold t_cream_water t_cream_sugar t_cream_fat v_t_cream_warm v_t_cream_layer v_t_cream_air v_t_cream_churned v_t_cream_scraped_total v_t_cream_scraped_grams v_t_crew_wearinesses v_t_stiffBehind)) 0 5 hx hb hG igX5 tyX5 tyX5_ok nmX5 hown hP hD hS rfl rfl (by decide) (wd_1_208 hG.2.1) rfl rfl rfl rfl rfl (Nat.le_of_ble_eq_true rfl) rfl dX5_passMinute_95 (fun H locs hP hD hS => ?_)
    refine lv_iload hx hb dX5_passMinute_98 (lv_at hl 4 rfl) ?_
    refine lv_if_eq (tgt := 107) hx hb dX5_passMinute_100 (by decide) (fun c2 => ?_) (fun c2 => ?_)
    · have hf := (if_pos c2).symm.trans hf
      refine lv_iconst (v := 0) hx hb dX5_passMinute_107 (by decide) ?_
      exact L108  (0 : Int32) y1 y4 y6 v_t_minutes (v_t_heldMinutes + (1 : Int32)) z1 v_t_pail_ice v_t_pail_brine v_t_pail_cold v_t_cream_warm v_t_cream_layer v_t_cream_air v_t_cream_churned v_t_cream_scraped_total v_t_cream_scraped_grams v_t_crew_wearinesses v_t_stiffBehind _ _ _ hf hP hD hS (lv_sub hl [0, 1, 3, 4] rfl)
    · have hf := (if_neg c2).symm.trans hf
      refine lv_iload_n hx hb dX5_passMinute_103 rfl (lv_at hl 2 rfl) ?_
      refine lv_goto (tgt := 108) hx hb dX5_passMinute_104 (by decide) ?_
      exact L108  y2 y1 y4 y6 v_t_minutes (v_t_heldMinutes + (1 : Int32)) z1 v_t_pail_ice v_t_pail_brine v_t_pail_cold v_t_cream_warm v_t_cream_layer v_t_cream_air v_t_cream_churned v_t_cream_scraped_total v_t_cream_scraped_grams v_t_crew_wearinesses v_t_stiffBehind _ _ _ hf hP hD hS (lv_sub hl [0, 1, 3, 4] rfl)
  have L54 : ∀ (z0 : Int32) (y1 : Int32) (y2 : Int32) (y4 : Int32) (y5 : Int32) (v_t_minutes : Int32) (v_t_heldMinutes : Int32) (v_t_firstHeld : Int32) (v_t_pail_ice : Int32) (v_t_pail_brine : Int32) (v_t_pail_cold : Int32) (v_t_cream_warm : Int32) (v_t_cream_layer : Int32) (v_t_cream_air : Int32) (v_t_cream_churned : Int32) (v_t_cream_scraped_total : Int32) (v_t_cream_scraped_grams : Nat → Int32) (v_t_crew_wearinesses : Nat → Int32) (v_t_stiffBehind : Nat → Int32) (H : Heap) (locs : List Loc) (ls : Array Slot), f_X5_passMinute_L54 t_pail_saltGrams t_cream_water t_cream_sugar t_cream_fat z0 y1 y2 y4 y5 v_t_minutes v_t_heldMinutes v_t_firstHeld v_t_pail_ice v_t_pail_brine v_t_pail_cold v_t_cream_warm v_t_cream_layer v_t_cream_air v_t_cream_churned v_t_cream_scraped_total v_t_cream_scraped_grams v_t_crew_wearinesses v_t_stiffBehind = some R → va_P (dC, dI) vwCl (woX5_passMinute cI cZ a_t a_t_pail a_t_cream a_t_crew a_t_stiffBehind a_t_cream_scraped a_t_cream_scraped_grams a_t_crew_wearinesses v_t_minutes v_t_heldMinutes v_t_firstHeld v_t_pail_ice t_pail_saltGrams v_t_pail_brine v_t_pail_cold t_cream_water t_cream_sugar t_cream_fat v_t_cream_warm v_t_cream_layer v_t_cream_air v_t_cream_churned v_t_cream_scraped_total v_t_cream_scraped_grams v_t_crew_wearinesses v_t_stiffBehind) H → va_D (va_A (woX5_passMinute cI cZ a_t a_t_pail a_t_cream a_t_crew a_t_stiffBehind a_t_cream_scraped a_t_cream_scraped_grams a_t_crew_wearinesses t_minutes t_heldMinutes t_firstHeld t_pail_ice t_pail_saltGrams t_pail_brine t_pail_cold t_cream_water t_cream_sugar t_cream_fat t_cream_warm t_cream_layer t_cream_air t_cream_churned t_cream_scraped_total t_cream_scraped_grams t_crew_wearinesses t_stiffBehind) sz) (woX5_passMinute cI cZ a_t a_t_pail a_t_cream a_t_crew a_t_stiffBehind a_t_cream_scraped a_t_cream_scraped_grams a_t_crew_wearinesses v_t_minutes v_t_heldMinutes v_t_firstHeld v_t_pail_ice t_pail_saltGrams v_t_pail_brine v_t_pail_cold t_cream_water t_cream_sugar t_cream_fat v_t_cream_warm v_t_cream_layer v_t_cream_air v_t_cream_churned v_t_cream_scraped_total v_t_cream_scraped_grams v_t_crew_wearinesses v_t_stiffBehind) → va_S (va_A (woX5_passMinute cI cZ a_t a_t_pail a_t_cream a_t_crew a_t_stiffBehind a_t_cream_scraped a_t_cream_scraped_grams a_t_crew_wearinesses t_minutes t_heldMinutes t_firstHeld t_pail_ice t_pail_saltGrams t_pail_brine t_pail_cold t_cream_water t_cream_sugar t_cream_fat t_cream_warm t_cream_layer t_cream_air t_cream_churned t_cream_scraped_total t_cream_scraped_grams t_crew_wearinesses t_stiffBehind) sz) s.heap H locs → lv_has ls 9 [(0, .ref a_t), (1, .int y1), (2, .int y2), (4, .int y4), (5, .int y5)] → W p l e (headSpec wyX5_passMinute rmX5_passMinute).room s m ([Value.ref a_t, Value.int x1, Value.int x2, Value.int x3] : List Value).toArray below meth c H locs 0 0 (MQ below (POSTv (dC, dI) sz (woX5_passMinute cI cZ a_t a_t_pail a_t_cream a_t_crew a_t_stiffBehind a_t_cream_scraped a_t_cream_scraped_grams a_t_crew_wearinesses t_minutes t_heldMinutes t_firstHeld t_pail_ice t_pail_saltGrams t_pail_brine t_pail_cold t_cream_water t_cream_sugar t_cream_fat t_cream_warm t_cream_layer t_cream_air t_cream_churned t_cream_scraped_total t_cream_scraped_grams t_crew_wearinesses t_stiffBehind) (woX5_passMinute cI cZ a_t a_t_pail a_t_cream a_t_crew a_t_stiffBehind a_t_cream_scraped a_t_cream_scraped_grams a_t_crew_wearinesses R.1 R.2.1 R.2.2.1 R.2.2.2.1 t_pail_saltGrams R.2.2.2.2.1 R.2.2.2.2.2.1 t_cream_water t_cream_sugar t_cream_fat R.2.2.2.2.2.2.1 R.2.2.2.2.2.2.2.1 R.2.2.2.2.2.2.2.2.1 R.2.2.2.2.2.2.2.2.2.1 R.2.2.2.2.2.2.2.2.2.2.1 R.2.2.2.2.2.2.2.2.2.2.2.1 R.2.2.2.2.2.2.2.2.2.2.2.2.1 R.2.2.2.2.2.2.2.2.2.2.2.2.2)) ([Value.ref a_t, Value.int x1, Value.int x2, Value.int x3] : List Value).toArray s 0 0 (va_A (woX5_passMinute cI cZ a_t a_t_pail a_t_cream a_t_crew a_t_stiffBehind a_t_cream_scraped a_t_cream_scraped_grams a_t_crew_wearinesses t_minutes t_heldMinutes t_firstHeld t_pail_ice t_pail_saltGrams t_pail_brine t_pail_cold t_cream_water t_cream_sugar t_cream_fat t_cream_warm t_cream_layer t_cream_air t_cream_churned t_cream_scraped_total t_cream_scraped_grams t_crew_wearinesses t_stiffBehind) sz)) (F0 m 54 ls [.int z0]) := by
    intro  z0 y1 y2 y4 y5 v_t_minutes v_t_heldMinutes v_t_firstHeld v_t_pail_ice v_t_pail_brine v_t_pail_cold v_t_cream_warm v_t_cream_layer v_t_cream_air v_t_cream_churned v_t_cream_scraped_total v_t_cream_scraped_grams v_t_crew_wearinesses v_t_stiffBehind H locs ls hf hP hD hS hl
    unfold f_X5_passMinute_L54 at hf
    refine lv_istore (lv' := [(6, .int z0), (0, .ref a_t), (1, .int y1), (2, .int y2), (4, .int y4), (5, .int y5)]) hx hb dX5_passMinute_54 hl (by decide) rfl (fun ls hl => ?_)
    refine lv_iload hx hb dX5_passMinute_56 (lv_at hl 5 rfl) ?_
    refine lv_if_eq (tgt := 98) hx hb dX5_passMinute_58 (by decide) (fun c3 => ?_) (fun c3 => ?_)
    · have hf := (if_pos c3).symm.trans hf
      refine lv_iload hx hb dX5_passMinute_98 (lv_at hl 0 rfl) ?_
      refine lv_if_eq (tgt := 107) hx hb dX5_passMinute_100 (by decide) (fun c4 => ?_) (fun c4 => ?_)
      · have hf := (if_pos c4).symm.trans hf
        refine lv_iconst (v := 0) hx hb dX5_passMinute_107 (by decide) ?_
        exact L108  (0 : Int32) y1 y4 z0 v_t_minutes v_t_heldMinutes v_t_firstHeld v_t_pail_ice v_t_pail_brine v_t_pail_cold v_t_cream_warm v_t_cream_layer v_t_cream_air v_t_cream_churned v_t_cream_scraped_total v_t_cream_scraped_grams v_t_crew_wearinesses v_t_stiffBehind _ _ _ hf hP hD hS (lv_sub hl [1, 2, 4, 0] rfl)
      · have hf := (if_neg c4).symm.trans hf
        refine lv_iload_n hx hb dX5_passMinute_103 rfl (lv_at hl 3 rfl) ?_
        refine lv_goto (tgt := 108) hx hb dX5_passMinute_104 (by decide) ?_
        exact L108  y2 y1 y4 z0 v_t_minutes v_t_heldMinutes v_t_firstHeld v_t_pail_ice v_t_pail_brine v_t_pail_cold v_t_cream_warm v_t_cream_layer v_t_cream_air v_t_cream_churned v_t_cream_scraped_total v_t_cream_scraped_grams v_t_crew_wearinesses v_t_stiffBehind _ _ _ hf hP hD hS (lv_sub hl [1, 2, 4, 0] rfl)
    · have hf := (if_neg c3).symm.trans hf
      refine lv_iload hx hb dX5_passMinute_61 (lv_at hl 0 rfl) ?_
      refine lv_if_ne (tgt := 98) hx hb dX5_passMinute_63 (by decide) (fun c5 => ?_) (fun c5 => ?_)
      · have hf := (if_neg c5).symm.trans hf
        refine lv_iload hx hb dX5_passMinute_98 (lv_at hl 0 rfl) ?_
        refine lv_if_eq (tgt := 107) hx hb dX5_passMinute_100 (by decide) (fun c6 => ?_) (fun c6 => ?_)
        · have hf := (if_pos c6).symm.trans hf
          refine lv_iconst (v := 0) hx hb dX5_passMinute_107 (by decide) ?_
          exact L108  (0 : Int32) y1 y4 z0 v_t_minutes v_t_heldMinutes v_t_firstHeld v_t_pail_ice v_t_pail_brine v_t_pail_cold v_t_cream_warm v_t_cream_layer v_t_cream_air v_t_cream_churned v_t_cream_scraped_total v_t_cream_scraped_grams v_t_crew_wearinesses v_t_stiffBehind _ _ _ hf hP hD hS (lv_sub hl [1, 2, 4, 0] rfl)
        · have hf := (if_neg c6).symm.trans hf
          refine lv_iload_n hx hb dX5_passMinute_103 rfl (lv_at hl 3 rfl) ?_
          refine lv_goto (tgt := 108) hx hb dX5_passMinute_104 (by decide) ?_
          exact L108  y2 y1 y4 z0 v_t_minutes v_t_heldMinutes v_t_firstHeld v_t_pail_ice v_t_pail_brine v_t_pail_cold v_t_cream_warm v_t_cream_layer v_t_cream_air v_t_cream_churned v_t_cream_scraped_total v_t_cream_scraped_grams v_t_crew_wearinesses v_t_stiffBehind _ _ _ hf hP hD hS (lv_sub hl [1, 2, 4, 0] rfl)
      · have hf := (if_pos c5).symm.trans hf
        refine lv_aload_n hx hb dX5_passMinute_66 rfl (lv_at hl 1 rfl) ?_
        refine lv_aload_n hx hb dX5_passMinute_67 rfl (lv_at hl 1 rfl) ?_
        refine mg (ci := 5) 0 5 hx hb hG igX5 hown hP rfl rfl (by decide) (wd_1_208 hG.2.1) rfl rfl dX5_passMinute_68 ?_
        refine lv_if_ne (tgt := 81) hx hb dX5_passMinute_71 (by decide) (fun c7 => ?_) (fun c7 => ?_)
        · have hf := (if_neg c7).symm.trans hf
          refine lv_aload_n hx hb dX5_passMinute_81 rfl (lv_at hl 1 rfl) ?_
          refine mg (ci := 5) 0 6 hx hb hG igX5 hown hP rfl rfl (by decide) (wd_1_210 hG.2.1) rfl rfl dX5_passMinute_82 ?_
          exact L85  v_t_firstHeld y1 y2 y4 z0 v_t_minutes v_t_heldMinutes v_t_firstHeld v_t_pail_ice v_t_pail_brine v_t_pail_cold v_t_cream_warm v_t_cream_layer v_t_cream_air v_t_cream_churned v_t_cream_scraped_total v_t_cream_scraped_grams v_t_crew_wearinesses v_t_stiffBehind _ _ _ hf hP hD hS (lv_sub hl [1, 2, 3, 4, 0] rfl)
        · have hf := (if_pos c7).symm.trans hf
          refine lv_aload_n hx hb dX5_passMinute_74 rfl (lv_at hl 1 rfl) ?_
          refine mg (ci := 5) 0 4 hx hb hG igX5 hown hP rfl rfl (by decide) (wd_1_206 hG.2.1) rfl rfl dX5_passMinute_75 ?_
          refine lv_goto (tgt := 85) hx hb dX5_passMinute_78 (by decide) ?_
          exact L85  v_t_minutes y1 y2 y4 z0 v_t_minutes v_t_heldMinutes v_t_firstHeld v_t_pail_ice v_t_pail_brine v_t_pail_cold v_t_cream_warm v_t_cream_layer v_t_cream_air v_t_cream_churned v_t_cream_scraped_total v_t_cream_scraped_grams v_t_crew_wearinesses v_t_stiffBehind _ _ _ hf hP hD hS (lv_sub hl [1, 2, 3, 4, 0] rfl)
  have L23 : ∀ (z0 : Int32) (y1 : Int32) (y2 : Int32) (y3 : Int32) (y4 : Int32) (v_t_minutes : Int32) (v_t_heldMinutes : Int32) (v_t_firstHeld : Int32) (v_t_pail_ice : Int32) (v_t_pail_brine : Int32) (v_t_pail_cold : Int32) (v_t_cream_warm : Int32) (v_t_cream_layer : Int32) (v_t_cream_air : Int32) (v_t_cream_churned : Int32) (v_t_cream_scraped_total : Int32) (v_t_cream_scraped_grams : Nat → Int32) (v_t_crew_wearinesses : Nat → Int32) (v_t_stiffBehind : Nat → Int32) (H : Heap) (locs : List Loc) (ls : Array Slot), f_X5_passMinute_L23 t_pail_saltGrams t_cream_water t_cream_sugar t_cream_fat z0 y1 y2 y3 y4 v_t_minutes v_t_heldMinutes v_t_firstHeld v_t_pail_ice v_t_pail_brine v_t_pail_cold v_t_cream_warm v_t_cream_layer v_t_cream_air v_t_cream_churned v_t_cream_scraped_total v_t_cream_scraped_grams v_t_crew_wearinesses v_t_stiffBehind = some R → va_P (dC, dI) vwCl (woX5_passMinute cI cZ a_t a_t_pail a_t_cream a_t_crew a_t_stiffBehind a_t_cream_scraped a_t_cream_scraped_grams a_t_crew_wearinesses v_t_minutes v_t_heldMinutes v_t_firstHeld v_t_pail_ice t_pail_saltGrams v_t_pail_brine v_t_pail_cold t_cream_water t_cream_sugar t_cream_fat v_t_cream_warm v_t_cream_layer v_t_cream_air v_t_cream_churned v_t_cream_scraped_total v_t_cream_scraped_grams v_t_crew_wearinesses v_t_stiffBehind) H → va_D (va_A (woX5_passMinute cI cZ a_t a_t_pail a_t_cream a_t_crew a_t_stiffBehind a_t_cream_scraped a_t_cream_scraped_grams a_t_crew_wearinesses t_minutes t_heldMinutes t_firstHeld t_pail_ice t_pail_saltGrams t_pail_brine t_pail_cold t_cream_water t_cream_sugar t_cream_fat t_cream_warm t_cream_layer t_cream_air t_cream_churned t_cream_scraped_total t_cream_scraped_grams t_crew_wearinesses t_stiffBehind) sz) (woX5_passMinute cI cZ a_t a_t_pail a_t_cream a_t_crew a_t_stiffBehind a_t_cream_scraped a_t_cream_scraped_grams a_t_crew_wearinesses v_t_minutes v_t_heldMinutes v_t_firstHeld v_t_pail_ice t_pail_saltGrams v_t_pail_brine v_t_pail_cold t_cream_water t_cream_sugar t_cream_fat v_t_cream_warm v_t_cream_layer v_t_cream_air v_t_cream_churned v_t_cream_scraped_total v_t_cream_scraped_grams v_t_crew_wearinesses v_t_stiffBehind) → va_S (va_A (woX5_passMinute cI cZ a_t a_t_pail a_t_cream a_t_crew a_t_stiffBehind a_t_cream_scraped a_t_cream_scraped_grams a_t_crew_wearinesses t_minutes t_heldMinutes t_firstHeld t_pail_ice t_pail_saltGrams t_pail_brine t_pail_cold t_cream_water t_cream_sugar t_cream_fat t_cream_warm t_cream_layer t_cream_air t_cream_churned t_cream_scraped_total t_cream_scraped_grams t_crew_wearinesses t_stiffBehind) sz) s.heap H locs → lv_has ls 9 [(0, .ref a_t), (1, .int y1), (2, .int y2), (3, .int y3), (4, .int y4)] → W p l e (headSpec wyX5_passMinute rmX5_passMinute).room s m ([Value.ref a_t, Value.int x1, Value.int x2, Value.int x3] : List Value).toArray below meth c H locs 0 0 (MQ below (POSTv (dC, dI) sz (woX5_passMinute cI cZ a_t a_t_pail a_t_cream a_t_crew a_t_stiffBehind a_t_cream_scraped a_t_cream_scraped_grams a_t_crew_wearinesses t_minutes t_heldMinutes t_firstHeld t_pail_ice t_pail_saltGrams t_pail_brine t_pail_cold t_cream_water t_cream_sugar t_cream_fat t_cream_warm t_cream_layer t_cream_air t_cream_churned t_cream_scraped_total t_cream_scraped_grams t_crew_wearinesses t_stiffBehind) (woX5_passMinute cI cZ a_t a_t_pail a_t_cream a_t_crew a_t_stiffBehind a_t_cream_scraped a_t_cream_scraped_grams a_t_crew_wearinesses R.1 R.2.1 R.2.2.1 R.2.2.2.1 t_pail_saltGrams R.2.2.2.2.1 R.2.2.2.2.2.1 t_cream_water t_cream_sugar t_cream_fat R.2.2.2.2.2.2.1 R.2.2.2.2.2.2.2.1 R.2.2.2.2.2.2.2.2.1 R.2.2.2.2.2.2.2.2.2.1 R.2.2.2.2.2.2.2.2.2.2.1 R.2.2.2.2.2.2.2.2.2.2.2.1 R.2.2.2.2.2.2.2.2.2.2.2.2.1 R.2.2.2.2.2.2.2.2.2.2.2.2.2)) ([Value.ref a_t, Value.int x1, Value.int x2, Value.int x3] : List Value).toArray s 0 0 (va_A (woX5_passMinute cI cZ a_t a_t_pail a_t_cream a_t_crew a_t_stiffBehind a_t_cream_scraped a_t_cream_scraped_grams a_t_crew_wearinesses t_minutes t_heldMinutes t_firstHeld t_pail_ice t_pail_saltGrams t_pail_brine t_pail_cold t_cream_water t_cream_sugar t_cream_fat t_cream_warm t_cream_layer t_cream_air t_cream_churned t_cream_scraped_total t_cream_scraped_grams t_crew_wearinesses t_stiffBehind) sz)) (F0 m 23 ls [.int z0]) := by
    intro  z0 y1 y2 y3 y4 v_t_minutes v_t_heldMinutes v_t_firstHeld v_t_pail_ice v_t_pail_brine v_t_pail_cold v_t_cream_warm v_t_cream_layer v_t_cream_air v_t_cream_churned v_t_cream_scraped_total v_t_cream_scraped_grams v_t_crew_wearinesses v_t_stiffBehind H locs ls hf hP hD hS hl
    unfold f_X5_passMinute_L23 at hf
    refine lv_istore (lv' := [(5, .int z0), (0, .ref a_t), (1, .int y1), (2, .int y2), (3, .int y3), (4, .int y4)]) hx hb dX5_passMinute_23 hl (by decide) rfl (fun ls hl => ?_)
    refine lv_iload hx hb dX5_passMinute_25 (lv_at hl 0 rfl) ?_
    refine lv_if_eq (tgt := 53) hx hb dX5_passMinute_27 (by decide) (fun c8 => ?_) (fun c8 => ?_)
    · have hf := (if_pos c8).symm.trans hf
      refine lv_iconst (v := 0) hx hb dX5_passMinute_53 (by decide) ?_
      exact L54  (0 : Int32) y1 y2 y4 z0 v_t_minutes v_t_heldMinutes v_t_firstHeld v_t_pail_ice v_t_pail_brine v_t_pail_cold v_t_cream_warm v_t_cream_layer v_t_cream_air v_t_cream_churned v_t_cream_scraped_total v_t_cream_scraped_grams v_t_crew_wearinesses v_t_stiffBehind _ _ _ hf hP hD hS (lv_sub hl [1, 2, 3, 5, 0] rfl)
    · have hf := (if_neg c8).symm.trans hf
      refine lv_iload hx hb dX5_passMinute_30 (lv_at hl 5 rfl) ?_
      refine lv_iconst (v := 4) hx hb dX5_passMinute_32 (by decide) ?_
      refine lv_iload_n hx hb dX5_passMinute_33 rfl (lv_at hl 3 rfl) ?_
      refine lv_imul hx hb dX5_passMinute_34 ?_
      refine lv_iadd hx hb dX5_passMinute_35 ?_
      refine lv_iload_n hx hb dX5_passMinute_36 rfl (lv_at hl 4 rfl) ?_
      refine lv_aload_n hx hb dX5_passMinute_37 rfl (lv_at hl 1 rfl) ?_
      refine mg (ci := 5) 0 2 hx hb hG igX5 hown hP rfl rfl (by decide) (wd_1_202 hG.2.1) rfl rfl dX5_passMinute_38 ?_
      refine lv_iload_n hx hb dX5_passMinute_41 rfl (lv_at hl 2 rfl) ?_
      obtain ⟨r42, hc42, hf⟩ := bd1_some hf
      refine cl_Vi (r := r42) (b := a_t_crew) (As := [.int y1]) (w1 := (woX1_weariness cI cZ a_t_crew a_t_crew_wearinesses v_t_crew_wearinesses)) (wN := (woX5_passMinute cI cZ a_t a_t_pail a_t_cream a_t_crew a_t_stiffBehind a_t_cream_scraped a_t_cream_scraped_grams a_t_crew_wearinesses v_t_minutes v_t_heldMinutes v_t_firstHeld v_t_pail_ice t_pail_saltGrams v_t_pail_brine v_t_pail_cold t_cream_water t_cream_sugar t_cream_fat v_t_cream_warm v_t_cream_layer v_t_cream_air v_t_cream_churned v_t_cream_scraped_total v_t_cream_scraped_grams v_t_crew_wearinesses v_t_stiffBehind)) [5, 6] 5 1 (c_X1_weariness l dC dI cI cZ ts _ a_t_crew a_t_crew_wearinesses v_t_crew_wearinesses y1 (r42) hc42) ⟨hx, hb, hml, hown, hG.2.1.hts _⟩ ⟨callB_of 1 (hG.2.1.hts _) giX1_weariness rfl rfl rfl (wd_1_9 hG.2.1) (wd_2_159 hG.2.1) hd_X1_weariness ⟨Nat.le_of_ble_eq_true rfl, Nat.le_of_ble_eq_true rfl⟩, wd_2_160 hG.2.1, wd_2_161 hG.2.1⟩ hG hP hD hS rfl rfl rfl rfl rfl rfl rfl rfl hl.1 rfl (Nat.le_of_ble_eq_true rfl) dX5_passMinute_42 ⟨Nat.zero_le _, Nat.zero_le _⟩ (fun H locs hP hD hS => ?_)
      refine lv_isub hx hb dX5_passMinute_45 ?_
      refine lv_icmp_gt (tgt := 53) hx hb dX5_passMinute_46 (by decide) (fun c9 => ?_) (fun c9 => ?_)
      · have hf := (if_pos c9).symm.trans hf
        refine lv_iconst (v := 0) hx hb dX5_passMinute_53 (by decide) ?_
        exact L54  (0 : Int32) y1 y2 y4 z0 v_t_minutes v_t_heldMinutes v_t_firstHeld v_t_pail_ice v_t_pail_brine v_t_pail_cold v_t_cream_warm v_t_cream_layer v_t_cream_air v_t_cream_churned v_t_cream_scraped_total v_t_cream_scraped_grams v_t_crew_wearinesses v_t_stiffBehind _ _ _ hf hP hD hS (lv_sub hl [1, 2, 3, 5, 0] rfl)
      · have hf := (if_neg c9).symm.trans hf
        refine lv_iconst (v := 1) hx hb dX5_passMinute_49 (by decide) ?_
        refine lv_goto (tgt := 54) hx hb dX5_passMinute_50 (by decide) ?_
        exact L54  (1 : Int32) y1 y2 y4 z0 v_t_minutes v_t_heldMinutes v_t_firstHeld v_t_pail_ice v_t_pail_brine v_t_pail_cold v_t_cream_warm v_t_cream_layer v_t_cream_air v_t_cream_churned v_t_cream_scraped_total v_t_cream_scraped_grams v_t_crew_wearinesses v_t_stiffBehind _ _ _ hf hP hD hS (lv_sub hl [1, 2, 3, 5, 0] rfl)
  have hl := lv_entry ([.ref a_t, .int x1, .int x2, .int x3]) (n := 9) (Nat.le_of_ble_eq_true rfl)
  rw [lg_entry_eq]
  generalize (lg_sl ([.ref a_t, .int x1, .int x2, .int x3]) ++ List.replicate (9 - (lg_sl ([.ref a_t, .int x1, .int x2, .int x3])).length) Slot.unset).toArray = ls at hl ⊢
  have hl : lv_has ls 9 [(0, .ref a_t), (1, .int x1), (2, .int x2), (3, .int x3)] := hl
  unfold f_X5_passMinute at hf
  refine lv_aload_n hx hb dX5_passMinute_0 rfl (lv_at hl 0 rfl) ?_
  refine mg (ci := 5) 0 1 hx hb hG igX5 hown hP rfl rfl (by decide) (wd_1_200 hG.2.1) rfl rfl dX5_passMinute_1 ?_
  obtain ⟨r4, hc4, hf⟩ := bd1_some hf
  refine cl_Vi (r := r4) (b := a_t_cream) (As := []) (w1 := (woX0_stiff cI cZ a_t_cream a_t_cream_scraped a_t_cream_scraped_grams t_cream_water t_cream_sugar t_cream_fat t_cream_warm t_cream_layer t_cream_air t_cream_churned t_cream_scraped_total)) (wN := (woX5_passMinute cI cZ a_t a_t_pail a_t_cream a_t_crew a_t_stiffBehind a_t_cream_scraped a_t_cream_scraped_grams a_t_crew_wearinesses t_minutes t_heldMinutes t_firstHeld t_pail_ice t_pail_saltGrams t_pail_brine t_pail_cold t_cream_water t_cream_sugar t_cream_fat t_cream_warm t_cream_layer t_cream_air t_cream_churned t_cream_scraped_total t_cream_scraped_grams t_crew_wearinesses t_stiffBehind)) [2, 3] 2 0 (c_X0_stiff l dC dI cI cZ ts _ a_t_cream a_t_cream_scraped a_t_cream_scraped_grams t_cream_water t_cream_sugar t_cream_fat t_cream_warm t_cream_layer t_cream_air t_cream_churned t_cream_scraped_total (r4) hc4) ⟨hx, hb, hml, hown, hG.2.1.hts _⟩ ⟨callB_of 0 (hG.2.1.hts _) giX0_stiff rfl rfl rfl (wd_1_7 hG.2.1) (wd_2_154 hG.2.1) hd_X0_stiff ⟨Nat.le_of_ble_eq_true rfl, Nat.le_of_ble_eq_true rfl⟩, wd_2_155 hG.2.1, wd_2_156 hG.2.1⟩ hG hP hD hS rfl rfl rfl rfl rfl rfl rfl rfl hl.1 rfl (Nat.le_of_ble_eq_true rfl) dX5_passMinute_4 ⟨Nat.zero_le _, Nat.zero_le _⟩ (fun H locs hP hD hS => ?_)
  refine lv_istore (lv' := [(4, .int r4), (0, .ref a_t), (1, .int x1), (2, .int x2), (3, .int x3)]) hx hb dX5_passMinute_7 hl (by decide) rfl (fun ls hl => ?_)
  refine lv_iload_n hx hb dX5_passMinute_9 rfl (lv_at hl 2 rfl) ?_
  refine lv_iconst (v := 4) hx hb dX5_passMinute_10 (by decide) ?_
  refine lv_icmp_eq (tgt := 22) hx hb dX5_passMinute_11 (by decide) (fun c10 => ?_) (fun c10 => ?_)
  · have hf := (if_pos c10).symm.trans hf
    refine lv_iconst (v := 0) hx hb dX5_passMinute_22 (by decide) ?_
    exact L23  (0 : Int32) x1 x2 x3 r4 t_minutes t_heldMinutes t_firstHeld t_pail_ice t_pail_brine t_pail_cold t_cream_warm t_cream_layer t_cream_air t_cream_churned t_cream_scraped_total t_cream_scraped_grams t_crew_wearinesses t_stiffBehind _ _ _ hf hP hD hS (lv_sub hl [1, 2, 3, 4, 0] rfl)
  · have hf := (if_neg c10).symm.trans hf
    refine lv_iload_n hx hb dX5_passMinute_14 rfl (lv_at hl 3 rfl) ?_
    refine lv_if_le (tgt := 22) hx hb dX5_passMinute_15 (by decide) (fun c11 => ?_) (fun c11 => ?_)
    · have hf := (if_pos c11).symm.trans hf
      refine lv_iconst (v := 0) hx hb dX5_passMinute_22 (by decide) ?_
      exact L23  (0 : Int32) x1 x2 x3 r4 t_minutes t_heldMinutes t_firstHeld t_pail_ice t_pail_brine t_pail_cold t_cream_warm t_cream_layer t_cream_air t_cream_churned t_cream_scraped_total t_cream_scraped_grams t_crew_wearinesses t_stiffBehind _ _ _ hf hP hD hS (lv_sub hl [1, 2, 3, 4, 0] rfl)
    · have hf := (if_neg c11).symm.trans hf
      refine lv_iconst (v := 1) hx hb dX5_passMinute_18 (by decide) ?_
      refine lv_goto (tgt := 23) hx hb dX5_passMinute_19 (by decide) ?_
      exact L23  (1 : Int32) x1 x2 x3 r4 t_minutes t_heldMinutes t_firstHeld t_pail_ice t_pail_brine t_pail_cold t_cream_warm t_cream_layer t_cream_air t_cream_churned t_cream_scraped_total t_cream_scraped_grams t_crew_wearinesses t_stiffBehind _ _ _ hf hP hD hS (lv_sub hl [1, 2, 3, 4, 0] rfl)
abbrev woX5_go (cI cZ : ClassId) (a_t a_t_pail a_t_cream a_t_crew a_t_stiffBehind a_t_cream_scraped a_t_cream_scraped_grams a_t_crew_wearinesses a_o1 a_o1_numbers a_o1_strengths a_o1_steps a_o1_swings a_o1_steps_who a_o1_steps_amount a_o1_steps_length : Nat) (t_minutes : Int32) (t_heldMinutes : Int32) (t_firstHeld : Int32) (t_pail_ice : Int32) (t_pail_saltGrams : Int32) (t_pail_brine : Int32) (t_pail_cold : Int32) (t_cream_water : Int32) (t_cream_sugar : Int32) (t_cream_fat : Int32) (t_cream_warm : Int32) (t_cream_layer : Int32) (t_cream_air : Int32) (t_cream_churned : Int32) (t_cream_scraped_total : Int32) (t_cream_scraped_grams : Nat → Int32) (t_crew_wearinesses : Nat → Int32) (t_stiffBehind : Nat → Int32) (o1_holds : Int32) (o1_numbers : Nat → Int32) (o1_strengths : Nat → Int32) (o1_steps_parts : Int32) (o1_steps_minutes : Int32) (o1_steps_who : Nat → Int32) (o1_steps_amount : Nat → Int32) (o1_steps_length : Nat → Int32) : va_W := [(a_t, .inr (5, [.ref a_t_pail, .ref a_t_cream, .ref a_t_crew, .ref a_t_stiffBehind, .int t_minutes, .int t_heldMinutes, .int t_firstHeld])), (a_t_pail, .inr (3, [.int t_pail_ice, .int t_pail_saltGrams, .int t_pail_brine, .int t_pail_cold])), (a_t_cream, .inr (0, [.int t_cream_water, .int t_cream_sugar, .int t_cream_fat, .int t_cream_warm, .int t_cream_layer, .int t_cream_air, .int t_cream_churned, .ref a_t_cream_scraped])), (a_t_cream_scraped, .inr (2, [.ref a_t_cream_scraped_grams, .int t_cream_scraped_total])), (a_t_cream_scraped_grams, .inl (cI, 64, .inl t_cream_scraped_grams)), (a_t_crew, .inr (1, [.ref a_t_crew_wearinesses])), (a_t_crew_wearinesses, .inl (cI, 4, .inl t_crew_wearinesses)), (a_t_stiffBehind, .inl (cI, 117, .inl t_stiffBehind)), (a_o1, .inr (4, [.int o1_holds, .ref a_o1_numbers, .ref a_o1_strengths, .ref a_o1_steps, .ref a_o1_swings])), (a_o1_numbers, .inl (cI, 8, .inl o1_numbers)), (a_o1_strengths, .inl (cI, 4, .inl o1_strengths)), (a_o1_steps, .inr (7, [.ref a_o1_steps_who, .ref a_o1_steps_amount, .ref a_o1_steps_length, .int o1_steps_parts, .int o1_steps_minutes])), (a_o1_steps_who, .inl (cI, 20, .inl o1_steps_who)), (a_o1_steps_amount, .inl (cI, 20, .inl o1_steps_amount)), (a_o1_steps_length, .inl (cI, 20, .inl o1_steps_length))]
abbrev rmX5_go : Room := { frames := 4, cells := 0, slots := 0, locals := 94 }
theorem hd_X5_go : yX5_go.cls ≠ "java/lang/invoke/MethodHandle" ∧ yX5_go.cls ≠ "java/lang/invoke/VarHandle" ∧ (parseMethodDescriptor yX5_go.desc).map (fun d => d.parameters.length) = some 5 := by decide +kernel
set_option maxHeartbeats 4000000 in
set_option maxRecDepth 100000 in
theorem c_X5_go (l : Launch) (dC : Nat → ClassId) (dI : Nat → Nat → Nat) (cI cZ : ClassId) (ts : Nat → Nat) (sz : Nat) (a_t a_t_pail a_t_cream a_t_crew a_t_stiffBehind a_t_cream_scraped a_t_cream_scraped_grams a_t_crew_wearinesses a_o1 a_o1_numbers a_o1_strengths a_o1_steps a_o1_swings a_o1_steps_who a_o1_steps_amount a_o1_steps_length : Nat) (t_minutes : Int32) (t_heldMinutes : Int32) (t_firstHeld : Int32) (t_pail_ice : Int32) (t_pail_saltGrams : Int32) (t_pail_brine : Int32) (t_pail_cold : Int32) (t_cream_water : Int32) (t_cream_sugar : Int32) (t_cream_fat : Int32) (t_cream_warm : Int32) (t_cream_layer : Int32) (t_cream_air : Int32) (t_cream_churned : Int32) (t_cream_scraped_total : Int32) (t_cream_scraped_grams : Nat → Int32) (t_crew_wearinesses : Nat → Int32) (t_stiffBehind : Nat → Int32) (o1_holds : Int32) (o1_numbers : Nat → Int32) (o1_strengths : Nat → Int32) (o1_steps_parts : Int32) (o1_steps_minutes : Int32) (o1_steps_who : Nat → Int32) (o1_steps_amount : Nat → Int32) (o1_steps_length : Nat → Int32) (x2 : Int32) (x3 : Int32) (x4 : Int32) (x5 : Int32) (R : Int32 × Int32 × Int32 × Int32 × Int32 × Int32 × Int32 × Int32 × Int32 × Int32 × Int32 × Int32 × Int32 × Int32 × Int32 × (Nat → Int32) × (Nat → Int32) × (Nat → Int32)) (hf : f_X5_go t_minutes t_heldMinutes t_firstHeld t_pail_ice t_pail_saltGrams t_pail_brine t_pail_cold t_cream_water t_cream_sugar t_cream_fat t_cream_warm t_cream_layer t_cream_air t_cream_churned t_cream_scraped_total t_cream_scraped_grams t_crew_wearinesses t_stiffBehind o1_numbers o1_strengths o1_steps_parts o1_steps_minutes o1_steps_who o1_steps_amount o1_steps_length x2 x3 x4 x5 = some R) : Met l yX5_go wyX5_go rmX5_go (PRE (dC, dI) cI cZ ts [.ref a_t, .ref a_o1, .int x2, .int x3, .int x4, .int x5] sz (woX5_go cI cZ a_t a_t_pail a_t_cream a_t_crew a_t_stiffBehind a_t_cream_scraped a_t_cream_scraped_grams a_t_crew_wearinesses a_o1 a_o1_numbers a_o1_strengths a_o1_steps a_o1_swings a_o1_steps_who a_o1_steps_amount a_o1_steps_length t_minutes t_heldMinutes t_firstHeld t_pail_ice t_pail_saltGrams t_pail_brine t_pail_cold t_cream_water t_cream_sugar t_cream_fat t_cream_warm t_cream_layer t_cream_air t_cream_churned t_cream_scraped_total t_cream_scraped_grams t_crew_wearinesses t_stiffBehind o1_holds o1_numbers o1_strengths o1_steps_parts o1_steps_minutes o1_steps_who o1_steps_amount o1_steps_length)) (POSTv (dC, dI) sz (woX5_go cI cZ a_t a_t_pail a_t_cream a_t_crew a_t_stiffBehind a_t_cream_scraped a_t_cream_scraped_grams a_t_crew_wearinesses a_o1 a_o1_numbers a_o1_strengths a_o1_steps a_o1_swings a_o1_steps_who a_o1_steps_amount a_o1_steps_length t_minutes t_heldMinutes t_firstHeld t_pail_ice t_pail_saltGrams t_pail_brine t_pail_cold t_cream_water t_cream_sugar t_cream_fat t_cream_warm t_cream_layer t_cream_air t_cream_churned t_cream_scraped_total t_cream_scraped_grams t_crew_wearinesses t_stiffBehind o1_holds o1_numbers o1_strengths o1_steps_parts o1_steps_minutes o1_steps_who o1_steps_amount o1_steps_length) (woX5_go cI cZ a_t a_t_pail a_t_cream a_t_crew a_t_stiffBehind a_t_cream_scraped a_t_cream_scraped_grams a_t_crew_wearinesses a_o1 a_o1_numbers a_o1_strengths a_o1_steps a_o1_swings a_o1_steps_who a_o1_steps_amount a_o1_steps_length R.1 R.2.1 R.2.2.1 R.2.2.2.1 R.2.2.2.2.1 R.2.2.2.2.2.1 R.2.2.2.2.2.2.1 R.2.2.2.2.2.2.2.1 R.2.2.2.2.2.2.2.2.1 R.2.2.2.2.2.2.2.2.2.1 R.2.2.2.2.2.2.2.2.2.2.1 R.2.2.2.2.2.2.2.2.2.2.2.1 R.2.2.2.2.2.2.2.2.2.2.2.2.1 R.2.2.2.2.2.2.2.2.2.2.2.2.2.1 R.2.2.2.2.2.2.2.2.2.2.2.2.2.2.1 R.2.2.2.2.2.2.2.2.2.2.2.2.2.2.2.1 R.2.2.2.2.2.2.2.2.2.2.2.2.2.2.2.2.1 R.2.2.2.2.2.2.2.2.2.2.2.2.2.2.2.2.2 o1_holds o1_numbers o1_strengths o1_steps_parts o1_steps_minutes o1_steps_who o1_steps_amount o1_steps_length)) 0 0 (va_A (woX5_go cI cZ a_t a_t_pail a_t_cream a_t_crew a_t_stiffBehind a_t_cream_scraped a_t_cream_scraped_grams a_t_crew_wearinesses a_o1 a_o1_numbers a_o1_strengths a_o1_steps a_o1_swings a_o1_steps_who a_o1_steps_amount a_o1_steps_length t_minutes t_heldMinutes t_firstHeld t_pail_ice t_pail_saltGrams t_pail_brine t_pail_cold t_cream_water t_cream_sugar t_cream_fat t_cream_warm t_cream_layer t_cream_air t_cream_churned t_cream_scraped_total t_cream_scraped_grams t_crew_wearinesses t_stiffBehind o1_holds o1_numbers o1_strengths o1_steps_parts o1_steps_minutes o1_steps_who o1_steps_amount o1_steps_length) sz) := by
  refine Met.ofW (cc := cX5_go) (maxL := 14) (ret := none) (by decide) rfl ?_
  intro p e s m args below meth c s₁ B hml hv
  obtain ⟨rfl, hv⟩ := hv
  have hG := hg_of hv
  obtain ⟨hsz, hP, -, hD0, -⟩ := hv
  have hx := B.exec
  have hb := B.bytes
  have hr := B.returns
  have hlk := B.notSynchronized
  have hown : s.vm.findClass RX5 = some m.cls := findClass_of_methodNamed B.named
  have hD := hD0.self (sz := sz)
  have hS : va_S (va_A (woX5_go cI cZ a_t a_t_pail a_t_cream a_t_crew a_t_stiffBehind a_t_cream_scraped a_t_cream_scraped_grams a_t_crew_wearinesses a_o1 a_o1_numbers a_o1_strengths a_o1_steps a_o1_swings a_o1_steps_who a_o1_steps_amount a_o1_steps_length t_minutes t_heldMinutes t_firstHeld t_pail_ice t_pail_saltGrams t_pail_brine t_pail_cold t_cream_water t_cream_sugar t_cream_fat t_cream_warm t_cream_layer t_cream_air t_cream_churned t_cream_scraped_total t_cream_scraped_grams t_crew_wearinesses t_stiffBehind o1_holds o1_numbers o1_strengths o1_steps_parts o1_steps_minutes o1_steps_who o1_steps_amount o1_steps_length) sz) s.heap s.heap [] := va_S.rf
  have L77 : ∀ (rc15 : Int32 → Int32 → Int32 → Int32 → Int32 → Int32 → Int32 → Int32 → Int32 → Int32 → Int32 → Int32 → Int32 → Int32 → Int32 → Int32 → Int32 → Int32 → Int32 → (Nat → Int32) → (Nat → Int32) → (Nat → Int32) → Option (Int32 × Int32 × Int32 × Int32 × Int32 × Int32 × Int32 × Int32 × Int32 × Int32 × Int32 × Int32 × Int32 × Int32 × Int32 × (Nat → Int32) × (Nat → Int32) × (Nat → Int32))), (∀ (y2 : Int32) (y4 : Int32) (y5 : Int32) (y7 : Int32) (v_t_minutes : Int32) (v_t_heldMinutes : Int32) (v_t_firstHeld : Int32) (v_t_pail_ice : Int32) (v_t_pail_saltGrams : Int32) (v_t_pail_brine : Int32) (v_t_pail_cold : Int32) (v_t_cream_water : Int32) (v_t_cream_sugar : Int32) (v_t_cream_fat : Int32) (v_t_cream_warm : Int32) (v_t_cream_layer : Int32) (v_t_cream_air : Int32) (v_t_cream_churned : Int32) (v_t_cream_scraped_total : Int32) (v_t_cream_scraped_grams : Nat → Int32) (v_t_crew_wearinesses : Nat → Int32) (v_t_stiffBehind : Nat → Int32) (H : Heap) (locs : List Loc) (ls : Array Slot), rc15 y2 y4 y5 y7 v_t_minutes v_t_heldMinutes v_t_firstHeld v_t_pail_ice v_t_pail_saltGrams v_t_pail_brine v_t_pail_cold v_t_cream_water v_t_cream_sugar v_t_cream_fat v_t_cream_warm v_t_cream_layer v_t_cream_air v_t_cream_churned v_t_cream_scraped_total v_t_cream_scraped_grams v_t_crew_wearinesses v_t_stiffBehind = some R → va_P (dC, dI) vwCl (woX5_go cI cZ a_t a_t_pail a_t_cream a_t_crew a_t_stiffBehind a_t_cream_scraped a_t_cream_scraped_grams a_t_crew_wearinesses a_o1 a_o1_numbers a_o1_strengths a_o1_steps a_o1_swings a_o1_steps_who a_o1_steps_amount a_o1_steps_length v_t_minutes v_t_heldMinutes v_t_firstHeld v_t_pail_ice v_t_pail_saltGrams v_t_pail_brine v_t_pail_cold v_t_cream_water v_t_cream_sugar v_t_cream_fat v_t_cream_warm v_t_cream_layer v_t_cream_air v_t_cream_churned v_t_cream_scraped_total v_t_cream_scraped_grams v_t_crew_wearinesses v_t_stiffBehind o1_holds o1_numbers o1_strengths o1_steps_parts o1_steps_minutes o1_steps_who o1_steps_amount o1_steps_length) H → va_D (va_A (woX5_go cI cZ a_t a_t_pail a_t_cream a_t_crew a_t_stiffBehind a_t_cream_scraped a_t_cream_scraped_grams a_t_crew_wearinesses a_o1 a_o1_numbers a_o1_strengths a_o1_steps a_o1_swings a_o1_steps_who a_o1_steps_amount a_o1_steps_length t_minutes t_heldMinutes t_firstHeld t_pail_ice t_pail_saltGrams t_pail_brine t_pail_cold t_cream_water t_cream_sugar t_cream_fat t_cream_warm t_cream_layer t_cream_air t_cream_churned t_cream_scraped_total t_cream_scraped_grams t_crew_wearinesses t_stiffBehind o1_holds o1_numbers o1_strengths o1_steps_parts o1_steps_minutes o1_steps_who o1_steps_amount o1_steps_length) sz) (woX5_go cI cZ a_t a_t_pail a_t_cream a_t_crew a_t_stiffBehind a_t_cream_scraped a_t_cream_scraped_grams a_t_crew_wearinesses a_o1 a_o1_numbers a_o1_strengths a_o1_steps a_o1_swings a_o1_steps_who a_o1_steps_amount a_o1_steps_length v_t_minutes v_t_heldMinutes v_t_firstHeld v_t_pail_ice v_t_pail_saltGrams v_t_pail_brine v_t_pail_cold v_t_cream_water v_t_cream_sugar v_t_cream_fat v_t_cream_warm v_t_cream_layer v_t_cream_air v_t_cream_churned v_t_cream_scraped_total v_t_cream_scraped_grams v_t_crew_wearinesses v_t_stiffBehind o1_holds o1_numbers o1_strengths o1_steps_parts o1_steps_minutes o1_steps_who o1_steps_amount o1_steps_length) → va_S (va_A (woX5_go cI cZ a_t a_t_pail a_t_cream a_t_crew a_t_stiffBehind a_t_cream_scraped a_t_cream_scraped_grams a_t_crew_wearinesses a_o1 a_o1_numbers a_o1_strengths a_o1_steps a_o1_swings a_o1_steps_who a_o1_steps_amount a_o1_steps_length t_minutes t_heldMinutes t_firstHeld t_pail_ice t_pail_saltGrams t_pail_brine t_pail_cold t_cream_water t_cream_sugar t_cream_fat t_cream_warm t_cream_layer t_cream_air t_cream_churned t_cream_scraped_total t_cream_scraped_grams t_crew_wearinesses t_stiffBehind o1_holds o1_numbers o1_strengths o1_steps_parts o1_steps_minutes o1_steps_who o1_steps_amount o1_steps_length) sz) s.heap H locs → lv_has ls 14 [(0, .ref a_t), (1, .ref a_o1), (2, .int y2), (4, .int y4), (5, .int y5), (6, .ref a_o1_steps), (7, .int y7)] → W p l e (headSpec wyX5_go rmX5_go).room s m ([Value.ref a_t, Value.ref a_o1, Value.int x2, Value.int x3, Value.int x4, Value.int x5] : List Value).toArray below meth c H locs 0 0 (MQ below (POSTv (dC, dI) sz (woX5_go cI cZ a_t a_t_pail a_t_cream a_t_crew a_t_stiffBehind a_t_cream_scraped a_t_cream_scraped_grams a_t_crew_wearinesses a_o1 a_o1_numbers a_o1_strengths a_o1_steps a_o1_swings a_o1_steps_who a_o1_steps_amount a_o1_steps_length t_minutes t_heldMinutes t_firstHeld t_pail_ice t_pail_saltGrams t_pail_brine t_pail_cold t_cream_water t_cream_sugar t_cream_fat t_cream_warm t_cream_layer t_cream_air t_cream_churned t_cream_scraped_total t_cream_scraped_grams t_crew_wearinesses t_stiffBehind o1_holds o1_numbers o1_strengths o1_steps_parts o1_steps_minutes o1_steps_who o1_steps_amount o1_steps_length) (woX5_go cI cZ a_t a_t_pail a_t_cream a_t_crew a_t_stiffBehind a_t_cream_scraped a_t_cream_scraped_grams a_t_crew_wearinesses a_o1 a_o1_numbers a_o1_strengths a_o1_steps a_o1_swings a_o1_steps_who a_o1_steps_amount a_o1_steps_length R.1 R.2.1 R.2.2.1 R.2.2.2.1 R.2.2.2.2.1 R.2.2.2.2.2.1 R.2.2.2.2.2.2.1 R.2.2.2.2.2.2.2.1 R.2.2.2.2.2.2.2.2.1 R.2.2.2.2.2.2.2.2.2.1 R.2.2.2.2.2.2.2.2.2.2.1 R.2.2.2.2.2.2.2.2.2.2.2.1 R.2.2.2.2.2.2.2.2.2.2.2.2.1 R.2.2.2.2.2.2.2.2.2.2.2.2.2.1 R.2.2.2.2.2.2.2.2.2.2.2.2.2.2.1 R.2.2.2.2.2.2.2.2.2.2.2.2.2.2.2.1 R.2.2.2.2.2.2.2.2.2.2.2.2.2.2.2.2.1 R.2.2.2.2.2.2.2.2.2.2.2.2.2.2.2.2.2 o1_holds o1_numbers o1_strengths o1_steps_parts o1_steps_minutes o1_steps_who o1_steps_amount o1_steps_length)) ([Value.ref a_t, Value.ref a_o1, Value.int x2, Value.int x3, Value.int x4, Value.int x5] : List Value).toArray s 0 0 (va_A (woX5_go cI cZ a_t a_t_pail a_t_cream a_t_crew a_t_stiffBehind a_t_cream_scraped a_t_cream_scraped_grams a_t_crew_wearinesses a_o1 a_o1_numbers a_o1_strengths a_o1_steps a_o1_swings a_o1_steps_who a_o1_steps_amount a_o1_steps_length t_minutes t_heldMinutes t_firstHeld t_pail_ice t_pail_saltGrams t_pail_brine t_pail_cold t_cream_water t_cream_sugar t_cream_fat t_cream_warm t_cream_layer t_cream_air t_cream_churned t_cream_scraped_total t_cream_scraped_grams t_crew_wearinesses t_stiffBehind o1_holds o1_numbers o1_strengths o1_steps_parts o1_steps_minutes o1_steps_who o1_steps_amount o1_steps_length) sz)) (F0 m 15 ls [])) → ∀ (z0 : Int32) (y2 : Int32) (y4 : Int32) (y5 : Int32) (y7 : Int32) (y9 : Int32) (v_t_minutes : Int32) (v_t_heldMinutes : Int32) (v_t_firstHeld : Int32) (v_t_pail_ice : Int32) (v_t_pail_saltGrams : Int32) (v_t_pail_brine : Int32) (v_t_pail_cold : Int32) (v_t_cream_water : Int32) (v_t_cream_sugar : Int32) (v_t_cream_fat : Int32) (v_t_cream_warm : Int32) (v_t_cream_layer : Int32) (v_t_cream_air : Int32) (v_t_cream_churned : Int32) (v_t_cream_scraped_total : Int32) (v_t_cream_scraped_grams : Nat → Int32) (v_t_crew_wearinesses : Nat → Int32) (v_t_stiffBehind : Nat → Int32) (H : Heap) (locs : List Loc) (ls : Array Slot), f_X5_go_L77 rc15 o1_numbers o1_strengths o1_steps_parts o1_steps_minutes o1_steps_who o1_steps_amount o1_steps_length z0 y2 y4 y5 y7 y9 v_t_minutes v_t_heldMinutes v_t_firstHeld v_t_pail_ice v_t_pail_saltGrams v_t_pail_brine v_t_pail_cold v_t_cream_water v_t_cream_sugar v_t_cream_fat v_t_cream_warm v_t_cream_layer v_t_cream_air v_t_cream_churned v_t_cream_scraped_total v_t_cream_scraped_grams v_t_crew_wearinesses v_t_stiffBehind = some R → va_P (dC, dI) vwCl (woX5_go cI cZ a_t a_t_pail a_t_cream a_t_crew a_t_stiffBehind a_t_cream_scraped a_t_cream_scraped_grams a_t_crew_wearinesses a_o1 a_o1_numbers a_o1_strengths a_o1_steps a_o1_swings a_o1_steps_who a_o1_steps_amount a_o1_steps_length v_t_minutes v_t_heldMinutes v_t_firstHeld v_t_pail_ice v_t_pail_saltGrams v_t_pail_brine v_t_pail_cold v_t_cream_water v_t_cream_sugar v_t_cream_fat v_t_cream_warm v_t_cream_layer v_t_cream_air v_t_cream_churned v_t_cream_scraped_total v_t_cream_scraped_grams v_t_crew_wearinesses v_t_stiffBehind o1_holds o1_numbers o1_strengths o1_steps_parts o1_steps_minutes o1_steps_who o1_steps_amount o1_steps_length) H → va_D (va_A (woX5_go cI cZ a_t a_t_pail a_t_cream a_t_crew a_t_stiffBehind a_t_cream_scraped a_t_cream_scraped_grams a_t_crew_wearinesses a_o1 a_o1_numbers a_o1_strengths a_o1_steps a_o1_swings a_o1_steps_who a_o1_steps_amount a_o1_steps_length t_minutes t_heldMinutes t_firstHeld t_pail_ice t_pail_saltGrams t_pail_brine t_pail_cold t_cream_water t_cream_sugar t_cream_fat t_cream_warm t_cream_layer t_cream_air t_cream_churned t_cream_scraped_total t_cream_scraped_grams t_crew_wearinesses t_stiffBehind o1_holds o1_numbers o1_strengths o1_steps_parts o1_steps_minutes o1_steps_who o1_steps_amount o1_steps_length) sz) (woX5_go cI cZ a_t a_t_pail a_t_cream a_t_crew a_t_stiffBehind a_t_cream_scraped a_t_cream_scraped_grams a_t_crew_wearinesses a_o1 a_o1_numbers a_o1_strengths a_o1_steps a_o1_swings a_o1_steps_who a_o1_steps_amount a_o1_steps_length v_t_minutes v_t_heldMinutes v_t_firstHeld v_t_pail_ice v_t_pail_saltGrams v_t_pail_brine v_t_pail_cold v_t_cream_water v_t_cream_sugar v_t_cream_fat v_t_cream_warm v_t_cream_layer v_t_cream_air v_t_cream_churned v_t_cream_scraped_total v_t_cream_scraped_grams v_t_crew_wearinesses v_t_stiffBehind o1_holds o1_numbers o1_strengths o1_steps_parts o1_steps_minutes o1_steps_who o1_steps_amount o1_steps_length) → va_S (va_A (woX5_go cI cZ a_t a_t_pail a_t_cream a_t_crew a_t_stiffBehind a_t_cream_scraped a_t_cream_scraped_grams a_t_crew_wearinesses a_o1 a_o1_numbers a_o1_strengths a_o1_steps a_o1_swings a_o1_steps_who a_o1_steps_amount a_o1_steps_length t_minutes t_heldMinutes t_firstHeld t_pail_ice t_pail_saltGrams t_pail_brine t_pail_cold t_cream_water t_cream_sugar t_cream_fat t_cream_warm t_cream_layer t_cream_air t_cream_churned t_cream_scraped_total t_cream_scraped_grams t_crew_wearinesses t_stiffBehind o1_holds o1_numbers o1_strengths o1_steps_parts o1_steps_minutes o1_steps_who o1_steps_amount o1_steps_length) sz) s.heap H locs → lv_has ls 14 [(0, .ref a_t), (1, .ref a_o1), (2, .int y2), (4, .int y4), (5, .int y5), (6, .ref a_o1_steps), (7, .int y7), (9, .int y9)] → W p l e (headSpec wyX5_go rmX5_go).room s m ([Value.ref a_t, Value.ref a_o1, Value.int x2, Value.int x3, Value.int x4, Value.int x5] : List Value).toArray below meth c H locs 0 0 (MQ below (POSTv (dC, dI) sz (woX5_go cI cZ a_t a_t_pail a_t_cream a_t_crew a_t_stiffBehind a_t_cream_scraped a_t_cream_scraped_grams a_t_crew_wearinesses a_o1 a_o1_numbers a_o1_strengths a_o1_steps a_o1_swings a_o1_steps_who a_o1_steps_amount a_o1_steps_length t_minutes t_heldMinutes t_firstHeld t_pail_ice t_pail_saltGrams t_pail_brine t_pail_cold t_cream_water t_cream_sugar t_cream_fat t_cream_warm t_cream_layer t_cream_air t_cream_churned t_cream_scraped_total t_cream_scraped_grams t_crew_wearinesses t_stiffBehind o1_holds o1_numbers o1_strengths o1_steps_parts o1_steps_minutes o1_steps_who o1_steps_amount o1_steps_length) (woX5_go cI cZ a_t a_t_pail a_t_cream a_t_crew a_t_stiffBehind a_t_cream_scraped a_t_cream_scraped_grams a_t_crew_wearinesses a_o1 a_o1_numbers a_o1_strengths a_o1_steps a_o1_swings a_o1_steps_who a_o1_steps_amount a_o1_steps_length R.1 R.2.1 R.2.2.1 R.2.2.2.1 R.2.2.2.2.1 R.2.2.2.2.2.1 R.2.2.2.2.2.2.1 R.2.2.2.2.2.2.2.1 R.2.2.2.2.2.2.2.2.1 R.2.2.2.2.2.2.2.2.2.1 R.2.2.2.2.2.2.2.2.2.2.1 R.2.2.2.2.2.2.2.2.2.2.2.1 R.2.2.2.2.2.2.2.2.2.2.2.2.1 R.2.2.2.2.2.2.2.2.2.2.2.2.2.1 R.2.2.2.2.2.2.2.2.2.2.2.2.2.2.1 R.2.2.2.2.2.2.2.2.2.2.2.2.2.2.2.1 R.2.2.2.2.2.2.2.2.2.2.2.2.2.2.2.2.1 R.2.2.2.2.2.2.2.2.2.2.2.2.2.2.2.2.2 o1_holds o1_numbers o1_strengths o1_steps_parts o1_steps_minutes o1_steps_who o1_steps_amount o1_steps_length)) ([Value.ref a_t, Value.ref a_o1, Value.int x2, Value.int x3, Value.int x4, Value.int x5] : List Value).toArray s 0 0 (va_A (woX5_go cI cZ a_t a_t_pail a_t_cream a_t_crew a_t_stiffBehind a_t_cream_scraped a_t_cream_scraped_grams a_t_crew_wearinesses a_o1 a_o1_numbers a_o1_strengths a_o1_steps a_o1_swings a_o1_steps_who a_o1_steps_amount a_o1_steps_length t_minutes t_heldMinutes t_firstHeld t_pail_ice t_pail_saltGrams t_pail_brine t_pail_cold t_cream_water t_cream_sugar t_cream_fat t_cream_warm t_cream_layer t_cream_air t_cream_churned t_cream_scraped_total t_cream_scraped_grams t_crew_wearinesses t_stiffBehind o1_holds o1_numbers o1_strengths o1_steps_parts o1_steps_minutes o1_steps_who o1_steps_amount o1_steps_length) sz)) (F0 m 77 ls [.int z0]) := by
    intro rc15 hrc15 z0 y2 y4 y5 y7 y9 v_t_minutes v_t_heldMinutes v_t_firstHeld v_t_pail_ice v_t_pail_saltGrams v_t_pail_brine v_t_pail_cold v_t_cream_water v_t_cream_sugar v_t_cream_fat v_t_cream_warm v_t_cream_layer v_t_cream_air v_t_cream_churned v_t_cream_scraped_total v_t_cream_scraped_grams v_t_crew_wearinesses v_t_stiffBehind H locs ls hf hP hD hS hl
    unfold f_X5_go_L77 at hf
    refine lv_istore (lv' := [(10, .int z0), (0, .ref a_t), (1, .ref a_o1), (2, .int y2), (4, .int y4), (5, .int y5), (6, .ref a_o1_steps), (7, .int y7), (9, .int y9)]) hx hb dX5_go_77 hl (by decide) rfl (fun ls hl => ?_)
    refine lv_aload_n hx hb dX5_go_79 rfl (lv_at hl 1 rfl) ?_
    refine mg (ci := 5) 0 0 hx hb hG igX5 hown hP rfl rfl (by decide) (wd_1_199 hG.2.1) rfl rfl dX5_go_80 ?_
    refine lv_dup hx hb dX5_go_83 rfl ?_
    refine mgN (ci := 3) 1 1 hx hb hG igX3 hown hP rfl rfl (by decide) (wd_1_122 hG.2.1) rfl rfl dX5_go_84 ?_
    refine lv_iload hx hb dX5_go_87 (lv_at hl 0 rfl) ?_
    refine lv_if_eq (tgt := 100) hx hb dX5_go_89 (by decide) (fun c1 => ?_) (fun c1 => ?_)
    · have hf := (if_pos c1).symm.trans hf
      refine lv_iconst (v := 0) hx hb dX5_go_100 (by decide) ?_
      refine lv_iadd hx hb dX5_go_101 ?_
      refine mpN (ci := 3) (wN := (woX5_go cI cZ a_t a_t_pail a_t_cream a_t_crew a_t_stiffBehind a_t_cream_scraped a_t_cream_scraped_grams a_t_crew_wearinesses a_o1 a_o1_numbers a_o1_strengths a_o1_steps a_o1_swings a_o1_steps_who a_o1_steps_amount a_o1_steps_length v_t_minutes v_t_heldMinutes v_t_firstHeld v_t_pail_ice (v_t_pail_saltGrams + (0 : Int32)) v_t_pail_brine v_t_pail_cold v_t_cream_water v_t_cream_sugar v_t_cream_fat v_t_cream_warm v_t_cream_layer v_t_cream_air v_t_cream_churned v_t_cream_scraped_total v_t_cream_scraped_grams v_t_crew_wearinesses v_t_stiffBehind o1_holds o1_numbers o1_strengths o1_steps_parts o1_steps_minutes o1_steps_who o1_steps_amount o1_steps_length)) 1 1 hx hb hG igX3 tyX3 tyX3_ok nmX3 hown hP hD hS rfl rfl (by decide) (wd_1_122 hG.2.1) rfl rfl rfl rfl rfl (Nat.le_of_ble_eq_true rfl) rfl dX5_go_102 (fun H locs hP hD hS => ?_)
      refine lv_goto (tgt := 200) hx hb dX5_go_105 (by decide) ?_
      refine lv_iinc (v := (y7 + (1 : Int32))) (lv' := [(7, .int (y7 + (1 : Int32))), (10, .int z0), (0, .ref a_t), (1, .ref a_o1), (2, .int y2), (4, .int y4), (5, .int y5), (6, .ref a_o1_steps), (9, .int y9)]) hx hb dX5_go_200 hl (k := 7) rfl rfl (by decide) rfl (fun ls hl => ?_)
      refine lv_goto (tgt := 15) hx hb dX5_go_203 (by decide) ?_
      exact hrc15 y2 y4 y5 (y7 + (1 : Int32)) v_t_minutes v_t_heldMinutes v_t_firstHeld v_t_pail_ice (v_t_pail_saltGrams + (0 : Int32)) v_t_pail_brine v_t_pail_cold v_t_cream_water v_t_cream_sugar v_t_cream_fat v_t_cream_warm v_t_cream_layer v_t_cream_air v_t_cream_churned v_t_cream_scraped_total v_t_cream_scraped_grams v_t_crew_wearinesses v_t_stiffBehind _ _ _ hf hP hD hS (lv_sub hl [2, 3, 4, 5, 6, 7, 0] rfl)
    · have hf := (if_neg c1).symm.trans hf
      refine lv_bipush (v := 100) hx hb dX5_go_92 (by decide) ?_
      refine lv_iload hx hb dX5_go_94 (lv_at hl 8 rfl) ?_
      refine lv_imul hx hb dX5_go_96 ?_
      refine lv_goto (tgt := 101) hx hb dX5_go_97 (by decide) ?_
      refine lv_iadd hx hb dX5_go_101 ?_
      refine mpN (ci := 3) (wN := (woX5_go cI cZ a_t a_t_pail a_t_cream a_t_crew a_t_stiffBehind a_t_cream_scraped a_t_cream_scraped_grams a_t_crew_wearinesses a_o1 a_o1_numbers a_o1_strengths a_o1_steps a_o1_swings a_o1_steps_who a_o1_steps_amount a_o1_steps_length v_t_minutes v_t_heldMinutes v_t_firstHeld v_t_pail_ice (v_t_pail_saltGrams + ((100 : Int32) * y9)) v_t_pail_brine v_t_pail_cold v_t_cream_water v_t_cream_sugar v_t_cream_fat v_t_cream_warm v_t_cream_layer v_t_cream_air v_t_cream_churned v_t_cream_scraped_total v_t_cream_scraped_grams v_t_crew_wearinesses v_t_stiffBehind o1_holds o1_numbers o1_strengths o1_steps_parts o1_steps_minutes o1_steps_who o1_steps_amount o1_steps_length)) 1 1 hx hb hG igX3 tyX3 tyX3_ok nmX3 hown hP hD hS rfl rfl (by decide) (wd_1_122 hG.2.1) rfl rfl rfl rfl rfl (Nat.le_of_ble_eq_true rfl) rfl dX5_go_102 (fun H locs hP hD hS => ?_)
      refine lv_goto (tgt := 200) hx hb dX5_go_105 (by decide) ?_
      refine lv_iinc (v := (y7 + (1 : Int32))) (lv' := [(7, .int (y7 + (1 : Int32))), (10, .int z0), (0, .ref a_t), (1, .ref a_o1), (2, .int y2), (4, .int y4), (5, .int y5), (6, .ref a_o1_steps), (9, .int y9)]) hx hb dX5_go_200 hl (k := 7) rfl rfl (by decide) rfl (fun ls hl => ?_)
      refine lv_goto (tgt := 15) hx hb dX5_go_203 (by decide) ?_
      exact hrc15 y2 y4 y5 (y7 + (1 : Int32)) v_t_minutes v_t_heldMinutes v_t_firstHeld v_t_pail_ice (v_t_pail_saltGrams + ((100 : Int32) * y9)) v_t_pail_brine v_t_pail_cold v_t_cream_water v_t_cream_sugar v_t_cream_fat v_t_cream_warm v_t_cream_layer v_t_cream_air v_t_cream_churned v_t_cream_scraped_total v_t_cream_scraped_grams v_t_crew_wearinesses v_t_stiffBehind _ _ _ hf hP hD hS (lv_sub hl [2, 3, 4, 5, 6, 7, 0] rfl)
  have L170 : ∀ (rc15 : Int32 → Int32 → Int32 → Int32 → Int32 → Int32 → Int32 → Int32 → Int32 → Int32 → Int32 → Int32 → Int32 → Int32 → Int32 → Int32 → Int32 → Int32 → Int32 → (Nat → Int32) → (Nat → Int32) → (Nat → Int32) → Option (Int32 × Int32 × Int32 × Int32 × Int32 × Int32 × Int32 × Int32 × Int32 × Int32 × Int32 × Int32 × Int32 × Int32 × Int32 × (Nat → Int32) × (Nat → Int32) × (Nat → Int32))), (∀ (y2 : Int32) (y4 : Int32) (y5 : Int32) (y7 : Int32) (v_t_minutes : Int32) (v_t_heldMinutes : Int32) (v_t_firstHeld : Int32) (v_t_pail_ice : Int32) (v_t_pail_saltGrams : Int32) (v_t_pail_brine : Int32) (v_t_pail_cold : Int32) (v_t_cream_water : Int32) (v_t_cream_sugar : Int32) (v_t_cream_fat : Int32) (v_t_cream_warm : Int32) (v_t_cream_layer : Int32) (v_t_cream_air : Int32) (v_t_cream_churned : Int32) (v_t_cream_scraped_total : Int32) (v_t_cream_scraped_grams : Nat → Int32) (v_t_crew_wearinesses : Nat → Int32) (v_t_stiffBehind : Nat → Int32) (H : Heap) (locs : List Loc) (ls : Array Slot), rc15 y2 y4 y5 y7 v_t_minutes v_t_heldMinutes v_t_firstHeld v_t_pail_ice v_t_pail_saltGrams v_t_pail_brine v_t_pail_cold v_t_cream_water v_t_cream_sugar v_t_cream_fat v_t_cream_warm v_t_cream_layer v_t_cream_air v_t_cream_churned v_t_cream_scraped_total v_t_cream_scraped_grams v_t_crew_wearinesses v_t_stiffBehind = some R → va_P (dC, dI) vwCl (woX5_go cI cZ a_t a_t_pail a_t_cream a_t_crew a_t_stiffBehind a_t_cream_scraped a_t_cream_scraped_grams a_t_crew_wearinesses a_o1 a_o1_numbers a_o1_strengths a_o1_steps a_o1_swings a_o1_steps_who a_o1_steps_amount a_o1_steps_length v_t_minutes v_t_heldMinutes v_t_firstHeld v_t_pail_ice v_t_pail_saltGrams v_t_pail_brine v_t_pail_cold v_t_cream_water v_t_cream_sugar v_t_cream_fat v_t_cream_warm v_t_cream_layer v_t_cream_air v_t_cream_churned v_t_cream_scraped_total v_t_cream_scraped_grams v_t_crew_wearinesses v_t_stiffBehind o1_holds o1_numbers o1_strengths o1_steps_parts o1_steps_minutes o1_steps_who o1_steps_amount o1_steps_length) H → va_D (va_A (woX5_go cI cZ a_t a_t_pail a_t_cream a_t_crew a_t_stiffBehind a_t_cream_scraped a_t_cream_scraped_grams a_t_crew_wearinesses a_o1 a_o1_numbers a_o1_strengths a_o1_steps a_o1_swings a_o1_steps_who a_o1_steps_amount a_o1_steps_length t_minutes t_heldMinutes t_firstHeld t_pail_ice t_pail_saltGrams t_pail_brine t_pail_cold t_cream_water t_cream_sugar t_cream_fat t_cream_warm t_cream_layer t_cream_air t_cream_churned t_cream_scraped_total t_cream_scraped_grams t_crew_wearinesses t_stiffBehind o1_holds o1_numbers o1_strengths o1_steps_parts o1_steps_minutes o1_steps_who o1_steps_amount o1_steps_length) sz) (woX5_go cI cZ a_t a_t_pail a_t_cream a_t_crew a_t_stiffBehind a_t_cream_scraped a_t_cream_scraped_grams a_t_crew_wearinesses a_o1 a_o1_numbers a_o1_strengths a_o1_steps a_o1_swings a_o1_steps_who a_o1_steps_amount a_o1_steps_length v_t_minutes v_t_heldMinutes v_t_firstHeld v_t_pail_ice v_t_pail_saltGrams v_t_pail_brine v_t_pail_cold v_t_cream_water v_t_cream_sugar v_t_cream_fat v_t_cream_warm v_t_cream_layer v_t_cream_air v_t_cream_churned v_t_cream_scraped_total v_t_cream_scraped_grams v_t_crew_wearinesses v_t_stiffBehind o1_holds o1_numbers o1_strengths o1_steps_parts o1_steps_minutes o1_steps_who o1_steps_amount o1_steps_length) → va_S (va_A (woX5_go cI cZ a_t a_t_pail a_t_cream a_t_crew a_t_stiffBehind a_t_cream_scraped a_t_cream_scraped_grams a_t_crew_wearinesses a_o1 a_o1_numbers a_o1_strengths a_o1_steps a_o1_swings a_o1_steps_who a_o1_steps_amount a_o1_steps_length t_minutes t_heldMinutes t_firstHeld t_pail_ice t_pail_saltGrams t_pail_brine t_pail_cold t_cream_water t_cream_sugar t_cream_fat t_cream_warm t_cream_layer t_cream_air t_cream_churned t_cream_scraped_total t_cream_scraped_grams t_crew_wearinesses t_stiffBehind o1_holds o1_numbers o1_strengths o1_steps_parts o1_steps_minutes o1_steps_who o1_steps_amount o1_steps_length) sz) s.heap H locs → lv_has ls 14 [(0, .ref a_t), (1, .ref a_o1), (2, .int y2), (4, .int y4), (5, .int y5), (6, .ref a_o1_steps), (7, .int y7)] → W p l e (headSpec wyX5_go rmX5_go).room s m ([Value.ref a_t, Value.ref a_o1, Value.int x2, Value.int x3, Value.int x4, Value.int x5] : List Value).toArray below meth c H locs 0 0 (MQ below (POSTv (dC, dI) sz (woX5_go cI cZ a_t a_t_pail a_t_cream a_t_crew a_t_stiffBehind a_t_cream_scraped a_t_cream_scraped_grams a_t_crew_wearinesses a_o1 a_o1_numbers a_o1_strengths a_o1_steps a_o1_swings a_o1_steps_who a_o1_steps_amount a_o1_steps_length t_minutes t_heldMinutes t_firstHeld t_pail_ice t_pail_saltGrams t_pail_brine t_pail_cold t_cream_water t_cream_sugar t_cream_fat t_cream_warm t_cream_layer t_cream_air t_cream_churned t_cream_scraped_total t_cream_scraped_grams t_crew_wearinesses t_stiffBehind o1_holds o1_numbers o1_strengths o1_steps_parts o1_steps_minutes o1_steps_who o1_steps_amount o1_steps_length) (woX5_go cI cZ a_t a_t_pail a_t_cream a_t_crew a_t_stiffBehind a_t_cream_scraped a_t_cream_scraped_grams a_t_crew_wearinesses a_o1 a_o1_numbers a_o1_strengths a_o1_steps a_o1_swings a_o1_steps_who a_o1_steps_amount a_o1_steps_length R.1 R.2.1 R.2.2.1 R.2.2.2.1 R.2.2.2.2.1 R.2.2.2.2.2.1 R.2.2.2.2.2.2.1 R.2.2.2.2.2.2.2.1 R.2.2.2.2.2.2.2.2.1 R.2.2.2.2.2.2.2.2.2.1 R.2.2.2.2.2.2.2.2.2.2.1 R.2.2.2.2.2.2.2.2.2.2.2.1 R.2.2.2.2.2.2.2.2.2.2.2.2.1 R.2.2.2.2.2.2.2.2.2.2.2.2.2.1 R.2.2.2.2.2.2.2.2.2.2.2.2.2.2.1 R.2.2.2.2.2.2.2.2.2.2.2.2.2.2.2.1 R.2.2.2.2.2.2.2.2.2.2.2.2.2.2.2.2.1 R.2.2.2.2.2.2.2.2.2.2.2.2.2.2.2.2.2 o1_holds o1_numbers o1_strengths o1_steps_parts o1_steps_minutes o1_steps_who o1_steps_amount o1_steps_length)) ([Value.ref a_t, Value.ref a_o1, Value.int x2, Value.int x3, Value.int x4, Value.int x5] : List Value).toArray s 0 0 (va_A (woX5_go cI cZ a_t a_t_pail a_t_cream a_t_crew a_t_stiffBehind a_t_cream_scraped a_t_cream_scraped_grams a_t_crew_wearinesses a_o1 a_o1_numbers a_o1_strengths a_o1_steps a_o1_swings a_o1_steps_who a_o1_steps_amount a_o1_steps_length t_minutes t_heldMinutes t_firstHeld t_pail_ice t_pail_saltGrams t_pail_brine t_pail_cold t_cream_water t_cream_sugar t_cream_fat t_cream_warm t_cream_layer t_cream_air t_cream_churned t_cream_scraped_total t_cream_scraped_grams t_crew_wearinesses t_stiffBehind o1_holds o1_numbers o1_strengths o1_steps_parts o1_steps_minutes o1_steps_who o1_steps_amount o1_steps_length) sz)) (F0 m 15 ls [])) → ∀ (fu : Nat) (y2 : Int32) (y4 : Int32) (y5 : Int32) (y7 : Int32) (y10 : Int32) (y11 : Int32) (y12 : Int32) (y13 : Int32) (v_t_minutes : Int32) (v_t_heldMinutes : Int32) (v_t_firstHeld : Int32) (v_t_pail_ice : Int32) (v_t_pail_saltGrams : Int32) (v_t_pail_brine : Int32) (v_t_pail_cold : Int32) (v_t_cream_water : Int32) (v_t_cream_sugar : Int32) (v_t_cream_fat : Int32) (v_t_cream_warm : Int32) (v_t_cream_layer : Int32) (v_t_cream_air : Int32) (v_t_cream_churned : Int32) (v_t_cream_scraped_total : Int32) (v_t_cream_scraped_grams : Nat → Int32) (v_t_crew_wearinesses : Nat → Int32) (v_t_stiffBehind : Nat → Int32) (H : Heap) (locs : List Loc) (ls : Array Slot), f_X5_go_L170 rc15 o1_numbers o1_strengths o1_steps_parts o1_steps_minutes o1_steps_who o1_steps_amount o1_steps_length fu y2 y4 y5 y7 y10 y11 y12 y13 v_t_minutes v_t_heldMinutes v_t_firstHeld v_t_pail_ice v_t_pail_saltGrams v_t_pail_brine v_t_pail_cold v_t_cream_water v_t_cream_sugar v_t_cream_fat v_t_cream_warm v_t_cream_layer v_t_cream_air v_t_cream_churned v_t_cream_scraped_total v_t_cream_scraped_grams v_t_crew_wearinesses v_t_stiffBehind = some R → va_P (dC, dI) vwCl (woX5_go cI cZ a_t a_t_pail a_t_cream a_t_crew a_t_stiffBehind a_t_cream_scraped a_t_cream_scraped_grams a_t_crew_wearinesses a_o1 a_o1_numbers a_o1_strengths a_o1_steps a_o1_swings a_o1_steps_who a_o1_steps_amount a_o1_steps_length v_t_minutes v_t_heldMinutes v_t_firstHeld v_t_pail_ice v_t_pail_saltGrams v_t_pail_brine v_t_pail_cold v_t_cream_water v_t_cream_sugar v_t_cream_fat v_t_cream_warm v_t_cream_layer v_t_cream_air v_t_cream_churned v_t_cream_scraped_total v_t_cream_scraped_grams v_t_crew_wearinesses v_t_stiffBehind o1_holds o1_numbers o1_strengths o1_steps_parts o1_steps_minutes o1_steps_who o1_steps_amount o1_steps_length) H → va_D (va_A (woX5_go cI cZ a_t a_t_pail a_t_cream a_t_crew a_t_stiffBehind a_t_cream_scraped a_t_cream_scraped_grams a_t_crew_wearinesses a_o1 a_o1_numbers a_o1_strengths a_o1_steps a_o1_swings a_o1_steps_who a_o1_steps_amount a_o1_steps_length t_minutes t_heldMinutes t_firstHeld t_pail_ice t_pail_saltGrams t_pail_brine t_pail_cold t_cream_water t_cream_sugar t_cream_fat t_cream_warm t_cream_layer t_cream_air t_cream_churned t_cream_scraped_total t_cream_scraped_grams t_crew_wearinesses t_stiffBehind o1_holds o1_numbers o1_strengths o1_steps_parts o1_steps_minutes o1_steps_who o1_steps_amount o1_steps_length) sz) (woX5_go cI cZ a_t a_t_pail a_t_cream a_t_crew a_t_stiffBehind a_t_cream_scraped a_t_cream_scraped_grams a_t_crew_wearinesses a_o1 a_o1_numbers a_o1_strengths a_o1_steps a_o1_swings a_o1_steps_who a_o1_steps_amount a_o1_steps_length v_t_minutes v_t_heldMinutes v_t_firstHeld v_t_pail_ice v_t_pail_saltGrams v_t_pail_brine v_t_pail_cold v_t_cream_water v_t_cream_sugar v_t_cream_fat v_t_cream_warm v_t_cream_layer v_t_cream_air v_t_cream_churned v_t_cream_scraped_total v_t_cream_scraped_grams v_t_crew_wearinesses v_t_stiffBehind o1_holds o1_numbers o1_strengths o1_steps_parts o1_steps_minutes o1_steps_who o1_steps_amount o1_steps_length) → va_S (va_A (woX5_go cI cZ a_t a_t_pail a_t_cream a_t_crew a_t_stiffBehind a_t_cream_scraped a_t_cream_scraped_grams a_t_crew_wearinesses a_o1 a_o1_numbers a_o1_strengths a_o1_steps a_o1_swings a_o1_steps_who a_o1_steps_amount a_o1_steps_length t_minutes t_heldMinutes t_firstHeld t_pail_ice t_pail_saltGrams t_pail_brine t_pail_cold t_cream_water t_cream_sugar t_cream_fat t_cream_warm t_cream_layer t_cream_air t_cream_churned t_cream_scraped_total t_cream_scraped_grams t_crew_wearinesses t_stiffBehind o1_holds o1_numbers o1_strengths o1_steps_parts o1_steps_minutes o1_steps_who o1_steps_amount o1_steps_length) sz) s.heap H locs → lv_has ls 14 [(0, .ref a_t), (1, .ref a_o1), (2, .int y2), (4, .int y4), (5, .int y5), (6, .ref a_o1_steps), (7, .int y7), (10, .int y10), (11, .int y11), (12, .int y12), (13, .int y13)] → W p l e (headSpec wyX5_go rmX5_go).room s m ([Value.ref a_t, Value.ref a_o1, Value.int x2, Value.int x3, Value.int x4, Value.int x5] : List Value).toArray below meth c H locs 0 0 (MQ below (POSTv (dC, dI) sz (woX5_go cI cZ a_t a_t_pail a_t_cream a_t_crew a_t_stiffBehind a_t_cream_scraped a_t_cream_scraped_grams a_t_crew_wearinesses a_o1 a_o1_numbers a_o1_strengths a_o1_steps a_o1_swings a_o1_steps_who a_o1_steps_amount a_o1_steps_length t_minutes t_heldMinutes t_firstHeld t_pail_ice t_pail_saltGrams t_pail_brine t_pail_cold t_cream_water t_cream_sugar t_cream_fat t_cream_warm t_cream_layer t_cream_air t_cream_churned t_cream_scraped_total t_cream_scraped_grams t_crew_wearinesses t_stiffBehind o1_holds o1_numbers o1_strengths o1_steps_parts o1_steps_minutes o1_steps_who o1_steps_amount o1_steps_length) (woX5_go cI cZ a_t a_t_pail a_t_cream a_t_crew a_t_stiffBehind a_t_cream_scraped a_t_cream_scraped_grams a_t_crew_wearinesses a_o1 a_o1_numbers a_o1_strengths a_o1_steps a_o1_swings a_o1_steps_who a_o1_steps_amount a_o1_steps_length R.1 R.2.1 R.2.2.1 R.2.2.2.1 R.2.2.2.2.1 R.2.2.2.2.2.1 R.2.2.2.2.2.2.1 R.2.2.2.2.2.2.2.1 R.2.2.2.2.2.2.2.2.1 R.2.2.2.2.2.2.2.2.2.1 R.2.2.2.2.2.2.2.2.2.2.1 R.2.2.2.2.2.2.2.2.2.2.2.1 R.2.2.2.2.2.2.2.2.2.2.2.2.1 R.2.2.2.2.2.2.2.2.2.2.2.2.2.1 R.2.2.2.2.2.2.2.2.2.2.2.2.2.2.1 R.2.2.2.2.2.2.2.2.2.2.2.2.2.2.2.1 R.2.2.2.2.2.2.2.2.2.2.2.2.2.2.2.2.1 R.2.2.2.2.2.2.2.2.2.2.2.2.2.2.2.2.2 o1_holds o1_numbers o1_strengths o1_steps_parts o1_steps_minutes o1_steps_who o1_steps_amount o1_steps_length)) ([Value.ref a_t, Value.ref a_o1, Value.int x2, Value.int x3, Value.int x4, Value.int x5] : List Value).toArray s 0 0 (va_A (woX5_go cI cZ a_t a_t_pail a_t_cream a_t_crew a_t_stiffBehind a_t_cream_scraped a_t_cream_scraped_grams a_t_crew_wearinesses a_o1 a_o1_numbers a_o1_strengths a_o1_steps a_o1_swings a_o1_steps_who a_o1_steps_amount a_o1_steps_length t_minutes t_heldMinutes t_firstHeld t_pail_ice t_pail_saltGrams t_pail_brine t_pail_cold t_cream_water t_cream_sugar t_cream_fat t_cream_warm t_cream_layer t_cream_air t_cream_churned t_cream_scraped_total t_cream_scraped_grams t_crew_wearinesses t_stiffBehind o1_holds o1_numbers o1_strengths o1_steps_parts o1_steps_minutes o1_steps_who o1_steps_amount o1_steps_length) sz)) (F0 m 170 ls []) := by
    intro rc15 hrc15 fu
    induction fu with
    | zero => intro y2 y4 y5 y7 y10 y11 y12 y13 v_t_minutes v_t_heldMinutes v_t_firstHeld v_t_pail_ice v_t_pail_saltGrams v_t_pail_brine v_t_pail_cold v_t_cream_water v_t_cream_sugar v_t_cream_fat v_t_cream_warm v_t_cream_layer v_t_cream_air v_t_cream_churned v_t_cream_scraped_total v_t_cream_scraped_grams v_t_crew_wearinesses v_t_stiffBehind H locs ls hf; cases hf
    | succ fu ih =>
      intro y2 y4 y5 y7 y10 y11 y12 y13 v_t_minutes v_t_heldMinutes v_t_firstHeld v_t_pail_ice v_t_pail_saltGrams v_t_pail_brine v_t_pail_cold v_t_cream_water v_t_cream_sugar v_t_cream_fat v_t_cream_warm v_t_cream_layer v_t_cream_air v_t_cream_churned v_t_cream_scraped_total v_t_cream_scraped_grams v_t_crew_wearinesses v_t_stiffBehind H locs ls hf hP hD hS hl
      rw [f_X5_go_L170] at hf
      refine lv_iload hx hb dX5_go_170 (lv_at hl 10 rfl) ?_
      refine lv_iload hx hb dX5_go_172 (lv_at hl 9 rfl) ?_
      refine lv_icmp_ge (tgt := 200) hx hb dX5_go_174 (by decide) (fun c2 => ?_) (fun c2 => ?_)
      · have hf := (if_pos c2).symm.trans hf
        refine lv_iinc (v := (y7 + (1 : Int32))) (lv' := [(7, .int (y7 + (1 : Int32))), (0, .ref a_t), (1, .ref a_o1), (2, .int y2), (4, .int y4), (5, .int y5), (6, .ref a_o1_steps), (10, .int y10), (11, .int y11), (12, .int y12), (13, .int y13)]) hx hb dX5_go_200 hl (k := 6) rfl rfl (by decide) rfl (fun ls hl => ?_)
        refine lv_goto (tgt := 15) hx hb dX5_go_203 (by decide) ?_
        exact hrc15 y2 y4 y5 (y7 + (1 : Int32)) v_t_minutes v_t_heldMinutes v_t_firstHeld v_t_pail_ice v_t_pail_saltGrams v_t_pail_brine v_t_pail_cold v_t_cream_water v_t_cream_sugar v_t_cream_fat v_t_cream_warm v_t_cream_layer v_t_cream_air v_t_cream_churned v_t_cream_scraped_total v_t_cream_scraped_grams v_t_crew_wearinesses v_t_stiffBehind _ _ _ hf hP hD hS (lv_sub hl [1, 2, 3, 4, 5, 6, 0] rfl)
      · have hf := (if_neg c2).symm.trans hf
        refine lv_aload_n hx hb dX5_go_177 rfl (lv_at hl 0 rfl) ?_
        refine lv_iload hx hb dX5_go_178 (lv_at hl 7 rfl) ?_
        refine lv_iload hx hb dX5_go_180 (lv_at hl 8 rfl) ?_
        refine lv_aload_n hx hb dX5_go_182 rfl (lv_at hl 1 rfl) ?_
        refine mgN (ci := 4) 8 2 hx hb hG igX4 hown hP rfl rfl (by decide) (wd_1_89 hG.2.1) rfl rfl dX5_go_183 ?_
        refine lv_iload hx hb dX5_go_186 (lv_at hl 7 rfl) ?_
        obtain ⟨r188, hc188, hf⟩ := bd1_some hf
        refine cl_Ni (r := r188) (As := [.ref a_o1_strengths, .int y10]) (w1 := (woX8_at cI cZ a_o1_strengths 4 o1_strengths)) (wN := (woX5_go cI cZ a_t a_t_pail a_t_cream a_t_crew a_t_stiffBehind a_t_cream_scraped a_t_cream_scraped_grams a_t_crew_wearinesses a_o1 a_o1_numbers a_o1_strengths a_o1_steps a_o1_swings a_o1_steps_who a_o1_steps_amount a_o1_steps_length v_t_minutes v_t_heldMinutes v_t_firstHeld v_t_pail_ice v_t_pail_saltGrams v_t_pail_brine v_t_pail_cold v_t_cream_water v_t_cream_sugar v_t_cream_fat v_t_cream_warm v_t_cream_layer v_t_cream_air v_t_cream_churned v_t_cream_scraped_total v_t_cream_scraped_grams v_t_crew_wearinesses v_t_stiffBehind o1_holds o1_numbers o1_strengths o1_steps_parts o1_steps_minutes o1_steps_who o1_steps_amount o1_steps_length)) [10] 0 0 (c_X8_at l dC dI cI cZ ts _ a_o1_strengths 4 o1_strengths y10 (r188) hc188) ⟨hx, hb, hml, hown, hG.2.1.hts _⟩ ⟨va_cnB 2 (hG.2.1.hts _) giX8_at rfl rfl rfl (va_Nw.of (A := #[]) rfl (wd_2_144 hG.2.1)) (wd_1_1 hG.2.1) hd_X8_at ⟨Nat.le_of_ble_eq_true rfl, Nat.le_of_ble_eq_true rfl⟩, wd_2_10 hG.2.1, trivial⟩ hG hP hD hS rfl rfl rfl rfl rfl hl.1 rfl (Nat.le_of_ble_eq_true rfl) dX5_go_188 ⟨Nat.zero_le _, Nat.zero_le _⟩ (fun H locs hP hD hS => ?_)
        obtain ⟨g191_0, g191_1, g191_2, g191_3, g191_4, g191_5, g191_6, g191_7, g191_8, g191_9, g191_10, g191_11, g191_12, g191_13, hc191, hf⟩ := bd14_some hf
        refine cl_Vv (b := a_t) (As := [.int y10, .int y11, .int r188]) (w1 := (woX5_passMinute cI cZ a_t a_t_pail a_t_cream a_t_crew a_t_stiffBehind a_t_cream_scraped a_t_cream_scraped_grams a_t_crew_wearinesses g191_0 g191_1 g191_2 g191_3 v_t_pail_saltGrams g191_4 g191_5 v_t_cream_water v_t_cream_sugar v_t_cream_fat g191_6 g191_7 g191_8 g191_9 g191_10 g191_11 g191_12 g191_13)) (wN := (woX5_go cI cZ a_t a_t_pail a_t_cream a_t_crew a_t_stiffBehind a_t_cream_scraped a_t_cream_scraped_grams a_t_crew_wearinesses a_o1 a_o1_numbers a_o1_strengths a_o1_steps a_o1_swings a_o1_steps_who a_o1_steps_amount a_o1_steps_length g191_0 g191_1 g191_2 g191_3 v_t_pail_saltGrams g191_4 g191_5 v_t_cream_water v_t_cream_sugar v_t_cream_fat g191_6 g191_7 g191_8 g191_9 g191_10 g191_11 g191_12 g191_13 o1_holds o1_numbers o1_strengths o1_steps_parts o1_steps_minutes o1_steps_who o1_steps_amount o1_steps_length)) [0, 1, 2, 3, 4, 5, 6, 7] 0 5 (c_X5_passMinute l dC dI cI cZ ts _ a_t a_t_pail a_t_cream a_t_crew a_t_stiffBehind a_t_cream_scraped a_t_cream_scraped_grams a_t_crew_wearinesses v_t_minutes v_t_heldMinutes v_t_firstHeld v_t_pail_ice v_t_pail_saltGrams v_t_pail_brine v_t_pail_cold v_t_cream_water v_t_cream_sugar v_t_cream_fat v_t_cream_warm v_t_cream_layer v_t_cream_air v_t_cream_churned v_t_cream_scraped_total v_t_cream_scraped_grams v_t_crew_wearinesses v_t_stiffBehind y10 y11 r188 (g191_0, g191_1, g191_2, g191_3, g191_4, g191_5, g191_6, g191_7, g191_8, g191_9, g191_10, g191_11, g191_12, g191_13) hc191) ⟨hx, hb, hml, hown, hG.2.1.hts _⟩ ⟨callB_of 3 (hG.2.1.hts _) giX5_passMinute rfl rfl rfl (wd_1_5 hG.2.1) (wd_2_150 hG.2.1) hd_X5_passMinute ⟨Nat.le_of_ble_eq_true rfl, Nat.le_of_ble_eq_true rfl⟩, wd_2_152 hG.2.1, ws_5 hG.2.1⟩ hG hP hD hS rfl rfl rfl rfl rfl rfl rfl rfl hl.1 rfl (Nat.le_of_ble_eq_true rfl) dX5_go_191 ⟨Nat.zero_le _, Nat.zero_le _⟩ (fun H locs hP hD hS => ?_)
        refine lv_iinc (v := (y13 + (1 : Int32))) (lv' := [(13, .int (y13 + (1 : Int32))), (0, .ref a_t), (1, .ref a_o1), (2, .int y2), (4, .int y4), (5, .int y5), (6, .ref a_o1_steps), (7, .int y7), (10, .int y10), (11, .int y11), (12, .int y12)]) hx hb dX5_go_194 hl (k := 10) rfl rfl (by decide) rfl (fun ls hl => ?_)
        refine lv_goto (tgt := 170) hx hb dX5_go_197 (by decide) ?_
        exact ih y2 y4 y5 y7 y10 y11 y12 (y13 + (1 : Int32)) g191_0 g191_1 g191_2 g191_3 v_t_pail_saltGrams g191_4 g191_5 v_t_cream_water v_t_cream_sugar v_t_cream_fat g191_6 g191_7 g191_8 g191_9 g191_10 g191_11 g191_12 g191_13 _ _ _ hf hP hD hS (lv_sub hl [1, 2, 3, 4, 5, 6, 7, 8, 9, 10, 0] rfl)
  have L141 : ∀ (rc15 : Int32 → Int32 → Int32 → Int32 → Int32 → Int32 → Int32 → Int32 → Int32 → Int32 → Int32 → Int32 → Int32 → Int32 → Int32 → Int32 → Int32 → Int32 → Int32 → (Nat → Int32) → (Nat → Int32) → (Nat → Int32) → Option (Int32 × Int32 × Int32 × Int32 × Int32 × Int32 × Int32 × Int32 × Int32 × Int32 × Int32 × Int32 × Int32 × Int32 × Int32 × (Nat → Int32) × (Nat → Int32) × (Nat → Int32))), (∀ (y2 : Int32) (y4 : Int32) (y5 : Int32) (y7 : Int32) (v_t_minutes : Int32) (v_t_heldMinutes : Int32) (v_t_firstHeld : Int32) (v_t_pail_ice : Int32) (v_t_pail_saltGrams : Int32) (v_t_pail_brine : Int32) (v_t_pail_cold : Int32) (v_t_cream_water : Int32) (v_t_cream_sugar : Int32) (v_t_cream_fat : Int32) (v_t_cream_warm : Int32) (v_t_cream_layer : Int32) (v_t_cream_air : Int32) (v_t_cream_churned : Int32) (v_t_cream_scraped_total : Int32) (v_t_cream_scraped_grams : Nat → Int32) (v_t_crew_wearinesses : Nat → Int32) (v_t_stiffBehind : Nat → Int32) (H : Heap) (locs : List Loc) (ls : Array Slot), rc15 y2 y4 y5 y7 v_t_minutes v_t_heldMinutes v_t_firstHeld v_t_pail_ice v_t_pail_saltGrams v_t_pail_brine v_t_pail_cold v_t_cream_water v_t_cream_sugar v_t_cream_fat v_t_cream_warm v_t_cream_layer v_t_cream_air v_t_cream_churned v_t_cream_scraped_total v_t_cream_scraped_grams v_t_crew_wearinesses v_t_stiffBehind = some R → va_P (dC, dI) vwCl (woX5_go cI cZ a_t a_t_pail a_t_cream a_t_crew a_t_stiffBehind a_t_cream_scraped a_t_cream_scraped_grams a_t_crew_wearinesses a_o1 a_o1_numbers a_o1_strengths a_o1_steps a_o1_swings a_o1_steps_who a_o1_steps_amount a_o1_steps_length v_t_minutes v_t_heldMinutes v_t_firstHeld v_t_pail_ice v_t_pail_saltGrams v_t_pail_brine v_t_pail_cold v_t_cream_water v_t_cream_sugar v_t_cream_fat v_t_cream_warm v_t_cream_layer v_t_cream_air v_t_cream_churned v_t_cream_scraped_total v_t_cream_scraped_grams v_t_crew_wearinesses v_t_stiffBehind o1_holds o1_numbers o1_strengths o1_steps_parts o1_steps_minutes o1_steps_who o1_steps_amount o1_steps_length) H → va_D (va_A (woX5_go cI cZ a_t a_t_pail a_t_cream a_t_crew a_t_stiffBehind a_t_cream_scraped a_t_cream_scraped_grams a_t_crew_wearinesses a_o1 a_o1_numbers a_o1_strengths a_o1_steps a_o1_swings a_o1_steps_who a_o1_steps_amount a_o1_steps_length t_minutes t_heldMinutes t_firstHeld t_pail_ice t_pail_saltGrams t_pail_brine t_pail_cold t_cream_water t_cream_sugar t_cream_fat t_cream_warm t_cream_layer t_cream_air t_cream_churned t_cream_scraped_total t_cream_scraped_grams t_crew_wearinesses t_stiffBehind o1_holds o1_numbers o1_strengths o1_steps_parts o1_steps_minutes o1_steps_who o1_steps_amount o1_steps_length) sz) (woX5_go cI cZ a_t a_t_pail a_t_cream a_t_crew a_t_stiffBehind a_t_cream_scraped a_t_cream_scraped_grams a_t_crew_wearinesses a_o1 a_o1_numbers a_o1_strengths a_o1_steps a_o1_swings a_o1_steps_who a_o1_steps_amount a_o1_steps_length v_t_minutes v_t_heldMinutes v_t_firstHeld v_t_pail_ice v_t_pail_saltGrams v_t_pail_brine v_t_pail_cold v_t_cream_water v_t_cream_sugar v_t_cream_fat v_t_cream_warm v_t_cream_layer v_t_cream_air v_t_cream_churned v_t_cream_scraped_total v_t_cream_scraped_grams v_t_crew_wearinesses v_t_stiffBehind o1_holds o1_numbers o1_strengths o1_steps_parts o1_steps_minutes o1_steps_who o1_steps_amount o1_steps_length) → va_S (va_A (woX5_go cI cZ a_t a_t_pail a_t_cream a_t_crew a_t_stiffBehind a_t_cream_scraped a_t_cream_scraped_grams a_t_crew_wearinesses a_o1 a_o1_numbers a_o1_strengths a_o1_steps a_o1_swings a_o1_steps_who a_o1_steps_amount a_o1_steps_length t_minutes t_heldMinutes t_firstHeld t_pail_ice t_pail_saltGrams t_pail_brine t_pail_cold t_cream_water t_cream_sugar t_cream_fat t_cream_warm t_cream_layer t_cream_air t_cream_churned t_cream_scraped_total t_cream_scraped_grams t_crew_wearinesses t_stiffBehind o1_holds o1_numbers o1_strengths o1_steps_parts o1_steps_minutes o1_steps_who o1_steps_amount o1_steps_length) sz) s.heap H locs → lv_has ls 14 [(0, .ref a_t), (1, .ref a_o1), (2, .int y2), (4, .int y4), (5, .int y5), (6, .ref a_o1_steps), (7, .int y7)] → W p l e (headSpec wyX5_go rmX5_go).room s m ([Value.ref a_t, Value.ref a_o1, Value.int x2, Value.int x3, Value.int x4, Value.int x5] : List Value).toArray below meth c H locs 0 0 (MQ below (POSTv (dC, dI) sz (woX5_go cI cZ a_t a_t_pail a_t_cream a_t_crew a_t_stiffBehind a_t_cream_scraped a_t_cream_scraped_grams a_t_crew_wearinesses a_o1 a_o1_numbers a_o1_strengths a_o1_steps a_o1_swings a_o1_steps_who a_o1_steps_amount a_o1_steps_length t_minutes t_heldMinutes t_firstHeld t_pail_ice t_pail_saltGrams t_pail_brine t_pail_cold t_cream_water t_cream_sugar t_cream_fat t_cream_warm t_cream_layer t_cream_air t_cream_churned t_cream_scraped_total t_cream_scraped_grams t_crew_wearinesses t_stiffBehind o1_holds o1_numbers o1_strengths o1_steps_parts o1_steps_minutes o1_steps_who o1_steps_amount o1_steps_length) (woX5_go cI cZ a_t a_t_pail a_t_cream a_t_crew a_t_stiffBehind a_t_cream_scraped a_t_cream_scraped_grams a_t_crew_wearinesses a_o1 a_o1_numbers a_o1_strengths a_o1_steps a_o1_swings a_o1_steps_who a_o1_steps_amount a_o1_steps_length R.1 R.2.1 R.2.2.1 R.2.2.2.1 R.2.2.2.2.1 R.2.2.2.2.2.1 R.2.2.2.2.2.2.1 R.2.2.2.2.2.2.2.1 R.2.2.2.2.2.2.2.2.1 R.2.2.2.2.2.2.2.2.2.1 R.2.2.2.2.2.2.2.2.2.2.1 R.2.2.2.2.2.2.2.2.2.2.2.1 R.2.2.2.2.2.2.2.2.2.2.2.2.1 R.2.2.2.2.2.2.2.2.2.2.2.2.2.1 R.2.2.2.2.2.2.2.2.2.2.2.2.2.2.1 R.2.2.2.2.2.2.2.2.2.2.2.2.2.2.2.1 R.2.2.2.2.2.2.2.2.2.2.2.2.2.2.2.2.1 R.2.2.2.2.2.2.2.2.2.2.2.2.2.2.2.2.2 o1_holds o1_numbers o1_strengths o1_steps_parts o1_steps_minutes o1_steps_who o1_steps_amount o1_steps_length)) ([Value.ref a_t, Value.ref a_o1, Value.int x2, Value.int x3, Value.int x4, Value.int x5] : List Value).toArray s 0 0 (va_A (woX5_go cI cZ a_t a_t_pail a_t_cream a_t_crew a_t_stiffBehind a_t_cream_scraped a_t_cream_scraped_grams a_t_crew_wearinesses a_o1 a_o1_numbers a_o1_strengths a_o1_steps a_o1_swings a_o1_steps_who a_o1_steps_amount a_o1_steps_length t_minutes t_heldMinutes t_firstHeld t_pail_ice t_pail_saltGrams t_pail_brine t_pail_cold t_cream_water t_cream_sugar t_cream_fat t_cream_warm t_cream_layer t_cream_air t_cream_churned t_cream_scraped_total t_cream_scraped_grams t_crew_wearinesses t_stiffBehind o1_holds o1_numbers o1_strengths o1_steps_parts o1_steps_minutes o1_steps_who o1_steps_amount o1_steps_length) sz)) (F0 m 15 ls [])) → ∀ (z0 : Int32) (y2 : Int32) (y4 : Int32) (y5 : Int32) (y7 : Int32) (y10 : Int32) (v_t_minutes : Int32) (v_t_heldMinutes : Int32) (v_t_firstHeld : Int32) (v_t_pail_ice : Int32) (v_t_pail_saltGrams : Int32) (v_t_pail_brine : Int32) (v_t_pail_cold : Int32) (v_t_cream_water : Int32) (v_t_cream_sugar : Int32) (v_t_cream_fat : Int32) (v_t_cream_warm : Int32) (v_t_cream_layer : Int32) (v_t_cream_air : Int32) (v_t_cream_churned : Int32) (v_t_cream_scraped_total : Int32) (v_t_cream_scraped_grams : Nat → Int32) (v_t_crew_wearinesses : Nat → Int32) (v_t_stiffBehind : Nat → Int32) (H : Heap) (locs : List Loc) (ls : Array Slot), f_X5_go_L141 rc15 o1_numbers o1_strengths o1_steps_parts o1_steps_minutes o1_steps_who o1_steps_amount o1_steps_length z0 y2 y4 y5 y7 y10 v_t_minutes v_t_heldMinutes v_t_firstHeld v_t_pail_ice v_t_pail_saltGrams v_t_pail_brine v_t_pail_cold v_t_cream_water v_t_cream_sugar v_t_cream_fat v_t_cream_warm v_t_cream_layer v_t_cream_air v_t_cream_churned v_t_cream_scraped_total v_t_cream_scraped_grams v_t_crew_wearinesses v_t_stiffBehind = some R → va_P (dC, dI) vwCl (woX5_go cI cZ a_t a_t_pail a_t_cream a_t_crew a_t_stiffBehind a_t_cream_scraped a_t_cream_scraped_grams a_t_crew_wearinesses a_o1 a_o1_numbers a_o1_strengths a_o1_steps a_o1_swings a_o1_steps_who a_o1_steps_amount a_o1_steps_length v_t_minutes v_t_heldMinutes v_t_firstHeld v_t_pail_ice v_t_pail_saltGrams v_t_pail_brine v_t_pail_cold v_t_cream_water v_t_cream_sugar v_t_cream_fat v_t_cream_warm v_t_cream_layer v_t_cream_air v_t_cream_churned v_t_cream_scraped_total v_t_cream_scraped_grams v_t_crew_wearinesses v_t_stiffBehind o1_holds o1_numbers o1_strengths o1_steps_parts o1_steps_minutes o1_steps_who o1_steps_amount o1_steps_length) H → va_D (va_A (woX5_go cI cZ a_t a_t_pail a_t_cream a_t_crew a_t_stiffBehind a_t_cream_scraped a_t_cream_scraped_grams a_t_crew_wearinesses a_o1 a_o1_numbers a_o1_strengths a_o1_steps a_o1_swings a_o1_steps_who a_o1_steps_amount a_o1_steps_length t_minutes t_heldMinutes t_firstHeld t_pail_ice t_pail_saltGrams t_pail_brine t_pail_cold t_cream_water t_cream_sugar t_cream_fat t_cream_warm t_cream_layer t_cream_air t_cream_churned t_cream_scraped_total t_cream_scraped_grams t_crew_wearinesses t_stiffBehind o1_holds o1_numbers o1_strengths o1_steps_parts o1_steps_minutes o1_steps_who o1_steps_amount o1_steps_length) sz) (woX5_go cI cZ a_t a_t_pail a_t_cream a_t_crew a_t_stiffBehind a_t_cream_scraped a_t_cream_scraped_grams a_t_crew_wearinesses a_o1 a_o1_numbers a_o1_strengths a_o1_steps a_o1_swings a_o1_steps_who a_o1_steps_amount a_o1_steps_length v_t_minutes v_t_heldMinutes v_t_firstHeld v_t_pail_ice v_t_pail_saltGrams v_t_pail_brine v_t_pail_cold v_t_cream_water v_t_cream_sugar v_t_cream_fat v_t_cream_warm v_t_cream_layer v_t_cream_air v_t_cream_churned v_t_cream_scraped_total v_t_cream_scraped_grams v_t_crew_wearinesses v_t_stiffBehind o1_holds o1_numbers o1_strengths o1_steps_parts o1_steps_minutes o1_steps_who o1_steps_amount o1_steps_length) → va_S (va_A (woX5_go cI cZ a_t a_t_pail a_t_cream a_t_crew a_t_stiffBehind a_t_cream_scraped a_t_cream_scraped_grams a_t_crew_wearinesses a_o1 a_o1_numbers a_o1_strengths a_o1_steps a_o1_swings a_o1_steps_who a_o1_steps_amount a_o1_steps_length t_minutes t_heldMinutes t_firstHeld t_pail_ice t_pail_saltGrams t_pail_brine t_pail_cold t_cream_water t_cream_sugar t_cream_fat t_cream_warm t_cream_layer t_cream_air t_cream_churned t_cream_scraped_total t_cream_scraped_grams t_crew_wearinesses t_stiffBehind o1_holds o1_numbers o1_strengths o1_steps_parts o1_steps_minutes o1_steps_who o1_steps_amount o1_steps_length) sz) s.heap H locs → lv_has ls 14 [(0, .ref a_t), (1, .ref a_o1), (2, .int y2), (4, .int y4), (5, .int y5), (6, .ref a_o1_steps), (7, .int y7), (10, .int y10)] → W p l e (headSpec wyX5_go rmX5_go).room s m ([Value.ref a_t, Value.ref a_o1, Value.int x2, Value.int x3, Value.int x4, Value.int x5] : List Value).toArray below meth c H locs 0 0 (MQ below (POSTv (dC, dI) sz (woX5_go cI cZ a_t a_t_pail a_t_cream a_t_crew a_t_stiffBehind a_t_cream_scraped a_t_cream_scraped_grams a_t_crew_wearinesses a_o1 a_o1_numbers a_o1_strengths a_o1_steps a_o1_swings a_o1_steps_who a_o1_steps_amount a_o1_steps_length t_minutes t_heldMinutes t_firstHeld t_pail_ice t_pail_saltGrams t_pail_brine t_pail_cold t_cream_water t_cream_sugar t_cream_fat t_cream_warm t_cream_layer t_cream_air t_cream_churned t_cream_scraped_total t_cream_scraped_grams t_crew_wearinesses t_stiffBehind o1_holds o1_numbers o1_strengths o1_steps_parts o1_steps_minutes o1_steps_who o1_steps_amount o1_steps_length) (woX5_go cI cZ a_t a_t_pail a_t_cream a_t_crew a_t_stiffBehind a_t_cream_scraped a_t_cream_scraped_grams a_t_crew_wearinesses a_o1 a_o1_numbers a_o1_strengths a_o1_steps a_o1_swings a_o1_steps_who a_o1_steps_amount a_o1_steps_length R.1 R.2.1 R.2.2.1 R.2.2.2.1 R.2.2.2.2.1 R.2.2.2.2.2.1 R.2.2.2.2.2.2.1 R.2.2.2.2.2.2.2.1 R.2.2.2.2.2.2.2.2.1 R.2.2.2.2.2.2.2.2.2.1 R.2.2.2.2.2.2.2.2.2.2.1 R.2.2.2.2.2.2.2.2.2.2.2.1 R.2.2.2.2.2.2.2.2.2.2.2.2.1 R.2.2.2.2.2.2.2.2.2.2.2.2.2.1 R.2.2.2.2.2.2.2.2.2.2.2.2.2.2.1 R.2.2.2.2.2.2.2.2.2.2.2.2.2.2.2.1 R.2.2.2.2.2.2.2.2.2.2.2.2.2.2.2.2.1 R.2.2.2.2.2.2.2.2.2.2.2.2.2.2.2.2.2 o1_holds o1_numbers o1_strengths o1_steps_parts o1_steps_minutes o1_steps_who o1_steps_amount o1_steps_length)) ([Value.ref a_t, Value.ref a_o1, Value.int x2, Value.int x3, Value.int x4, Value.int x5] : List Value).toArray s 0 0 (va_A (woX5_go cI cZ a_t a_t_pail a_t_cream a_t_crew a_t_stiffBehind a_t_cream_scraped a_t_cream_scraped_grams a_t_crew_wearinesses a_o1 a_o1_numbers a_o1_strengths a_o1_steps a_o1_swings a_o1_steps_who a_o1_steps_amount a_o1_steps_length t_minutes t_heldMinutes t_firstHeld t_pail_ice t_pail_saltGrams t_pail_brine t_pail_cold t_cream_water t_cream_sugar t_cream_fat t_cream_warm t_cream_layer t_cream_air t_cream_churned t_cream_scraped_total t_cream_scraped_grams t_crew_wearinesses t_stiffBehind o1_holds o1_numbers o1_strengths o1_steps_parts o1_steps_minutes o1_steps_who o1_steps_amount o1_steps_length) sz)) (F0 m 141 ls [.int z0]) := by
    intro rc15 hrc15 z0 y2 y4 y5 y7 y10 v_t_minutes v_t_heldMinutes v_t_firstHeld v_t_pail_ice v_t_pail_saltGrams v_t_pail_brine v_t_pail_cold v_t_cream_water v_t_cream_sugar v_t_cream_fat v_t_cream_warm v_t_cream_layer v_t_cream_air v_t_cream_churned v_t_cream_scraped_total v_t_cream_scraped_grams v_t_crew_wearinesses v_t_stiffBehind H locs ls hf hP hD hS hl
    unfold f_X5_go_L141 at hf
    refine lv_istore (lv' := [(11, .int z0), (0, .ref a_t), (1, .ref a_o1), (2, .int y2), (4, .int y4), (5, .int y5), (6, .ref a_o1_steps), (7, .int y7), (10, .int y10)]) hx hb dX5_go_141 hl (by decide) rfl (fun ls hl => ?_)
    refine lv_iload_n hx hb dX5_go_143 rfl (lv_at hl 3 rfl) ?_
    refine lv_aload_n hx hb dX5_go_144 rfl (lv_at hl 1 rfl) ?_
    refine mg (ci := 5) 0 4 hx hb hG igX5 hown hP rfl rfl (by decide) (wd_1_206 hG.2.1) rfl rfl dX5_go_145 ?_
    refine lv_aload hx hb dX5_go_148 (lv_at hl 6 rfl) ?_
    refine mgN (ci := 7) 11 2 hx hb hG igX7 hown hP rfl rfl (by decide) (wd_1_64 hG.2.1) rfl rfl dX5_go_150 ?_
    refine lv_iload hx hb dX5_go_153 (lv_at hl 7 rfl) ?_
    obtain ⟨r155, hc155, hf⟩ := bd1_some hf
    refine cl_Ni (r := r155) (As := [.ref a_o1_steps_length, .int y7]) (w1 := (woX8_at cI cZ a_o1_steps_length 20 o1_steps_length)) (wN := (woX5_go cI cZ a_t a_t_pail a_t_cream a_t_crew a_t_stiffBehind a_t_cream_scraped a_t_cream_scraped_grams a_t_crew_wearinesses a_o1 a_o1_numbers a_o1_strengths a_o1_steps a_o1_swings a_o1_steps_who a_o1_steps_amount a_o1_steps_length v_t_minutes v_t_heldMinutes v_t_firstHeld v_t_pail_ice v_t_pail_saltGrams v_t_pail_brine v_t_pail_cold v_t_cream_water v_t_cream_sugar v_t_cream_fat v_t_cream_warm v_t_cream_layer v_t_cream_air v_t_cream_churned v_t_cream_scraped_total v_t_cream_scraped_grams v_t_crew_wearinesses v_t_stiffBehind o1_holds o1_numbers o1_strengths o1_steps_parts o1_steps_minutes o1_steps_who o1_steps_amount o1_steps_length)) [14] 0 0 (c_X8_at l dC dI cI cZ ts _ a_o1_steps_length 20 o1_steps_length y7 (r155) hc155) ⟨hx, hb, hml, hown, hG.2.1.hts _⟩ ⟨va_cnB 2 (hG.2.1.hts _) giX8_at rfl rfl rfl (va_Nw.of (A := #[]) rfl (wd_2_144 hG.2.1)) (wd_1_1 hG.2.1) hd_X8_at ⟨Nat.le_of_ble_eq_true rfl, Nat.le_of_ble_eq_true rfl⟩, wd_2_10 hG.2.1, trivial⟩ hG hP hD hS rfl rfl rfl rfl rfl hl.1 rfl (Nat.le_of_ble_eq_true rfl) dX5_go_155 ⟨Nat.zero_le _, Nat.zero_le _⟩ (fun H locs hP hD hS => ?_)
    refine lv_iadd hx hb dX5_go_158 ?_
    refine va_mmin hx hb (hml.trans hl.1.symm) hown (wd_2_149 hG.2.1) (wd_2_126 hG.2.1) (wd_1_11 hG.2.1) (wd_2_127 hG.2.1) (Nat.le_of_ble_eq_true rfl) (Nat.le_of_ble_eq_true rfl) (Nat.zero_le _) (Nat.zero_le _) dX5_go_159 ?_
    refine lv_istore (lv' := [(12, .int (if (v_t_minutes + r155) < y2 then (v_t_minutes + r155) else y2)), (11, .int z0), (0, .ref a_t), (1, .ref a_o1), (2, .int y2), (4, .int y4), (5, .int y5), (6, .ref a_o1_steps), (7, .int y7), (10, .int y10)]) hx hb dX5_go_162 hl (by decide) rfl (fun ls hl => ?_)
    refine lv_aload_n hx hb dX5_go_164 rfl (lv_at hl 2 rfl) ?_
    refine mg (ci := 5) 0 4 hx hb hG igX5 hown hP rfl rfl (by decide) (wd_1_206 hG.2.1) rfl rfl dX5_go_165 ?_
    refine lv_istore (lv' := [(13, .int v_t_minutes), (12, .int (if (v_t_minutes + r155) < y2 then (v_t_minutes + r155) else y2)), (11, .int z0), (0, .ref a_t), (1, .ref a_o1), (2, .int y2), (4, .int y4), (5, .int y5), (6, .ref a_o1_steps), (7, .int y7), (10, .int y10)]) hx hb dX5_go_168 hl (by decide) rfl (fun ls hl => ?_)
    exact L170 rc15 hrc15 FU y2 y4 y5 y7 y10 z0 (if (v_t_minutes + r155) < y2 then (v_t_minutes + r155) else y2) v_t_minutes v_t_minutes v_t_heldMinutes v_t_firstHeld v_t_pail_ice v_t_pail_saltGrams v_t_pail_brine v_t_pail_cold v_t_cream_water v_t_cream_sugar v_t_cream_fat v_t_cream_warm v_t_cream_layer v_t_cream_air v_t_cream_churned v_t_cream_scraped_total v_t_cream_scraped_grams v_t_crew_wearinesses v_t_stiffBehind _ _ _ hf hP hD hS (lv_sub hl [3, 4, 5, 6, 7, 8, 9, 10, 2, 1, 0] rfl)
  have L15 : ∀ (fu : Nat) (y2 : Int32) (y4 : Int32) (y5 : Int32) (y7 : Int32) (v_t_minutes : Int32) (v_t_heldMinutes : Int32) (v_t_firstHeld : Int32) (v_t_pail_ice : Int32) (v_t_pail_saltGrams : Int32) (v_t_pail_brine : Int32) (v_t_pail_cold : Int32) (v_t_cream_water : Int32) (v_t_cream_sugar : Int32) (v_t_cream_fat : Int32) (v_t_cream_warm : Int32) (v_t_cream_layer : Int32) (v_t_cream_air : Int32) (v_t_cream_churned : Int32) (v_t_cream_scraped_total : Int32) (v_t_cream_scraped_grams : Nat → Int32) (v_t_crew_wearinesses : Nat → Int32) (v_t_stiffBehind : Nat → Int32) (H : Heap) (locs : List Loc) (ls : Array Slot), f_X5_go_L15 o1_numbers o1_strengths o1_steps_parts o1_steps_minutes o1_steps_who o1_steps_amount o1_steps_length fu y2 y4 y5 y7 v_t_minutes v_t_heldMinutes v_t_firstHeld v_t_pail_ice v_t_pail_saltGrams v_t_pail_brine v_t_pail_cold v_t_cream_water v_t_cream_sugar v_t_cream_fat v_t_cream_warm v_t_cream_layer v_t_cream_air v_t_cream_churned v_t_cream_scraped_total v_t_cream_scraped_grams v_t_crew_wearinesses v_t_stiffBehind = some R → va_P (dC, dI) vwCl (woX5_go cI cZ a_t a_t_pail a_t_cream a_t_crew a_t_stiffBehind a_t_cream_scraped a_t_cream_scraped_grams a_t_crew_wearinesses a_o1 a_o1_numbers a_o1_strengths a_o1_steps a_o1_swings a_o1_steps_who a_o1_steps_amount a_o1_steps_length v_t_minutes v_t_heldMinutes v_t_firstHeld v_t_pail_ice v_t_pail_saltGrams v_t_pail_brine v_t_pail_cold v_t_cream_water v_t_cream_sugar v_t_cream_fat v_t_cream_warm v_t_cream_layer v_t_cream_air v_t_cream_churned v_t_cream_scraped_total v_t_cream_scraped_grams v_t_crew_wearinesses v_t_stiffBehind o1_holds o1_numbers o1_strengths o1_steps_parts o1_steps_minutes o1_steps_who o1_steps_amount o1_steps_length) H → va_D (va_A (woX5_go cI cZ a_t a_t_pail a_t_cream a_t_crew a_t_stiffBehind a_t_cream_scraped a_t_cream_scraped_grams a_t_crew_wearinesses a_o1 a_o1_numbers a_o1_strengths a_o1_steps a_o1_swings a_o1_steps_who a_o1_steps_amount a_o1_steps_length t_minutes t_heldMinutes t_firstHeld t_pail_ice t_pail_saltGrams t_pail_brine t_pail_cold t_cream_water t_cream_sugar t_cream_fat t_cream_warm t_cream_layer t_cream_air t_cream_churned t_cream_scraped_total t_cream_scraped_grams t_crew_wearinesses t_stiffBehind o1_holds o1_numbers o1_strengths o1_steps_parts o1_steps_minutes o1_steps_who o1_steps_amount o1_steps_length) sz) (woX5_go cI cZ a_t a_t_pail a_t_cream a_t_crew a_t_stiffBehind a_t_cream_scraped a_t_cream_scraped_grams a_t_crew_wearinesses a_o1 a_o1_numbers a_o1_strengths a_o1_steps a_o1_swings a_o1_steps_who a_o1_steps_amount a_o1_steps_length v_t_minutes v_t_heldMinutes v_t_firstHeld v_t_pail_ice v_t_pail_saltGrams v_t_pail_brine v_t_pail_cold v_t_cream_water v_t_cream_sugar v_t_cream_fat v_t_cream_warm v_t_cream_layer v_t_cream_air v_t_cream_churned v_t_cream_scraped_total v_t_cream_scraped_grams v_t_crew_wearinesses v_t_stiffBehind o1_holds o1_numbers o1_strengths o1_steps_parts o1_steps_minutes o1_steps_who o1_steps_amount o1_steps_length) → va_S (va_A (woX5_go cI cZ a_t a_t_pail a_t_cream a_t_crew a_t_stiffBehind a_t_cream_scraped a_t_cream_scraped_grams a_t_crew_wearinesses a_o1 a_o1_numbers a_o1_strengths a_o1_steps a_o1_swings a_o1_steps_who a_o1_steps_amount a_o1_steps_length t_minutes t_heldMinutes t_firstHeld t_pail_ice t_pail_saltGrams t_pail_brine t_pail_cold t_cream_water t_cream_sugar t_cream_fat t_cream_warm t_cream_layer t_cream_air t_cream_churned t_cream_scraped_total t_cream_scraped_grams t_crew_wearinesses t_stiffBehind o1_holds o1_numbers o1_strengths o1_steps_parts o1_steps_minutes o1_steps_who o1_steps_amount o1_steps_length) sz) s.heap H locs → lv_has ls 14 [(0, .ref a_t), (1, .ref a_o1), (2, .int y2), (4, .int y4), (5, .int y5), (6, .ref a_o1_steps), (7, .int y7)] → W p l e (headSpec wyX5_go rmX5_go).room s m ([Value.ref a_t, Value.ref a_o1, Value.int x2, Value.int x3, Value.int x4, Value.int x5] : List Value).toArray below meth c H locs 0 0 (MQ below (POSTv (dC, dI) sz (woX5_go cI cZ a_t a_t_pail a_t_cream a_t_crew a_t_stiffBehind a_t_cream_scraped a_t_cream_scraped_grams a_t_crew_wearinesses a_o1 a_o1_numbers a_o1_strengths a_o1_steps a_o1_swings a_o1_steps_who a_o1_steps_amount a_o1_steps_length t_minutes t_heldMinutes t_firstHeld t_pail_ice t_pail_saltGrams t_pail_brine t_pail_cold t_cream_water t_cream_sugar t_cream_fat t_cream_warm t_cream_layer t_cream_air t_cream_churned t_cream_scraped_total t_cream_scraped_grams t_crew_wearinesses t_stiffBehind o1_holds o1_numbers o1_strengths o1_steps_parts o1_steps_minutes o1_steps_who o1_steps_amount o1_steps_length) (woX5_go cI cZ a_t a_t_pail a_t_cream a_t_crew a_t_stiffBehind a_t_cream_scraped a_t_cream_scraped_grams a_t_crew_wearinesses a_o1 a_o1_numbers a_o1_strengths a_o1_steps a_o1_swings a_o1_steps_who a_o1_steps_amount a_o1_steps_length R.1 R.2.1 R.2.2.1 R.2.2.2.1 R.2.2.2.2.1 R.2.2.2.2.2.1 R.2.2.2.2.2.2.1 R.2.2.2.2.2.2.2.1 R.2.2.2.2.2.2.2.2.1 R.2.2.2.2.2.2.2.2.2.1 R.2.2.2.2.2.2.2.2.2.2.1 R.2.2.2.2.2.2.2.2.2.2.2.1 R.2.2.2.2.2.2.2.2.2.2.2.2.1 R.2.2.2.2.2.2.2.2.2.2.2.2.2.1 R.2.2.2.2.2.2.2.2.2.2.2.2.2.2.1 R.2.2.2.2.2.2.2.2.2.2.2.2.2.2.2.1 R.2.2.2.2.2.2.2.2.2.2.2.2.2.2.2.2.1 R.2.2.2.2.2.2.2.2.2.2.2.2.2.2.2.2.2 o1_holds o1_numbers o1_strengths o1_steps_parts o1_steps_minutes o1_steps_who o1_steps_amount o1_steps_length)) ([Value.ref a_t, Value.ref a_o1, Value.int x2, Value.int x3, Value.int x4, Value.int x5] : List Value).toArray s 0 0 (va_A (woX5_go cI cZ a_t a_t_pail a_t_cream a_t_crew a_t_stiffBehind a_t_cream_scraped a_t_cream_scraped_grams a_t_crew_wearinesses a_o1 a_o1_numbers a_o1_strengths a_o1_steps a_o1_swings a_o1_steps_who a_o1_steps_amount a_o1_steps_length t_minutes t_heldMinutes t_firstHeld t_pail_ice t_pail_saltGrams t_pail_brine t_pail_cold t_cream_water t_cream_sugar t_cream_fat t_cream_warm t_cream_layer t_cream_air t_cream_churned t_cream_scraped_total t_cream_scraped_grams t_crew_wearinesses t_stiffBehind o1_holds o1_numbers o1_strengths o1_steps_parts o1_steps_minutes o1_steps_who o1_steps_amount o1_steps_length) sz)) (F0 m 15 ls []) := by
    intro  fu
    induction fu with
    | zero => intro y2 y4 y5 y7 v_t_minutes v_t_heldMinutes v_t_firstHeld v_t_pail_ice v_t_pail_saltGrams v_t_pail_brine v_t_pail_cold v_t_cream_water v_t_cream_sugar v_t_cream_fat v_t_cream_warm v_t_cream_layer v_t_cream_air v_t_cream_churned v_t_cream_scraped_total v_t_cream_scraped_grams v_t_crew_wearinesses v_t_stiffBehind H locs ls hf; cases hf
    | succ fu ih =>
      intro y2 y4 y5 y7 v_t_minutes v_t_heldMinutes v_t_firstHeld v_t_pail_ice v_t_pail_saltGrams v_t_pail_brine v_t_pail_cold v_t_cream_water v_t_cream_sugar v_t_cream_fat v_t_cream_warm v_t_cream_layer v_t_cream_air v_t_cream_churned v_t_cream_scraped_total v_t_cream_scraped_grams v_t_crew_wearinesses v_t_stiffBehind H locs ls hf hP hD hS hl
      rw [f_X5_go_L15] at hf
      refine lv_iload hx hb dX5_go_15 (lv_at hl 6 rfl) ?_
      refine lv_aload hx hb dX5_go_17 (lv_at hl 5 rfl) ?_
      refine mgN (ci := 7) 11 3 hx hb hG igX7 hown hP rfl rfl (by decide) (wd_1_66 hG.2.1) rfl rfl dX5_go_19 ?_
      refine lv_icmp_ge (tgt := 206) hx hb dX5_go_22 (by decide) (fun c3 => ?_) (fun c3 => ?_)
      · have hf := (if_pos c3).symm.trans hf
        have hR := Option.some.inj hf
        rw [← hR]
        exact rt_v hx hb hr hlk hsz hP hD hS rfl dX5_go_206
      · have hf := (if_neg c3).symm.trans hf
        refine lv_aload hx hb dX5_go_25 (lv_at hl 5 rfl) ?_
        refine mgN (ci := 7) 11 0 hx hb hG igX7 hown hP rfl rfl (by decide) (wd_1_60 hG.2.1) rfl rfl dX5_go_27 ?_
        refine lv_iload hx hb dX5_go_30 (lv_at hl 6 rfl) ?_
        obtain ⟨r32, hc32, hf⟩ := bd1_some hf
        refine cl_Ni (r := r32) (As := [.ref a_o1_steps_who, .int y7]) (w1 := (woX8_at cI cZ a_o1_steps_who 20 o1_steps_who)) (wN := (woX5_go cI cZ a_t a_t_pail a_t_cream a_t_crew a_t_stiffBehind a_t_cream_scraped a_t_cream_scraped_grams a_t_crew_wearinesses a_o1 a_o1_numbers a_o1_strengths a_o1_steps a_o1_swings a_o1_steps_who a_o1_steps_amount a_o1_steps_length v_t_minutes v_t_heldMinutes v_t_firstHeld v_t_pail_ice v_t_pail_saltGrams v_t_pail_brine v_t_pail_cold v_t_cream_water v_t_cream_sugar v_t_cream_fat v_t_cream_warm v_t_cream_layer v_t_cream_air v_t_cream_churned v_t_cream_scraped_total v_t_cream_scraped_grams v_t_crew_wearinesses v_t_stiffBehind o1_holds o1_numbers o1_strengths o1_steps_parts o1_steps_minutes o1_steps_who o1_steps_amount o1_steps_length)) [12] 0 0 (c_X8_at l dC dI cI cZ ts _ a_o1_steps_who 20 o1_steps_who y7 (r32) hc32) ⟨hx, hb, hml, hown, hG.2.1.hts _⟩ ⟨va_cnB 2 (hG.2.1.hts _) giX8_at rfl rfl rfl (va_Nw.of (A := #[]) rfl (wd_2_144 hG.2.1)) (wd_1_1 hG.2.1) hd_X8_at ⟨Nat.le_of_ble_eq_true rfl, Nat.le_of_ble_eq_true rfl⟩, wd_2_10 hG.2.1, trivial⟩ hG hP hD hS rfl rfl rfl rfl rfl hl.1 rfl (Nat.le_of_ble_eq_true rfl) dX5_go_32 ⟨Nat.zero_le _, Nat.zero_le _⟩ (fun H locs hP hD hS => ?_)
        refine lv_istore (lv' := [(8, .int r32), (0, .ref a_t), (1, .ref a_o1), (2, .int y2), (4, .int y4), (5, .int y5), (6, .ref a_o1_steps), (7, .int y7)]) hx hb dX5_go_35 hl (by decide) rfl (fun ls hl => ?_)
        refine lv_aload hx hb dX5_go_37 (lv_at hl 6 rfl) ?_
        refine mgN (ci := 7) 11 1 hx hb hG igX7 hown hP rfl rfl (by decide) (wd_1_62 hG.2.1) rfl rfl dX5_go_39 ?_
        refine lv_iload hx hb dX5_go_42 (lv_at hl 7 rfl) ?_
        obtain ⟨r44, hc44, hf⟩ := bd1_some hf
        refine cl_Ni (r := r44) (As := [.ref a_o1_steps_amount, .int y7]) (w1 := (woX8_at cI cZ a_o1_steps_amount 20 o1_steps_amount)) (wN := (woX5_go cI cZ a_t a_t_pail a_t_cream a_t_crew a_t_stiffBehind a_t_cream_scraped a_t_cream_scraped_grams a_t_crew_wearinesses a_o1 a_o1_numbers a_o1_strengths a_o1_steps a_o1_swings a_o1_steps_who a_o1_steps_amount a_o1_steps_length v_t_minutes v_t_heldMinutes v_t_firstHeld v_t_pail_ice v_t_pail_saltGrams v_t_pail_brine v_t_pail_cold v_t_cream_water v_t_cream_sugar v_t_cream_fat v_t_cream_warm v_t_cream_layer v_t_cream_air v_t_cream_churned v_t_cream_scraped_total v_t_cream_scraped_grams v_t_crew_wearinesses v_t_stiffBehind o1_holds o1_numbers o1_strengths o1_steps_parts o1_steps_minutes o1_steps_who o1_steps_amount o1_steps_length)) [13] 0 0 (c_X8_at l dC dI cI cZ ts _ a_o1_steps_amount 20 o1_steps_amount y7 (r44) hc44) ⟨hx, hb, hml, hown, hG.2.1.hts _⟩ ⟨va_cnB 2 (hG.2.1.hts _) giX8_at rfl rfl rfl (va_Nw.of (A := #[]) rfl (wd_2_144 hG.2.1)) (wd_1_1 hG.2.1) hd_X8_at ⟨Nat.le_of_ble_eq_true rfl, Nat.le_of_ble_eq_true rfl⟩, wd_2_10 hG.2.1, trivial⟩ hG hP hD hS rfl rfl rfl rfl rfl hl.1 rfl (Nat.le_of_ble_eq_true rfl) dX5_go_44 ⟨Nat.zero_le _, Nat.zero_le _⟩ (fun H locs hP hD hS => ?_)
        refine lv_istore (lv' := [(9, .int r44), (8, .int r32), (0, .ref a_t), (1, .ref a_o1), (2, .int y2), (4, .int y4), (5, .int y5), (6, .ref a_o1_steps), (7, .int y7)]) hx hb dX5_go_47 hl (by decide) rfl (fun ls hl => ?_)
        refine lv_iload hx hb dX5_go_49 (lv_at hl 1 rfl) ?_
        refine lv_iconst (v := 5) hx hb dX5_go_51 (by decide) ?_
        refine lv_icmp_ne (tgt := 108) hx hb dX5_go_52 (by decide) (fun c4 => ?_) (fun c4 => ?_)
        · have hf := (if_neg c4).symm.trans hf
          refine lv_iload hx hb dX5_go_108 (lv_at hl 1 rfl) ?_
          obtain ⟨r110, hc110, hf⟩ := bd1_some hf
          refine cl_Ni (r := r110) (As := [.int r32]) (w1 := []) (wN := (woX5_go cI cZ a_t a_t_pail a_t_cream a_t_crew a_t_stiffBehind a_t_cream_scraped a_t_cream_scraped_grams a_t_crew_wearinesses a_o1 a_o1_numbers a_o1_strengths a_o1_steps a_o1_swings a_o1_steps_who a_o1_steps_amount a_o1_steps_length v_t_minutes v_t_heldMinutes v_t_firstHeld v_t_pail_ice v_t_pail_saltGrams v_t_pail_brine v_t_pail_cold v_t_cream_water v_t_cream_sugar v_t_cream_fat v_t_cream_warm v_t_cream_layer v_t_cream_air v_t_cream_churned v_t_cream_scraped_total v_t_cream_scraped_grams v_t_crew_wearinesses v_t_stiffBehind o1_holds o1_numbers o1_strengths o1_steps_parts o1_steps_minutes o1_steps_who o1_steps_amount o1_steps_length)) [] 0 0 (c_X8_isChild l dC dI cI cZ ts _ r32 (r110) hc110) ⟨hx, hb, hml, hown, hG.2.1.hts _⟩ ⟨va_cnB 1 (hG.2.1.hts _) giX8_isChild rfl rfl rfl (va_Nw.of (A := #[]) rfl (wd_2_145 hG.2.1)) (wd_1_1 hG.2.1) hd_X8_isChild ⟨Nat.le_of_ble_eq_true rfl, Nat.le_of_ble_eq_true rfl⟩, wd_2_27 hG.2.1, trivial⟩ hG hP hD hS rfl rfl rfl rfl rfl hl.1 rfl (Nat.le_of_ble_eq_true rfl) dX5_go_110 ⟨Nat.zero_le _, Nat.zero_le _⟩ (fun H locs hP hD hS => ?_)
          refine lv_if_eq (tgt := 126) hx hb dX5_go_113 (by decide) (fun c5 => ?_) (fun c5 => ?_)
          · have hf := (if_pos c5).symm.trans hf
            refine lv_iconst (v := 4) hx hb dX5_go_126 (by decide) ?_
            refine lv_istore (lv' := [(10, .int (4 : Int32)), (9, .int r44), (8, .int r32), (0, .ref a_t), (1, .ref a_o1), (2, .int y2), (4, .int y4), (5, .int y5), (6, .ref a_o1_steps), (7, .int y7)]) hx hb dX5_go_127 hl (by decide) rfl (fun ls hl => ?_)
            refine lv_iload hx hb dX5_go_129 (lv_at hl 7 rfl) ?_
            refine lv_if_ne (tgt := 139) hx hb dX5_go_131 (by decide) (fun c6 => ?_) (fun c6 => ?_)
            · have hf := (if_neg c6).symm.trans hf
              refine lv_iload hx hb dX5_go_139 (lv_at hl 7 rfl) ?_
              exact L141 (f_X5_go_L15 o1_numbers o1_strengths o1_steps_parts o1_steps_minutes o1_steps_who o1_steps_amount o1_steps_length fu) ih y5 y2 y4 y5 y7 (4 : Int32) v_t_minutes v_t_heldMinutes v_t_firstHeld v_t_pail_ice v_t_pail_saltGrams v_t_pail_brine v_t_pail_cold v_t_cream_water v_t_cream_sugar v_t_cream_fat v_t_cream_warm v_t_cream_layer v_t_cream_air v_t_cream_churned v_t_cream_scraped_total v_t_cream_scraped_grams v_t_crew_wearinesses v_t_stiffBehind _ _ _ hf hP hD hS (lv_sub hl [3, 4, 5, 6, 7, 8, 9, 0] rfl)
            · have hf := (if_pos c6).symm.trans hf
              refine lv_iload hx hb dX5_go_134 (lv_at hl 1 rfl) ?_
              refine lv_goto (tgt := 141) hx hb dX5_go_136 (by decide) ?_
              exact L141 (f_X5_go_L15 o1_numbers o1_strengths o1_steps_parts o1_steps_minutes o1_steps_who o1_steps_amount o1_steps_length fu) ih r44 y2 y4 y5 y7 (4 : Int32) v_t_minutes v_t_heldMinutes v_t_firstHeld v_t_pail_ice v_t_pail_saltGrams v_t_pail_brine v_t_pail_cold v_t_cream_water v_t_cream_sugar v_t_cream_fat v_t_cream_warm v_t_cream_layer v_t_cream_air v_t_cream_churned v_t_cream_scraped_total v_t_cream_scraped_grams v_t_crew_wearinesses v_t_stiffBehind _ _ _ hf hP hD hS (lv_sub hl [3, 4, 5, 6, 7, 8, 9, 0] rfl)
          · have hf := (if_neg c5).symm.trans hf
            refine lv_iload hx hb dX5_go_116 (lv_at hl 5 rfl) ?_
            refine lv_iload hx hb dX5_go_118 (lv_at hl 1 rfl) ?_
            obtain ⟨r120, hc120, hf⟩ := bd1_some hf
            refine cl_Ni (r := r120) (As := [.int y4, .int r32]) (w1 := []) (wN := (woX5_go cI cZ a_t a_t_pail a_t_cream a_t_crew a_t_stiffBehind a_t_cream_scraped a_t_cream_scraped_grams a_t_crew_wearinesses a_o1 a_o1_numbers a_o1_strengths a_o1_steps a_o1_swings a_o1_steps_who a_o1_steps_amount a_o1_steps_length v_t_minutes v_t_heldMinutes v_t_firstHeld v_t_pail_ice v_t_pail_saltGrams v_t_pail_brine v_t_pail_cold v_t_cream_water v_t_cream_sugar v_t_cream_fat v_t_cream_warm v_t_cream_layer v_t_cream_air v_t_cream_churned v_t_cream_scraped_total v_t_cream_scraped_grams v_t_crew_wearinesses v_t_stiffBehind o1_holds o1_numbers o1_strengths o1_steps_parts o1_steps_minutes o1_steps_who o1_steps_amount o1_steps_length)) [] 0 0 (c_X8_childInPlace l dC dI cI cZ ts _ y4 r32 (r120) hc120) ⟨hx, hb, hml, hown, hG.2.1.hts _⟩ ⟨va_cnB 2 (hG.2.1.hts _) giX8_childInPlace rfl rfl rfl (va_Nw.of (A := #[]) rfl (wd_2_146 hG.2.1)) (wd_1_1 hG.2.1) hd_X8_childInPlace ⟨Nat.le_of_ble_eq_true rfl, Nat.le_of_ble_eq_true rfl⟩, wd_2_147 hG.2.1, trivial⟩ hG hP hD hS rfl rfl rfl rfl rfl hl.1 rfl (Nat.le_of_ble_eq_true rfl) dX5_go_120 ⟨Nat.zero_le _, Nat.zero_le _⟩ (fun H locs hP hD hS => ?_)
            refine lv_goto (tgt := 127) hx hb dX5_go_123 (by decide) ?_
            refine lv_istore (lv' := [(10, .int r120), (9, .int r44), (8, .int r32), (0, .ref a_t), (1, .ref a_o1), (2, .int y2), (4, .int y4), (5, .int y5), (6, .ref a_o1_steps), (7, .int y7)]) hx hb dX5_go_127 hl (by decide) rfl (fun ls hl => ?_)
            refine lv_iload hx hb dX5_go_129 (lv_at hl 7 rfl) ?_
            refine lv_if_ne (tgt := 139) hx hb dX5_go_131 (by decide) (fun c7 => ?_) (fun c7 => ?_)
            · have hf := (if_neg c7).symm.trans hf
              refine lv_iload hx hb dX5_go_139 (lv_at hl 7 rfl) ?_
              exact L141 (f_X5_go_L15 o1_numbers o1_strengths o1_steps_parts o1_steps_minutes o1_steps_who o1_steps_amount o1_steps_length fu) ih y5 y2 y4 y5 y7 r120 v_t_minutes v_t_heldMinutes v_t_firstHeld v_t_pail_ice v_t_pail_saltGrams v_t_pail_brine v_t_pail_cold v_t_cream_water v_t_cream_sugar v_t_cream_fat v_t_cream_warm v_t_cream_layer v_t_cream_air v_t_cream_churned v_t_cream_scraped_total v_t_cream_scraped_grams v_t_crew_wearinesses v_t_stiffBehind _ _ _ hf hP hD hS (lv_sub hl [3, 4, 5, 6, 7, 8, 9, 0] rfl)
            · have hf := (if_pos c7).symm.trans hf
              refine lv_iload hx hb dX5_go_134 (lv_at hl 1 rfl) ?_
              refine lv_goto (tgt := 141) hx hb dX5_go_136 (by decide) ?_
              exact L141 (f_X5_go_L15 o1_numbers o1_strengths o1_steps_parts o1_steps_minutes o1_steps_who o1_steps_amount o1_steps_length fu) ih r44 y2 y4 y5 y7 r120 v_t_minutes v_t_heldMinutes v_t_firstHeld v_t_pail_ice v_t_pail_saltGrams v_t_pail_brine v_t_pail_cold v_t_cream_water v_t_cream_sugar v_t_cream_fat v_t_cream_warm v_t_cream_layer v_t_cream_air v_t_cream_churned v_t_cream_scraped_total v_t_cream_scraped_grams v_t_crew_wearinesses v_t_stiffBehind _ _ _ hf hP hD hS (lv_sub hl [3, 4, 5, 6, 7, 8, 9, 0] rfl)
        · have hf := (if_pos c4).symm.trans hf
          refine lv_aload_n hx hb dX5_go_55 rfl (lv_at hl 2 rfl) ?_
          refine mg (ci := 5) 0 4 hx hb hG igX5 hown hP rfl rfl (by decide) (wd_1_206 hG.2.1) rfl rfl dX5_go_56 ?_
          refine lv_iload_n hx hb dX5_go_59 rfl (lv_at hl 4 rfl) ?_
          refine lv_icmp_lt (tgt := 72) hx hb dX5_go_60 (by decide) (fun c8 => ?_) (fun c8 => ?_)
          · have hf := (if_pos c8).symm.trans hf
            refine lv_iconst (v := 1) hx hb dX5_go_72 (by decide) ?_
            refine lv_goto (tgt := 77) hx hb dX5_go_73 (by decide) ?_
            exact L77 (f_X5_go_L15 o1_numbers o1_strengths o1_steps_parts o1_steps_minutes o1_steps_who o1_steps_amount o1_steps_length fu) ih (1 : Int32) y2 y4 y5 y7 r44 v_t_minutes v_t_heldMinutes v_t_firstHeld v_t_pail_ice v_t_pail_saltGrams v_t_pail_brine v_t_pail_cold v_t_cream_water v_t_cream_sugar v_t_cream_fat v_t_cream_warm v_t_cream_layer v_t_cream_air v_t_cream_churned v_t_cream_scraped_total v_t_cream_scraped_grams v_t_crew_wearinesses v_t_stiffBehind _ _ _ hf hP hD hS (lv_sub hl [2, 3, 4, 5, 6, 7, 8, 0] rfl)
          · have hf := (if_neg c8).symm.trans hf
            refine lv_iload_n hx hb dX5_go_63 rfl (lv_at hl 4 rfl) ?_
            refine lv_aload hx hb dX5_go_64 (lv_at hl 7 rfl) ?_
            refine mgN (ci := 7) 11 4 hx hb hG igX7 hown hP rfl rfl (by decide) (wd_1_69 hG.2.1) rfl rfl dX5_go_66 ?_
            refine lv_icmp_ne (tgt := 76) hx hb dX5_go_69 (by decide) (fun c9 => ?_) (fun c9 => ?_)
            · have hf := (if_neg c9).symm.trans hf
              refine lv_iconst (v := 0) hx hb dX5_go_76 (by decide) ?_
              exact L77 (f_X5_go_L15 o1_numbers o1_strengths o1_steps_parts o1_steps_minutes o1_steps_who o1_steps_amount o1_steps_length fu) ih (0 : Int32) y2 y4 y5 y7 r44 v_t_minutes v_t_heldMinutes v_t_firstHeld v_t_pail_ice v_t_pail_saltGrams v_t_pail_brine v_t_pail_cold v_t_cream_water v_t_cream_sugar v_t_cream_fat v_t_cream_warm v_t_cream_layer v_t_cream_air v_t_cream_churned v_t_cream_scraped_total v_t_cream_scraped_grams v_t_crew_wearinesses v_t_stiffBehind _ _ _ hf hP hD hS (lv_sub hl [2, 3, 4, 5, 6, 7, 8, 0] rfl)
            · have hf := (if_pos c9).symm.trans hf
              refine lv_iconst (v := 1) hx hb dX5_go_72 (by decide) ?_
              refine lv_goto (tgt := 77) hx hb dX5_go_73 (by decide) ?_
              exact L77 (f_X5_go_L15 o1_numbers o1_strengths o1_steps_parts o1_steps_minutes o1_steps_who o1_steps_amount o1_steps_length fu) ih (1 : Int32) y2 y4 y5 y7 r44 v_t_minutes v_t_heldMinutes v_t_firstHeld v_t_pail_ice v_t_pail_saltGrams v_t_pail_brine v_t_pail_cold v_t_cream_water v_t_cream_sugar v_t_cream_fat v_t_cream_warm v_t_cream_layer v_t_cream_air v_t_cream_churned v_t_cream_scraped_total v_t_cream_scraped_grams v_t_crew_wearinesses v_t_stiffBehind _ _ _ hf hP hD hS (lv_sub hl [2, 3, 4, 5, 6, 7, 8, 0] rfl)
  have hl := lv_entry ([.ref a_t, .ref a_o1, .int x2, .int x3, .int x4, .int x5]) (n := 14) (Nat.le_of_ble_eq_true rfl)
  rw [lg_entry_eq]
  generalize (lg_sl ([.ref a_t, .ref a_o1, .int x2, .int x3, .int x4, .int x5]) ++ List.replicate (14 - (lg_sl ([.ref a_t, .ref a_o1, .int x2, .int x3, .int x4, .int x5])).length) Slot.unset).toArray = ls at hl ⊢
  have hl : lv_has ls 14 [(0, .ref a_t), (1, .ref a_o1), (2, .int x2), (3, .int x3), (4, .int x4), (5, .int x5)] := hl
  unfold f_X5_go at hf
  refine lv_aload_n hx hb dX5_go_0 rfl (lv_at hl 0 rfl) ?_
  refine lv_aload_n hx hb dX5_go_1 rfl (lv_at hl 1 rfl) ?_
  refine lv_iload_n hx hb dX5_go_2 rfl (lv_at hl 3 rfl) ?_
  obtain ⟨g3_0, g3_1, g3_2, g3_3, g3_4, g3_5, g3_6, g3_7, g3_8, g3_9, g3_10, g3_11, g3_12, g3_13, g3_14, g3_15, g3_16, hc3, hf⟩ := bd17_some hf
  refine cl_Vv (b := a_t) (As := [.ref a_o1, .int x3]) (w1 := (woX5_begin cI cZ a_t a_t_pail a_t_cream a_t_crew a_t_stiffBehind a_t_cream_scraped a_t_cream_scraped_grams a_t_crew_wearinesses a_o1 a_o1_numbers a_o1_strengths a_o1_steps a_o1_swings g3_0 g3_1 g3_2 g3_3 g3_4 g3_5 g3_6 g3_7 g3_8 g3_9 g3_10 g3_11 g3_12 g3_13 g3_14 g3_15 g3_16 o1_holds o1_numbers)) (wN := (woX5_go cI cZ a_t a_t_pail a_t_cream a_t_crew a_t_stiffBehind a_t_cream_scraped a_t_cream_scraped_grams a_t_crew_wearinesses a_o1 a_o1_numbers a_o1_strengths a_o1_steps a_o1_swings a_o1_steps_who a_o1_steps_amount a_o1_steps_length g3_0 g3_1 g3_2 g3_3 g3_4 g3_5 g3_6 g3_7 g3_8 g3_9 g3_10 g3_11 g3_12 g3_13 g3_14 g3_15 g3_16 t_stiffBehind o1_holds o1_numbers o1_strengths o1_steps_parts o1_steps_minutes o1_steps_who o1_steps_amount o1_steps_length)) [0, 1, 2, 3, 4, 5, 6, 8, 9] 0 5 (c_X5_begin l dC dI cI cZ ts _ a_t a_t_pail a_t_cream a_t_crew a_t_stiffBehind a_t_cream_scraped a_t_cream_scraped_grams a_t_crew_wearinesses a_o1 a_o1_numbers a_o1_strengths a_o1_steps a_o1_swings t_minutes t_heldMinutes t_firstHeld t_pail_ice t_pail_saltGrams t_pail_brine t_pail_cold t_cream_water t_cream_sugar t_cream_fat t_cream_warm t_cream_layer t_cream_air t_cream_churned t_cream_scraped_total t_cream_scraped_grams t_crew_wearinesses o1_holds o1_numbers x3 (g3_0, g3_1, g3_2, g3_3, g3_4, g3_5, g3_6, g3_7, g3_8, g3_9, g3_10, g3_11, g3_12, g3_13, g3_14, g3_15, g3_16) hc3) ⟨hx, hb, hml, hown, hG.2.1.hts _⟩ ⟨callB_of 2 (hG.2.1.hts _) giX5_begin rfl rfl rfl (wd_1_5 hG.2.1) (wd_2_109 hG.2.1) hd_X5_begin ⟨Nat.le_of_ble_eq_true rfl, Nat.le_of_ble_eq_true rfl⟩, wd_2_111 hG.2.1, ws_4 hG.2.1⟩ hG hP hD hS rfl rfl rfl rfl rfl rfl rfl rfl hl.1 rfl (Nat.le_of_ble_eq_true rfl) dX5_go_3 ⟨Nat.zero_le _, Nat.zero_le _⟩ (fun H locs hP hD hS => ?_)
  refine lv_aload_n hx hb dX5_go_6 rfl (lv_at hl 1 rfl) ?_
  refine mgN (ci := 4) 8 3 hx hb hG igX4 hown hP rfl rfl (by decide) (wd_1_92 hG.2.1) rfl rfl dX5_go_7 ?_
  refine lv_astore (lv' := [(6, .ref a_o1_steps), (0, .ref a_t), (1, .ref a_o1), (2, .int x2), (3, .int x3), (4, .int x4), (5, .int x5)]) hx hb dX5_go_10 hl (by decide) rfl (fun ls hl => ?_)
  refine lv_iconst (v := 0) hx hb dX5_go_12 (by decide) ?_
  refine lv_istore (lv' := [(7, .int (0 : Int32)), (6, .ref a_o1_steps), (0, .ref a_t), (1, .ref a_o1), (2, .int x2), (3, .int x3), (4, .int x4), (5, .int x5)]) hx hb dX5_go_13 hl (by decide) rfl (fun ls hl => ?_)
  exact L15 FU x2 x4 x5 (0 : Int32) g3_0 g3_1 g3_2 g3_3 g3_4 g3_5 g3_6 g3_7 g3_8 g3_9 g3_10 g3_11 g3_12 g3_13 g3_14 g3_15 g3_16 t_stiffBehind _ _ _ hf hP hD hS (lv_sub hl [2, 3, 4, 6, 7, 1, 0] rfl)
abbrev woX5_number (cI cZ : ClassId) (a_t a_t_pail a_t_cream a_t_crew a_t_stiffBehind a_t_cream_scraped a_t_cream_scraped_grams : Nat) (t_minutes : Int32) (t_heldMinutes : Int32) (t_firstHeld : Int32) (t_pail_ice : Int32) (t_pail_saltGrams : Int32) (t_pail_brine : Int32) (t_pail_cold : Int32) (t_cream_water : Int32) (t_cream_sugar : Int32) (t_cream_fat : Int32) (t_cream_warm : Int32) (t_cream_layer : Int32) (t_cream_air : Int32) (t_cream_churned : Int32) (t_cream_scraped_total : Int32) (t_cream_scraped_grams : Nat → Int32) : va_W := [(a_t, .inr (5, [.ref a_t_pail, .ref a_t_cream, .ref a_t_crew, .ref a_t_stiffBehind, .int t_minutes, .int t_heldMinutes, .int t_firstHeld])), (a_t_pail, .inr (3, [.int t_pail_ice, .int t_pail_saltGrams, .int t_pail_brine, .int t_pail_cold])), (a_t_cream, .inr (0, [.int t_cream_water, .int t_cream_sugar, .int t_cream_fat, .int t_cream_warm, .int t_cream_layer, .int t_cream_air, .int t_cream_churned, .ref a_t_cream_scraped])), (a_t_cream_scraped, .inr (2, [.ref a_t_cream_scraped_grams, .int t_cream_scraped_total])), (a_t_cream_scraped_grams, .inl (cI, 64, .inl t_cream_scraped_grams))]
abbrev rmX5_number : Room := { frames := 3, cells := 0, slots := 0, locals := 64 }
theorem hd_X5_number : yX5_number.cls ≠ "java/lang/invoke/MethodHandle" ∧ yX5_number.cls ≠ "java/lang/invoke/VarHandle" ∧ (parseMethodDescriptor yX5_number.desc).map (fun d => d.parameters.length) = some 1 := by decide +kernel
set_option maxHeartbeats 4000000 in
set_option maxRecDepth 100000 in
theorem c_X5_number (l : Launch) (dC : Nat → ClassId) (dI : Nat → Nat → Nat) (cI cZ : ClassId) (ts : Nat → Nat) (sz : Nat) (a_t a_t_pail a_t_cream a_t_crew a_t_stiffBehind a_t_cream_scraped a_t_cream_scraped_grams : Nat) (t_minutes : Int32) (t_heldMinutes : Int32) (t_firstHeld : Int32) (t_pail_ice : Int32) (t_pail_saltGrams : Int32) (t_pail_brine : Int32) (t_pail_cold : Int32) (t_cream_water : Int32) (t_cream_sugar : Int32) (t_cream_fat : Int32) (t_cream_warm : Int32) (t_cream_layer : Int32) (t_cream_air : Int32) (t_cream_churned : Int32) (t_cream_scraped_total : Int32) (t_cream_scraped_grams : Nat → Int32) (x1 : Int32) (R : Int32) (hf : f_X5_number t_pail_ice t_pail_saltGrams t_pail_brine t_pail_cold t_cream_water t_cream_sugar t_cream_warm t_cream_layer t_cream_air t_cream_churned t_cream_scraped_total t_cream_scraped_grams x1 = some R) : Met l yX5_number wyX5_number rmX5_number (PRE (dC, dI) cI cZ ts [.ref a_t, .int x1] sz (woX5_number cI cZ a_t a_t_pail a_t_cream a_t_crew a_t_stiffBehind a_t_cream_scraped a_t_cream_scraped_grams t_minutes t_heldMinutes t_firstHeld t_pail_ice t_pail_saltGrams t_pail_brine t_pail_cold t_cream_water t_cream_sugar t_cream_fat t_cream_warm t_cream_layer t_cream_air t_cream_churned t_cream_scraped_total t_cream_scraped_grams)) (POSTi (dC, dI) R sz (woX5_number cI cZ a_t a_t_pail a_t_cream a_t_crew a_t_stiffBehind a_t_cream_scraped a_t_cream_scraped_grams t_minutes t_heldMinutes t_firstHeld t_pail_ice t_pail_saltGrams t_pail_brine t_pail_cold t_cream_water t_cream_sugar t_cream_fat t_cream_warm t_cream_layer t_cream_air t_cream_churned t_cream_scraped_total t_cream_scraped_grams) (woX5_number cI cZ a_t a_t_pail a_t_cream a_t_crew a_t_stiffBehind a_t_cream_scraped a_t_cream_scraped_grams t_minutes t_heldMinutes t_firstHeld t_pail_ice t_pail_saltGrams t_pail_brine t_pail_cold t_cream_water t_cream_sugar t_cream_fat t_cream_warm t_cream_layer t_cream_air t_cream_churned t_cream_scraped_total t_cream_scraped_grams)) 0 0 (va_A (woX5_number cI cZ a_t a_t_pail a_t_cream a_t_crew a_t_stiffBehind a_t_cream_scraped a_t_cream_scraped_grams t_minutes t_heldMinutes t_firstHeld t_pail_ice t_pail_saltGrams t_pail_brine t_pail_cold t_cream_water t_cream_sugar t_cream_fat t_cream_warm t_cream_layer t_cream_air t_cream_churned t_cream_scraped_total t_cream_scraped_grams) sz) := by
  refine Met.ofW (cc := cX5_number) (maxL := 2) (ret := (some .int)) (by decide) rfl ?_
  intro p e s m args below meth c s₁ B hml hv
  obtain ⟨rfl, hv⟩ := hv
  have hG := hg_of hv
  obtain ⟨hsz, hP, -, hD0, -⟩ := hv
  have hx := B.exec
  have hb := B.bytes
  have hr := B.returns
  have hlk := B.notSynchronized
  have hown : s.vm.findClass RX5 = some m.cls := findClass_of_methodNamed B.named
  have hD := hD0.self (sz := sz)
  have hS : va_S (va_A (woX5_number cI cZ a_t a_t_pail a_t_cream a_t_crew a_t_stiffBehind a_t_cream_scraped a_t_cream_scraped_grams t_minutes t_heldMinutes t_firstHeld t_pail_ice t_pail_saltGrams t_pail_brine t_pail_cold t_cream_water t_cream_sugar t_cream_fat t_cream_warm t_cream_layer t_cream_air t_cream_churned t_cream_scraped_total t_cream_scraped_grams) sz) s.heap s.heap [] := va_S.rf
  have hl := lv_entry ([.ref a_t, .int x1]) (n := 2) (Nat.le_of_ble_eq_true rfl)
  rw [lg_entry_eq]
  generalize (lg_sl ([.ref a_t, .int x1]) ++ List.replicate (2 - (lg_sl ([.ref a_t, .int x1])).length) Slot.unset).toArray = ls at hl ⊢
  have hl : lv_has ls 2 [(0, .ref a_t), (1, .int x1)] := hl
  unfold f_X5_number at hf
  refine lv_iload_n hx hb dX5_number_0 rfl (lv_at hl 1 rfl) ?_
  by_cases c1 : x1 = 0
  · have hf := (if_pos c1).symm.trans hf
    refine sw_in 0 0 hx hb c1 dX5_number_1 (by decide) (by decide) (by decide) rfl (tgt := 60) (by decide) ?_
    refine lv_aload_n hx hb dX5_number_60 rfl (lv_at hl 0 rfl) ?_
    refine mg (ci := 5) 0 0 hx hb hG igX5 hown hP rfl rfl (by decide) (wd_1_199 hG.2.1) rfl rfl dX5_number_61 ?_
    refine mgN (ci := 3) 1 0 hx hb hG igX3 hown hP rfl rfl (by decide) (wd_1_120 hG.2.1) rfl rfl dX5_number_64 ?_
    have hR := Option.some.inj hf
    rw [← hR]
    exact rt_i hx hb hr hlk hsz hP hD hS rfl rfl dX5_number_67
  have hf := (if_neg c1).symm.trans hf
  by_cases c2 : x1 = 1
  · have hf := (if_pos c2).symm.trans hf
    refine sw_in 1 1 hx hb c2 dX5_number_1 (by decide) (by decide) (by decide) rfl (tgt := 68) (by decide) ?_
    refine lv_aload_n hx hb dX5_number_68 rfl (lv_at hl 0 rfl) ?_
    refine mg (ci := 5) 0 0 hx hb hG igX5 hown hP rfl rfl (by decide) (wd_1_199 hG.2.1) rfl rfl dX5_number_69 ?_
    refine mgN (ci := 3) 1 1 hx hb hG igX3 hown hP rfl rfl (by decide) (wd_1_122 hG.2.1) rfl rfl dX5_number_72 ?_
    have hR := Option.some.inj hf
    rw [← hR]
    exact rt_i hx hb hr hlk hsz hP hD hS rfl rfl dX5_number_75
  have hf := (if_neg c2).symm.trans hf
  by_cases c3 : x1 = 2
  · have hf := (if_pos c3).symm.trans hf
    refine sw_in 2 2 hx hb c3 dX5_number_1 (by decide) (by decide) (by decide) rfl (tgt := 76) (by decide) ?_
    refine lv_aload_n hx hb dX5_number_76 rfl (lv_at hl 0 rfl) ?_
    refine mg (ci := 5) 0 0 hx hb hG igX5 hown hP rfl rfl (by decide) (wd_1_199 hG.2.1) rfl rfl dX5_number_77 ?_
    refine mgN (ci := 3) 1 2 hx hb hG igX3 hown hP rfl rfl (by decide) (wd_1_124 hG.2.1) rfl rfl dX5_number_80 ?_
    have hR := Option.some.inj hf
    rw [← hR]
    exact rt_i hx hb hr hlk hsz hP hD hS rfl rfl dX5_number_83
  have hf := (if_neg c3).symm.trans hf
  by_cases c4 : x1 = 3
  · have hf := (if_pos c4).symm.trans hf
    refine sw_in 3 3 hx hb c4 dX5_number_1 (by decide) (by decide) (by decide) rfl (tgt := 84) (by decide) ?_
    refine lv_aload_n hx hb dX5_number_84 rfl (lv_at hl 0 rfl) ?_
    refine mg (ci := 5) 0 0 hx hb hG igX5 hown hP rfl rfl (by decide) (wd_1_199 hG.2.1) rfl rfl dX5_number_85 ?_
    refine mgN (ci := 3) 1 3 hx hb hG igX3 hown hP rfl rfl (by decide) (wd_1_126 hG.2.1) rfl rfl dX5_number_88 ?_
    have hR := Option.some.inj hf
    rw [← hR]
    exact rt_i hx hb hr hlk hsz hP hD hS rfl rfl dX5_number_91
  have hf := (if_neg c4).symm.trans hf
  by_cases c5 : x1 = 4
  · have hf := (if_pos c5).symm.trans hf
    refine sw_in 4 4 hx hb c5 dX5_number_1 (by decide) (by decide) (by decide) rfl (tgt := 92) (by decide) ?_
    refine lv_aload_n hx hb dX5_number_92 rfl (lv_at hl 0 rfl) ?_
    refine mg (ci := 5) 0 1 hx hb hG igX5 hown hP rfl rfl (by decide) (wd_1_200 hG.2.1) rfl rfl dX5_number_93 ?_
    refine mgN (ci := 0) 2 3 hx hb hG igX0 hown hP rfl rfl (by decide) (wd_1_162 hG.2.1) rfl rfl dX5_number_96 ?_
    refine lv_sipush (v := 1000) hx hb dX5_number_99 (by decide) ?_
    refine lv_iadd hx hb dX5_number_102 ?_
    have hR := Option.some.inj hf
    rw [← hR]
    exact rt_i hx hb hr hlk hsz hP hD hS rfl rfl dX5_number_103
  have hf := (if_neg c5).symm.trans hf
  by_cases c6 : x1 = 5
  · have hf := (if_pos c6).symm.trans hf
    refine sw_in 5 5 hx hb c6 dX5_number_1 (by decide) (by decide) (by decide) rfl (tgt := 104) (by decide) ?_
    refine lv_aload_n hx hb dX5_number_104 rfl (lv_at hl 0 rfl) ?_
    refine mg (ci := 5) 0 1 hx hb hG igX5 hown hP rfl rfl (by decide) (wd_1_200 hG.2.1) rfl rfl dX5_number_105 ?_
    refine mgN (ci := 0) 2 7 hx hb hG igX0 hown hP rfl rfl (by decide) (wd_1_170 hG.2.1) rfl rfl dX5_number_108 ?_
    refine mgN (ci := 2) 3 1 hx hb hG igX2 hown hP rfl rfl (by decide) (wd_1_151 hG.2.1) rfl rfl dX5_number_111 ?_
    have hR := Option.some.inj hf
    rw [← hR]
    exact rt_i hx hb hr hlk hsz hP hD hS rfl rfl dX5_number_114
  have hf := (if_neg c6).symm.trans hf
  by_cases c7 : x1 = 6
  · have hf := (if_pos c7).symm.trans hf
    refine sw_in 6 6 hx hb c7 dX5_number_1 (by decide) (by decide) (by decide) rfl (tgt := 115) (by decide) ?_
    refine lv_aload_n hx hb dX5_number_115 rfl (lv_at hl 0 rfl) ?_
    refine mg (ci := 5) 0 1 hx hb hG igX5 hown hP rfl rfl (by decide) (wd_1_200 hG.2.1) rfl rfl dX5_number_116 ?_
    refine mgN (ci := 0) 2 4 hx hb hG igX0 hown hP rfl rfl (by decide) (wd_1_164 hG.2.1) rfl rfl dX5_number_119 ?_
    have hR := Option.some.inj hf
    rw [← hR]
    exact rt_i hx hb hr hlk hsz hP hD hS rfl rfl dX5_number_122
  have hf := (if_neg c7).symm.trans hf
  by_cases c8 : x1 = 7
  · have hf := (if_pos c8).symm.trans hf
    refine sw_in 7 7 hx hb c8 dX5_number_1 (by decide) (by decide) (by decide) rfl (tgt := 123) (by decide) ?_
    refine lv_aload_n hx hb dX5_number_123 rfl (lv_at hl 0 rfl) ?_
    refine mg (ci := 5) 0 1 hx hb hG igX5 hown hP rfl rfl (by decide) (wd_1_200 hG.2.1) rfl rfl dX5_number_124 ?_
    refine mgN (ci := 0) 2 5 hx hb hG igX0 hown hP rfl rfl (by decide) (wd_1_166 hG.2.1) rfl rfl dX5_number_127 ?_
    have hR := Option.some.inj hf
    rw [← hR]
    exact rt_i hx hb hr hlk hsz hP hD hS rfl rfl dX5_number_130
  have hf := (if_neg c8).symm.trans hf
  by_cases c9 : x1 = 8
  · have hf := (if_pos c9).symm.trans hf
    refine sw_in 8 8 hx hb c9 dX5_number_1 (by decide) (by decide) (by decide) rfl (tgt := 131) (by decide) ?_
    refine lv_aload_n hx hb dX5_number_131 rfl (lv_at hl 0 rfl) ?_
    refine mg (ci := 5) 0 1 hx hb hG igX5 hown hP rfl rfl (by decide) (wd_1_200 hG.2.1) rfl rfl dX5_number_132 ?_
    obtain ⟨r135, hc135, hf⟩ := bd1_some hf
    refine cl_Vi (r := r135) (b := a_t_cream) (As := []) (w1 := (woX0_stiff cI cZ a_t_cream a_t_cream_scraped a_t_cream_scraped_grams t_cream_water t_cream_sugar t_cream_fat t_cream_warm t_cream_layer t_cream_air t_cream_churned t_cream_scraped_total)) (wN := (woX5_number cI cZ a_t a_t_pail a_t_cream a_t_crew a_t_stiffBehind a_t_cream_scraped a_t_cream_scraped_grams t_minutes t_heldMinutes t_firstHeld t_pail_ice t_pail_saltGrams t_pail_brine t_pail_cold t_cream_water t_cream_sugar t_cream_fat t_cream_warm t_cream_layer t_cream_air t_cream_churned t_cream_scraped_total t_cream_scraped_grams)) [2, 3] 2 0 (c_X0_stiff l dC dI cI cZ ts _ a_t_cream a_t_cream_scraped a_t_cream_scraped_grams t_cream_water t_cream_sugar t_cream_fat t_cream_warm t_cream_layer t_cream_air t_cream_churned t_cream_scraped_total (r135) hc135) ⟨hx, hb, hml, hown, hG.2.1.hts _⟩ ⟨callB_of 0 (hG.2.1.hts _) giX0_stiff rfl rfl rfl (wd_1_7 hG.2.1) (wd_2_154 hG.2.1) hd_X0_stiff ⟨Nat.le_of_ble_eq_true rfl, Nat.le_of_ble_eq_true rfl⟩, wd_2_155 hG.2.1, wd_2_156 hG.2.1⟩ hG hP hD hS rfl rfl rfl rfl rfl rfl rfl rfl hl.1 rfl (Nat.le_of_ble_eq_true rfl) dX5_number_135 ⟨Nat.zero_le _, Nat.zero_le _⟩ (fun H locs hP hD hS => ?_)
    have hR := Option.some.inj hf
    rw [← hR]
    exact rt_i hx hb hr hlk hsz hP hD hS rfl rfl dX5_number_138
  have hf := (if_neg c9).symm.trans hf
  by_cases c10 : x1 = 9
  · have hf := (if_pos c10).symm.trans hf
    refine sw_in 9 9 hx hb c10 dX5_number_1 (by decide) (by decide) (by decide) rfl (tgt := 139) (by decide) ?_
    refine lv_aload_n hx hb dX5_number_139 rfl (lv_at hl 0 rfl) ?_
    refine mg (ci := 5) 0 1 hx hb hG igX5 hown hP rfl rfl (by decide) (wd_1_200 hG.2.1) rfl rfl dX5_number_140 ?_
    refine mgN (ci := 0) 2 6 hx hb hG igX0 hown hP rfl rfl (by decide) (wd_1_168 hG.2.1) rfl rfl dX5_number_143 ?_
    have hR := Option.some.inj hf
    rw [← hR]
    exact rt_i hx hb hr hlk hsz hP hD hS rfl rfl dX5_number_146
  have hf := (if_neg c10).symm.trans hf
  by_cases c11 : x1 = 10
  · have hf := (if_pos c11).symm.trans hf
    refine sw_in 10 10 hx hb c11 dX5_number_1 (by decide) (by decide) (by decide) rfl (tgt := 147) (by decide) ?_
    refine lv_aload_n hx hb dX5_number_147 rfl (lv_at hl 0 rfl) ?_
    refine mg (ci := 5) 0 1 hx hb hG igX5 hown hP rfl rfl (by decide) (wd_1_200 hG.2.1) rfl rfl dX5_number_148 ?_
    refine mgN (ci := 0) 2 7 hx hb hG igX0 hown hP rfl rfl (by decide) (wd_1_170 hG.2.1) rfl rfl dX5_number_151 ?_
    obtain ⟨r154, hc154, hf⟩ := bd1_some hf
    refine cl_Vi (r := r154) (b := a_t_cream_scraped) (As := []) (w1 := (woX2_coarse cI cZ a_t_cream_scraped a_t_cream_scraped_grams t_cream_scraped_total t_cream_scraped_grams)) (wN := (woX5_number cI cZ a_t a_t_pail a_t_cream a_t_crew a_t_stiffBehind a_t_cream_scraped a_t_cream_scraped_grams t_minutes t_heldMinutes t_firstHeld t_pail_ice t_pail_saltGrams t_pail_brine t_pail_cold t_cream_water t_cream_sugar t_cream_fat t_cream_warm t_cream_layer t_cream_air t_cream_churned t_cream_scraped_total t_cream_scraped_grams)) [3, 4] 3 2 (c_X2_coarse l dC dI cI cZ ts _ a_t_cream_scraped a_t_cream_scraped_grams t_cream_scraped_total t_cream_scraped_grams (r154) hc154) ⟨hx, hb, hml, hown, hG.2.1.hts _⟩ ⟨callB_of 0 (hG.2.1.hts _) giX2_coarse rfl rfl rfl (wd_1_8 hG.2.1) (wd_2_213 hG.2.1) hd_X2_coarse ⟨Nat.le_of_ble_eq_true rfl, Nat.le_of_ble_eq_true rfl⟩, wd_2_214 hG.2.1, wd_2_215 hG.2.1⟩ hG hP hD hS rfl rfl rfl rfl rfl rfl rfl rfl hl.1 rfl (Nat.le_of_ble_eq_true rfl) dX5_number_154 ⟨Nat.zero_le _, Nat.zero_le _⟩ (fun H locs hP hD hS => ?_)
    have hR := Option.some.inj hf
    rw [← hR]
    exact rt_i hx hb hr hlk hsz hP hD hS rfl rfl dX5_number_157
  have hf := (if_neg c11).symm.trans hf
  have o_c1 := lv_neT c1 (k := 0) (a := 0) (by decide)
  have o_c2 := lv_neT c2 (k := 1) (a := 1) (by decide)
  have o_c3 := lv_neT c3 (k := 2) (a := 2) (by decide)
  have o_c4 := lv_neT c4 (k := 3) (a := 3) (by decide)
  have o_c5 := lv_neT c5 (k := 4) (a := 4) (by decide)
  have o_c6 := lv_neT c6 (k := 5) (a := 5) (by decide)
  have o_c7 := lv_neT c7 (k := 6) (a := 6) (by decide)
  have o_c8 := lv_neT c8 (k := 7) (a := 7) (by decide)
  have o_c9 := lv_neT c9 (k := 8) (a := 8) (by decide)
  have o_c10 := lv_neT c10 (k := 9) (a := 9) (by decide)
  have o_c11 := lv_neT c11 (k := 10) (a := 10) (by decide)
  refine lv_tableOut hx hb dX5_number_1 (by omega) (tgt := 158) (by decide) ?_
  refine lv_aload_n hx hb dX5_number_158 rfl (lv_at hl 0 rfl) ?_
  refine mg (ci := 5) 0 1 hx hb hG igX5 hown hP rfl rfl (by decide) (wd_1_200 hG.2.1) rfl rfl dX5_number_159 ?_
  obtain ⟨r162, hc162, hf⟩ := bd1_some hf
  refine cl_Vi (r := r162) (b := a_t_cream) (As := []) (w1 := (woX0_line cI cZ a_t_cream a_t_cream_scraped a_t_cream_scraped_grams t_cream_water t_cream_sugar t_cream_fat t_cream_warm t_cream_layer t_cream_air t_cream_churned t_cream_scraped_total)) (wN := (woX5_number cI cZ a_t a_t_pail a_t_cream a_t_crew a_t_stiffBehind a_t_cream_scraped a_t_cream_scraped_grams t_minutes t_heldMinutes t_firstHeld t_pail_ice t_pail_saltGrams t_pail_brine t_pail_cold t_cream_water t_cream_sugar t_cream_fat t_cream_warm t_cream_layer t_cream_air t_cream_churned t_cream_scraped_total t_cream_scraped_grams)) [2, 3] 2 0 (c_X0_line l dC dI cI cZ ts _ a_t_cream a_t_cream_scraped a_t_cream_scraped_grams t_cream_water t_cream_sugar t_cream_fat t_cream_warm t_cream_layer t_cream_air t_cream_churned t_cream_scraped_total (r162) hc162) ⟨hx, hb, hml, hown, hG.2.1.hts _⟩ ⟨callB_of 0 (hG.2.1.hts _) giX0_line rfl rfl rfl (wd_1_7 hG.2.1) (wd_2_222 hG.2.1) hd_X0_line ⟨Nat.le_of_ble_eq_true rfl, Nat.le_of_ble_eq_true rfl⟩, wd_2_179 hG.2.1, wd_2_180 hG.2.1⟩ hG hP hD hS rfl rfl rfl rfl rfl rfl rfl rfl hl.1 rfl (Nat.le_of_ble_eq_true rfl) dX5_number_162 ⟨Nat.zero_le _, Nat.zero_le _⟩ (fun H locs hP hD hS => ?_)
  have hR := Option.some.inj hf
  rw [← hR]
  exact rt_i hx hb hr hlk hsz hP hD hS rfl rfl dX5_number_165
abbrev woX6_add (cI cZ : ClassId) (a_t a_t_codes : Nat) (t_count : Int32) (t_codes : Nat → Int32) : va_W := [(a_t, .inr (6, [.ref a_t_codes, .int t_count])), (a_t_codes, .inl (cI, 40, .inl t_codes))]
abbrev rmX6_add : Room := { frames := 1, cells := 0, slots := 0, locals := 22 }
theorem hd_X6_add : yX6_add.cls ≠ "java/lang/invoke/MethodHandle" ∧ yX6_add.cls ≠ "java/lang/invoke/VarHandle" ∧ (parseMethodDescriptor yX6_add.desc).map (fun d => d.parameters.length) = some 1 := by decide +kernel
set_option maxHeartbeats 4000000 in
set_option maxRecDepth 100000 in
theorem c_X6_add (l : Launch) (dC : Nat → ClassId) (dI : Nat → Nat → Nat) (cI cZ : ClassId) (ts : Nat → Nat) (sz : Nat) (a_t a_t_codes : Nat) (t_count : Int32) (t_codes : Nat → Int32) (x1 : Int32) (R : Int32 × (Nat → Int32)) (hf : f_X6_add t_count t_codes x1 = some R) : Met l yX6_add wyX6_add rmX6_add (PRE (dC, dI) cI cZ ts [.ref a_t, .int x1] sz (woX6_add cI cZ a_t a_t_codes t_count t_codes)) (POSTv (dC, dI) sz (woX6_add cI cZ a_t a_t_codes t_count t_codes) (woX6_add cI cZ a_t a_t_codes R.1 R.2)) 0 0 (va_A (woX6_add cI cZ a_t a_t_codes t_count t_codes) sz) := by
  refine Met.ofW (cc := cX6_add) (maxL := 2) (ret := none) (by decide) rfl ?_
  intro p e s m args below meth c s₁ B hml hv
  obtain ⟨rfl, hv⟩ := hv
  have hG := hg_of hv
  obtain ⟨hsz, hP, -, hD0, -⟩ := hv
  have hx := B.exec
  have hb := B.bytes
  have hr := B.returns
  have hlk := B.notSynchronized
  have hown : s.vm.findClass RX6 = some m.cls := findClass_of_methodNamed B.named
  have hD := hD0.self (sz := sz)
  have hS : va_S (va_A (woX6_add cI cZ a_t a_t_codes t_count t_codes) sz) s.heap s.heap [] := va_S.rf
  have hl := lv_entry ([.ref a_t, .int x1]) (n := 2) (Nat.le_of_ble_eq_true rfl)
  rw [lg_entry_eq]
  generalize (lg_sl ([.ref a_t, .int x1]) ++ List.replicate (2 - (lg_sl ([.ref a_t, .int x1])).length) Slot.unset).toArray = ls at hl ⊢
  have hl : lv_has ls 2 [(0, .ref a_t), (1, .int x1)] := hl
  unfold f_X6_add at hf
  refine lv_aload_n hx hb dX6_add_0 rfl (lv_at hl 0 rfl) ?_
  refine mg (ci := 6) 0 0 hx hb hG igX6 hown hP rfl rfl (by decide) (wd_1_26 hG.2.1) rfl rfl dX6_add_1 ?_
  refine lv_aload_n hx hb dX6_add_4 rfl (lv_at hl 0 rfl) ?_
  refine mg (ci := 6) 0 1 hx hb hG igX6 hown hP rfl rfl (by decide) (wd_1_27 hG.2.1) rfl rfl dX6_add_5 ?_
  refine lv_iload_n hx hb dX6_add_8 rfl (lv_at hl 1 rfl) ?_
  obtain ⟨g9_0, hc9, hf⟩ := bd1_some hf
  refine cl_Nv (As := [.ref a_t_codes, .int t_count, .int x1]) (w1 := (woX8_put cI cZ a_t_codes 40 g9_0)) (wN := (woX6_add cI cZ a_t a_t_codes t_count g9_0)) [1] 0 0 (c_X8_put l dC dI cI cZ ts _ a_t_codes 40 t_codes t_count x1 (g9_0) hc9) ⟨hx, hb, hml, hown, hG.2.1.hts _⟩ ⟨va_cnB 3 (hG.2.1.hts _) giX8_put rfl rfl rfl (va_Nw.of (A := #[]) rfl (wd_2_37 hG.2.1)) (wd_1_1 hG.2.1) hd_X8_put ⟨Nat.le_of_ble_eq_true rfl, Nat.le_of_ble_eq_true rfl⟩, wd_2_20 hG.2.1, trivial⟩ hG hP hD hS rfl rfl rfl rfl rfl hl.1 rfl (Nat.le_of_ble_eq_true rfl) dX6_add_9 ⟨Nat.zero_le _, Nat.zero_le _⟩ (fun H locs hP hD hS => ?_)
  refine lv_aload_n hx hb dX6_add_12 rfl (lv_at hl 0 rfl) ?_
  refine lv_dup hx hb dX6_add_13 rfl ?_
  refine mg (ci := 6) 0 1 hx hb hG igX6 hown hP rfl rfl (by decide) (wd_1_27 hG.2.1) rfl rfl dX6_add_14 ?_
  refine lv_iconst (v := 1) hx hb dX6_add_17 (by decide) ?_
  refine lv_iadd hx hb dX6_add_18 ?_
  refine mp (ci := 6) (wN := (woX6_add cI cZ a_t a_t_codes (t_count + (1 : Int32)) g9_0)) 0 1 hx hb hG igX6 tyX6 tyX6_ok nmX6 hown hP hD hS rfl rfl (by decide) (wd_1_27 hG.2.1) rfl rfl rfl rfl rfl (Nat.le_of_ble_eq_true rfl) rfl dX6_add_19 (fun H locs hP hD hS => ?_)
  have hR := Option.some.inj hf
  rw [← hR]
  exact rt_v hx hb hr hlk hsz hP hD hS rfl dX6_add_22
abbrev woX6_clear (cI cZ : ClassId) (a_t a_t_codes : Nat) (t_count : Int32) : va_W := [(a_t, .inr (6, [.ref a_t_codes, .int t_count]))]
abbrev rmX6_clear : Room := { frames := 0, cells := 0, slots := 0, locals := 0 }
theorem hd_X6_clear : yX6_clear.cls ≠ "java/lang/invoke/MethodHandle" ∧ yX6_clear.cls ≠ "java/lang/invoke/VarHandle" ∧ (parseMethodDescriptor yX6_clear.desc).map (fun d => d.parameters.length) = some 0 := by decide +kernel
set_option maxHeartbeats 4000000 in
set_option maxRecDepth 100000 in
theorem c_X6_clear (l : Launch) (dC : Nat → ClassId) (dI : Nat → Nat → Nat) (cI cZ : ClassId) (ts : Nat → Nat) (sz : Nat) (a_t a_t_codes : Nat) (t_count : Int32) (R : Int32) (hf : f_X6_clear t_count = some R) : Met l yX6_clear wyX6_clear rmX6_clear (PRE (dC, dI) cI cZ ts [.ref a_t] sz (woX6_clear cI cZ a_t a_t_codes t_count)) (POSTv (dC, dI) sz (woX6_clear cI cZ a_t a_t_codes t_count) (woX6_clear cI cZ a_t a_t_codes R)) 0 0 (va_A (woX6_clear cI cZ a_t a_t_codes t_count) sz) := by
  refine Met.ofW (cc := cX6_clear) (maxL := 1) (ret := none) (by decide) rfl ?_
  intro p e s m args below meth c s₁ B hml hv
  obtain ⟨rfl, hv⟩ := hv
  have hG := hg_of hv
  obtain ⟨hsz, hP, -, hD0, -⟩ := hv
  have hx := B.exec
  have hb := B.bytes
  have hr := B.returns
  have hlk := B.notSynchronized
  have hown : s.vm.findClass RX6 = some m.cls := findClass_of_methodNamed B.named
  have hD := hD0.self (sz := sz)
  have hS : va_S (va_A (woX6_clear cI cZ a_t a_t_codes t_count) sz) s.heap s.heap [] := va_S.rf
  have hl := lv_entry ([.ref a_t]) (n := 1) (Nat.le_of_ble_eq_true rfl)
  rw [lg_entry_eq]
  generalize (lg_sl ([.ref a_t]) ++ List.replicate (1 - (lg_sl ([.ref a_t])).length) Slot.unset).toArray = ls at hl ⊢
  have hl : lv_has ls 1 [(0, .ref a_t)] := hl
  unfold f_X6_clear at hf
  refine lv_aload_n hx hb dX6_clear_0 rfl (lv_at hl 0 rfl) ?_
  refine lv_iconst (v := 0) hx hb dX6_clear_1 (by decide) ?_
  refine mp (ci := 6) (wN := (woX6_clear cI cZ a_t a_t_codes (0 : Int32))) 0 1 hx hb hG igX6 tyX6 tyX6_ok nmX6 hown hP hD hS rfl rfl (by decide) (wd_1_27 hG.2.1) rfl rfl rfl rfl rfl (Nat.le_of_ble_eq_true rfl) rfl dX6_clear_2 (fun H locs hP hD hS => ?_)
  have hR := Option.some.inj hf
  rw [← hR]
  exact rt_v hx hb hr hlk hsz hP hD hS rfl dX6_clear_5
abbrev woX6_codeAt (cI cZ : ClassId) (a_t a_t_codes : Nat) (t_count : Int32) (t_codes : Nat → Int32) : va_W := [(a_t, .inr (6, [.ref a_t_codes, .int t_count])), (a_t_codes, .inl (cI, 40, .inl t_codes))]
abbrev rmX6_codeAt : Room := { frames := 1, cells := 0, slots := 0, locals := 21 }
theorem hd_X6_codeAt : yX6_codeAt.cls ≠ "java/lang/invoke/MethodHandle" ∧ yX6_codeAt.cls ≠ "java/lang/invoke/VarHandle" ∧ (parseMethodDescriptor yX6_codeAt.desc).map (fun d => d.parameters.length) = some 1 := by decide +kernel
set_option maxHeartbeats 4000000 in
set_option maxRecDepth 100000 in
theorem c_X6_codeAt (l : Launch) (dC : Nat → ClassId) (dI : Nat → Nat → Nat) (cI cZ : ClassId) (ts : Nat → Nat) (sz : Nat) (a_t a_t_codes : Nat) (t_count : Int32) (t_codes : Nat → Int32) (x1 : Int32) (R : Int32) (hf : f_X6_codeAt t_codes x1 = some R) : Met l yX6_codeAt wyX6_codeAt rmX6_codeAt (PRE (dC, dI) cI cZ ts [.ref a_t, .int x1] sz (woX6_codeAt cI cZ a_t a_t_codes t_count t_codes)) (POSTi (dC, dI) R sz (woX6_codeAt cI cZ a_t a_t_codes t_count t_codes) (woX6_codeAt cI cZ a_t a_t_codes t_count t_codes)) 0 0 (va_A (woX6_codeAt cI cZ a_t a_t_codes t_count t_codes) sz) := by
  refine Met.ofW (cc := cX6_codeAt) (maxL := 2) (ret := (some .int)) (by decide) rfl ?_
  intro p e s m args below meth c s₁ B hml hv
  obtain ⟨rfl, hv⟩ := hv
  have hG := hg_of hv
  obtain ⟨hsz, hP, -, hD0, -⟩ := hv
  have hx := B.exec
  have hb := B.bytes
  have hr := B.returns
  have hlk := B.notSynchronized
  have hown : s.vm.findClass RX6 = some m.cls := findClass_of_methodNamed B.named
  have hD := hD0.self (sz := sz)
  have hS : va_S (va_A (woX6_codeAt cI cZ a_t a_t_codes t_count t_codes) sz) s.heap s.heap [] := va_S.rf
  have hl := lv_entry ([.ref a_t, .int x1]) (n := 2) (Nat.le_of_ble_eq_true rfl)
  rw [lg_entry_eq]
  generalize (lg_sl ([.ref a_t, .int x1]) ++ List.replicate (2 - (lg_sl ([.ref a_t, .int x1])).length) Slot.unset).toArray = ls at hl ⊢
  have hl : lv_has ls 2 [(0, .ref a_t), (1, .int x1)] := hl
  unfold f_X6_codeAt at hf
  refine lv_aload_n hx hb dX6_codeAt_0 rfl (lv_at hl 0 rfl) ?_
  refine mg (ci := 6) 0 0 hx hb hG igX6 hown hP rfl rfl (by decide) (wd_1_26 hG.2.1) rfl rfl dX6_codeAt_1 ?_
  refine lv_iload_n hx hb dX6_codeAt_4 rfl (lv_at hl 1 rfl) ?_
  obtain ⟨r5, hc5, hf⟩ := bd1_some hf
  refine cl_Ni (r := r5) (As := [.ref a_t_codes, .int x1]) (w1 := (woX8_at cI cZ a_t_codes 40 t_codes)) (wN := (woX6_codeAt cI cZ a_t a_t_codes t_count t_codes)) [1] 0 0 (c_X8_at l dC dI cI cZ ts _ a_t_codes 40 t_codes x1 (r5) hc5) ⟨hx, hb, hml, hown, hG.2.1.hts _⟩ ⟨va_cnB 2 (hG.2.1.hts _) giX8_at rfl rfl rfl (va_Nw.of (A := #[]) rfl (wd_2_62 hG.2.1)) (wd_1_1 hG.2.1) hd_X8_at ⟨Nat.le_of_ble_eq_true rfl, Nat.le_of_ble_eq_true rfl⟩, wd_2_10 hG.2.1, trivial⟩ hG hP hD hS rfl rfl rfl rfl rfl hl.1 rfl (Nat.le_of_ble_eq_true rfl) dX6_codeAt_5 ⟨Nat.zero_le _, Nat.zero_le _⟩ (fun H locs hP hD hS => ?_)
  have hR := Option.some.inj hf
  rw [← hR]
  exact rt_i hx hb hr hlk hsz hP hD hS rfl rfl dX6_codeAt_8
abbrev woX6_digitAt (cI cZ : ClassId) (a_t a_t_codes : Nat) (t_count : Int32) (t_codes : Nat → Int32) : va_W := [(a_t, .inr (6, [.ref a_t_codes, .int t_count])), (a_t_codes, .inl (cI, 40, .inl t_codes))]
abbrev rmX6_digitAt : Room := { frames := 2, cells := 0, slots := 0, locals := 42 }
theorem hd_X6_digitAt : yX6_digitAt.cls ≠ "java/lang/invoke/MethodHandle" ∧ yX6_digitAt.cls ≠ "java/lang/invoke/VarHandle" ∧ (parseMethodDescriptor yX6_digitAt.desc).map (fun d => d.parameters.length) = some 1 := by decide +kernel
set_option maxHeartbeats 4000000 in
set_option maxRecDepth 100000 in
theorem c_X6_digitAt (l : Launch) (dC : Nat → ClassId) (dI : Nat → Nat → Nat) (cI cZ : ClassId) (ts : Nat → Nat) (sz : Nat) (a_t a_t_codes : Nat) (t_count : Int32) (t_codes : Nat → Int32) (x1 : Int32) (R : Int32) (hf : f_X6_digitAt t_codes x1 = some R) : Met l yX6_digitAt wyX6_digitAt rmX6_digitAt (PRE (dC, dI) cI cZ ts [.ref a_t, .int x1] sz (woX6_digitAt cI cZ a_t a_t_codes t_count t_codes)) (POSTi (dC, dI) R sz (woX6_digitAt cI cZ a_t a_t_codes t_count t_codes) (woX6_digitAt cI cZ a_t a_t_codes t_count t_codes)) 0 0 (va_A (woX6_digitAt cI cZ a_t a_t_codes t_count t_codes) sz) := by
  refine Met.ofW (cc := cX6_digitAt) (maxL := 2) (ret := (some .int)) (by decide) rfl ?_
  intro p e s m args below meth c s₁ B hml hv
  obtain ⟨rfl, hv⟩ := hv
  have hG := hg_of hv
  obtain ⟨hsz, hP, -, hD0, -⟩ := hv
  have hx := B.exec
  have hb := B.bytes
  have hr := B.returns
  have hlk := B.notSynchronized
  have hown : s.vm.findClass RX6 = some m.cls := findClass_of_methodNamed B.named
  have hD := hD0.self (sz := sz)
  have hS : va_S (va_A (woX6_digitAt cI cZ a_t a_t_codes t_count t_codes) sz) s.heap s.heap [] := va_S.rf
  have hl := lv_entry ([.ref a_t, .int x1]) (n := 2) (Nat.le_of_ble_eq_true rfl)
  rw [lg_entry_eq]
  generalize (lg_sl ([.ref a_t, .int x1]) ++ List.replicate (2 - (lg_sl ([.ref a_t, .int x1])).length) Slot.unset).toArray = ls at hl ⊢
  have hl : lv_has ls 2 [(0, .ref a_t), (1, .int x1)] := hl
  unfold f_X6_digitAt at hf
  refine lv_aload_n hx hb dX6_digitAt_0 rfl (lv_at hl 0 rfl) ?_
  refine lv_iload_n hx hb dX6_digitAt_1 rfl (lv_at hl 1 rfl) ?_
  obtain ⟨r2, hc2, hf⟩ := bd1_some hf
  refine cl_Vi (r := r2) (b := a_t) (As := [.int x1]) (w1 := (woX6_codeAt cI cZ a_t a_t_codes t_count t_codes)) (wN := (woX6_digitAt cI cZ a_t a_t_codes t_count t_codes)) [0, 1] 0 6 (c_X6_codeAt l dC dI cI cZ ts _ a_t a_t_codes t_count t_codes x1 (r2) hc2) ⟨hx, hb, hml, hown, hG.2.1.hts _⟩ ⟨callB_of 1 (hG.2.1.hts _) giX6_codeAt rfl rfl rfl (wd_1_2 hG.2.1) (wd_2_58 hG.2.1) hd_X6_codeAt ⟨Nat.le_of_ble_eq_true rfl, Nat.le_of_ble_eq_true rfl⟩, wd_2_59 hG.2.1, wd_2_60 hG.2.1⟩ hG hP hD hS rfl rfl rfl rfl rfl rfl rfl rfl hl.1 rfl (Nat.le_of_ble_eq_true rfl) dX6_digitAt_2 ⟨Nat.zero_le _, Nat.zero_le _⟩ (fun H locs hP hD hS => ?_)
  refine lv_bipush (v := 48) hx hb dX6_digitAt_5 (by decide) ?_
  refine lv_isub hx hb dX6_digitAt_7 ?_
  have hR := Option.some.inj hf
  rw [← hR]
  exact rt_i hx hb hr hlk hsz hP hD hS rfl rfl dX6_digitAt_8
abbrev woX6_isDigitAt (cI cZ : ClassId) (a_t a_t_codes : Nat) (t_count : Int32) (t_codes : Nat → Int32) : va_W := [(a_t, .inr (6, [.ref a_t_codes, .int t_count])), (a_t_codes, .inl (cI, 40, .inl t_codes))]
abbrev rmX6_isDigitAt : Room := { frames := 3, cells := 0, slots := 0, locals := 63 }
theorem hd_X6_isDigitAt : yX6_isDigitAt.cls ≠ "java/lang/invoke/MethodHandle" ∧ yX6_isDigitAt.cls ≠ "java/lang/invoke/VarHandle" ∧ (parseMethodDescriptor yX6_isDigitAt.desc).map (fun d => d.parameters.length) = some 2 := by decide +kernel
set_option maxHeartbeats 4000000 in
set_option maxRecDepth 100000 in
theorem c_X6_isDigitAt (l : Launch) (dC : Nat → ClassId) (dI : Nat → Nat → Nat) (cI cZ : ClassId) (ts : Nat → Nat) (sz : Nat) (a_t a_t_codes : Nat) (t_count : Int32) (t_codes : Nat → Int32) (x1 : Int32) (x2 : Int32) (R : Int32) (hf : f_X6_isDigitAt t_codes x1 x2 = some R) : Met l yX6_isDigitAt wyX6_isDigitAt rmX6_isDigitAt (PRE (dC, dI) cI cZ ts [.ref a_t, .int x1, .int x2] sz (woX6_isDigitAt cI cZ a_t a_t_codes t_count t_codes)) (POSTi (dC, dI) R sz (woX6_isDigitAt cI cZ a_t a_t_codes t_count t_codes) (woX6_isDigitAt cI cZ a_t a_t_codes t_count t_codes)) 0 0 (va_A (woX6_isDigitAt cI cZ a_t a_t_codes t_count t_codes) sz) := by
  refine Met.ofW (cc := cX6_isDigitAt) (maxL := 3) (ret := (some .boolean)) (by decide) rfl ?_
  intro p e s m args below meth c s₁ B hml hv
  obtain ⟨rfl, hv⟩ := hv
  have hG := hg_of hv
  obtain ⟨hsz, hP, -, hD0, -⟩ := hv
  have hx := B.exec
  have hb := B.bytes
  have hr := B.returns
  have hlk := B.notSynchronized
  have hown : s.vm.findClass RX6 = some m.cls := findClass_of_methodNamed B.named
  have hD := hD0.self (sz := sz)
  have hS : va_S (va_A (woX6_isDigitAt cI cZ a_t a_t_codes t_count t_codes) sz) s.heap s.heap [] := va_S.rf
  have hl := lv_entry ([.ref a_t, .int x1, .int x2]) (n := 3) (Nat.le_of_ble_eq_true rfl)
  rw [lg_entry_eq]
  generalize (lg_sl ([.ref a_t, .int x1, .int x2]) ++ List.replicate (3 - (lg_sl ([.ref a_t, .int x1, .int x2])).length) Slot.unset).toArray = ls at hl ⊢
  have hl : lv_has ls 3 [(0, .ref a_t), (1, .int x1), (2, .int x2)] := hl
  unfold f_X6_isDigitAt at hf
  refine lv_aload_n hx hb dX6_isDigitAt_0 rfl (lv_at hl 0 rfl) ?_
  refine lv_iload_n hx hb dX6_isDigitAt_1 rfl (lv_at hl 1 rfl) ?_
  obtain ⟨r2, hc2, hf⟩ := bd1_some hf
  refine cl_Vi (r := r2) (b := a_t) (As := [.int x1]) (w1 := (woX6_digitAt cI cZ a_t a_t_codes t_count t_codes)) (wN := (woX6_isDigitAt cI cZ a_t a_t_codes t_count t_codes)) [0, 1] 0 6 (c_X6_digitAt l dC dI cI cZ ts _ a_t a_t_codes t_count t_codes x1 (r2) hc2) ⟨hx, hb, hml, hown, hG.2.1.hts _⟩ ⟨callB_of 1 (hG.2.1.hts _) giX6_digitAt rfl rfl rfl (wd_1_2 hG.2.1) (wd_2_70 hG.2.1) hd_X6_digitAt ⟨Nat.le_of_ble_eq_true rfl, Nat.le_of_ble_eq_true rfl⟩, wd_2_71 hG.2.1, wd_2_72 hG.2.1⟩ hG hP hD hS rfl rfl rfl rfl rfl rfl rfl rfl hl.1 rfl (Nat.le_of_ble_eq_true rfl) dX6_isDigitAt_2 ⟨Nat.zero_le _, Nat.zero_le _⟩ (fun H locs hP hD hS => ?_)
  refine lv_iload_n hx hb dX6_isDigitAt_5 rfl (lv_at hl 2 rfl) ?_
  refine lv_icmp_lt (tgt := 23) hx hb dX6_isDigitAt_6 (by decide) (fun c1 => ?_) (fun c1 => ?_)
  · have hf := (if_pos c1).symm.trans hf
    refine lv_iconst (v := 0) hx hb dX6_isDigitAt_23 (by decide) ?_
    have hR := Option.some.inj hf
    rw [← hR]
    exact rt_z hx hb hr hlk rfl hsz hP hD hS rfl rfl dX6_isDigitAt_24
  · have hf := (if_neg c1).symm.trans hf
    refine lv_aload_n hx hb dX6_isDigitAt_9 rfl (lv_at hl 0 rfl) ?_
    refine lv_iload_n hx hb dX6_isDigitAt_10 rfl (lv_at hl 1 rfl) ?_
    obtain ⟨r11, hc11, hf⟩ := bd1_some hf
    refine cl_Vi (r := r11) (b := a_t) (As := [.int x1]) (w1 := (woX6_digitAt cI cZ a_t a_t_codes t_count t_codes)) (wN := (woX6_isDigitAt cI cZ a_t a_t_codes t_count t_codes)) [0, 1] 0 6 (c_X6_digitAt l dC dI cI cZ ts _ a_t a_t_codes t_count t_codes x1 (r11) hc11) ⟨hx, hb, hml, hown, hG.2.1.hts _⟩ ⟨callB_of 1 (hG.2.1.hts _) giX6_digitAt rfl rfl rfl (wd_1_2 hG.2.1) (wd_2_70 hG.2.1) hd_X6_digitAt ⟨Nat.le_of_ble_eq_true rfl, Nat.le_of_ble_eq_true rfl⟩, wd_2_71 hG.2.1, wd_2_72 hG.2.1⟩ hG hP hD hS rfl rfl rfl rfl rfl rfl rfl rfl hl.1 rfl (Nat.le_of_ble_eq_true rfl) dX6_isDigitAt_11 ⟨Nat.zero_le _, Nat.zero_le _⟩ (fun H locs hP hD hS => ?_)
    refine lv_bipush (v := 9) hx hb dX6_isDigitAt_14 (by decide) ?_
    refine lv_icmp_gt (tgt := 23) hx hb dX6_isDigitAt_16 (by decide) (fun c2 => ?_) (fun c2 => ?_)
    · have hf := (if_pos c2).symm.trans hf
      refine lv_iconst (v := 0) hx hb dX6_isDigitAt_23 (by decide) ?_
      have hR := Option.some.inj hf
      rw [← hR]
      exact rt_z hx hb hr hlk rfl hsz hP hD hS rfl rfl dX6_isDigitAt_24
    · have hf := (if_neg c2).symm.trans hf
      refine lv_iconst (v := 1) hx hb dX6_isDigitAt_19 (by decide) ?_
      refine lv_goto (tgt := 24) hx hb dX6_isDigitAt_20 (by decide) ?_
      have hR := Option.some.inj hf
      rw [← hR]
      exact rt_z hx hb hr hlk rfl hsz hP hD hS rfl rfl dX6_isDigitAt_24
abbrev woX6_faultAsBox (cI cZ : ClassId) (a_t a_t_codes : Nat) (t_count : Int32) (t_codes : Nat → Int32) : va_W := [(a_t, .inr (6, [.ref a_t_codes, .int t_count])), (a_t_codes, .inl (cI, 40, .inl t_codes))]
abbrev rmX6_faultAsBox : Room := { frames := 4, cells := 0, slots := 0, locals := 85 }
theorem hd_X6_faultAsBox : yX6_faultAsBox.cls ≠ "java/lang/invoke/MethodHandle" ∧ yX6_faultAsBox.cls ≠ "java/lang/invoke/VarHandle" ∧ (parseMethodDescriptor yX6_faultAsBox.desc).map (fun d => d.parameters.length) = some 0 := by decide +kernel
set_option maxHeartbeats 4000000 in
set_option maxRecDepth 100000 in
theorem c_X6_faultAsBox (l : Launch) (dC : Nat → ClassId) (dI : Nat → Nat → Nat) (cI cZ : ClassId) (ts : Nat → Nat) (sz : Nat) (a_t a_t_codes : Nat) (t_count : Int32) (t_codes : Nat → Int32) (R : Int32) (hf : f_X6_faultAsBox t_count t_codes = some R) : Met l yX6_faultAsBox wyX6_faultAsBox rmX6_faultAsBox (PRE (dC, dI) cI cZ ts [.ref a_t] sz (woX6_faultAsBox cI cZ a_t a_t_codes t_count t_codes)) (POSTi (dC, dI) R sz (woX6_faultAsBox cI cZ a_t a_t_codes t_count t_codes) (woX6_faultAsBox cI cZ a_t a_t_codes t_count t_codes)) 0 0 (va_A (woX6_faultAsBox cI cZ a_t a_t_codes t_count t_codes) sz) := by
  refine Met.ofW (cc := cX6_faultAsBox) (maxL := 2) (ret := (some .int)) (by decide) rfl ?_
  intro p e s m args below meth c s₁ B hml hv
  obtain ⟨rfl, hv⟩ := hv
  have hG := hg_of hv
  obtain ⟨hsz, hP, -, hD0, -⟩ := hv
  have hx := B.exec
  have hb := B.bytes
  have hr := B.returns
  have hlk := B.notSynchronized
  have hown : s.vm.findClass RX6 = some m.cls := findClass_of_methodNamed B.named
  have hD := hD0.self (sz := sz)
  have hS : va_S (va_A (woX6_faultAsBox cI cZ a_t a_t_codes t_count t_codes) sz) s.heap s.heap [] := va_S.rf
  have L2 : ∀ (fu : Nat) (y1 : Int32) (H : Heap) (locs : List Loc) (ls : Array Slot), f_X6_faultAsBox_L2 t_count t_codes fu y1 = some R → va_P (dC, dI) vwCl (woX6_faultAsBox cI cZ a_t a_t_codes t_count t_codes) H → va_D (va_A (woX6_faultAsBox cI cZ a_t a_t_codes t_count t_codes) sz) (woX6_faultAsBox cI cZ a_t a_t_codes t_count t_codes) → va_S (va_A (woX6_faultAsBox cI cZ a_t a_t_codes t_count t_codes) sz) s.heap H locs → lv_has ls 2 [(0, .ref a_t), (1, .int y1)] → W p l e (headSpec wyX6_faultAsBox rmX6_faultAsBox).room s m ([Value.ref a_t] : List Value).toArray below meth c H locs 0 0 (MQ below (POSTi (dC, dI) R sz (woX6_faultAsBox cI cZ a_t a_t_codes t_count t_codes) (woX6_faultAsBox cI cZ a_t a_t_codes t_count t_codes)) ([Value.ref a_t] : List Value).toArray s 0 0 (va_A (woX6_faultAsBox cI cZ a_t a_t_codes t_count t_codes) sz)) (F0 m 2 ls []) := by
    intro  fu
    induction fu with
    | zero => intro y1 H locs ls hf; cases hf
    | succ fu ih =>
      intro y1 H locs ls hf hP hD hS hl
      rw [f_X6_faultAsBox_L2] at hf
      refine lv_iload_n hx hb dX6_faultAsBox_2 rfl (lv_at hl 1 rfl) ?_
      refine lv_aload_n hx hb dX6_faultAsBox_3 rfl (lv_at hl 0 rfl) ?_
      refine mg (ci := 6) 0 1 hx hb hG igX6 hown hP rfl rfl (by decide) (wd_1_27 hG.2.1) rfl rfl dX6_faultAsBox_4 ?_
      refine lv_icmp_ge (tgt := 27) hx hb dX6_faultAsBox_7 (by decide) (fun c1 => ?_) (fun c1 => ?_)
      · have hf := (if_pos c1).symm.trans hf
        refine lv_aload_n hx hb dX6_faultAsBox_27 rfl (lv_at hl 0 rfl) ?_
        refine mg (ci := 6) 0 1 hx hb hG igX6 hown hP rfl rfl (by decide) (wd_1_27 hG.2.1) rfl rfl dX6_faultAsBox_28 ?_
        refine lv_if_ne (tgt := 38) hx hb dX6_faultAsBox_31 (by decide) (fun c2 => ?_) (fun c2 => ?_)
        · have hf := (if_neg c2).symm.trans hf
          refine lv_bipush (v := -6) hx hb dX6_faultAsBox_38 (by decide) ?_
          have hR := Option.some.inj hf
          rw [← hR]
          exact rt_i hx hb hr hlk hsz hP hD hS rfl rfl dX6_faultAsBox_40
        · have hf := (if_pos c2).symm.trans hf
          refine lv_iconst (v := 0) hx hb dX6_faultAsBox_34 (by decide) ?_
          refine lv_goto (tgt := 40) hx hb dX6_faultAsBox_35 (by decide) ?_
          have hR := Option.some.inj hf
          rw [← hR]
          exact rt_i hx hb hr hlk hsz hP hD hS rfl rfl dX6_faultAsBox_40
      · have hf := (if_neg c1).symm.trans hf
        refine lv_aload_n hx hb dX6_faultAsBox_10 rfl (lv_at hl 0 rfl) ?_
        refine lv_iload_n hx hb dX6_faultAsBox_11 rfl (lv_at hl 1 rfl) ?_
        refine lv_iconst (v := 0) hx hb dX6_faultAsBox_12 (by decide) ?_
        obtain ⟨r13, hc13, hf⟩ := bd1_some hf
        refine cl_Vi (r := r13) (b := a_t) (As := [.int y1, .int (0 : Int32)]) (w1 := (woX6_isDigitAt cI cZ a_t a_t_codes t_count t_codes)) (wN := (woX6_faultAsBox cI cZ a_t a_t_codes t_count t_codes)) [0, 1] 0 6 (c_X6_isDigitAt l dC dI cI cZ ts _ a_t a_t_codes t_count t_codes y1 (0 : Int32) (r13) hc13) ⟨hx, hb, hml, hown, hG.2.1.hts _⟩ ⟨callB_of 2 (hG.2.1.hts _) giX6_isDigitAt rfl rfl rfl (wd_1_2 hG.2.1) (wd_2_66 hG.2.1) hd_X6_isDigitAt ⟨Nat.le_of_ble_eq_true rfl, Nat.le_of_ble_eq_true rfl⟩, wd_2_67 hG.2.1, wd_2_68 hG.2.1⟩ hG hP hD hS rfl rfl rfl rfl rfl rfl rfl rfl hl.1 rfl (Nat.le_of_ble_eq_true rfl) dX6_faultAsBox_13 ⟨Nat.zero_le _, Nat.zero_le _⟩ (fun H locs hP hD hS => ?_)
        refine lv_if_ne (tgt := 21) hx hb dX6_faultAsBox_16 (by decide) (fun c3 => ?_) (fun c3 => ?_)
        · have hf := (if_neg c3).symm.trans hf
          refine lv_iinc (v := (y1 + (1 : Int32))) (lv' := [(1, .int (y1 + (1 : Int32))), (0, .ref a_t)]) hx hb dX6_faultAsBox_21 hl (k := 1) rfl rfl (by decide) rfl (fun ls hl => ?_)
          refine lv_goto (tgt := 2) hx hb dX6_faultAsBox_24 (by decide) ?_
          exact ih (y1 + (1 : Int32)) _ _ _ hf hP hD hS (lv_sub hl [1, 0] rfl)
        · have hf := (if_pos c3).symm.trans hf
          refine lv_iload_n hx hb dX6_faultAsBox_19 rfl (lv_at hl 1 rfl) ?_
          have hR := Option.some.inj hf
          rw [← hR]
          exact rt_i hx hb hr hlk hsz hP hD hS rfl rfl dX6_faultAsBox_20
  have hl := lv_entry ([.ref a_t]) (n := 2) (Nat.le_of_ble_eq_true rfl)
  rw [lg_entry_eq]
  generalize (lg_sl ([.ref a_t]) ++ List.replicate (2 - (lg_sl ([.ref a_t])).length) Slot.unset).toArray = ls at hl ⊢
  have hl : lv_has ls 2 [(0, .ref a_t)] := hl
  unfold f_X6_faultAsBox at hf
  refine lv_iconst (v := 0) hx hb dX6_faultAsBox_0 (by decide) ?_
  refine lv_istore_n (lv' := [(1, .int (0 : Int32)), (0, .ref a_t)]) hx hb dX6_faultAsBox_1 rfl hl (by decide) rfl (fun ls hl => ?_)
  exact L2 FU (0 : Int32) _ _ _ hf hP hD hS (lv_sub hl [1, 0] rfl)
abbrev rmX6_dueBehindBegin : Room := { frames := 0, cells := 0, slots := 0, locals := 0 }
theorem hd_X6_dueBehindBegin : yX6_dueBehindBegin.cls ≠ "java/lang/invoke/MethodHandle" ∧ yX6_dueBehindBegin.cls ≠ "java/lang/invoke/VarHandle" ∧ (parseMethodDescriptor yX6_dueBehindBegin.desc).map (fun d => d.parameters.length) = some 1 := by decide +kernel
set_option maxHeartbeats 4000000 in
set_option maxRecDepth 100000 in
theorem c_X6_dueBehindBegin (l : Launch) (dC : Nat → ClassId) (dI : Nat → Nat → Nat) (cI cZ : ClassId) (ts : Nat → Nat) (sz : Nat) (x0 : Int32) (R : Int32) (hf : f_X6_dueBehindBegin x0 = some R) : Met l yX6_dueBehindBegin wyX6_dueBehindBegin rmX6_dueBehindBegin (PRE (dC, dI) cI cZ ts [.int x0] sz []) (POSTi (dC, dI) R sz [] []) 0 0 (va_A [] sz) := by
  refine Met.ofW (cc := cX6_dueBehindBegin) (maxL := 1) (ret := (some .int)) (by decide) rfl ?_
  intro p e s m args below meth c s₁ B hml hv
  obtain ⟨rfl, hv⟩ := hv
  have hG := hg_of hv
  obtain ⟨hsz, hP, -, hD0, -⟩ := hv
  have hx := B.exec
  have hb := B.bytes
  have hr := B.returns
  have hlk := B.notSynchronized
  have hown : s.vm.findClass RX6 = some m.cls := findClass_of_methodNamed B.named
  have hD := hD0.self (sz := sz)
  have hS : va_S (va_A [] sz) s.heap s.heap [] := va_S.rf
  have hl := lv_entry ([.int x0]) (n := 1) (Nat.le_of_ble_eq_true rfl)
  rw [lg_entry_eq]
  generalize (lg_sl ([.int x0]) ++ List.replicate (1 - (lg_sl ([.int x0])).length) Slot.unset).toArray = ls at hl ⊢
  have hl : lv_has ls 1 [(0, .int x0)] := hl
  unfold f_X6_dueBehindBegin at hf
  refine lv_iload_n hx hb dX6_dueBehindBegin_0 rfl (lv_at hl 0 rfl) ?_
  refine lv_bipush (v := 115) hx hb dX6_dueBehindBegin_1 (by decide) ?_
  refine lv_icmp_ne (tgt := 8) hx hb dX6_dueBehindBegin_3 (by decide) (fun c1 => ?_) (fun c1 => ?_)
  · have hf := (if_neg c1).symm.trans hf
    refine lv_iload_n hx hb dX6_dueBehindBegin_8 rfl (lv_at hl 0 rfl) ?_
    refine lv_bipush (v := 45) hx hb dX6_dueBehindBegin_9 (by decide) ?_
    refine lv_icmp_eq (tgt := 26) hx hb dX6_dueBehindBegin_11 (by decide) (fun c2 => ?_) (fun c2 => ?_)
    · have hf := (if_pos c2).symm.trans hf
      refine lv_iconst (v := 1) hx hb dX6_dueBehindBegin_26 (by decide) ?_
      refine lv_goto (tgt := 32) hx hb dX6_dueBehindBegin_27 (by decide) ?_
      have hR := Option.some.inj hf
      rw [← hR]
      exact rt_i hx hb hr hlk hsz hP hD hS rfl rfl dX6_dueBehindBegin_32
    · have hf := (if_neg c2).symm.trans hf
      refine lv_iload_n hx hb dX6_dueBehindBegin_14 rfl (lv_at hl 0 rfl) ?_
      refine lv_bipush (v := 97) hx hb dX6_dueBehindBegin_15 (by decide) ?_
      refine lv_icmp_lt (tgt := 30) hx hb dX6_dueBehindBegin_17 (by decide) (fun c3 => ?_) (fun c3 => ?_)
      · have hf := (if_pos c3).symm.trans hf
        refine lv_bipush (v := -6) hx hb dX6_dueBehindBegin_30 (by decide) ?_
        have hR := Option.some.inj hf
        rw [← hR]
        exact rt_i hx hb hr hlk hsz hP hD hS rfl rfl dX6_dueBehindBegin_32
      · have hf := (if_neg c3).symm.trans hf
        refine lv_iload_n hx hb dX6_dueBehindBegin_20 rfl (lv_at hl 0 rfl) ?_
        refine lv_bipush (v := 100) hx hb dX6_dueBehindBegin_21 (by decide) ?_
        refine lv_icmp_gt (tgt := 30) hx hb dX6_dueBehindBegin_23 (by decide) (fun c4 => ?_) (fun c4 => ?_)
        · have hf := (if_pos c4).symm.trans hf
          refine lv_bipush (v := -6) hx hb dX6_dueBehindBegin_30 (by decide) ?_
          have hR := Option.some.inj hf
          rw [← hR]
          exact rt_i hx hb hr hlk hsz hP hD hS rfl rfl dX6_dueBehindBegin_32
        · have hf := (if_neg c4).symm.trans hf
          refine lv_iconst (v := 1) hx hb dX6_dueBehindBegin_26 (by decide) ?_
          refine lv_goto (tgt := 32) hx hb dX6_dueBehindBegin_27 (by decide) ?_
          have hR := Option.some.inj hf
          rw [← hR]
          exact rt_i hx hb hr hlk hsz hP hD hS rfl rfl dX6_dueBehindBegin_32
  · have hf := (if_pos c1).symm.trans hf
    refine lv_iconst (v := 3) hx hb dX6_dueBehindBegin_6 (by decide) ?_
    have hR := Option.some.inj hf
    rw [← hR]
    exact rt_i hx hb hr hlk hsz hP hD hS rfl rfl dX6_dueBehindBegin_7
abbrev woX6_dueBehind (cI cZ : ClassId) (a_t a_t_codes : Nat) (t_count : Int32) (t_codes : Nat → Int32) : va_W := [(a_t, .inr (6, [.ref a_t_codes, .int t_count])), (a_t_codes, .inl (cI, 40, .inl t_codes))]
abbrev rmX6_dueBehind : Room := { frames := 4, cells := 0, slots := 0, locals := 85 }
theorem hd_X6_dueBehind : yX6_dueBehind.cls ≠ "java/lang/invoke/MethodHandle" ∧ yX6_dueBehind.cls ≠ "java/lang/invoke/VarHandle" ∧ (parseMethodDescriptor yX6_dueBehind.desc).map (fun d => d.parameters.length) = some 2 := by decide +kernel
set_option maxHeartbeats 4000000 in
set_option maxRecDepth 100000 in
theorem c_X6_dueBehind (l : Launch) (dC : Nat → ClassId) (dI : Nat → Nat → Nat) (cI cZ : ClassId) (ts : Nat → Nat) (sz : Nat) (a_t a_t_codes : Nat) (t_count : Int32) (t_codes : Nat → Int32) (x1 : Int32) (x2 : Int32) (R : Int32) (hf : f_X6_dueBehind t_codes x1 x2 = some R) : Met l yX6_dueBehind wyX6_dueBehind rmX6_dueBehind (PRE (dC, dI) cI cZ ts [.ref a_t, .int x1, .int x2] sz (woX6_dueBehind cI cZ a_t a_t_codes t_count t_codes)) (POSTi (dC, dI) R sz (woX6_dueBehind cI cZ a_t a_t_codes t_count t_codes) (woX6_dueBehind cI cZ a_t a_t_codes t_count t_codes)) 0 0 (va_A (woX6_dueBehind cI cZ a_t a_t_codes t_count t_codes) sz) := by
  refine Met.ofW (cc := cX6_dueBehind) (maxL := 3) (ret := (some .int)) (by decide) rfl ?_
  intro p e s m args below meth c s₁ B hml hv
  obtain ⟨rfl, hv⟩ := hv
  have hG := hg_of hv
  obtain ⟨hsz, hP, -, hD0, -⟩ := hv
  have hx := B.exec
  have hb := B.bytes
  have hr := B.returns
  have hlk := B.notSynchronized
  have hown : s.vm.findClass RX6 = some m.cls := findClass_of_methodNamed B.named
  have hD := hD0.self (sz := sz)
  have hS : va_S (va_A (woX6_dueBehind cI cZ a_t a_t_codes t_count t_codes) sz) s.heap s.heap [] := va_S.rf
  have hl := lv_entry ([.ref a_t, .int x1, .int x2]) (n := 3) (Nat.le_of_ble_eq_true rfl)
  rw [lg_entry_eq]
  generalize (lg_sl ([.ref a_t, .int x1, .int x2]) ++ List.replicate (3 - (lg_sl ([.ref a_t, .int x1, .int x2])).length) Slot.unset).toArray = ls at hl ⊢
  have hl : lv_has ls 3 [(0, .ref a_t), (1, .int x1), (2, .int x2)] := hl
  unfold f_X6_dueBehind at hf
  refine lv_iload_n hx hb dX6_dueBehind_0 rfl (lv_at hl 1 rfl) ?_
  by_cases c1 : x1 = 0
  · have hf := (if_pos c1).symm.trans hf
    refine sw_in 0 0 hx hb c1 dX6_dueBehind_1 (by decide) (by decide) (by decide) rfl (tgt := 28) (by decide) ?_
    refine lv_aload_n hx hb dX6_dueBehind_28 rfl (lv_at hl 0 rfl) ?_
    refine lv_iload_n hx hb dX6_dueBehind_29 rfl (lv_at hl 2 rfl) ?_
    obtain ⟨r30, hc30, hf⟩ := bd1_some hf
    refine cl_Vi (r := r30) (b := a_t) (As := [.int x2]) (w1 := (woX6_codeAt cI cZ a_t a_t_codes t_count t_codes)) (wN := (woX6_dueBehind cI cZ a_t a_t_codes t_count t_codes)) [0, 1] 0 6 (c_X6_codeAt l dC dI cI cZ ts _ a_t a_t_codes t_count t_codes x2 (r30) hc30) ⟨hx, hb, hml, hown, hG.2.1.hts _⟩ ⟨callB_of 1 (hG.2.1.hts _) giX6_codeAt rfl rfl rfl (wd_1_2 hG.2.1) (wd_2_58 hG.2.1) hd_X6_codeAt ⟨Nat.le_of_ble_eq_true rfl, Nat.le_of_ble_eq_true rfl⟩, wd_2_59 hG.2.1, wd_2_60 hG.2.1⟩ hG hP hD hS rfl rfl rfl rfl rfl rfl rfl rfl hl.1 rfl (Nat.le_of_ble_eq_true rfl) dX6_dueBehind_30 ⟨Nat.zero_le _, Nat.zero_le _⟩ (fun H locs hP hD hS => ?_)
    obtain ⟨r33, hc33, hf⟩ := bd1_some hf
    refine cl_Si (r := r33) (As := [.int r30]) (w1 := []) (wN := (woX6_dueBehind cI cZ a_t a_t_codes t_count t_codes)) [] 0 0 (c_X6_dueBehindBegin l dC dI cI cZ ts _ r30 (r33) hc33) ⟨hx, hb, hml, hown, hG.2.1.hts _⟩ ⟨callB_of 1 (hG.2.1.hts _) giX6_dueBehindBegin rfl rfl rfl (wd_1_2 hG.2.1) (wd_2_63 hG.2.1) hd_X6_dueBehindBegin ⟨Nat.le_of_ble_eq_true rfl, Nat.le_of_ble_eq_true rfl⟩, wd_2_64 hG.2.1⟩ hG hP hD hS rfl rfl rfl rfl rfl hl.1 rfl (Nat.le_of_ble_eq_true rfl) dX6_dueBehind_33 ⟨Nat.zero_le _, Nat.zero_le _⟩ (fun H locs hP hD hS => ?_)
    have hR := Option.some.inj hf
    rw [← hR]
    exact rt_i hx hb hr hlk hsz hP hD hS rfl rfl dX6_dueBehind_36
  have hf := (if_neg c1).symm.trans hf
  by_cases c2 : x1 = 1
  · have hf := (if_pos c2).symm.trans hf
    refine sw_in 1 1 hx hb c2 dX6_dueBehind_1 (by decide) (by decide) (by decide) rfl (tgt := 37) (by decide) ?_
    refine lv_aload_n hx hb dX6_dueBehind_37 rfl (lv_at hl 0 rfl) ?_
    refine lv_iload_n hx hb dX6_dueBehind_38 rfl (lv_at hl 2 rfl) ?_
    refine lv_iconst (v := 0) hx hb dX6_dueBehind_39 (by decide) ?_
    obtain ⟨r40, hc40, hf⟩ := bd1_some hf
    refine cl_Vi (r := r40) (b := a_t) (As := [.int x2, .int (0 : Int32)]) (w1 := (woX6_isDigitAt cI cZ a_t a_t_codes t_count t_codes)) (wN := (woX6_dueBehind cI cZ a_t a_t_codes t_count t_codes)) [0, 1] 0 6 (c_X6_isDigitAt l dC dI cI cZ ts _ a_t a_t_codes t_count t_codes x2 (0 : Int32) (r40) hc40) ⟨hx, hb, hml, hown, hG.2.1.hts _⟩ ⟨callB_of 2 (hG.2.1.hts _) giX6_isDigitAt rfl rfl rfl (wd_1_2 hG.2.1) (wd_2_66 hG.2.1) hd_X6_isDigitAt ⟨Nat.le_of_ble_eq_true rfl, Nat.le_of_ble_eq_true rfl⟩, wd_2_67 hG.2.1, wd_2_68 hG.2.1⟩ hG hP hD hS rfl rfl rfl rfl rfl rfl rfl rfl hl.1 rfl (Nat.le_of_ble_eq_true rfl) dX6_dueBehind_40 ⟨Nat.zero_le _, Nat.zero_le _⟩ (fun H locs hP hD hS => ?_)
    refine lv_if_eq (tgt := 50) hx hb dX6_dueBehind_43 (by decide) (fun c3 => ?_) (fun c3 => ?_)
    · have hf := (if_pos c3).symm.trans hf
      refine lv_bipush (v := -6) hx hb dX6_dueBehind_50 (by decide) ?_
      have hR := Option.some.inj hf
      rw [← hR]
      exact rt_i hx hb hr hlk hsz hP hD hS rfl rfl dX6_dueBehind_52
    · have hf := (if_neg c3).symm.trans hf
      refine lv_iconst (v := 2) hx hb dX6_dueBehind_46 (by decide) ?_
      refine lv_goto (tgt := 52) hx hb dX6_dueBehind_47 (by decide) ?_
      have hR := Option.some.inj hf
      rw [← hR]
      exact rt_i hx hb hr hlk hsz hP hD hS rfl rfl dX6_dueBehind_52
  have hf := (if_neg c2).symm.trans hf
  by_cases c4 : x1 = 2
  · have hf := (if_pos c4).symm.trans hf
    refine sw_in 2 2 hx hb c4 dX6_dueBehind_1 (by decide) (by decide) (by decide) rfl (tgt := 53) (by decide) ?_
    refine lv_aload_n hx hb dX6_dueBehind_53 rfl (lv_at hl 0 rfl) ?_
    refine lv_iload_n hx hb dX6_dueBehind_54 rfl (lv_at hl 2 rfl) ?_
    refine lv_iconst (v := 1) hx hb dX6_dueBehind_55 (by decide) ?_
    obtain ⟨r56, hc56, hf⟩ := bd1_some hf
    refine cl_Vi (r := r56) (b := a_t) (As := [.int x2, .int (1 : Int32)]) (w1 := (woX6_isDigitAt cI cZ a_t a_t_codes t_count t_codes)) (wN := (woX6_dueBehind cI cZ a_t a_t_codes t_count t_codes)) [0, 1] 0 6 (c_X6_isDigitAt l dC dI cI cZ ts _ a_t a_t_codes t_count t_codes x2 (1 : Int32) (r56) hc56) ⟨hx, hb, hml, hown, hG.2.1.hts _⟩ ⟨callB_of 2 (hG.2.1.hts _) giX6_isDigitAt rfl rfl rfl (wd_1_2 hG.2.1) (wd_2_66 hG.2.1) hd_X6_isDigitAt ⟨Nat.le_of_ble_eq_true rfl, Nat.le_of_ble_eq_true rfl⟩, wd_2_67 hG.2.1, wd_2_68 hG.2.1⟩ hG hP hD hS rfl rfl rfl rfl rfl rfl rfl rfl hl.1 rfl (Nat.le_of_ble_eq_true rfl) dX6_dueBehind_56 ⟨Nat.zero_le _, Nat.zero_le _⟩ (fun H locs hP hD hS => ?_)
    refine lv_if_eq (tgt := 66) hx hb dX6_dueBehind_59 (by decide) (fun c5 => ?_) (fun c5 => ?_)
    · have hf := (if_pos c5).symm.trans hf
      refine lv_bipush (v := -6) hx hb dX6_dueBehind_66 (by decide) ?_
      have hR := Option.some.inj hf
      rw [← hR]
      exact rt_i hx hb hr hlk hsz hP hD hS rfl rfl dX6_dueBehind_68
    · have hf := (if_neg c5).symm.trans hf
      refine lv_iconst (v := 0) hx hb dX6_dueBehind_62 (by decide) ?_
      refine lv_goto (tgt := 68) hx hb dX6_dueBehind_63 (by decide) ?_
      have hR := Option.some.inj hf
      rw [← hR]
      exact rt_i hx hb hr hlk hsz hP hD hS rfl rfl dX6_dueBehind_68
  have hf := (if_neg c4).symm.trans hf
  have o_c1 := lv_neT c1 (k := 0) (a := 0) (by decide)
  have o_c2 := lv_neT c2 (k := 1) (a := 1) (by decide)
  have o_c4 := lv_neT c4 (k := 2) (a := 2) (by decide)
  refine lv_tableOut hx hb dX6_dueBehind_1 (by omega) (tgt := 69) (by decide) ?_
  refine lv_aload_n hx hb dX6_dueBehind_69 rfl (lv_at hl 0 rfl) ?_
  refine lv_iload_n hx hb dX6_dueBehind_70 rfl (lv_at hl 2 rfl) ?_
  refine lv_iconst (v := 0) hx hb dX6_dueBehind_71 (by decide) ?_
  obtain ⟨r72, hc72, hf⟩ := bd1_some hf
  refine cl_Vi (r := r72) (b := a_t) (As := [.int x2, .int (0 : Int32)]) (w1 := (woX6_isDigitAt cI cZ a_t a_t_codes t_count t_codes)) (wN := (woX6_dueBehind cI cZ a_t a_t_codes t_count t_codes)) [0, 1] 0 6 (c_X6_isDigitAt l dC dI cI cZ ts _ a_t a_t_codes t_count t_codes x2 (0 : Int32) (r72) hc72) ⟨hx, hb, hml, hown, hG.2.1.hts _⟩ ⟨callB_of 2 (hG.2.1.hts _) giX6_isDigitAt rfl rfl rfl (wd_1_2 hG.2.1) (wd_2_66 hG.2.1) hd_X6_isDigitAt ⟨Nat.le_of_ble_eq_true rfl, Nat.le_of_ble_eq_true rfl⟩, wd_2_67 hG.2.1, wd_2_68 hG.2.1⟩ hG hP hD hS rfl rfl rfl rfl rfl rfl rfl rfl hl.1 rfl (Nat.le_of_ble_eq_true rfl) dX6_dueBehind_72 ⟨Nat.zero_le _, Nat.zero_le _⟩ (fun H locs hP hD hS => ?_)
  refine lv_if_eq (tgt := 82) hx hb dX6_dueBehind_75 (by decide) (fun c6 => ?_) (fun c6 => ?_)
  · have hf := (if_pos c6).symm.trans hf
    refine lv_bipush (v := -6) hx hb dX6_dueBehind_82 (by decide) ?_
    have hR := Option.some.inj hf
    rw [← hR]
    exact rt_i hx hb hr hlk hsz hP hD hS rfl rfl dX6_dueBehind_84
  · have hf := (if_neg c6).symm.trans hf
    refine lv_iconst (v := 0) hx hb dX6_dueBehind_78 (by decide) ?_
    refine lv_goto (tgt := 84) hx hb dX6_dueBehind_79 (by decide) ?_
    have hR := Option.some.inj hf
    rw [← hR]
    exact rt_i hx hb hr hlk hsz hP hD hS rfl rfl dX6_dueBehind_84
abbrev woX6_faultAsPlan (cI cZ : ClassId) (a_t a_t_codes : Nat) (t_count : Int32) (t_codes : Nat → Int32) : va_W := [(a_t, .inr (6, [.ref a_t_codes, .int t_count])), (a_t_codes, .inl (cI, 40, .inl t_codes))]
abbrev rmX6_faultAsPlan : Room := { frames := 5, cells := 0, slots := 0, locals := 107 }
theorem hd_X6_faultAsPlan : yX6_faultAsPlan.cls ≠ "java/lang/invoke/MethodHandle" ∧ yX6_faultAsPlan.cls ≠ "java/lang/invoke/VarHandle" ∧ (parseMethodDescriptor yX6_faultAsPlan.desc).map (fun d => d.parameters.length) = some 0 := by decide +kernel
set_option maxHeartbeats 4000000 in
set_option maxRecDepth 100000 in
theorem c_X6_faultAsPlan (l : Launch) (dC : Nat → ClassId) (dI : Nat → Nat → Nat) (cI cZ : ClassId) (ts : Nat → Nat) (sz : Nat) (a_t a_t_codes : Nat) (t_count : Int32) (t_codes : Nat → Int32) (R : Int32) (hf : f_X6_faultAsPlan t_count t_codes = some R) : Met l yX6_faultAsPlan wyX6_faultAsPlan rmX6_faultAsPlan (PRE (dC, dI) cI cZ ts [.ref a_t] sz (woX6_faultAsPlan cI cZ a_t a_t_codes t_count t_codes)) (POSTi (dC, dI) R sz (woX6_faultAsPlan cI cZ a_t a_t_codes t_count t_codes) (woX6_faultAsPlan cI cZ a_t a_t_codes t_count t_codes)) 0 0 (va_A (woX6_faultAsPlan cI cZ a_t a_t_codes t_count t_codes) sz) := by
  refine Met.ofW (cc := cX6_faultAsPlan) (maxL := 3) (ret := (some .int)) (by decide) rfl ?_
  intro p e s m args below meth c s₁ B hml hv
  obtain ⟨rfl, hv⟩ := hv
  have hG := hg_of hv
  obtain ⟨hsz, hP, -, hD0, -⟩ := hv
  have hx := B.exec
  have hb := B.bytes
  have hr := B.returns
  have hlk := B.notSynchronized
  have hown : s.vm.findClass RX6 = some m.cls := findClass_of_methodNamed B.named
  have hD := hD0.self (sz := sz)
  have hS : va_S (va_A (woX6_faultAsPlan cI cZ a_t a_t_codes t_count t_codes) sz) s.heap s.heap [] := va_S.rf
  have L4 : ∀ (fu : Nat) (y1 : Int32) (y2 : Int32) (H : Heap) (locs : List Loc) (ls : Array Slot), f_X6_faultAsPlan_L4 t_count t_codes fu y1 y2 = some R → va_P (dC, dI) vwCl (woX6_faultAsPlan cI cZ a_t a_t_codes t_count t_codes) H → va_D (va_A (woX6_faultAsPlan cI cZ a_t a_t_codes t_count t_codes) sz) (woX6_faultAsPlan cI cZ a_t a_t_codes t_count t_codes) → va_S (va_A (woX6_faultAsPlan cI cZ a_t a_t_codes t_count t_codes) sz) s.heap H locs → lv_has ls 3 [(0, .ref a_t), (1, .int y1), (2, .int y2)] → W p l e (headSpec wyX6_faultAsPlan rmX6_faultAsPlan).room s m ([Value.ref a_t] : List Value).toArray below meth c H locs 0 0 (MQ below (POSTi (dC, dI) R sz (woX6_faultAsPlan cI cZ a_t a_t_codes t_count t_codes) (woX6_faultAsPlan cI cZ a_t a_t_codes t_count t_codes)) ([Value.ref a_t] : List Value).toArray s 0 0 (va_A (woX6_faultAsPlan cI cZ a_t a_t_codes t_count t_codes) sz)) (F0 m 4 ls []) := by
    intro  fu
    induction fu with
    | zero => intro y1 y2 H locs ls hf; cases hf
    | succ fu ih =>
      intro y1 y2 H locs ls hf hP hD hS hl
      rw [f_X6_faultAsPlan_L4] at hf
      refine lv_iload_n hx hb dX6_faultAsPlan_4 rfl (lv_at hl 2 rfl) ?_
      refine lv_aload_n hx hb dX6_faultAsPlan_5 rfl (lv_at hl 0 rfl) ?_
      refine mg (ci := 6) 0 1 hx hb hG igX6 hown hP rfl rfl (by decide) (wd_1_27 hG.2.1) rfl rfl dX6_faultAsPlan_6 ?_
      refine lv_icmp_ge (tgt := 33) hx hb dX6_faultAsPlan_9 (by decide) (fun c1 => ?_) (fun c1 => ?_)
      · have hf := (if_pos c1).symm.trans hf
        refine lv_iload_n hx hb dX6_faultAsPlan_33 rfl (lv_at hl 1 rfl) ?_
        refine lv_if_ne (tgt := 42) hx hb dX6_faultAsPlan_34 (by decide) (fun c2 => ?_) (fun c2 => ?_)
        · have hf := (if_neg c2).symm.trans hf
          refine lv_aload_n hx hb dX6_faultAsPlan_42 rfl (lv_at hl 0 rfl) ?_
          refine mg (ci := 6) 0 1 hx hb hG igX6 hown hP rfl rfl (by decide) (wd_1_27 hG.2.1) rfl rfl dX6_faultAsPlan_43 ?_
          have hR := Option.some.inj hf
          rw [← hR]
          exact rt_i hx hb hr hlk hsz hP hD hS rfl rfl dX6_faultAsPlan_46
        · have hf := (if_pos c2).symm.trans hf
          refine lv_bipush (v := -6) hx hb dX6_faultAsPlan_37 (by decide) ?_
          refine lv_goto (tgt := 46) hx hb dX6_faultAsPlan_39 (by decide) ?_
          have hR := Option.some.inj hf
          rw [← hR]
          exact rt_i hx hb hr hlk hsz hP hD hS rfl rfl dX6_faultAsPlan_46
      · have hf := (if_neg c1).symm.trans hf
        refine lv_aload_n hx hb dX6_faultAsPlan_12 rfl (lv_at hl 0 rfl) ?_
        refine lv_iload_n hx hb dX6_faultAsPlan_13 rfl (lv_at hl 1 rfl) ?_
        refine lv_iload_n hx hb dX6_faultAsPlan_14 rfl (lv_at hl 2 rfl) ?_
        obtain ⟨r15, hc15, hf⟩ := bd1_some hf
        refine cl_Vi (r := r15) (b := a_t) (As := [.int y1, .int y2]) (w1 := (woX6_dueBehind cI cZ a_t a_t_codes t_count t_codes)) (wN := (woX6_faultAsPlan cI cZ a_t a_t_codes t_count t_codes)) [0, 1] 0 6 (c_X6_dueBehind l dC dI cI cZ ts _ a_t a_t_codes t_count t_codes y1 y2 (r15) hc15) ⟨hx, hb, hml, hown, hG.2.1.hts _⟩ ⟨callB_of 2 (hG.2.1.hts _) giX6_dueBehind rfl rfl rfl (wd_1_2 hG.2.1) (wd_2_54 hG.2.1) hd_X6_dueBehind ⟨Nat.le_of_ble_eq_true rfl, Nat.le_of_ble_eq_true rfl⟩, wd_2_56 hG.2.1, ws_0 hG.2.1⟩ hG hP hD hS rfl rfl rfl rfl rfl rfl rfl rfl hl.1 rfl (Nat.le_of_ble_eq_true rfl) dX6_faultAsPlan_15 ⟨Nat.zero_le _, Nat.zero_le _⟩ (fun H locs hP hD hS => ?_)
        refine lv_istore_n (lv' := [(1, .int r15), (0, .ref a_t), (2, .int y2)]) hx hb dX6_faultAsPlan_18 rfl hl (by decide) rfl (fun ls hl => ?_)
        refine lv_iload_n hx hb dX6_faultAsPlan_19 rfl (lv_at hl 0 rfl) ?_
        refine lv_bipush (v := -6) hx hb dX6_faultAsPlan_20 (by decide) ?_
        refine lv_icmp_ne (tgt := 27) hx hb dX6_faultAsPlan_22 (by decide) (fun c3 => ?_) (fun c3 => ?_)
        · have hf := (if_neg c3).symm.trans hf
          refine lv_iinc (v := (y2 + (1 : Int32))) (lv' := [(2, .int (y2 + (1 : Int32))), (1, .int r15), (0, .ref a_t)]) hx hb dX6_faultAsPlan_27 hl (k := 2) rfl rfl (by decide) rfl (fun ls hl => ?_)
          refine lv_goto (tgt := 4) hx hb dX6_faultAsPlan_30 (by decide) ?_
          exact ih r15 (y2 + (1 : Int32)) _ _ _ hf hP hD hS (lv_sub hl [2, 1, 0] rfl)
        · have hf := (if_pos c3).symm.trans hf
          refine lv_iload_n hx hb dX6_faultAsPlan_25 rfl (lv_at hl 2 rfl) ?_
          have hR := Option.some.inj hf
          rw [← hR]
          exact rt_i hx hb hr hlk hsz hP hD hS rfl rfl dX6_faultAsPlan_26
  have hl := lv_entry ([.ref a_t]) (n := 3) (Nat.le_of_ble_eq_true rfl)
  rw [lg_entry_eq]
  generalize (lg_sl ([.ref a_t]) ++ List.replicate (3 - (lg_sl ([.ref a_t])).length) Slot.unset).toArray = ls at hl ⊢
  have hl : lv_has ls 3 [(0, .ref a_t)] := hl
  unfold f_X6_faultAsPlan at hf
  refine lv_iconst (v := 0) hx hb dX6_faultAsPlan_0 (by decide) ?_
  refine lv_istore_n (lv' := [(1, .int (0 : Int32)), (0, .ref a_t)]) hx hb dX6_faultAsPlan_1 rfl hl (by decide) rfl (fun ls hl => ?_)
  refine lv_iconst (v := 0) hx hb dX6_faultAsPlan_2 (by decide) ?_
  refine lv_istore_n (lv' := [(2, .int (0 : Int32)), (1, .int (0 : Int32)), (0, .ref a_t)]) hx hb dX6_faultAsPlan_3 rfl hl (by decide) rfl (fun ls hl => ?_)
  exact L4 FU (0 : Int32) (0 : Int32) _ _ _ hf hP hD hS (lv_sub hl [2, 1, 0] rfl)
abbrev woX7_addPart (cI cZ : ClassId) (a_t a_t_who a_t_amount a_t_length : Nat) (t_parts : Int32) (t_minutes : Int32) (t_who : Nat → Int32) (t_amount : Nat → Int32) (t_length : Nat → Int32) : va_W := [(a_t, .inr (7, [.ref a_t_who, .ref a_t_amount, .ref a_t_length, .int t_parts, .int t_minutes])), (a_t_who, .inl (cI, 20, .inl t_who)), (a_t_amount, .inl (cI, 20, .inl t_amount)), (a_t_length, .inl (cI, 20, .inl t_length))]
abbrev rmX7_addPart : Room := { frames := 1, cells := 0, slots := 0, locals := 22 }
theorem hd_X7_addPart : yX7_addPart.cls ≠ "java/lang/invoke/MethodHandle" ∧ yX7_addPart.cls ≠ "java/lang/invoke/VarHandle" ∧ (parseMethodDescriptor yX7_addPart.desc).map (fun d => d.parameters.length) = some 3 := by decide +kernel
set_option maxHeartbeats 4000000 in
set_option maxRecDepth 100000 in
theorem c_X7_addPart (l : Launch) (dC : Nat → ClassId) (dI : Nat → Nat → Nat) (cI cZ : ClassId) (ts : Nat → Nat) (sz : Nat) (a_t a_t_who a_t_amount a_t_length : Nat) (t_parts : Int32) (t_minutes : Int32) (t_who : Nat → Int32) (t_amount : Nat → Int32) (t_length : Nat → Int32) (x1 : Int32) (x2 : Int32) (x3 : Int32) (R : Int32 × Int32 × (Nat → Int32) × (Nat → Int32) × (Nat → Int32)) (hf : f_X7_addPart t_parts t_minutes t_who t_amount t_length x1 x2 x3 = some R) : Met l yX7_addPart wyX7_addPart rmX7_addPart (PRE (dC, dI) cI cZ ts [.ref a_t, .int x1, .int x2, .int x3] sz (woX7_addPart cI cZ a_t a_t_who a_t_amount a_t_length t_parts t_minutes t_who t_amount t_length)) (POSTv (dC, dI) sz (woX7_addPart cI cZ a_t a_t_who a_t_amount a_t_length t_parts t_minutes t_who t_amount t_length) (woX7_addPart cI cZ a_t a_t_who a_t_amount a_t_length R.1 R.2.1 R.2.2.1 R.2.2.2.1 R.2.2.2.2)) 0 0 (va_A (woX7_addPart cI cZ a_t a_t_who a_t_amount a_t_length t_parts t_minutes t_who t_amount t_length) sz) := by
  refine Met.ofW (cc := cX7_addPart) (maxL := 4) (ret := none) (by decide) rfl ?_
  intro p e s m args below meth c s₁ B hml hv
  obtain ⟨rfl, hv⟩ := hv
  have hG := hg_of hv
  obtain ⟨hsz, hP, -, hD0, -⟩ := hv
  have hx := B.exec
  have hb := B.bytes
  have hr := B.returns
  have hlk := B.notSynchronized
  have hown : s.vm.findClass RX7 = some m.cls := findClass_of_methodNamed B.named
  have hD := hD0.self (sz := sz)
  have hS : va_S (va_A (woX7_addPart cI cZ a_t a_t_who a_t_amount a_t_length t_parts t_minutes t_who t_amount t_length) sz) s.heap s.heap [] := va_S.rf
  have hl := lv_entry ([.ref a_t, .int x1, .int x2, .int x3]) (n := 4) (Nat.le_of_ble_eq_true rfl)
  rw [lg_entry_eq]
  generalize (lg_sl ([.ref a_t, .int x1, .int x2, .int x3]) ++ List.replicate (4 - (lg_sl ([.ref a_t, .int x1, .int x2, .int x3])).length) Slot.unset).toArray = ls at hl ⊢
  have hl : lv_has ls 4 [(0, .ref a_t), (1, .int x1), (2, .int x2), (3, .int x3)] := hl
  unfold f_X7_addPart at hf
  refine lv_aload_n hx hb dX7_addPart_0 rfl (lv_at hl 0 rfl) ?_
  refine mg (ci := 7) 0 0 hx hb hG igX7 hown hP rfl rfl (by decide) (wd_1_59 hG.2.1) rfl rfl dX7_addPart_1 ?_
  refine lv_aload_n hx hb dX7_addPart_4 rfl (lv_at hl 0 rfl) ?_
  refine mg (ci := 7) 0 3 hx hb hG igX7 hown hP rfl rfl (by decide) (wd_1_65 hG.2.1) rfl rfl dX7_addPart_5 ?_
  refine lv_iload_n hx hb dX7_addPart_8 rfl (lv_at hl 1 rfl) ?_
  obtain ⟨g9_0, hc9, hf⟩ := bd1_some hf
  refine cl_Nv (As := [.ref a_t_who, .int t_parts, .int x1]) (w1 := (woX8_put cI cZ a_t_who 20 g9_0)) (wN := (woX7_addPart cI cZ a_t a_t_who a_t_amount a_t_length t_parts t_minutes g9_0 t_amount t_length)) [1] 0 0 (c_X8_put l dC dI cI cZ ts _ a_t_who 20 t_who t_parts x1 (g9_0) hc9) ⟨hx, hb, hml, hown, hG.2.1.hts _⟩ ⟨va_cnB 3 (hG.2.1.hts _) giX8_put rfl rfl rfl (va_Nw.of (A := #[]) rfl (wd_2_92 hG.2.1)) (wd_1_1 hG.2.1) hd_X8_put ⟨Nat.le_of_ble_eq_true rfl, Nat.le_of_ble_eq_true rfl⟩, wd_2_20 hG.2.1, trivial⟩ hG hP hD hS rfl rfl rfl rfl rfl hl.1 rfl (Nat.le_of_ble_eq_true rfl) dX7_addPart_9 ⟨Nat.zero_le _, Nat.zero_le _⟩ (fun H locs hP hD hS => ?_)
  refine lv_aload_n hx hb dX7_addPart_12 rfl (lv_at hl 0 rfl) ?_
  refine mg (ci := 7) 0 1 hx hb hG igX7 hown hP rfl rfl (by decide) (wd_1_61 hG.2.1) rfl rfl dX7_addPart_13 ?_
  refine lv_aload_n hx hb dX7_addPart_16 rfl (lv_at hl 0 rfl) ?_
  refine mg (ci := 7) 0 3 hx hb hG igX7 hown hP rfl rfl (by decide) (wd_1_65 hG.2.1) rfl rfl dX7_addPart_17 ?_
  refine lv_iload_n hx hb dX7_addPart_20 rfl (lv_at hl 2 rfl) ?_
  obtain ⟨g21_0, hc21, hf⟩ := bd1_some hf
  refine cl_Nv (As := [.ref a_t_amount, .int t_parts, .int x2]) (w1 := (woX8_put cI cZ a_t_amount 20 g21_0)) (wN := (woX7_addPart cI cZ a_t a_t_who a_t_amount a_t_length t_parts t_minutes g9_0 g21_0 t_length)) [2] 0 0 (c_X8_put l dC dI cI cZ ts _ a_t_amount 20 t_amount t_parts x2 (g21_0) hc21) ⟨hx, hb, hml, hown, hG.2.1.hts _⟩ ⟨va_cnB 3 (hG.2.1.hts _) giX8_put rfl rfl rfl (va_Nw.of (A := #[]) rfl (wd_2_92 hG.2.1)) (wd_1_1 hG.2.1) hd_X8_put ⟨Nat.le_of_ble_eq_true rfl, Nat.le_of_ble_eq_true rfl⟩, wd_2_20 hG.2.1, trivial⟩ hG hP hD hS rfl rfl rfl rfl rfl hl.1 rfl (Nat.le_of_ble_eq_true rfl) dX7_addPart_21 ⟨Nat.zero_le _, Nat.zero_le _⟩ (fun H locs hP hD hS => ?_)
  refine lv_aload_n hx hb dX7_addPart_24 rfl (lv_at hl 0 rfl) ?_
  refine mg (ci := 7) 0 2 hx hb hG igX7 hown hP rfl rfl (by decide) (wd_1_63 hG.2.1) rfl rfl dX7_addPart_25 ?_
  refine lv_aload_n hx hb dX7_addPart_28 rfl (lv_at hl 0 rfl) ?_
  refine mg (ci := 7) 0 3 hx hb hG igX7 hown hP rfl rfl (by decide) (wd_1_65 hG.2.1) rfl rfl dX7_addPart_29 ?_
  refine lv_iload_n hx hb dX7_addPart_32 rfl (lv_at hl 3 rfl) ?_
  obtain ⟨g33_0, hc33, hf⟩ := bd1_some hf
  refine cl_Nv (As := [.ref a_t_length, .int t_parts, .int x3]) (w1 := (woX8_put cI cZ a_t_length 20 g33_0)) (wN := (woX7_addPart cI cZ a_t a_t_who a_t_amount a_t_length t_parts t_minutes g9_0 g21_0 g33_0)) [3] 0 0 (c_X8_put l dC dI cI cZ ts _ a_t_length 20 t_length t_parts x3 (g33_0) hc33) ⟨hx, hb, hml, hown, hG.2.1.hts _⟩ ⟨va_cnB 3 (hG.2.1.hts _) giX8_put rfl rfl rfl (va_Nw.of (A := #[]) rfl (wd_2_92 hG.2.1)) (wd_1_1 hG.2.1) hd_X8_put ⟨Nat.le_of_ble_eq_true rfl, Nat.le_of_ble_eq_true rfl⟩, wd_2_20 hG.2.1, trivial⟩ hG hP hD hS rfl rfl rfl rfl rfl hl.1 rfl (Nat.le_of_ble_eq_true rfl) dX7_addPart_33 ⟨Nat.zero_le _, Nat.zero_le _⟩ (fun H locs hP hD hS => ?_)
  refine lv_aload_n hx hb dX7_addPart_36 rfl (lv_at hl 0 rfl) ?_
  refine lv_dup hx hb dX7_addPart_37 rfl ?_
  refine mg (ci := 7) 0 3 hx hb hG igX7 hown hP rfl rfl (by decide) (wd_1_65 hG.2.1) rfl rfl dX7_addPart_38 ?_
  refine lv_iconst (v := 1) hx hb dX7_addPart_41 (by decide) ?_
  refine lv_iadd hx hb dX7_addPart_42 ?_
  refine mp (ci := 7) (wN := (woX7_addPart cI cZ a_t a_t_who a_t_amount a_t_length (t_parts + (1 : Int32)) t_minutes g9_0 g21_0 g33_0)) 0 3 hx hb hG igX7 tyX7 tyX7_ok nmX7 hown hP hD hS rfl rfl (by decide) (wd_1_65 hG.2.1) rfl rfl rfl rfl rfl (Nat.le_of_ble_eq_true rfl) rfl dX7_addPart_43 (fun H locs hP hD hS => ?_)
  refine lv_aload_n hx hb dX7_addPart_46 rfl (lv_at hl 0 rfl) ?_
  refine lv_dup hx hb dX7_addPart_47 rfl ?_
  refine mg (ci := 7) 0 4 hx hb hG igX7 hown hP rfl rfl (by decide) (wd_1_68 hG.2.1) rfl rfl dX7_addPart_48 ?_
  refine lv_iload_n hx hb dX7_addPart_51 rfl (lv_at hl 3 rfl) ?_
  refine lv_iadd hx hb dX7_addPart_52 ?_
  refine mp (ci := 7) (wN := (woX7_addPart cI cZ a_t a_t_who a_t_amount a_t_length (t_parts + (1 : Int32)) (t_minutes + x3) g9_0 g21_0 g33_0)) 0 4 hx hb hG igX7 tyX7 tyX7_ok nmX7 hown hP hD hS rfl rfl (by decide) (wd_1_68 hG.2.1) rfl rfl rfl rfl rfl (Nat.le_of_ble_eq_true rfl) rfl dX7_addPart_53 (fun H locs hP hD hS => ?_)
  have hR := Option.some.inj hf
  rw [← hR]
  exact rt_v hx hb hr hlk hsz hP hD hS rfl dX7_addPart_56
