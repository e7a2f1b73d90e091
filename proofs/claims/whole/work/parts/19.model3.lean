abbrev woX9_bestPace (cI cZ : ClassId) (a_t a_t_how a_t_strong a_t_pad a_t_plan a_t_box a_t_instead a_t_flakes a_t_tired a_t_image a_t_isKept : Nat) (t_signs : Int32) (t_parts : Int32) (t_swings : Int32) (t_saltFirst : Int32) (t_paceOfAll : Int32) (t_ice : Int32) (t_salt : Int32) (t_brine : Int32) (t_cold : Int32) (t_warm : Int32) (t_frozen : Int32) (t_layer : Int32) (t_air : Int32) (t_churned : Int32) (t_held : Int32) (t_heldFirst : Int32) (t_stiffWanted : Int32) (t_stiffFirst : Int32) (t_how : Nat → Int32) (t_strong : Nat → Int32) (t_plan : Nat → Int32) (t_instead : Nat → Int32) (t_flakes : Nat → Int32) (t_tired : Nat → Int32) : va_W := [(a_t, .inr (9, [.ref a_t_how, .ref a_t_strong, .int t_signs, .ref a_t_pad, .int t_parts, .ref a_t_plan, .int t_swings, .ref a_t_box, .ref a_t_instead, .int t_saltFirst, .int t_paceOfAll, .int t_ice, .int t_salt, .int t_brine, .int t_cold, .int t_warm, .int t_frozen, .int t_layer, .int t_air, .int t_churned, .ref a_t_flakes, .ref a_t_tired, .int t_held, .int t_heldFirst, .int t_stiffWanted, .int t_stiffFirst, .ref a_t_image, .ref a_t_isKept])), (a_t_how, .inl (cI, 8, .inl t_how)), (a_t_strong, .inl (cI, 4, .inl t_strong)), (a_t_plan, .inl (cI, 60, .inl t_plan)), (a_t_instead, .inl (cI, 4, .inl t_instead)), (a_t_flakes, .inl (cI, 64, .inl t_flakes)), (a_t_tired, .inl (cI, 4, .inl t_tired))]
abbrev rmX9_bestPace : Room := { frames := 4, cells := 0, slots := 0, locals := 97 }
theorem hd_X9_bestPace : yX9_bestPace.cls ≠ "java/lang/invoke/MethodHandle" ∧ yX9_bestPace.cls ≠ "java/lang/invoke/VarHandle" ∧ (parseMethodDescriptor yX9_bestPace.desc).map (fun d => d.parameters.length) = some 1 := by decide +kernel
set_option maxHeartbeats 4000000 in
set_option maxRecDepth 100000 in
theorem c_X9_bestPace (l : Launch) (dC : Nat → ClassId) (dI : Nat → Nat → Nat) (cI cZ : ClassId) (ts : Nat → Nat) (sz : Nat) (a_t a_t_how a_t_strong a_t_pad a_t_plan a_t_box a_t_instead a_t_flakes a_t_tired a_t_image a_t_isKept : Nat) (t_signs : Int32) (t_parts : Int32) (t_swings : Int32) (t_saltFirst : Int32) (t_paceOfAll : Int32) (t_ice : Int32) (t_salt : Int32) (t_brine : Int32) (t_cold : Int32) (t_warm : Int32) (t_frozen : Int32) (t_layer : Int32) (t_air : Int32) (t_churned : Int32) (t_held : Int32) (t_heldFirst : Int32) (t_stiffWanted : Int32) (t_stiffFirst : Int32) (t_how : Nat → Int32) (t_strong : Nat → Int32) (t_plan : Nat → Int32) (t_instead : Nat → Int32) (t_flakes : Nat → Int32) (t_tired : Nat → Int32) (x1 : Int32) (R : Int32 × Int32 × Int32 × Int32 × Int32 × Int32 × Int32 × Int32 × Int32 × Int32 × Int32 × Int32 × Int32 × Int32 × Int32 × (Nat → Int32) × (Nat → Int32) × (Nat → Int32)) (hf : f_X9_bestPace t_parts t_saltFirst t_paceOfAll t_ice t_salt t_brine t_cold t_warm t_frozen t_layer t_air t_churned t_held t_heldFirst t_stiffWanted t_stiffFirst t_how t_strong t_plan t_instead t_flakes t_tired x1 = some R) : Met l yX9_bestPace wyX9_bestPace rmX9_bestPace (PRE (dC, dI) cI cZ ts [.ref a_t, .int x1] sz (woX9_bestPace cI cZ a_t a_t_how a_t_strong a_t_pad a_t_plan a_t_box a_t_instead a_t_flakes a_t_tired a_t_image a_t_isKept t_signs t_parts t_swings t_saltFirst t_paceOfAll t_ice t_salt t_brine t_cold t_warm t_frozen t_layer t_air t_churned t_held t_heldFirst t_stiffWanted t_stiffFirst t_how t_strong t_plan t_instead t_flakes t_tired)) (POSTi (dC, dI) R.1 sz (woX9_bestPace cI cZ a_t a_t_how a_t_strong a_t_pad a_t_plan a_t_box a_t_instead a_t_flakes a_t_tired a_t_image a_t_isKept t_signs t_parts t_swings t_saltFirst t_paceOfAll t_ice t_salt t_brine t_cold t_warm t_frozen t_layer t_air t_churned t_held t_heldFirst t_stiffWanted t_stiffFirst t_how t_strong t_plan t_instead t_flakes t_tired) (woX9_bestPace cI cZ a_t a_t_how a_t_strong a_t_pad a_t_plan a_t_box a_t_instead a_t_flakes a_t_tired a_t_image a_t_isKept t_signs t_parts t_swings R.2.1 R.2.2.1 R.2.2.2.1 R.2.2.2.2.1 R.2.2.2.2.2.1 R.2.2.2.2.2.2.1 R.2.2.2.2.2.2.2.1 R.2.2.2.2.2.2.2.2.1 R.2.2.2.2.2.2.2.2.2.1 R.2.2.2.2.2.2.2.2.2.2.1 R.2.2.2.2.2.2.2.2.2.2.2.1 R.2.2.2.2.2.2.2.2.2.2.2.2.1 R.2.2.2.2.2.2.2.2.2.2.2.2.2.1 t_stiffWanted R.2.2.2.2.2.2.2.2.2.2.2.2.2.2.1 t_how t_strong t_plan R.2.2.2.2.2.2.2.2.2.2.2.2.2.2.2.1 R.2.2.2.2.2.2.2.2.2.2.2.2.2.2.2.2.1 R.2.2.2.2.2.2.2.2.2.2.2.2.2.2.2.2.2)) 0 0 (va_A (woX9_bestPace cI cZ a_t a_t_how a_t_strong a_t_pad a_t_plan a_t_box a_t_instead a_t_flakes a_t_tired a_t_image a_t_isKept t_signs t_parts t_swings t_saltFirst t_paceOfAll t_ice t_salt t_brine t_cold t_warm t_frozen t_layer t_air t_churned t_held t_heldFirst t_stiffWanted t_stiffFirst t_how t_strong t_plan t_instead t_flakes t_tired) sz) := by
  refine Met.ofW (cc := cX9_bestPace) (maxL := 5) (ret := (some .int)) (by decide) rfl ?_
  intro p e s m args below meth c s₁ B hml hv
  obtain ⟨rfl, hv⟩ := hv
  have hG := hg_of hv
  obtain ⟨hsz, hP, -, hD0, -⟩ := hv
  have hx := B.exec
  have hb := B.bytes
  have hr := B.returns
  have hlk := B.notSynchronized
  have hown : s.vm.findClass RX9 = some m.cls := findClass_of_methodNamed B.named
  have hD := hD0.self (sz := sz)
  have hS : va_S (va_A (woX9_bestPace cI cZ a_t a_t_how a_t_strong a_t_pad a_t_plan a_t_box a_t_instead a_t_flakes a_t_tired a_t_image a_t_isKept t_signs t_parts t_swings t_saltFirst t_paceOfAll t_ice t_salt t_brine t_cold t_warm t_frozen t_layer t_air t_churned t_held t_heldFirst t_stiffWanted t_stiffFirst t_how t_strong t_plan t_instead t_flakes t_tired) sz) s.heap s.heap [] := va_S.rf
  have L64 : ∀ (rc24 : Int32 → Int32 → Int32 → Int32 → Int32 → Int32 → Int32 → Int32 → Int32 → Int32 → Int32 → Int32 → Int32 → Int32 → Int32 → Int32 → Int32 → Int32 → (Nat → Int32) → (Nat → Int32) → (Nat → Int32) → Option (Int32 × Int32 × Int32 × Int32 × Int32 × Int32 × Int32 × Int32 × Int32 × Int32 × Int32 × Int32 × Int32 × Int32 × Int32 × (Nat → Int32) × (Nat → Int32) × (Nat → Int32))), (∀ (y1 : Int32) (y2 : Int32) (y3 : Int32) (y4 : Int32) (v_t_saltFirst : Int32) (v_t_paceOfAll : Int32) (v_t_ice : Int32) (v_t_salt : Int32) (v_t_brine : Int32) (v_t_cold : Int32) (v_t_warm : Int32) (v_t_frozen : Int32) (v_t_layer : Int32) (v_t_air : Int32) (v_t_churned : Int32) (v_t_held : Int32) (v_t_heldFirst : Int32) (v_t_stiffFirst : Int32) (v_t_instead : Nat → Int32) (v_t_flakes : Nat → Int32) (v_t_tired : Nat → Int32) (H : Heap) (locs : List Loc) (ls : Array Slot), rc24 y1 y2 y3 y4 v_t_saltFirst v_t_paceOfAll v_t_ice v_t_salt v_t_brine v_t_cold v_t_warm v_t_frozen v_t_layer v_t_air v_t_churned v_t_held v_t_heldFirst v_t_stiffFirst v_t_instead v_t_flakes v_t_tired = some R → va_P (dC, dI) vwCl (woX9_bestPace cI cZ a_t a_t_how a_t_strong a_t_pad a_t_plan a_t_box a_t_instead a_t_flakes a_t_tired a_t_image a_t_isKept t_signs t_parts t_swings v_t_saltFirst v_t_paceOfAll v_t_ice v_t_salt v_t_brine v_t_cold v_t_warm v_t_frozen v_t_layer v_t_air v_t_churned v_t_held v_t_heldFirst t_stiffWanted v_t_stiffFirst t_how t_strong t_plan v_t_instead v_t_flakes v_t_tired) H → va_D (va_A (woX9_bestPace cI cZ a_t a_t_how a_t_strong a_t_pad a_t_plan a_t_box a_t_instead a_t_flakes a_t_tired a_t_image a_t_isKept t_signs t_parts t_swings t_saltFirst t_paceOfAll t_ice t_salt t_brine t_cold t_warm t_frozen t_layer t_air t_churned t_held t_heldFirst t_stiffWanted t_stiffFirst t_how t_strong t_plan t_instead t_flakes t_tired) sz) (woX9_bestPace cI cZ a_t a_t_how a_t_strong a_t_pad a_t_plan a_t_box a_t_instead a_t_flakes a_t_tired a_t_image a_t_isKept t_signs t_parts t_swings v_t_saltFirst v_t_paceOfAll v_t_ice v_t_salt v_t_brine v_t_cold v_t_warm v_t_frozen v_t_layer v_t_air v_t_churned v_t_held v_t_heldFirst t_stiffWanted v_t_stiffFirst t_how t_strong t_plan v_t_instead v_t_flakes v_t_tired) → va_S (va_A (woX9_bestPace cI cZ a_t a_t_how a_t_strong a_t_pad a_t_plan a_t_box a_t_instead a_t_flakes a_t_tired a_t_image a_t_isKept t_signs t_parts t_swings t_saltFirst t_paceOfAll t_ice t_salt t_brine t_cold t_warm t_frozen t_layer t_air t_churned t_held t_heldFirst t_stiffWanted t_stiffFirst t_how t_strong t_plan t_instead t_flakes t_tired) sz) s.heap H locs → lv_has ls 5 [(0, .ref a_t), (1, .int y1), (2, .int y2), (3, .int y3), (4, .int y4)] → W p l e (headSpec wyX9_bestPace rmX9_bestPace).room s m ([Value.ref a_t, Value.int x1] : List Value).toArray below meth c H locs 0 0 (MQ below (POSTi (dC, dI) R.1 sz (woX9_bestPace cI cZ a_t a_t_how a_t_strong a_t_pad a_t_plan a_t_box a_t_instead a_t_flakes a_t_tired a_t_image a_t_isKept t_signs t_parts t_swings t_saltFirst t_paceOfAll t_ice t_salt t_brine t_cold t_warm t_frozen t_layer t_air t_churned t_held t_heldFirst t_stiffWanted t_stiffFirst t_how t_strong t_plan t_instead t_flakes t_tired) (woX9_bestPace cI cZ a_t a_t_how a_t_strong a_t_pad a_t_plan a_t_box a_t_instead a_t_flakes a_t_tired a_t_image a_t_isKept t_signs t_parts t_swings R.2.1 R.2.2.1 R.2.2.2.1 R.2.2.2.2.1 R.2.2.2.2.2.1 R.2.2.2.2.2.2.1 R.2.2.2.2.2.2.2.1 R.2.2.2.2.2.2.2.2.1 R.2.2.2.2.2.2.2.2.2.1 R.2.2.2.2.2.2.2.2.2.2.1 R.2.2.2.2.2.2.2.2.2.2.2.1 R.2.2.2.2.2.2.2.2.2.2.2.2.1 R.2.2.2.2.2.2.2.2.2.2.2.2.2.1 t_stiffWanted R.2.2.2.2.2.2.2.2.2.2.2.2.2.2.1 t_how t_strong t_plan R.2.2.2.2.2.2.2.2.2.2.2.2.2.2.2.1 R.2.2.2.2.2.2.2.2.2.2.2.2.2.2.2.2.1 R.2.2.2.2.2.2.2.2.2.2.2.2.2.2.2.2.2)) ([Value.ref a_t, Value.int x1] : List Value).toArray s 0 0 (va_A (woX9_bestPace cI cZ a_t a_t_how a_t_strong a_t_pad a_t_plan a_t_box a_t_instead a_t_flakes a_t_tired a_t_image a_t_isKept t_signs t_parts t_swings t_saltFirst t_paceOfAll t_ice t_salt t_brine t_cold t_warm t_frozen t_layer t_air t_churned t_held t_heldFirst t_stiffWanted t_stiffFirst t_how t_strong t_plan t_instead t_flakes t_tired) sz)) (F0 m 24 ls [])) → ∀ (y1 : Int32) (y4 : Int32) (v_t_saltFirst : Int32) (v_t_paceOfAll : Int32) (v_t_ice : Int32) (v_t_salt : Int32) (v_t_brine : Int32) (v_t_cold : Int32) (v_t_warm : Int32) (v_t_frozen : Int32) (v_t_layer : Int32) (v_t_air : Int32) (v_t_churned : Int32) (v_t_held : Int32) (v_t_heldFirst : Int32) (v_t_stiffFirst : Int32) (v_t_instead : Nat → Int32) (v_t_flakes : Nat → Int32) (v_t_tired : Nat → Int32) (H : Heap) (locs : List Loc) (ls : Array Slot), f_X9_bestPace_L64 rc24 t_parts t_stiffWanted t_how t_strong t_plan y1 y4 v_t_saltFirst v_t_paceOfAll v_t_ice v_t_salt v_t_brine v_t_cold v_t_warm v_t_frozen v_t_layer v_t_air v_t_churned v_t_held v_t_heldFirst v_t_stiffFirst v_t_instead v_t_flakes v_t_tired = some R → va_P (dC, dI) vwCl (woX9_bestPace cI cZ a_t a_t_how a_t_strong a_t_pad a_t_plan a_t_box a_t_instead a_t_flakes a_t_tired a_t_image a_t_isKept t_signs t_parts t_swings v_t_saltFirst v_t_paceOfAll v_t_ice v_t_salt v_t_brine v_t_cold v_t_warm v_t_frozen v_t_layer v_t_air v_t_churned v_t_held v_t_heldFirst t_stiffWanted v_t_stiffFirst t_how t_strong t_plan v_t_instead v_t_flakes v_t_tired) H → va_D (va_A (woX9_bestPace cI cZ a_t a_t_how a_t_strong a_t_pad a_t_plan a_t_box a_t_instead a_t_flakes a_t_tired a_t_image a_t_isKept t_signs t_parts t_swings t_saltFirst t_paceOfAll t_ice t_salt t_brine t_cold t_warm t_frozen t_layer t_air t_churned t_held t_heldFirst t_stiffWanted t_stiffFirst t_how t_strong t_plan t_instead t_flakes t_tired) sz) (woX9_bestPace cI cZ a_t a_t_how a_t_strong a_t_pad a_t_plan a_t_box a_t_instead a_t_flakes a_t_tired a_t_image a_t_isKept t_signs t_parts t_swings v_t_saltFirst v_t_paceOfAll v_t_ice v_t_salt v_t_brine v_t_cold v_t_warm v_t_frozen v_t_layer v_t_air v_t_churned v_t_held v_t_heldFirst t_stiffWanted v_t_stiffFirst t_how t_strong t_plan v_t_instead v_t_flakes v_t_tired) → va_S (va_A (woX9_bestPace cI cZ a_t a_t_how a_t_strong a_t_pad a_t_plan a_t_box a_t_instead a_t_flakes a_t_tired a_t_image a_t_isKept t_signs t_parts t_swings t_saltFirst t_paceOfAll t_ice t_salt t_brine t_cold t_warm t_frozen t_layer t_air t_churned t_held t_heldFirst t_stiffWanted t_stiffFirst t_how t_strong t_plan t_instead t_flakes t_tired) sz) s.heap H locs → lv_has ls 5 [(0, .ref a_t), (1, .int y1), (4, .int y4)] → W p l e (headSpec wyX9_bestPace rmX9_bestPace).room s m ([Value.ref a_t, Value.int x1] : List Value).toArray below meth c H locs 0 0 (MQ below (POSTi (dC, dI) R.1 sz (woX9_bestPace cI cZ a_t a_t_how a_t_strong a_t_pad a_t_plan a_t_box a_t_instead a_t_flakes a_t_tired a_t_image a_t_isKept t_signs t_parts t_swings t_saltFirst t_paceOfAll t_ice t_salt t_brine t_cold t_warm t_frozen t_layer t_air t_churned t_held t_heldFirst t_stiffWanted t_stiffFirst t_how t_strong t_plan t_instead t_flakes t_tired) (woX9_bestPace cI cZ a_t a_t_how a_t_strong a_t_pad a_t_plan a_t_box a_t_instead a_t_flakes a_t_tired a_t_image a_t_isKept t_signs t_parts t_swings R.2.1 R.2.2.1 R.2.2.2.1 R.2.2.2.2.1 R.2.2.2.2.2.1 R.2.2.2.2.2.2.1 R.2.2.2.2.2.2.2.1 R.2.2.2.2.2.2.2.2.1 R.2.2.2.2.2.2.2.2.2.1 R.2.2.2.2.2.2.2.2.2.2.1 R.2.2.2.2.2.2.2.2.2.2.2.1 R.2.2.2.2.2.2.2.2.2.2.2.2.1 R.2.2.2.2.2.2.2.2.2.2.2.2.2.1 t_stiffWanted R.2.2.2.2.2.2.2.2.2.2.2.2.2.2.1 t_how t_strong t_plan R.2.2.2.2.2.2.2.2.2.2.2.2.2.2.2.1 R.2.2.2.2.2.2.2.2.2.2.2.2.2.2.2.2.1 R.2.2.2.2.2.2.2.2.2.2.2.2.2.2.2.2.2)) ([Value.ref a_t, Value.int x1] : List Value).toArray s 0 0 (va_A (woX9_bestPace cI cZ a_t a_t_how a_t_strong a_t_pad a_t_plan a_t_box a_t_instead a_t_flakes a_t_tired a_t_image a_t_isKept t_signs t_parts t_swings t_saltFirst t_paceOfAll t_ice t_salt t_brine t_cold t_warm t_frozen t_layer t_air t_churned t_held t_heldFirst t_stiffWanted t_stiffFirst t_how t_strong t_plan t_instead t_flakes t_tired) sz)) (F0 m 64 ls []) := by
    intro rc24 hrc24 y1 y4 v_t_saltFirst v_t_paceOfAll v_t_ice v_t_salt v_t_brine v_t_cold v_t_warm v_t_frozen v_t_layer v_t_air v_t_churned v_t_held v_t_heldFirst v_t_stiffFirst v_t_instead v_t_flakes v_t_tired H locs ls hf hP hD hS hl
    unfold f_X9_bestPace_L64 at hf
    refine lv_iload hx hb dX9_bestPace_64 (lv_at hl 2 rfl) ?_
    refine lv_istore_n (lv' := [(2, .int y4), (0, .ref a_t), (1, .int y1), (4, .int y4)]) hx hb dX9_bestPace_66 rfl hl (by decide) rfl (fun ls hl => ?_)
    refine lv_aload_n hx hb dX9_bestPace_67 rfl (lv_at hl 1 rfl) ?_
    obtain ⟨r68, hc68, hf⟩ := bd1_some hf
    refine cl_Vi (r := r68) (b := a_t) (As := []) (w1 := (woX9_coarse cI cZ a_t a_t_how a_t_strong a_t_pad a_t_plan a_t_box a_t_instead a_t_flakes a_t_tired a_t_image a_t_isKept t_signs t_parts t_swings v_t_saltFirst v_t_paceOfAll v_t_ice v_t_salt v_t_brine v_t_cold v_t_warm v_t_frozen v_t_layer v_t_air v_t_churned v_t_held v_t_heldFirst t_stiffWanted v_t_stiffFirst v_t_flakes)) (wN := (woX9_bestPace cI cZ a_t a_t_how a_t_strong a_t_pad a_t_plan a_t_box a_t_instead a_t_flakes a_t_tired a_t_image a_t_isKept t_signs t_parts t_swings v_t_saltFirst v_t_paceOfAll v_t_ice v_t_salt v_t_brine v_t_cold v_t_warm v_t_frozen v_t_layer v_t_air v_t_churned v_t_held v_t_heldFirst t_stiffWanted v_t_stiffFirst t_how t_strong t_plan v_t_instead v_t_flakes v_t_tired)) [0, 5] 0 9 (c_X9_coarse l dC dI cI cZ ts _ a_t a_t_how a_t_strong a_t_pad a_t_plan a_t_box a_t_instead a_t_flakes a_t_tired a_t_image a_t_isKept t_signs t_parts t_swings v_t_saltFirst v_t_paceOfAll v_t_ice v_t_salt v_t_brine v_t_cold v_t_warm v_t_frozen v_t_layer v_t_air v_t_churned v_t_held v_t_heldFirst t_stiffWanted v_t_stiffFirst v_t_flakes (r68) hc68) ⟨hx, hb, hml, hown, hG.2.1.hts _⟩ ⟨callB_of 0 (hG.2.1.hts _) giX9_coarse rfl rfl rfl (wd_1_10 hG.2.1) (wd_4_73 hG.2.1) hd_X9_coarse ⟨Nat.le_of_ble_eq_true rfl, Nat.le_of_ble_eq_true rfl⟩, wd_4_75 hG.2.1, ws_28 hG.2.1⟩ hG hP hD hS rfl rfl rfl rfl rfl rfl rfl rfl hl.1 rfl (Nat.le_of_ble_eq_true rfl) dX9_bestPace_68 ⟨Nat.zero_le _, Nat.zero_le _⟩ (fun H locs hP hD hS => ?_)
    refine lv_istore_n (lv' := [(3, .int r68), (2, .int y4), (0, .ref a_t), (1, .int y1), (4, .int y4)]) hx hb dX9_bestPace_71 rfl hl (by decide) rfl (fun ls hl => ?_)
    refine lv_iinc (v := (y4 + (1 : Int32))) (lv' := [(4, .int (y4 + (1 : Int32))), (3, .int r68), (2, .int y4), (0, .ref a_t), (1, .int y1)]) hx hb dX9_bestPace_72 hl (k := 4) rfl rfl (by decide) rfl (fun ls hl => ?_)
    refine lv_goto (tgt := 24) hx hb dX9_bestPace_75 (by decide) ?_
    exact hrc24 y1 y4 r68 (y4 + (1 : Int32)) v_t_saltFirst v_t_paceOfAll v_t_ice v_t_salt v_t_brine v_t_cold v_t_warm v_t_frozen v_t_layer v_t_air v_t_churned v_t_held v_t_heldFirst v_t_stiffFirst v_t_instead v_t_flakes v_t_tired _ _ _ hf hP hD hS (lv_sub hl [3, 4, 2, 1, 0] rfl)
  have L24 : ∀ (fu : Nat) (y1 : Int32) (y2 : Int32) (y3 : Int32) (y4 : Int32) (v_t_saltFirst : Int32) (v_t_paceOfAll : Int32) (v_t_ice : Int32) (v_t_salt : Int32) (v_t_brine : Int32) (v_t_cold : Int32) (v_t_warm : Int32) (v_t_frozen : Int32) (v_t_layer : Int32) (v_t_air : Int32) (v_t_churned : Int32) (v_t_held : Int32) (v_t_heldFirst : Int32) (v_t_stiffFirst : Int32) (v_t_instead : Nat → Int32) (v_t_flakes : Nat → Int32) (v_t_tired : Nat → Int32) (H : Heap) (locs : List Loc) (ls : Array Slot), f_X9_bestPace_L24 t_parts t_stiffWanted t_how t_strong t_plan fu y1 y2 y3 y4 v_t_saltFirst v_t_paceOfAll v_t_ice v_t_salt v_t_brine v_t_cold v_t_warm v_t_frozen v_t_layer v_t_air v_t_churned v_t_held v_t_heldFirst v_t_stiffFirst v_t_instead v_t_flakes v_t_tired = some R → va_P (dC, dI) vwCl (woX9_bestPace cI cZ a_t a_t_how a_t_strong a_t_pad a_t_plan a_t_box a_t_instead a_t_flakes a_t_tired a_t_image a_t_isKept t_signs t_parts t_swings v_t_saltFirst v_t_paceOfAll v_t_ice v_t_salt v_t_brine v_t_cold v_t_warm v_t_frozen v_t_layer v_t_air v_t_churned v_t_held v_t_heldFirst t_stiffWanted v_t_stiffFirst t_how t_strong t_plan v_t_instead v_t_flakes v_t_tired) H → va_D (va_A (woX9_bestPace cI cZ a_t a_t_how a_t_strong a_t_pad a_t_plan a_t_box a_t_instead a_t_flakes a_t_tired a_t_image a_t_isKept t_signs t_parts t_swings t_saltFirst t_paceOfAll t_ice t_salt t_brine t_cold t_warm t_frozen t_layer t_air t_churned t_held t_heldFirst t_stiffWanted t_stiffFirst t_how t_strong t_plan t_instead t_flakes t_tired) sz) (woX9_bestPace cI cZ a_t a_t_how a_t_strong a_t_pad a_t_plan a_t_box a_t_instead a_t_flakes a_t_tired a_t_image a_t_isKept t_signs t_parts t_swings v_t_saltFirst v_t_paceOfAll v_t_ice v_t_salt v_t_brine v_t_cold v_t_warm v_t_frozen v_t_layer v_t_air v_t_churned v_t_held v_t_heldFirst t_stiffWanted v_t_stiffFirst t_how t_strong t_plan v_t_instead v_t_flakes v_t_tired) → va_S (va_A (woX9_bestPace cI cZ a_t a_t_how a_t_strong a_t_pad a_t_plan a_t_box a_t_instead a_t_flakes a_t_tired a_t_image a_t_isKept t_signs t_parts t_swings t_saltFirst t_paceOfAll t_ice t_salt t_brine t_cold t_warm t_frozen t_layer t_air t_churned t_held t_heldFirst t_stiffWanted t_stiffFirst t_how t_strong t_plan t_instead t_flakes t_tired) sz) s.heap H locs → lv_has ls 5 [(0, .ref a_t), (1, .int y1), (2, .int y2), (3, .int y3), (4, .int y4)] → W p l e (headSpec wyX9_bestPace rmX9_bestPace).room s m ([Value.ref a_t, Value.int x1] : List Value).toArray below meth c H locs 0 0 (MQ below (POSTi (dC, dI) R.1 sz (woX9_bestPace cI cZ a_t a_t_how a_t_strong a_t_pad a_t_plan a_t_box a_t_instead a_t_flakes a_t_tired a_t_image a_t_isKept t_signs t_parts t_swings t_saltFirst t_paceOfAll t_ice t_salt t_brine t_cold t_warm t_frozen t_layer t_air t_churned t_held t_heldFirst t_stiffWanted t_stiffFirst t_how t_strong t_plan t_instead t_flakes t_tired) (woX9_bestPace cI cZ a_t a_t_how a_t_strong a_t_pad a_t_plan a_t_box a_t_instead a_t_flakes a_t_tired a_t_image a_t_isKept t_signs t_parts t_swings R.2.1 R.2.2.1 R.2.2.2.1 R.2.2.2.2.1 R.2.2.2.2.2.1 R.2.2.2.2.2.2.1 R.2.2.2.2.2.2.2.1 R.2.2.2.2.2.2.2.2.1 R.2.2.2.2.2.2.2.2.2.1 R.2.2.2.2.2.2.2.2.2.2.1 R.2.2.2.2.2.2.2.2.2.2.2.1 R.2.2.2.2.2.2.2.2.2.2.2.2.1 R.2.2.2.2.2.2.2.2.2.2.2.2.2.1 t_stiffWanted R.2.2.2.2.2.2.2.2.2.2.2.2.2.2.1 t_how t_strong t_plan R.2.2.2.2.2.2.2.2.2.2.2.2.2.2.2.1 R.2.2.2.2.2.2.2.2.2.2.2.2.2.2.2.2.1 R.2.2.2.2.2.2.2.2.2.2.2.2.2.2.2.2.2)) ([Value.ref a_t, Value.int x1] : List Value).toArray s 0 0 (va_A (woX9_bestPace cI cZ a_t a_t_how a_t_strong a_t_pad a_t_plan a_t_box a_t_instead a_t_flakes a_t_tired a_t_image a_t_isKept t_signs t_parts t_swings t_saltFirst t_paceOfAll t_ice t_salt t_brine t_cold t_warm t_frozen t_layer t_air t_churned t_held t_heldFirst t_stiffWanted t_stiffFirst t_how t_strong t_plan t_instead t_flakes t_tired) sz)) (F0 m 24 ls []) := by
    intro  fu
    induction fu with
    | zero => intro y1 y2 y3 y4 v_t_saltFirst v_t_paceOfAll v_t_ice v_t_salt v_t_brine v_t_cold v_t_warm v_t_frozen v_t_layer v_t_air v_t_churned v_t_held v_t_heldFirst v_t_stiffFirst v_t_instead v_t_flakes v_t_tired H locs ls hf; cases hf
    | succ fu ih =>
      intro y1 y2 y3 y4 v_t_saltFirst v_t_paceOfAll v_t_ice v_t_salt v_t_brine v_t_cold v_t_warm v_t_frozen v_t_layer v_t_air v_t_churned v_t_held v_t_heldFirst v_t_stiffFirst v_t_instead v_t_flakes v_t_tired H locs ls hf hP hD hS hl
      rw [f_X9_bestPace_L24] at hf
      refine lv_iload hx hb dX9_bestPace_24 (lv_at hl 4 rfl) ?_
      refine lv_bipush (v := 10) hx hb dX9_bestPace_26 (by decide) ?_
      refine lv_icmp_ge (tgt := 78) hx hb dX9_bestPace_28 (by decide) (fun c1 => ?_) (fun c1 => ?_)
      · have hf := (if_pos c1).symm.trans hf
        refine lv_iload_n hx hb dX9_bestPace_78 rfl (lv_at hl 2 rfl) ?_
        refine lv_if_lt (tgt := 86) hx hb dX9_bestPace_79 (by decide) (fun c2 => ?_) (fun c2 => ?_)
        · have hf := (if_pos c2).symm.trans hf
          refine lv_iload_n hx hb dX9_bestPace_86 rfl (lv_at hl 2 rfl) ?_
          refine lv_goto (tgt := 91) hx hb dX9_bestPace_87 (by decide) ?_
          have hR := Option.some.inj hf
          rw [← hR]
          exact rt_i hx hb hr hlk hsz hP hD hS rfl rfl dX9_bestPace_91
        · have hf := (if_neg c2).symm.trans hf
          refine lv_iload_n hx hb dX9_bestPace_82 rfl (lv_at hl 1 rfl) ?_
          refine lv_if_ne (tgt := 90) hx hb dX9_bestPace_83 (by decide) (fun c3 => ?_) (fun c3 => ?_)
          · have hf := (if_neg c3).symm.trans hf
            refine lv_iload_n hx hb dX9_bestPace_90 rfl (lv_at hl 3 rfl) ?_
            have hR := Option.some.inj hf
            rw [← hR]
            exact rt_i hx hb hr hlk hsz hP hD hS rfl rfl dX9_bestPace_91
          · have hf := (if_pos c3).symm.trans hf
            refine lv_iload_n hx hb dX9_bestPace_86 rfl (lv_at hl 2 rfl) ?_
            refine lv_goto (tgt := 91) hx hb dX9_bestPace_87 (by decide) ?_
            have hR := Option.some.inj hf
            rw [← hR]
            exact rt_i hx hb hr hlk hsz hP hD hS rfl rfl dX9_bestPace_91
      · have hf := (if_neg c1).symm.trans hf
        refine lv_aload_n hx hb dX9_bestPace_31 rfl (lv_at hl 0 rfl) ?_
        refine lv_iload hx hb dX9_bestPace_32 (lv_at hl 4 rfl) ?_
        refine mp (ci := 9) (wN := (woX9_bestPace cI cZ a_t a_t_how a_t_strong a_t_pad a_t_plan a_t_box a_t_instead a_t_flakes a_t_tired a_t_image a_t_isKept t_signs t_parts t_swings v_t_saltFirst y4 v_t_ice v_t_salt v_t_brine v_t_cold v_t_warm v_t_frozen v_t_layer v_t_air v_t_churned v_t_held v_t_heldFirst t_stiffWanted v_t_stiffFirst t_how t_strong t_plan v_t_instead v_t_flakes v_t_tired)) 0 10 hx hb hG igX9 tyX9 tyX9_ok nmX9 hown hP hD hS rfl rfl (by decide) (wd_3_142 hG.2.1) rfl rfl rfl rfl rfl (Nat.le_of_ble_eq_true rfl) rfl dX9_bestPace_34 (fun H locs hP hD hS => ?_)
        refine lv_aload_n hx hb dX9_bestPace_37 rfl (lv_at hl 0 rfl) ?_
        refine lv_aload_n hx hb dX9_bestPace_38 rfl (lv_at hl 0 rfl) ?_
        obtain ⟨r39, hc39, hf⟩ := bd1_some hf
        refine cl_Vi (r := r39) (b := a_t) (As := []) (w1 := (woX9_minutesOf cI cZ a_t a_t_how a_t_strong a_t_pad a_t_plan a_t_box a_t_instead a_t_flakes a_t_tired a_t_image a_t_isKept t_signs t_parts t_swings v_t_saltFirst y4 v_t_ice v_t_salt v_t_brine v_t_cold v_t_warm v_t_frozen v_t_layer v_t_air v_t_churned v_t_held v_t_heldFirst t_stiffWanted v_t_stiffFirst t_plan)) (wN := (woX9_bestPace cI cZ a_t a_t_how a_t_strong a_t_pad a_t_plan a_t_box a_t_instead a_t_flakes a_t_tired a_t_image a_t_isKept t_signs t_parts t_swings v_t_saltFirst y4 v_t_ice v_t_salt v_t_brine v_t_cold v_t_warm v_t_frozen v_t_layer v_t_air v_t_churned v_t_held v_t_heldFirst t_stiffWanted v_t_stiffFirst t_how t_strong t_plan v_t_instead v_t_flakes v_t_tired)) [0, 3] 0 9 (c_X9_minutesOf l dC dI cI cZ ts _ a_t a_t_how a_t_strong a_t_pad a_t_plan a_t_box a_t_instead a_t_flakes a_t_tired a_t_image a_t_isKept t_signs t_parts t_swings v_t_saltFirst y4 v_t_ice v_t_salt v_t_brine v_t_cold v_t_warm v_t_frozen v_t_layer v_t_air v_t_churned v_t_held v_t_heldFirst t_stiffWanted v_t_stiffFirst t_plan (r39) hc39) ⟨hx, hb, hml, hown, hG.2.1.hts _⟩ ⟨callB_of 0 (hG.2.1.hts _) giX9_minutesOf rfl rfl rfl (wd_1_10 hG.2.1) (wd_4_25 hG.2.1) hd_X9_minutesOf ⟨Nat.le_of_ble_eq_true rfl, Nat.le_of_ble_eq_true rfl⟩, wd_4_27 hG.2.1, ws_17 hG.2.1⟩ hG hP hD hS rfl rfl rfl rfl rfl rfl rfl rfl hl.1 rfl (Nat.le_of_ble_eq_true rfl) dX9_bestPace_39 ⟨Nat.zero_le _, Nat.zero_le _⟩ (fun H locs hP hD hS => ?_)
        obtain ⟨g42_0, g42_1, g42_2, g42_3, g42_4, g42_5, g42_6, g42_7, g42_8, g42_9, g42_10, g42_11, g42_12, g42_13, hc42, hf⟩ := bd14_some hf
        refine cl_Vv (b := a_t) (As := [.int r39]) (w1 := (woX9_run cI cZ a_t a_t_how a_t_strong a_t_pad a_t_plan a_t_box a_t_instead a_t_flakes a_t_tired a_t_image a_t_isKept t_signs t_parts t_swings v_t_saltFirst y4 g42_0 g42_1 g42_2 g42_3 g42_4 g42_5 g42_6 g42_7 g42_8 g42_9 g42_10 t_stiffWanted g42_11 t_how t_strong t_plan v_t_instead g42_12 g42_13)) (wN := (woX9_bestPace cI cZ a_t a_t_how a_t_strong a_t_pad a_t_plan a_t_box a_t_instead a_t_flakes a_t_tired a_t_image a_t_isKept t_signs t_parts t_swings v_t_saltFirst y4 g42_0 g42_1 g42_2 g42_3 g42_4 g42_5 g42_6 g42_7 g42_8 g42_9 g42_10 t_stiffWanted g42_11 t_how t_strong t_plan v_t_instead g42_12 g42_13)) [0, 1, 2, 3, 4, 5, 6] 0 9 (c_X9_run l dC dI cI cZ ts _ a_t a_t_how a_t_strong a_t_pad a_t_plan a_t_box a_t_instead a_t_flakes a_t_tired a_t_image a_t_isKept t_signs t_parts t_swings v_t_saltFirst y4 v_t_ice v_t_salt v_t_brine v_t_cold v_t_warm v_t_frozen v_t_layer v_t_air v_t_churned v_t_held v_t_heldFirst t_stiffWanted v_t_stiffFirst t_how t_strong t_plan v_t_instead v_t_flakes v_t_tired r39 (g42_0, g42_1, g42_2, g42_3, g42_4, g42_5, g42_6, g42_7, g42_8, g42_9, g42_10, g42_11, g42_12, g42_13) hc42) ⟨hx, hb, hml, hown, hG.2.1.hts _⟩ ⟨callB_of 1 (hG.2.1.hts _) giX9_run rfl rfl rfl (wd_1_10 hG.2.1) (wd_4_41 hG.2.1) hd_X9_run ⟨Nat.le_of_ble_eq_true rfl, Nat.le_of_ble_eq_true rfl⟩, wd_4_43 hG.2.1, ws_20 hG.2.1⟩ hG hP hD hS rfl rfl rfl rfl rfl rfl rfl rfl hl.1 rfl (Nat.le_of_ble_eq_true rfl) dX9_bestPace_42 ⟨Nat.zero_le _, Nat.zero_le _⟩ (fun H locs hP hD hS => ?_)
        refine lv_aload_n hx hb dX9_bestPace_45 rfl (lv_at hl 0 rfl) ?_
        obtain ⟨r46, hc46, hf⟩ := bd1_some hf
        refine cl_Vi (r := r46) (b := a_t) (As := []) (w1 := (woX9_isEnough cI cZ a_t a_t_how a_t_strong a_t_pad a_t_plan a_t_box a_t_instead a_t_flakes a_t_tired a_t_image a_t_isKept t_signs t_parts t_swings v_t_saltFirst y4 g42_0 g42_1 g42_2 g42_3 g42_4 g42_5 g42_6 g42_7 g42_8 g42_9 g42_10 t_stiffWanted g42_11 t_how)) (wN := (woX9_bestPace cI cZ a_t a_t_how a_t_strong a_t_pad a_t_plan a_t_box a_t_instead a_t_flakes a_t_tired a_t_image a_t_isKept t_signs t_parts t_swings v_t_saltFirst y4 g42_0 g42_1 g42_2 g42_3 g42_4 g42_5 g42_6 g42_7 g42_8 g42_9 g42_10 t_stiffWanted g42_11 t_how t_strong t_plan v_t_instead g42_12 g42_13)) [0, 1] 0 9 (c_X9_isEnough l dC dI cI cZ ts _ a_t a_t_how a_t_strong a_t_pad a_t_plan a_t_box a_t_instead a_t_flakes a_t_tired a_t_image a_t_isKept t_signs t_parts t_swings v_t_saltFirst y4 g42_0 g42_1 g42_2 g42_3 g42_4 g42_5 g42_6 g42_7 g42_8 g42_9 g42_10 t_stiffWanted g42_11 t_how (r46) hc46) ⟨hx, hb, hml, hown, hG.2.1.hts _⟩ ⟨callB_of 0 (hG.2.1.hts _) giX9_isEnough rfl rfl rfl (wd_1_10 hG.2.1) (wd_4_97 hG.2.1) hd_X9_isEnough ⟨Nat.le_of_ble_eq_true rfl, Nat.le_of_ble_eq_true rfl⟩, wd_4_99 hG.2.1, ws_29 hG.2.1⟩ hG hP hD hS rfl rfl rfl rfl rfl rfl rfl rfl hl.1 rfl (Nat.le_of_ble_eq_true rfl) dX9_bestPace_46 ⟨Nat.zero_le _, Nat.zero_le _⟩ (fun H locs hP hD hS => ?_)
        refine lv_if_eq (tgt := 72) hx hb dX9_bestPace_49 (by decide) (fun c4 => ?_) (fun c4 => ?_)
        · have hf := (if_pos c4).symm.trans hf
          refine lv_iinc (v := (y4 + (1 : Int32))) (lv' := [(4, .int (y4 + (1 : Int32))), (0, .ref a_t), (1, .int y1), (2, .int y2), (3, .int y3)]) hx hb dX9_bestPace_72 hl (k := 4) rfl rfl (by decide) rfl (fun ls hl => ?_)
          refine lv_goto (tgt := 24) hx hb dX9_bestPace_75 (by decide) ?_
          exact ih y1 y2 y3 (y4 + (1 : Int32)) v_t_saltFirst y4 g42_0 g42_1 g42_2 g42_3 g42_4 g42_5 g42_6 g42_7 g42_8 g42_9 g42_10 g42_11 v_t_instead g42_12 g42_13 _ _ _ hf hP hD hS (lv_sub hl [1, 2, 3, 4, 0] rfl)
        · have hf := (if_neg c4).symm.trans hf
          refine lv_iload_n hx hb dX9_bestPace_52 rfl (lv_at hl 2 rfl) ?_
          refine lv_if_lt (tgt := 64) hx hb dX9_bestPace_53 (by decide) (fun c5 => ?_) (fun c5 => ?_)
          · have hf := (if_pos c5).symm.trans hf
            exact L64 (f_X9_bestPace_L24 t_parts t_stiffWanted t_how t_strong t_plan fu) ih y1 y4 v_t_saltFirst y4 g42_0 g42_1 g42_2 g42_3 g42_4 g42_5 g42_6 g42_7 g42_8 g42_9 g42_10 g42_11 v_t_instead g42_12 g42_13 _ _ _ hf hP hD hS (lv_sub hl [0, 1, 4] rfl)
          · have hf := (if_neg c5).symm.trans hf
            refine lv_aload_n hx hb dX9_bestPace_56 rfl (lv_at hl 0 rfl) ?_
            obtain ⟨r57, hc57, hf⟩ := bd1_some hf
            refine cl_Vi (r := r57) (b := a_t) (As := []) (w1 := (woX9_coarse cI cZ a_t a_t_how a_t_strong a_t_pad a_t_plan a_t_box a_t_instead a_t_flakes a_t_tired a_t_image a_t_isKept t_signs t_parts t_swings v_t_saltFirst y4 g42_0 g42_1 g42_2 g42_3 g42_4 g42_5 g42_6 g42_7 g42_8 g42_9 g42_10 t_stiffWanted g42_11 g42_12)) (wN := (woX9_bestPace cI cZ a_t a_t_how a_t_strong a_t_pad a_t_plan a_t_box a_t_instead a_t_flakes a_t_tired a_t_image a_t_isKept t_signs t_parts t_swings v_t_saltFirst y4 g42_0 g42_1 g42_2 g42_3 g42_4 g42_5 g42_6 g42_7 g42_8 g42_9 g42_10 t_stiffWanted g42_11 t_how t_strong t_plan v_t_instead g42_12 g42_13)) [0, 5] 0 9 (c_X9_coarse l dC dI cI cZ ts _ a_t a_t_how a_t_strong a_t_pad a_t_plan a_t_box a_t_instead a_t_flakes a_t_tired a_t_image a_t_isKept t_signs t_parts t_swings v_t_saltFirst y4 g42_0 g42_1 g42_2 g42_3 g42_4 g42_5 g42_6 g42_7 g42_8 g42_9 g42_10 t_stiffWanted g42_11 g42_12 (r57) hc57) ⟨hx, hb, hml, hown, hG.2.1.hts _⟩ ⟨callB_of 0 (hG.2.1.hts _) giX9_coarse rfl rfl rfl (wd_1_10 hG.2.1) (wd_4_73 hG.2.1) hd_X9_coarse ⟨Nat.le_of_ble_eq_true rfl, Nat.le_of_ble_eq_true rfl⟩, wd_4_75 hG.2.1, ws_28 hG.2.1⟩ hG hP hD hS rfl rfl rfl rfl rfl rfl rfl rfl hl.1 rfl (Nat.le_of_ble_eq_true rfl) dX9_bestPace_57 ⟨Nat.zero_le _, Nat.zero_le _⟩ (fun H locs hP hD hS => ?_)
            refine lv_iload_n hx hb dX9_bestPace_60 rfl (lv_at hl 3 rfl) ?_
            refine lv_icmp_ge (tgt := 72) hx hb dX9_bestPace_61 (by decide) (fun c6 => ?_) (fun c6 => ?_)
            · have hf := (if_pos c6).symm.trans hf
              refine lv_iinc (v := (y4 + (1 : Int32))) (lv' := [(4, .int (y4 + (1 : Int32))), (0, .ref a_t), (1, .int y1), (2, .int y2), (3, .int y3)]) hx hb dX9_bestPace_72 hl (k := 4) rfl rfl (by decide) rfl (fun ls hl => ?_)
              refine lv_goto (tgt := 24) hx hb dX9_bestPace_75 (by decide) ?_
              exact ih y1 y2 y3 (y4 + (1 : Int32)) v_t_saltFirst y4 g42_0 g42_1 g42_2 g42_3 g42_4 g42_5 g42_6 g42_7 g42_8 g42_9 g42_10 g42_11 v_t_instead g42_12 g42_13 _ _ _ hf hP hD hS (lv_sub hl [1, 2, 3, 4, 0] rfl)
            · have hf := (if_neg c6).symm.trans hf
              exact L64 (f_X9_bestPace_L24 t_parts t_stiffWanted t_how t_strong t_plan fu) ih y1 y4 v_t_saltFirst y4 g42_0 g42_1 g42_2 g42_3 g42_4 g42_5 g42_6 g42_7 g42_8 g42_9 g42_10 g42_11 v_t_instead g42_12 g42_13 _ _ _ hf hP hD hS (lv_sub hl [0, 1, 4] rfl)
  have hl := lv_entry ([.ref a_t, .int x1]) (n := 5) (Nat.le_of_ble_eq_true rfl)
  rw [lg_entry_eq]
  generalize (lg_sl ([.ref a_t, .int x1]) ++ List.replicate (5 - (lg_sl ([.ref a_t, .int x1])).length) Slot.unset).toArray = ls at hl ⊢
  have hl : lv_has ls 5 [(0, .ref a_t), (1, .int x1)] := hl
  unfold f_X9_bestPace at hf
  refine lv_iload_n hx hb dX9_bestPace_0 rfl (lv_at hl 1 rfl) ?_
  refine lv_iconst (v := 0) hx hb dX9_bestPace_1 (by decide) ?_
  refine lv_iconst (v := 1) hx hb dX9_bestPace_2 (by decide) ?_
  obtain ⟨r3, hc3, hf⟩ := bd1_some hf
  refine cl_Si (r := r3) (As := [.int x1, .int (0 : Int32), .int (1 : Int32)]) (w1 := []) (wN := (woX9_bestPace cI cZ a_t a_t_how a_t_strong a_t_pad a_t_plan a_t_box a_t_instead a_t_flakes a_t_tired a_t_image a_t_isKept t_signs t_parts t_swings t_saltFirst t_paceOfAll t_ice t_salt t_brine t_cold t_warm t_frozen t_layer t_air t_churned t_held t_heldFirst t_stiffWanted t_stiffFirst t_how t_strong t_plan t_instead t_flakes t_tired)) [] 0 0 (c_X9_in l dC dI cI cZ ts _ x1 (0 : Int32) (1 : Int32) (r3) hc3) ⟨hx, hb, hml, hown, hG.2.1.hts _⟩ ⟨callB_of 3 (hG.2.1.hts _) giX9_in rfl rfl rfl (wd_1_10 hG.2.1) (wd_3_222 hG.2.1) hd_X9_in ⟨Nat.le_of_ble_eq_true rfl, Nat.le_of_ble_eq_true rfl⟩, wd_3_223 hG.2.1⟩ hG hP hD hS rfl rfl rfl rfl rfl hl.1 rfl (Nat.le_of_ble_eq_true rfl) dX9_bestPace_3 ⟨Nat.zero_le _, Nat.zero_le _⟩ (fun H locs hP hD hS => ?_)
  refine lv_if_ne (tgt := 12) hx hb dX9_bestPace_6 (by decide) (fun c7 => ?_) (fun c7 => ?_)
  · have hf := (if_neg c7).symm.trans hf
    refine lv_aload_n hx hb dX9_bestPace_12 rfl (lv_at hl 0 rfl) ?_
    obtain ⟨g13_0, g13_1, g13_2, hc13, hf⟩ := bd3_some hf
    refine cl_Vv (b := a_t) (As := []) (w1 := (woX9_asTold cI cZ a_t a_t_how a_t_strong a_t_pad a_t_plan a_t_box a_t_instead a_t_flakes a_t_tired a_t_image a_t_isKept t_signs t_parts t_swings g13_0 g13_1 t_ice t_salt t_brine t_cold t_warm t_frozen t_layer t_air t_churned t_held t_heldFirst t_stiffWanted t_stiffFirst t_how g13_2)) (wN := (woX9_bestPace cI cZ a_t a_t_how a_t_strong a_t_pad a_t_plan a_t_box a_t_instead a_t_flakes a_t_tired a_t_image a_t_isKept t_signs t_parts t_swings g13_0 g13_1 t_ice t_salt t_brine t_cold t_warm t_frozen t_layer t_air t_churned t_held t_heldFirst t_stiffWanted t_stiffFirst t_how t_strong t_plan g13_2 t_flakes t_tired)) [0, 1, 4] 0 9 (c_X9_asTold l dC dI cI cZ ts _ a_t a_t_how a_t_strong a_t_pad a_t_plan a_t_box a_t_instead a_t_flakes a_t_tired a_t_image a_t_isKept t_signs t_parts t_swings t_saltFirst t_paceOfAll t_ice t_salt t_brine t_cold t_warm t_frozen t_layer t_air t_churned t_held t_heldFirst t_stiffWanted t_stiffFirst t_how t_instead (g13_0, g13_1, g13_2) hc13) ⟨hx, hb, hml, hown, hG.2.1.hts _⟩ ⟨callB_of 0 (hG.2.1.hts _) giX9_asTold rfl rfl rfl (wd_1_10 hG.2.1) (wd_4_37 hG.2.1) hd_X9_asTold ⟨Nat.le_of_ble_eq_true rfl, Nat.le_of_ble_eq_true rfl⟩, wd_4_39 hG.2.1, ws_19 hG.2.1⟩ hG hP hD hS rfl rfl rfl rfl rfl rfl rfl rfl hl.1 rfl (Nat.le_of_ble_eq_true rfl) dX9_bestPace_13 ⟨Nat.zero_le _, Nat.zero_le _⟩ (fun H locs hP hD hS => ?_)
    refine lv_bipush (v := -6) hx hb dX9_bestPace_16 (by decide) ?_
    refine lv_istore_n (lv' := [(2, .int (-6 : Int32)), (0, .ref a_t), (1, .int x1)]) hx hb dX9_bestPace_18 rfl hl (by decide) rfl (fun ls hl => ?_)
    refine lv_iconst (v := 0) hx hb dX9_bestPace_19 (by decide) ?_
    refine lv_istore_n (lv' := [(3, .int (0 : Int32)), (2, .int (-6 : Int32)), (0, .ref a_t), (1, .int x1)]) hx hb dX9_bestPace_20 rfl hl (by decide) rfl (fun ls hl => ?_)
    refine lv_iconst (v := 1) hx hb dX9_bestPace_21 (by decide) ?_
    refine lv_istore (lv' := [(4, .int (1 : Int32)), (3, .int (0 : Int32)), (2, .int (-6 : Int32)), (0, .ref a_t), (1, .int x1)]) hx hb dX9_bestPace_22 hl (by decide) rfl (fun ls hl => ?_)
    exact L24 FU x1 (-6 : Int32) (0 : Int32) (1 : Int32) g13_0 g13_1 t_ice t_salt t_brine t_cold t_warm t_frozen t_layer t_air t_churned t_held t_heldFirst t_stiffFirst g13_2 t_flakes t_tired _ _ _ hf hP hD hS (lv_sub hl [3, 4, 2, 1, 0] rfl)
  · have hf := (if_pos c7).symm.trans hf
    refine lv_bipush (v := -2) hx hb dX9_bestPace_9 (by decide) ?_
    have hR := Option.some.inj hf
    rw [← hR]
    exact rt_i hx hb hr hlk hsz hP hD hS rfl rfl dX9_bestPace_11
abbrev woX9_leaveOff (cI cZ : ClassId) (a_t a_t_how a_t_strong a_t_pad a_t_plan a_t_box a_t_instead a_t_flakes a_t_tired a_t_image a_t_isKept : Nat) (t_signs : Int32) (t_parts : Int32) (t_swings : Int32) (t_saltFirst : Int32) (t_paceOfAll : Int32) (t_ice : Int32) (t_salt : Int32) (t_brine : Int32) (t_cold : Int32) (t_warm : Int32) (t_frozen : Int32) (t_layer : Int32) (t_air : Int32) (t_churned : Int32) (t_held : Int32) (t_heldFirst : Int32) (t_stiffWanted : Int32) (t_stiffFirst : Int32) (t_how : Nat → Int32) (t_strong : Nat → Int32) (t_plan : Nat → Int32) (t_instead : Nat → Int32) (t_flakes : Nat → Int32) (t_tired : Nat → Int32) : va_W := [(a_t, .inr (9, [.ref a_t_how, .ref a_t_strong, .int t_signs, .ref a_t_pad, .int t_parts, .ref a_t_plan, .int t_swings, .ref a_t_box, .ref a_t_instead, .int t_saltFirst, .int t_paceOfAll, .int t_ice, .int t_salt, .int t_brine, .int t_cold, .int t_warm, .int t_frozen, .int t_layer, .int t_air, .int t_churned, .ref a_t_flakes, .ref a_t_tired, .int t_held, .int t_heldFirst, .int t_stiffWanted, .int t_stiffFirst, .ref a_t_image, .ref a_t_isKept])), (a_t_how, .inl (cI, 8, .inl t_how)), (a_t_strong, .inl (cI, 4, .inl t_strong)), (a_t_plan, .inl (cI, 60, .inl t_plan)), (a_t_instead, .inl (cI, 4, .inl t_instead)), (a_t_flakes, .inl (cI, 64, .inl t_flakes)), (a_t_tired, .inl (cI, 4, .inl t_tired))]
abbrev rmX9_leaveOff : Room := { frames := 5, cells := 0, slots := 0, locals := 118 }
theorem hd_X9_leaveOff : yX9_leaveOff.cls ≠ "java/lang/invoke/MethodHandle" ∧ yX9_leaveOff.cls ≠ "java/lang/invoke/VarHandle" ∧ (parseMethodDescriptor yX9_leaveOff.desc).map (fun d => d.parameters.length) = some 1 := by decide +kernel
set_option maxHeartbeats 4000000 in
set_option maxRecDepth 100000 in
theorem c_X9_leaveOff (l : Launch) (dC : Nat → ClassId) (dI : Nat → Nat → Nat) (cI cZ : ClassId) (ts : Nat → Nat) (sz : Nat) (a_t a_t_how a_t_strong a_t_pad a_t_plan a_t_box a_t_instead a_t_flakes a_t_tired a_t_image a_t_isKept : Nat) (t_signs : Int32) (t_parts : Int32) (t_swings : Int32) (t_saltFirst : Int32) (t_paceOfAll : Int32) (t_ice : Int32) (t_salt : Int32) (t_brine : Int32) (t_cold : Int32) (t_warm : Int32) (t_frozen : Int32) (t_layer : Int32) (t_air : Int32) (t_churned : Int32) (t_held : Int32) (t_heldFirst : Int32) (t_stiffWanted : Int32) (t_stiffFirst : Int32) (t_how : Nat → Int32) (t_strong : Nat → Int32) (t_plan : Nat → Int32) (t_instead : Nat → Int32) (t_flakes : Nat → Int32) (t_tired : Nat → Int32) (x1 : Int32) (R : Int32 × Int32 × Int32 × Int32 × Int32 × Int32 × Int32 × Int32 × Int32 × Int32 × Int32 × Int32 × Int32 × Int32 × Int32 × Int32 × (Nat → Int32) × (Nat → Int32) × (Nat → Int32)) (hf : f_X9_leaveOff t_parts t_saltFirst t_paceOfAll t_ice t_salt t_brine t_cold t_warm t_frozen t_layer t_air t_churned t_held t_heldFirst t_stiffWanted t_stiffFirst t_how t_strong t_plan t_instead t_flakes t_tired x1 = some R) : Met l yX9_leaveOff wyX9_leaveOff rmX9_leaveOff (PRE (dC, dI) cI cZ ts [.ref a_t, .int x1] sz (woX9_leaveOff cI cZ a_t a_t_how a_t_strong a_t_pad a_t_plan a_t_box a_t_instead a_t_flakes a_t_tired a_t_image a_t_isKept t_signs t_parts t_swings t_saltFirst t_paceOfAll t_ice t_salt t_brine t_cold t_warm t_frozen t_layer t_air t_churned t_held t_heldFirst t_stiffWanted t_stiffFirst t_how t_strong t_plan t_instead t_flakes t_tired)) (POSTi (dC, dI) R.1 sz (woX9_leaveOff cI cZ a_t a_t_how a_t_strong a_t_pad a_t_plan a_t_box a_t_instead a_t_flakes a_t_tired a_t_image a_t_isKept t_signs t_parts t_swings t_saltFirst t_paceOfAll t_ice t_salt t_brine t_cold t_warm t_frozen t_layer t_air t_churned t_held t_heldFirst t_stiffWanted t_stiffFirst t_how t_strong t_plan t_instead t_flakes t_tired) (woX9_leaveOff cI cZ a_t a_t_how a_t_strong a_t_pad a_t_plan a_t_box a_t_instead a_t_flakes a_t_tired a_t_image a_t_isKept t_signs t_parts t_swings R.2.1 R.2.2.1 R.2.2.2.1 R.2.2.2.2.1 R.2.2.2.2.2.1 R.2.2.2.2.2.2.1 R.2.2.2.2.2.2.2.1 R.2.2.2.2.2.2.2.2.1 R.2.2.2.2.2.2.2.2.2.1 R.2.2.2.2.2.2.2.2.2.2.1 R.2.2.2.2.2.2.2.2.2.2.2.1 R.2.2.2.2.2.2.2.2.2.2.2.2.1 R.2.2.2.2.2.2.2.2.2.2.2.2.2.1 R.2.2.2.2.2.2.2.2.2.2.2.2.2.2.1 R.2.2.2.2.2.2.2.2.2.2.2.2.2.2.2.1 t_how t_strong t_plan R.2.2.2.2.2.2.2.2.2.2.2.2.2.2.2.2.1 R.2.2.2.2.2.2.2.2.2.2.2.2.2.2.2.2.2.1 R.2.2.2.2.2.2.2.2.2.2.2.2.2.2.2.2.2.2)) 0 0 (va_A (woX9_leaveOff cI cZ a_t a_t_how a_t_strong a_t_pad a_t_plan a_t_box a_t_instead a_t_flakes a_t_tired a_t_image a_t_isKept t_signs t_parts t_swings t_saltFirst t_paceOfAll t_ice t_salt t_brine t_cold t_warm t_frozen t_layer t_air t_churned t_held t_heldFirst t_stiffWanted t_stiffFirst t_how t_strong t_plan t_instead t_flakes t_tired) sz) := by
  refine Met.ofW (cc := cX9_leaveOff) (maxL := 2) (ret := (some .int)) (by decide) rfl ?_
  intro p e s m args below meth c s₁ B hml hv
  obtain ⟨rfl, hv⟩ := hv
  have hG := hg_of hv
  obtain ⟨hsz, hP, -, hD0, -⟩ := hv
  have hx := B.exec
  have hb := B.bytes
  have hr := B.returns
  have hlk := B.notSynchronized
  have hown : s.vm.findClass RX9 = some m.cls := findClass_of_methodNamed B.named
  have hD := hD0.self (sz := sz)
  have hS : va_S (va_A (woX9_leaveOff cI cZ a_t a_t_how a_t_strong a_t_pad a_t_plan a_t_box a_t_instead a_t_flakes a_t_tired a_t_image a_t_isKept t_signs t_parts t_swings t_saltFirst t_paceOfAll t_ice t_salt t_brine t_cold t_warm t_frozen t_layer t_air t_churned t_held t_heldFirst t_stiffWanted t_stiffFirst t_how t_strong t_plan t_instead t_flakes t_tired) sz) s.heap s.heap [] := va_S.rf
  have hl := lv_entry ([.ref a_t, .int x1]) (n := 2) (Nat.le_of_ble_eq_true rfl)
  rw [lg_entry_eq]
  generalize (lg_sl ([.ref a_t, .int x1]) ++ List.replicate (2 - (lg_sl ([.ref a_t, .int x1])).length) Slot.unset).toArray = ls at hl ⊢
  have hl : lv_has ls 2 [(0, .ref a_t), (1, .int x1)] := hl
  unfold f_X9_leaveOff at hf
  refine lv_iload_n hx hb dX9_leaveOff_0 rfl (lv_at hl 1 rfl) ?_
  refine lv_iconst (v := 0) hx hb dX9_leaveOff_1 (by decide) ?_
  refine lv_bipush (v := 120) hx hb dX9_leaveOff_2 (by decide) ?_
  obtain ⟨r4, hc4, hf⟩ := bd1_some hf
  refine cl_Si (r := r4) (As := [.int x1, .int (0 : Int32), .int (120 : Int32)]) (w1 := []) (wN := (woX9_leaveOff cI cZ a_t a_t_how a_t_strong a_t_pad a_t_plan a_t_box a_t_instead a_t_flakes a_t_tired a_t_image a_t_isKept t_signs t_parts t_swings t_saltFirst t_paceOfAll t_ice t_salt t_brine t_cold t_warm t_frozen t_layer t_air t_churned t_held t_heldFirst t_stiffWanted t_stiffFirst t_how t_strong t_plan t_instead t_flakes t_tired)) [] 0 0 (c_X9_in l dC dI cI cZ ts _ x1 (0 : Int32) (120 : Int32) (r4) hc4) ⟨hx, hb, hml, hown, hG.2.1.hts _⟩ ⟨callB_of 3 (hG.2.1.hts _) giX9_in rfl rfl rfl (wd_1_10 hG.2.1) (wd_3_222 hG.2.1) hd_X9_in ⟨Nat.le_of_ble_eq_true rfl, Nat.le_of_ble_eq_true rfl⟩, wd_3_223 hG.2.1⟩ hG hP hD hS rfl rfl rfl rfl rfl hl.1 rfl (Nat.le_of_ble_eq_true rfl) dX9_leaveOff_4 ⟨Nat.zero_le _, Nat.zero_le _⟩ (fun H locs hP hD hS => ?_)
  refine lv_if_ne (tgt := 13) hx hb dX9_leaveOff_7 (by decide) (fun c1 => ?_) (fun c1 => ?_)
  · have hf := (if_neg c1).symm.trans hf
    refine lv_aload_n hx hb dX9_leaveOff_13 rfl (lv_at hl 0 rfl) ?_
    refine lv_iload_n hx hb dX9_leaveOff_14 rfl (lv_at hl 1 rfl) ?_
    refine mp (ci := 9) (wN := (woX9_leaveOff cI cZ a_t a_t_how a_t_strong a_t_pad a_t_plan a_t_box a_t_instead a_t_flakes a_t_tired a_t_image a_t_isKept t_signs t_parts t_swings t_saltFirst t_paceOfAll t_ice t_salt t_brine t_cold t_warm t_frozen t_layer t_air t_churned t_held t_heldFirst x1 t_stiffFirst t_how t_strong t_plan t_instead t_flakes t_tired)) 0 24 hx hb hG igX9 tyX9 tyX9_ok nmX9 hown hP hD hS rfl rfl (by decide) (wd_3_156 hG.2.1) rfl rfl rfl rfl rfl (Nat.le_of_ble_eq_true rfl) rfl dX9_leaveOff_15 (fun H locs hP hD hS => ?_)
    refine lv_aload_n hx hb dX9_leaveOff_18 rfl (lv_at hl 0 rfl) ?_
    refine lv_aload_n hx hb dX9_leaveOff_19 rfl (lv_at hl 0 rfl) ?_
    obtain ⟨r20, hc20, hf⟩ := bd1_some hf
    refine cl_Vi (r := r20) (b := a_t) (As := []) (w1 := (woX9_minutesOf cI cZ a_t a_t_how a_t_strong a_t_pad a_t_plan a_t_box a_t_instead a_t_flakes a_t_tired a_t_image a_t_isKept t_signs t_parts t_swings t_saltFirst t_paceOfAll t_ice t_salt t_brine t_cold t_warm t_frozen t_layer t_air t_churned t_held t_heldFirst x1 t_stiffFirst t_plan)) (wN := (woX9_leaveOff cI cZ a_t a_t_how a_t_strong a_t_pad a_t_plan a_t_box a_t_instead a_t_flakes a_t_tired a_t_image a_t_isKept t_signs t_parts t_swings t_saltFirst t_paceOfAll t_ice t_salt t_brine t_cold t_warm t_frozen t_layer t_air t_churned t_held t_heldFirst x1 t_stiffFirst t_how t_strong t_plan t_instead t_flakes t_tired)) [0, 3] 0 9 (c_X9_minutesOf l dC dI cI cZ ts _ a_t a_t_how a_t_strong a_t_pad a_t_plan a_t_box a_t_instead a_t_flakes a_t_tired a_t_image a_t_isKept t_signs t_parts t_swings t_saltFirst t_paceOfAll t_ice t_salt t_brine t_cold t_warm t_frozen t_layer t_air t_churned t_held t_heldFirst x1 t_stiffFirst t_plan (r20) hc20) ⟨hx, hb, hml, hown, hG.2.1.hts _⟩ ⟨callB_of 0 (hG.2.1.hts _) giX9_minutesOf rfl rfl rfl (wd_1_10 hG.2.1) (wd_4_25 hG.2.1) hd_X9_minutesOf ⟨Nat.le_of_ble_eq_true rfl, Nat.le_of_ble_eq_true rfl⟩, wd_4_27 hG.2.1, ws_17 hG.2.1⟩ hG hP hD hS rfl rfl rfl rfl rfl rfl rfl rfl hl.1 rfl (Nat.le_of_ble_eq_true rfl) dX9_leaveOff_20 ⟨Nat.zero_le _, Nat.zero_le _⟩ (fun H locs hP hD hS => ?_)
    obtain ⟨g23_0, g23_1, g23_2, g23_3, g23_4, g23_5, g23_6, g23_7, g23_8, g23_9, g23_10, g23_11, g23_12, g23_13, g23_14, g23_15, g23_16, hc23, hf⟩ := bd17_some hf
    refine cl_Vv (b := a_t) (As := [.int r20]) (w1 := (woX9_runTold cI cZ a_t a_t_how a_t_strong a_t_pad a_t_plan a_t_box a_t_instead a_t_flakes a_t_tired a_t_image a_t_isKept t_signs t_parts t_swings g23_0 g23_1 g23_2 g23_3 g23_4 g23_5 g23_6 g23_7 g23_8 g23_9 g23_10 g23_11 g23_12 x1 g23_13 t_how t_strong t_plan g23_14 g23_15 g23_16)) (wN := (woX9_leaveOff cI cZ a_t a_t_how a_t_strong a_t_pad a_t_plan a_t_box a_t_instead a_t_flakes a_t_tired a_t_image a_t_isKept t_signs t_parts t_swings g23_0 g23_1 g23_2 g23_3 g23_4 g23_5 g23_6 g23_7 g23_8 g23_9 g23_10 g23_11 g23_12 x1 g23_13 t_how t_strong t_plan g23_14 g23_15 g23_16)) [0, 1, 2, 3, 4, 5, 6] 0 9 (c_X9_runTold l dC dI cI cZ ts _ a_t a_t_how a_t_strong a_t_pad a_t_plan a_t_box a_t_instead a_t_flakes a_t_tired a_t_image a_t_isKept t_signs t_parts t_swings t_saltFirst t_paceOfAll t_ice t_salt t_brine t_cold t_warm t_frozen t_layer t_air t_churned t_held t_heldFirst x1 t_stiffFirst t_how t_strong t_plan t_instead t_flakes t_tired r20 (g23_0, g23_1, g23_2, g23_3, g23_4, g23_5, g23_6, g23_7, g23_8, g23_9, g23_10, g23_11, g23_12, g23_13, g23_14, g23_15, g23_16) hc23) ⟨hx, hb, hml, hown, hG.2.1.hts _⟩ ⟨callB_of 1 (hG.2.1.hts _) giX9_runTold rfl rfl rfl (wd_1_10 hG.2.1) (wd_4_33 hG.2.1) hd_X9_runTold ⟨Nat.le_of_ble_eq_true rfl, Nat.le_of_ble_eq_true rfl⟩, wd_4_35 hG.2.1, ws_18 hG.2.1⟩ hG hP hD hS rfl rfl rfl rfl rfl rfl rfl rfl hl.1 rfl (Nat.le_of_ble_eq_true rfl) dX9_leaveOff_23 ⟨Nat.zero_le _, Nat.zero_le _⟩ (fun H locs hP hD hS => ?_)
    refine lv_aload_n hx hb dX9_leaveOff_26 rfl (lv_at hl 0 rfl) ?_
    refine mg (ci := 9) 0 25 hx hb hG igX9 hown hP rfl rfl (by decide) (wd_3_157 hG.2.1) rfl rfl dX9_leaveOff_27 ?_
    have hR := Option.some.inj hf
    rw [← hR]
    exact rt_i hx hb hr hlk hsz hP hD hS rfl rfl dX9_leaveOff_30
  · have hf := (if_pos c1).symm.trans hf
    refine lv_bipush (v := -2) hx hb dX9_leaveOff_10 (by decide) ?_
    have hR := Option.some.inj hf
    rw [← hR]
    exact rt_i hx hb hr hlk hsz hP hD hS rfl rfl dX9_leaveOff_12
abbrev woX9_box (cI cZ : ClassId) (a_t a_t_how a_t_strong a_t_pad a_t_plan a_t_box a_t_instead a_t_flakes a_t_tired a_t_image a_t_isKept : Nat) (t_signs : Int32) (t_parts : Int32) (t_swings : Int32) (t_saltFirst : Int32) (t_paceOfAll : Int32) (t_ice : Int32) (t_salt : Int32) (t_brine : Int32) (t_cold : Int32) (t_warm : Int32) (t_frozen : Int32) (t_layer : Int32) (t_air : Int32) (t_churned : Int32) (t_held : Int32) (t_heldFirst : Int32) (t_stiffWanted : Int32) (t_stiffFirst : Int32) (t_pad : Nat → Int32) (t_box : Nat → Int32) : va_W := [(a_t, .inr (9, [.ref a_t_how, .ref a_t_strong, .int t_signs, .ref a_t_pad, .int t_parts, .ref a_t_plan, .int t_swings, .ref a_t_box, .ref a_t_instead, .int t_saltFirst, .int t_paceOfAll, .int t_ice, .int t_salt, .int t_brine, .int t_cold, .int t_warm, .int t_frozen, .int t_layer, .int t_air, .int t_churned, .ref a_t_flakes, .ref a_t_tired, .int t_held, .int t_heldFirst, .int t_stiffWanted, .int t_stiffFirst, .ref a_t_image, .ref a_t_isKept])), (a_t_pad, .inl (cI, 40, .inl t_pad)), (a_t_box, .inl (cI, 40, .inl t_box))]
abbrev rmX9_box : Room := { frames := 3, cells := 0, slots := 0, locals := 63 }
theorem hd_X9_box : yX9_box.cls ≠ "java/lang/invoke/MethodHandle" ∧ yX9_box.cls ≠ "java/lang/invoke/VarHandle" ∧ (parseMethodDescriptor yX9_box.desc).map (fun d => d.parameters.length) = some 0 := by decide +kernel
set_option maxHeartbeats 4000000 in
set_option maxRecDepth 100000 in
theorem c_X9_box (l : Launch) (dC : Nat → ClassId) (dI : Nat → Nat → Nat) (cI cZ : ClassId) (ts : Nat → Nat) (sz : Nat) (a_t a_t_how a_t_strong a_t_pad a_t_plan a_t_box a_t_instead a_t_flakes a_t_tired a_t_image a_t_isKept : Nat) (t_signs : Int32) (t_parts : Int32) (t_swings : Int32) (t_saltFirst : Int32) (t_paceOfAll : Int32) (t_ice : Int32) (t_salt : Int32) (t_brine : Int32) (t_cold : Int32) (t_warm : Int32) (t_frozen : Int32) (t_layer : Int32) (t_air : Int32) (t_churned : Int32) (t_held : Int32) (t_heldFirst : Int32) (t_stiffWanted : Int32) (t_stiffFirst : Int32) (t_pad : Nat → Int32) (t_box : Nat → Int32) (R : Int32 × Int32 × Int32 × (Nat → Int32)) (hf : f_X9_box t_signs t_swings t_pad t_box = some R) : Met l yX9_box wyX9_box rmX9_box (PRE (dC, dI) cI cZ ts [.ref a_t] sz (woX9_box cI cZ a_t a_t_how a_t_strong a_t_pad a_t_plan a_t_box a_t_instead a_t_flakes a_t_tired a_t_image a_t_isKept t_signs t_parts t_swings t_saltFirst t_paceOfAll t_ice t_salt t_brine t_cold t_warm t_frozen t_layer t_air t_churned t_held t_heldFirst t_stiffWanted t_stiffFirst t_pad t_box)) (POSTi (dC, dI) R.1 sz (woX9_box cI cZ a_t a_t_how a_t_strong a_t_pad a_t_plan a_t_box a_t_instead a_t_flakes a_t_tired a_t_image a_t_isKept t_signs t_parts t_swings t_saltFirst t_paceOfAll t_ice t_salt t_brine t_cold t_warm t_frozen t_layer t_air t_churned t_held t_heldFirst t_stiffWanted t_stiffFirst t_pad t_box) (woX9_box cI cZ a_t a_t_how a_t_strong a_t_pad a_t_plan a_t_box a_t_instead a_t_flakes a_t_tired a_t_image a_t_isKept R.2.1 t_parts R.2.2.1 t_saltFirst t_paceOfAll t_ice t_salt t_brine t_cold t_warm t_frozen t_layer t_air t_churned t_held t_heldFirst t_stiffWanted t_stiffFirst t_pad R.2.2.2)) 0 0 (va_A (woX9_box cI cZ a_t a_t_how a_t_strong a_t_pad a_t_plan a_t_box a_t_instead a_t_flakes a_t_tired a_t_image a_t_isKept t_signs t_parts t_swings t_saltFirst t_paceOfAll t_ice t_salt t_brine t_cold t_warm t_frozen t_layer t_air t_churned t_held t_heldFirst t_stiffWanted t_stiffFirst t_pad t_box) sz) := by
  refine Met.ofW (cc := cX9_box) (maxL := 2) (ret := (some .int)) (by decide) rfl ?_
  intro p e s m args below meth c s₁ B hml hv
  obtain ⟨rfl, hv⟩ := hv
  have hG := hg_of hv
  obtain ⟨hsz, hP, -, hD0, -⟩ := hv
  have hx := B.exec
  have hb := B.bytes
  have hr := B.returns
  have hlk := B.notSynchronized
  have hown : s.vm.findClass RX9 = some m.cls := findClass_of_methodNamed B.named
  have hD := hD0.self (sz := sz)
  have hS : va_S (va_A (woX9_box cI cZ a_t a_t_how a_t_strong a_t_pad a_t_plan a_t_box a_t_instead a_t_flakes a_t_tired a_t_image a_t_isKept t_signs t_parts t_swings t_saltFirst t_paceOfAll t_ice t_salt t_brine t_cold t_warm t_frozen t_layer t_air t_churned t_held t_heldFirst t_stiffWanted t_stiffFirst t_pad t_box) sz) s.heap s.heap [] := va_S.rf
  have L20 : ∀ (fu : Nat) (y1 : Int32) (v_t_signs : Int32) (v_t_swings : Int32) (v_t_box : Nat → Int32) (H : Heap) (locs : List Loc) (ls : Array Slot), f_X9_box_L20 t_pad fu y1 v_t_signs v_t_swings v_t_box = some R → va_P (dC, dI) vwCl (woX9_box cI cZ a_t a_t_how a_t_strong a_t_pad a_t_plan a_t_box a_t_instead a_t_flakes a_t_tired a_t_image a_t_isKept v_t_signs t_parts v_t_swings t_saltFirst t_paceOfAll t_ice t_salt t_brine t_cold t_warm t_frozen t_layer t_air t_churned t_held t_heldFirst t_stiffWanted t_stiffFirst t_pad v_t_box) H → va_D (va_A (woX9_box cI cZ a_t a_t_how a_t_strong a_t_pad a_t_plan a_t_box a_t_instead a_t_flakes a_t_tired a_t_image a_t_isKept t_signs t_parts t_swings t_saltFirst t_paceOfAll t_ice t_salt t_brine t_cold t_warm t_frozen t_layer t_air t_churned t_held t_heldFirst t_stiffWanted t_stiffFirst t_pad t_box) sz) (woX9_box cI cZ a_t a_t_how a_t_strong a_t_pad a_t_plan a_t_box a_t_instead a_t_flakes a_t_tired a_t_image a_t_isKept v_t_signs t_parts v_t_swings t_saltFirst t_paceOfAll t_ice t_salt t_brine t_cold t_warm t_frozen t_layer t_air t_churned t_held t_heldFirst t_stiffWanted t_stiffFirst t_pad v_t_box) → va_S (va_A (woX9_box cI cZ a_t a_t_how a_t_strong a_t_pad a_t_plan a_t_box a_t_instead a_t_flakes a_t_tired a_t_image a_t_isKept t_signs t_parts t_swings t_saltFirst t_paceOfAll t_ice t_salt t_brine t_cold t_warm t_frozen t_layer t_air t_churned t_held t_heldFirst t_stiffWanted t_stiffFirst t_pad t_box) sz) s.heap H locs → lv_has ls 2 [(0, .ref a_t), (1, .int y1)] → W p l e (headSpec wyX9_box rmX9_box).room s m ([Value.ref a_t] : List Value).toArray below meth c H locs 0 0 (MQ below (POSTi (dC, dI) R.1 sz (woX9_box cI cZ a_t a_t_how a_t_strong a_t_pad a_t_plan a_t_box a_t_instead a_t_flakes a_t_tired a_t_image a_t_isKept t_signs t_parts t_swings t_saltFirst t_paceOfAll t_ice t_salt t_brine t_cold t_warm t_frozen t_layer t_air t_churned t_held t_heldFirst t_stiffWanted t_stiffFirst t_pad t_box) (woX9_box cI cZ a_t a_t_how a_t_strong a_t_pad a_t_plan a_t_box a_t_instead a_t_flakes a_t_tired a_t_image a_t_isKept R.2.1 t_parts R.2.2.1 t_saltFirst t_paceOfAll t_ice t_salt t_brine t_cold t_warm t_frozen t_layer t_air t_churned t_held t_heldFirst t_stiffWanted t_stiffFirst t_pad R.2.2.2)) ([Value.ref a_t] : List Value).toArray s 0 0 (va_A (woX9_box cI cZ a_t a_t_how a_t_strong a_t_pad a_t_plan a_t_box a_t_instead a_t_flakes a_t_tired a_t_image a_t_isKept t_signs t_parts t_swings t_saltFirst t_paceOfAll t_ice t_salt t_brine t_cold t_warm t_frozen t_layer t_air t_churned t_held t_heldFirst t_stiffWanted t_stiffFirst t_pad t_box) sz)) (F0 m 20 ls []) := by
    intro  fu
    induction fu with
    | zero => intro y1 v_t_signs v_t_swings v_t_box H locs ls hf; cases hf
    | succ fu ih =>
      intro y1 v_t_signs v_t_swings v_t_box H locs ls hf hP hD hS hl
      rw [f_X9_box_L20] at hf
      refine lv_iload_n hx hb dX9_box_20 rfl (lv_at hl 1 rfl) ?_
      refine lv_aload_n hx hb dX9_box_21 rfl (lv_at hl 0 rfl) ?_
      refine mg (ci := 9) 0 2 hx hb hG igX9 hown hP rfl rfl (by decide) (wd_3_134 hG.2.1) rfl rfl dX9_box_22 ?_
      refine lv_icmp_ge (tgt := 49) hx hb dX9_box_25 (by decide) (fun c1 => ?_) (fun c1 => ?_)
      · have hf := (if_pos c1).symm.trans hf
        refine lv_aload_n hx hb dX9_box_49 rfl (lv_at hl 0 rfl) ?_
        refine lv_iconst (v := 0) hx hb dX9_box_50 (by decide) ?_
        refine mp (ci := 9) (wN := (woX9_box cI cZ a_t a_t_how a_t_strong a_t_pad a_t_plan a_t_box a_t_instead a_t_flakes a_t_tired a_t_image a_t_isKept (0 : Int32) t_parts v_t_swings t_saltFirst t_paceOfAll t_ice t_salt t_brine t_cold t_warm t_frozen t_layer t_air t_churned t_held t_heldFirst t_stiffWanted t_stiffFirst t_pad v_t_box)) 0 2 hx hb hG igX9 tyX9 tyX9_ok nmX9 hown hP hD hS rfl rfl (by decide) (wd_3_134 hG.2.1) rfl rfl rfl rfl rfl (Nat.le_of_ble_eq_true rfl) rfl dX9_box_51 (fun H locs hP hD hS => ?_)
        refine lv_aload_n hx hb dX9_box_54 rfl (lv_at hl 0 rfl) ?_
        refine mg (ci := 9) 0 6 hx hb hG igX9 hown hP rfl rfl (by decide) (wd_3_138 hG.2.1) rfl rfl dX9_box_55 ?_
        have hR := Option.some.inj hf
        rw [← hR]
        exact rt_i hx hb hr hlk hsz hP hD hS rfl rfl dX9_box_58
      · have hf := (if_neg c1).symm.trans hf
        refine lv_aload_n hx hb dX9_box_28 rfl (lv_at hl 0 rfl) ?_
        refine mg (ci := 9) 0 7 hx hb hG igX9 hown hP rfl rfl (by decide) (wd_3_139 hG.2.1) rfl rfl dX9_box_29 ?_
        refine lv_iload_n hx hb dX9_box_32 rfl (lv_at hl 1 rfl) ?_
        refine lv_aload_n hx hb dX9_box_33 rfl (lv_at hl 0 rfl) ?_
        refine mg (ci := 9) 0 3 hx hb hG igX9 hown hP rfl rfl (by decide) (wd_3_135 hG.2.1) rfl rfl dX9_box_34 ?_
        refine lv_iload_n hx hb dX9_box_37 rfl (lv_at hl 1 rfl) ?_
        obtain ⟨g2, hf⟩ := gd_some hf
        refine mal 1 hx hb hG hP rfl g2 dX9_box_38 ?_
        refine lv_bipush (v := 48) hx hb dX9_box_39 (by decide) ?_
        refine lv_isub hx hb dX9_box_41 ?_
        obtain ⟨g3, hf⟩ := gd_some hf
        refine mas (wN := (woX9_box cI cZ a_t a_t_how a_t_strong a_t_pad a_t_plan a_t_box a_t_instead a_t_flakes a_t_tired a_t_image a_t_isKept v_t_signs t_parts v_t_swings t_saltFirst t_paceOfAll t_ice t_salt t_brine t_cold t_warm t_frozen t_layer t_air t_churned t_held t_heldFirst t_stiffWanted t_stiffFirst t_pad (upd v_t_box (y1).toNatClampNeg ((t_pad (y1).toNatClampNeg) - (48 : Int32))))) 2 hx hb hG hP hD hS rfl g3 rfl dX9_box_42 (fun H locs hP hD hS => ?_)
        refine lv_iinc (v := (y1 + (1 : Int32))) (lv' := [(1, .int (y1 + (1 : Int32))), (0, .ref a_t)]) hx hb dX9_box_43 hl (k := 1) rfl rfl (by decide) rfl (fun ls hl => ?_)
        refine lv_goto (tgt := 20) hx hb dX9_box_46 (by decide) ?_
        exact ih (y1 + (1 : Int32)) v_t_signs v_t_swings (upd v_t_box (y1).toNatClampNeg ((t_pad (y1).toNatClampNeg) - (48 : Int32))) _ _ _ hf hP hD hS (lv_sub hl [1, 0] rfl)
  have hl := lv_entry ([.ref a_t]) (n := 2) (Nat.le_of_ble_eq_true rfl)
  rw [lg_entry_eq]
  generalize (lg_sl ([.ref a_t]) ++ List.replicate (2 - (lg_sl ([.ref a_t])).length) Slot.unset).toArray = ls at hl ⊢
  have hl : lv_has ls 2 [(0, .ref a_t)] := hl
  unfold f_X9_box at hf
  refine lv_aload_n hx hb dX9_box_0 rfl (lv_at hl 0 rfl) ?_
  obtain ⟨r1, hc1, hf⟩ := bd1_some hf
  refine cl_Vi (r := r1) (b := a_t) (As := []) (w1 := (woX9_boxFault cI cZ a_t a_t_how a_t_strong a_t_pad a_t_plan a_t_box a_t_instead a_t_flakes a_t_tired a_t_image a_t_isKept t_signs t_parts t_swings t_saltFirst t_paceOfAll t_ice t_salt t_brine t_cold t_warm t_frozen t_layer t_air t_churned t_held t_heldFirst t_stiffWanted t_stiffFirst t_pad)) (wN := (woX9_box cI cZ a_t a_t_how a_t_strong a_t_pad a_t_plan a_t_box a_t_instead a_t_flakes a_t_tired a_t_image a_t_isKept t_signs t_parts t_swings t_saltFirst t_paceOfAll t_ice t_salt t_brine t_cold t_warm t_frozen t_layer t_air t_churned t_held t_heldFirst t_stiffWanted t_stiffFirst t_pad t_box)) [0, 1] 0 9 (c_X9_boxFault l dC dI cI cZ ts _ a_t a_t_how a_t_strong a_t_pad a_t_plan a_t_box a_t_instead a_t_flakes a_t_tired a_t_image a_t_isKept t_signs t_parts t_swings t_saltFirst t_paceOfAll t_ice t_salt t_brine t_cold t_warm t_frozen t_layer t_air t_churned t_held t_heldFirst t_stiffWanted t_stiffFirst t_pad (r1) hc1) ⟨hx, hb, hml, hown, hG.2.1.hts _⟩ ⟨callB_of 0 (hG.2.1.hts _) giX9_boxFault rfl rfl rfl (wd_1_10 hG.2.1) (wd_4_17 hG.2.1) hd_X9_boxFault ⟨Nat.le_of_ble_eq_true rfl, Nat.le_of_ble_eq_true rfl⟩, wd_4_19 hG.2.1, ws_16 hG.2.1⟩ hG hP hD hS rfl rfl rfl rfl rfl rfl rfl rfl hl.1 rfl (Nat.le_of_ble_eq_true rfl) dX9_box_1 ⟨Nat.zero_le _, Nat.zero_le _⟩ (fun H locs hP hD hS => ?_)
  refine lv_if_lt (tgt := 10) hx hb dX9_box_4 (by decide) (fun c4 => ?_) (fun c4 => ?_)
  · have hf := (if_pos c4).symm.trans hf
    refine lv_aload_n hx hb dX9_box_10 rfl (lv_at hl 0 rfl) ?_
    refine lv_aload_n hx hb dX9_box_11 rfl (lv_at hl 0 rfl) ?_
    refine mg (ci := 9) 0 2 hx hb hG igX9 hown hP rfl rfl (by decide) (wd_3_134 hG.2.1) rfl rfl dX9_box_12 ?_
    refine mp (ci := 9) (wN := (woX9_box cI cZ a_t a_t_how a_t_strong a_t_pad a_t_plan a_t_box a_t_instead a_t_flakes a_t_tired a_t_image a_t_isKept t_signs t_parts t_signs t_saltFirst t_paceOfAll t_ice t_salt t_brine t_cold t_warm t_frozen t_layer t_air t_churned t_held t_heldFirst t_stiffWanted t_stiffFirst t_pad t_box)) 0 6 hx hb hG igX9 tyX9 tyX9_ok nmX9 hown hP hD hS rfl rfl (by decide) (wd_3_138 hG.2.1) rfl rfl rfl rfl rfl (Nat.le_of_ble_eq_true rfl) rfl dX9_box_15 (fun H locs hP hD hS => ?_)
    refine lv_iconst (v := 0) hx hb dX9_box_18 (by decide) ?_
    refine lv_istore_n (lv' := [(1, .int (0 : Int32)), (0, .ref a_t)]) hx hb dX9_box_19 rfl hl (by decide) rfl (fun ls hl => ?_)
    exact L20 FU (0 : Int32) t_signs t_signs t_box _ _ _ hf hP hD hS (lv_sub hl [1, 0] rfl)
  · have hf := (if_neg c4).symm.trans hf
    refine lv_bipush (v := -5) hx hb dX9_box_7 (by decide) ?_
    have hR := Option.some.inj hf
    rw [← hR]
    exact rt_i hx hb hr hlk hsz hP hD hS rfl rfl dX9_box_9
abbrev woX9_goDay (cI cZ : ClassId) (a_t a_t_how a_t_strong a_t_pad a_t_plan a_t_box a_t_instead a_t_flakes a_t_tired a_t_image a_t_isKept : Nat) (t_signs : Int32) (t_parts : Int32) (t_swings : Int32) (t_saltFirst : Int32) (t_paceOfAll : Int32) (t_ice : Int32) (t_salt : Int32) (t_brine : Int32) (t_cold : Int32) (t_warm : Int32) (t_frozen : Int32) (t_layer : Int32) (t_air : Int32) (t_churned : Int32) (t_held : Int32) (t_heldFirst : Int32) (t_stiffWanted : Int32) (t_stiffFirst : Int32) (t_how : Nat → Int32) (t_flakes : Nat → Int32) : va_W := [(a_t, .inr (9, [.ref a_t_how, .ref a_t_strong, .int t_signs, .ref a_t_pad, .int t_parts, .ref a_t_plan, .int t_swings, .ref a_t_box, .ref a_t_instead, .int t_saltFirst, .int t_paceOfAll, .int t_ice, .int t_salt, .int t_brine, .int t_cold, .int t_warm, .int t_frozen, .int t_layer, .int t_air, .int t_churned, .ref a_t_flakes, .ref a_t_tired, .int t_held, .int t_heldFirst, .int t_stiffWanted, .int t_stiffFirst, .ref a_t_image, .ref a_t_isKept])), (a_t_how, .inl (cI, 8, .inl t_how)), (a_t_flakes, .inl (cI, 64, .inl t_flakes))]
abbrev rmX9_goDay : Room := { frames := 0, cells := 0, slots := 0, locals := 0 }
theorem hd_X9_goDay : yX9_goDay.cls ≠ "java/lang/invoke/MethodHandle" ∧ yX9_goDay.cls ≠ "java/lang/invoke/VarHandle" ∧ (parseMethodDescriptor yX9_goDay.desc).map (fun d => d.parameters.length) = some 1 := by decide +kernel
set_option maxHeartbeats 4000000 in
set_option maxRecDepth 100000 in
theorem c_X9_goDay (l : Launch) (dC : Nat → ClassId) (dI : Nat → Nat → Nat) (cI cZ : ClassId) (ts : Nat → Nat) (sz : Nat) (a_t a_t_how a_t_strong a_t_pad a_t_plan a_t_box a_t_instead a_t_flakes a_t_tired a_t_image a_t_isKept : Nat) (t_signs : Int32) (t_parts : Int32) (t_swings : Int32) (t_saltFirst : Int32) (t_paceOfAll : Int32) (t_ice : Int32) (t_salt : Int32) (t_brine : Int32) (t_cold : Int32) (t_warm : Int32) (t_frozen : Int32) (t_layer : Int32) (t_air : Int32) (t_churned : Int32) (t_held : Int32) (t_heldFirst : Int32) (t_stiffWanted : Int32) (t_stiffFirst : Int32) (t_how : Nat → Int32) (t_flakes : Nat → Int32) (x1 : Int32) (R : (Nat → Int32)) (hf : f_X9_goDay t_how t_flakes x1 = some R) : Met l yX9_goDay wyX9_goDay rmX9_goDay (PRE (dC, dI) cI cZ ts [.ref a_t, .int x1] sz (woX9_goDay cI cZ a_t a_t_how a_t_strong a_t_pad a_t_plan a_t_box a_t_instead a_t_flakes a_t_tired a_t_image a_t_isKept t_signs t_parts t_swings t_saltFirst t_paceOfAll t_ice t_salt t_brine t_cold t_warm t_frozen t_layer t_air t_churned t_held t_heldFirst t_stiffWanted t_stiffFirst t_how t_flakes)) (POSTv (dC, dI) sz (woX9_goDay cI cZ a_t a_t_how a_t_strong a_t_pad a_t_plan a_t_box a_t_instead a_t_flakes a_t_tired a_t_image a_t_isKept t_signs t_parts t_swings t_saltFirst t_paceOfAll t_ice t_salt t_brine t_cold t_warm t_frozen t_layer t_air t_churned t_held t_heldFirst t_stiffWanted t_stiffFirst t_how t_flakes) (woX9_goDay cI cZ a_t a_t_how a_t_strong a_t_pad a_t_plan a_t_box a_t_instead a_t_flakes a_t_tired a_t_image a_t_isKept t_signs t_parts t_swings t_saltFirst t_paceOfAll t_ice t_salt t_brine t_cold t_warm t_frozen t_layer t_air t_churned t_held t_heldFirst t_stiffWanted t_stiffFirst t_how R)) 0 0 (va_A (woX9_goDay cI cZ a_t a_t_how a_t_strong a_t_pad a_t_plan a_t_box a_t_instead a_t_flakes a_t_tired a_t_image a_t_isKept t_signs t_parts t_swings t_saltFirst t_paceOfAll t_ice t_salt t_brine t_cold t_warm t_frozen t_layer t_air t_churned t_held t_heldFirst t_stiffWanted t_stiffFirst t_how t_flakes) sz) := by
  refine Met.ofW (cc := cX9_goDay) (maxL := 5) (ret := none) (by decide) rfl ?_
  intro p e s m args below meth c s₁ B hml hv
  obtain ⟨rfl, hv⟩ := hv
  have hG := hg_of hv
  obtain ⟨hsz, hP, -, hD0, -⟩ := hv
  have hx := B.exec
  have hb := B.bytes
  have hr := B.returns
  have hlk := B.notSynchronized
  have hown : s.vm.findClass RX9 = some m.cls := findClass_of_methodNamed B.named
  have hD := hD0.self (sz := sz)
  have hS : va_S (va_A (woX9_goDay cI cZ a_t a_t_how a_t_strong a_t_pad a_t_plan a_t_box a_t_instead a_t_flakes a_t_tired a_t_image a_t_isKept t_signs t_parts t_swings t_saltFirst t_paceOfAll t_ice t_salt t_brine t_cold t_warm t_frozen t_layer t_air t_churned t_held t_heldFirst t_stiffWanted t_stiffFirst t_how t_flakes) sz) s.heap s.heap [] := va_S.rf
  have L57 : ∀ (rc3 : Int32 → Int32 → (Nat → Int32) → Option ((Nat → Int32))), (∀ (y1 : Int32) (y2 : Int32) (v_t_flakes : Nat → Int32) (H : Heap) (locs : List Loc) (ls : Array Slot), rc3 y1 y2 v_t_flakes = some R → va_P (dC, dI) vwCl (woX9_goDay cI cZ a_t a_t_how a_t_strong a_t_pad a_t_plan a_t_box a_t_instead a_t_flakes a_t_tired a_t_image a_t_isKept t_signs t_parts t_swings t_saltFirst t_paceOfAll t_ice t_salt t_brine t_cold t_warm t_frozen t_layer t_air t_churned t_held t_heldFirst t_stiffWanted t_stiffFirst t_how v_t_flakes) H → va_D (va_A (woX9_goDay cI cZ a_t a_t_how a_t_strong a_t_pad a_t_plan a_t_box a_t_instead a_t_flakes a_t_tired a_t_image a_t_isKept t_signs t_parts t_swings t_saltFirst t_paceOfAll t_ice t_salt t_brine t_cold t_warm t_frozen t_layer t_air t_churned t_held t_heldFirst t_stiffWanted t_stiffFirst t_how t_flakes) sz) (woX9_goDay cI cZ a_t a_t_how a_t_strong a_t_pad a_t_plan a_t_box a_t_instead a_t_flakes a_t_tired a_t_image a_t_isKept t_signs t_parts t_swings t_saltFirst t_paceOfAll t_ice t_salt t_brine t_cold t_warm t_frozen t_layer t_air t_churned t_held t_heldFirst t_stiffWanted t_stiffFirst t_how v_t_flakes) → va_S (va_A (woX9_goDay cI cZ a_t a_t_how a_t_strong a_t_pad a_t_plan a_t_box a_t_instead a_t_flakes a_t_tired a_t_image a_t_isKept t_signs t_parts t_swings t_saltFirst t_paceOfAll t_ice t_salt t_brine t_cold t_warm t_frozen t_layer t_air t_churned t_held t_heldFirst t_stiffWanted t_stiffFirst t_how t_flakes) sz) s.heap H locs → lv_has ls 5 [(0, .ref a_t), (1, .int y1), (2, .int y2)] → W p l e (headSpec wyX9_goDay rmX9_goDay).room s m ([Value.ref a_t, Value.int x1] : List Value).toArray below meth c H locs 0 0 (MQ below (POSTv (dC, dI) sz (woX9_goDay cI cZ a_t a_t_how a_t_strong a_t_pad a_t_plan a_t_box a_t_instead a_t_flakes a_t_tired a_t_image a_t_isKept t_signs t_parts t_swings t_saltFirst t_paceOfAll t_ice t_salt t_brine t_cold t_warm t_frozen t_layer t_air t_churned t_held t_heldFirst t_stiffWanted t_stiffFirst t_how t_flakes) (woX9_goDay cI cZ a_t a_t_how a_t_strong a_t_pad a_t_plan a_t_box a_t_instead a_t_flakes a_t_tired a_t_image a_t_isKept t_signs t_parts t_swings t_saltFirst t_paceOfAll t_ice t_salt t_brine t_cold t_warm t_frozen t_layer t_air t_churned t_held t_heldFirst t_stiffWanted t_stiffFirst t_how R)) ([Value.ref a_t, Value.int x1] : List Value).toArray s 0 0 (va_A (woX9_goDay cI cZ a_t a_t_how a_t_strong a_t_pad a_t_plan a_t_box a_t_instead a_t_flakes a_t_tired a_t_image a_t_isKept t_signs t_parts t_swings t_saltFirst t_paceOfAll t_ice t_salt t_brine t_cold t_warm t_frozen t_layer t_air t_churned t_held t_heldFirst t_stiffWanted t_stiffFirst t_how t_flakes) sz)) (F0 m 3 ls [])) → ∀ (z0 : Int32) (y1 : Int32) (y2 : Int32) (y3 : Int32) (v_t_flakes : Nat → Int32) (H : Heap) (locs : List Loc) (ls : Array Slot), f_X9_goDay_L57 rc3 t_how z0 y1 y2 y3 v_t_flakes = some R → va_P (dC, dI) vwCl (woX9_goDay cI cZ a_t a_t_how a_t_strong a_t_pad a_t_plan a_t_box a_t_instead a_t_flakes a_t_tired a_t_image a_t_isKept t_signs t_parts t_swings t_saltFirst t_paceOfAll t_ice t_salt t_brine t_cold t_warm t_frozen t_layer t_air t_churned t_held t_heldFirst t_stiffWanted t_stiffFirst t_how v_t_flakes) H → va_D (va_A (woX9_goDay cI cZ a_t a_t_how a_t_strong a_t_pad a_t_plan a_t_box a_t_instead a_t_flakes a_t_tired a_t_image a_t_isKept t_signs t_parts t_swings t_saltFirst t_paceOfAll t_ice t_salt t_brine t_cold t_warm t_frozen t_layer t_air t_churned t_held t_heldFirst t_stiffWanted t_stiffFirst t_how t_flakes) sz) (woX9_goDay cI cZ a_t a_t_how a_t_strong a_t_pad a_t_plan a_t_box a_t_instead a_t_flakes a_t_tired a_t_image a_t_isKept t_signs t_parts t_swings t_saltFirst t_paceOfAll t_ice t_salt t_brine t_cold t_warm t_frozen t_layer t_air t_churned t_held t_heldFirst t_stiffWanted t_stiffFirst t_how v_t_flakes) → va_S (va_A (woX9_goDay cI cZ a_t a_t_how a_t_strong a_t_pad a_t_plan a_t_box a_t_instead a_t_flakes a_t_tired a_t_image a_t_isKept t_signs t_parts t_swings t_saltFirst t_paceOfAll t_ice t_salt t_brine t_cold t_warm t_frozen t_layer t_air t_churned t_held t_heldFirst t_stiffWanted t_stiffFirst t_how t_flakes) sz) s.heap H locs → lv_has ls 5 [(0, .ref a_t), (1, .int y1), (2, .int y2), (3, .int y3)] → W p l e (headSpec wyX9_goDay rmX9_goDay).room s m ([Value.ref a_t, Value.int x1] : List Value).toArray below meth c H locs 0 0 (MQ below (POSTv (dC, dI) sz (woX9_goDay cI cZ a_t a_t_how a_t_strong a_t_pad a_t_plan a_t_box a_t_instead a_t_flakes a_t_tired a_t_image a_t_isKept t_signs t_parts t_swings t_saltFirst t_paceOfAll t_ice t_salt t_brine t_cold t_warm t_frozen t_layer t_air t_churned t_held t_heldFirst t_stiffWanted t_stiffFirst t_how t_flakes) (woX9_goDay cI cZ a_t a_t_how a_t_strong a_t_pad a_t_plan a_t_box a_t_instead a_t_flakes a_t_tired a_t_image a_t_isKept t_signs t_parts t_swings t_saltFirst t_paceOfAll t_ice t_salt t_brine t_cold t_warm t_frozen t_layer t_air t_churned t_held t_heldFirst t_stiffWanted t_stiffFirst t_how R)) ([Value.ref a_t, Value.int x1] : List Value).toArray s 0 0 (va_A (woX9_goDay cI cZ a_t a_t_how a_t_strong a_t_pad a_t_plan a_t_box a_t_instead a_t_flakes a_t_tired a_t_image a_t_isKept t_signs t_parts t_swings t_saltFirst t_paceOfAll t_ice t_salt t_brine t_cold t_warm t_frozen t_layer t_air t_churned t_held t_heldFirst t_stiffWanted t_stiffFirst t_how t_flakes) sz)) (F0 m 57 ls [.int z0]) := by
    intro rc3 hrc3 z0 y1 y2 y3 v_t_flakes H locs ls hf hP hD hS hl
    unfold f_X9_goDay_L57 at hf
    refine lv_istore (lv' := [(4, .int z0), (0, .ref a_t), (1, .int y1), (2, .int y2), (3, .int y3)]) hx hb dX9_goDay_57 hl (by decide) rfl (fun ls hl => ?_)
    refine lv_aload_n hx hb dX9_goDay_59 rfl (lv_at hl 1 rfl) ?_
    refine mg (ci := 9) 0 20 hx hb hG igX9 hown hP rfl rfl (by decide) (wd_3_152 hG.2.1) rfl rfl dX9_goDay_60 ?_
    refine lv_iload_n hx hb dX9_goDay_63 rfl (lv_at hl 3 rfl) ?_
    refine lv_dup2_11 hx hb dX9_goDay_64 rfl rfl ?_
    obtain ⟨g1, hf⟩ := gd_some hf
    refine mal 2 hx hb hG hP rfl g1 dX9_goDay_65 ?_
    refine lv_iload_n hx hb dX9_goDay_66 rfl (lv_at hl 4 rfl) ?_
    refine lv_isub hx hb dX9_goDay_67 ?_
    obtain ⟨g2, hf⟩ := gd_some hf
    refine mas (wN := (woX9_goDay cI cZ a_t a_t_how a_t_strong a_t_pad a_t_plan a_t_box a_t_instead a_t_flakes a_t_tired a_t_image a_t_isKept t_signs t_parts t_swings t_saltFirst t_paceOfAll t_ice t_salt t_brine t_cold t_warm t_frozen t_layer t_air t_churned t_held t_heldFirst t_stiffWanted t_stiffFirst t_how (upd v_t_flakes (y2).toNatClampNeg ((v_t_flakes (y2).toNatClampNeg) - y3)))) 2 hx hb hG hP hD hS rfl g2 rfl dX9_goDay_68 (fun H locs hP hD hS => ?_)
    refine lv_aload_n hx hb dX9_goDay_69 rfl (lv_at hl 1 rfl) ?_
    refine mg (ci := 9) 0 20 hx hb hG igX9 hown hP rfl rfl (by decide) (wd_3_152 hG.2.1) rfl rfl dX9_goDay_70 ?_
    refine lv_iload hx hb dX9_goDay_73 (lv_at hl 0 rfl) ?_
    refine lv_dup2_11 hx hb dX9_goDay_75 rfl rfl ?_
    obtain ⟨g3, hf⟩ := gd_some hf
    refine mal 2 hx hb hG hP rfl g3 dX9_goDay_76 ?_
    refine lv_iload_n hx hb dX9_goDay_77 rfl (lv_at hl 4 rfl) ?_
    refine lv_iadd hx hb dX9_goDay_78 ?_
    obtain ⟨g4, hf⟩ := gd_some hf
    refine mas (wN := (woX9_goDay cI cZ a_t a_t_how a_t_strong a_t_pad a_t_plan a_t_box a_t_instead a_t_flakes a_t_tired a_t_image a_t_isKept t_signs t_parts t_swings t_saltFirst t_paceOfAll t_ice t_salt t_brine t_cold t_warm t_frozen t_layer t_air t_churned t_held t_heldFirst t_stiffWanted t_stiffFirst t_how (upd (upd v_t_flakes (y2).toNatClampNeg ((v_t_flakes (y2).toNatClampNeg) - y3)) (z0).toNatClampNeg (((upd v_t_flakes (y2).toNatClampNeg ((v_t_flakes (y2).toNatClampNeg) - y3)) (z0).toNatClampNeg) + y3)))) 2 hx hb hG hP hD hS rfl g4 rfl dX9_goDay_79 (fun H locs hP hD hS => ?_)
    refine lv_iinc (v := (y2 + (-1 : Int32))) (lv' := [(2, .int (y2 + (-1 : Int32))), (4, .int z0), (0, .ref a_t), (1, .int y1), (3, .int y3)]) hx hb dX9_goDay_80 hl (k := 3) rfl rfl (by decide) rfl (fun ls hl => ?_)
    refine lv_goto (tgt := 3) hx hb dX9_goDay_83 (by decide) ?_
    exact hrc3 y1 (y2 + (-1 : Int32)) (upd (upd v_t_flakes (y2).toNatClampNeg ((v_t_flakes (y2).toNatClampNeg) - y3)) (z0).toNatClampNeg (((upd v_t_flakes (y2).toNatClampNeg ((v_t_flakes (y2).toNatClampNeg) - y3)) (z0).toNatClampNeg) + y3)) _ _ _ hf hP hD hS (lv_sub hl [2, 3, 0] rfl)
  have L3 : ∀ (fu : Nat) (y1 : Int32) (y2 : Int32) (v_t_flakes : Nat → Int32) (H : Heap) (locs : List Loc) (ls : Array Slot), f_X9_goDay_L3 t_how fu y1 y2 v_t_flakes = some R → va_P (dC, dI) vwCl (woX9_goDay cI cZ a_t a_t_how a_t_strong a_t_pad a_t_plan a_t_box a_t_instead a_t_flakes a_t_tired a_t_image a_t_isKept t_signs t_parts t_swings t_saltFirst t_paceOfAll t_ice t_salt t_brine t_cold t_warm t_frozen t_layer t_air t_churned t_held t_heldFirst t_stiffWanted t_stiffFirst t_how v_t_flakes) H → va_D (va_A (woX9_goDay cI cZ a_t a_t_how a_t_strong a_t_pad a_t_plan a_t_box a_t_instead a_t_flakes a_t_tired a_t_image a_t_isKept t_signs t_parts t_swings t_saltFirst t_paceOfAll t_ice t_salt t_brine t_cold t_warm t_frozen t_layer t_air t_churned t_held t_heldFirst t_stiffWanted t_stiffFirst t_how t_flakes) sz) (woX9_goDay cI cZ a_t a_t_how a_t_strong a_t_pad a_t_plan a_t_box a_t_instead a_t_flakes a_t_tired a_t_image a_t_isKept t_signs t_parts t_swings t_saltFirst t_paceOfAll t_ice t_salt t_brine t_cold t_warm t_frozen t_layer t_air t_churned t_held t_heldFirst t_stiffWanted t_stiffFirst t_how v_t_flakes) → va_S (va_A (woX9_goDay cI cZ a_t a_t_how a_t_strong a_t_pad a_t_plan a_t_box a_t_instead a_t_flakes a_t_tired a_t_image a_t_isKept t_signs t_parts t_swings t_saltFirst t_paceOfAll t_ice t_salt t_brine t_cold t_warm t_frozen t_layer t_air t_churned t_held t_heldFirst t_stiffWanted t_stiffFirst t_how t_flakes) sz) s.heap H locs → lv_has ls 5 [(0, .ref a_t), (1, .int y1), (2, .int y2)] → W p l e (headSpec wyX9_goDay rmX9_goDay).room s m ([Value.ref a_t, Value.int x1] : List Value).toArray below meth c H locs 0 0 (MQ below (POSTv (dC, dI) sz (woX9_goDay cI cZ a_t a_t_how a_t_strong a_t_pad a_t_plan a_t_box a_t_instead a_t_flakes a_t_tired a_t_image a_t_isKept t_signs t_parts t_swings t_saltFirst t_paceOfAll t_ice t_salt t_brine t_cold t_warm t_frozen t_layer t_air t_churned t_held t_heldFirst t_stiffWanted t_stiffFirst t_how t_flakes) (woX9_goDay cI cZ a_t a_t_how a_t_strong a_t_pad a_t_plan a_t_box a_t_instead a_t_flakes a_t_tired a_t_image a_t_isKept t_signs t_parts t_swings t_saltFirst t_paceOfAll t_ice t_salt t_brine t_cold t_warm t_frozen t_layer t_air t_churned t_held t_heldFirst t_stiffWanted t_stiffFirst t_how R)) ([Value.ref a_t, Value.int x1] : List Value).toArray s 0 0 (va_A (woX9_goDay cI cZ a_t a_t_how a_t_strong a_t_pad a_t_plan a_t_box a_t_instead a_t_flakes a_t_tired a_t_image a_t_isKept t_signs t_parts t_swings t_saltFirst t_paceOfAll t_ice t_salt t_brine t_cold t_warm t_frozen t_layer t_air t_churned t_held t_heldFirst t_stiffWanted t_stiffFirst t_how t_flakes) sz)) (F0 m 3 ls []) := by
    intro  fu
    induction fu with
    | zero => intro y1 y2 v_t_flakes H locs ls hf; cases hf
    | succ fu ih =>
      intro y1 y2 v_t_flakes H locs ls hf hP hD hS hl
      rw [f_X9_goDay_L3] at hf
      refine lv_iload_n hx hb dX9_goDay_3 rfl (lv_at hl 2 rfl) ?_
      refine lv_bipush (v := 9) hx hb dX9_goDay_4 (by decide) ?_
      refine lv_icmp_le (tgt := 86) hx hb dX9_goDay_6 (by decide) (fun c5 => ?_) (fun c5 => ?_)
      · have hf := (if_pos c5).symm.trans hf
        have hR := Option.some.inj hf
        rw [← hR]
        exact rt_v hx hb hr hlk hsz hP hD hS rfl dX9_goDay_86
      · have hf := (if_neg c5).symm.trans hf
        refine lv_aload_n hx hb dX9_goDay_9 rfl (lv_at hl 0 rfl) ?_
        refine mg (ci := 9) 0 20 hx hb hG igX9 hown hP rfl rfl (by decide) (wd_3_152 hG.2.1) rfl rfl dX9_goDay_10 ?_
        refine lv_iload_n hx hb dX9_goDay_13 rfl (lv_at hl 2 rfl) ?_
        obtain ⟨g6, hf⟩ := gd_some hf
        refine mal 2 hx hb hG hP rfl g6 dX9_goDay_14 ?_
        refine lv_iload_n hx hb dX9_goDay_15 rfl (lv_at hl 1 rfl) ?_
        refine lv_imul hx hb dX9_goDay_16 ?_
        refine lv_bipush (v := 10) hx hb dX9_goDay_17 (by decide) ?_
        refine lv_iconst (v := 5) hx hb dX9_goDay_19 (by decide) ?_
        refine lv_aload_n hx hb dX9_goDay_20 rfl (lv_at hl 0 rfl) ?_
        refine mg (ci := 9) 0 0 hx hb hG igX9 hown hP rfl rfl (by decide) (wd_3_132 hG.2.1) rfl rfl dX9_goDay_21 ?_
        refine lv_bipush (v := 7) hx hb dX9_goDay_24 (by decide) ?_
        obtain ⟨g7, hf⟩ := gd_some hf
        refine mal 1 hx hb hG hP rfl g7 dX9_goDay_26 ?_
        refine lv_imul hx hb dX9_goDay_27 ?_
        refine lv_iadd hx hb dX9_goDay_28 ?_
        obtain ⟨g8, hf⟩ := gd_some hf
        refine lv_idiv hx hb dX9_goDay_29 g8 ?_
        refine lv_istore_n (lv' := [(3, .int (((v_t_flakes (y2).toNatClampNeg) * y1) / ((10 : Int32) + ((5 : Int32) * (t_how ((7 : Int32)).toNatClampNeg))))), (0, .ref a_t), (1, .int y1), (2, .int y2)]) hx hb dX9_goDay_30 rfl hl (by decide) rfl (fun ls hl => ?_)
        refine lv_iload_n hx hb dX9_goDay_31 rfl (lv_at hl 3 rfl) ?_
        refine lv_iconst (v := 1) hx hb dX9_goDay_32 (by decide) ?_
        refine lv_iadd hx hb dX9_goDay_33 ?_
        refine lv_bipush (v := 100) hx hb dX9_goDay_34 (by decide) ?_
        refine lv_iload_n hx hb dX9_goDay_36 rfl (lv_at hl 3 rfl) ?_
        obtain ⟨g9, hf⟩ := gd_some hf
        refine lv_idiv hx hb dX9_goDay_37 g9 ?_
        refine lv_iadd hx hb dX9_goDay_38 ?_
        refine lv_bipush (v := 63) hx hb dX9_goDay_39 (by decide) ?_
        refine lv_icmp_le (tgt := 49) hx hb dX9_goDay_41 (by decide) (fun c10 => ?_) (fun c10 => ?_)
        · have hf := (if_pos c10).symm.trans hf
          refine lv_iload_n hx hb dX9_goDay_49 rfl (lv_at hl 3 rfl) ?_
          refine lv_iconst (v := 1) hx hb dX9_goDay_50 (by decide) ?_
          refine lv_iadd hx hb dX9_goDay_51 ?_
          refine lv_bipush (v := 100) hx hb dX9_goDay_52 (by decide) ?_
          refine lv_iload_n hx hb dX9_goDay_54 rfl (lv_at hl 3 rfl) ?_
          obtain ⟨g11, hf⟩ := gd_some hf
          refine lv_idiv hx hb dX9_goDay_55 g11 ?_
          refine lv_iadd hx hb dX9_goDay_56 ?_
          exact L57 (f_X9_goDay_L3 t_how fu) ih ((y2 + (1 : Int32)) + ((100 : Int32) / y2)) y1 y2 (((v_t_flakes (y2).toNatClampNeg) * y1) / ((10 : Int32) + ((5 : Int32) * (t_how ((7 : Int32)).toNatClampNeg)))) v_t_flakes _ _ _ hf hP hD hS (lv_sub hl [1, 2, 3, 0] rfl)
        · have hf := (if_neg c10).symm.trans hf
          refine lv_bipush (v := 63) hx hb dX9_goDay_44 (by decide) ?_
          refine lv_goto (tgt := 57) hx hb dX9_goDay_46 (by decide) ?_
          exact L57 (f_X9_goDay_L3 t_how fu) ih (63 : Int32) y1 y2 (((v_t_flakes (y2).toNatClampNeg) * y1) / ((10 : Int32) + ((5 : Int32) * (t_how ((7 : Int32)).toNatClampNeg)))) v_t_flakes _ _ _ hf hP hD hS (lv_sub hl [1, 2, 3, 0] rfl)
  have hl := lv_entry ([.ref a_t, .int x1]) (n := 5) (Nat.le_of_ble_eq_true rfl)
  rw [lg_entry_eq]
  generalize (lg_sl ([.ref a_t, .int x1]) ++ List.replicate (5 - (lg_sl ([.ref a_t, .int x1])).length) Slot.unset).toArray = ls at hl ⊢
  have hl : lv_has ls 5 [(0, .ref a_t), (1, .int x1)] := hl
  unfold f_X9_goDay at hf
  refine lv_bipush (v := 63) hx hb dX9_goDay_0 (by decide) ?_
  refine lv_istore_n (lv' := [(2, .int (63 : Int32)), (0, .ref a_t), (1, .int x1)]) hx hb dX9_goDay_2 rfl hl (by decide) rfl (fun ls hl => ?_)
  exact L3 FU x1 (63 : Int32) t_flakes _ _ _ hf hP hD hS (lv_sub hl [1, 2, 0] rfl)
abbrev woX9_runDays (cI cZ : ClassId) (a_t a_t_how a_t_strong a_t_pad a_t_plan a_t_box a_t_instead a_t_flakes a_t_tired a_t_image a_t_isKept : Nat) (t_signs : Int32) (t_parts : Int32) (t_swings : Int32) (t_saltFirst : Int32) (t_paceOfAll : Int32) (t_ice : Int32) (t_salt : Int32) (t_brine : Int32) (t_cold : Int32) (t_warm : Int32) (t_frozen : Int32) (t_layer : Int32) (t_air : Int32) (t_churned : Int32) (t_held : Int32) (t_heldFirst : Int32) (t_stiffWanted : Int32) (t_stiffFirst : Int32) (t_how : Nat → Int32) (t_strong : Nat → Int32) (t_plan : Nat → Int32) (t_box : Nat → Int32) (t_instead : Nat → Int32) (t_flakes : Nat → Int32) (t_tired : Nat → Int32) : va_W := [(a_t, .inr (9, [.ref a_t_how, .ref a_t_strong, .int t_signs, .ref a_t_pad, .int t_parts, .ref a_t_plan, .int t_swings, .ref a_t_box, .ref a_t_instead, .int t_saltFirst, .int t_paceOfAll, .int t_ice, .int t_salt, .int t_brine, .int t_cold, .int t_warm, .int t_frozen, .int t_layer, .int t_air, .int t_churned, .ref a_t_flakes, .ref a_t_tired, .int t_held, .int t_heldFirst, .int t_stiffWanted, .int t_stiffFirst, .ref a_t_image, .ref a_t_isKept])), (a_t_how, .inl (cI, 8, .inl t_how)), (a_t_strong, .inl (cI, 4, .inl t_strong)), (a_t_plan, .inl (cI, 60, .inl t_plan)), (a_t_box, .inl (cI, 40, .inl t_box)), (a_t_instead, .inl (cI, 4, .inl t_instead)), (a_t_flakes, .inl (cI, 64, .inl t_flakes)), (a_t_tired, .inl (cI, 4, .inl t_tired))]
abbrev rmX9_runDays : Room := { frames := 5, cells := 0, slots := 0, locals := 118 }
theorem hd_X9_runDays : yX9_runDays.cls ≠ "java/lang/invoke/MethodHandle" ∧ yX9_runDays.cls ≠ "java/lang/invoke/VarHandle" ∧ (parseMethodDescriptor yX9_runDays.desc).map (fun d => d.parameters.length) = some 1 := by decide +kernel
set_option maxHeartbeats 4000000 in
set_option maxRecDepth 100000 in
theorem c_X9_runDays (l : Launch) (dC : Nat → ClassId) (dI : Nat → Nat → Nat) (cI cZ : ClassId) (ts : Nat → Nat) (sz : Nat) (a_t a_t_how a_t_strong a_t_pad a_t_plan a_t_box a_t_instead a_t_flakes a_t_tired a_t_image a_t_isKept : Nat) (t_signs : Int32) (t_parts : Int32) (t_swings : Int32) (t_saltFirst : Int32) (t_paceOfAll : Int32) (t_ice : Int32) (t_salt : Int32) (t_brine : Int32) (t_cold : Int32) (t_warm : Int32) (t_frozen : Int32) (t_layer : Int32) (t_air : Int32) (t_churned : Int32) (t_held : Int32) (t_heldFirst : Int32) (t_stiffWanted : Int32) (t_stiffFirst : Int32) (t_how : Nat → Int32) (t_strong : Nat → Int32) (t_plan : Nat → Int32) (t_box : Nat → Int32) (t_instead : Nat → Int32) (t_flakes : Nat → Int32) (t_tired : Nat → Int32) (x1 : Int32) (R : Int32 × Int32 × Int32 × Int32 × Int32 × Int32 × Int32 × Int32 × Int32 × Int32 × Int32 × Int32 × Int32 × Int32 × (Nat → Int32) × (Nat → Int32) × (Nat → Int32)) (hf : f_X9_runDays t_parts t_swings t_saltFirst t_paceOfAll t_ice t_salt t_brine t_cold t_warm t_frozen t_layer t_air t_churned t_held t_heldFirst t_stiffWanted t_stiffFirst t_how t_strong t_plan t_box t_instead t_flakes t_tired x1 = some R) : Met l yX9_runDays wyX9_runDays rmX9_runDays (PRE (dC, dI) cI cZ ts [.ref a_t, .int x1] sz (woX9_runDays cI cZ a_t a_t_how a_t_strong a_t_pad a_t_plan a_t_box a_t_instead a_t_flakes a_t_tired a_t_image a_t_isKept t_signs t_parts t_swings t_saltFirst t_paceOfAll t_ice t_salt t_brine t_cold t_warm t_frozen t_layer t_air t_churned t_held t_heldFirst t_stiffWanted t_stiffFirst t_how t_strong t_plan t_box t_instead t_flakes t_tired)) (POSTv (dC, dI) sz (woX9_runDays cI cZ a_t a_t_how a_t_strong a_t_pad a_t_plan a_t_box a_t_instead a_t_flakes a_t_tired a_t_image a_t_isKept t_signs t_parts t_swings t_saltFirst t_paceOfAll t_ice t_salt t_brine t_cold t_warm t_frozen t_layer t_air t_churned t_held t_heldFirst t_stiffWanted t_stiffFirst t_how t_strong t_plan t_box t_instead t_flakes t_tired) (woX9_runDays cI cZ a_t a_t_how a_t_strong a_t_pad a_t_plan a_t_box a_t_instead a_t_flakes a_t_tired a_t_image a_t_isKept t_signs t_parts t_swings R.1 R.2.1 R.2.2.1 R.2.2.2.1 R.2.2.2.2.1 R.2.2.2.2.2.1 R.2.2.2.2.2.2.1 R.2.2.2.2.2.2.2.1 R.2.2.2.2.2.2.2.2.1 R.2.2.2.2.2.2.2.2.2.1 R.2.2.2.2.2.2.2.2.2.2.1 R.2.2.2.2.2.2.2.2.2.2.2.1 R.2.2.2.2.2.2.2.2.2.2.2.2.1 t_stiffWanted R.2.2.2.2.2.2.2.2.2.2.2.2.2.1 t_how t_strong t_plan t_box R.2.2.2.2.2.2.2.2.2.2.2.2.2.2.1 R.2.2.2.2.2.2.2.2.2.2.2.2.2.2.2.1 R.2.2.2.2.2.2.2.2.2.2.2.2.2.2.2.2)) 0 0 (va_A (woX9_runDays cI cZ a_t a_t_how a_t_strong a_t_pad a_t_plan a_t_box a_t_instead a_t_flakes a_t_tired a_t_image a_t_isKept t_signs t_parts t_swings t_saltFirst t_paceOfAll t_ice t_salt t_brine t_cold t_warm t_frozen t_layer t_air t_churned t_held t_heldFirst t_stiffWanted t_stiffFirst t_how t_strong t_plan t_box t_instead t_flakes t_tired) sz) := by
  refine Met.ofW (cc := cX9_runDays) (maxL := 3) (ret := none) (by decide) rfl ?_
  intro p e s m args below meth c s₁ B hml hv
  obtain ⟨rfl, hv⟩ := hv
  have hG := hg_of hv
  obtain ⟨hsz, hP, -, hD0, -⟩ := hv
  have hx := B.exec
  have hb := B.bytes
  have hr := B.returns
  have hlk := B.notSynchronized
  have hown : s.vm.findClass RX9 = some m.cls := findClass_of_methodNamed B.named
  have hD := hD0.self (sz := sz)
  have hS : va_S (va_A (woX9_runDays cI cZ a_t a_t_how a_t_strong a_t_pad a_t_plan a_t_box a_t_instead a_t_flakes a_t_tired a_t_image a_t_isKept t_signs t_parts t_swings t_saltFirst t_paceOfAll t_ice t_salt t_brine t_cold t_warm t_frozen t_layer t_air t_churned t_held t_heldFirst t_stiffWanted t_stiffFirst t_how t_strong t_plan t_box t_instead t_flakes t_tired) sz) s.heap s.heap [] := va_S.rf
  have L10 : ∀ (fu : Nat) (y1 : Int32) (y2 : Int32) (v_t_saltFirst : Int32) (v_t_paceOfAll : Int32) (v_t_ice : Int32) (v_t_salt : Int32) (v_t_brine : Int32) (v_t_cold : Int32) (v_t_warm : Int32) (v_t_frozen : Int32) (v_t_layer : Int32) (v_t_air : Int32) (v_t_churned : Int32) (v_t_held : Int32) (v_t_heldFirst : Int32) (v_t_stiffFirst : Int32) (v_t_instead : Nat → Int32) (v_t_flakes : Nat → Int32) (v_t_tired : Nat → Int32) (H : Heap) (locs : List Loc) (ls : Array Slot), f_X9_runDays_L10 t_parts t_swings t_stiffWanted t_how t_strong t_plan t_box fu y1 y2 v_t_saltFirst v_t_paceOfAll v_t_ice v_t_salt v_t_brine v_t_cold v_t_warm v_t_frozen v_t_layer v_t_air v_t_churned v_t_held v_t_heldFirst v_t_stiffFirst v_t_instead v_t_flakes v_t_tired = some R → va_P (dC, dI) vwCl (woX9_runDays cI cZ a_t a_t_how a_t_strong a_t_pad a_t_plan a_t_box a_t_instead a_t_flakes a_t_tired a_t_image a_t_isKept t_signs t_parts t_swings v_t_saltFirst v_t_paceOfAll v_t_ice v_t_salt v_t_brine v_t_cold v_t_warm v_t_frozen v_t_layer v_t_air v_t_churned v_t_held v_t_heldFirst t_stiffWanted v_t_stiffFirst t_how t_strong t_plan t_box v_t_instead v_t_flakes v_t_tired) H → va_D (va_A (woX9_runDays cI cZ a_t a_t_how a_t_strong a_t_pad a_t_plan a_t_box a_t_instead a_t_flakes a_t_tired a_t_image a_t_isKept t_signs t_parts t_swings t_saltFirst t_paceOfAll t_ice t_salt t_brine t_cold t_warm t_frozen t_layer t_air t_churned t_held t_heldFirst t_stiffWanted t_stiffFirst t_how t_strong t_plan t_box t_instead t_flakes t_tired) sz) (woX9_runDays cI cZ a_t a_t_how a_t_strong a_t_pad a_t_plan a_t_box a_t_instead a_t_flakes a_t_tired a_t_image a_t_isKept t_signs t_parts t_swings v_t_saltFirst v_t_paceOfAll v_t_ice v_t_salt v_t_brine v_t_cold v_t_warm v_t_frozen v_t_layer v_t_air v_t_churned v_t_held v_t_heldFirst t_stiffWanted v_t_stiffFirst t_how t_strong t_plan t_box v_t_instead v_t_flakes v_t_tired) → va_S (va_A (woX9_runDays cI cZ a_t a_t_how a_t_strong a_t_pad a_t_plan a_t_box a_t_instead a_t_flakes a_t_tired a_t_image a_t_isKept t_signs t_parts t_swings t_saltFirst t_paceOfAll t_ice t_salt t_brine t_cold t_warm t_frozen t_layer t_air t_churned t_held t_heldFirst t_stiffWanted t_stiffFirst t_how t_strong t_plan t_box t_instead t_flakes t_tired) sz) s.heap H locs → lv_has ls 3 [(0, .ref a_t), (1, .int y1), (2, .int y2)] → W p l e (headSpec wyX9_runDays rmX9_runDays).room s m ([Value.ref a_t, Value.int x1] : List Value).toArray below meth c H locs 0 0 (MQ below (POSTv (dC, dI) sz (woX9_runDays cI cZ a_t a_t_how a_t_strong a_t_pad a_t_plan a_t_box a_t_instead a_t_flakes a_t_tired a_t_image a_t_isKept t_signs t_parts t_swings t_saltFirst t_paceOfAll t_ice t_salt t_brine t_cold t_warm t_frozen t_layer t_air t_churned t_held t_heldFirst t_stiffWanted t_stiffFirst t_how t_strong t_plan t_box t_instead t_flakes t_tired) (woX9_runDays cI cZ a_t a_t_how a_t_strong a_t_pad a_t_plan a_t_box a_t_instead a_t_flakes a_t_tired a_t_image a_t_isKept t_signs t_parts t_swings R.1 R.2.1 R.2.2.1 R.2.2.2.1 R.2.2.2.2.1 R.2.2.2.2.2.1 R.2.2.2.2.2.2.1 R.2.2.2.2.2.2.2.1 R.2.2.2.2.2.2.2.2.1 R.2.2.2.2.2.2.2.2.2.1 R.2.2.2.2.2.2.2.2.2.2.1 R.2.2.2.2.2.2.2.2.2.2.2.1 R.2.2.2.2.2.2.2.2.2.2.2.2.1 t_stiffWanted R.2.2.2.2.2.2.2.2.2.2.2.2.2.1 t_how t_strong t_plan t_box R.2.2.2.2.2.2.2.2.2.2.2.2.2.2.1 R.2.2.2.2.2.2.2.2.2.2.2.2.2.2.2.1 R.2.2.2.2.2.2.2.2.2.2.2.2.2.2.2.2)) ([Value.ref a_t, Value.int x1] : List Value).toArray s 0 0 (va_A (woX9_runDays cI cZ a_t a_t_how a_t_strong a_t_pad a_t_plan a_t_box a_t_instead a_t_flakes a_t_tired a_t_image a_t_isKept t_signs t_parts t_swings t_saltFirst t_paceOfAll t_ice t_salt t_brine t_cold t_warm t_frozen t_layer t_air t_churned t_held t_heldFirst t_stiffWanted t_stiffFirst t_how t_strong t_plan t_box t_instead t_flakes t_tired) sz)) (F0 m 10 ls []) := by
    intro  fu
    induction fu with
    | zero => intro y1 y2 v_t_saltFirst v_t_paceOfAll v_t_ice v_t_salt v_t_brine v_t_cold v_t_warm v_t_frozen v_t_layer v_t_air v_t_churned v_t_held v_t_heldFirst v_t_stiffFirst v_t_instead v_t_flakes v_t_tired H locs ls hf; cases hf
    | succ fu ih =>
      intro y1 y2 v_t_saltFirst v_t_paceOfAll v_t_ice v_t_salt v_t_brine v_t_cold v_t_warm v_t_frozen v_t_layer v_t_air v_t_churned v_t_held v_t_heldFirst v_t_stiffFirst v_t_instead v_t_flakes v_t_tired H locs ls hf hP hD hS hl
      rw [f_X9_runDays_L10] at hf
      refine lv_iload_n hx hb dX9_runDays_10 rfl (lv_at hl 2 rfl) ?_
      refine lv_iload_n hx hb dX9_runDays_11 rfl (lv_at hl 1 rfl) ?_
      refine lv_icmp_ge (tgt := 36) hx hb dX9_runDays_12 (by decide) (fun c1 => ?_) (fun c1 => ?_)
      · have hf := (if_pos c1).symm.trans hf
        have hR := Option.some.inj hf
        rw [← hR]
        exact rt_v hx hb hr hlk hsz hP hD hS rfl dX9_runDays_36
      · have hf := (if_neg c1).symm.trans hf
        refine lv_aload_n hx hb dX9_runDays_15 rfl (lv_at hl 0 rfl) ?_
        refine lv_aload_n hx hb dX9_runDays_16 rfl (lv_at hl 0 rfl) ?_
        refine mg (ci := 9) 0 7 hx hb hG igX9 hown hP rfl rfl (by decide) (wd_3_139 hG.2.1) rfl rfl dX9_runDays_17 ?_
        refine lv_iload_n hx hb dX9_runDays_20 rfl (lv_at hl 2 rfl) ?_
        refine lv_aload_n hx hb dX9_runDays_21 rfl (lv_at hl 0 rfl) ?_
        refine mg (ci := 9) 0 6 hx hb hG igX9 hown hP rfl rfl (by decide) (wd_3_138 hG.2.1) rfl rfl dX9_runDays_22 ?_
        obtain ⟨g2, hf⟩ := gd_some hf
        refine lv_irem hx hb dX9_runDays_25 g2 ?_
        obtain ⟨g3, hf⟩ := gd_some hf
        refine mal 4 hx hb hG hP rfl g3 dX9_runDays_26 ?_
        obtain ⟨g27_0, hc27, hf⟩ := bd1_some hf
        refine cl_Vv (b := a_t) (As := [.int (t_box ((y2 - y2 / t_swings * t_swings)).toNatClampNeg)]) (w1 := (woX9_goDay cI cZ a_t a_t_how a_t_strong a_t_pad a_t_plan a_t_box a_t_instead a_t_flakes a_t_tired a_t_image a_t_isKept t_signs t_parts t_swings v_t_saltFirst v_t_paceOfAll v_t_ice v_t_salt v_t_brine v_t_cold v_t_warm v_t_frozen v_t_layer v_t_air v_t_churned v_t_held v_t_heldFirst t_stiffWanted v_t_stiffFirst t_how g27_0)) (wN := (woX9_runDays cI cZ a_t a_t_how a_t_strong a_t_pad a_t_plan a_t_box a_t_instead a_t_flakes a_t_tired a_t_image a_t_isKept t_signs t_parts t_swings v_t_saltFirst v_t_paceOfAll v_t_ice v_t_salt v_t_brine v_t_cold v_t_warm v_t_frozen v_t_layer v_t_air v_t_churned v_t_held v_t_heldFirst t_stiffWanted v_t_stiffFirst t_how t_strong t_plan t_box v_t_instead g27_0 v_t_tired)) [0, 1, 6] 0 9 (c_X9_goDay l dC dI cI cZ ts _ a_t a_t_how a_t_strong a_t_pad a_t_plan a_t_box a_t_instead a_t_flakes a_t_tired a_t_image a_t_isKept t_signs t_parts t_swings v_t_saltFirst v_t_paceOfAll v_t_ice v_t_salt v_t_brine v_t_cold v_t_warm v_t_frozen v_t_layer v_t_air v_t_churned v_t_held v_t_heldFirst t_stiffWanted v_t_stiffFirst t_how v_t_flakes (t_box ((y2 - y2 / t_swings * t_swings)).toNatClampNeg) (g27_0) hc27) ⟨hx, hb, hml, hown, hG.2.1.hts _⟩ ⟨callB_of 1 (hG.2.1.hts _) giX9_goDay rfl rfl rfl (wd_1_10 hG.2.1) (wd_4_121 hG.2.1) hd_X9_goDay ⟨Nat.le_of_ble_eq_true rfl, Nat.le_of_ble_eq_true rfl⟩, wd_4_123 hG.2.1, ws_31 hG.2.1⟩ hG hP hD hS rfl rfl rfl rfl rfl rfl rfl rfl hl.1 rfl (Nat.le_of_ble_eq_true rfl) dX9_runDays_27 ⟨Nat.zero_le _, Nat.zero_le _⟩ (fun H locs hP hD hS => ?_)
        refine lv_iinc (v := (y2 + (1 : Int32))) (lv' := [(2, .int (y2 + (1 : Int32))), (0, .ref a_t), (1, .int y1)]) hx hb dX9_runDays_30 hl (k := 2) rfl rfl (by decide) rfl (fun ls hl => ?_)
        refine lv_goto (tgt := 10) hx hb dX9_runDays_33 (by decide) ?_
        exact ih y1 (y2 + (1 : Int32)) v_t_saltFirst v_t_paceOfAll v_t_ice v_t_salt v_t_brine v_t_cold v_t_warm v_t_frozen v_t_layer v_t_air v_t_churned v_t_held v_t_heldFirst v_t_stiffFirst v_t_instead g27_0 v_t_tired _ _ _ hf hP hD hS (lv_sub hl [1, 2, 0] rfl)
  have hl := lv_entry ([.ref a_t, .int x1]) (n := 3) (Nat.le_of_ble_eq_true rfl)
  rw [lg_entry_eq]
  generalize (lg_sl ([.ref a_t, .int x1]) ++ List.replicate (3 - (lg_sl ([.ref a_t, .int x1])).length) Slot.unset).toArray = ls at hl ⊢
  have hl : lv_has ls 3 [(0, .ref a_t), (1, .int x1)] := hl
  unfold f_X9_runDays at hf
  refine lv_aload_n hx hb dX9_runDays_0 rfl (lv_at hl 0 rfl) ?_
  refine lv_aload_n hx hb dX9_runDays_1 rfl (lv_at hl 0 rfl) ?_
  obtain ⟨r2, hc2, hf⟩ := bd1_some hf
  refine cl_Vi (r := r2) (b := a_t) (As := []) (w1 := (woX9_minutesOf cI cZ a_t a_t_how a_t_strong a_t_pad a_t_plan a_t_box a_t_instead a_t_flakes a_t_tired a_t_image a_t_isKept t_signs t_parts t_swings t_saltFirst t_paceOfAll t_ice t_salt t_brine t_cold t_warm t_frozen t_layer t_air t_churned t_held t_heldFirst t_stiffWanted t_stiffFirst t_plan)) (wN := (woX9_runDays cI cZ a_t a_t_how a_t_strong a_t_pad a_t_plan a_t_box a_t_instead a_t_flakes a_t_tired a_t_image a_t_isKept t_signs t_parts t_swings t_saltFirst t_paceOfAll t_ice t_salt t_brine t_cold t_warm t_frozen t_layer t_air t_churned t_held t_heldFirst t_stiffWanted t_stiffFirst t_how t_strong t_plan t_box t_instead t_flakes t_tired)) [0, 3] 0 9 (c_X9_minutesOf l dC dI cI cZ ts _ a_t a_t_how a_t_strong a_t_pad a_t_plan a_t_box a_t_instead a_t_flakes a_t_tired a_t_image a_t_isKept t_signs t_parts t_swings t_saltFirst t_paceOfAll t_ice t_salt t_brine t_cold t_warm t_frozen t_layer t_air t_churned t_held t_heldFirst t_stiffWanted t_stiffFirst t_plan (r2) hc2) ⟨hx, hb, hml, hown, hG.2.1.hts _⟩ ⟨callB_of 0 (hG.2.1.hts _) giX9_minutesOf rfl rfl rfl (wd_1_10 hG.2.1) (wd_4_25 hG.2.1) hd_X9_minutesOf ⟨Nat.le_of_ble_eq_true rfl, Nat.le_of_ble_eq_true rfl⟩, wd_4_27 hG.2.1, ws_17 hG.2.1⟩ hG hP hD hS rfl rfl rfl rfl rfl rfl rfl rfl hl.1 rfl (Nat.le_of_ble_eq_true rfl) dX9_runDays_2 ⟨Nat.zero_le _, Nat.zero_le _⟩ (fun H locs hP hD hS => ?_)
  obtain ⟨g5_0, g5_1, g5_2, g5_3, g5_4, g5_5, g5_6, g5_7, g5_8, g5_9, g5_10, g5_11, g5_12, g5_13, g5_14, g5_15, g5_16, hc5, hf⟩ := bd17_some hf
  refine cl_Vv (b := a_t) (As := [.int r2]) (w1 := (woX9_runTold cI cZ a_t a_t_how a_t_strong a_t_pad a_t_plan a_t_box a_t_instead a_t_flakes a_t_tired a_t_image a_t_isKept t_signs t_parts t_swings g5_0 g5_1 g5_2 g5_3 g5_4 g5_5 g5_6 g5_7 g5_8 g5_9 g5_10 g5_11 g5_12 t_stiffWanted g5_13 t_how t_strong t_plan g5_14 g5_15 g5_16)) (wN := (woX9_runDays cI cZ a_t a_t_how a_t_strong a_t_pad a_t_plan a_t_box a_t_instead a_t_flakes a_t_tired a_t_image a_t_isKept t_signs t_parts t_swings g5_0 g5_1 g5_2 g5_3 g5_4 g5_5 g5_6 g5_7 g5_8 g5_9 g5_10 g5_11 g5_12 t_stiffWanted g5_13 t_how t_strong t_plan t_box g5_14 g5_15 g5_16)) [0, 1, 2, 3, 5, 6, 7] 0 9 (c_X9_runTold l dC dI cI cZ ts _ a_t a_t_how a_t_strong a_t_pad a_t_plan a_t_box a_t_instead a_t_flakes a_t_tired a_t_image a_t_isKept t_signs t_parts t_swings t_saltFirst t_paceOfAll t_ice t_salt t_brine t_cold t_warm t_frozen t_layer t_air t_churned t_held t_heldFirst t_stiffWanted t_stiffFirst t_how t_strong t_plan t_instead t_flakes t_tired r2 (g5_0, g5_1, g5_2, g5_3, g5_4, g5_5, g5_6, g5_7, g5_8, g5_9, g5_10, g5_11, g5_12, g5_13, g5_14, g5_15, g5_16) hc5) ⟨hx, hb, hml, hown, hG.2.1.hts _⟩ ⟨callB_of 1 (hG.2.1.hts _) giX9_runTold rfl rfl rfl (wd_1_10 hG.2.1) (wd_4_33 hG.2.1) hd_X9_runTold ⟨Nat.le_of_ble_eq_true rfl, Nat.le_of_ble_eq_true rfl⟩, wd_4_35 hG.2.1, ws_18 hG.2.1⟩ hG hP hD hS rfl rfl rfl rfl rfl rfl rfl rfl hl.1 rfl (Nat.le_of_ble_eq_true rfl) dX9_runDays_5 ⟨Nat.zero_le _, Nat.zero_le _⟩ (fun H locs hP hD hS => ?_)
  refine lv_iconst (v := 0) hx hb dX9_runDays_8 (by decide) ?_
  refine lv_istore_n (lv' := [(2, .int (0 : Int32)), (0, .ref a_t), (1, .int x1)]) hx hb dX9_runDays_9 rfl hl (by decide) rfl (fun ls hl => ?_)
  exact L10 FU x1 (0 : Int32) g5_0 g5_1 g5_2 g5_3 g5_4 g5_5 g5_6 g5_7 g5_8 g5_9 g5_10 g5_11 g5_12 g5_13 g5_14 g5_15 g5_16 _ _ _ hf hP hD hS (lv_sub hl [1, 2, 0] rfl)
abbrev woX9_stored (cI cZ : ClassId) (a_t a_t_how a_t_strong a_t_pad a_t_plan a_t_box a_t_instead a_t_flakes a_t_tired a_t_image a_t_isKept : Nat) (t_signs : Int32) (t_parts : Int32) (t_swings : Int32) (t_saltFirst : Int32) (t_paceOfAll : Int32) (t_ice : Int32) (t_salt : Int32) (t_brine : Int32) (t_cold : Int32) (t_warm : Int32) (t_frozen : Int32) (t_layer : Int32) (t_air : Int32) (t_churned : Int32) (t_held : Int32) (t_heldFirst : Int32) (t_stiffWanted : Int32) (t_stiffFirst : Int32) (t_how : Nat → Int32) (t_strong : Nat → Int32) (t_plan : Nat → Int32) (t_box : Nat → Int32) (t_instead : Nat → Int32) (t_flakes : Nat → Int32) (t_tired : Nat → Int32) : va_W := [(a_t, .inr (9, [.ref a_t_how, .ref a_t_strong, .int t_signs, .ref a_t_pad, .int t_parts, .ref a_t_plan, .int t_swings, .ref a_t_box, .ref a_t_instead, .int t_saltFirst, .int t_paceOfAll, .int t_ice, .int t_salt, .int t_brine, .int t_cold, .int t_warm, .int t_frozen, .int t_layer, .int t_air, .int t_churned, .ref a_t_flakes, .ref a_t_tired, .int t_held, .int t_heldFirst, .int t_stiffWanted, .int t_stiffFirst, .ref a_t_image, .ref a_t_isKept])), (a_t_how, .inl (cI, 8, .inl t_how)), (a_t_strong, .inl (cI, 4, .inl t_strong)), (a_t_plan, .inl (cI, 60, .inl t_plan)), (a_t_box, .inl (cI, 40, .inl t_box)), (a_t_instead, .inl (cI, 4, .inl t_instead)), (a_t_flakes, .inl (cI, 64, .inl t_flakes)), (a_t_tired, .inl (cI, 4, .inl t_tired))]
abbrev rmX9_stored : Room := { frames := 6, cells := 0, slots := 0, locals := 140 }
theorem hd_X9_stored : yX9_stored.cls ≠ "java/lang/invoke/MethodHandle" ∧ yX9_stored.cls ≠ "java/lang/invoke/VarHandle" ∧ (parseMethodDescriptor yX9_stored.desc).map (fun d => d.parameters.length) = some 1 := by decide +kernel
set_option maxHeartbeats 4000000 in
set_option maxRecDepth 100000 in
theorem c_X9_stored (l : Launch) (dC : Nat → ClassId) (dI : Nat → Nat → Nat) (cI cZ : ClassId) (ts : Nat → Nat) (sz : Nat) (a_t a_t_how a_t_strong a_t_pad a_t_plan a_t_box a_t_instead a_t_flakes a_t_tired a_t_image a_t_isKept : Nat) (t_signs : Int32) (t_parts : Int32) (t_swings : Int32) (t_saltFirst : Int32) (t_paceOfAll : Int32) (t_ice : Int32) (t_salt : Int32) (t_brine : Int32) (t_cold : Int32) (t_warm : Int32) (t_frozen : Int32) (t_layer : Int32) (t_air : Int32) (t_churned : Int32) (t_held : Int32) (t_heldFirst : Int32) (t_stiffWanted : Int32) (t_stiffFirst : Int32) (t_how : Nat → Int32) (t_strong : Nat → Int32) (t_plan : Nat → Int32) (t_box : Nat → Int32) (t_instead : Nat → Int32) (t_flakes : Nat → Int32) (t_tired : Nat → Int32) (x1 : Int32) (R : Int32 × Int32 × Int32 × Int32 × Int32 × Int32 × Int32 × Int32 × Int32 × Int32 × Int32 × Int32 × Int32 × Int32 × Int32 × (Nat → Int32) × (Nat → Int32) × (Nat → Int32)) (hf : f_X9_stored t_parts t_swings t_saltFirst t_paceOfAll t_ice t_salt t_brine t_cold t_warm t_frozen t_layer t_air t_churned t_held t_heldFirst t_stiffWanted t_stiffFirst t_how t_strong t_plan t_box t_instead t_flakes t_tired x1 = some R) : Met l yX9_stored wyX9_stored rmX9_stored (PRE (dC, dI) cI cZ ts [.ref a_t, .int x1] sz (woX9_stored cI cZ a_t a_t_how a_t_strong a_t_pad a_t_plan a_t_box a_t_instead a_t_flakes a_t_tired a_t_image a_t_isKept t_signs t_parts t_swings t_saltFirst t_paceOfAll t_ice t_salt t_brine t_cold t_warm t_frozen t_layer t_air t_churned t_held t_heldFirst t_stiffWanted t_stiffFirst t_how t_strong t_plan t_box t_instead t_flakes t_tired)) (POSTi (dC, dI) R.1 sz (woX9_stored cI cZ a_t a_t_how a_t_strong a_t_pad a_t_plan a_t_box a_t_instead a_t_flakes a_t_tired a_t_image a_t_isKept t_signs t_parts t_swings t_saltFirst t_paceOfAll t_ice t_salt t_brine t_cold t_warm t_frozen t_layer t_air t_churned t_held t_heldFirst t_stiffWanted t_stiffFirst t_how t_strong t_plan t_box t_instead t_flakes t_tired) (woX9_stored cI cZ a_t a_t_how a_t_strong a_t_pad a_t_plan a_t_box a_t_instead a_t_flakes a_t_tired a_t_image a_t_isKept t_signs t_parts t_swings R.2.1 R.2.2.1 R.2.2.2.1 R.2.2.2.2.1 R.2.2.2.2.2.1 R.2.2.2.2.2.2.1 R.2.2.2.2.2.2.2.1 R.2.2.2.2.2.2.2.2.1 R.2.2.2.2.2.2.2.2.2.1 R.2.2.2.2.2.2.2.2.2.2.1 R.2.2.2.2.2.2.2.2.2.2.2.1 R.2.2.2.2.2.2.2.2.2.2.2.2.1 R.2.2.2.2.2.2.2.2.2.2.2.2.2.1 t_stiffWanted R.2.2.2.2.2.2.2.2.2.2.2.2.2.2.1 t_how t_strong t_plan t_box R.2.2.2.2.2.2.2.2.2.2.2.2.2.2.2.1 R.2.2.2.2.2.2.2.2.2.2.2.2.2.2.2.2.1 R.2.2.2.2.2.2.2.2.2.2.2.2.2.2.2.2.2)) 0 0 (va_A (woX9_stored cI cZ a_t a_t_how a_t_strong a_t_pad a_t_plan a_t_box a_t_instead a_t_flakes a_t_tired a_t_image a_t_isKept t_signs t_parts t_swings t_saltFirst t_paceOfAll t_ice t_salt t_brine t_cold t_warm t_frozen t_layer t_air t_churned t_held t_heldFirst t_stiffWanted t_stiffFirst t_how t_strong t_plan t_box t_instead t_flakes t_tired) sz) := by
  refine Met.ofW (cc := cX9_stored) (maxL := 2) (ret := (some .int)) (by decide) rfl ?_
  intro p e s m args below meth c s₁ B hml hv
  obtain ⟨rfl, hv⟩ := hv
  have hG := hg_of hv
  obtain ⟨hsz, hP, -, hD0, -⟩ := hv
  have hx := B.exec
  have hb := B.bytes
  have hr := B.returns
  have hlk := B.notSynchronized
  have hown : s.vm.findClass RX9 = some m.cls := findClass_of_methodNamed B.named
  have hD := hD0.self (sz := sz)
  have hS : va_S (va_A (woX9_stored cI cZ a_t a_t_how a_t_strong a_t_pad a_t_plan a_t_box a_t_instead a_t_flakes a_t_tired a_t_image a_t_isKept t_signs t_parts t_swings t_saltFirst t_paceOfAll t_ice t_salt t_brine t_cold t_warm t_frozen t_layer t_air t_churned t_held t_heldFirst t_stiffWanted t_stiffFirst t_how t_strong t_plan t_box t_instead t_flakes t_tired) sz) s.heap s.heap [] := va_S.rf
  have hl := lv_entry ([.ref a_t, .int x1]) (n := 2) (Nat.le_of_ble_eq_true rfl)
  rw [lg_entry_eq]
  generalize (lg_sl ([.ref a_t, .int x1]) ++ List.replicate (2 - (lg_sl ([.ref a_t, .int x1])).length) Slot.unset).toArray = ls at hl ⊢
  have hl : lv_has ls 2 [(0, .ref a_t), (1, .int x1)] := hl
  unfold f_X9_stored at hf
  refine lv_iload_n hx hb dX9_stored_0 rfl (lv_at hl 1 rfl) ?_
  refine lv_iconst (v := 0) hx hb dX9_stored_1 (by decide) ?_
  refine lv_bipush (v := 99) hx hb dX9_stored_2 (by decide) ?_
  obtain ⟨r4, hc4, hf⟩ := bd1_some hf
  refine cl_Si (r := r4) (As := [.int x1, .int (0 : Int32), .int (99 : Int32)]) (w1 := []) (wN := (woX9_stored cI cZ a_t a_t_how a_t_strong a_t_pad a_t_plan a_t_box a_t_instead a_t_flakes a_t_tired a_t_image a_t_isKept t_signs t_parts t_swings t_saltFirst t_paceOfAll t_ice t_salt t_brine t_cold t_warm t_frozen t_layer t_air t_churned t_held t_heldFirst t_stiffWanted t_stiffFirst t_how t_strong t_plan t_box t_instead t_flakes t_tired)) [] 0 0 (c_X9_in l dC dI cI cZ ts _ x1 (0 : Int32) (99 : Int32) (r4) hc4) ⟨hx, hb, hml, hown, hG.2.1.hts _⟩ ⟨callB_of 3 (hG.2.1.hts _) giX9_in rfl rfl rfl (wd_1_10 hG.2.1) (wd_3_222 hG.2.1) hd_X9_in ⟨Nat.le_of_ble_eq_true rfl, Nat.le_of_ble_eq_true rfl⟩, wd_3_223 hG.2.1⟩ hG hP hD hS rfl rfl rfl rfl rfl hl.1 rfl (Nat.le_of_ble_eq_true rfl) dX9_stored_4 ⟨Nat.zero_le _, Nat.zero_le _⟩ (fun H locs hP hD hS => ?_)
  refine lv_if_ne (tgt := 13) hx hb dX9_stored_7 (by decide) (fun c1 => ?_) (fun c1 => ?_)
  · have hf := (if_neg c1).symm.trans hf
    refine lv_iload_n hx hb dX9_stored_13 rfl (lv_at hl 1 rfl) ?_
    refine lv_if_le (tgt := 27) hx hb dX9_stored_14 (by decide) (fun c2 => ?_) (fun c2 => ?_)
    · have hf := (if_pos c2).symm.trans hf
      refine lv_aload_n hx hb dX9_stored_27 rfl (lv_at hl 0 rfl) ?_
      refine lv_iload_n hx hb dX9_stored_28 rfl (lv_at hl 1 rfl) ?_
      obtain ⟨g29_0, g29_1, g29_2, g29_3, g29_4, g29_5, g29_6, g29_7, g29_8, g29_9, g29_10, g29_11, g29_12, g29_13, g29_14, g29_15, g29_16, hc29, hf⟩ := bd17_some hf
      refine cl_Vv (b := a_t) (As := [.int x1]) (w1 := (woX9_runDays cI cZ a_t a_t_how a_t_strong a_t_pad a_t_plan a_t_box a_t_instead a_t_flakes a_t_tired a_t_image a_t_isKept t_signs t_parts t_swings g29_0 g29_1 g29_2 g29_3 g29_4 g29_5 g29_6 g29_7 g29_8 g29_9 g29_10 g29_11 g29_12 t_stiffWanted g29_13 t_how t_strong t_plan t_box g29_14 g29_15 g29_16)) (wN := (woX9_stored cI cZ a_t a_t_how a_t_strong a_t_pad a_t_plan a_t_box a_t_instead a_t_flakes a_t_tired a_t_image a_t_isKept t_signs t_parts t_swings g29_0 g29_1 g29_2 g29_3 g29_4 g29_5 g29_6 g29_7 g29_8 g29_9 g29_10 g29_11 g29_12 t_stiffWanted g29_13 t_how t_strong t_plan t_box g29_14 g29_15 g29_16)) [0, 1, 2, 3, 4, 5, 6, 7] 0 9 (c_X9_runDays l dC dI cI cZ ts _ a_t a_t_how a_t_strong a_t_pad a_t_plan a_t_box a_t_instead a_t_flakes a_t_tired a_t_image a_t_isKept t_signs t_parts t_swings t_saltFirst t_paceOfAll t_ice t_salt t_brine t_cold t_warm t_frozen t_layer t_air t_churned t_held t_heldFirst t_stiffWanted t_stiffFirst t_how t_strong t_plan t_box t_instead t_flakes t_tired x1 (g29_0, g29_1, g29_2, g29_3, g29_4, g29_5, g29_6, g29_7, g29_8, g29_9, g29_10, g29_11, g29_12, g29_13, g29_14, g29_15, g29_16) hc29) ⟨hx, hb, hml, hown, hG.2.1.hts _⟩ ⟨callB_of 1 (hG.2.1.hts _) giX9_runDays rfl rfl rfl (wd_1_10 hG.2.1) (wd_4_117 hG.2.1) hd_X9_runDays ⟨Nat.le_of_ble_eq_true rfl, Nat.le_of_ble_eq_true rfl⟩, wd_4_119 hG.2.1, ws_30 hG.2.1⟩ hG hP hD hS rfl rfl rfl rfl rfl rfl rfl rfl hl.1 rfl (Nat.le_of_ble_eq_true rfl) dX9_stored_29 ⟨Nat.zero_le _, Nat.zero_le _⟩ (fun H locs hP hD hS => ?_)
      refine lv_aload_n hx hb dX9_stored_32 rfl (lv_at hl 0 rfl) ?_
      obtain ⟨r33, hc33, hf⟩ := bd1_some hf
      refine cl_Vi (r := r33) (b := a_t) (As := []) (w1 := (woX9_coarse cI cZ a_t a_t_how a_t_strong a_t_pad a_t_plan a_t_box a_t_instead a_t_flakes a_t_tired a_t_image a_t_isKept t_signs t_parts t_swings g29_0 g29_1 g29_2 g29_3 g29_4 g29_5 g29_6 g29_7 g29_8 g29_9 g29_10 g29_11 g29_12 t_stiffWanted g29_13 g29_15)) (wN := (woX9_stored cI cZ a_t a_t_how a_t_strong a_t_pad a_t_plan a_t_box a_t_instead a_t_flakes a_t_tired a_t_image a_t_isKept t_signs t_parts t_swings g29_0 g29_1 g29_2 g29_3 g29_4 g29_5 g29_6 g29_7 g29_8 g29_9 g29_10 g29_11 g29_12 t_stiffWanted g29_13 t_how t_strong t_plan t_box g29_14 g29_15 g29_16)) [0, 6] 0 9 (c_X9_coarse l dC dI cI cZ ts _ a_t a_t_how a_t_strong a_t_pad a_t_plan a_t_box a_t_instead a_t_flakes a_t_tired a_t_image a_t_isKept t_signs t_parts t_swings g29_0 g29_1 g29_2 g29_3 g29_4 g29_5 g29_6 g29_7 g29_8 g29_9 g29_10 g29_11 g29_12 t_stiffWanted g29_13 g29_15 (r33) hc33) ⟨hx, hb, hml, hown, hG.2.1.hts _⟩ ⟨callB_of 0 (hG.2.1.hts _) giX9_coarse rfl rfl rfl (wd_1_10 hG.2.1) (wd_4_73 hG.2.1) hd_X9_coarse ⟨Nat.le_of_ble_eq_true rfl, Nat.le_of_ble_eq_true rfl⟩, wd_4_75 hG.2.1, ws_28 hG.2.1⟩ hG hP hD hS rfl rfl rfl rfl rfl rfl rfl rfl hl.1 rfl (Nat.le_of_ble_eq_true rfl) dX9_stored_33 ⟨Nat.zero_le _, Nat.zero_le _⟩ (fun H locs hP hD hS => ?_)
      have hR := Option.some.inj hf
      rw [← hR]
      exact rt_i hx hb hr hlk hsz hP hD hS rfl rfl dX9_stored_36
    · have hf := (if_neg c2).symm.trans hf
      refine lv_aload_n hx hb dX9_stored_17 rfl (lv_at hl 0 rfl) ?_
      refine mg (ci := 9) 0 6 hx hb hG igX9 hown hP rfl rfl (by decide) (wd_3_138 hG.2.1) rfl rfl dX9_stored_18 ?_
      refine lv_if_ne (tgt := 27) hx hb dX9_stored_21 (by decide) (fun c3 => ?_) (fun c3 => ?_)
      · have hf := (if_neg c3).symm.trans hf
        refine lv_aload_n hx hb dX9_stored_27 rfl (lv_at hl 0 rfl) ?_
        refine lv_iload_n hx hb dX9_stored_28 rfl (lv_at hl 1 rfl) ?_
        obtain ⟨g29_0, g29_1, g29_2, g29_3, g29_4, g29_5, g29_6, g29_7, g29_8, g29_9, g29_10, g29_11, g29_12, g29_13, g29_14, g29_15, g29_16, hc29, hf⟩ := bd17_some hf
        refine cl_Vv (b := a_t) (As := [.int x1]) (w1 := (woX9_runDays cI cZ a_t a_t_how a_t_strong a_t_pad a_t_plan a_t_box a_t_instead a_t_flakes a_t_tired a_t_image a_t_isKept t_signs t_parts t_swings g29_0 g29_1 g29_2 g29_3 g29_4 g29_5 g29_6 g29_7 g29_8 g29_9 g29_10 g29_11 g29_12 t_stiffWanted g29_13 t_how t_strong t_plan t_box g29_14 g29_15 g29_16)) (wN := (woX9_stored cI cZ a_t a_t_how a_t_strong a_t_pad a_t_plan a_t_box a_t_instead a_t_flakes a_t_tired a_t_image a_t_isKept t_signs t_parts t_swings g29_0 g29_1 g29_2 g29_3 g29_4 g29_5 g29_6 g29_7 g29_8 g29_9 g29_10 g29_11 g29_12 t_stiffWanted g29_13 t_how t_strong t_plan t_box g29_14 g29_15 g29_16)) [0, 1, 2, 3, 4, 5, 6, 7] 0 9 (c_X9_runDays l dC dI cI cZ ts _ a_t a_t_how a_t_strong a_t_pad a_t_plan a_t_box a_t_instead a_t_flakes a_t_tired a_t_image a_t_isKept t_signs t_parts t_swings t_saltFirst t_paceOfAll t_ice t_salt t_brine t_cold t_warm t_frozen t_layer t_air t_churned t_held t_heldFirst t_stiffWanted t_stiffFirst t_how t_strong t_plan t_box t_instead t_flakes t_tired x1 (g29_0, g29_1, g29_2, g29_3, g29_4, g29_5, g29_6, g29_7, g29_8, g29_9, g29_10, g29_11, g29_12, g29_13, g29_14, g29_15, g29_16) hc29) ⟨hx, hb, hml, hown, hG.2.1.hts _⟩ ⟨callB_of 1 (hG.2.1.hts _) giX9_runDays rfl rfl rfl (wd_1_10 hG.2.1) (wd_4_117 hG.2.1) hd_X9_runDays ⟨Nat.le_of_ble_eq_true rfl, Nat.le_of_ble_eq_true rfl⟩, wd_4_119 hG.2.1, ws_30 hG.2.1⟩ hG hP hD hS rfl rfl rfl rfl rfl rfl rfl rfl hl.1 rfl (Nat.le_of_ble_eq_true rfl) dX9_stored_29 ⟨Nat.zero_le _, Nat.zero_le _⟩ (fun H locs hP hD hS => ?_)
        refine lv_aload_n hx hb dX9_stored_32 rfl (lv_at hl 0 rfl) ?_
        obtain ⟨r33, hc33, hf⟩ := bd1_some hf
        refine cl_Vi (r := r33) (b := a_t) (As := []) (w1 := (woX9_coarse cI cZ a_t a_t_how a_t_strong a_t_pad a_t_plan a_t_box a_t_instead a_t_flakes a_t_tired a_t_image a_t_isKept t_signs t_parts t_swings g29_0 g29_1 g29_2 g29_3 g29_4 g29_5 g29_6 g29_7 g29_8 g29_9 g29_10 g29_11 g29_12 t_stiffWanted g29_13 g29_15)) (wN := (woX9_stored cI cZ a_t a_t_how a_t_strong a_t_pad a_t_plan a_t_box a_t_instead a_t_flakes a_t_tired a_t_image a_t_isKept t_signs t_parts t_swings g29_0 g29_1 g29_2 g29_3 g29_4 g29_5 g29_6 g29_7 g29_8 g29_9 g29_10 g29_11 g29_12 t_stiffWanted g29_13 t_how t_strong t_plan t_box g29_14 g29_15 g29_16)) [0, 6] 0 9 (c_X9_coarse l dC dI cI cZ ts _ a_t a_t_how a_t_strong a_t_pad a_t_plan a_t_box a_t_instead a_t_flakes a_t_tired a_t_image a_t_isKept t_signs t_parts t_swings g29_0 g29_1 g29_2 g29_3 g29_4 g29_5 g29_6 g29_7 g29_8 g29_9 g29_10 g29_11 g29_12 t_stiffWanted g29_13 g29_15 (r33) hc33) ⟨hx, hb, hml, hown, hG.2.1.hts _⟩ ⟨callB_of 0 (hG.2.1.hts _) giX9_coarse rfl rfl rfl (wd_1_10 hG.2.1) (wd_4_73 hG.2.1) hd_X9_coarse ⟨Nat.le_of_ble_eq_true rfl, Nat.le_of_ble_eq_true rfl⟩, wd_4_75 hG.2.1, ws_28 hG.2.1⟩ hG hP hD hS rfl rfl rfl rfl rfl rfl rfl rfl hl.1 rfl (Nat.le_of_ble_eq_true rfl) dX9_stored_33 ⟨Nat.zero_le _, Nat.zero_le _⟩ (fun H locs hP hD hS => ?_)
        have hR := Option.some.inj hf
        rw [← hR]
        exact rt_i hx hb hr hlk hsz hP hD hS rfl rfl dX9_stored_36
      · have hf := (if_pos c3).symm.trans hf
        refine lv_bipush (v := -3) hx hb dX9_stored_24 (by decide) ?_
        have hR := Option.some.inj hf
        rw [← hR]
        exact rt_i hx hb hr hlk hsz hP hD hS rfl rfl dX9_stored_26
  · have hf := (if_pos c1).symm.trans hf
    refine lv_bipush (v := -2) hx hb dX9_stored_10 (by decide) ?_
    have hR := Option.some.inj hf
    rw [← hR]
    exact rt_i hx hb hr hlk hsz hP hD hS rfl rfl dX9_stored_12
abbrev woX9_grown (cI cZ : ClassId) (a_t a_t_how a_t_strong a_t_pad a_t_plan a_t_box a_t_instead a_t_flakes a_t_tired a_t_image a_t_isKept : Nat) (t_signs : Int32) (t_parts : Int32) (t_swings : Int32) (t_saltFirst : Int32) (t_paceOfAll : Int32) (t_ice : Int32) (t_salt : Int32) (t_brine : Int32) (t_cold : Int32) (t_warm : Int32) (t_frozen : Int32) (t_layer : Int32) (t_air : Int32) (t_churned : Int32) (t_held : Int32) (t_heldFirst : Int32) (t_stiffWanted : Int32) (t_stiffFirst : Int32) (t_how : Nat → Int32) (t_strong : Nat → Int32) (t_plan : Nat → Int32) (t_box : Nat → Int32) (t_instead : Nat → Int32) (t_flakes : Nat → Int32) (t_tired : Nat → Int32) : va_W := [(a_t, .inr (9, [.ref a_t_how, .ref a_t_strong, .int t_signs, .ref a_t_pad, .int t_parts, .ref a_t_plan, .int t_swings, .ref a_t_box, .ref a_t_instead, .int t_saltFirst, .int t_paceOfAll, .int t_ice, .int t_salt, .int t_brine, .int t_cold, .int t_warm, .int t_frozen, .int t_layer, .int t_air, .int t_churned, .ref a_t_flakes, .ref a_t_tired, .int t_held, .int t_heldFirst, .int t_stiffWanted, .int t_stiffFirst, .ref a_t_image, .ref a_t_isKept])), (a_t_how, .inl (cI, 8, .inl t_how)), (a_t_strong, .inl (cI, 4, .inl t_strong)), (a_t_plan, .inl (cI, 60, .inl t_plan)), (a_t_box, .inl (cI, 40, .inl t_box)), (a_t_instead, .inl (cI, 4, .inl t_instead)), (a_t_flakes, .inl (cI, 64, .inl t_flakes)), (a_t_tired, .inl (cI, 4, .inl t_tired))]
abbrev rmX9_grown : Room := { frames := 6, cells := 0, slots := 0, locals := 140 }
theorem hd_X9_grown : yX9_grown.cls ≠ "java/lang/invoke/MethodHandle" ∧ yX9_grown.cls ≠ "java/lang/invoke/VarHandle" ∧ (parseMethodDescriptor yX9_grown.desc).map (fun d => d.parameters.length) = some 2 := by decide +kernel
set_option maxHeartbeats 4000000 in
set_option maxRecDepth 100000 in
theorem c_X9_grown (l : Launch) (dC : Nat → ClassId) (dI : Nat → Nat → Nat) (cI cZ : ClassId) (ts : Nat → Nat) (sz : Nat) (a_t a_t_how a_t_strong a_t_pad a_t_plan a_t_box a_t_instead a_t_flakes a_t_tired a_t_image a_t_isKept : Nat) (t_signs : Int32) (t_parts : Int32) (t_swings : Int32) (t_saltFirst : Int32) (t_paceOfAll : Int32) (t_ice : Int32) (t_salt : Int32) (t_brine : Int32) (t_cold : Int32) (t_warm : Int32) (t_frozen : Int32) (t_layer : Int32) (t_air : Int32) (t_churned : Int32) (t_held : Int32) (t_heldFirst : Int32) (t_stiffWanted : Int32) (t_stiffFirst : Int32) (t_how : Nat → Int32) (t_strong : Nat → Int32) (t_plan : Nat → Int32) (t_box : Nat → Int32) (t_instead : Nat → Int32) (t_flakes : Nat → Int32) (t_tired : Nat → Int32) (x1 : Int32) (x2 : Int32) (R : Int32 × Int32 × Int32 × Int32 × Int32 × Int32 × Int32 × Int32 × Int32 × Int32 × Int32 × Int32 × Int32 × Int32 × Int32 × (Nat → Int32) × (Nat → Int32) × (Nat → Int32)) (hf : f_X9_grown t_parts t_swings t_saltFirst t_paceOfAll t_ice t_salt t_brine t_cold t_warm t_frozen t_layer t_air t_churned t_held t_heldFirst t_stiffWanted t_stiffFirst t_how t_strong t_plan t_box t_instead t_flakes t_tired x1 x2 = some R) : Met l yX9_grown wyX9_grown rmX9_grown (PRE (dC, dI) cI cZ ts [.ref a_t, .int x1, .int x2] sz (woX9_grown cI cZ a_t a_t_how a_t_strong a_t_pad a_t_plan a_t_box a_t_instead a_t_flakes a_t_tired a_t_image a_t_isKept t_signs t_parts t_swings t_saltFirst t_paceOfAll t_ice t_salt t_brine t_cold t_warm t_frozen t_layer t_air t_churned t_held t_heldFirst t_stiffWanted t_stiffFirst t_how t_strong t_plan t_box t_instead t_flakes t_tired)) (POSTi (dC, dI) R.1 sz (woX9_grown cI cZ a_t a_t_how a_t_strong a_t_pad a_t_plan a_t_box a_t_instead a_t_flakes a_t_tired a_t_image a_t_isKept t_signs t_parts t_swings t_saltFirst t_paceOfAll t_ice t_salt t_brine t_cold t_warm t_frozen t_layer t_air t_churned t_held t_heldFirst t_stiffWanted t_stiffFirst t_how t_strong t_plan t_box t_instead t_flakes t_tired) (woX9_grown cI cZ a_t a_t_how a_t_strong a_t_pad a_t_plan a_t_box a_t_instead a_t_flakes a_t_tired a_t_image a_t_isKept t_signs t_parts t_swings R.2.1 R.2.2.1 R.2.2.2.1 R.2.2.2.2.1 R.2.2.2.2.2.1 R.2.2.2.2.2.2.1 R.2.2.2.2.2.2.2.1 R.2.2.2.2.2.2.2.2.1 R.2.2.2.2.2.2.2.2.2.1 R.2.2.2.2.2.2.2.2.2.2.1 R.2.2.2.2.2.2.2.2.2.2.2.1 R.2.2.2.2.2.2.2.2.2.2.2.2.1 R.2.2.2.2.2.2.2.2.2.2.2.2.2.1 t_stiffWanted R.2.2.2.2.2.2.2.2.2.2.2.2.2.2.1 t_how t_strong t_plan t_box R.2.2.2.2.2.2.2.2.2.2.2.2.2.2.2.1 R.2.2.2.2.2.2.2.2.2.2.2.2.2.2.2.2.1 R.2.2.2.2.2.2.2.2.2.2.2.2.2.2.2.2.2)) 0 0 (va_A (woX9_grown cI cZ a_t a_t_how a_t_strong a_t_pad a_t_plan a_t_box a_t_instead a_t_flakes a_t_tired a_t_image a_t_isKept t_signs t_parts t_swings t_saltFirst t_paceOfAll t_ice t_salt t_brine t_cold t_warm t_frozen t_layer t_air t_churned t_held t_heldFirst t_stiffWanted t_stiffFirst t_how t_strong t_plan t_box t_instead t_flakes t_tired) sz) := by
  refine Met.ofW (cc := cX9_grown) (maxL := 3) (ret := (some .int)) (by decide) rfl ?_
  intro p e s m args below meth c s₁ B hml hv
  obtain ⟨rfl, hv⟩ := hv
  have hG := hg_of hv
  obtain ⟨hsz, hP, -, hD0, -⟩ := hv
  have hx := B.exec
  have hb := B.bytes
  have hr := B.returns
  have hlk := B.notSynchronized
  have hown : s.vm.findClass RX9 = some m.cls := findClass_of_methodNamed B.named
  have hD := hD0.self (sz := sz)
  have hS : va_S (va_A (woX9_grown cI cZ a_t a_t_how a_t_strong a_t_pad a_t_plan a_t_box a_t_instead a_t_flakes a_t_tired a_t_image a_t_isKept t_signs t_parts t_swings t_saltFirst t_paceOfAll t_ice t_salt t_brine t_cold t_warm t_frozen t_layer t_air t_churned t_held t_heldFirst t_stiffWanted t_stiffFirst t_how t_strong t_plan t_box t_instead t_flakes t_tired) sz) s.heap s.heap [] := va_S.rf
  have L38 : ∀ (y1 : Int32) (y2 : Int32) (v_t_saltFirst : Int32) (v_t_paceOfAll : Int32) (v_t_ice : Int32) (v_t_salt : Int32) (v_t_brine : Int32) (v_t_cold : Int32) (v_t_warm : Int32) (v_t_frozen : Int32) (v_t_layer : Int32) (v_t_air : Int32) (v_t_churned : Int32) (v_t_held : Int32) (v_t_heldFirst : Int32) (v_t_stiffFirst : Int32) (v_t_instead : Nat → Int32) (v_t_flakes : Nat → Int32) (v_t_tired : Nat → Int32) (H : Heap) (locs : List Loc) (ls : Array Slot), f_X9_grown_L38 t_parts t_swings t_stiffWanted t_how t_strong t_plan t_box y1 y2 v_t_saltFirst v_t_paceOfAll v_t_ice v_t_salt v_t_brine v_t_cold v_t_warm v_t_frozen v_t_layer v_t_air v_t_churned v_t_held v_t_heldFirst v_t_stiffFirst v_t_instead v_t_flakes v_t_tired = some R → va_P (dC, dI) vwCl (woX9_grown cI cZ a_t a_t_how a_t_strong a_t_pad a_t_plan a_t_box a_t_instead a_t_flakes a_t_tired a_t_image a_t_isKept t_signs t_parts t_swings v_t_saltFirst v_t_paceOfAll v_t_ice v_t_salt v_t_brine v_t_cold v_t_warm v_t_frozen v_t_layer v_t_air v_t_churned v_t_held v_t_heldFirst t_stiffWanted v_t_stiffFirst t_how t_strong t_plan t_box v_t_instead v_t_flakes v_t_tired) H → va_D (va_A (woX9_grown cI cZ a_t a_t_how a_t_strong a_t_pad a_t_plan a_t_box a_t_instead a_t_flakes a_t_tired a_t_image a_t_isKept t_signs t_parts t_swings t_saltFirst t_paceOfAll t_ice t_salt t_brine t_cold t_warm t_frozen t_layer t_air t_churned t_held t_heldFirst t_stiffWanted t_stiffFirst t_how t_strong t_plan t_box t_instead t_flakes t_tired) sz) (woX9_grown cI cZ a_t a_t_how a_t_strong a_t_pad a_t_plan a_t_box a_t_instead a_t_flakes a_t_tired a_t_image a_t_isKept t_signs t_parts t_swings v_t_saltFirst v_t_paceOfAll v_t_ice v_t_salt v_t_brine v_t_cold v_t_warm v_t_frozen v_t_layer v_t_air v_t_churned v_t_held v_t_heldFirst t_stiffWanted v_t_stiffFirst t_how t_strong t_plan t_box v_t_instead v_t_flakes v_t_tired) → va_S (va_A (woX9_grown cI cZ a_t a_t_how a_t_strong a_t_pad a_t_plan a_t_box a_t_instead a_t_flakes a_t_tired a_t_image a_t_isKept t_signs t_parts t_swings t_saltFirst t_paceOfAll t_ice t_salt t_brine t_cold t_warm t_frozen t_layer t_air t_churned t_held t_heldFirst t_stiffWanted t_stiffFirst t_how t_strong t_plan t_box t_instead t_flakes t_tired) sz) s.heap H locs → lv_has ls 3 [(0, .ref a_t), (1, .int y1), (2, .int y2)] → W p l e (headSpec wyX9_grown rmX9_grown).room s m ([Value.ref a_t, Value.int x1, Value.int x2] : List Value).toArray below meth c H locs 0 0 (MQ below (POSTi (dC, dI) R.1 sz (woX9_grown cI cZ a_t a_t_how a_t_strong a_t_pad a_t_plan a_t_box a_t_instead a_t_flakes a_t_tired a_t_image a_t_isKept t_signs t_parts t_swings t_saltFirst t_paceOfAll t_ice t_salt t_brine t_cold t_warm t_frozen t_layer t_air t_churned t_held t_heldFirst t_stiffWanted t_stiffFirst t_how t_strong t_plan t_box t_instead t_flakes t_tired) (woX9_grown cI cZ a_t a_t_how a_t_strong a_t_pad a_t_plan a_t_box a_t_instead a_t_flakes a_t_tired a_t_image a_t_isKept t_signs t_parts t_swings R.2.1 R.2.2.1 R.2.2.2.1 R.2.2.2.2.1 R.2.2.2.2.2.1 R.2.2.2.2.2.2.1 R.2.2.2.2.2.2.2.1 R.2.2.2.2.2.2.2.2.1 R.2.2.2.2.2.2.2.2.2.1 R.2.2.2.2.2.2.2.2.2.2.1 R.2.2.2.2.2.2.2.2.2.2.2.1 R.2.2.2.2.2.2.2.2.2.2.2.2.1 R.2.2.2.2.2.2.2.2.2.2.2.2.2.1 t_stiffWanted R.2.2.2.2.2.2.2.2.2.2.2.2.2.2.1 t_how t_strong t_plan t_box R.2.2.2.2.2.2.2.2.2.2.2.2.2.2.2.1 R.2.2.2.2.2.2.2.2.2.2.2.2.2.2.2.2.1 R.2.2.2.2.2.2.2.2.2.2.2.2.2.2.2.2.2)) ([Value.ref a_t, Value.int x1, Value.int x2] : List Value).toArray s 0 0 (va_A (woX9_grown cI cZ a_t a_t_how a_t_strong a_t_pad a_t_plan a_t_box a_t_instead a_t_flakes a_t_tired a_t_image a_t_isKept t_signs t_parts t_swings t_saltFirst t_paceOfAll t_ice t_salt t_brine t_cold t_warm t_frozen t_layer t_air t_churned t_held t_heldFirst t_stiffWanted t_stiffFirst t_how t_strong t_plan t_box t_instead t_flakes t_tired) sz)) (F0 m 38 ls []) := by
    intro  y1 y2 v_t_saltFirst v_t_paceOfAll v_t_ice v_t_salt v_t_brine v_t_cold v_t_warm v_t_frozen v_t_layer v_t_air v_t_churned v_t_held v_t_heldFirst v_t_stiffFirst v_t_instead v_t_flakes v_t_tired H locs ls hf hP hD hS hl
    unfold f_X9_grown_L38 at hf
    refine lv_aload_n hx hb dX9_grown_38 rfl (lv_at hl 0 rfl) ?_
    refine lv_iload_n hx hb dX9_grown_39 rfl (lv_at hl 1 rfl) ?_
    obtain ⟨g40_0, g40_1, g40_2, g40_3, g40_4, g40_5, g40_6, g40_7, g40_8, g40_9, g40_10, g40_11, g40_12, g40_13, g40_14, g40_15, g40_16, hc40, hf⟩ := bd17_some hf
    refine cl_Vv (b := a_t) (As := [.int y1]) (w1 := (woX9_runDays cI cZ a_t a_t_how a_t_strong a_t_pad a_t_plan a_t_box a_t_instead a_t_flakes a_t_tired a_t_image a_t_isKept t_signs t_parts t_swings g40_0 g40_1 g40_2 g40_3 g40_4 g40_5 g40_6 g40_7 g40_8 g40_9 g40_10 g40_11 g40_12 t_stiffWanted g40_13 t_how t_strong t_plan t_box g40_14 g40_15 g40_16)) (wN := (woX9_grown cI cZ a_t a_t_how a_t_strong a_t_pad a_t_plan a_t_box a_t_instead a_t_flakes a_t_tired a_t_image a_t_isKept t_signs t_parts t_swings g40_0 g40_1 g40_2 g40_3 g40_4 g40_5 g40_6 g40_7 g40_8 g40_9 g40_10 g40_11 g40_12 t_stiffWanted g40_13 t_how t_strong t_plan t_box g40_14 g40_15 g40_16)) [0, 1, 2, 3, 4, 5, 6, 7] 0 9 (c_X9_runDays l dC dI cI cZ ts _ a_t a_t_how a_t_strong a_t_pad a_t_plan a_t_box a_t_instead a_t_flakes a_t_tired a_t_image a_t_isKept t_signs t_parts t_swings v_t_saltFirst v_t_paceOfAll v_t_ice v_t_salt v_t_brine v_t_cold v_t_warm v_t_frozen v_t_layer v_t_air v_t_churned v_t_held v_t_heldFirst t_stiffWanted v_t_stiffFirst t_how t_strong t_plan t_box v_t_instead v_t_flakes v_t_tired y1 (g40_0, g40_1, g40_2, g40_3, g40_4, g40_5, g40_6, g40_7, g40_8, g40_9, g40_10, g40_11, g40_12, g40_13, g40_14, g40_15, g40_16) hc40) ⟨hx, hb, hml, hown, hG.2.1.hts _⟩ ⟨callB_of 1 (hG.2.1.hts _) giX9_runDays rfl rfl rfl (wd_1_10 hG.2.1) (wd_4_117 hG.2.1) hd_X9_runDays ⟨Nat.le_of_ble_eq_true rfl, Nat.le_of_ble_eq_true rfl⟩, wd_4_119 hG.2.1, ws_30 hG.2.1⟩ hG hP hD hS rfl rfl rfl rfl rfl rfl rfl rfl hl.1 rfl (Nat.le_of_ble_eq_true rfl) dX9_grown_40 ⟨Nat.zero_le _, Nat.zero_le _⟩ (fun H locs hP hD hS => ?_)
    refine lv_aload_n hx hb dX9_grown_43 rfl (lv_at hl 0 rfl) ?_
    refine mg (ci := 9) 0 20 hx hb hG igX9 hown hP rfl rfl (by decide) (wd_3_152 hG.2.1) rfl rfl dX9_grown_44 ?_
    refine lv_iload_n hx hb dX9_grown_47 rfl (lv_at hl 2 rfl) ?_
    obtain ⟨g1, hf⟩ := gd_some hf
    refine mal 6 hx hb hG hP rfl g1 dX9_grown_48 ?_
    have hR := Option.some.inj hf
    rw [← hR]
    exact rt_i hx hb hr hlk hsz hP hD hS rfl rfl dX9_grown_49
  have hl := lv_entry ([.ref a_t, .int x1, .int x2]) (n := 3) (Nat.le_of_ble_eq_true rfl)
  rw [lg_entry_eq]
  generalize (lg_sl ([.ref a_t, .int x1, .int x2]) ++ List.replicate (3 - (lg_sl ([.ref a_t, .int x1, .int x2])).length) Slot.unset).toArray = ls at hl ⊢
  have hl : lv_has ls 3 [(0, .ref a_t), (1, .int x1), (2, .int x2)] := hl
  unfold f_X9_grown at hf
  refine lv_iload_n hx hb dX9_grown_0 rfl (lv_at hl 1 rfl) ?_
  refine lv_iconst (v := 0) hx hb dX9_grown_1 (by decide) ?_
  refine lv_bipush (v := 99) hx hb dX9_grown_2 (by decide) ?_
  obtain ⟨r4, hc4, hf⟩ := bd1_some hf
  refine cl_Si (r := r4) (As := [.int x1, .int (0 : Int32), .int (99 : Int32)]) (w1 := []) (wN := (woX9_grown cI cZ a_t a_t_how a_t_strong a_t_pad a_t_plan a_t_box a_t_instead a_t_flakes a_t_tired a_t_image a_t_isKept t_signs t_parts t_swings t_saltFirst t_paceOfAll t_ice t_salt t_brine t_cold t_warm t_frozen t_layer t_air t_churned t_held t_heldFirst t_stiffWanted t_stiffFirst t_how t_strong t_plan t_box t_instead t_flakes t_tired)) [] 0 0 (c_X9_in l dC dI cI cZ ts _ x1 (0 : Int32) (99 : Int32) (r4) hc4) ⟨hx, hb, hml, hown, hG.2.1.hts _⟩ ⟨callB_of 3 (hG.2.1.hts _) giX9_in rfl rfl rfl (wd_1_10 hG.2.1) (wd_3_222 hG.2.1) hd_X9_in ⟨Nat.le_of_ble_eq_true rfl, Nat.le_of_ble_eq_true rfl⟩, wd_3_223 hG.2.1⟩ hG hP hD hS rfl rfl rfl rfl rfl hl.1 rfl (Nat.le_of_ble_eq_true rfl) dX9_grown_4 ⟨Nat.zero_le _, Nat.zero_le _⟩ (fun H locs hP hD hS => ?_)
  refine lv_if_eq (tgt := 21) hx hb dX9_grown_7 (by decide) (fun c2 => ?_) (fun c2 => ?_)
  · have hf := (if_pos c2).symm.trans hf
    refine lv_bipush (v := -2) hx hb dX9_grown_21 (by decide) ?_
    have hR := Option.some.inj hf
    rw [← hR]
    exact rt_i hx hb hr hlk hsz hP hD hS rfl rfl dX9_grown_23
  · have hf := (if_neg c2).symm.trans hf
    refine lv_iload_n hx hb dX9_grown_10 rfl (lv_at hl 2 rfl) ?_
    refine lv_bipush (v := 10) hx hb dX9_grown_11 (by decide) ?_
    refine lv_bipush (v := 63) hx hb dX9_grown_13 (by decide) ?_
    obtain ⟨r15, hc15, hf⟩ := bd1_some hf
    refine cl_Si (r := r15) (As := [.int x2, .int (10 : Int32), .int (63 : Int32)]) (w1 := []) (wN := (woX9_grown cI cZ a_t a_t_how a_t_strong a_t_pad a_t_plan a_t_box a_t_instead a_t_flakes a_t_tired a_t_image a_t_isKept t_signs t_parts t_swings t_saltFirst t_paceOfAll t_ice t_salt t_brine t_cold t_warm t_frozen t_layer t_air t_churned t_held t_heldFirst t_stiffWanted t_stiffFirst t_how t_strong t_plan t_box t_instead t_flakes t_tired)) [] 0 0 (c_X9_in l dC dI cI cZ ts _ x2 (10 : Int32) (63 : Int32) (r15) hc15) ⟨hx, hb, hml, hown, hG.2.1.hts _⟩ ⟨callB_of 3 (hG.2.1.hts _) giX9_in rfl rfl rfl (wd_1_10 hG.2.1) (wd_3_222 hG.2.1) hd_X9_in ⟨Nat.le_of_ble_eq_true rfl, Nat.le_of_ble_eq_true rfl⟩, wd_3_223 hG.2.1⟩ hG hP hD hS rfl rfl rfl rfl rfl hl.1 rfl (Nat.le_of_ble_eq_true rfl) dX9_grown_15 ⟨Nat.zero_le _, Nat.zero_le _⟩ (fun H locs hP hD hS => ?_)
    refine lv_if_ne (tgt := 24) hx hb dX9_grown_18 (by decide) (fun c3 => ?_) (fun c3 => ?_)
    · have hf := (if_neg c3).symm.trans hf
      refine lv_iload_n hx hb dX9_grown_24 rfl (lv_at hl 1 rfl) ?_
      refine lv_if_le (tgt := 38) hx hb dX9_grown_25 (by decide) (fun c4 => ?_) (fun c4 => ?_)
      · have hf := (if_pos c4).symm.trans hf
        exact L38  x1 x2 t_saltFirst t_paceOfAll t_ice t_salt t_brine t_cold t_warm t_frozen t_layer t_air t_churned t_held t_heldFirst t_stiffFirst t_instead t_flakes t_tired _ _ _ hf hP hD hS (lv_sub hl [0, 1, 2] rfl)
      · have hf := (if_neg c4).symm.trans hf
        refine lv_aload_n hx hb dX9_grown_28 rfl (lv_at hl 0 rfl) ?_
        refine mg (ci := 9) 0 6 hx hb hG igX9 hown hP rfl rfl (by decide) (wd_3_138 hG.2.1) rfl rfl dX9_grown_29 ?_
        refine lv_if_ne (tgt := 38) hx hb dX9_grown_32 (by decide) (fun c5 => ?_) (fun c5 => ?_)
        · have hf := (if_neg c5).symm.trans hf
          exact L38  x1 x2 t_saltFirst t_paceOfAll t_ice t_salt t_brine t_cold t_warm t_frozen t_layer t_air t_churned t_held t_heldFirst t_stiffFirst t_instead t_flakes t_tired _ _ _ hf hP hD hS (lv_sub hl [0, 1, 2] rfl)
        · have hf := (if_pos c5).symm.trans hf
          refine lv_bipush (v := -3) hx hb dX9_grown_35 (by decide) ?_
          have hR := Option.some.inj hf
          rw [← hR]
          exact rt_i hx hb hr hlk hsz hP hD hS rfl rfl dX9_grown_37
    · have hf := (if_pos c3).symm.trans hf
      refine lv_bipush (v := -2) hx hb dX9_grown_21 (by decide) ?_
      have hR := Option.some.inj hf
      rw [← hR]
      exact rt_i hx hb hr hlk hsz hP hD hS rfl rfl dX9_grown_23
abbrev woX9_sand (cI cZ : ClassId) (a_t a_t_how a_t_strong a_t_pad a_t_plan a_t_box a_t_instead a_t_flakes a_t_tired a_t_image a_t_isKept : Nat) (t_signs : Int32) (t_parts : Int32) (t_swings : Int32) (t_saltFirst : Int32) (t_paceOfAll : Int32) (t_ice : Int32) (t_salt : Int32) (t_brine : Int32) (t_cold : Int32) (t_warm : Int32) (t_frozen : Int32) (t_layer : Int32) (t_air : Int32) (t_churned : Int32) (t_held : Int32) (t_heldFirst : Int32) (t_stiffWanted : Int32) (t_stiffFirst : Int32) (t_how : Nat → Int32) (t_strong : Nat → Int32) (t_plan : Nat → Int32) (t_box : Nat → Int32) (t_instead : Nat → Int32) (t_flakes : Nat → Int32) (t_tired : Nat → Int32) : va_W := [(a_t, .inr (9, [.ref a_t_how, .ref a_t_strong, .int t_signs, .ref a_t_pad, .int t_parts, .ref a_t_plan, .int t_swings, .ref a_t_box, .ref a_t_instead, .int t_saltFirst, .int t_paceOfAll, .int t_ice, .int t_salt, .int t_brine, .int t_cold, .int t_warm, .int t_frozen, .int t_layer, .int t_air, .int t_churned, .ref a_t_flakes, .ref a_t_tired, .int t_held, .int t_heldFirst, .int t_stiffWanted, .int t_stiffFirst, .ref a_t_image, .ref a_t_isKept])), (a_t_how, .inl (cI, 8, .inl t_how)), (a_t_strong, .inl (cI, 4, .inl t_strong)), (a_t_plan, .inl (cI, 60, .inl t_plan)), (a_t_box, .inl (cI, 40, .inl t_box)), (a_t_instead, .inl (cI, 4, .inl t_instead)), (a_t_flakes, .inl (cI, 64, .inl t_flakes)), (a_t_tired, .inl (cI, 4, .inl t_tired))]
abbrev rmX9_sand : Room := { frames := 5, cells := 0, slots := 0, locals := 118 }
theorem hd_X9_sand : yX9_sand.cls ≠ "java/lang/invoke/MethodHandle" ∧ yX9_sand.cls ≠ "java/lang/invoke/VarHandle" ∧ (parseMethodDescriptor yX9_sand.desc).map (fun d => d.parameters.length) = some 0 := by decide +kernel
set_option maxHeartbeats 4000000 in
set_option maxRecDepth 100000 in
theorem c_X9_sand (l : Launch) (dC : Nat → ClassId) (dI : Nat → Nat → Nat) (cI cZ : ClassId) (ts : Nat → Nat) (sz : Nat) (a_t a_t_how a_t_strong a_t_pad a_t_plan a_t_box a_t_instead a_t_flakes a_t_tired a_t_image a_t_isKept : Nat) (t_signs : Int32) (t_parts : Int32) (t_swings : Int32) (t_saltFirst : Int32) (t_paceOfAll : Int32) (t_ice : Int32) (t_salt : Int32) (t_brine : Int32) (t_cold : Int32) (t_warm : Int32) (t_frozen : Int32) (t_layer : Int32) (t_air : Int32) (t_churned : Int32) (t_held : Int32) (t_heldFirst : Int32) (t_stiffWanted : Int32) (t_stiffFirst : Int32) (t_how : Nat → Int32) (t_strong : Nat → Int32) (t_plan : Nat → Int32) (t_box : Nat → Int32) (t_instead : Nat → Int32) (t_flakes : Nat → Int32) (t_tired : Nat → Int32) (R : Int32 × Int32 × Int32 × Int32 × Int32 × Int32 × Int32 × Int32 × Int32 × Int32 × Int32 × Int32 × Int32 × Int32 × Int32 × (Nat → Int32) × (Nat → Int32) × (Nat → Int32)) (hf : f_X9_sand t_parts t_swings t_saltFirst t_paceOfAll t_ice t_salt t_brine t_cold t_warm t_frozen t_layer t_air t_churned t_held t_heldFirst t_stiffWanted t_stiffFirst t_how t_strong t_plan t_box t_instead t_flakes t_tired = some R) : Met l yX9_sand wyX9_sand rmX9_sand (PRE (dC, dI) cI cZ ts [.ref a_t] sz (woX9_sand cI cZ a_t a_t_how a_t_strong a_t_pad a_t_plan a_t_box a_t_instead a_t_flakes a_t_tired a_t_image a_t_isKept t_signs t_parts t_swings t_saltFirst t_paceOfAll t_ice t_salt t_brine t_cold t_warm t_frozen t_layer t_air t_churned t_held t_heldFirst t_stiffWanted t_stiffFirst t_how t_strong t_plan t_box t_instead t_flakes t_tired)) (POSTi (dC, dI) R.1 sz (woX9_sand cI cZ a_t a_t_how a_t_strong a_t_pad a_t_plan a_t_box a_t_instead a_t_flakes a_t_tired a_t_image a_t_isKept t_signs t_parts t_swings t_saltFirst t_paceOfAll t_ice t_salt t_brine t_cold t_warm t_frozen t_layer t_air t_churned t_held t_heldFirst t_stiffWanted t_stiffFirst t_how t_strong t_plan t_box t_instead t_flakes t_tired) (woX9_sand cI cZ a_t a_t_how a_t_strong a_t_pad a_t_plan a_t_box a_t_instead a_t_flakes a_t_tired a_t_image a_t_isKept t_signs t_parts t_swings R.2.1 R.2.2.1 R.2.2.2.1 R.2.2.2.2.1 R.2.2.2.2.2.1 R.2.2.2.2.2.2.1 R.2.2.2.2.2.2.2.1 R.2.2.2.2.2.2.2.2.1 R.2.2.2.2.2.2.2.2.2.1 R.2.2.2.2.2.2.2.2.2.2.1 R.2.2.2.2.2.2.2.2.2.2.2.1 R.2.2.2.2.2.2.2.2.2.2.2.2.1 R.2.2.2.2.2.2.2.2.2.2.2.2.2.1 t_stiffWanted R.2.2.2.2.2.2.2.2.2.2.2.2.2.2.1 t_how t_strong t_plan t_box R.2.2.2.2.2.2.2.2.2.2.2.2.2.2.2.1 R.2.2.2.2.2.2.2.2.2.2.2.2.2.2.2.2.1 R.2.2.2.2.2.2.2.2.2.2.2.2.2.2.2.2.2)) 0 0 (va_A (woX9_sand cI cZ a_t a_t_how a_t_strong a_t_pad a_t_plan a_t_box a_t_instead a_t_flakes a_t_tired a_t_image a_t_isKept t_signs t_parts t_swings t_saltFirst t_paceOfAll t_ice t_salt t_brine t_cold t_warm t_frozen t_layer t_air t_churned t_held t_heldFirst t_stiffWanted t_stiffFirst t_how t_strong t_plan t_box t_instead t_flakes t_tired) sz) := by
  refine Met.ofW (cc := cX9_sand) (maxL := 2) (ret := (some .int)) (by decide) rfl ?_
  intro p e s m args below meth c s₁ B hml hv
  obtain ⟨rfl, hv⟩ := hv
  have hG := hg_of hv
  obtain ⟨hsz, hP, -, hD0, -⟩ := hv
  have hx := B.exec
  have hb := B.bytes
  have hr := B.returns
  have hlk := B.notSynchronized
  have hown : s.vm.findClass RX9 = some m.cls := findClass_of_methodNamed B.named
  have hD := hD0.self (sz := sz)
  have hS : va_S (va_A (woX9_sand cI cZ a_t a_t_how a_t_strong a_t_pad a_t_plan a_t_box a_t_instead a_t_flakes a_t_tired a_t_image a_t_isKept t_signs t_parts t_swings t_saltFirst t_paceOfAll t_ice t_salt t_brine t_cold t_warm t_frozen t_layer t_air t_churned t_held t_heldFirst t_stiffWanted t_stiffFirst t_how t_strong t_plan t_box t_instead t_flakes t_tired) sz) s.heap s.heap [] := va_S.rf
  have L20 : ∀ (fu : Nat) (y1 : Int32) (v_t_saltFirst : Int32) (v_t_paceOfAll : Int32) (v_t_ice : Int32) (v_t_salt : Int32) (v_t_brine : Int32) (v_t_cold : Int32) (v_t_warm : Int32) (v_t_frozen : Int32) (v_t_layer : Int32) (v_t_air : Int32) (v_t_churned : Int32) (v_t_held : Int32) (v_t_heldFirst : Int32) (v_t_stiffFirst : Int32) (v_t_instead : Nat → Int32) (v_t_flakes : Nat → Int32) (v_t_tired : Nat → Int32) (H : Heap) (locs : List Loc) (ls : Array Slot), f_X9_sand_L20 t_parts t_swings t_stiffWanted t_how t_strong t_plan t_box fu y1 v_t_saltFirst v_t_paceOfAll v_t_ice v_t_salt v_t_brine v_t_cold v_t_warm v_t_frozen v_t_layer v_t_air v_t_churned v_t_held v_t_heldFirst v_t_stiffFirst v_t_instead v_t_flakes v_t_tired = some R → va_P (dC, dI) vwCl (woX9_sand cI cZ a_t a_t_how a_t_strong a_t_pad a_t_plan a_t_box a_t_instead a_t_flakes a_t_tired a_t_image a_t_isKept t_signs t_parts t_swings v_t_saltFirst v_t_paceOfAll v_t_ice v_t_salt v_t_brine v_t_cold v_t_warm v_t_frozen v_t_layer v_t_air v_t_churned v_t_held v_t_heldFirst t_stiffWanted v_t_stiffFirst t_how t_strong t_plan t_box v_t_instead v_t_flakes v_t_tired) H → va_D (va_A (woX9_sand cI cZ a_t a_t_how a_t_strong a_t_pad a_t_plan a_t_box a_t_instead a_t_flakes a_t_tired a_t_image a_t_isKept t_signs t_parts t_swings t_saltFirst t_paceOfAll t_ice t_salt t_brine t_cold t_warm t_frozen t_layer t_air t_churned t_held t_heldFirst t_stiffWanted t_stiffFirst t_how t_strong t_plan t_box t_instead t_flakes t_tired) sz) (woX9_sand cI cZ a_t a_t_how a_t_strong a_t_pad a_t_plan a_t_box a_t_instead a_t_flakes a_t_tired a_t_image a_t_isKept t_signs t_parts t_swings v_t_saltFirst v_t_paceOfAll v_t_ice v_t_salt v_t_brine v_t_cold v_t_warm v_t_frozen v_t_layer v_t_air v_t_churned v_t_held v_t_heldFirst t_stiffWanted v_t_stiffFirst t_how t_strong t_plan t_box v_t_instead v_t_flakes v_t_tired) → va_S (va_A (woX9_sand cI cZ a_t a_t_how a_t_strong a_t_pad a_t_plan a_t_box a_t_instead a_t_flakes a_t_tired a_t_image a_t_isKept t_signs t_parts t_swings t_saltFirst t_paceOfAll t_ice t_salt t_brine t_cold t_warm t_frozen t_layer t_air t_churned t_held t_heldFirst t_stiffWanted t_stiffFirst t_how t_strong t_plan t_box t_instead t_flakes t_tired) sz) s.heap H locs → lv_has ls 2 [(0, .ref a_t), (1, .int y1)] → W p l e (headSpec wyX9_sand rmX9_sand).room s m ([Value.ref a_t] : List Value).toArray below meth c H locs 0 0 (MQ below (POSTi (dC, dI) R.1 sz (woX9_sand cI cZ a_t a_t_how a_t_strong a_t_pad a_t_plan a_t_box a_t_instead a_t_flakes a_t_tired a_t_image a_t_isKept t_signs t_parts t_swings t_saltFirst t_paceOfAll t_ice t_salt t_brine t_cold t_warm t_frozen t_layer t_air t_churned t_held t_heldFirst t_stiffWanted t_stiffFirst t_how t_strong t_plan t_box t_instead t_flakes t_tired) (woX9_sand cI cZ a_t a_t_how a_t_strong a_t_pad a_t_plan a_t_box a_t_instead a_t_flakes a_t_tired a_t_image a_t_isKept t_signs t_parts t_swings R.2.1 R.2.2.1 R.2.2.2.1 R.2.2.2.2.1 R.2.2.2.2.2.1 R.2.2.2.2.2.2.1 R.2.2.2.2.2.2.2.1 R.2.2.2.2.2.2.2.2.1 R.2.2.2.2.2.2.2.2.2.1 R.2.2.2.2.2.2.2.2.2.2.1 R.2.2.2.2.2.2.2.2.2.2.2.1 R.2.2.2.2.2.2.2.2.2.2.2.2.1 R.2.2.2.2.2.2.2.2.2.2.2.2.2.1 t_stiffWanted R.2.2.2.2.2.2.2.2.2.2.2.2.2.2.1 t_how t_strong t_plan t_box R.2.2.2.2.2.2.2.2.2.2.2.2.2.2.2.1 R.2.2.2.2.2.2.2.2.2.2.2.2.2.2.2.2.1 R.2.2.2.2.2.2.2.2.2.2.2.2.2.2.2.2.2)) ([Value.ref a_t] : List Value).toArray s 0 0 (va_A (woX9_sand cI cZ a_t a_t_how a_t_strong a_t_pad a_t_plan a_t_box a_t_instead a_t_flakes a_t_tired a_t_image a_t_isKept t_signs t_parts t_swings t_saltFirst t_paceOfAll t_ice t_salt t_brine t_cold t_warm t_frozen t_layer t_air t_churned t_held t_heldFirst t_stiffWanted t_stiffFirst t_how t_strong t_plan t_box t_instead t_flakes t_tired) sz)) (F0 m 20 ls []) := by
    intro  fu
    induction fu with
    | zero => intro y1 v_t_saltFirst v_t_paceOfAll v_t_ice v_t_salt v_t_brine v_t_cold v_t_warm v_t_frozen v_t_layer v_t_air v_t_churned v_t_held v_t_heldFirst v_t_stiffFirst v_t_instead v_t_flakes v_t_tired H locs ls hf; cases hf
    | succ fu ih =>
      intro y1 v_t_saltFirst v_t_paceOfAll v_t_ice v_t_salt v_t_brine v_t_cold v_t_warm v_t_frozen v_t_layer v_t_air v_t_churned v_t_held v_t_heldFirst v_t_stiffFirst v_t_instead v_t_flakes v_t_tired H locs ls hf hP hD hS hl
      rw [f_X9_sand_L20] at hf
      refine lv_iload_n hx hb dX9_sand_20 rfl (lv_at hl 1 rfl) ?_
      refine lv_bipush (v := 100) hx hb dX9_sand_21 (by decide) ?_
      refine lv_icmp_ge (tgt := 65) hx hb dX9_sand_23 (by decide) (fun c1 => ?_) (fun c1 => ?_)
      · have hf := (if_pos c1).symm.trans hf
        refine lv_bipush (v := -6) hx hb dX9_sand_65 (by decide) ?_
        have hR := Option.some.inj hf
        rw [← hR]
        exact rt_i hx hb hr hlk hsz hP hD hS rfl rfl dX9_sand_67
      · have hf := (if_neg c1).symm.trans hf
        refine lv_aload_n hx hb dX9_sand_26 rfl (lv_at hl 0 rfl) ?_
        refine lv_aload_n hx hb dX9_sand_27 rfl (lv_at hl 0 rfl) ?_
        refine mg (ci := 9) 0 7 hx hb hG igX9 hown hP rfl rfl (by decide) (wd_3_139 hG.2.1) rfl rfl dX9_sand_28 ?_
        refine lv_iload_n hx hb dX9_sand_31 rfl (lv_at hl 1 rfl) ?_
        refine lv_iconst (v := 1) hx hb dX9_sand_32 (by decide) ?_
        refine lv_isub hx hb dX9_sand_33 ?_
        refine lv_aload_n hx hb dX9_sand_34 rfl (lv_at hl 0 rfl) ?_
        refine mg (ci := 9) 0 6 hx hb hG igX9 hown hP rfl rfl (by decide) (wd_3_138 hG.2.1) rfl rfl dX9_sand_35 ?_
        obtain ⟨g2, hf⟩ := gd_some hf
        refine lv_irem hx hb dX9_sand_38 g2 ?_
        obtain ⟨g3, hf⟩ := gd_some hf
        refine mal 4 hx hb hG hP rfl g3 dX9_sand_39 ?_
        obtain ⟨g40_0, hc40, hf⟩ := bd1_some hf
        refine cl_Vv (b := a_t) (As := [.int (t_box (((y1 - (1 : Int32)) - (y1 - (1 : Int32)) / t_swings * t_swings)).toNatClampNeg)]) (w1 := (woX9_goDay cI cZ a_t a_t_how a_t_strong a_t_pad a_t_plan a_t_box a_t_instead a_t_flakes a_t_tired a_t_image a_t_isKept t_signs t_parts t_swings v_t_saltFirst v_t_paceOfAll v_t_ice v_t_salt v_t_brine v_t_cold v_t_warm v_t_frozen v_t_layer v_t_air v_t_churned v_t_held v_t_heldFirst t_stiffWanted v_t_stiffFirst t_how g40_0)) (wN := (woX9_sand cI cZ a_t a_t_how a_t_strong a_t_pad a_t_plan a_t_box a_t_instead a_t_flakes a_t_tired a_t_image a_t_isKept t_signs t_parts t_swings v_t_saltFirst v_t_paceOfAll v_t_ice v_t_salt v_t_brine v_t_cold v_t_warm v_t_frozen v_t_layer v_t_air v_t_churned v_t_held v_t_heldFirst t_stiffWanted v_t_stiffFirst t_how t_strong t_plan t_box v_t_instead g40_0 v_t_tired)) [0, 1, 6] 0 9 (c_X9_goDay l dC dI cI cZ ts _ a_t a_t_how a_t_strong a_t_pad a_t_plan a_t_box a_t_instead a_t_flakes a_t_tired a_t_image a_t_isKept t_signs t_parts t_swings v_t_saltFirst v_t_paceOfAll v_t_ice v_t_salt v_t_brine v_t_cold v_t_warm v_t_frozen v_t_layer v_t_air v_t_churned v_t_held v_t_heldFirst t_stiffWanted v_t_stiffFirst t_how v_t_flakes (t_box (((y1 - (1 : Int32)) - (y1 - (1 : Int32)) / t_swings * t_swings)).toNatClampNeg) (g40_0) hc40) ⟨hx, hb, hml, hown, hG.2.1.hts _⟩ ⟨callB_of 1 (hG.2.1.hts _) giX9_goDay rfl rfl rfl (wd_1_10 hG.2.1) (wd_4_121 hG.2.1) hd_X9_goDay ⟨Nat.le_of_ble_eq_true rfl, Nat.le_of_ble_eq_true rfl⟩, wd_4_123 hG.2.1, ws_31 hG.2.1⟩ hG hP hD hS rfl rfl rfl rfl rfl rfl rfl rfl hl.1 rfl (Nat.le_of_ble_eq_true rfl) dX9_sand_40 ⟨Nat.zero_le _, Nat.zero_le _⟩ (fun H locs hP hD hS => ?_)
        refine lv_aload_n hx hb dX9_sand_43 rfl (lv_at hl 0 rfl) ?_
        obtain ⟨r44, hc44, hf⟩ := bd1_some hf
        refine cl_Vi (r := r44) (b := a_t) (As := []) (w1 := (woX9_coarse cI cZ a_t a_t_how a_t_strong a_t_pad a_t_plan a_t_box a_t_instead a_t_flakes a_t_tired a_t_image a_t_isKept t_signs t_parts t_swings v_t_saltFirst v_t_paceOfAll v_t_ice v_t_salt v_t_brine v_t_cold v_t_warm v_t_frozen v_t_layer v_t_air v_t_churned v_t_held v_t_heldFirst t_stiffWanted v_t_stiffFirst g40_0)) (wN := (woX9_sand cI cZ a_t a_t_how a_t_strong a_t_pad a_t_plan a_t_box a_t_instead a_t_flakes a_t_tired a_t_image a_t_isKept t_signs t_parts t_swings v_t_saltFirst v_t_paceOfAll v_t_ice v_t_salt v_t_brine v_t_cold v_t_warm v_t_frozen v_t_layer v_t_air v_t_churned v_t_held v_t_heldFirst t_stiffWanted v_t_stiffFirst t_how t_strong t_plan t_box v_t_instead g40_0 v_t_tired)) [0, 6] 0 9 (c_X9_coarse l dC dI cI cZ ts _ a_t a_t_how a_t_strong a_t_pad a_t_plan a_t_box a_t_instead a_t_flakes a_t_tired a_t_image a_t_isKept t_signs t_parts t_swings v_t_saltFirst v_t_paceOfAll v_t_ice v_t_salt v_t_brine v_t_cold v_t_warm v_t_frozen v_t_layer v_t_air v_t_churned v_t_held v_t_heldFirst t_stiffWanted v_t_stiffFirst g40_0 (r44) hc44) ⟨hx, hb, hml, hown, hG.2.1.hts _⟩ ⟨callB_of 0 (hG.2.1.hts _) giX9_coarse rfl rfl rfl (wd_1_10 hG.2.1) (wd_4_73 hG.2.1) hd_X9_coarse ⟨Nat.le_of_ble_eq_true rfl, Nat.le_of_ble_eq_true rfl⟩, wd_4_75 hG.2.1, ws_28 hG.2.1⟩ hG hP hD hS rfl rfl rfl rfl rfl rfl rfl rfl hl.1 rfl (Nat.le_of_ble_eq_true rfl) dX9_sand_44 ⟨Nat.zero_le _, Nat.zero_le _⟩ (fun H locs hP hD hS => ?_)
        refine lv_aload_n hx hb dX9_sand_47 rfl (lv_at hl 0 rfl) ?_
        refine mg (ci := 9) 0 0 hx hb hG igX9 hown hP rfl rfl (by decide) (wd_3_132 hG.2.1) rfl rfl dX9_sand_48 ?_
        refine lv_bipush (v := 6) hx hb dX9_sand_51 (by decide) ?_
        obtain ⟨g4, hf⟩ := gd_some hf
        refine mal 1 hx hb hG hP rfl g4 dX9_sand_53 ?_
        refine lv_icmp_lt (tgt := 59) hx hb dX9_sand_54 (by decide) (fun c5 => ?_) (fun c5 => ?_)
        · have hf := (if_pos c5).symm.trans hf
          refine lv_iinc (v := (y1 + (1 : Int32))) (lv' := [(1, .int (y1 + (1 : Int32))), (0, .ref a_t)]) hx hb dX9_sand_59 hl (k := 1) rfl rfl (by decide) rfl (fun ls hl => ?_)
          refine lv_goto (tgt := 20) hx hb dX9_sand_62 (by decide) ?_
          exact ih (y1 + (1 : Int32)) v_t_saltFirst v_t_paceOfAll v_t_ice v_t_salt v_t_brine v_t_cold v_t_warm v_t_frozen v_t_layer v_t_air v_t_churned v_t_held v_t_heldFirst v_t_stiffFirst v_t_instead g40_0 v_t_tired _ _ _ hf hP hD hS (lv_sub hl [1, 0] rfl)
        · have hf := (if_neg c5).symm.trans hf
          refine lv_iload_n hx hb dX9_sand_57 rfl (lv_at hl 1 rfl) ?_
          have hR := Option.some.inj hf
          rw [← hR]
          exact rt_i hx hb hr hlk hsz hP hD hS rfl rfl dX9_sand_58
  have hl := lv_entry ([.ref a_t]) (n := 2) (Nat.le_of_ble_eq_true rfl)
  rw [lg_entry_eq]
  generalize (lg_sl ([.ref a_t]) ++ List.replicate (2 - (lg_sl ([.ref a_t])).length) Slot.unset).toArray = ls at hl ⊢
  have hl : lv_has ls 2 [(0, .ref a_t)] := hl
  unfold f_X9_sand at hf
  refine lv_aload_n hx hb dX9_sand_0 rfl (lv_at hl 0 rfl) ?_
  refine mg (ci := 9) 0 6 hx hb hG igX9 hown hP rfl rfl (by decide) (wd_3_138 hG.2.1) rfl rfl dX9_sand_1 ?_
  refine lv_if_ne (tgt := 10) hx hb dX9_sand_4 (by decide) (fun c6 => ?_) (fun c6 => ?_)
  · have hf := (if_neg c6).symm.trans hf
    refine lv_aload_n hx hb dX9_sand_10 rfl (lv_at hl 0 rfl) ?_
    refine lv_aload_n hx hb dX9_sand_11 rfl (lv_at hl 0 rfl) ?_
    obtain ⟨r12, hc12, hf⟩ := bd1_some hf
    refine cl_Vi (r := r12) (b := a_t) (As := []) (w1 := (woX9_minutesOf cI cZ a_t a_t_how a_t_strong a_t_pad a_t_plan a_t_box a_t_instead a_t_flakes a_t_tired a_t_image a_t_isKept t_signs t_parts t_swings t_saltFirst t_paceOfAll t_ice t_salt t_brine t_cold t_warm t_frozen t_layer t_air t_churned t_held t_heldFirst t_stiffWanted t_stiffFirst t_plan)) (wN := (woX9_sand cI cZ a_t a_t_how a_t_strong a_t_pad a_t_plan a_t_box a_t_instead a_t_flakes a_t_tired a_t_image a_t_isKept t_signs t_parts t_swings t_saltFirst t_paceOfAll t_ice t_salt t_brine t_cold t_warm t_frozen t_layer t_air t_churned t_held t_heldFirst t_stiffWanted t_stiffFirst t_how t_strong t_plan t_box t_instead t_flakes t_tired)) [0, 3] 0 9 (c_X9_minutesOf l dC dI cI cZ ts _ a_t a_t_how a_t_strong a_t_pad a_t_plan a_t_box a_t_instead a_t_flakes a_t_tired a_t_image a_t_isKept t_signs t_parts t_swings t_saltFirst t_paceOfAll t_ice t_salt t_brine t_cold t_warm t_frozen t_layer t_air t_churned t_held t_heldFirst t_stiffWanted t_stiffFirst t_plan (r12) hc12) ⟨hx, hb, hml, hown, hG.2.1.hts _⟩ ⟨callB_of 0 (hG.2.1.hts _) giX9_minutesOf rfl rfl rfl (wd_1_10 hG.2.1) (wd_4_25 hG.2.1) hd_X9_minutesOf ⟨Nat.le_of_ble_eq_true rfl, Nat.le_of_ble_eq_true rfl⟩, wd_4_27 hG.2.1, ws_17 hG.2.1⟩ hG hP hD hS rfl rfl rfl rfl rfl rfl rfl rfl hl.1 rfl (Nat.le_of_ble_eq_true rfl) dX9_sand_12 ⟨Nat.zero_le _, Nat.zero_le _⟩ (fun H locs hP hD hS => ?_)
    obtain ⟨g15_0, g15_1, g15_2, g15_3, g15_4, g15_5, g15_6, g15_7, g15_8, g15_9, g15_10, g15_11, g15_12, g15_13, g15_14, g15_15, g15_16, hc15, hf⟩ := bd17_some hf
    refine cl_Vv (b := a_t) (As := [.int r12]) (w1 := (woX9_runTold cI cZ a_t a_t_how a_t_strong a_t_pad a_t_plan a_t_box a_t_instead a_t_flakes a_t_tired a_t_image a_t_isKept t_signs t_parts t_swings g15_0 g15_1 g15_2 g15_3 g15_4 g15_5 g15_6 g15_7 g15_8 g15_9 g15_10 g15_11 g15_12 t_stiffWanted g15_13 t_how t_strong t_plan g15_14 g15_15 g15_16)) (wN := (woX9_sand cI cZ a_t a_t_how a_t_strong a_t_pad a_t_plan a_t_box a_t_instead a_t_flakes a_t_tired a_t_image a_t_isKept t_signs t_parts t_swings g15_0 g15_1 g15_2 g15_3 g15_4 g15_5 g15_6 g15_7 g15_8 g15_9 g15_10 g15_11 g15_12 t_stiffWanted g15_13 t_how t_strong t_plan t_box g15_14 g15_15 g15_16)) [0, 1, 2, 3, 5, 6, 7] 0 9 (c_X9_runTold l dC dI cI cZ ts _ a_t a_t_how a_t_strong a_t_pad a_t_plan a_t_box a_t_instead a_t_flakes a_t_tired a_t_image a_t_isKept t_signs t_parts t_swings t_saltFirst t_paceOfAll t_ice t_salt t_brine t_cold t_warm t_frozen t_layer t_air t_churned t_held t_heldFirst t_stiffWanted t_stiffFirst t_how t_strong t_plan t_instead t_flakes t_tired r12 (g15_0, g15_1, g15_2, g15_3, g15_4, g15_5, g15_6, g15_7, g15_8, g15_9, g15_10, g15_11, g15_12, g15_13, g15_14, g15_15, g15_16) hc15) ⟨hx, hb, hml, hown, hG.2.1.hts _⟩ ⟨callB_of 1 (hG.2.1.hts _) giX9_runTold rfl rfl rfl (wd_1_10 hG.2.1) (wd_4_33 hG.2.1) hd_X9_runTold ⟨Nat.le_of_ble_eq_true rfl, Nat.le_of_ble_eq_true rfl⟩, wd_4_35 hG.2.1, ws_18 hG.2.1⟩ hG hP hD hS rfl rfl rfl rfl rfl rfl rfl rfl hl.1 rfl (Nat.le_of_ble_eq_true rfl) dX9_sand_15 ⟨Nat.zero_le _, Nat.zero_le _⟩ (fun H locs hP hD hS => ?_)
    refine lv_iconst (v := 1) hx hb dX9_sand_18 (by decide) ?_
    refine lv_istore_n (lv' := [(1, .int (1 : Int32)), (0, .ref a_t)]) hx hb dX9_sand_19 rfl hl (by decide) rfl (fun ls hl => ?_)
    exact L20 FU (1 : Int32) g15_0 g15_1 g15_2 g15_3 g15_4 g15_5 g15_6 g15_7 g15_8 g15_9 g15_10 g15_11 g15_12 g15_13 g15_14 g15_15 g15_16 _ _ _ hf hP hD hS (lv_sub hl [1, 0] rfl)
  · have hf := (if_pos c6).symm.trans hf
    refine lv_bipush (v := -3) hx hb dX9_sand_7 (by decide) ?_
    have hR := Option.some.inj hf
    rw [← hR]
    exact rt_i hx hb hr hlk hsz hP hD hS rfl rfl dX9_sand_9
abbrev woX9_iceAt (cI cZ : ClassId) (a_t a_t_how a_t_strong a_t_pad a_t_plan a_t_box a_t_instead a_t_flakes a_t_tired a_t_image a_t_isKept : Nat) (t_signs : Int32) (t_parts : Int32) (t_swings : Int32) (t_saltFirst : Int32) (t_paceOfAll : Int32) (t_ice : Int32) (t_salt : Int32) (t_brine : Int32) (t_cold : Int32) (t_warm : Int32) (t_frozen : Int32) (t_layer : Int32) (t_air : Int32) (t_churned : Int32) (t_held : Int32) (t_heldFirst : Int32) (t_stiffWanted : Int32) (t_stiffFirst : Int32) (t_how : Nat → Int32) : va_W := [(a_t, .inr (9, [.ref a_t_how, .ref a_t_strong, .int t_signs, .ref a_t_pad, .int t_parts, .ref a_t_plan, .int t_swings, .ref a_t_box, .ref a_t_instead, .int t_saltFirst, .int t_paceOfAll, .int t_ice, .int t_salt, .int t_brine, .int t_cold, .int t_warm, .int t_frozen, .int t_layer, .int t_air, .int t_churned, .ref a_t_flakes, .ref a_t_tired, .int t_held, .int t_heldFirst, .int t_stiffWanted, .int t_stiffFirst, .ref a_t_image, .ref a_t_isKept])), (a_t_how, .inl (cI, 8, .inl t_how))]
abbrev rmX9_iceAt : Room := { frames := 1, cells := 0, slots := 0, locals := 22 }
theorem hd_X9_iceAt : yX9_iceAt.cls ≠ "java/lang/invoke/MethodHandle" ∧ yX9_iceAt.cls ≠ "java/lang/invoke/VarHandle" ∧ (parseMethodDescriptor yX9_iceAt.desc).map (fun d => d.parameters.length) = some 2 := by decide +kernel
set_option maxHeartbeats 4000000 in
set_option maxRecDepth 100000 in
theorem c_X9_iceAt (l : Launch) (dC : Nat → ClassId) (dI : Nat → Nat → Nat) (cI cZ : ClassId) (ts : Nat → Nat) (sz : Nat) (a_t a_t_how a_t_strong a_t_pad a_t_plan a_t_box a_t_instead a_t_flakes a_t_tired a_t_image a_t_isKept : Nat) (t_signs : Int32) (t_parts : Int32) (t_swings : Int32) (t_saltFirst : Int32) (t_paceOfAll : Int32) (t_ice : Int32) (t_salt : Int32) (t_brine : Int32) (t_cold : Int32) (t_warm : Int32) (t_frozen : Int32) (t_layer : Int32) (t_air : Int32) (t_churned : Int32) (t_held : Int32) (t_heldFirst : Int32) (t_stiffWanted : Int32) (t_stiffFirst : Int32) (t_how : Nat → Int32) (x1 : Int32) (x2 : Int32) (R : Int64) (hf : f_X9_iceAt t_how x1 x2 = some R) : Met l yX9_iceAt wyX9_iceAt rmX9_iceAt (PRE (dC, dI) cI cZ ts [.ref a_t, .int x1, .int x2] sz (woX9_iceAt cI cZ a_t a_t_how a_t_strong a_t_pad a_t_plan a_t_box a_t_instead a_t_flakes a_t_tired a_t_image a_t_isKept t_signs t_parts t_swings t_saltFirst t_paceOfAll t_ice t_salt t_brine t_cold t_warm t_frozen t_layer t_air t_churned t_held t_heldFirst t_stiffWanted t_stiffFirst t_how)) (POSTl (dC, dI) R sz (woX9_iceAt cI cZ a_t a_t_how a_t_strong a_t_pad a_t_plan a_t_box a_t_instead a_t_flakes a_t_tired a_t_image a_t_isKept t_signs t_parts t_swings t_saltFirst t_paceOfAll t_ice t_salt t_brine t_cold t_warm t_frozen t_layer t_air t_churned t_held t_heldFirst t_stiffWanted t_stiffFirst t_how) (woX9_iceAt cI cZ a_t a_t_how a_t_strong a_t_pad a_t_plan a_t_box a_t_instead a_t_flakes a_t_tired a_t_image a_t_isKept t_signs t_parts t_swings t_saltFirst t_paceOfAll t_ice t_salt t_brine t_cold t_warm t_frozen t_layer t_air t_churned t_held t_heldFirst t_stiffWanted t_stiffFirst t_how)) 0 0 (va_A (woX9_iceAt cI cZ a_t a_t_how a_t_strong a_t_pad a_t_plan a_t_box a_t_instead a_t_flakes a_t_tired a_t_image a_t_isKept t_signs t_parts t_swings t_saltFirst t_paceOfAll t_ice t_salt t_brine t_cold t_warm t_frozen t_layer t_air t_churned t_held t_heldFirst t_stiffWanted t_stiffFirst t_how) sz) := by
  refine Met.ofW (cc := cX9_iceAt) (maxL := 7) (ret := (some .long)) (by decide) rfl ?_
  intro p e s m args below meth c s₁ B hml hv
  obtain ⟨rfl, hv⟩ := hv
  have hG := hg_of hv
  obtain ⟨hsz, hP, -, hD0, -⟩ := hv
  have hx := B.exec
  have hb := B.bytes
  have hr := B.returns
  have hlk := B.notSynchronized
  have hown : s.vm.findClass RX9 = some m.cls := findClass_of_methodNamed B.named
  have hD := hD0.self (sz := sz)
  have hS : va_S (va_A (woX9_iceAt cI cZ a_t a_t_how a_t_strong a_t_pad a_t_plan a_t_box a_t_instead a_t_flakes a_t_tired a_t_image a_t_isKept t_signs t_parts t_swings t_saltFirst t_paceOfAll t_ice t_salt t_brine t_cold t_warm t_frozen t_layer t_air t_churned t_held t_heldFirst t_stiffWanted t_stiffFirst t_how) sz) s.heap s.heap [] := va_S.rf
  have L63 : ∀ (fu : Nat) (y1 : Int32) (y2 : Int32) (y3 : Int32) (y4 : Int32) (y5 : Int32) (H : Heap) (locs : List Loc) (ls : Array Slot), f_X9_iceAt_L63 t_how fu y1 y2 y3 y4 y5 = some R → va_P (dC, dI) vwCl (woX9_iceAt cI cZ a_t a_t_how a_t_strong a_t_pad a_t_plan a_t_box a_t_instead a_t_flakes a_t_tired a_t_image a_t_isKept t_signs t_parts t_swings t_saltFirst t_paceOfAll t_ice t_salt t_brine t_cold t_warm t_frozen t_layer t_air t_churned t_held t_heldFirst t_stiffWanted t_stiffFirst t_how) H → va_D (va_A (woX9_iceAt cI cZ a_t a_t_how a_t_strong a_t_pad a_t_plan a_t_box a_t_instead a_t_flakes a_t_tired a_t_image a_t_isKept t_signs t_parts t_swings t_saltFirst t_paceOfAll t_ice t_salt t_brine t_cold t_warm t_frozen t_layer t_air t_churned t_held t_heldFirst t_stiffWanted t_stiffFirst t_how) sz) (woX9_iceAt cI cZ a_t a_t_how a_t_strong a_t_pad a_t_plan a_t_box a_t_instead a_t_flakes a_t_tired a_t_image a_t_isKept t_signs t_parts t_swings t_saltFirst t_paceOfAll t_ice t_salt t_brine t_cold t_warm t_frozen t_layer t_air t_churned t_held t_heldFirst t_stiffWanted t_stiffFirst t_how) → va_S (va_A (woX9_iceAt cI cZ a_t a_t_how a_t_strong a_t_pad a_t_plan a_t_box a_t_instead a_t_flakes a_t_tired a_t_image a_t_isKept t_signs t_parts t_swings t_saltFirst t_paceOfAll t_ice t_salt t_brine t_cold t_warm t_frozen t_layer t_air t_churned t_held t_heldFirst t_stiffWanted t_stiffFirst t_how) sz) s.heap H locs → lv_has ls 7 [(0, .ref a_t), (1, .int y1), (2, .int y2), (3, .int y3), (4, .int y4), (5, .int y5)] → W p l e (headSpec wyX9_iceAt rmX9_iceAt).room s m ([Value.ref a_t, Value.int x1, Value.int x2] : List Value).toArray below meth c H locs 0 0 (MQ below (POSTl (dC, dI) R sz (woX9_iceAt cI cZ a_t a_t_how a_t_strong a_t_pad a_t_plan a_t_box a_t_instead a_t_flakes a_t_tired a_t_image a_t_isKept t_signs t_parts t_swings t_saltFirst t_paceOfAll t_ice t_salt t_brine t_cold t_warm t_frozen t_layer t_air t_churned t_held t_heldFirst t_stiffWanted t_stiffFirst t_how) (woX9_iceAt cI cZ a_t a_t_how a_t_strong a_t_pad a_t_plan a_t_box a_t_instead a_t_flakes a_t_tired a_t_image a_t_isKept t_signs t_parts t_swings t_saltFirst t_paceOfAll t_ice t_salt t_brine t_cold t_warm t_frozen t_layer t_air t_churned t_held t_heldFirst t_stiffWanted t_stiffFirst t_how)) ([Value.ref a_t, Value.int x1, Value.int x2] : List Value).toArray s 0 0 (va_A (woX9_iceAt cI cZ a_t a_t_how a_t_strong a_t_pad a_t_plan a_t_box a_t_instead a_t_flakes a_t_tired a_t_image a_t_isKept t_signs t_parts t_swings t_saltFirst t_paceOfAll t_ice t_salt t_brine t_cold t_warm t_frozen t_layer t_air t_churned t_held t_heldFirst t_stiffWanted t_stiffFirst t_how) sz)) (F0 m 63 ls []) := by
    intro  fu
    induction fu with
    | zero => intro y1 y2 y3 y4 y5 H locs ls hf; cases hf
    | succ fu ih =>
      intro y1 y2 y3 y4 y5 H locs ls hf hP hD hS hl
      rw [f_X9_iceAt_L63] at hf
      refine lv_iload hx hb dX9_iceAt_63 (lv_at hl 5 rfl) ?_
      refine lv_if_eq (tgt := 86) hx hb dX9_iceAt_65 (by decide) (fun c1 => ?_) (fun c1 => ?_)
      · have hf := (if_pos c1).symm.trans hf
        refine lv_iload_n hx hb dX9_iceAt_86 rfl (lv_at hl 2 rfl) ?_
        refine lv_if_ne (tgt := 98) hx hb dX9_iceAt_87 (by decide) (fun c2 => ?_) (fun c2 => ?_)
        · have hf := (if_neg c2).symm.trans hf
          refine lv_iload_n hx hb dX9_iceAt_98 rfl (lv_at hl 1 rfl) ?_
          refine lv_aload_n hx hb dX9_iceAt_99 rfl (lv_at hl 0 rfl) ?_
          refine mg (ci := 9) 0 0 hx hb hG igX9 hown hP rfl rfl (by decide) (wd_3_132 hG.2.1) rfl rfl dX9_iceAt_100 ?_
          refine lv_iconst (v := 2) hx hb dX9_iceAt_103 (by decide) ?_
          obtain ⟨g3, hf⟩ := gd_some hf
          refine mal 1 hx hb hG hP rfl g3 dX9_iceAt_104 ?_
          refine lv_imul hx hb dX9_iceAt_105 ?_
          refine lv_iload hx hb dX9_iceAt_106 (lv_at hl 4 rfl) ?_
          obtain ⟨g4, hf⟩ := gd_some hf
          refine lv_idiv hx hb dX9_iceAt_108 g4 ?_
          refine lv_i2l (v := (((y1 * (t_how ((2 : Int32)).toNatClampNeg)) / y4)).toInt64) hx hb dX9_iceAt_109 rfl ?_
          have hR := Option.some.inj hf
          rw [← hR]
          exact rt_l hx hb hr hlk hsz hP hD hS rfl rfl dX9_iceAt_110
        · have hf := (if_pos c2).symm.trans hf
          refine lv_iload_n hx hb dX9_iceAt_90 rfl (lv_at hl 3 rfl) ?_
          refine lv_iload hx hb dX9_iceAt_91 (lv_at hl 4 rfl) ?_
          obtain ⟨g5, hf⟩ := gd_some hf
          refine lv_idiv hx hb dX9_iceAt_93 g5 ?_
          refine lv_i2l (v := ((y3 / y4)).toInt64) hx hb dX9_iceAt_94 rfl ?_
          refine lv_goto (tgt := 110) hx hb dX9_iceAt_95 (by decide) ?_
          have hR := Option.some.inj hf
          rw [← hR]
          exact rt_l hx hb hr hlk hsz hP hD hS rfl rfl dX9_iceAt_110
      · have hf := (if_neg c1).symm.trans hf
        refine lv_iload hx hb dX9_iceAt_68 (lv_at hl 4 rfl) ?_
        refine lv_iload hx hb dX9_iceAt_70 (lv_at hl 5 rfl) ?_
        obtain ⟨g6, hf⟩ := gd_some hf
        refine lv_irem hx hb dX9_iceAt_72 g6 ?_
        refine lv_istore (lv' := [(6, .int (y4 - y4 / y5 * y5)), (0, .ref a_t), (1, .int y1), (2, .int y2), (3, .int y3), (4, .int y4), (5, .int y5)]) hx hb dX9_iceAt_73 hl (by decide) rfl (fun ls hl => ?_)
        refine lv_iload hx hb dX9_iceAt_75 (lv_at hl 6 rfl) ?_
        refine lv_istore (lv' := [(4, .int y5), (6, .int (y4 - y4 / y5 * y5)), (0, .ref a_t), (1, .int y1), (2, .int y2), (3, .int y3), (5, .int y5)]) hx hb dX9_iceAt_77 hl (by decide) rfl (fun ls hl => ?_)
        refine lv_iload hx hb dX9_iceAt_79 (lv_at hl 1 rfl) ?_
        refine lv_istore (lv' := [(5, .int (y4 - y4 / y5 * y5)), (4, .int y5), (6, .int (y4 - y4 / y5 * y5)), (0, .ref a_t), (1, .int y1), (2, .int y2), (3, .int y3)]) hx hb dX9_iceAt_81 hl (by decide) rfl (fun ls hl => ?_)
        refine lv_goto (tgt := 63) hx hb dX9_iceAt_83 (by decide) ?_
        exact ih y1 y2 y3 y5 (y4 - y4 / y5 * y5) _ _ _ hf hP hD hS (lv_sub hl [3, 4, 5, 6, 1, 0] rfl)
  have hl := lv_entry ([.ref a_t, .int x1, .int x2]) (n := 7) (Nat.le_of_ble_eq_true rfl)
  rw [lg_entry_eq]
  generalize (lg_sl ([.ref a_t, .int x1, .int x2]) ++ List.replicate (7 - (lg_sl ([.ref a_t, .int x1, .int x2])).length) Slot.unset).toArray = ls at hl ⊢
  have hl : lv_has ls 7 [(0, .ref a_t), (1, .int x1), (2, .int x2)] := hl
  unfold f_X9_iceAt at hf
  refine lv_iload_n hx hb dX9_iceAt_0 rfl (lv_at hl 1 rfl) ?_
  refine lv_iconst (v := 1) hx hb dX9_iceAt_1 (by decide) ?_
  refine lv_sipush (v := 300) hx hb dX9_iceAt_2 (by decide) ?_
  obtain ⟨r5, hc5, hf⟩ := bd1_some hf
  refine cl_Si (r := r5) (As := [.int x1, .int (1 : Int32), .int (300 : Int32)]) (w1 := []) (wN := (woX9_iceAt cI cZ a_t a_t_how a_t_strong a_t_pad a_t_plan a_t_box a_t_instead a_t_flakes a_t_tired a_t_image a_t_isKept t_signs t_parts t_swings t_saltFirst t_paceOfAll t_ice t_salt t_brine t_cold t_warm t_frozen t_layer t_air t_churned t_held t_heldFirst t_stiffWanted t_stiffFirst t_how)) [] 0 0 (c_X9_in l dC dI cI cZ ts _ x1 (1 : Int32) (300 : Int32) (r5) hc5) ⟨hx, hb, hml, hown, hG.2.1.hts _⟩ ⟨callB_of 3 (hG.2.1.hts _) giX9_in rfl rfl rfl (wd_1_10 hG.2.1) (wd_3_222 hG.2.1) hd_X9_in ⟨Nat.le_of_ble_eq_true rfl, Nat.le_of_ble_eq_true rfl⟩, wd_3_223 hG.2.1⟩ hG hP hD hS rfl rfl rfl rfl rfl hl.1 rfl (Nat.le_of_ble_eq_true rfl) dX9_iceAt_5 ⟨Nat.zero_le _, Nat.zero_le _⟩ (fun H locs hP hD hS => ?_)
  refine lv_if_eq (tgt := 20) hx hb dX9_iceAt_8 (by decide) (fun c7 => ?_) (fun c7 => ?_)
  · have hf := (if_pos c7).symm.trans hf
    refine lv_ldc2 (v := -1000000000000000002) hx hb hown (wd_4_137 hG.2.1) dX9_iceAt_20 ?_
    have hR := Option.some.inj hf
    rw [← hR]
    exact rt_l hx hb hr hlk hsz hP hD hS rfl rfl dX9_iceAt_23
  · have hf := (if_neg c7).symm.trans hf
    refine lv_iload_n hx hb dX9_iceAt_11 rfl (lv_at hl 2 rfl) ?_
    refine lv_iconst (v := 0) hx hb dX9_iceAt_12 (by decide) ?_
    refine lv_iconst (v := 1) hx hb dX9_iceAt_13 (by decide) ?_
    obtain ⟨r14, hc14, hf⟩ := bd1_some hf
    refine cl_Si (r := r14) (As := [.int x2, .int (0 : Int32), .int (1 : Int32)]) (w1 := []) (wN := (woX9_iceAt cI cZ a_t a_t_how a_t_strong a_t_pad a_t_plan a_t_box a_t_instead a_t_flakes a_t_tired a_t_image a_t_isKept t_signs t_parts t_swings t_saltFirst t_paceOfAll t_ice t_salt t_brine t_cold t_warm t_frozen t_layer t_air t_churned t_held t_heldFirst t_stiffWanted t_stiffFirst t_how)) [] 0 0 (c_X9_in l dC dI cI cZ ts _ x2 (0 : Int32) (1 : Int32) (r14) hc14) ⟨hx, hb, hml, hown, hG.2.1.hts _⟩ ⟨callB_of 3 (hG.2.1.hts _) giX9_in rfl rfl rfl (wd_1_10 hG.2.1) (wd_3_222 hG.2.1) hd_X9_in ⟨Nat.le_of_ble_eq_true rfl, Nat.le_of_ble_eq_true rfl⟩, wd_3_223 hG.2.1⟩ hG hP hD hS rfl rfl rfl rfl rfl hl.1 rfl (Nat.le_of_ble_eq_true rfl) dX9_iceAt_14 ⟨Nat.zero_le _, Nat.zero_le _⟩ (fun H locs hP hD hS => ?_)
    refine lv_if_ne (tgt := 24) hx hb dX9_iceAt_17 (by decide) (fun c8 => ?_) (fun c8 => ?_)
    · have hf := (if_neg c8).symm.trans hf
      refine lv_iload_n hx hb dX9_iceAt_24 rfl (lv_at hl 1 rfl) ?_
      refine lv_aload_n hx hb dX9_iceAt_25 rfl (lv_at hl 0 rfl) ?_
      refine mg (ci := 9) 0 0 hx hb hG igX9 hown hP rfl rfl (by decide) (wd_3_132 hG.2.1) rfl rfl dX9_iceAt_26 ?_
      refine lv_iconst (v := 2) hx hb dX9_iceAt_29 (by decide) ?_
      obtain ⟨g9, hf⟩ := gd_some hf
      refine mal 1 hx hb hG hP rfl g9 dX9_iceAt_30 ?_
      refine lv_imul hx hb dX9_iceAt_31 ?_
      refine lv_bipush (v := 54) hx hb dX9_iceAt_32 (by decide) ?_
      refine lv_aload_n hx hb dX9_iceAt_34 rfl (lv_at hl 0 rfl) ?_
      refine mg (ci := 9) 0 0 hx hb hG igX9 hown hP rfl rfl (by decide) (wd_3_132 hG.2.1) rfl rfl dX9_iceAt_35 ?_
      refine lv_iconst (v := 3) hx hb dX9_iceAt_38 (by decide) ?_
      obtain ⟨g10, hf⟩ := gd_some hf
      refine mal 1 hx hb hG hP rfl g10 dX9_iceAt_39 ?_
      refine lv_imul hx hb dX9_iceAt_40 ?_
      refine lv_isub hx hb dX9_iceAt_41 ?_
      refine lv_istore_n (lv' := [(3, .int ((x1 * (t_how ((2 : Int32)).toNatClampNeg)) - ((54 : Int32) * (t_how ((3 : Int32)).toNatClampNeg)))), (0, .ref a_t), (1, .int x1), (2, .int x2)]) hx hb dX9_iceAt_42 rfl hl (by decide) rfl (fun ls hl => ?_)
      refine lv_iload_n hx hb dX9_iceAt_43 rfl (lv_at hl 0 rfl) ?_
      refine lv_if_gt (tgt := 50) hx hb dX9_iceAt_44 (by decide) (fun c11 => ?_) (fun c11 => ?_)
      · have hf := (if_pos c11).symm.trans hf
        refine lv_iload_n hx hb dX9_iceAt_50 rfl (lv_at hl 0 rfl) ?_
        refine lv_istore (lv' := [(4, .int ((x1 * (t_how ((2 : Int32)).toNatClampNeg)) - ((54 : Int32) * (t_how ((3 : Int32)).toNatClampNeg)))), (3, .int ((x1 * (t_how ((2 : Int32)).toNatClampNeg)) - ((54 : Int32) * (t_how ((3 : Int32)).toNatClampNeg)))), (0, .ref a_t), (1, .int x1), (2, .int x2)]) hx hb dX9_iceAt_51 hl (by decide) rfl (fun ls hl => ?_)
        refine lv_iload_n hx hb dX9_iceAt_53 rfl (lv_at hl 3 rfl) ?_
        refine lv_aload_n hx hb dX9_iceAt_54 rfl (lv_at hl 2 rfl) ?_
        refine mg (ci := 9) 0 0 hx hb hG igX9 hown hP rfl rfl (by decide) (wd_3_132 hG.2.1) rfl rfl dX9_iceAt_55 ?_
        refine lv_iconst (v := 2) hx hb dX9_iceAt_58 (by decide) ?_
        obtain ⟨g12, hf⟩ := gd_some hf
        refine mal 1 hx hb hG hP rfl g12 dX9_iceAt_59 ?_
        refine lv_imul hx hb dX9_iceAt_60 ?_
        refine lv_istore (lv' := [(5, .int (x1 * (t_how ((2 : Int32)).toNatClampNeg))), (4, .int ((x1 * (t_how ((2 : Int32)).toNatClampNeg)) - ((54 : Int32) * (t_how ((3 : Int32)).toNatClampNeg)))), (3, .int ((x1 * (t_how ((2 : Int32)).toNatClampNeg)) - ((54 : Int32) * (t_how ((3 : Int32)).toNatClampNeg)))), (0, .ref a_t), (1, .int x1), (2, .int x2)]) hx hb dX9_iceAt_61 hl (by decide) rfl (fun ls hl => ?_)
        exact L63 FU x1 x2 ((x1 * (t_how ((2 : Int32)).toNatClampNeg)) - ((54 : Int32) * (t_how ((3 : Int32)).toNatClampNeg))) ((x1 * (t_how ((2 : Int32)).toNatClampNeg)) - ((54 : Int32) * (t_how ((3 : Int32)).toNatClampNeg))) (x1 * (t_how ((2 : Int32)).toNatClampNeg)) _ _ _ hf hP hD hS (lv_sub hl [3, 4, 5, 2, 1, 0] rfl)
      · have hf := (if_neg c11).symm.trans hf
        refine lv_iload_n hx hb dX9_iceAt_47 rfl (lv_at hl 3 rfl) ?_
        refine lv_i2l (v := (x2).toInt64) hx hb dX9_iceAt_48 rfl ?_
        have hR := Option.some.inj hf
        rw [← hR]
        exact rt_l hx hb hr hlk hsz hP hD hS rfl rfl dX9_iceAt_49
    · have hf := (if_pos c8).symm.trans hf
      refine lv_ldc2 (v := -1000000000000000002) hx hb hown (wd_4_137 hG.2.1) dX9_iceAt_20 ?_
      have hR := Option.some.inj hf
      rw [← hR]
      exact rt_l hx hb hr hlk hsz hP hD hS rfl rfl dX9_iceAt_23
abbrev woX9_isSoft (cI cZ : ClassId) (a_t a_t_how a_t_strong a_t_pad a_t_plan a_t_box a_t_instead a_t_flakes a_t_tired a_t_image a_t_isKept : Nat) (t_signs : Int32) (t_parts : Int32) (t_swings : Int32) (t_saltFirst : Int32) (t_paceOfAll : Int32) (t_ice : Int32) (t_salt : Int32) (t_brine : Int32) (t_cold : Int32) (t_warm : Int32) (t_frozen : Int32) (t_layer : Int32) (t_air : Int32) (t_churned : Int32) (t_held : Int32) (t_heldFirst : Int32) (t_stiffWanted : Int32) (t_stiffFirst : Int32) (t_how : Nat → Int32) : va_W := [(a_t, .inr (9, [.ref a_t_how, .ref a_t_strong, .int t_signs, .ref a_t_pad, .int t_parts, .ref a_t_plan, .int t_swings, .ref a_t_box, .ref a_t_instead, .int t_saltFirst, .int t_paceOfAll, .int t_ice, .int t_salt, .int t_brine, .int t_cold, .int t_warm, .int t_frozen, .int t_layer, .int t_air, .int t_churned, .ref a_t_flakes, .ref a_t_tired, .int t_held, .int t_heldFirst, .int t_stiffWanted, .int t_stiffFirst, .ref a_t_image, .ref a_t_isKept])), (a_t_how, .inl (cI, 8, .inl t_how))]
abbrev rmX9_isSoft : Room := { frames := 0, cells := 0, slots := 0, locals := 0 }
theorem hd_X9_isSoft : yX9_isSoft.cls ≠ "java/lang/invoke/MethodHandle" ∧ yX9_isSoft.cls ≠ "java/lang/invoke/VarHandle" ∧ (parseMethodDescriptor yX9_isSoft.desc).map (fun d => d.parameters.length) = some 2 := by decide +kernel
set_option maxHeartbeats 4000000 in
set_option maxRecDepth 100000 in
theorem c_X9_isSoft (l : Launch) (dC : Nat → ClassId) (dI : Nat → Nat → Nat) (cI cZ : ClassId) (ts : Nat → Nat) (sz : Nat) (a_t a_t_how a_t_strong a_t_pad a_t_plan a_t_box a_t_instead a_t_flakes a_t_tired a_t_image a_t_isKept : Nat) (t_signs : Int32) (t_parts : Int32) (t_swings : Int32) (t_saltFirst : Int32) (t_paceOfAll : Int32) (t_ice : Int32) (t_salt : Int32) (t_brine : Int32) (t_cold : Int32) (t_warm : Int32) (t_frozen : Int32) (t_layer : Int32) (t_air : Int32) (t_churned : Int32) (t_held : Int32) (t_heldFirst : Int32) (t_stiffWanted : Int32) (t_stiffFirst : Int32) (t_how : Nat → Int32) (x1 : Int32) (x2 : Int32) (R : Int32) (hf : f_X9_isSoft t_how x1 x2 = some R) : Met l yX9_isSoft wyX9_isSoft rmX9_isSoft (PRE (dC, dI) cI cZ ts [.ref a_t, .int x1, .int x2] sz (woX9_isSoft cI cZ a_t a_t_how a_t_strong a_t_pad a_t_plan a_t_box a_t_instead a_t_flakes a_t_tired a_t_image a_t_isKept t_signs t_parts t_swings t_saltFirst t_paceOfAll t_ice t_salt t_brine t_cold t_warm t_frozen t_layer t_air t_churned t_held t_heldFirst t_stiffWanted t_stiffFirst t_how)) (POSTi (dC, dI) R sz (woX9_isSoft cI cZ a_t a_t_how a_t_strong a_t_pad a_t_plan a_t_box a_t_instead a_t_flakes a_t_tired a_t_image a_t_isKept t_signs t_parts t_swings t_saltFirst t_paceOfAll t_ice t_salt t_brine t_cold t_warm t_frozen t_layer t_air t_churned t_held t_heldFirst t_stiffWanted t_stiffFirst t_how) (woX9_isSoft cI cZ a_t a_t_how a_t_strong a_t_pad a_t_plan a_t_box a_t_instead a_t_flakes a_t_tired a_t_image a_t_isKept t_signs t_parts t_swings t_saltFirst t_paceOfAll t_ice t_salt t_brine t_cold t_warm t_frozen t_layer t_air t_churned t_held t_heldFirst t_stiffWanted t_stiffFirst t_how)) 0 0 (va_A (woX9_isSoft cI cZ a_t a_t_how a_t_strong a_t_pad a_t_plan a_t_box a_t_instead a_t_flakes a_t_tired a_t_image a_t_isKept t_signs t_parts t_swings t_saltFirst t_paceOfAll t_ice t_salt t_brine t_cold t_warm t_frozen t_layer t_air t_churned t_held t_heldFirst t_stiffWanted t_stiffFirst t_how) sz) := by
  refine Met.ofW (cc := cX9_isSoft) (maxL := 4) (ret := (some .boolean)) (by decide) rfl ?_
  intro p e s m args below meth c s₁ B hml hv
  obtain ⟨rfl, hv⟩ := hv
  have hG := hg_of hv
  obtain ⟨hsz, hP, -, hD0, -⟩ := hv
  have hx := B.exec
  have hb := B.bytes
  have hr := B.returns
  have hlk := B.notSynchronized
  have hown : s.vm.findClass RX9 = some m.cls := findClass_of_methodNamed B.named
  have hD := hD0.self (sz := sz)
  have hS : va_S (va_A (woX9_isSoft cI cZ a_t a_t_how a_t_strong a_t_pad a_t_plan a_t_box a_t_instead a_t_flakes a_t_tired a_t_image a_t_isKept t_signs t_parts t_swings t_saltFirst t_paceOfAll t_ice t_salt t_brine t_cold t_warm t_frozen t_layer t_air t_churned t_held t_heldFirst t_stiffWanted t_stiffFirst t_how) sz) s.heap s.heap [] := va_S.rf
  have hl := lv_entry ([.ref a_t, .int x1, .int x2]) (n := 4) (Nat.le_of_ble_eq_true rfl)
  rw [lg_entry_eq]
  generalize (lg_sl ([.ref a_t, .int x1, .int x2]) ++ List.replicate (4 - (lg_sl ([.ref a_t, .int x1, .int x2])).length) Slot.unset).toArray = ls at hl ⊢
  have hl : lv_has ls 4 [(0, .ref a_t), (1, .int x1), (2, .int x2)] := hl
  unfold f_X9_isSoft at hf
  refine lv_iload_n hx hb dX9_isSoft_0 rfl (lv_at hl 1 rfl) ?_
  refine lv_aload_n hx hb dX9_isSoft_1 rfl (lv_at hl 0 rfl) ?_
  refine mg (ci := 9) 0 0 hx hb hG igX9 hown hP rfl rfl (by decide) (wd_3_132 hG.2.1) rfl rfl dX9_isSoft_2 ?_
  refine lv_iconst (v := 2) hx hb dX9_isSoft_5 (by decide) ?_
  obtain ⟨g1, hf⟩ := gd_some hf
  refine mal 1 hx hb hG hP rfl g1 dX9_isSoft_6 ?_
  refine lv_imul hx hb dX9_isSoft_7 ?_
  refine lv_bipush (v := 54) hx hb dX9_isSoft_8 (by decide) ?_
  refine lv_iload_n hx hb dX9_isSoft_10 rfl (lv_at hl 2 rfl) ?_
  refine lv_imul hx hb dX9_isSoft_11 ?_
  refine lv_isub hx hb dX9_isSoft_12 ?_
  refine lv_istore_n (lv' := [(3, .int ((x1 * (t_how ((2 : Int32)).toNatClampNeg)) - ((54 : Int32) * x2))), (0, .ref a_t), (1, .int x1), (2, .int x2)]) hx hb dX9_isSoft_13 rfl hl (by decide) rfl (fun ls hl => ?_)
  refine lv_iload_n hx hb dX9_isSoft_14 rfl (lv_at hl 0 rfl) ?_
  refine lv_if_le (tgt := 47) hx hb dX9_isSoft_15 (by decide) (fun c2 => ?_) (fun c2 => ?_)
  · have hf := (if_pos c2).symm.trans hf
    refine lv_iconst (v := 1) hx hb dX9_isSoft_47 (by decide) ?_
    refine lv_goto (tgt := 52) hx hb dX9_isSoft_48 (by decide) ?_
    have hR := Option.some.inj hf
    rw [← hR]
    exact rt_z hx hb hr hlk rfl hsz hP hD hS rfl rfl dX9_isSoft_52
  · have hf := (if_neg c2).symm.trans hf
    refine lv_ldc2 (v := 1000) hx hb hown (wd_4_146 hG.2.1) dX9_isSoft_18 ?_
    refine lv_iload_n hx hb dX9_isSoft_21 rfl (lv_at hl 0 rfl) ?_
    refine lv_i2l (v := (((x1 * (t_how ((2 : Int32)).toNatClampNeg)) - ((54 : Int32) * x2))).toInt64) hx hb dX9_isSoft_22 rfl ?_
    refine lv_lmul hx hb dX9_isSoft_23 ?_
    refine lv_aload_n hx hb dX9_isSoft_24 rfl (lv_at hl 1 rfl) ?_
    refine mg (ci := 9) 0 0 hx hb hG igX9 hown hP rfl rfl (by decide) (wd_3_132 hG.2.1) rfl rfl dX9_isSoft_25 ?_
    refine lv_bipush (v := 6) hx hb dX9_isSoft_28 (by decide) ?_
    obtain ⟨g3, hf⟩ := gd_some hf
    refine mal 1 hx hb hG hP rfl g3 dX9_isSoft_30 ?_
    refine lv_i2l (v := ((t_how ((6 : Int32)).toNatClampNeg)).toInt64) hx hb dX9_isSoft_31 rfl ?_
    refine lv_iload_n hx hb dX9_isSoft_32 rfl (lv_at hl 2 rfl) ?_
    refine lv_i2l (v := (x1).toInt64) hx hb dX9_isSoft_33 rfl ?_
    refine lv_lmul hx hb dX9_isSoft_34 ?_
    refine lv_aload_n hx hb dX9_isSoft_35 rfl (lv_at hl 1 rfl) ?_
    refine mg (ci := 9) 0 0 hx hb hG igX9 hown hP rfl rfl (by decide) (wd_3_132 hG.2.1) rfl rfl dX9_isSoft_36 ?_
    refine lv_iconst (v := 2) hx hb dX9_isSoft_39 (by decide) ?_
    obtain ⟨g4, hf⟩ := gd_some hf
    refine mal 1 hx hb hG hP rfl g4 dX9_isSoft_40 ?_
    refine lv_i2l (v := ((t_how ((2 : Int32)).toNatClampNeg)).toInt64) hx hb dX9_isSoft_41 rfl ?_
    refine lv_lmul hx hb dX9_isSoft_42 ?_
    refine W.lcmp hx hb dX9_isSoft_43 ?_
    refine lv_if_gt (tgt := 51) hx hb dX9_isSoft_44 (by decide) (fun c5 => ?_) (fun c5 => ?_)
    · have hf := (if_pos c5).symm.trans hf
      refine lv_iconst (v := 0) hx hb dX9_isSoft_51 (by decide) ?_
      have hR := Option.some.inj hf
      rw [← hR]
      exact rt_z hx hb hr hlk rfl hsz hP hD hS rfl rfl dX9_isSoft_52
    · have hf := (if_neg c5).symm.trans hf
      refine lv_iconst (v := 1) hx hb dX9_isSoft_47 (by decide) ?_
      refine lv_goto (tgt := 52) hx hb dX9_isSoft_48 (by decide) ?_
      have hR := Option.some.inj hf
      rw [← hR]
      exact rt_z hx hb hr hlk rfl hsz hP hD hS rfl rfl dX9_isSoft_52
abbrev woX9_soft (cI cZ : ClassId) (a_t a_t_how a_t_strong a_t_pad a_t_plan a_t_box a_t_instead a_t_flakes a_t_tired a_t_image a_t_isKept : Nat) (t_signs : Int32) (t_parts : Int32) (t_swings : Int32) (t_saltFirst : Int32) (t_paceOfAll : Int32) (t_ice : Int32) (t_salt : Int32) (t_brine : Int32) (t_cold : Int32) (t_warm : Int32) (t_frozen : Int32) (t_layer : Int32) (t_air : Int32) (t_churned : Int32) (t_held : Int32) (t_heldFirst : Int32) (t_stiffWanted : Int32) (t_stiffFirst : Int32) (t_how : Nat → Int32) : va_W := [(a_t, .inr (9, [.ref a_t_how, .ref a_t_strong, .int t_signs, .ref a_t_pad, .int t_parts, .ref a_t_plan, .int t_swings, .ref a_t_box, .ref a_t_instead, .int t_saltFirst, .int t_paceOfAll, .int t_ice, .int t_salt, .int t_brine, .int t_cold, .int t_warm, .int t_frozen, .int t_layer, .int t_air, .int t_churned, .ref a_t_flakes, .ref a_t_tired, .int t_held, .int t_heldFirst, .int t_stiffWanted, .int t_stiffFirst, .ref a_t_image, .ref a_t_isKept])), (a_t_how, .inl (cI, 8, .inl t_how))]
abbrev rmX9_soft : Room := { frames := 1, cells := 0, slots := 0, locals := 23 }
theorem hd_X9_soft : yX9_soft.cls ≠ "java/lang/invoke/MethodHandle" ∧ yX9_soft.cls ≠ "java/lang/invoke/VarHandle" ∧ (parseMethodDescriptor yX9_soft.desc).map (fun d => d.parameters.length) = some 0 := by decide +kernel
set_option maxHeartbeats 4000000 in
set_option maxRecDepth 100000 in
theorem c_X9_soft (l : Launch) (dC : Nat → ClassId) (dI : Nat → Nat → Nat) (cI cZ : ClassId) (ts : Nat → Nat) (sz : Nat) (a_t a_t_how a_t_strong a_t_pad a_t_plan a_t_box a_t_instead a_t_flakes a_t_tired a_t_image a_t_isKept : Nat) (t_signs : Int32) (t_parts : Int32) (t_swings : Int32) (t_saltFirst : Int32) (t_paceOfAll : Int32) (t_ice : Int32) (t_salt : Int32) (t_brine : Int32) (t_cold : Int32) (t_warm : Int32) (t_frozen : Int32) (t_layer : Int32) (t_air : Int32) (t_churned : Int32) (t_held : Int32) (t_heldFirst : Int32) (t_stiffWanted : Int32) (t_stiffFirst : Int32) (t_how : Nat → Int32) (R : Int32) (hf : f_X9_soft t_how = some R) : Met l yX9_soft wyX9_soft rmX9_soft (PRE (dC, dI) cI cZ ts [.ref a_t] sz (woX9_soft cI cZ a_t a_t_how a_t_strong a_t_pad a_t_plan a_t_box a_t_instead a_t_flakes a_t_tired a_t_image a_t_isKept t_signs t_parts t_swings t_saltFirst t_paceOfAll t_ice t_salt t_brine t_cold t_warm t_frozen t_layer t_air t_churned t_held t_heldFirst t_stiffWanted t_stiffFirst t_how)) (POSTi (dC, dI) R sz (woX9_soft cI cZ a_t a_t_how a_t_strong a_t_pad a_t_plan a_t_box a_t_instead a_t_flakes a_t_tired a_t_image a_t_isKept t_signs t_parts t_swings t_saltFirst t_paceOfAll t_ice t_salt t_brine t_cold t_warm t_frozen t_layer t_air t_churned t_held t_heldFirst t_stiffWanted t_stiffFirst t_how) (woX9_soft cI cZ a_t a_t_how a_t_strong a_t_pad a_t_plan a_t_box a_t_instead a_t_flakes a_t_tired a_t_image a_t_isKept t_signs t_parts t_swings t_saltFirst t_paceOfAll t_ice t_salt t_brine t_cold t_warm t_frozen t_layer t_air t_churned t_held t_heldFirst t_stiffWanted t_stiffFirst t_how)) 0 0 (va_A (woX9_soft cI cZ a_t a_t_how a_t_strong a_t_pad a_t_plan a_t_box a_t_instead a_t_flakes a_t_tired a_t_image a_t_isKept t_signs t_parts t_swings t_saltFirst t_paceOfAll t_ice t_salt t_brine t_cold t_warm t_frozen t_layer t_air t_churned t_held t_heldFirst t_stiffWanted t_stiffFirst t_how) sz) := by
  refine Met.ofW (cc := cX9_soft) (maxL := 3) (ret := (some .int)) (by decide) rfl ?_
  intro p e s m args below meth c s₁ B hml hv
  obtain ⟨rfl, hv⟩ := hv
  have hG := hg_of hv
  obtain ⟨hsz, hP, -, hD0, -⟩ := hv
  have hx := B.exec
  have hb := B.bytes
  have hr := B.returns
  have hlk := B.notSynchronized
  have hown : s.vm.findClass RX9 = some m.cls := findClass_of_methodNamed B.named
  have hD := hD0.self (sz := sz)
  have hS : va_S (va_A (woX9_soft cI cZ a_t a_t_how a_t_strong a_t_pad a_t_plan a_t_box a_t_instead a_t_flakes a_t_tired a_t_image a_t_isKept t_signs t_parts t_swings t_saltFirst t_paceOfAll t_ice t_salt t_brine t_cold t_warm t_frozen t_layer t_air t_churned t_held t_heldFirst t_stiffWanted t_stiffFirst t_how) sz) s.heap s.heap [] := va_S.rf
  have L5 : ∀ (fu : Nat) (y1 : Int32) (y2 : Int32) (H : Heap) (locs : List Loc) (ls : Array Slot), f_X9_soft_L5 t_how fu y1 y2 = some R → va_P (dC, dI) vwCl (woX9_soft cI cZ a_t a_t_how a_t_strong a_t_pad a_t_plan a_t_box a_t_instead a_t_flakes a_t_tired a_t_image a_t_isKept t_signs t_parts t_swings t_saltFirst t_paceOfAll t_ice t_salt t_brine t_cold t_warm t_frozen t_layer t_air t_churned t_held t_heldFirst t_stiffWanted t_stiffFirst t_how) H → va_D (va_A (woX9_soft cI cZ a_t a_t_how a_t_strong a_t_pad a_t_plan a_t_box a_t_instead a_t_flakes a_t_tired a_t_image a_t_isKept t_signs t_parts t_swings t_saltFirst t_paceOfAll t_ice t_salt t_brine t_cold t_warm t_frozen t_layer t_air t_churned t_held t_heldFirst t_stiffWanted t_stiffFirst t_how) sz) (woX9_soft cI cZ a_t a_t_how a_t_strong a_t_pad a_t_plan a_t_box a_t_instead a_t_flakes a_t_tired a_t_image a_t_isKept t_signs t_parts t_swings t_saltFirst t_paceOfAll t_ice t_salt t_brine t_cold t_warm t_frozen t_layer t_air t_churned t_held t_heldFirst t_stiffWanted t_stiffFirst t_how) → va_S (va_A (woX9_soft cI cZ a_t a_t_how a_t_strong a_t_pad a_t_plan a_t_box a_t_instead a_t_flakes a_t_tired a_t_image a_t_isKept t_signs t_parts t_swings t_saltFirst t_paceOfAll t_ice t_salt t_brine t_cold t_warm t_frozen t_layer t_air t_churned t_held t_heldFirst t_stiffWanted t_stiffFirst t_how) sz) s.heap H locs → lv_has ls 3 [(0, .ref a_t), (1, .int y1), (2, .int y2)] → W p l e (headSpec wyX9_soft rmX9_soft).room s m ([Value.ref a_t] : List Value).toArray below meth c H locs 0 0 (MQ below (POSTi (dC, dI) R sz (woX9_soft cI cZ a_t a_t_how a_t_strong a_t_pad a_t_plan a_t_box a_t_instead a_t_flakes a_t_tired a_t_image a_t_isKept t_signs t_parts t_swings t_saltFirst t_paceOfAll t_ice t_salt t_brine t_cold t_warm t_frozen t_layer t_air t_churned t_held t_heldFirst t_stiffWanted t_stiffFirst t_how) (woX9_soft cI cZ a_t a_t_how a_t_strong a_t_pad a_t_plan a_t_box a_t_instead a_t_flakes a_t_tired a_t_image a_t_isKept t_signs t_parts t_swings t_saltFirst t_paceOfAll t_ice t_salt t_brine t_cold t_warm t_frozen t_layer t_air t_churned t_held t_heldFirst t_stiffWanted t_stiffFirst t_how)) ([Value.ref a_t] : List Value).toArray s 0 0 (va_A (woX9_soft cI cZ a_t a_t_how a_t_strong a_t_pad a_t_plan a_t_box a_t_instead a_t_flakes a_t_tired a_t_image a_t_isKept t_signs t_parts t_swings t_saltFirst t_paceOfAll t_ice t_salt t_brine t_cold t_warm t_frozen t_layer t_air t_churned t_held t_heldFirst t_stiffWanted t_stiffFirst t_how) sz)) (F0 m 5 ls []) := by
    intro  fu
    induction fu with
    | zero => intro y1 y2 H locs ls hf; cases hf
    | succ fu ih =>
      intro y1 y2 H locs ls hf hP hD hS hl
      rw [f_X9_soft_L5] at hf
      refine lv_iload_n hx hb dX9_soft_5 rfl (lv_at hl 2 rfl) ?_
      refine lv_sipush (v := 300) hx hb dX9_soft_6 (by decide) ?_
      refine lv_icmp_gt (tgt := 38) hx hb dX9_soft_9 (by decide) (fun c1 => ?_) (fun c1 => ?_)
      · have hf := (if_pos c1).symm.trans hf
        refine lv_iload_n hx hb dX9_soft_38 rfl (lv_at hl 1 rfl) ?_
        have hR := Option.some.inj hf
        rw [← hR]
        exact rt_i hx hb hr hlk hsz hP hD hS rfl rfl dX9_soft_39
      · have hf := (if_neg c1).symm.trans hf
        refine lv_aload_n hx hb dX9_soft_12 rfl (lv_at hl 0 rfl) ?_
        refine lv_iload_n hx hb dX9_soft_13 rfl (lv_at hl 2 rfl) ?_
        refine lv_aload_n hx hb dX9_soft_14 rfl (lv_at hl 0 rfl) ?_
        refine mg (ci := 9) 0 0 hx hb hG igX9 hown hP rfl rfl (by decide) (wd_3_132 hG.2.1) rfl rfl dX9_soft_15 ?_
        refine lv_iconst (v := 3) hx hb dX9_soft_18 (by decide) ?_
        obtain ⟨g2, hf⟩ := gd_some hf
        refine mal 1 hx hb hG hP rfl g2 dX9_soft_19 ?_
        obtain ⟨r20, hc20, hf⟩ := bd1_some hf
        refine cl_Vi (r := r20) (b := a_t) (As := [.int y2, .int (t_how ((3 : Int32)).toNatClampNeg)]) (w1 := (woX9_isSoft cI cZ a_t a_t_how a_t_strong a_t_pad a_t_plan a_t_box a_t_instead a_t_flakes a_t_tired a_t_image a_t_isKept t_signs t_parts t_swings t_saltFirst t_paceOfAll t_ice t_salt t_brine t_cold t_warm t_frozen t_layer t_air t_churned t_held t_heldFirst t_stiffWanted t_stiffFirst t_how)) (wN := (woX9_soft cI cZ a_t a_t_how a_t_strong a_t_pad a_t_plan a_t_box a_t_instead a_t_flakes a_t_tired a_t_image a_t_isKept t_signs t_parts t_swings t_saltFirst t_paceOfAll t_ice t_salt t_brine t_cold t_warm t_frozen t_layer t_air t_churned t_held t_heldFirst t_stiffWanted t_stiffFirst t_how)) [0, 1] 0 9 (c_X9_isSoft l dC dI cI cZ ts _ a_t a_t_how a_t_strong a_t_pad a_t_plan a_t_box a_t_instead a_t_flakes a_t_tired a_t_image a_t_isKept t_signs t_parts t_swings t_saltFirst t_paceOfAll t_ice t_salt t_brine t_cold t_warm t_frozen t_layer t_air t_churned t_held t_heldFirst t_stiffWanted t_stiffFirst t_how y2 (t_how ((3 : Int32)).toNatClampNeg) (r20) hc20) ⟨hx, hb, hml, hown, hG.2.1.hts _⟩ ⟨callB_of 2 (hG.2.1.hts _) giX9_isSoft rfl rfl rfl (wd_1_10 hG.2.1) (wd_4_142 hG.2.1) hd_X9_isSoft ⟨Nat.le_of_ble_eq_true rfl, Nat.le_of_ble_eq_true rfl⟩, wd_4_144 hG.2.1, ws_32 hG.2.1⟩ hG hP hD hS rfl rfl rfl rfl rfl rfl rfl rfl hl.1 rfl (Nat.le_of_ble_eq_true rfl) dX9_soft_20 ⟨Nat.zero_le _, Nat.zero_le _⟩ (fun H locs hP hD hS => ?_)
        refine lv_if_eq (tgt := 30) hx hb dX9_soft_23 (by decide) (fun c3 => ?_) (fun c3 => ?_)
        · have hf := (if_pos c3).symm.trans hf
          refine lv_iload_n hx hb dX9_soft_30 rfl (lv_at hl 1 rfl) ?_
          refine lv_istore_n (lv' := [(1, .int y1), (0, .ref a_t), (2, .int y2)]) hx hb dX9_soft_31 rfl hl (by decide) rfl (fun ls hl => ?_)
          refine lv_iinc (v := (y2 + (1 : Int32))) (lv' := [(2, .int (y2 + (1 : Int32))), (1, .int y1), (0, .ref a_t)]) hx hb dX9_soft_32 hl (k := 2) rfl rfl (by decide) rfl (fun ls hl => ?_)
          refine lv_goto (tgt := 5) hx hb dX9_soft_35 (by decide) ?_
          exact ih y1 (y2 + (1 : Int32)) _ _ _ hf hP hD hS (lv_sub hl [2, 1, 0] rfl)
        · have hf := (if_neg c3).symm.trans hf
          refine lv_iload_n hx hb dX9_soft_26 rfl (lv_at hl 2 rfl) ?_
          refine lv_goto (tgt := 31) hx hb dX9_soft_27 (by decide) ?_
          refine lv_istore_n (lv' := [(1, .int y2), (0, .ref a_t), (2, .int y2)]) hx hb dX9_soft_31 rfl hl (by decide) rfl (fun ls hl => ?_)
          refine lv_iinc (v := (y2 + (1 : Int32))) (lv' := [(2, .int (y2 + (1 : Int32))), (1, .int y2), (0, .ref a_t)]) hx hb dX9_soft_32 hl (k := 2) rfl rfl (by decide) rfl (fun ls hl => ?_)
          refine lv_goto (tgt := 5) hx hb dX9_soft_35 (by decide) ?_
          exact ih y2 (y2 + (1 : Int32)) _ _ _ hf hP hD hS (lv_sub hl [2, 1, 0] rfl)
  have hl := lv_entry ([.ref a_t]) (n := 3) (Nat.le_of_ble_eq_true rfl)
  rw [lg_entry_eq]
  generalize (lg_sl ([.ref a_t]) ++ List.replicate (3 - (lg_sl ([.ref a_t])).length) Slot.unset).toArray = ls at hl ⊢
  have hl : lv_has ls 3 [(0, .ref a_t)] := hl
  unfold f_X9_soft at hf
  refine lv_bipush (v := -6) hx hb dX9_soft_0 (by decide) ?_
  refine lv_istore_n (lv' := [(1, .int (-6 : Int32)), (0, .ref a_t)]) hx hb dX9_soft_2 rfl hl (by decide) rfl (fun ls hl => ?_)
  refine lv_iconst (v := 1) hx hb dX9_soft_3 (by decide) ?_
  refine lv_istore_n (lv' := [(2, .int (1 : Int32)), (1, .int (-6 : Int32)), (0, .ref a_t)]) hx hb dX9_soft_4 rfl hl (by decide) rfl (fun ls hl => ?_)
  exact L5 FU (-6 : Int32) (1 : Int32) _ _ _ hf hP hD hS (lv_sub hl [2, 1, 0] rfl)
abbrev woX9_sugarFor (cI cZ : ClassId) (a_t a_t_how a_t_strong a_t_pad a_t_plan a_t_box a_t_instead a_t_flakes a_t_tired a_t_image a_t_isKept : Nat) (t_signs : Int32) (t_parts : Int32) (t_swings : Int32) (t_saltFirst : Int32) (t_paceOfAll : Int32) (t_ice : Int32) (t_salt : Int32) (t_brine : Int32) (t_cold : Int32) (t_warm : Int32) (t_frozen : Int32) (t_layer : Int32) (t_air : Int32) (t_churned : Int32) (t_held : Int32) (t_heldFirst : Int32) (t_stiffWanted : Int32) (t_stiffFirst : Int32) (t_how : Nat → Int32) : va_W := [(a_t, .inr (9, [.ref a_t_how, .ref a_t_strong, .int t_signs, .ref a_t_pad, .int t_parts, .ref a_t_plan, .int t_swings, .ref a_t_box, .ref a_t_instead, .int t_saltFirst, .int t_paceOfAll, .int t_ice, .int t_salt, .int t_brine, .int t_cold, .int t_warm, .int t_frozen, .int t_layer, .int t_air, .int t_churned, .ref a_t_flakes, .ref a_t_tired, .int t_held, .int t_heldFirst, .int t_stiffWanted, .int t_stiffFirst, .ref a_t_image, .ref a_t_isKept])), (a_t_how, .inl (cI, 8, .inl t_how))]
abbrev rmX9_sugarFor : Room := { frames := 1, cells := 0, slots := 0, locals := 23 }
theorem hd_X9_sugarFor : yX9_sugarFor.cls ≠ "java/lang/invoke/MethodHandle" ∧ yX9_sugarFor.cls ≠ "java/lang/invoke/VarHandle" ∧ (parseMethodDescriptor yX9_sugarFor.desc).map (fun d => d.parameters.length) = some 1 := by decide +kernel
set_option maxHeartbeats 4000000 in
set_option maxRecDepth 100000 in
theorem c_X9_sugarFor (l : Launch) (dC : Nat → ClassId) (dI : Nat → Nat → Nat) (cI cZ : ClassId) (ts : Nat → Nat) (sz : Nat) (a_t a_t_how a_t_strong a_t_pad a_t_plan a_t_box a_t_instead a_t_flakes a_t_tired a_t_image a_t_isKept : Nat) (t_signs : Int32) (t_parts : Int32) (t_swings : Int32) (t_saltFirst : Int32) (t_paceOfAll : Int32) (t_ice : Int32) (t_salt : Int32) (t_brine : Int32) (t_cold : Int32) (t_warm : Int32) (t_frozen : Int32) (t_layer : Int32) (t_air : Int32) (t_churned : Int32) (t_held : Int32) (t_heldFirst : Int32) (t_stiffWanted : Int32) (t_stiffFirst : Int32) (t_how : Nat → Int32) (x1 : Int32) (R : Int32) (hf : f_X9_sugarFor t_how x1 = some R) : Met l yX9_sugarFor wyX9_sugarFor rmX9_sugarFor (PRE (dC, dI) cI cZ ts [.ref a_t, .int x1] sz (woX9_sugarFor cI cZ a_t a_t_how a_t_strong a_t_pad a_t_plan a_t_box a_t_instead a_t_flakes a_t_tired a_t_image a_t_isKept t_signs t_parts t_swings t_saltFirst t_paceOfAll t_ice t_salt t_brine t_cold t_warm t_frozen t_layer t_air t_churned t_held t_heldFirst t_stiffWanted t_stiffFirst t_how)) (POSTi (dC, dI) R sz (woX9_sugarFor cI cZ a_t a_t_how a_t_strong a_t_pad a_t_plan a_t_box a_t_instead a_t_flakes a_t_tired a_t_image a_t_isKept t_signs t_parts t_swings t_saltFirst t_paceOfAll t_ice t_salt t_brine t_cold t_warm t_frozen t_layer t_air t_churned t_held t_heldFirst t_stiffWanted t_stiffFirst t_how) (woX9_sugarFor cI cZ a_t a_t_how a_t_strong a_t_pad a_t_plan a_t_box a_t_instead a_t_flakes a_t_tired a_t_image a_t_isKept t_signs t_parts t_swings t_saltFirst t_paceOfAll t_ice t_salt t_brine t_cold t_warm t_frozen t_layer t_air t_churned t_held t_heldFirst t_stiffWanted t_stiffFirst t_how)) 0 0 (va_A (woX9_sugarFor cI cZ a_t a_t_how a_t_strong a_t_pad a_t_plan a_t_box a_t_instead a_t_flakes a_t_tired a_t_image a_t_isKept t_signs t_parts t_swings t_saltFirst t_paceOfAll t_ice t_salt t_brine t_cold t_warm t_frozen t_layer t_air t_churned t_held t_heldFirst t_stiffWanted t_stiffFirst t_how) sz) := by
  refine Met.ofW (cc := cX9_sugarFor) (maxL := 3) (ret := (some .int)) (by decide) rfl ?_
  intro p e s m args below meth c s₁ B hml hv
  obtain ⟨rfl, hv⟩ := hv
  have hG := hg_of hv
  obtain ⟨hsz, hP, -, hD0, -⟩ := hv
  have hx := B.exec
  have hb := B.bytes
  have hr := B.returns
  have hlk := B.notSynchronized
  have hown : s.vm.findClass RX9 = some m.cls := findClass_of_methodNamed B.named
  have hD := hD0.self (sz := sz)
  have hS : va_S (va_A (woX9_sugarFor cI cZ a_t a_t_how a_t_strong a_t_pad a_t_plan a_t_box a_t_instead a_t_flakes a_t_tired a_t_image a_t_isKept t_signs t_parts t_swings t_saltFirst t_paceOfAll t_ice t_salt t_brine t_cold t_warm t_frozen t_layer t_air t_churned t_held t_heldFirst t_stiffWanted t_stiffFirst t_how) sz) s.heap s.heap [] := va_S.rf
  have L16 : ∀ (fu : Nat) (y1 : Int32) (y2 : Int32) (H : Heap) (locs : List Loc) (ls : Array Slot), f_X9_sugarFor_L16 t_how fu y1 y2 = some R → va_P (dC, dI) vwCl (woX9_sugarFor cI cZ a_t a_t_how a_t_strong a_t_pad a_t_plan a_t_box a_t_instead a_t_flakes a_t_tired a_t_image a_t_isKept t_signs t_parts t_swings t_saltFirst t_paceOfAll t_ice t_salt t_brine t_cold t_warm t_frozen t_layer t_air t_churned t_held t_heldFirst t_stiffWanted t_stiffFirst t_how) H → va_D (va_A (woX9_sugarFor cI cZ a_t a_t_how a_t_strong a_t_pad a_t_plan a_t_box a_t_instead a_t_flakes a_t_tired a_t_image a_t_isKept t_signs t_parts t_swings t_saltFirst t_paceOfAll t_ice t_salt t_brine t_cold t_warm t_frozen t_layer t_air t_churned t_held t_heldFirst t_stiffWanted t_stiffFirst t_how) sz) (woX9_sugarFor cI cZ a_t a_t_how a_t_strong a_t_pad a_t_plan a_t_box a_t_instead a_t_flakes a_t_tired a_t_image a_t_isKept t_signs t_parts t_swings t_saltFirst t_paceOfAll t_ice t_salt t_brine t_cold t_warm t_frozen t_layer t_air t_churned t_held t_heldFirst t_stiffWanted t_stiffFirst t_how) → va_S (va_A (woX9_sugarFor cI cZ a_t a_t_how a_t_strong a_t_pad a_t_plan a_t_box a_t_instead a_t_flakes a_t_tired a_t_image a_t_isKept t_signs t_parts t_swings t_saltFirst t_paceOfAll t_ice t_salt t_brine t_cold t_warm t_frozen t_layer t_air t_churned t_held t_heldFirst t_stiffWanted t_stiffFirst t_how) sz) s.heap H locs → lv_has ls 3 [(0, .ref a_t), (1, .int y1), (2, .int y2)] → W p l e (headSpec wyX9_sugarFor rmX9_sugarFor).room s m ([Value.ref a_t, Value.int x1] : List Value).toArray below meth c H locs 0 0 (MQ below (POSTi (dC, dI) R sz (woX9_sugarFor cI cZ a_t a_t_how a_t_strong a_t_pad a_t_plan a_t_box a_t_instead a_t_flakes a_t_tired a_t_image a_t_isKept t_signs t_parts t_swings t_saltFirst t_paceOfAll t_ice t_salt t_brine t_cold t_warm t_frozen t_layer t_air t_churned t_held t_heldFirst t_stiffWanted t_stiffFirst t_how) (woX9_sugarFor cI cZ a_t a_t_how a_t_strong a_t_pad a_t_plan a_t_box a_t_instead a_t_flakes a_t_tired a_t_image a_t_isKept t_signs t_parts t_swings t_saltFirst t_paceOfAll t_ice t_salt t_brine t_cold t_warm t_frozen t_layer t_air t_churned t_held t_heldFirst t_stiffWanted t_stiffFirst t_how)) ([Value.ref a_t, Value.int x1] : List Value).toArray s 0 0 (va_A (woX9_sugarFor cI cZ a_t a_t_how a_t_strong a_t_pad a_t_plan a_t_box a_t_instead a_t_flakes a_t_tired a_t_image a_t_isKept t_signs t_parts t_swings t_saltFirst t_paceOfAll t_ice t_salt t_brine t_cold t_warm t_frozen t_layer t_air t_churned t_held t_heldFirst t_stiffWanted t_stiffFirst t_how) sz)) (F0 m 16 ls []) := by
    intro  fu
    induction fu with
    | zero => intro y1 y2 H locs ls hf; cases hf
    | succ fu ih =>
      intro y1 y2 H locs ls hf hP hD hS hl
      rw [f_X9_sugarFor_L16] at hf
      refine lv_iload_n hx hb dX9_sugarFor_16 rfl (lv_at hl 2 rfl) ?_
      refine lv_sipush (v := 600) hx hb dX9_sugarFor_17 (by decide) ?_
      refine lv_icmp_gt (tgt := 40) hx hb dX9_sugarFor_20 (by decide) (fun c1 => ?_) (fun c1 => ?_)
      · have hf := (if_pos c1).symm.trans hf
        refine lv_bipush (v := -6) hx hb dX9_sugarFor_40 (by decide) ?_
        have hR := Option.some.inj hf
        rw [← hR]
        exact rt_i hx hb hr hlk hsz hP hD hS rfl rfl dX9_sugarFor_42
      · have hf := (if_neg c1).symm.trans hf
        refine lv_aload_n hx hb dX9_sugarFor_23 rfl (lv_at hl 0 rfl) ?_
        refine lv_iload_n hx hb dX9_sugarFor_24 rfl (lv_at hl 1 rfl) ?_
        refine lv_iload_n hx hb dX9_sugarFor_25 rfl (lv_at hl 2 rfl) ?_
        obtain ⟨r26, hc26, hf⟩ := bd1_some hf
        refine cl_Vi (r := r26) (b := a_t) (As := [.int y1, .int y2]) (w1 := (woX9_isSoft cI cZ a_t a_t_how a_t_strong a_t_pad a_t_plan a_t_box a_t_instead a_t_flakes a_t_tired a_t_image a_t_isKept t_signs t_parts t_swings t_saltFirst t_paceOfAll t_ice t_salt t_brine t_cold t_warm t_frozen t_layer t_air t_churned t_held t_heldFirst t_stiffWanted t_stiffFirst t_how)) (wN := (woX9_sugarFor cI cZ a_t a_t_how a_t_strong a_t_pad a_t_plan a_t_box a_t_instead a_t_flakes a_t_tired a_t_image a_t_isKept t_signs t_parts t_swings t_saltFirst t_paceOfAll t_ice t_salt t_brine t_cold t_warm t_frozen t_layer t_air t_churned t_held t_heldFirst t_stiffWanted t_stiffFirst t_how)) [0, 1] 0 9 (c_X9_isSoft l dC dI cI cZ ts _ a_t a_t_how a_t_strong a_t_pad a_t_plan a_t_box a_t_instead a_t_flakes a_t_tired a_t_image a_t_isKept t_signs t_parts t_swings t_saltFirst t_paceOfAll t_ice t_salt t_brine t_cold t_warm t_frozen t_layer t_air t_churned t_held t_heldFirst t_stiffWanted t_stiffFirst t_how y1 y2 (r26) hc26) ⟨hx, hb, hml, hown, hG.2.1.hts _⟩ ⟨callB_of 2 (hG.2.1.hts _) giX9_isSoft rfl rfl rfl (wd_1_10 hG.2.1) (wd_4_142 hG.2.1) hd_X9_isSoft ⟨Nat.le_of_ble_eq_true rfl, Nat.le_of_ble_eq_true rfl⟩, wd_4_144 hG.2.1, ws_32 hG.2.1⟩ hG hP hD hS rfl rfl rfl rfl rfl rfl rfl rfl hl.1 rfl (Nat.le_of_ble_eq_true rfl) dX9_sugarFor_26 ⟨Nat.zero_le _, Nat.zero_le _⟩ (fun H locs hP hD hS => ?_)
        refine lv_if_eq (tgt := 34) hx hb dX9_sugarFor_29 (by decide) (fun c2 => ?_) (fun c2 => ?_)
        · have hf := (if_pos c2).symm.trans hf
          refine lv_iinc (v := (y2 + (1 : Int32))) (lv' := [(2, .int (y2 + (1 : Int32))), (0, .ref a_t), (1, .int y1)]) hx hb dX9_sugarFor_34 hl (k := 2) rfl rfl (by decide) rfl (fun ls hl => ?_)
          refine lv_goto (tgt := 16) hx hb dX9_sugarFor_37 (by decide) ?_
          exact ih y1 (y2 + (1 : Int32)) _ _ _ hf hP hD hS (lv_sub hl [1, 2, 0] rfl)
        · have hf := (if_neg c2).symm.trans hf
          refine lv_iload_n hx hb dX9_sugarFor_32 rfl (lv_at hl 2 rfl) ?_
          have hR := Option.some.inj hf
          rw [← hR]
          exact rt_i hx hb hr hlk hsz hP hD hS rfl rfl dX9_sugarFor_33
  have hl := lv_entry ([.ref a_t, .int x1]) (n := 3) (Nat.le_of_ble_eq_true rfl)
  rw [lg_entry_eq]
  generalize (lg_sl ([.ref a_t, .int x1]) ++ List.replicate (3 - (lg_sl ([.ref a_t, .int x1])).length) Slot.unset).toArray = ls at hl ⊢
  have hl : lv_has ls 3 [(0, .ref a_t), (1, .int x1)] := hl
  unfold f_X9_sugarFor at hf
  refine lv_iload_n hx hb dX9_sugarFor_0 rfl (lv_at hl 1 rfl) ?_
  refine lv_iconst (v := 1) hx hb dX9_sugarFor_1 (by decide) ?_
  refine lv_sipush (v := 300) hx hb dX9_sugarFor_2 (by decide) ?_
  obtain ⟨r5, hc5, hf⟩ := bd1_some hf
  refine cl_Si (r := r5) (As := [.int x1, .int (1 : Int32), .int (300 : Int32)]) (w1 := []) (wN := (woX9_sugarFor cI cZ a_t a_t_how a_t_strong a_t_pad a_t_plan a_t_box a_t_instead a_t_flakes a_t_tired a_t_image a_t_isKept t_signs t_parts t_swings t_saltFirst t_paceOfAll t_ice t_salt t_brine t_cold t_warm t_frozen t_layer t_air t_churned t_held t_heldFirst t_stiffWanted t_stiffFirst t_how)) [] 0 0 (c_X9_in l dC dI cI cZ ts _ x1 (1 : Int32) (300 : Int32) (r5) hc5) ⟨hx, hb, hml, hown, hG.2.1.hts _⟩ ⟨callB_of 3 (hG.2.1.hts _) giX9_in rfl rfl rfl (wd_1_10 hG.2.1) (wd_3_222 hG.2.1) hd_X9_in ⟨Nat.le_of_ble_eq_true rfl, Nat.le_of_ble_eq_true rfl⟩, wd_3_223 hG.2.1⟩ hG hP hD hS rfl rfl rfl rfl rfl hl.1 rfl (Nat.le_of_ble_eq_true rfl) dX9_sugarFor_5 ⟨Nat.zero_le _, Nat.zero_le _⟩ (fun H locs hP hD hS => ?_)
  refine lv_if_ne (tgt := 14) hx hb dX9_sugarFor_8 (by decide) (fun c3 => ?_) (fun c3 => ?_)
  · have hf := (if_neg c3).symm.trans hf
    refine lv_iconst (v := 0) hx hb dX9_sugarFor_14 (by decide) ?_
    refine lv_istore_n (lv' := [(2, .int (0 : Int32)), (0, .ref a_t), (1, .int x1)]) hx hb dX9_sugarFor_15 rfl hl (by decide) rfl (fun ls hl => ?_)
    exact L16 FU x1 (0 : Int32) _ _ _ hf hP hD hS (lv_sub hl [1, 2, 0] rfl)
  · have hf := (if_pos c3).symm.trans hf
    refine lv_bipush (v := -2) hx hb dX9_sugarFor_11 (by decide) ?_
    have hR := Option.some.inj hf
    rw [← hR]
    exact rt_i hx hb hr hlk hsz hP hD hS rfl rfl dX9_sugarFor_13
