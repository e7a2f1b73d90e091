abbrev woX9_image (cI cZ : ClassId) (a_t a_t_how a_t_strong a_t_pad a_t_plan a_t_box a_t_instead a_t_flakes a_t_tired a_t_image a_t_isKept : Nat) (t_signs : Int32) (t_parts : Int32) (t_swings : Int32) (t_saltFirst : Int32) (t_paceOfAll : Int32) (t_ice : Int32) (t_salt : Int32) (t_brine : Int32) (t_cold : Int32) (t_warm : Int32) (t_frozen : Int32) (t_layer : Int32) (t_air : Int32) (t_churned : Int32) (t_held : Int32) (t_heldFirst : Int32) (t_stiffWanted : Int32) (t_stiffFirst : Int32) (t_how : Nat → Int32) (t_strong : Nat → Int32) (t_plan : Nat → Int32) (t_box : Nat → Int32) (t_image : Nat → Int32) (t_isKept : Nat → Int32) : va_W := [(a_t, .inr (9, [.ref a_t_how, .ref a_t_strong, .int t_signs, .ref a_t_pad, .int t_parts, .ref a_t_plan, .int t_swings, .ref a_t_box, .ref a_t_instead, .int t_saltFirst, .int t_paceOfAll, .int t_ice, .int t_salt, .int t_brine, .int t_cold, .int t_warm, .int t_frozen, .int t_layer, .int t_air, .int t_churned, .ref a_t_flakes, .ref a_t_tired, .int t_held, .int t_heldFirst, .int t_stiffWanted, .int t_stiffFirst, .ref a_t_image, .ref a_t_isKept])), (a_t_how, .inl (cI, 8, .inl t_how)), (a_t_strong, .inl (cI, 4, .inl t_strong)), (a_t_plan, .inl (cI, 60, .inl t_plan)), (a_t_box, .inl (cI, 40, .inl t_box)), (a_t_image, .inl (cI, 230, .inl t_image)), (a_t_isKept, .inl (cZ, 2, .inl t_isKept))]
abbrev rmX9_image : Room := { frames := 1, cells := 0, slots := 0, locals := 22 }
theorem hd_X9_image : yX9_image.cls ≠ "java/lang/invoke/MethodHandle" ∧ yX9_image.cls ≠ "java/lang/invoke/VarHandle" ∧ (parseMethodDescriptor yX9_image.desc).map (fun d => d.parameters.length) = some 1 := by decide +kernel
set_option maxHeartbeats 4000000 in
set_option maxRecDepth 100000 in
theorem c_X9_image (l : Launch) (dC : Nat → ClassId) (dI : Nat → Nat → Nat) (cI cZ : ClassId) (ts : Nat → Nat) (sz : Nat) (a_t a_t_how a_t_strong a_t_pad a_t_plan a_t_box a_t_instead a_t_flakes a_t_tired a_t_image a_t_isKept : Nat) (t_signs : Int32) (t_parts : Int32) (t_swings : Int32) (t_saltFirst : Int32) (t_paceOfAll : Int32) (t_ice : Int32) (t_salt : Int32) (t_brine : Int32) (t_cold : Int32) (t_warm : Int32) (t_frozen : Int32) (t_layer : Int32) (t_air : Int32) (t_churned : Int32) (t_held : Int32) (t_heldFirst : Int32) (t_stiffWanted : Int32) (t_stiffFirst : Int32) (t_how : Nat → Int32) (t_strong : Nat → Int32) (t_plan : Nat → Int32) (t_box : Nat → Int32) (t_image : Nat → Int32) (t_isKept : Nat → Int32) (x1 : Int32) (R : Int32 × (Nat → Int32) × (Nat → Int32)) (hf : f_X9_image t_parts t_swings t_how t_strong t_plan t_box t_image t_isKept x1 = some R) : Met l yX9_image wyX9_image rmX9_image (PRE (dC, dI) cI cZ ts [.ref a_t, .int x1] sz (woX9_image cI cZ a_t a_t_how a_t_strong a_t_pad a_t_plan a_t_box a_t_instead a_t_flakes a_t_tired a_t_image a_t_isKept t_signs t_parts t_swings t_saltFirst t_paceOfAll t_ice t_salt t_brine t_cold t_warm t_frozen t_layer t_air t_churned t_held t_heldFirst t_stiffWanted t_stiffFirst t_how t_strong t_plan t_box t_image t_isKept)) (POSTi (dC, dI) R.1 sz (woX9_image cI cZ a_t a_t_how a_t_strong a_t_pad a_t_plan a_t_box a_t_instead a_t_flakes a_t_tired a_t_image a_t_isKept t_signs t_parts t_swings t_saltFirst t_paceOfAll t_ice t_salt t_brine t_cold t_warm t_frozen t_layer t_air t_churned t_held t_heldFirst t_stiffWanted t_stiffFirst t_how t_strong t_plan t_box t_image t_isKept) (woX9_image cI cZ a_t a_t_how a_t_strong a_t_pad a_t_plan a_t_box a_t_instead a_t_flakes a_t_tired a_t_image a_t_isKept t_signs t_parts t_swings t_saltFirst t_paceOfAll t_ice t_salt t_brine t_cold t_warm t_frozen t_layer t_air t_churned t_held t_heldFirst t_stiffWanted t_stiffFirst t_how t_strong t_plan t_box R.2.1 R.2.2)) 0 0 (va_A (woX9_image cI cZ a_t a_t_how a_t_strong a_t_pad a_t_plan a_t_box a_t_instead a_t_flakes a_t_tired a_t_image a_t_isKept t_signs t_parts t_swings t_saltFirst t_paceOfAll t_ice t_salt t_brine t_cold t_warm t_frozen t_layer t_air t_churned t_held t_heldFirst t_stiffWanted t_stiffFirst t_how t_strong t_plan t_box t_image t_isKept) sz) := by
  refine Met.ofW (cc := cX9_image) (maxL := 4) (ret := (some .int)) (by decide) rfl ?_
  intro p e s m args below meth c s₁ B hml hv
  obtain ⟨rfl, hv⟩ := hv
  have hG := hg_of hv
  obtain ⟨hsz, hP, -, hD0, -⟩ := hv
  have hx := B.exec
  have hb := B.bytes
  have hr := B.returns
  have hlk := B.notSynchronized
  have hown : s.vm.findClass RX9 = some m.cls := findClass_of_methodNamed B.named
  have hD := hD0.self (sz := sz)
  have hS : va_S (va_A (woX9_image cI cZ a_t a_t_how a_t_strong a_t_pad a_t_plan a_t_box a_t_instead a_t_flakes a_t_tired a_t_image a_t_isKept t_signs t_parts t_swings t_saltFirst t_paceOfAll t_ice t_salt t_brine t_cold t_warm t_frozen t_layer t_air t_churned t_held t_heldFirst t_stiffWanted t_stiffFirst t_how t_strong t_plan t_box t_image t_isKept) sz) s.heap s.heap [] := va_S.rf
  have L108 : ∀ (fu : Nat) (y1 : Int32) (y2 : Int32) (y3 : Int32) (v_t_image : Nat → Int32) (v_t_isKept : Nat → Int32) (H : Heap) (locs : List Loc) (ls : Array Slot), f_X9_image_L108 t_parts t_swings t_how t_strong t_plan t_box fu y1 y2 y3 v_t_image v_t_isKept = some R → va_P (dC, dI) vwCl (woX9_image cI cZ a_t a_t_how a_t_strong a_t_pad a_t_plan a_t_box a_t_instead a_t_flakes a_t_tired a_t_image a_t_isKept t_signs t_parts t_swings t_saltFirst t_paceOfAll t_ice t_salt t_brine t_cold t_warm t_frozen t_layer t_air t_churned t_held t_heldFirst t_stiffWanted t_stiffFirst t_how t_strong t_plan t_box v_t_image v_t_isKept) H → va_D (va_A (woX9_image cI cZ a_t a_t_how a_t_strong a_t_pad a_t_plan a_t_box a_t_instead a_t_flakes a_t_tired a_t_image a_t_isKept t_signs t_parts t_swings t_saltFirst t_paceOfAll t_ice t_salt t_brine t_cold t_warm t_frozen t_layer t_air t_churned t_held t_heldFirst t_stiffWanted t_stiffFirst t_how t_strong t_plan t_box t_image t_isKept) sz) (woX9_image cI cZ a_t a_t_how a_t_strong a_t_pad a_t_plan a_t_box a_t_instead a_t_flakes a_t_tired a_t_image a_t_isKept t_signs t_parts t_swings t_saltFirst t_paceOfAll t_ice t_salt t_brine t_cold t_warm t_frozen t_layer t_air t_churned t_held t_heldFirst t_stiffWanted t_stiffFirst t_how t_strong t_plan t_box v_t_image v_t_isKept) → va_S (va_A (woX9_image cI cZ a_t a_t_how a_t_strong a_t_pad a_t_plan a_t_box a_t_instead a_t_flakes a_t_tired a_t_image a_t_isKept t_signs t_parts t_swings t_saltFirst t_paceOfAll t_ice t_salt t_brine t_cold t_warm t_frozen t_layer t_air t_churned t_held t_heldFirst t_stiffWanted t_stiffFirst t_how t_strong t_plan t_box t_image t_isKept) sz) s.heap H locs → lv_has ls 4 [(0, .ref a_t), (1, .int y1), (2, .int y2), (3, .int y3)] → W p l e (headSpec wyX9_image rmX9_image).room s m ([Value.ref a_t, Value.int x1] : List Value).toArray below meth c H locs 0 0 (MQ below (POSTi (dC, dI) R.1 sz (woX9_image cI cZ a_t a_t_how a_t_strong a_t_pad a_t_plan a_t_box a_t_instead a_t_flakes a_t_tired a_t_image a_t_isKept t_signs t_parts t_swings t_saltFirst t_paceOfAll t_ice t_salt t_brine t_cold t_warm t_frozen t_layer t_air t_churned t_held t_heldFirst t_stiffWanted t_stiffFirst t_how t_strong t_plan t_box t_image t_isKept) (woX9_image cI cZ a_t a_t_how a_t_strong a_t_pad a_t_plan a_t_box a_t_instead a_t_flakes a_t_tired a_t_image a_t_isKept t_signs t_parts t_swings t_saltFirst t_paceOfAll t_ice t_salt t_brine t_cold t_warm t_frozen t_layer t_air t_churned t_held t_heldFirst t_stiffWanted t_stiffFirst t_how t_strong t_plan t_box R.2.1 R.2.2)) ([Value.ref a_t, Value.int x1] : List Value).toArray s 0 0 (va_A (woX9_image cI cZ a_t a_t_how a_t_strong a_t_pad a_t_plan a_t_box a_t_instead a_t_flakes a_t_tired a_t_image a_t_isKept t_signs t_parts t_swings t_saltFirst t_paceOfAll t_ice t_salt t_brine t_cold t_warm t_frozen t_layer t_air t_churned t_held t_heldFirst t_stiffWanted t_stiffFirst t_how t_strong t_plan t_box t_image t_isKept) sz)) (F0 m 108 ls []) := by
    intro  fu
    induction fu with
    | zero => intro y1 y2 y3 v_t_image v_t_isKept H locs ls hf; cases hf
    | succ fu ih =>
      intro y1 y2 y3 v_t_image v_t_isKept H locs ls hf hP hD hS hl
      rw [f_X9_image_L108] at hf
      refine lv_iload_n hx hb dX9_image_108 rfl (lv_at hl 3 rfl) ?_
      refine lv_bipush (v := 40) hx hb dX9_image_109 (by decide) ?_
      refine lv_icmp_ge (tgt := 137) hx hb dX9_image_111 (by decide) (fun c1 => ?_) (fun c1 => ?_)
      · have hf := (if_pos c1).symm.trans hf
        refine lv_aload_n hx hb dX9_image_137 rfl (lv_at hl 0 rfl) ?_
        refine mg (ci := 9) 0 26 hx hb hG igX9 hown hP rfl rfl (by decide) (wd_3_158 hG.2.1) rfl rfl dX9_image_138 ?_
        refine lv_iload_n hx hb dX9_image_141 rfl (lv_at hl 2 rfl) ?_
        refine lv_bipush (v := 112) hx hb dX9_image_142 (by decide) ?_
        refine lv_iadd hx hb dX9_image_144 ?_
        refine lv_aload_n hx hb dX9_image_145 rfl (lv_at hl 0 rfl) ?_
        refine mg (ci := 9) 0 4 hx hb hG igX9 hown hP rfl rfl (by decide) (wd_3_136 hG.2.1) rfl rfl dX9_image_146 ?_
        obtain ⟨g2, hf⟩ := gd_some hf
        refine mas (wN := (woX9_image cI cZ a_t a_t_how a_t_strong a_t_pad a_t_plan a_t_box a_t_instead a_t_flakes a_t_tired a_t_image a_t_isKept t_signs t_parts t_swings t_saltFirst t_paceOfAll t_ice t_salt t_brine t_cold t_warm t_frozen t_layer t_air t_churned t_held t_heldFirst t_stiffWanted t_stiffFirst t_how t_strong t_plan t_box (upd v_t_image ((y2 + (112 : Int32))).toNatClampNeg t_parts) v_t_isKept)) 5 hx hb hG hP hD hS rfl g2 rfl dX9_image_149 (fun H locs hP hD hS => ?_)
        refine lv_aload_n hx hb dX9_image_150 rfl (lv_at hl 0 rfl) ?_
        refine mg (ci := 9) 0 26 hx hb hG igX9 hown hP rfl rfl (by decide) (wd_3_158 hG.2.1) rfl rfl dX9_image_151 ?_
        refine lv_iload_n hx hb dX9_image_154 rfl (lv_at hl 2 rfl) ?_
        refine lv_bipush (v := 113) hx hb dX9_image_155 (by decide) ?_
        refine lv_iadd hx hb dX9_image_157 ?_
        refine lv_aload_n hx hb dX9_image_158 rfl (lv_at hl 0 rfl) ?_
        refine mg (ci := 9) 0 6 hx hb hG igX9 hown hP rfl rfl (by decide) (wd_3_138 hG.2.1) rfl rfl dX9_image_159 ?_
        obtain ⟨g3, hf⟩ := gd_some hf
        refine mas (wN := (woX9_image cI cZ a_t a_t_how a_t_strong a_t_pad a_t_plan a_t_box a_t_instead a_t_flakes a_t_tired a_t_image a_t_isKept t_signs t_parts t_swings t_saltFirst t_paceOfAll t_ice t_salt t_brine t_cold t_warm t_frozen t_layer t_air t_churned t_held t_heldFirst t_stiffWanted t_stiffFirst t_how t_strong t_plan t_box (upd (upd v_t_image ((y2 + (112 : Int32))).toNatClampNeg t_parts) ((y2 + (113 : Int32))).toNatClampNeg t_swings) v_t_isKept)) 5 hx hb hG hP hD hS rfl g3 rfl dX9_image_162 (fun H locs hP hD hS => ?_)
        refine lv_aload_n hx hb dX9_image_163 rfl (lv_at hl 0 rfl) ?_
        refine mg (ci := 9) 0 27 hx hb hG igX9 hown hP rfl rfl (by decide) (wd_3_159 hG.2.1) rfl rfl dX9_image_164 ?_
        refine lv_iload_n hx hb dX9_image_167 rfl (lv_at hl 1 rfl) ?_
        refine lv_iconst (v := 1) hx hb dX9_image_168 (by decide) ?_
        obtain ⟨g4, hf⟩ := gd_some hf
        refine mzs (wN := (woX9_image cI cZ a_t a_t_how a_t_strong a_t_pad a_t_plan a_t_box a_t_instead a_t_flakes a_t_tired a_t_image a_t_isKept t_signs t_parts t_swings t_saltFirst t_paceOfAll t_ice t_salt t_brine t_cold t_warm t_frozen t_layer t_air t_churned t_held t_heldFirst t_stiffWanted t_stiffFirst t_how t_strong t_plan t_box (upd (upd v_t_image ((y2 + (112 : Int32))).toNatClampNeg t_parts) ((y2 + (113 : Int32))).toNatClampNeg t_swings) (upd v_t_isKept (y1).toNatClampNeg (vp_nar .boolean (1 : Int32))))) 6 hx hb hG hP hD hS rfl g4 rfl dX9_image_169 (fun H locs hP hD hS => ?_)
        refine lv_iconst (v := 1) hx hb dX9_image_170 (by decide) ?_
        have hR := Option.some.inj hf
        rw [← hR]
        exact rt_i hx hb hr hlk hsz hP hD hS rfl rfl dX9_image_171
      · have hf := (if_neg c1).symm.trans hf
        refine lv_aload_n hx hb dX9_image_114 rfl (lv_at hl 0 rfl) ?_
        refine mg (ci := 9) 0 26 hx hb hG igX9 hown hP rfl rfl (by decide) (wd_3_158 hG.2.1) rfl rfl dX9_image_115 ?_
        refine lv_iload_n hx hb dX9_image_118 rfl (lv_at hl 2 rfl) ?_
        refine lv_bipush (v := 72) hx hb dX9_image_119 (by decide) ?_
        refine lv_iadd hx hb dX9_image_121 ?_
        refine lv_iload_n hx hb dX9_image_122 rfl (lv_at hl 3 rfl) ?_
        refine lv_iadd hx hb dX9_image_123 ?_
        refine lv_aload_n hx hb dX9_image_124 rfl (lv_at hl 0 rfl) ?_
        refine mg (ci := 9) 0 7 hx hb hG igX9 hown hP rfl rfl (by decide) (wd_3_139 hG.2.1) rfl rfl dX9_image_125 ?_
        refine lv_iload_n hx hb dX9_image_128 rfl (lv_at hl 3 rfl) ?_
        obtain ⟨g5, hf⟩ := gd_some hf
        refine mal 4 hx hb hG hP rfl g5 dX9_image_129 ?_
        obtain ⟨g6, hf⟩ := gd_some hf
        refine mas (wN := (woX9_image cI cZ a_t a_t_how a_t_strong a_t_pad a_t_plan a_t_box a_t_instead a_t_flakes a_t_tired a_t_image a_t_isKept t_signs t_parts t_swings t_saltFirst t_paceOfAll t_ice t_salt t_brine t_cold t_warm t_frozen t_layer t_air t_churned t_held t_heldFirst t_stiffWanted t_stiffFirst t_how t_strong t_plan t_box (upd v_t_image (((y2 + (72 : Int32)) + y3)).toNatClampNeg (t_box (y3).toNatClampNeg)) v_t_isKept)) 5 hx hb hG hP hD hS rfl g6 rfl dX9_image_130 (fun H locs hP hD hS => ?_)
        refine lv_iinc (v := (y3 + (1 : Int32))) (lv' := [(3, .int (y3 + (1 : Int32))), (0, .ref a_t), (1, .int y1), (2, .int y2)]) hx hb dX9_image_131 hl (k := 3) rfl rfl (by decide) rfl (fun ls hl => ?_)
        refine lv_goto (tgt := 108) hx hb dX9_image_134 (by decide) ?_
        exact ih y1 y2 (y3 + (1 : Int32)) (upd v_t_image (((y2 + (72 : Int32)) + y3)).toNatClampNeg (t_box (y3).toNatClampNeg)) v_t_isKept _ _ _ hf hP hD hS (lv_sub hl [1, 2, 3, 0] rfl)
  have L77 : ∀ (fu : Nat) (y1 : Int32) (y2 : Int32) (y3 : Int32) (v_t_image : Nat → Int32) (v_t_isKept : Nat → Int32) (H : Heap) (locs : List Loc) (ls : Array Slot), f_X9_image_L77 t_parts t_swings t_how t_strong t_plan t_box fu y1 y2 y3 v_t_image v_t_isKept = some R → va_P (dC, dI) vwCl (woX9_image cI cZ a_t a_t_how a_t_strong a_t_pad a_t_plan a_t_box a_t_instead a_t_flakes a_t_tired a_t_image a_t_isKept t_signs t_parts t_swings t_saltFirst t_paceOfAll t_ice t_salt t_brine t_cold t_warm t_frozen t_layer t_air t_churned t_held t_heldFirst t_stiffWanted t_stiffFirst t_how t_strong t_plan t_box v_t_image v_t_isKept) H → va_D (va_A (woX9_image cI cZ a_t a_t_how a_t_strong a_t_pad a_t_plan a_t_box a_t_instead a_t_flakes a_t_tired a_t_image a_t_isKept t_signs t_parts t_swings t_saltFirst t_paceOfAll t_ice t_salt t_brine t_cold t_warm t_frozen t_layer t_air t_churned t_held t_heldFirst t_stiffWanted t_stiffFirst t_how t_strong t_plan t_box t_image t_isKept) sz) (woX9_image cI cZ a_t a_t_how a_t_strong a_t_pad a_t_plan a_t_box a_t_instead a_t_flakes a_t_tired a_t_image a_t_isKept t_signs t_parts t_swings t_saltFirst t_paceOfAll t_ice t_salt t_brine t_cold t_warm t_frozen t_layer t_air t_churned t_held t_heldFirst t_stiffWanted t_stiffFirst t_how t_strong t_plan t_box v_t_image v_t_isKept) → va_S (va_A (woX9_image cI cZ a_t a_t_how a_t_strong a_t_pad a_t_plan a_t_box a_t_instead a_t_flakes a_t_tired a_t_image a_t_isKept t_signs t_parts t_swings t_saltFirst t_paceOfAll t_ice t_salt t_brine t_cold t_warm t_frozen t_layer t_air t_churned t_held t_heldFirst t_stiffWanted t_stiffFirst t_how t_strong t_plan t_box t_image t_isKept) sz) s.heap H locs → lv_has ls 4 [(0, .ref a_t), (1, .int y1), (2, .int y2), (3, .int y3)] → W p l e (headSpec wyX9_image rmX9_image).room s m ([Value.ref a_t, Value.int x1] : List Value).toArray below meth c H locs 0 0 (MQ below (POSTi (dC, dI) R.1 sz (woX9_image cI cZ a_t a_t_how a_t_strong a_t_pad a_t_plan a_t_box a_t_instead a_t_flakes a_t_tired a_t_image a_t_isKept t_signs t_parts t_swings t_saltFirst t_paceOfAll t_ice t_salt t_brine t_cold t_warm t_frozen t_layer t_air t_churned t_held t_heldFirst t_stiffWanted t_stiffFirst t_how t_strong t_plan t_box t_image t_isKept) (woX9_image cI cZ a_t a_t_how a_t_strong a_t_pad a_t_plan a_t_box a_t_instead a_t_flakes a_t_tired a_t_image a_t_isKept t_signs t_parts t_swings t_saltFirst t_paceOfAll t_ice t_salt t_brine t_cold t_warm t_frozen t_layer t_air t_churned t_held t_heldFirst t_stiffWanted t_stiffFirst t_how t_strong t_plan t_box R.2.1 R.2.2)) ([Value.ref a_t, Value.int x1] : List Value).toArray s 0 0 (va_A (woX9_image cI cZ a_t a_t_how a_t_strong a_t_pad a_t_plan a_t_box a_t_instead a_t_flakes a_t_tired a_t_image a_t_isKept t_signs t_parts t_swings t_saltFirst t_paceOfAll t_ice t_salt t_brine t_cold t_warm t_frozen t_layer t_air t_churned t_held t_heldFirst t_stiffWanted t_stiffFirst t_how t_strong t_plan t_box t_image t_isKept) sz)) (F0 m 77 ls []) := by
    intro  fu
    induction fu with
    | zero => intro y1 y2 y3 v_t_image v_t_isKept H locs ls hf; cases hf
    | succ fu ih =>
      intro y1 y2 y3 v_t_image v_t_isKept H locs ls hf hP hD hS hl
      rw [f_X9_image_L77] at hf
      refine lv_iload_n hx hb dX9_image_77 rfl (lv_at hl 3 rfl) ?_
      refine lv_bipush (v := 60) hx hb dX9_image_78 (by decide) ?_
      refine lv_icmp_ge (tgt := 106) hx hb dX9_image_80 (by decide) (fun c7 => ?_) (fun c7 => ?_)
      · have hf := (if_pos c7).symm.trans hf
        refine lv_iconst (v := 0) hx hb dX9_image_106 (by decide) ?_
        refine lv_istore_n (lv' := [(3, .int (0 : Int32)), (0, .ref a_t), (1, .int y1), (2, .int y2)]) hx hb dX9_image_107 rfl hl (by decide) rfl (fun ls hl => ?_)
        exact L108 FU y1 y2 (0 : Int32) v_t_image v_t_isKept _ _ _ hf hP hD hS (lv_sub hl [1, 2, 3, 0] rfl)
      · have hf := (if_neg c7).symm.trans hf
        refine lv_aload_n hx hb dX9_image_83 rfl (lv_at hl 0 rfl) ?_
        refine mg (ci := 9) 0 26 hx hb hG igX9 hown hP rfl rfl (by decide) (wd_3_158 hG.2.1) rfl rfl dX9_image_84 ?_
        refine lv_iload_n hx hb dX9_image_87 rfl (lv_at hl 2 rfl) ?_
        refine lv_bipush (v := 12) hx hb dX9_image_88 (by decide) ?_
        refine lv_iadd hx hb dX9_image_90 ?_
        refine lv_iload_n hx hb dX9_image_91 rfl (lv_at hl 3 rfl) ?_
        refine lv_iadd hx hb dX9_image_92 ?_
        refine lv_aload_n hx hb dX9_image_93 rfl (lv_at hl 0 rfl) ?_
        refine mg (ci := 9) 0 5 hx hb hG igX9 hown hP rfl rfl (by decide) (wd_3_137 hG.2.1) rfl rfl dX9_image_94 ?_
        refine lv_iload_n hx hb dX9_image_97 rfl (lv_at hl 3 rfl) ?_
        obtain ⟨g8, hf⟩ := gd_some hf
        refine mal 3 hx hb hG hP rfl g8 dX9_image_98 ?_
        obtain ⟨g9, hf⟩ := gd_some hf
        refine mas (wN := (woX9_image cI cZ a_t a_t_how a_t_strong a_t_pad a_t_plan a_t_box a_t_instead a_t_flakes a_t_tired a_t_image a_t_isKept t_signs t_parts t_swings t_saltFirst t_paceOfAll t_ice t_salt t_brine t_cold t_warm t_frozen t_layer t_air t_churned t_held t_heldFirst t_stiffWanted t_stiffFirst t_how t_strong t_plan t_box (upd v_t_image (((y2 + (12 : Int32)) + y3)).toNatClampNeg (t_plan (y3).toNatClampNeg)) v_t_isKept)) 5 hx hb hG hP hD hS rfl g9 rfl dX9_image_99 (fun H locs hP hD hS => ?_)
        refine lv_iinc (v := (y3 + (1 : Int32))) (lv' := [(3, .int (y3 + (1 : Int32))), (0, .ref a_t), (1, .int y1), (2, .int y2)]) hx hb dX9_image_100 hl (k := 3) rfl rfl (by decide) rfl (fun ls hl => ?_)
        refine lv_goto (tgt := 77) hx hb dX9_image_103 (by decide) ?_
        exact ih y1 y2 (y3 + (1 : Int32)) (upd v_t_image (((y2 + (12 : Int32)) + y3)).toNatClampNeg (t_plan (y3).toNatClampNeg)) v_t_isKept _ _ _ hf hP hD hS (lv_sub hl [1, 2, 3, 0] rfl)
  have L47 : ∀ (fu : Nat) (y1 : Int32) (y2 : Int32) (y3 : Int32) (v_t_image : Nat → Int32) (v_t_isKept : Nat → Int32) (H : Heap) (locs : List Loc) (ls : Array Slot), f_X9_image_L47 t_parts t_swings t_how t_strong t_plan t_box fu y1 y2 y3 v_t_image v_t_isKept = some R → va_P (dC, dI) vwCl (woX9_image cI cZ a_t a_t_how a_t_strong a_t_pad a_t_plan a_t_box a_t_instead a_t_flakes a_t_tired a_t_image a_t_isKept t_signs t_parts t_swings t_saltFirst t_paceOfAll t_ice t_salt t_brine t_cold t_warm t_frozen t_layer t_air t_churned t_held t_heldFirst t_stiffWanted t_stiffFirst t_how t_strong t_plan t_box v_t_image v_t_isKept) H → va_D (va_A (woX9_image cI cZ a_t a_t_how a_t_strong a_t_pad a_t_plan a_t_box a_t_instead a_t_flakes a_t_tired a_t_image a_t_isKept t_signs t_parts t_swings t_saltFirst t_paceOfAll t_ice t_salt t_brine t_cold t_warm t_frozen t_layer t_air t_churned t_held t_heldFirst t_stiffWanted t_stiffFirst t_how t_strong t_plan t_box t_image t_isKept) sz) (woX9_image cI cZ a_t a_t_how a_t_strong a_t_pad a_t_plan a_t_box a_t_instead a_t_flakes a_t_tired a_t_image a_t_isKept t_signs t_parts t_swings t_saltFirst t_paceOfAll t_ice t_salt t_brine t_cold t_warm t_frozen t_layer t_air t_churned t_held t_heldFirst t_stiffWanted t_stiffFirst t_how t_strong t_plan t_box v_t_image v_t_isKept) → va_S (va_A (woX9_image cI cZ a_t a_t_how a_t_strong a_t_pad a_t_plan a_t_box a_t_instead a_t_flakes a_t_tired a_t_image a_t_isKept t_signs t_parts t_swings t_saltFirst t_paceOfAll t_ice t_salt t_brine t_cold t_warm t_frozen t_layer t_air t_churned t_held t_heldFirst t_stiffWanted t_stiffFirst t_how t_strong t_plan t_box t_image t_isKept) sz) s.heap H locs → lv_has ls 4 [(0, .ref a_t), (1, .int y1), (2, .int y2), (3, .int y3)] → W p l e (headSpec wyX9_image rmX9_image).room s m ([Value.ref a_t, Value.int x1] : List Value).toArray below meth c H locs 0 0 (MQ below (POSTi (dC, dI) R.1 sz (woX9_image cI cZ a_t a_t_how a_t_strong a_t_pad a_t_plan a_t_box a_t_instead a_t_flakes a_t_tired a_t_image a_t_isKept t_signs t_parts t_swings t_saltFirst t_paceOfAll t_ice t_salt t_brine t_cold t_warm t_frozen t_layer t_air t_churned t_held t_heldFirst t_stiffWanted t_stiffFirst t_how t_strong t_plan t_box t_image t_isKept) (woX9_image cI cZ a_t a_t_how a_t_strong a_t_pad a_t_plan a_t_box a_t_instead a_t_flakes a_t_tired a_t_image a_t_isKept t_signs t_parts t_swings t_saltFirst t_paceOfAll t_ice t_salt t_brine t_cold t_warm t_frozen t_layer t_air t_churned t_held t_heldFirst t_stiffWanted t_stiffFirst t_how t_strong t_plan t_box R.2.1 R.2.2)) ([Value.ref a_t, Value.int x1] : List Value).toArray s 0 0 (va_A (woX9_image cI cZ a_t a_t_how a_t_strong a_t_pad a_t_plan a_t_box a_t_instead a_t_flakes a_t_tired a_t_image a_t_isKept t_signs t_parts t_swings t_saltFirst t_paceOfAll t_ice t_salt t_brine t_cold t_warm t_frozen t_layer t_air t_churned t_held t_heldFirst t_stiffWanted t_stiffFirst t_how t_strong t_plan t_box t_image t_isKept) sz)) (F0 m 47 ls []) := by
    intro  fu
    induction fu with
    | zero => intro y1 y2 y3 v_t_image v_t_isKept H locs ls hf; cases hf
    | succ fu ih =>
      intro y1 y2 y3 v_t_image v_t_isKept H locs ls hf hP hD hS hl
      rw [f_X9_image_L47] at hf
      refine lv_iload_n hx hb dX9_image_47 rfl (lv_at hl 3 rfl) ?_
      refine lv_iconst (v := 4) hx hb dX9_image_48 (by decide) ?_
      refine lv_icmp_ge (tgt := 75) hx hb dX9_image_49 (by decide) (fun c10 => ?_) (fun c10 => ?_)
      · have hf := (if_pos c10).symm.trans hf
        refine lv_iconst (v := 0) hx hb dX9_image_75 (by decide) ?_
        refine lv_istore_n (lv' := [(3, .int (0 : Int32)), (0, .ref a_t), (1, .int y1), (2, .int y2)]) hx hb dX9_image_76 rfl hl (by decide) rfl (fun ls hl => ?_)
        exact L77 FU y1 y2 (0 : Int32) v_t_image v_t_isKept _ _ _ hf hP hD hS (lv_sub hl [1, 2, 3, 0] rfl)
      · have hf := (if_neg c10).symm.trans hf
        refine lv_aload_n hx hb dX9_image_52 rfl (lv_at hl 0 rfl) ?_
        refine mg (ci := 9) 0 26 hx hb hG igX9 hown hP rfl rfl (by decide) (wd_3_158 hG.2.1) rfl rfl dX9_image_53 ?_
        refine lv_iload_n hx hb dX9_image_56 rfl (lv_at hl 2 rfl) ?_
        refine lv_bipush (v := 8) hx hb dX9_image_57 (by decide) ?_
        refine lv_iadd hx hb dX9_image_59 ?_
        refine lv_iload_n hx hb dX9_image_60 rfl (lv_at hl 3 rfl) ?_
        refine lv_iadd hx hb dX9_image_61 ?_
        refine lv_aload_n hx hb dX9_image_62 rfl (lv_at hl 0 rfl) ?_
        refine mg (ci := 9) 0 1 hx hb hG igX9 hown hP rfl rfl (by decide) (wd_3_133 hG.2.1) rfl rfl dX9_image_63 ?_
        refine lv_iload_n hx hb dX9_image_66 rfl (lv_at hl 3 rfl) ?_
        obtain ⟨g11, hf⟩ := gd_some hf
        refine mal 2 hx hb hG hP rfl g11 dX9_image_67 ?_
        obtain ⟨g12, hf⟩ := gd_some hf
        refine mas (wN := (woX9_image cI cZ a_t a_t_how a_t_strong a_t_pad a_t_plan a_t_box a_t_instead a_t_flakes a_t_tired a_t_image a_t_isKept t_signs t_parts t_swings t_saltFirst t_paceOfAll t_ice t_salt t_brine t_cold t_warm t_frozen t_layer t_air t_churned t_held t_heldFirst t_stiffWanted t_stiffFirst t_how t_strong t_plan t_box (upd v_t_image (((y2 + (8 : Int32)) + y3)).toNatClampNeg (t_strong (y3).toNatClampNeg)) v_t_isKept)) 5 hx hb hG hP hD hS rfl g12 rfl dX9_image_68 (fun H locs hP hD hS => ?_)
        refine lv_iinc (v := (y3 + (1 : Int32))) (lv' := [(3, .int (y3 + (1 : Int32))), (0, .ref a_t), (1, .int y1), (2, .int y2)]) hx hb dX9_image_69 hl (k := 3) rfl rfl (by decide) rfl (fun ls hl => ?_)
        refine lv_goto (tgt := 47) hx hb dX9_image_72 (by decide) ?_
        exact ih y1 y2 (y3 + (1 : Int32)) (upd v_t_image (((y2 + (8 : Int32)) + y3)).toNatClampNeg (t_strong (y3).toNatClampNeg)) v_t_isKept _ _ _ hf hP hD hS (lv_sub hl [1, 2, 3, 0] rfl)
  have L19 : ∀ (fu : Nat) (y1 : Int32) (y2 : Int32) (y3 : Int32) (v_t_image : Nat → Int32) (v_t_isKept : Nat → Int32) (H : Heap) (locs : List Loc) (ls : Array Slot), f_X9_image_L19 t_parts t_swings t_how t_strong t_plan t_box fu y1 y2 y3 v_t_image v_t_isKept = some R → va_P (dC, dI) vwCl (woX9_image cI cZ a_t a_t_how a_t_strong a_t_pad a_t_plan a_t_box a_t_instead a_t_flakes a_t_tired a_t_image a_t_isKept t_signs t_parts t_swings t_saltFirst t_paceOfAll t_ice t_salt t_brine t_cold t_warm t_frozen t_layer t_air t_churned t_held t_heldFirst t_stiffWanted t_stiffFirst t_how t_strong t_plan t_box v_t_image v_t_isKept) H → va_D (va_A (woX9_image cI cZ a_t a_t_how a_t_strong a_t_pad a_t_plan a_t_box a_t_instead a_t_flakes a_t_tired a_t_image a_t_isKept t_signs t_parts t_swings t_saltFirst t_paceOfAll t_ice t_salt t_brine t_cold t_warm t_frozen t_layer t_air t_churned t_held t_heldFirst t_stiffWanted t_stiffFirst t_how t_strong t_plan t_box t_image t_isKept) sz) (woX9_image cI cZ a_t a_t_how a_t_strong a_t_pad a_t_plan a_t_box a_t_instead a_t_flakes a_t_tired a_t_image a_t_isKept t_signs t_parts t_swings t_saltFirst t_paceOfAll t_ice t_salt t_brine t_cold t_warm t_frozen t_layer t_air t_churned t_held t_heldFirst t_stiffWanted t_stiffFirst t_how t_strong t_plan t_box v_t_image v_t_isKept) → va_S (va_A (woX9_image cI cZ a_t a_t_how a_t_strong a_t_pad a_t_plan a_t_box a_t_instead a_t_flakes a_t_tired a_t_image a_t_isKept t_signs t_parts t_swings t_saltFirst t_paceOfAll t_ice t_salt t_brine t_cold t_warm t_frozen t_layer t_air t_churned t_held t_heldFirst t_stiffWanted t_stiffFirst t_how t_strong t_plan t_box t_image t_isKept) sz) s.heap H locs → lv_has ls 4 [(0, .ref a_t), (1, .int y1), (2, .int y2), (3, .int y3)] → W p l e (headSpec wyX9_image rmX9_image).room s m ([Value.ref a_t, Value.int x1] : List Value).toArray below meth c H locs 0 0 (MQ below (POSTi (dC, dI) R.1 sz (woX9_image cI cZ a_t a_t_how a_t_strong a_t_pad a_t_plan a_t_box a_t_instead a_t_flakes a_t_tired a_t_image a_t_isKept t_signs t_parts t_swings t_saltFirst t_paceOfAll t_ice t_salt t_brine t_cold t_warm t_frozen t_layer t_air t_churned t_held t_heldFirst t_stiffWanted t_stiffFirst t_how t_strong t_plan t_box t_image t_isKept) (woX9_image cI cZ a_t a_t_how a_t_strong a_t_pad a_t_plan a_t_box a_t_instead a_t_flakes a_t_tired a_t_image a_t_isKept t_signs t_parts t_swings t_saltFirst t_paceOfAll t_ice t_salt t_brine t_cold t_warm t_frozen t_layer t_air t_churned t_held t_heldFirst t_stiffWanted t_stiffFirst t_how t_strong t_plan t_box R.2.1 R.2.2)) ([Value.ref a_t, Value.int x1] : List Value).toArray s 0 0 (va_A (woX9_image cI cZ a_t a_t_how a_t_strong a_t_pad a_t_plan a_t_box a_t_instead a_t_flakes a_t_tired a_t_image a_t_isKept t_signs t_parts t_swings t_saltFirst t_paceOfAll t_ice t_salt t_brine t_cold t_warm t_frozen t_layer t_air t_churned t_held t_heldFirst t_stiffWanted t_stiffFirst t_how t_strong t_plan t_box t_image t_isKept) sz)) (F0 m 19 ls []) := by
    intro  fu
    induction fu with
    | zero => intro y1 y2 y3 v_t_image v_t_isKept H locs ls hf; cases hf
    | succ fu ih =>
      intro y1 y2 y3 v_t_image v_t_isKept H locs ls hf hP hD hS hl
      rw [f_X9_image_L19] at hf
      refine lv_iload_n hx hb dX9_image_19 rfl (lv_at hl 3 rfl) ?_
      refine lv_bipush (v := 8) hx hb dX9_image_20 (by decide) ?_
      refine lv_icmp_ge (tgt := 45) hx hb dX9_image_22 (by decide) (fun c13 => ?_) (fun c13 => ?_)
      · have hf := (if_pos c13).symm.trans hf
        refine lv_iconst (v := 0) hx hb dX9_image_45 (by decide) ?_
        refine lv_istore_n (lv' := [(3, .int (0 : Int32)), (0, .ref a_t), (1, .int y1), (2, .int y2)]) hx hb dX9_image_46 rfl hl (by decide) rfl (fun ls hl => ?_)
        exact L47 FU y1 y2 (0 : Int32) v_t_image v_t_isKept _ _ _ hf hP hD hS (lv_sub hl [1, 2, 3, 0] rfl)
      · have hf := (if_neg c13).symm.trans hf
        refine lv_aload_n hx hb dX9_image_25 rfl (lv_at hl 0 rfl) ?_
        refine mg (ci := 9) 0 26 hx hb hG igX9 hown hP rfl rfl (by decide) (wd_3_158 hG.2.1) rfl rfl dX9_image_26 ?_
        refine lv_iload_n hx hb dX9_image_29 rfl (lv_at hl 2 rfl) ?_
        refine lv_iload_n hx hb dX9_image_30 rfl (lv_at hl 3 rfl) ?_
        refine lv_iadd hx hb dX9_image_31 ?_
        refine lv_aload_n hx hb dX9_image_32 rfl (lv_at hl 0 rfl) ?_
        refine mg (ci := 9) 0 0 hx hb hG igX9 hown hP rfl rfl (by decide) (wd_3_132 hG.2.1) rfl rfl dX9_image_33 ?_
        refine lv_iload_n hx hb dX9_image_36 rfl (lv_at hl 3 rfl) ?_
        obtain ⟨g14, hf⟩ := gd_some hf
        refine mal 1 hx hb hG hP rfl g14 dX9_image_37 ?_
        obtain ⟨g15, hf⟩ := gd_some hf
        refine mas (wN := (woX9_image cI cZ a_t a_t_how a_t_strong a_t_pad a_t_plan a_t_box a_t_instead a_t_flakes a_t_tired a_t_image a_t_isKept t_signs t_parts t_swings t_saltFirst t_paceOfAll t_ice t_salt t_brine t_cold t_warm t_frozen t_layer t_air t_churned t_held t_heldFirst t_stiffWanted t_stiffFirst t_how t_strong t_plan t_box (upd v_t_image ((y2 + y3)).toNatClampNeg (t_how (y3).toNatClampNeg)) v_t_isKept)) 5 hx hb hG hP hD hS rfl g15 rfl dX9_image_38 (fun H locs hP hD hS => ?_)
        refine lv_iinc (v := (y3 + (1 : Int32))) (lv' := [(3, .int (y3 + (1 : Int32))), (0, .ref a_t), (1, .int y1), (2, .int y2)]) hx hb dX9_image_39 hl (k := 3) rfl rfl (by decide) rfl (fun ls hl => ?_)
        refine lv_goto (tgt := 19) hx hb dX9_image_42 (by decide) ?_
        exact ih y1 y2 (y3 + (1 : Int32)) (upd v_t_image ((y2 + y3)).toNatClampNeg (t_how (y3).toNatClampNeg)) v_t_isKept _ _ _ hf hP hD hS (lv_sub hl [1, 2, 3, 0] rfl)
  have hl := lv_entry ([.ref a_t, .int x1]) (n := 4) (Nat.le_of_ble_eq_true rfl)
  rw [lg_entry_eq]
  generalize (lg_sl ([.ref a_t, .int x1]) ++ List.replicate (4 - (lg_sl ([.ref a_t, .int x1])).length) Slot.unset).toArray = ls at hl ⊢
  have hl : lv_has ls 4 [(0, .ref a_t), (1, .int x1)] := hl
  unfold f_X9_image at hf
  refine lv_iload_n hx hb dX9_image_0 rfl (lv_at hl 1 rfl) ?_
  refine lv_iconst (v := 0) hx hb dX9_image_1 (by decide) ?_
  refine lv_iconst (v := 1) hx hb dX9_image_2 (by decide) ?_
  obtain ⟨r3, hc3, hf⟩ := bd1_some hf
  refine cl_Si (r := r3) (As := [.int x1, .int (0 : Int32), .int (1 : Int32)]) (w1 := []) (wN := (woX9_image cI cZ a_t a_t_how a_t_strong a_t_pad a_t_plan a_t_box a_t_instead a_t_flakes a_t_tired a_t_image a_t_isKept t_signs t_parts t_swings t_saltFirst t_paceOfAll t_ice t_salt t_brine t_cold t_warm t_frozen t_layer t_air t_churned t_held t_heldFirst t_stiffWanted t_stiffFirst t_how t_strong t_plan t_box t_image t_isKept)) [] 0 0 (c_X9_in l dC dI cI cZ ts _ x1 (0 : Int32) (1 : Int32) (r3) hc3) ⟨hx, hb, hml, hown, hG.2.1.hts _⟩ ⟨callB_of 3 (hG.2.1.hts _) giX9_in rfl rfl rfl (wd_1_10 hG.2.1) (wd_3_222 hG.2.1) hd_X9_in ⟨Nat.le_of_ble_eq_true rfl, Nat.le_of_ble_eq_true rfl⟩, wd_3_223 hG.2.1⟩ hG hP hD hS rfl rfl rfl rfl rfl hl.1 rfl (Nat.le_of_ble_eq_true rfl) dX9_image_3 ⟨Nat.zero_le _, Nat.zero_le _⟩ (fun H locs hP hD hS => ?_)
  refine lv_if_ne (tgt := 12) hx hb dX9_image_6 (by decide) (fun c16 => ?_) (fun c16 => ?_)
  · have hf := (if_neg c16).symm.trans hf
    refine lv_bipush (v := 115) hx hb dX9_image_12 (by decide) ?_
    refine lv_iload_n hx hb dX9_image_14 rfl (lv_at hl 1 rfl) ?_
    refine lv_imul hx hb dX9_image_15 ?_
    refine lv_istore_n (lv' := [(2, .int ((115 : Int32) * x1)), (0, .ref a_t), (1, .int x1)]) hx hb dX9_image_16 rfl hl (by decide) rfl (fun ls hl => ?_)
    refine lv_iconst (v := 0) hx hb dX9_image_17 (by decide) ?_
    refine lv_istore_n (lv' := [(3, .int (0 : Int32)), (2, .int ((115 : Int32) * x1)), (0, .ref a_t), (1, .int x1)]) hx hb dX9_image_18 rfl hl (by decide) rfl (fun ls hl => ?_)
    exact L19 FU x1 ((115 : Int32) * x1) (0 : Int32) t_image t_isKept _ _ _ hf hP hD hS (lv_sub hl [2, 3, 1, 0] rfl)
  · have hf := (if_pos c16).symm.trans hf
    refine lv_bipush (v := -2) hx hb dX9_image_9 (by decide) ?_
    have hR := Option.some.inj hf
    rw [← hR]
    exact rt_i hx hb hr hlk hsz hP hD hS rfl rfl dX9_image_11
abbrev woX9_restore (cI cZ : ClassId) (a_t a_t_how a_t_strong a_t_pad a_t_plan a_t_box a_t_instead a_t_flakes a_t_tired a_t_image a_t_isKept : Nat) (t_signs : Int32) (t_parts : Int32) (t_swings : Int32) (t_saltFirst : Int32) (t_paceOfAll : Int32) (t_ice : Int32) (t_salt : Int32) (t_brine : Int32) (t_cold : Int32) (t_warm : Int32) (t_frozen : Int32) (t_layer : Int32) (t_air : Int32) (t_churned : Int32) (t_held : Int32) (t_heldFirst : Int32) (t_stiffWanted : Int32) (t_stiffFirst : Int32) (t_how : Nat → Int32) (t_strong : Nat → Int32) (t_plan : Nat → Int32) (t_box : Nat → Int32) (t_image : Nat → Int32) (t_isKept : Nat → Int32) : va_W := [(a_t, .inr (9, [.ref a_t_how, .ref a_t_strong, .int t_signs, .ref a_t_pad, .int t_parts, .ref a_t_plan, .int t_swings, .ref a_t_box, .ref a_t_instead, .int t_saltFirst, .int t_paceOfAll, .int t_ice, .int t_salt, .int t_brine, .int t_cold, .int t_warm, .int t_frozen, .int t_layer, .int t_air, .int t_churned, .ref a_t_flakes, .ref a_t_tired, .int t_held, .int t_heldFirst, .int t_stiffWanted, .int t_stiffFirst, .ref a_t_image, .ref a_t_isKept])), (a_t_how, .inl (cI, 8, .inl t_how)), (a_t_strong, .inl (cI, 4, .inl t_strong)), (a_t_plan, .inl (cI, 60, .inl t_plan)), (a_t_box, .inl (cI, 40, .inl t_box)), (a_t_image, .inl (cI, 230, .inl t_image)), (a_t_isKept, .inl (cZ, 2, .inl t_isKept))]
abbrev rmX9_restore : Room := { frames := 1, cells := 0, slots := 0, locals := 22 }
theorem hd_X9_restore : yX9_restore.cls ≠ "java/lang/invoke/MethodHandle" ∧ yX9_restore.cls ≠ "java/lang/invoke/VarHandle" ∧ (parseMethodDescriptor yX9_restore.desc).map (fun d => d.parameters.length) = some 1 := by decide +kernel
set_option maxHeartbeats 4000000 in
set_option maxRecDepth 100000 in
theorem c_X9_restore (l : Launch) (dC : Nat → ClassId) (dI : Nat → Nat → Nat) (cI cZ : ClassId) (ts : Nat → Nat) (sz : Nat) (a_t a_t_how a_t_strong a_t_pad a_t_plan a_t_box a_t_instead a_t_flakes a_t_tired a_t_image a_t_isKept : Nat) (t_signs : Int32) (t_parts : Int32) (t_swings : Int32) (t_saltFirst : Int32) (t_paceOfAll : Int32) (t_ice : Int32) (t_salt : Int32) (t_brine : Int32) (t_cold : Int32) (t_warm : Int32) (t_frozen : Int32) (t_layer : Int32) (t_air : Int32) (t_churned : Int32) (t_held : Int32) (t_heldFirst : Int32) (t_stiffWanted : Int32) (t_stiffFirst : Int32) (t_how : Nat → Int32) (t_strong : Nat → Int32) (t_plan : Nat → Int32) (t_box : Nat → Int32) (t_image : Nat → Int32) (t_isKept : Nat → Int32) (x1 : Int32) (R : Int32 × Int32 × Int32 × (Nat → Int32) × (Nat → Int32) × (Nat → Int32) × (Nat → Int32)) (hf : f_X9_restore t_parts t_swings t_how t_strong t_plan t_box t_image t_isKept x1 = some R) : Met l yX9_restore wyX9_restore rmX9_restore (PRE (dC, dI) cI cZ ts [.ref a_t, .int x1] sz (woX9_restore cI cZ a_t a_t_how a_t_strong a_t_pad a_t_plan a_t_box a_t_instead a_t_flakes a_t_tired a_t_image a_t_isKept t_signs t_parts t_swings t_saltFirst t_paceOfAll t_ice t_salt t_brine t_cold t_warm t_frozen t_layer t_air t_churned t_held t_heldFirst t_stiffWanted t_stiffFirst t_how t_strong t_plan t_box t_image t_isKept)) (POSTi (dC, dI) R.1 sz (woX9_restore cI cZ a_t a_t_how a_t_strong a_t_pad a_t_plan a_t_box a_t_instead a_t_flakes a_t_tired a_t_image a_t_isKept t_signs t_parts t_swings t_saltFirst t_paceOfAll t_ice t_salt t_brine t_cold t_warm t_frozen t_layer t_air t_churned t_held t_heldFirst t_stiffWanted t_stiffFirst t_how t_strong t_plan t_box t_image t_isKept) (woX9_restore cI cZ a_t a_t_how a_t_strong a_t_pad a_t_plan a_t_box a_t_instead a_t_flakes a_t_tired a_t_image a_t_isKept t_signs R.2.1 R.2.2.1 t_saltFirst t_paceOfAll t_ice t_salt t_brine t_cold t_warm t_frozen t_layer t_air t_churned t_held t_heldFirst t_stiffWanted t_stiffFirst R.2.2.2.1 R.2.2.2.2.1 R.2.2.2.2.2.1 R.2.2.2.2.2.2 t_image t_isKept)) 0 0 (va_A (woX9_restore cI cZ a_t a_t_how a_t_strong a_t_pad a_t_plan a_t_box a_t_instead a_t_flakes a_t_tired a_t_image a_t_isKept t_signs t_parts t_swings t_saltFirst t_paceOfAll t_ice t_salt t_brine t_cold t_warm t_frozen t_layer t_air t_churned t_held t_heldFirst t_stiffWanted t_stiffFirst t_how t_strong t_plan t_box t_image t_isKept) sz) := by
  refine Met.ofW (cc := cX9_restore) (maxL := 4) (ret := (some .int)) (by decide) rfl ?_
  intro p e s m args below meth c s₁ B hml hv
  obtain ⟨rfl, hv⟩ := hv
  have hG := hg_of hv
  obtain ⟨hsz, hP, -, hD0, -⟩ := hv
  have hx := B.exec
  have hb := B.bytes
  have hr := B.returns
  have hlk := B.notSynchronized
  have hown : s.vm.findClass RX9 = some m.cls := findClass_of_methodNamed B.named
  have hD := hD0.self (sz := sz)
  have hS : va_S (va_A (woX9_restore cI cZ a_t a_t_how a_t_strong a_t_pad a_t_plan a_t_box a_t_instead a_t_flakes a_t_tired a_t_image a_t_isKept t_signs t_parts t_swings t_saltFirst t_paceOfAll t_ice t_salt t_brine t_cold t_warm t_frozen t_layer t_air t_churned t_held t_heldFirst t_stiffWanted t_stiffFirst t_how t_strong t_plan t_box t_image t_isKept) sz) s.heap s.heap [] := va_S.rf
  have L120 : ∀ (fu : Nat) (y2 : Int32) (y3 : Int32) (v_t_parts : Int32) (v_t_swings : Int32) (v_t_how : Nat → Int32) (v_t_strong : Nat → Int32) (v_t_plan : Nat → Int32) (v_t_box : Nat → Int32) (H : Heap) (locs : List Loc) (ls : Array Slot), f_X9_restore_L120 t_image t_isKept fu y2 y3 v_t_parts v_t_swings v_t_how v_t_strong v_t_plan v_t_box = some R → va_P (dC, dI) vwCl (woX9_restore cI cZ a_t a_t_how a_t_strong a_t_pad a_t_plan a_t_box a_t_instead a_t_flakes a_t_tired a_t_image a_t_isKept t_signs v_t_parts v_t_swings t_saltFirst t_paceOfAll t_ice t_salt t_brine t_cold t_warm t_frozen t_layer t_air t_churned t_held t_heldFirst t_stiffWanted t_stiffFirst v_t_how v_t_strong v_t_plan v_t_box t_image t_isKept) H → va_D (va_A (woX9_restore cI cZ a_t a_t_how a_t_strong a_t_pad a_t_plan a_t_box a_t_instead a_t_flakes a_t_tired a_t_image a_t_isKept t_signs t_parts t_swings t_saltFirst t_paceOfAll t_ice t_salt t_brine t_cold t_warm t_frozen t_layer t_air t_churned t_held t_heldFirst t_stiffWanted t_stiffFirst t_how t_strong t_plan t_box t_image t_isKept) sz) (woX9_restore cI cZ a_t a_t_how a_t_strong a_t_pad a_t_plan a_t_box a_t_instead a_t_flakes a_t_tired a_t_image a_t_isKept t_signs v_t_parts v_t_swings t_saltFirst t_paceOfAll t_ice t_salt t_brine t_cold t_warm t_frozen t_layer t_air t_churned t_held t_heldFirst t_stiffWanted t_stiffFirst v_t_how v_t_strong v_t_plan v_t_box t_image t_isKept) → va_S (va_A (woX9_restore cI cZ a_t a_t_how a_t_strong a_t_pad a_t_plan a_t_box a_t_instead a_t_flakes a_t_tired a_t_image a_t_isKept t_signs t_parts t_swings t_saltFirst t_paceOfAll t_ice t_salt t_brine t_cold t_warm t_frozen t_layer t_air t_churned t_held t_heldFirst t_stiffWanted t_stiffFirst t_how t_strong t_plan t_box t_image t_isKept) sz) s.heap H locs → lv_has ls 4 [(0, .ref a_t), (2, .int y2), (3, .int y3)] → W p l e (headSpec wyX9_restore rmX9_restore).room s m ([Value.ref a_t, Value.int x1] : List Value).toArray below meth c H locs 0 0 (MQ below (POSTi (dC, dI) R.1 sz (woX9_restore cI cZ a_t a_t_how a_t_strong a_t_pad a_t_plan a_t_box a_t_instead a_t_flakes a_t_tired a_t_image a_t_isKept t_signs t_parts t_swings t_saltFirst t_paceOfAll t_ice t_salt t_brine t_cold t_warm t_frozen t_layer t_air t_churned t_held t_heldFirst t_stiffWanted t_stiffFirst t_how t_strong t_plan t_box t_image t_isKept) (woX9_restore cI cZ a_t a_t_how a_t_strong a_t_pad a_t_plan a_t_box a_t_instead a_t_flakes a_t_tired a_t_image a_t_isKept t_signs R.2.1 R.2.2.1 t_saltFirst t_paceOfAll t_ice t_salt t_brine t_cold t_warm t_frozen t_layer t_air t_churned t_held t_heldFirst t_stiffWanted t_stiffFirst R.2.2.2.1 R.2.2.2.2.1 R.2.2.2.2.2.1 R.2.2.2.2.2.2 t_image t_isKept)) ([Value.ref a_t, Value.int x1] : List Value).toArray s 0 0 (va_A (woX9_restore cI cZ a_t a_t_how a_t_strong a_t_pad a_t_plan a_t_box a_t_instead a_t_flakes a_t_tired a_t_image a_t_isKept t_signs t_parts t_swings t_saltFirst t_paceOfAll t_ice t_salt t_brine t_cold t_warm t_frozen t_layer t_air t_churned t_held t_heldFirst t_stiffWanted t_stiffFirst t_how t_strong t_plan t_box t_image t_isKept) sz)) (F0 m 120 ls []) := by
    intro  fu
    induction fu with
    | zero => intro y2 y3 v_t_parts v_t_swings v_t_how v_t_strong v_t_plan v_t_box H locs ls hf; cases hf
    | succ fu ih =>
      intro y2 y3 v_t_parts v_t_swings v_t_how v_t_strong v_t_plan v_t_box H locs ls hf hP hD hS hl
      rw [f_X9_restore_L120] at hf
      refine lv_iload_n hx hb dX9_restore_120 rfl (lv_at hl 2 rfl) ?_
      refine lv_bipush (v := 40) hx hb dX9_restore_121 (by decide) ?_
      refine lv_icmp_ge (tgt := 149) hx hb dX9_restore_123 (by decide) (fun c1 => ?_) (fun c1 => ?_)
      · have hf := (if_pos c1).symm.trans hf
        refine lv_aload_n hx hb dX9_restore_149 rfl (lv_at hl 0 rfl) ?_
        refine lv_aload_n hx hb dX9_restore_150 rfl (lv_at hl 0 rfl) ?_
        refine mg (ci := 9) 0 26 hx hb hG igX9 hown hP rfl rfl (by decide) (wd_3_158 hG.2.1) rfl rfl dX9_restore_151 ?_
        refine lv_iload_n hx hb dX9_restore_154 rfl (lv_at hl 1 rfl) ?_
        refine lv_bipush (v := 112) hx hb dX9_restore_155 (by decide) ?_
        refine lv_iadd hx hb dX9_restore_157 ?_
        obtain ⟨g2, hf⟩ := gd_some hf
        refine mal 5 hx hb hG hP rfl g2 dX9_restore_158 ?_
        refine mp (ci := 9) (wN := (woX9_restore cI cZ a_t a_t_how a_t_strong a_t_pad a_t_plan a_t_box a_t_instead a_t_flakes a_t_tired a_t_image a_t_isKept t_signs (t_image ((y2 + (112 : Int32))).toNatClampNeg) v_t_swings t_saltFirst t_paceOfAll t_ice t_salt t_brine t_cold t_warm t_frozen t_layer t_air t_churned t_held t_heldFirst t_stiffWanted t_stiffFirst v_t_how v_t_strong v_t_plan v_t_box t_image t_isKept)) 0 4 hx hb hG igX9 tyX9 tyX9_ok nmX9 hown hP hD hS rfl rfl (by decide) (wd_3_136 hG.2.1) rfl rfl rfl rfl rfl (Nat.le_of_ble_eq_true rfl) rfl dX9_restore_159 (fun H locs hP hD hS => ?_)
        refine lv_aload_n hx hb dX9_restore_162 rfl (lv_at hl 0 rfl) ?_
        refine lv_aload_n hx hb dX9_restore_163 rfl (lv_at hl 0 rfl) ?_
        refine mg (ci := 9) 0 26 hx hb hG igX9 hown hP rfl rfl (by decide) (wd_3_158 hG.2.1) rfl rfl dX9_restore_164 ?_
        refine lv_iload_n hx hb dX9_restore_167 rfl (lv_at hl 1 rfl) ?_
        refine lv_bipush (v := 113) hx hb dX9_restore_168 (by decide) ?_
        refine lv_iadd hx hb dX9_restore_170 ?_
        obtain ⟨g3, hf⟩ := gd_some hf
        refine mal 5 hx hb hG hP rfl g3 dX9_restore_171 ?_
        refine mp (ci := 9) (wN := (woX9_restore cI cZ a_t a_t_how a_t_strong a_t_pad a_t_plan a_t_box a_t_instead a_t_flakes a_t_tired a_t_image a_t_isKept t_signs (t_image ((y2 + (112 : Int32))).toNatClampNeg) (t_image ((y2 + (113 : Int32))).toNatClampNeg) t_saltFirst t_paceOfAll t_ice t_salt t_brine t_cold t_warm t_frozen t_layer t_air t_churned t_held t_heldFirst t_stiffWanted t_stiffFirst v_t_how v_t_strong v_t_plan v_t_box t_image t_isKept)) 0 6 hx hb hG igX9 tyX9 tyX9_ok nmX9 hown hP hD hS rfl rfl (by decide) (wd_3_138 hG.2.1) rfl rfl rfl rfl rfl (Nat.le_of_ble_eq_true rfl) rfl dX9_restore_172 (fun H locs hP hD hS => ?_)
        refine lv_iconst (v := 1) hx hb dX9_restore_175 (by decide) ?_
        have hR := Option.some.inj hf
        rw [← hR]
        exact rt_i hx hb hr hlk hsz hP hD hS rfl rfl dX9_restore_176
      · have hf := (if_neg c1).symm.trans hf
        refine lv_aload_n hx hb dX9_restore_126 rfl (lv_at hl 0 rfl) ?_
        refine mg (ci := 9) 0 7 hx hb hG igX9 hown hP rfl rfl (by decide) (wd_3_139 hG.2.1) rfl rfl dX9_restore_127 ?_
        refine lv_iload_n hx hb dX9_restore_130 rfl (lv_at hl 2 rfl) ?_
        refine lv_aload_n hx hb dX9_restore_131 rfl (lv_at hl 0 rfl) ?_
        refine mg (ci := 9) 0 26 hx hb hG igX9 hown hP rfl rfl (by decide) (wd_3_158 hG.2.1) rfl rfl dX9_restore_132 ?_
        refine lv_iload_n hx hb dX9_restore_135 rfl (lv_at hl 1 rfl) ?_
        refine lv_bipush (v := 72) hx hb dX9_restore_136 (by decide) ?_
        refine lv_iadd hx hb dX9_restore_138 ?_
        refine lv_iload_n hx hb dX9_restore_139 rfl (lv_at hl 2 rfl) ?_
        refine lv_iadd hx hb dX9_restore_140 ?_
        obtain ⟨g4, hf⟩ := gd_some hf
        refine mal 5 hx hb hG hP rfl g4 dX9_restore_141 ?_
        obtain ⟨g5, hf⟩ := gd_some hf
        refine mas (wN := (woX9_restore cI cZ a_t a_t_how a_t_strong a_t_pad a_t_plan a_t_box a_t_instead a_t_flakes a_t_tired a_t_image a_t_isKept t_signs v_t_parts v_t_swings t_saltFirst t_paceOfAll t_ice t_salt t_brine t_cold t_warm t_frozen t_layer t_air t_churned t_held t_heldFirst t_stiffWanted t_stiffFirst v_t_how v_t_strong v_t_plan (upd v_t_box (y3).toNatClampNeg (t_image (((y2 + (72 : Int32)) + y3)).toNatClampNeg)) t_image t_isKept)) 4 hx hb hG hP hD hS rfl g5 rfl dX9_restore_142 (fun H locs hP hD hS => ?_)
        refine lv_iinc (v := (y3 + (1 : Int32))) (lv' := [(3, .int (y3 + (1 : Int32))), (0, .ref a_t), (2, .int y2)]) hx hb dX9_restore_143 hl (k := 2) rfl rfl (by decide) rfl (fun ls hl => ?_)
        refine lv_goto (tgt := 120) hx hb dX9_restore_146 (by decide) ?_
        exact ih y2 (y3 + (1 : Int32)) v_t_parts v_t_swings v_t_how v_t_strong v_t_plan (upd v_t_box (y3).toNatClampNeg (t_image (((y2 + (72 : Int32)) + y3)).toNatClampNeg)) _ _ _ hf hP hD hS (lv_sub hl [1, 2, 0] rfl)
  have L89 : ∀ (fu : Nat) (y2 : Int32) (y3 : Int32) (v_t_parts : Int32) (v_t_swings : Int32) (v_t_how : Nat → Int32) (v_t_strong : Nat → Int32) (v_t_plan : Nat → Int32) (v_t_box : Nat → Int32) (H : Heap) (locs : List Loc) (ls : Array Slot), f_X9_restore_L89 t_image t_isKept fu y2 y3 v_t_parts v_t_swings v_t_how v_t_strong v_t_plan v_t_box = some R → va_P (dC, dI) vwCl (woX9_restore cI cZ a_t a_t_how a_t_strong a_t_pad a_t_plan a_t_box a_t_instead a_t_flakes a_t_tired a_t_image a_t_isKept t_signs v_t_parts v_t_swings t_saltFirst t_paceOfAll t_ice t_salt t_brine t_cold t_warm t_frozen t_layer t_air t_churned t_held t_heldFirst t_stiffWanted t_stiffFirst v_t_how v_t_strong v_t_plan v_t_box t_image t_isKept) H → va_D (va_A (woX9_restore cI cZ a_t a_t_how a_t_strong a_t_pad a_t_plan a_t_box a_t_instead a_t_flakes a_t_tired a_t_image a_t_isKept t_signs t_parts t_swings t_saltFirst t_paceOfAll t_ice t_salt t_brine t_cold t_warm t_frozen t_layer t_air t_churned t_held t_heldFirst t_stiffWanted t_stiffFirst t_how t_strong t_plan t_box t_image t_isKept) sz) (woX9_restore cI cZ a_t a_t_how a_t_strong a_t_pad a_t_plan a_t_box a_t_instead a_t_flakes a_t_tired a_t_image a_t_isKept t_signs v_t_parts v_t_swings t_saltFirst t_paceOfAll t_ice t_salt t_brine t_cold t_warm t_frozen t_layer t_air t_churned t_held t_heldFirst t_stiffWanted t_stiffFirst v_t_how v_t_strong v_t_plan v_t_box t_image t_isKept) → va_S (va_A (woX9_restore cI cZ a_t a_t_how a_t_strong a_t_pad a_t_plan a_t_box a_t_instead a_t_flakes a_t_tired a_t_image a_t_isKept t_signs t_parts t_swings t_saltFirst t_paceOfAll t_ice t_salt t_brine t_cold t_warm t_frozen t_layer t_air t_churned t_held t_heldFirst t_stiffWanted t_stiffFirst t_how t_strong t_plan t_box t_image t_isKept) sz) s.heap H locs → lv_has ls 4 [(0, .ref a_t), (2, .int y2), (3, .int y3)] → W p l e (headSpec wyX9_restore rmX9_restore).room s m ([Value.ref a_t, Value.int x1] : List Value).toArray below meth c H locs 0 0 (MQ below (POSTi (dC, dI) R.1 sz (woX9_restore cI cZ a_t a_t_how a_t_strong a_t_pad a_t_plan a_t_box a_t_instead a_t_flakes a_t_tired a_t_image a_t_isKept t_signs t_parts t_swings t_saltFirst t_paceOfAll t_ice t_salt t_brine t_cold t_warm t_frozen t_layer t_air t_churned t_held t_heldFirst t_stiffWanted t_stiffFirst t_how t_strong t_plan t_box t_image t_isKept) (woX9_restore cI cZ a_t a_t_how a_t_strong a_t_pad a_t_plan a_t_box a_t_instead a_t_flakes a_t_tired a_t_image a_t_isKept t_signs R.2.1 R.2.2.1 t_saltFirst t_paceOfAll t_ice t_salt t_brine t_cold t_warm t_frozen t_layer t_air t_churned t_held t_heldFirst t_stiffWanted t_stiffFirst R.2.2.2.1 R.2.2.2.2.1 R.2.2.2.2.2.1 R.2.2.2.2.2.2 t_image t_isKept)) ([Value.ref a_t, Value.int x1] : List Value).toArray s 0 0 (va_A (woX9_restore cI cZ a_t a_t_how a_t_strong a_t_pad a_t_plan a_t_box a_t_instead a_t_flakes a_t_tired a_t_image a_t_isKept t_signs t_parts t_swings t_saltFirst t_paceOfAll t_ice t_salt t_brine t_cold t_warm t_frozen t_layer t_air t_churned t_held t_heldFirst t_stiffWanted t_stiffFirst t_how t_strong t_plan t_box t_image t_isKept) sz)) (F0 m 89 ls []) := by
    intro  fu
    induction fu with
    | zero => intro y2 y3 v_t_parts v_t_swings v_t_how v_t_strong v_t_plan v_t_box H locs ls hf; cases hf
    | succ fu ih =>
      intro y2 y3 v_t_parts v_t_swings v_t_how v_t_strong v_t_plan v_t_box H locs ls hf hP hD hS hl
      rw [f_X9_restore_L89] at hf
      refine lv_iload_n hx hb dX9_restore_89 rfl (lv_at hl 2 rfl) ?_
      refine lv_bipush (v := 60) hx hb dX9_restore_90 (by decide) ?_
      refine lv_icmp_ge (tgt := 118) hx hb dX9_restore_92 (by decide) (fun c6 => ?_) (fun c6 => ?_)
      · have hf := (if_pos c6).symm.trans hf
        refine lv_iconst (v := 0) hx hb dX9_restore_118 (by decide) ?_
        refine lv_istore_n (lv' := [(3, .int (0 : Int32)), (0, .ref a_t), (2, .int y2)]) hx hb dX9_restore_119 rfl hl (by decide) rfl (fun ls hl => ?_)
        exact L120 FU y2 (0 : Int32) v_t_parts v_t_swings v_t_how v_t_strong v_t_plan v_t_box _ _ _ hf hP hD hS (lv_sub hl [1, 2, 0] rfl)
      · have hf := (if_neg c6).symm.trans hf
        refine lv_aload_n hx hb dX9_restore_95 rfl (lv_at hl 0 rfl) ?_
        refine mg (ci := 9) 0 5 hx hb hG igX9 hown hP rfl rfl (by decide) (wd_3_137 hG.2.1) rfl rfl dX9_restore_96 ?_
        refine lv_iload_n hx hb dX9_restore_99 rfl (lv_at hl 2 rfl) ?_
        refine lv_aload_n hx hb dX9_restore_100 rfl (lv_at hl 0 rfl) ?_
        refine mg (ci := 9) 0 26 hx hb hG igX9 hown hP rfl rfl (by decide) (wd_3_158 hG.2.1) rfl rfl dX9_restore_101 ?_
        refine lv_iload_n hx hb dX9_restore_104 rfl (lv_at hl 1 rfl) ?_
        refine lv_bipush (v := 12) hx hb dX9_restore_105 (by decide) ?_
        refine lv_iadd hx hb dX9_restore_107 ?_
        refine lv_iload_n hx hb dX9_restore_108 rfl (lv_at hl 2 rfl) ?_
        refine lv_iadd hx hb dX9_restore_109 ?_
        obtain ⟨g7, hf⟩ := gd_some hf
        refine mal 5 hx hb hG hP rfl g7 dX9_restore_110 ?_
        obtain ⟨g8, hf⟩ := gd_some hf
        refine mas (wN := (woX9_restore cI cZ a_t a_t_how a_t_strong a_t_pad a_t_plan a_t_box a_t_instead a_t_flakes a_t_tired a_t_image a_t_isKept t_signs v_t_parts v_t_swings t_saltFirst t_paceOfAll t_ice t_salt t_brine t_cold t_warm t_frozen t_layer t_air t_churned t_held t_heldFirst t_stiffWanted t_stiffFirst v_t_how v_t_strong (upd v_t_plan (y3).toNatClampNeg (t_image (((y2 + (12 : Int32)) + y3)).toNatClampNeg)) v_t_box t_image t_isKept)) 3 hx hb hG hP hD hS rfl g8 rfl dX9_restore_111 (fun H locs hP hD hS => ?_)
        refine lv_iinc (v := (y3 + (1 : Int32))) (lv' := [(3, .int (y3 + (1 : Int32))), (0, .ref a_t), (2, .int y2)]) hx hb dX9_restore_112 hl (k := 2) rfl rfl (by decide) rfl (fun ls hl => ?_)
        refine lv_goto (tgt := 89) hx hb dX9_restore_115 (by decide) ?_
        exact ih y2 (y3 + (1 : Int32)) v_t_parts v_t_swings v_t_how v_t_strong (upd v_t_plan (y3).toNatClampNeg (t_image (((y2 + (12 : Int32)) + y3)).toNatClampNeg)) v_t_box _ _ _ hf hP hD hS (lv_sub hl [1, 2, 0] rfl)
  have L59 : ∀ (fu : Nat) (y2 : Int32) (y3 : Int32) (v_t_parts : Int32) (v_t_swings : Int32) (v_t_how : Nat → Int32) (v_t_strong : Nat → Int32) (v_t_plan : Nat → Int32) (v_t_box : Nat → Int32) (H : Heap) (locs : List Loc) (ls : Array Slot), f_X9_restore_L59 t_image t_isKept fu y2 y3 v_t_parts v_t_swings v_t_how v_t_strong v_t_plan v_t_box = some R → va_P (dC, dI) vwCl (woX9_restore cI cZ a_t a_t_how a_t_strong a_t_pad a_t_plan a_t_box a_t_instead a_t_flakes a_t_tired a_t_image a_t_isKept t_signs v_t_parts v_t_swings t_saltFirst t_paceOfAll t_ice t_salt t_brine t_cold t_warm t_frozen t_layer t_air t_churned t_held t_heldFirst t_stiffWanted t_stiffFirst v_t_how v_t_strong v_t_plan v_t_box t_image t_isKept) H → va_D (va_A (woX9_restore cI cZ a_t a_t_how a_t_strong a_t_pad a_t_plan a_t_box a_t_instead a_t_flakes a_t_tired a_t_image a_t_isKept t_signs t_parts t_swings t_saltFirst t_paceOfAll t_ice t_salt t_brine t_cold t_warm t_frozen t_layer t_air t_churned t_held t_heldFirst t_stiffWanted t_stiffFirst t_how t_strong t_plan t_box t_image t_isKept) sz) (woX9_restore cI cZ a_t a_t_how a_t_strong a_t_pad a_t_plan a_t_box a_t_instead a_t_flakes a_t_tired a_t_image a_t_isKept t_signs v_t_parts v_t_swings t_saltFirst t_paceOfAll t_ice t_salt t_brine t_cold t_warm t_frozen t_layer t_air t_churned t_held t_heldFirst t_stiffWanted t_stiffFirst v_t_how v_t_strong v_t_plan v_t_box t_image t_isKept) → va_S (va_A (woX9_restore cI cZ a_t a_t_how a_t_strong a_t_pad a_t_plan a_t_box a_t_instead a_t_flakes a_t_tired a_t_image a_t_isKept t_signs t_parts t_swings t_saltFirst t_paceOfAll t_ice t_salt t_brine t_cold t_warm t_frozen t_layer t_air t_churned t_held t_heldFirst t_stiffWanted t_stiffFirst t_how t_strong t_plan t_box t_image t_isKept) sz) s.heap H locs → lv_has ls 4 [(0, .ref a_t), (2, .int y2), (3, .int y3)] → W p l e (headSpec wyX9_restore rmX9_restore).room s m ([Value.ref a_t, Value.int x1] : List Value).toArray below meth c H locs 0 0 (MQ below (POSTi (dC, dI) R.1 sz (woX9_restore cI cZ a_t a_t_how a_t_strong a_t_pad a_t_plan a_t_box a_t_instead a_t_flakes a_t_tired a_t_image a_t_isKept t_signs t_parts t_swings t_saltFirst t_paceOfAll t_ice t_salt t_brine t_cold t_warm t_frozen t_layer t_air t_churned t_held t_heldFirst t_stiffWanted t_stiffFirst t_how t_strong t_plan t_box t_image t_isKept) (woX9_restore cI cZ a_t a_t_how a_t_strong a_t_pad a_t_plan a_t_box a_t_instead a_t_flakes a_t_tired a_t_image a_t_isKept t_signs R.2.1 R.2.2.1 t_saltFirst t_paceOfAll t_ice t_salt t_brine t_cold t_warm t_frozen t_layer t_air t_churned t_held t_heldFirst t_stiffWanted t_stiffFirst R.2.2.2.1 R.2.2.2.2.1 R.2.2.2.2.2.1 R.2.2.2.2.2.2 t_image t_isKept)) ([Value.ref a_t, Value.int x1] : List Value).toArray s 0 0 (va_A (woX9_restore cI cZ a_t a_t_how a_t_strong a_t_pad a_t_plan a_t_box a_t_instead a_t_flakes a_t_tired a_t_image a_t_isKept t_signs t_parts t_swings t_saltFirst t_paceOfAll t_ice t_salt t_brine t_cold t_warm t_frozen t_layer t_air t_churned t_held t_heldFirst t_stiffWanted t_stiffFirst t_how t_strong t_plan t_box t_image t_isKept) sz)) (F0 m 59 ls []) := by
    intro  fu
    induction fu with
    | zero => intro y2 y3 v_t_parts v_t_swings v_t_how v_t_strong v_t_plan v_t_box H locs ls hf; cases hf
    | succ fu ih =>
      intro y2 y3 v_t_parts v_t_swings v_t_how v_t_strong v_t_plan v_t_box H locs ls hf hP hD hS hl
      rw [f_X9_restore_L59] at hf
      refine lv_iload_n hx hb dX9_restore_59 rfl (lv_at hl 2 rfl) ?_
      refine lv_iconst (v := 4) hx hb dX9_restore_60 (by decide) ?_
      refine lv_icmp_ge (tgt := 87) hx hb dX9_restore_61 (by decide) (fun c9 => ?_) (fun c9 => ?_)
      · have hf := (if_pos c9).symm.trans hf
        refine lv_iconst (v := 0) hx hb dX9_restore_87 (by decide) ?_
        refine lv_istore_n (lv' := [(3, .int (0 : Int32)), (0, .ref a_t), (2, .int y2)]) hx hb dX9_restore_88 rfl hl (by decide) rfl (fun ls hl => ?_)
        exact L89 FU y2 (0 : Int32) v_t_parts v_t_swings v_t_how v_t_strong v_t_plan v_t_box _ _ _ hf hP hD hS (lv_sub hl [1, 2, 0] rfl)
      · have hf := (if_neg c9).symm.trans hf
        refine lv_aload_n hx hb dX9_restore_64 rfl (lv_at hl 0 rfl) ?_
        refine mg (ci := 9) 0 1 hx hb hG igX9 hown hP rfl rfl (by decide) (wd_3_133 hG.2.1) rfl rfl dX9_restore_65 ?_
        refine lv_iload_n hx hb dX9_restore_68 rfl (lv_at hl 2 rfl) ?_
        refine lv_aload_n hx hb dX9_restore_69 rfl (lv_at hl 0 rfl) ?_
        refine mg (ci := 9) 0 26 hx hb hG igX9 hown hP rfl rfl (by decide) (wd_3_158 hG.2.1) rfl rfl dX9_restore_70 ?_
        refine lv_iload_n hx hb dX9_restore_73 rfl (lv_at hl 1 rfl) ?_
        refine lv_bipush (v := 8) hx hb dX9_restore_74 (by decide) ?_
        refine lv_iadd hx hb dX9_restore_76 ?_
        refine lv_iload_n hx hb dX9_restore_77 rfl (lv_at hl 2 rfl) ?_
        refine lv_iadd hx hb dX9_restore_78 ?_
        obtain ⟨g10, hf⟩ := gd_some hf
        refine mal 5 hx hb hG hP rfl g10 dX9_restore_79 ?_
        obtain ⟨g11, hf⟩ := gd_some hf
        refine mas (wN := (woX9_restore cI cZ a_t a_t_how a_t_strong a_t_pad a_t_plan a_t_box a_t_instead a_t_flakes a_t_tired a_t_image a_t_isKept t_signs v_t_parts v_t_swings t_saltFirst t_paceOfAll t_ice t_salt t_brine t_cold t_warm t_frozen t_layer t_air t_churned t_held t_heldFirst t_stiffWanted t_stiffFirst v_t_how (upd v_t_strong (y3).toNatClampNeg (t_image (((y2 + (8 : Int32)) + y3)).toNatClampNeg)) v_t_plan v_t_box t_image t_isKept)) 2 hx hb hG hP hD hS rfl g11 rfl dX9_restore_80 (fun H locs hP hD hS => ?_)
        refine lv_iinc (v := (y3 + (1 : Int32))) (lv' := [(3, .int (y3 + (1 : Int32))), (0, .ref a_t), (2, .int y2)]) hx hb dX9_restore_81 hl (k := 2) rfl rfl (by decide) rfl (fun ls hl => ?_)
        refine lv_goto (tgt := 59) hx hb dX9_restore_84 (by decide) ?_
        exact ih y2 (y3 + (1 : Int32)) v_t_parts v_t_swings v_t_how (upd v_t_strong (y3).toNatClampNeg (t_image (((y2 + (8 : Int32)) + y3)).toNatClampNeg)) v_t_plan v_t_box _ _ _ hf hP hD hS (lv_sub hl [1, 2, 0] rfl)
  have L31 : ∀ (fu : Nat) (y2 : Int32) (y3 : Int32) (v_t_parts : Int32) (v_t_swings : Int32) (v_t_how : Nat → Int32) (v_t_strong : Nat → Int32) (v_t_plan : Nat → Int32) (v_t_box : Nat → Int32) (H : Heap) (locs : List Loc) (ls : Array Slot), f_X9_restore_L31 t_image t_isKept fu y2 y3 v_t_parts v_t_swings v_t_how v_t_strong v_t_plan v_t_box = some R → va_P (dC, dI) vwCl (woX9_restore cI cZ a_t a_t_how a_t_strong a_t_pad a_t_plan a_t_box a_t_instead a_t_flakes a_t_tired a_t_image a_t_isKept t_signs v_t_parts v_t_swings t_saltFirst t_paceOfAll t_ice t_salt t_brine t_cold t_warm t_frozen t_layer t_air t_churned t_held t_heldFirst t_stiffWanted t_stiffFirst v_t_how v_t_strong v_t_plan v_t_box t_image t_isKept) H → va_D (va_A (woX9_restore cI cZ a_t a_t_how a_t_strong a_t_pad a_t_plan a_t_box a_t_instead a_t_flakes a_t_tired a_t_image a_t_isKept t_signs t_parts t_swings t_saltFirst t_paceOfAll t_ice t_salt t_brine t_cold t_warm t_frozen t_layer t_air t_churned t_held t_heldFirst t_stiffWanted t_stiffFirst t_how t_strong t_plan t_box t_image t_isKept) sz) (woX9_restore cI cZ a_t a_t_how a_t_strong a_t_pad a_t_plan a_t_box a_t_instead a_t_flakes a_t_tired a_t_image a_t_isKept t_signs v_t_parts v_t_swings t_saltFirst t_paceOfAll t_ice t_salt t_brine t_cold t_warm t_frozen t_layer t_air t_churned t_held t_heldFirst t_stiffWanted t_stiffFirst v_t_how v_t_strong v_t_plan v_t_box t_image t_isKept) → va_S (va_A (woX9_restore cI cZ a_t a_t_how a_t_strong a_t_pad a_t_plan a_t_box a_t_instead a_t_flakes a_t_tired a_t_image a_t_isKept t_signs t_parts t_swings t_saltFirst t_paceOfAll t_ice t_salt t_brine t_cold t_warm t_frozen t_layer t_air t_churned t_held t_heldFirst t_stiffWanted t_stiffFirst t_how t_strong t_plan t_box t_image t_isKept) sz) s.heap H locs → lv_has ls 4 [(0, .ref a_t), (2, .int y2), (3, .int y3)] → W p l e (headSpec wyX9_restore rmX9_restore).room s m ([Value.ref a_t, Value.int x1] : List Value).toArray below meth c H locs 0 0 (MQ below (POSTi (dC, dI) R.1 sz (woX9_restore cI cZ a_t a_t_how a_t_strong a_t_pad a_t_plan a_t_box a_t_instead a_t_flakes a_t_tired a_t_image a_t_isKept t_signs t_parts t_swings t_saltFirst t_paceOfAll t_ice t_salt t_brine t_cold t_warm t_frozen t_layer t_air t_churned t_held t_heldFirst t_stiffWanted t_stiffFirst t_how t_strong t_plan t_box t_image t_isKept) (woX9_restore cI cZ a_t a_t_how a_t_strong a_t_pad a_t_plan a_t_box a_t_instead a_t_flakes a_t_tired a_t_image a_t_isKept t_signs R.2.1 R.2.2.1 t_saltFirst t_paceOfAll t_ice t_salt t_brine t_cold t_warm t_frozen t_layer t_air t_churned t_held t_heldFirst t_stiffWanted t_stiffFirst R.2.2.2.1 R.2.2.2.2.1 R.2.2.2.2.2.1 R.2.2.2.2.2.2 t_image t_isKept)) ([Value.ref a_t, Value.int x1] : List Value).toArray s 0 0 (va_A (woX9_restore cI cZ a_t a_t_how a_t_strong a_t_pad a_t_plan a_t_box a_t_instead a_t_flakes a_t_tired a_t_image a_t_isKept t_signs t_parts t_swings t_saltFirst t_paceOfAll t_ice t_salt t_brine t_cold t_warm t_frozen t_layer t_air t_churned t_held t_heldFirst t_stiffWanted t_stiffFirst t_how t_strong t_plan t_box t_image t_isKept) sz)) (F0 m 31 ls []) := by
    intro  fu
    induction fu with
    | zero => intro y2 y3 v_t_parts v_t_swings v_t_how v_t_strong v_t_plan v_t_box H locs ls hf; cases hf
    | succ fu ih =>
      intro y2 y3 v_t_parts v_t_swings v_t_how v_t_strong v_t_plan v_t_box H locs ls hf hP hD hS hl
      rw [f_X9_restore_L31] at hf
      refine lv_iload_n hx hb dX9_restore_31 rfl (lv_at hl 2 rfl) ?_
      refine lv_bipush (v := 8) hx hb dX9_restore_32 (by decide) ?_
      refine lv_icmp_ge (tgt := 57) hx hb dX9_restore_34 (by decide) (fun c12 => ?_) (fun c12 => ?_)
      · have hf := (if_pos c12).symm.trans hf
        refine lv_iconst (v := 0) hx hb dX9_restore_57 (by decide) ?_
        refine lv_istore_n (lv' := [(3, .int (0 : Int32)), (0, .ref a_t), (2, .int y2)]) hx hb dX9_restore_58 rfl hl (by decide) rfl (fun ls hl => ?_)
        exact L59 FU y2 (0 : Int32) v_t_parts v_t_swings v_t_how v_t_strong v_t_plan v_t_box _ _ _ hf hP hD hS (lv_sub hl [1, 2, 0] rfl)
      · have hf := (if_neg c12).symm.trans hf
        refine lv_aload_n hx hb dX9_restore_37 rfl (lv_at hl 0 rfl) ?_
        refine mg (ci := 9) 0 0 hx hb hG igX9 hown hP rfl rfl (by decide) (wd_3_132 hG.2.1) rfl rfl dX9_restore_38 ?_
        refine lv_iload_n hx hb dX9_restore_41 rfl (lv_at hl 2 rfl) ?_
        refine lv_aload_n hx hb dX9_restore_42 rfl (lv_at hl 0 rfl) ?_
        refine mg (ci := 9) 0 26 hx hb hG igX9 hown hP rfl rfl (by decide) (wd_3_158 hG.2.1) rfl rfl dX9_restore_43 ?_
        refine lv_iload_n hx hb dX9_restore_46 rfl (lv_at hl 1 rfl) ?_
        refine lv_iload_n hx hb dX9_restore_47 rfl (lv_at hl 2 rfl) ?_
        refine lv_iadd hx hb dX9_restore_48 ?_
        obtain ⟨g13, hf⟩ := gd_some hf
        refine mal 5 hx hb hG hP rfl g13 dX9_restore_49 ?_
        obtain ⟨g14, hf⟩ := gd_some hf
        refine mas (wN := (woX9_restore cI cZ a_t a_t_how a_t_strong a_t_pad a_t_plan a_t_box a_t_instead a_t_flakes a_t_tired a_t_image a_t_isKept t_signs v_t_parts v_t_swings t_saltFirst t_paceOfAll t_ice t_salt t_brine t_cold t_warm t_frozen t_layer t_air t_churned t_held t_heldFirst t_stiffWanted t_stiffFirst (upd v_t_how (y3).toNatClampNeg (t_image ((y2 + y3)).toNatClampNeg)) v_t_strong v_t_plan v_t_box t_image t_isKept)) 1 hx hb hG hP hD hS rfl g14 rfl dX9_restore_50 (fun H locs hP hD hS => ?_)
        refine lv_iinc (v := (y3 + (1 : Int32))) (lv' := [(3, .int (y3 + (1 : Int32))), (0, .ref a_t), (2, .int y2)]) hx hb dX9_restore_51 hl (k := 2) rfl rfl (by decide) rfl (fun ls hl => ?_)
        refine lv_goto (tgt := 31) hx hb dX9_restore_54 (by decide) ?_
        exact ih y2 (y3 + (1 : Int32)) v_t_parts v_t_swings (upd v_t_how (y3).toNatClampNeg (t_image ((y2 + y3)).toNatClampNeg)) v_t_strong v_t_plan v_t_box _ _ _ hf hP hD hS (lv_sub hl [1, 2, 0] rfl)
  have hl := lv_entry ([.ref a_t, .int x1]) (n := 4) (Nat.le_of_ble_eq_true rfl)
  rw [lg_entry_eq]
  generalize (lg_sl ([.ref a_t, .int x1]) ++ List.replicate (4 - (lg_sl ([.ref a_t, .int x1])).length) Slot.unset).toArray = ls at hl ⊢
  have hl : lv_has ls 4 [(0, .ref a_t), (1, .int x1)] := hl
  unfold f_X9_restore at hf
  refine lv_iload_n hx hb dX9_restore_0 rfl (lv_at hl 1 rfl) ?_
  refine lv_iconst (v := 0) hx hb dX9_restore_1 (by decide) ?_
  refine lv_iconst (v := 1) hx hb dX9_restore_2 (by decide) ?_
  obtain ⟨r3, hc3, hf⟩ := bd1_some hf
  refine cl_Si (r := r3) (As := [.int x1, .int (0 : Int32), .int (1 : Int32)]) (w1 := []) (wN := (woX9_restore cI cZ a_t a_t_how a_t_strong a_t_pad a_t_plan a_t_box a_t_instead a_t_flakes a_t_tired a_t_image a_t_isKept t_signs t_parts t_swings t_saltFirst t_paceOfAll t_ice t_salt t_brine t_cold t_warm t_frozen t_layer t_air t_churned t_held t_heldFirst t_stiffWanted t_stiffFirst t_how t_strong t_plan t_box t_image t_isKept)) [] 0 0 (c_X9_in l dC dI cI cZ ts _ x1 (0 : Int32) (1 : Int32) (r3) hc3) ⟨hx, hb, hml, hown, hG.2.1.hts _⟩ ⟨callB_of 3 (hG.2.1.hts _) giX9_in rfl rfl rfl (wd_1_10 hG.2.1) (wd_3_222 hG.2.1) hd_X9_in ⟨Nat.le_of_ble_eq_true rfl, Nat.le_of_ble_eq_true rfl⟩, wd_3_223 hG.2.1⟩ hG hP hD hS rfl rfl rfl rfl rfl hl.1 rfl (Nat.le_of_ble_eq_true rfl) dX9_restore_3 ⟨Nat.zero_le _, Nat.zero_le _⟩ (fun H locs hP hD hS => ?_)
  refine lv_if_ne (tgt := 12) hx hb dX9_restore_6 (by decide) (fun c15 => ?_) (fun c15 => ?_)
  · have hf := (if_neg c15).symm.trans hf
    refine lv_aload_n hx hb dX9_restore_12 rfl (lv_at hl 0 rfl) ?_
    refine mg (ci := 9) 0 27 hx hb hG igX9 hown hP rfl rfl (by decide) (wd_3_159 hG.2.1) rfl rfl dX9_restore_13 ?_
    refine lv_iload_n hx hb dX9_restore_16 rfl (lv_at hl 1 rfl) ?_
    obtain ⟨g16, hf⟩ := gd_some hf
    refine mzl 6 hx hb hG hP rfl g16 dX9_restore_17 ?_
    refine lv_if_ne (tgt := 24) hx hb dX9_restore_18 (by decide) (fun c17 => ?_) (fun c17 => ?_)
    · have hf := (if_neg c17).symm.trans hf
      refine lv_bipush (v := 115) hx hb dX9_restore_24 (by decide) ?_
      refine lv_iload_n hx hb dX9_restore_26 rfl (lv_at hl 1 rfl) ?_
      refine lv_imul hx hb dX9_restore_27 ?_
      refine lv_istore_n (lv' := [(2, .int ((115 : Int32) * x1)), (0, .ref a_t), (1, .int x1)]) hx hb dX9_restore_28 rfl hl (by decide) rfl (fun ls hl => ?_)
      refine lv_iconst (v := 0) hx hb dX9_restore_29 (by decide) ?_
      refine lv_istore_n (lv' := [(3, .int (0 : Int32)), (2, .int ((115 : Int32) * x1)), (0, .ref a_t), (1, .int x1)]) hx hb dX9_restore_30 rfl hl (by decide) rfl (fun ls hl => ?_)
      exact L31 FU ((115 : Int32) * x1) (0 : Int32) t_parts t_swings t_how t_strong t_plan t_box _ _ _ hf hP hD hS (lv_sub hl [2, 1, 0] rfl)
    · have hf := (if_pos c17).symm.trans hf
      refine lv_bipush (v := -3) hx hb dX9_restore_21 (by decide) ?_
      have hR := Option.some.inj hf
      rw [← hR]
      exact rt_i hx hb hr hlk hsz hP hD hS rfl rfl dX9_restore_23
  · have hf := (if_pos c15).symm.trans hf
    refine lv_bipush (v := -2) hx hb dX9_restore_9 (by decide) ?_
    have hR := Option.some.inj hf
    rw [← hR]
    exact rt_i hx hb hr hlk hsz hP hD hS rfl rfl dX9_restore_11
abbrev woX9_told (cI cZ : ClassId) (a_t a_t_how a_t_strong a_t_pad a_t_plan a_t_box a_t_instead a_t_flakes a_t_tired a_t_image a_t_isKept : Nat) (t_signs : Int32) (t_parts : Int32) (t_swings : Int32) (t_saltFirst : Int32) (t_paceOfAll : Int32) (t_ice : Int32) (t_salt : Int32) (t_brine : Int32) (t_cold : Int32) (t_warm : Int32) (t_frozen : Int32) (t_layer : Int32) (t_air : Int32) (t_churned : Int32) (t_held : Int32) (t_heldFirst : Int32) (t_stiffWanted : Int32) (t_stiffFirst : Int32) (t_how : Nat → Int32) (t_strong : Nat → Int32) (t_plan : Nat → Int32) : va_W := [(a_t, .inr (9, [.ref a_t_how, .ref a_t_strong, .int t_signs, .ref a_t_pad, .int t_parts, .ref a_t_plan, .int t_swings, .ref a_t_box, .ref a_t_instead, .int t_saltFirst, .int t_paceOfAll, .int t_ice, .int t_salt, .int t_brine, .int t_cold, .int t_warm, .int t_frozen, .int t_layer, .int t_air, .int t_churned, .ref a_t_flakes, .ref a_t_tired, .int t_held, .int t_heldFirst, .int t_stiffWanted, .int t_stiffFirst, .ref a_t_image, .ref a_t_isKept])), (a_t_how, .inl (cI, 8, .inl t_how)), (a_t_strong, .inl (cI, 4, .inl t_strong)), (a_t_plan, .inl (cI, 60, .inl t_plan))]
abbrev rmX9_told : Room := { frames := 1, cells := 0, slots := 0, locals := 22 }
theorem hd_X9_told : yX9_told.cls ≠ "java/lang/invoke/MethodHandle" ∧ yX9_told.cls ≠ "java/lang/invoke/VarHandle" ∧ (parseMethodDescriptor yX9_told.desc).map (fun d => d.parameters.length) = some 1 := by decide +kernel
set_option maxHeartbeats 4000000 in
set_option maxRecDepth 100000 in
theorem c_X9_told (l : Launch) (dC : Nat → ClassId) (dI : Nat → Nat → Nat) (cI cZ : ClassId) (ts : Nat → Nat) (sz : Nat) (a_t a_t_how a_t_strong a_t_pad a_t_plan a_t_box a_t_instead a_t_flakes a_t_tired a_t_image a_t_isKept : Nat) (t_signs : Int32) (t_parts : Int32) (t_swings : Int32) (t_saltFirst : Int32) (t_paceOfAll : Int32) (t_ice : Int32) (t_salt : Int32) (t_brine : Int32) (t_cold : Int32) (t_warm : Int32) (t_frozen : Int32) (t_layer : Int32) (t_air : Int32) (t_churned : Int32) (t_held : Int32) (t_heldFirst : Int32) (t_stiffWanted : Int32) (t_stiffFirst : Int32) (t_how : Nat → Int32) (t_strong : Nat → Int32) (t_plan : Nat → Int32) (x1 : Int32) (R : Int32) (hf : f_X9_told t_signs t_parts t_swings t_how t_strong t_plan x1 = some R) : Met l yX9_told wyX9_told rmX9_told (PRE (dC, dI) cI cZ ts [.ref a_t, .int x1] sz (woX9_told cI cZ a_t a_t_how a_t_strong a_t_pad a_t_plan a_t_box a_t_instead a_t_flakes a_t_tired a_t_image a_t_isKept t_signs t_parts t_swings t_saltFirst t_paceOfAll t_ice t_salt t_brine t_cold t_warm t_frozen t_layer t_air t_churned t_held t_heldFirst t_stiffWanted t_stiffFirst t_how t_strong t_plan)) (POSTi (dC, dI) R sz (woX9_told cI cZ a_t a_t_how a_t_strong a_t_pad a_t_plan a_t_box a_t_instead a_t_flakes a_t_tired a_t_image a_t_isKept t_signs t_parts t_swings t_saltFirst t_paceOfAll t_ice t_salt t_brine t_cold t_warm t_frozen t_layer t_air t_churned t_held t_heldFirst t_stiffWanted t_stiffFirst t_how t_strong t_plan) (woX9_told cI cZ a_t a_t_how a_t_strong a_t_pad a_t_plan a_t_box a_t_instead a_t_flakes a_t_tired a_t_image a_t_isKept t_signs t_parts t_swings t_saltFirst t_paceOfAll t_ice t_salt t_brine t_cold t_warm t_frozen t_layer t_air t_churned t_held t_heldFirst t_stiffWanted t_stiffFirst t_how t_strong t_plan)) 0 0 (va_A (woX9_told cI cZ a_t a_t_how a_t_strong a_t_pad a_t_plan a_t_box a_t_instead a_t_flakes a_t_tired a_t_image a_t_isKept t_signs t_parts t_swings t_saltFirst t_paceOfAll t_ice t_salt t_brine t_cold t_warm t_frozen t_layer t_air t_churned t_held t_heldFirst t_stiffWanted t_stiffFirst t_how t_strong t_plan) sz) := by
  refine Met.ofW (cc := cX9_told) (maxL := 2) (ret := (some .int)) (by decide) rfl ?_
  intro p e s m args below meth c s₁ B hml hv
  obtain ⟨rfl, hv⟩ := hv
  have hG := hg_of hv
  obtain ⟨hsz, hP, -, hD0, -⟩ := hv
  have hx := B.exec
  have hb := B.bytes
  have hr := B.returns
  have hlk := B.notSynchronized
  have hown : s.vm.findClass RX9 = some m.cls := findClass_of_methodNamed B.named
  have hD := hD0.self (sz := sz)
  have hS : va_S (va_A (woX9_told cI cZ a_t a_t_how a_t_strong a_t_pad a_t_plan a_t_box a_t_instead a_t_flakes a_t_tired a_t_image a_t_isKept t_signs t_parts t_swings t_saltFirst t_paceOfAll t_ice t_salt t_brine t_cold t_warm t_frozen t_layer t_air t_churned t_held t_heldFirst t_stiffWanted t_stiffFirst t_how t_strong t_plan) sz) s.heap s.heap [] := va_S.rf
  have hl := lv_entry ([.ref a_t, .int x1]) (n := 2) (Nat.le_of_ble_eq_true rfl)
  rw [lg_entry_eq]
  generalize (lg_sl ([.ref a_t, .int x1]) ++ List.replicate (2 - (lg_sl ([.ref a_t, .int x1])).length) Slot.unset).toArray = ls at hl ⊢
  have hl : lv_has ls 2 [(0, .ref a_t), (1, .int x1)] := hl
  unfold f_X9_told at hf
  refine lv_iload_n hx hb dX9_told_0 rfl (lv_at hl 1 rfl) ?_
  refine lv_bipush (v := 10) hx hb dX9_told_1 (by decide) ?_
  refine lv_bipush (v := 17) hx hb dX9_told_3 (by decide) ?_
  obtain ⟨r5, hc5, hf⟩ := bd1_some hf
  refine cl_Si (r := r5) (As := [.int x1, .int (10 : Int32), .int (17 : Int32)]) (w1 := []) (wN := (woX9_told cI cZ a_t a_t_how a_t_strong a_t_pad a_t_plan a_t_box a_t_instead a_t_flakes a_t_tired a_t_image a_t_isKept t_signs t_parts t_swings t_saltFirst t_paceOfAll t_ice t_salt t_brine t_cold t_warm t_frozen t_layer t_air t_churned t_held t_heldFirst t_stiffWanted t_stiffFirst t_how t_strong t_plan)) [] 0 0 (c_X9_in l dC dI cI cZ ts _ x1 (10 : Int32) (17 : Int32) (r5) hc5) ⟨hx, hb, hml, hown, hG.2.1.hts _⟩ ⟨callB_of 3 (hG.2.1.hts _) giX9_in rfl rfl rfl (wd_1_10 hG.2.1) (wd_3_222 hG.2.1) hd_X9_in ⟨Nat.le_of_ble_eq_true rfl, Nat.le_of_ble_eq_true rfl⟩, wd_3_223 hG.2.1⟩ hG hP hD hS rfl rfl rfl rfl rfl hl.1 rfl (Nat.le_of_ble_eq_true rfl) dX9_told_5 ⟨Nat.zero_le _, Nat.zero_le _⟩ (fun H locs hP hD hS => ?_)
  refine lv_if_eq (tgt := 21) hx hb dX9_told_8 (by decide) (fun c1 => ?_) (fun c1 => ?_)
  · have hf := (if_pos c1).symm.trans hf
    refine lv_iload_n hx hb dX9_told_21 rfl (lv_at hl 1 rfl) ?_
    refine lv_bipush (v := 20) hx hb dX9_told_22 (by decide) ?_
    refine lv_bipush (v := 23) hx hb dX9_told_24 (by decide) ?_
    obtain ⟨r26, hc26, hf⟩ := bd1_some hf
    refine cl_Si (r := r26) (As := [.int x1, .int (20 : Int32), .int (23 : Int32)]) (w1 := []) (wN := (woX9_told cI cZ a_t a_t_how a_t_strong a_t_pad a_t_plan a_t_box a_t_instead a_t_flakes a_t_tired a_t_image a_t_isKept t_signs t_parts t_swings t_saltFirst t_paceOfAll t_ice t_salt t_brine t_cold t_warm t_frozen t_layer t_air t_churned t_held t_heldFirst t_stiffWanted t_stiffFirst t_how t_strong t_plan)) [] 0 0 (c_X9_in l dC dI cI cZ ts _ x1 (20 : Int32) (23 : Int32) (r26) hc26) ⟨hx, hb, hml, hown, hG.2.1.hts _⟩ ⟨callB_of 3 (hG.2.1.hts _) giX9_in rfl rfl rfl (wd_1_10 hG.2.1) (wd_3_222 hG.2.1) hd_X9_in ⟨Nat.le_of_ble_eq_true rfl, Nat.le_of_ble_eq_true rfl⟩, wd_3_223 hG.2.1⟩ hG hP hD hS rfl rfl rfl rfl rfl hl.1 rfl (Nat.le_of_ble_eq_true rfl) dX9_told_26 ⟨Nat.zero_le _, Nat.zero_le _⟩ (fun H locs hP hD hS => ?_)
    refine lv_if_eq (tgt := 42) hx hb dX9_told_29 (by decide) (fun c2 => ?_) (fun c2 => ?_)
    · have hf := (if_pos c2).symm.trans hf
      refine lv_iload_n hx hb dX9_told_42 rfl (lv_at hl 1 rfl) ?_
      refine lv_if_ne (tgt := 53) hx hb dX9_told_43 (by decide) (fun c3 => ?_) (fun c3 => ?_)
      · have hf := (if_neg c3).symm.trans hf
        refine lv_iload_n hx hb dX9_told_53 rfl (lv_at hl 1 rfl) ?_
        refine lv_iconst (v := 1) hx hb dX9_told_54 (by decide) ?_
        refine lv_icmp_ne (tgt := 65) hx hb dX9_told_55 (by decide) (fun c4 => ?_) (fun c4 => ?_)
        · have hf := (if_neg c4).symm.trans hf
          refine lv_iload_n hx hb dX9_told_65 rfl (lv_at hl 1 rfl) ?_
          refine lv_iconst (v := 2) hx hb dX9_told_66 (by decide) ?_
          refine lv_icmp_ne (tgt := 77) hx hb dX9_told_67 (by decide) (fun c5 => ?_) (fun c5 => ?_)
          · have hf := (if_neg c5).symm.trans hf
            refine lv_iload_n hx hb dX9_told_77 rfl (lv_at hl 1 rfl) ?_
            refine lv_iconst (v := 3) hx hb dX9_told_78 (by decide) ?_
            refine lv_icmp_ne (tgt := 89) hx hb dX9_told_79 (by decide) (fun c6 => ?_) (fun c6 => ?_)
            · have hf := (if_neg c6).symm.trans hf
              refine lv_bipush (v := -2) hx hb dX9_told_89 (by decide) ?_
              have hR := Option.some.inj hf
              rw [← hR]
              exact rt_i hx hb hr hlk hsz hP hD hS rfl rfl dX9_told_91
            · have hf := (if_pos c6).symm.trans hf
              refine lv_aload_n hx hb dX9_told_82 rfl (lv_at hl 0 rfl) ?_
              refine mg (ci := 9) 0 6 hx hb hG igX9 hown hP rfl rfl (by decide) (wd_3_138 hG.2.1) rfl rfl dX9_told_83 ?_
              refine lv_goto (tgt := 91) hx hb dX9_told_86 (by decide) ?_
              have hR := Option.some.inj hf
              rw [← hR]
              exact rt_i hx hb hr hlk hsz hP hD hS rfl rfl dX9_told_91
          · have hf := (if_pos c5).symm.trans hf
            refine lv_aload_n hx hb dX9_told_70 rfl (lv_at hl 0 rfl) ?_
            refine mg (ci := 9) 0 4 hx hb hG igX9 hown hP rfl rfl (by decide) (wd_3_136 hG.2.1) rfl rfl dX9_told_71 ?_
            refine lv_goto (tgt := 91) hx hb dX9_told_74 (by decide) ?_
            have hR := Option.some.inj hf
            rw [← hR]
            exact rt_i hx hb hr hlk hsz hP hD hS rfl rfl dX9_told_91
        · have hf := (if_pos c4).symm.trans hf
          refine lv_aload_n hx hb dX9_told_58 rfl (lv_at hl 0 rfl) ?_
          obtain ⟨r59, hc59, hf⟩ := bd1_some hf
          refine cl_Vi (r := r59) (b := a_t) (As := []) (w1 := (woX9_minutesOf cI cZ a_t a_t_how a_t_strong a_t_pad a_t_plan a_t_box a_t_instead a_t_flakes a_t_tired a_t_image a_t_isKept t_signs t_parts t_swings t_saltFirst t_paceOfAll t_ice t_salt t_brine t_cold t_warm t_frozen t_layer t_air t_churned t_held t_heldFirst t_stiffWanted t_stiffFirst t_plan)) (wN := (woX9_told cI cZ a_t a_t_how a_t_strong a_t_pad a_t_plan a_t_box a_t_instead a_t_flakes a_t_tired a_t_image a_t_isKept t_signs t_parts t_swings t_saltFirst t_paceOfAll t_ice t_salt t_brine t_cold t_warm t_frozen t_layer t_air t_churned t_held t_heldFirst t_stiffWanted t_stiffFirst t_how t_strong t_plan)) [0, 3] 0 9 (c_X9_minutesOf l dC dI cI cZ ts _ a_t a_t_how a_t_strong a_t_pad a_t_plan a_t_box a_t_instead a_t_flakes a_t_tired a_t_image a_t_isKept t_signs t_parts t_swings t_saltFirst t_paceOfAll t_ice t_salt t_brine t_cold t_warm t_frozen t_layer t_air t_churned t_held t_heldFirst t_stiffWanted t_stiffFirst t_plan (r59) hc59) ⟨hx, hb, hml, hown, hG.2.1.hts _⟩ ⟨callB_of 0 (hG.2.1.hts _) giX9_minutesOf rfl rfl rfl (wd_1_10 hG.2.1) (wd_4_25 hG.2.1) hd_X9_minutesOf ⟨Nat.le_of_ble_eq_true rfl, Nat.le_of_ble_eq_true rfl⟩, wd_4_27 hG.2.1, ws_17 hG.2.1⟩ hG hP hD hS rfl rfl rfl rfl rfl rfl rfl rfl hl.1 rfl (Nat.le_of_ble_eq_true rfl) dX9_told_59 ⟨Nat.zero_le _, Nat.zero_le _⟩ (fun H locs hP hD hS => ?_)
          refine lv_goto (tgt := 91) hx hb dX9_told_62 (by decide) ?_
          have hR := Option.some.inj hf
          rw [← hR]
          exact rt_i hx hb hr hlk hsz hP hD hS rfl rfl dX9_told_91
      · have hf := (if_pos c3).symm.trans hf
        refine lv_aload_n hx hb dX9_told_46 rfl (lv_at hl 0 rfl) ?_
        refine mg (ci := 9) 0 2 hx hb hG igX9 hown hP rfl rfl (by decide) (wd_3_134 hG.2.1) rfl rfl dX9_told_47 ?_
        refine lv_goto (tgt := 91) hx hb dX9_told_50 (by decide) ?_
        have hR := Option.some.inj hf
        rw [← hR]
        exact rt_i hx hb hr hlk hsz hP hD hS rfl rfl dX9_told_91
    · have hf := (if_neg c2).symm.trans hf
      refine lv_aload_n hx hb dX9_told_32 rfl (lv_at hl 0 rfl) ?_
      refine mg (ci := 9) 0 1 hx hb hG igX9 hown hP rfl rfl (by decide) (wd_3_133 hG.2.1) rfl rfl dX9_told_33 ?_
      refine lv_iload_n hx hb dX9_told_36 rfl (lv_at hl 1 rfl) ?_
      refine lv_bipush (v := 20) hx hb dX9_told_37 (by decide) ?_
      refine lv_isub hx hb dX9_told_39 ?_
      obtain ⟨g7, hf⟩ := gd_some hf
      refine mal 2 hx hb hG hP rfl g7 dX9_told_40 ?_
      have hR := Option.some.inj hf
      rw [← hR]
      exact rt_i hx hb hr hlk hsz hP hD hS rfl rfl dX9_told_41
  · have hf := (if_neg c1).symm.trans hf
    refine lv_aload_n hx hb dX9_told_11 rfl (lv_at hl 0 rfl) ?_
    refine mg (ci := 9) 0 0 hx hb hG igX9 hown hP rfl rfl (by decide) (wd_3_132 hG.2.1) rfl rfl dX9_told_12 ?_
    refine lv_iload_n hx hb dX9_told_15 rfl (lv_at hl 1 rfl) ?_
    refine lv_bipush (v := 10) hx hb dX9_told_16 (by decide) ?_
    refine lv_isub hx hb dX9_told_18 ?_
    obtain ⟨g8, hf⟩ := gd_some hf
    refine mal 1 hx hb hG hP rfl g8 dX9_told_19 ?_
    have hR := Option.some.inj hf
    rw [← hR]
    exact rt_i hx hb hr hlk hsz hP hD hS rfl rfl dX9_told_20
