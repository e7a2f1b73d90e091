abbrev woX8_at (cI cZ : ClassId) (a_b0 : Nat) (n0 : Nat) (b0 : Nat → Int32) : va_W := [(a_b0, .inl (cI, n0, .inl b0))]
abbrev rmX8_at : Room := { frames := 0, cells := 0, slots := 0, locals := 0 }
theorem hd_X8_at : yX8_at.cls ≠ "java/lang/invoke/MethodHandle" ∧ yX8_at.cls ≠ "java/lang/invoke/VarHandle" ∧ (parseMethodDescriptor yX8_at.desc).map (fun d => d.parameters.length) = some 2 := by decide +kernel
set_option maxHeartbeats 4000000 in
set_option maxRecDepth 100000 in
theorem c_X8_at (l : Launch) (dC : Nat → ClassId) (dI : Nat → Nat → Nat) (cI cZ : ClassId) (ts : Nat → Nat) (sz : Nat) (a_b0 : Nat) (n0 : Nat) (b0 : Nat → Int32) (x1 : Int32) (R : Int32) (hf : f_X8_at n0 b0 x1 = some R) : Met l yX8_at wyX8_at rmX8_at (PRE (dC, dI) cI cZ ts [.ref a_b0, .int x1] sz (woX8_at cI cZ a_b0 n0 b0)) (POSTi (dC, dI) R sz (woX8_at cI cZ a_b0 n0 b0) (woX8_at cI cZ a_b0 n0 b0)) 0 0 (va_A (woX8_at cI cZ a_b0 n0 b0) sz) := by
  refine Met.ofW (cc := cX8_at) (maxL := 2) (ret := (some .int)) (by decide) rfl ?_
  intro p e s m args below meth c s₁ B hml hv
  obtain ⟨rfl, hv⟩ := hv
  have hG := hg_of hv
  obtain ⟨hsz, hP, -, hD0, -⟩ := hv
  have hx := B.exec
  have hb := B.bytes
  have hr := B.returns
  have hlk := B.notSynchronized
  have hown : s.vm.findClass RX8 = some m.cls := findClass_of_methodNamed B.named
  have hD := hD0.self (sz := sz)
  have hS : va_S (va_A (woX8_at cI cZ a_b0 n0 b0) sz) s.heap s.heap [] := va_S.rf
  have hl := lv_entry ([.ref a_b0, .int x1]) (n := 2) (Nat.le_of_ble_eq_true rfl)
  rw [lg_entry_eq]
  generalize (lg_sl ([.ref a_b0, .int x1]) ++ List.replicate (2 - (lg_sl ([.ref a_b0, .int x1])).length) Slot.unset).toArray = ls at hl ⊢
  have hl : lv_has ls 2 [(0, .ref a_b0), (1, .int x1)] := hl
  unfold f_X8_at at hf
  refine lv_iload_n hx hb dX8_at_0 rfl (lv_at hl 1 rfl) ?_
  refine lv_if_lt (tgt := 16) hx hb dX8_at_1 (by decide) (fun c1 => ?_) (fun c1 => ?_)
  · have hf := (if_pos c1).symm.trans hf
    refine lv_iconst (v := 0) hx hb dX8_at_16 (by decide) ?_
    have hR := Option.some.inj hf
    rw [← hR]
    exact rt_i hx hb hr hlk hsz hP hD hS rfl rfl dX8_at_17
  · have hf := (if_neg c1).symm.trans hf
    refine lv_iload_n hx hb dX8_at_4 rfl (lv_at hl 1 rfl) ?_
    refine lv_aload_n hx hb dX8_at_5 rfl (lv_at hl 0 rfl) ?_
    refine maln 0 0 hx hb hG hP rfl rfl (v := (Int32.ofNat n0)) rfl dX8_at_6 ?_
    refine lv_icmp_ge (tgt := 16) hx hb dX8_at_7 (by decide) (fun c2 => ?_) (fun c2 => ?_)
    · have hf := (if_pos c2).symm.trans hf
      refine lv_iconst (v := 0) hx hb dX8_at_16 (by decide) ?_
      have hR := Option.some.inj hf
      rw [← hR]
      exact rt_i hx hb hr hlk hsz hP hD hS rfl rfl dX8_at_17
    · have hf := (if_neg c2).symm.trans hf
      refine lv_aload_n hx hb dX8_at_10 rfl (lv_at hl 0 rfl) ?_
      refine lv_iload_n hx hb dX8_at_11 rfl (lv_at hl 1 rfl) ?_
      obtain ⟨g3, hf⟩ := gd_some hf
      refine mal 0 hx hb hG hP rfl g3 dX8_at_12 ?_
      refine lv_goto (tgt := 17) hx hb dX8_at_13 (by decide) ?_
      have hR := Option.some.inj hf
      rw [← hR]
      exact rt_i hx hb hr hlk hsz hP hD hS rfl rfl dX8_at_17
abbrev rmX8_atT : Room := { frames := 0, cells := 0, slots := 0, locals := 0 }
set_option maxHeartbeats 4000000 in
set_option maxRecDepth 100000 in
theorem c_X8_atT (l : Launch) (dC : Nat → ClassId) (dI : Nat → Nat → Nat) (cI cZ : ClassId) (ts : Nat → Nat) (sz : Nat) (k : Nat) (x1 : Int32) (R : Int32) (hf : f_X8_atT k x1 = some R) : Met l yX8_at wyX8_at rmX8_atT (PRE (dC, dI) cI cZ ts [.ref (ts k), .int x1] sz []) (POSTi (dC, dI) R sz [] []) 0 0 (va_A [] sz) := by
  refine Met.ofW (cc := cX8_at) (maxL := 2) (ret := (some .int)) (by decide) rfl ?_
  intro p e s m args below meth c s₁ B hml hv
  obtain ⟨rfl, hv⟩ := hv
  have hG := hg_of hv
  obtain ⟨hsz, hP, -, hD0, -⟩ := hv
  have hx := B.exec
  have hb := B.bytes
  have hr := B.returns
  have hlk := B.notSynchronized
  have hown : s.vm.findClass RX8 = some m.cls := findClass_of_methodNamed B.named
  have hD := hD0.self (sz := sz)
  have hS : va_S (va_A [] sz) s.heap s.heap [] := va_S.rf
  have hl := lv_entry ([.ref (ts k), .int x1]) (n := 2) (Nat.le_of_ble_eq_true rfl)
  rw [lg_entry_eq]
  generalize (lg_sl ([.ref (ts k), .int x1]) ++ List.replicate (2 - (lg_sl ([.ref (ts k), .int x1])).length) Slot.unset).toArray = ls at hl ⊢
  have hl : lv_has ls 2 [(0, .ref (ts k)), (1, .int x1)] := hl
  unfold f_X8_atT at hf
  obtain ⟨hk, hf⟩ := gd_some hf
  refine lv_iload_n hx hb dX8_at_0 rfl (lv_at hl 1 rfl) ?_
  refine lv_if_lt (tgt := 16) hx hb dX8_at_1 (by decide) (fun c1 => ?_) (fun c1 => ?_)
  · have hf := (if_pos c1).symm.trans hf
    refine lv_iconst (v := 0) hx hb dX8_at_16 (by decide) ?_
    have hR := Option.some.inj hf
    rw [← hR]
    exact rt_i hx hb hr hlk hsz hP hD hS rfl rfl dX8_at_17
  · have hf := (if_neg c1).symm.trans hf
    refine lv_iload_n hx hb dX8_at_4 rfl (lv_at hl 1 rfl) ?_
    refine lv_aload_n hx hb dX8_at_5 rfl (lv_at hl 0 rfl) ?_
    refine va_tlen hx hb (hG.2.2.1 k hk).2.1 hS (v := Int32.ofNat (tln k)) rfl dX8_at_6 ?_
    refine lv_icmp_ge (tgt := 16) hx hb dX8_at_7 (by decide) (fun c2 => ?_) (fun c2 => ?_)
    · have hf := (if_pos c2).symm.trans hf
      refine lv_iconst (v := 0) hx hb dX8_at_16 (by decide) ?_
      have hR := Option.some.inj hf
      rw [← hR]
      exact rt_i hx hb hr hlk hsz hP hD hS rfl rfl dX8_at_17
    · have hf := (if_neg c2).symm.trans hf
      refine lv_aload_n hx hb dX8_at_10 rfl (lv_at hl 0 rfl) ?_
      refine lv_iload_n hx hb dX8_at_11 rfl (lv_at hl 1 rfl) ?_
      obtain ⟨g3, hf⟩ := gd_some hf
      refine va_ti hx hb (hG.2.2.1 k hk).2.1 hS g3 (v := .int (tfn k (x1).toNatClampNeg)) rfl dX8_at_12 ?_
      refine lv_goto (tgt := 17) hx hb dX8_at_13 (by decide) ?_
      have hR := Option.some.inj hf
      rw [← hR]
      exact rt_i hx hb hr hlk hsz hP hD hS rfl rfl dX8_at_17
abbrev woX4_number (cI cZ : ClassId) (a_t a_t_numbers a_t_strengths a_t_steps a_t_swings : Nat) (t_holds : Int32) (t_numbers : Nat → Int32) : va_W := [(a_t, .inr (4, [.int t_holds, .ref a_t_numbers, .ref a_t_strengths, .ref a_t_steps, .ref a_t_swings])), (a_t_numbers, .inl (cI, 8, .inl t_numbers))]
abbrev rmX4_number : Room := { frames := 1, cells := 0, slots := 0, locals := 21 }
theorem hd_X4_number : yX4_number.cls ≠ "java/lang/invoke/MethodHandle" ∧ yX4_number.cls ≠ "java/lang/invoke/VarHandle" ∧ (parseMethodDescriptor yX4_number.desc).map (fun d => d.parameters.length) = some 1 := by decide +kernel
set_option maxHeartbeats 4000000 in
set_option maxRecDepth 100000 in
theorem c_X4_number (l : Launch) (dC : Nat → ClassId) (dI : Nat → Nat → Nat) (cI cZ : ClassId) (ts : Nat → Nat) (sz : Nat) (a_t a_t_numbers a_t_strengths a_t_steps a_t_swings : Nat) (t_holds : Int32) (t_numbers : Nat → Int32) (x1 : Int32) (R : Int32) (hf : f_X4_number t_numbers x1 = some R) : Met l yX4_number wyX4_number rmX4_number (PRE (dC, dI) cI cZ ts [.ref a_t, .int x1] sz (woX4_number cI cZ a_t a_t_numbers a_t_strengths a_t_steps a_t_swings t_holds t_numbers)) (POSTi (dC, dI) R sz (woX4_number cI cZ a_t a_t_numbers a_t_strengths a_t_steps a_t_swings t_holds t_numbers) (woX4_number cI cZ a_t a_t_numbers a_t_strengths a_t_steps a_t_swings t_holds t_numbers)) 0 0 (va_A (woX4_number cI cZ a_t a_t_numbers a_t_strengths a_t_steps a_t_swings t_holds t_numbers) sz) := by
  refine Met.ofW (cc := cX4_number) (maxL := 2) (ret := (some .int)) (by decide) rfl ?_
  intro p e s m args below meth c s₁ B hml hv
  obtain ⟨rfl, hv⟩ := hv
  have hG := hg_of hv
  obtain ⟨hsz, hP, -, hD0, -⟩ := hv
  have hx := B.exec
  have hb := B.bytes
  have hr := B.returns
  have hlk := B.notSynchronized
  have hown : s.vm.findClass RX4 = some m.cls := findClass_of_methodNamed B.named
  have hD := hD0.self (sz := sz)
  have hS : va_S (va_A (woX4_number cI cZ a_t a_t_numbers a_t_strengths a_t_steps a_t_swings t_holds t_numbers) sz) s.heap s.heap [] := va_S.rf
  have hl := lv_entry ([.ref a_t, .int x1]) (n := 2) (Nat.le_of_ble_eq_true rfl)
  rw [lg_entry_eq]
  generalize (lg_sl ([.ref a_t, .int x1]) ++ List.replicate (2 - (lg_sl ([.ref a_t, .int x1])).length) Slot.unset).toArray = ls at hl ⊢
  have hl : lv_has ls 2 [(0, .ref a_t), (1, .int x1)] := hl
  unfold f_X4_number at hf
  refine lv_aload_n hx hb dX4_number_0 rfl (lv_at hl 0 rfl) ?_
  refine mg (ci := 4) 0 1 hx hb hG igX4 hown hP rfl rfl (by decide) (wd_1_86 hG.2.1) rfl rfl dX4_number_1 ?_
  refine lv_iload_n hx hb dX4_number_4 rfl (lv_at hl 1 rfl) ?_
  obtain ⟨r5, hc5, hf⟩ := bd1_some hf
  refine cl_Ni (r := r5) (As := [.ref a_t_numbers, .int x1]) (w1 := (woX8_at cI cZ a_t_numbers 8 t_numbers)) (wN := (woX4_number cI cZ a_t a_t_numbers a_t_strengths a_t_steps a_t_swings t_holds t_numbers)) [1] 0 0 (c_X8_at l dC dI cI cZ ts _ a_t_numbers 8 t_numbers x1 (r5) hc5) ⟨hx, hb, hml, hown, hG.2.1.hts _⟩ ⟨va_cnB 2 (hG.2.1.hts _) giX8_at rfl rfl rfl (va_Nw.of (A := #[]) rfl (wd_2_18 hG.2.1)) (wd_1_1 hG.2.1) hd_X8_at ⟨Nat.le_of_ble_eq_true rfl, Nat.le_of_ble_eq_true rfl⟩, wd_2_10 hG.2.1, trivial⟩ hG hP hD hS rfl rfl rfl rfl rfl hl.1 rfl (Nat.le_of_ble_eq_true rfl) dX4_number_5 ⟨Nat.zero_le _, Nat.zero_le _⟩ (fun H locs hP hD hS => ?_)
  have hR := Option.some.inj hf
  rw [← hR]
  exact rt_i hx hb hr hlk hsz hP hD hS rfl rfl dX4_number_8
abbrev woX2_clear (cI cZ : ClassId) (a_t a_t_grams : Nat) (t_total : Int32) (t_grams : Nat → Int32) : va_W := [(a_t, .inr (2, [.ref a_t_grams, .int t_total])), (a_t_grams, .inl (cI, 64, .inl t_grams))]
abbrev rmX2_clear : Room := { frames := 0, cells := 0, slots := 0, locals := 0 }
theorem hd_X2_clear : yX2_clear.cls ≠ "java/lang/invoke/MethodHandle" ∧ yX2_clear.cls ≠ "java/lang/invoke/VarHandle" ∧ (parseMethodDescriptor yX2_clear.desc).map (fun d => d.parameters.length) = some 0 := by decide +kernel
set_option maxHeartbeats 4000000 in
set_option maxRecDepth 100000 in
theorem c_X2_clear (l : Launch) (dC : Nat → ClassId) (dI : Nat → Nat → Nat) (cI cZ : ClassId) (ts : Nat → Nat) (sz : Nat) (a_t a_t_grams : Nat) (t_total : Int32) (t_grams : Nat → Int32) (R : Int32 × (Nat → Int32)) (hf : f_X2_clear t_total t_grams = some R) : Met l yX2_clear wyX2_clear rmX2_clear (PRE (dC, dI) cI cZ ts [.ref a_t] sz (woX2_clear cI cZ a_t a_t_grams t_total t_grams)) (POSTv (dC, dI) sz (woX2_clear cI cZ a_t a_t_grams t_total t_grams) (woX2_clear cI cZ a_t a_t_grams R.1 R.2)) 0 0 (va_A (woX2_clear cI cZ a_t a_t_grams t_total t_grams) sz) := by
  refine Met.ofW (cc := cX2_clear) (maxL := 2) (ret := none) (by decide) rfl ?_
  intro p e s m args below meth c s₁ B hml hv
  obtain ⟨rfl, hv⟩ := hv
  have hG := hg_of hv
  obtain ⟨hsz, hP, -, hD0, -⟩ := hv
  have hx := B.exec
  have hb := B.bytes
  have hr := B.returns
  have hlk := B.notSynchronized
  have hown : s.vm.findClass RX2 = some m.cls := findClass_of_methodNamed B.named
  have hD := hD0.self (sz := sz)
  have hS : va_S (va_A (woX2_clear cI cZ a_t a_t_grams t_total t_grams) sz) s.heap s.heap [] := va_S.rf
  have L2 : ∀ (fu : Nat) (y1 : Int32) (v_t_total : Int32) (v_t_grams : Nat → Int32) (H : Heap) (locs : List Loc) (ls : Array Slot), f_X2_clear_L2 fu y1 v_t_total v_t_grams = some R → va_P (dC, dI) vwCl (woX2_clear cI cZ a_t a_t_grams v_t_total v_t_grams) H → va_D (va_A (woX2_clear cI cZ a_t a_t_grams t_total t_grams) sz) (woX2_clear cI cZ a_t a_t_grams v_t_total v_t_grams) → va_S (va_A (woX2_clear cI cZ a_t a_t_grams t_total t_grams) sz) s.heap H locs → lv_has ls 2 [(0, .ref a_t), (1, .int y1)] → W p l e (headSpec wyX2_clear rmX2_clear).room s m ([Value.ref a_t] : List Value).toArray below meth c H locs 0 0 (MQ below (POSTv (dC, dI) sz (woX2_clear cI cZ a_t a_t_grams t_total t_grams) (woX2_clear cI cZ a_t a_t_grams R.1 R.2)) ([Value.ref a_t] : List Value).toArray s 0 0 (va_A (woX2_clear cI cZ a_t a_t_grams t_total t_grams) sz)) (F0 m 2 ls []) := by
    intro  fu
    induction fu with
    | zero => intro y1 v_t_total v_t_grams H locs ls hf; cases hf
    | succ fu ih =>
      intro y1 v_t_total v_t_grams H locs ls hf hP hD hS hl
      rw [f_X2_clear_L2] at hf
      refine lv_iload_n hx hb dX2_clear_2 rfl (lv_at hl 1 rfl) ?_
      refine lv_aload_n hx hb dX2_clear_3 rfl (lv_at hl 0 rfl) ?_
      refine mg (ci := 2) 0 0 hx hb hG igX2 hown hP rfl rfl (by decide) (wd_1_148 hG.2.1) rfl rfl dX2_clear_4 ?_
      refine maln 1 0 hx hb hG hP rfl rfl (v := (64 : Int32)) rfl dX2_clear_7 ?_
      refine lv_icmp_ge (tgt := 24) hx hb dX2_clear_8 (by decide) (fun c1 => ?_) (fun c1 => ?_)
      · have hf := (if_pos c1).symm.trans hf
        refine lv_aload_n hx hb dX2_clear_24 rfl (lv_at hl 0 rfl) ?_
        refine lv_iconst (v := 0) hx hb dX2_clear_25 (by decide) ?_
        refine mp (ci := 2) (wN := (woX2_clear cI cZ a_t a_t_grams (0 : Int32) v_t_grams)) 0 1 hx hb hG igX2 tyX2 tyX2_ok nmX2 hown hP hD hS rfl rfl (by decide) (wd_1_149 hG.2.1) rfl rfl rfl rfl rfl (Nat.le_of_ble_eq_true rfl) rfl dX2_clear_26 (fun H locs hP hD hS => ?_)
        have hR := Option.some.inj hf
        rw [← hR]
        exact rt_v hx hb hr hlk hsz hP hD hS rfl dX2_clear_29
      · have hf := (if_neg c1).symm.trans hf
        refine lv_aload_n hx hb dX2_clear_11 rfl (lv_at hl 0 rfl) ?_
        refine mg (ci := 2) 0 0 hx hb hG igX2 hown hP rfl rfl (by decide) (wd_1_148 hG.2.1) rfl rfl dX2_clear_12 ?_
        refine lv_iload_n hx hb dX2_clear_15 rfl (lv_at hl 1 rfl) ?_
        refine lv_iconst (v := 0) hx hb dX2_clear_16 (by decide) ?_
        obtain ⟨g2, hf⟩ := gd_some hf
        refine mas (wN := (woX2_clear cI cZ a_t a_t_grams v_t_total (upd v_t_grams (y1).toNatClampNeg (0 : Int32)))) 1 hx hb hG hP hD hS rfl g2 rfl dX2_clear_17 (fun H locs hP hD hS => ?_)
        refine lv_iinc (v := (y1 + (1 : Int32))) (lv' := [(1, .int (y1 + (1 : Int32))), (0, .ref a_t)]) hx hb dX2_clear_18 hl (k := 1) rfl rfl (by decide) rfl (fun ls hl => ?_)
        refine lv_goto (tgt := 2) hx hb dX2_clear_21 (by decide) ?_
        exact ih (y1 + (1 : Int32)) v_t_total (upd v_t_grams (y1).toNatClampNeg (0 : Int32)) _ _ _ hf hP hD hS (lv_sub hl [1, 0] rfl)
  have hl := lv_entry ([.ref a_t]) (n := 2) (Nat.le_of_ble_eq_true rfl)
  rw [lg_entry_eq]
  generalize (lg_sl ([.ref a_t]) ++ List.replicate (2 - (lg_sl ([.ref a_t])).length) Slot.unset).toArray = ls at hl ⊢
  have hl : lv_has ls 2 [(0, .ref a_t)] := hl
  unfold f_X2_clear at hf
  refine lv_iconst (v := 0) hx hb dX2_clear_0 (by decide) ?_
  refine lv_istore_n (lv' := [(1, .int (0 : Int32)), (0, .ref a_t)]) hx hb dX2_clear_1 rfl hl (by decide) rfl (fun ls hl => ?_)
  exact L2 FU (0 : Int32) t_total t_grams _ _ _ hf hP hD hS (lv_sub hl [1, 0] rfl)
abbrev woX0_begin (cI cZ : ClassId) (a_t a_t_scraped a_t_scraped_grams a_o1 a_o1_numbers a_o1_strengths a_o1_steps a_o1_swings : Nat) (t_water : Int32) (t_sugar : Int32) (t_fat : Int32) (t_warm : Int32) (t_layer : Int32) (t_air : Int32) (t_churned : Int32) (t_scraped_total : Int32) (t_scraped_grams : Nat → Int32) (o1_holds : Int32) (o1_numbers : Nat → Int32) : va_W := [(a_t, .inr (0, [.int t_water, .int t_sugar, .int t_fat, .int t_warm, .int t_layer, .int t_air, .int t_churned, .ref a_t_scraped])), (a_t_scraped, .inr (2, [.ref a_t_scraped_grams, .int t_scraped_total])), (a_t_scraped_grams, .inl (cI, 64, .inl t_scraped_grams)), (a_o1, .inr (4, [.int o1_holds, .ref a_o1_numbers, .ref a_o1_strengths, .ref a_o1_steps, .ref a_o1_swings])), (a_o1_numbers, .inl (cI, 8, .inl o1_numbers))]
abbrev rmX0_begin : Room := { frames := 2, cells := 0, slots := 0, locals := 42 }
theorem hd_X0_begin : yX0_begin.cls ≠ "java/lang/invoke/MethodHandle" ∧ yX0_begin.cls ≠ "java/lang/invoke/VarHandle" ∧ (parseMethodDescriptor yX0_begin.desc).map (fun d => d.parameters.length) = some 1 := by decide +kernel
set_option maxHeartbeats 4000000 in
set_option maxRecDepth 100000 in
theorem c_X0_begin (l : Launch) (dC : Nat → ClassId) (dI : Nat → Nat → Nat) (cI cZ : ClassId) (ts : Nat → Nat) (sz : Nat) (a_t a_t_scraped a_t_scraped_grams a_o1 a_o1_numbers a_o1_strengths a_o1_steps a_o1_swings : Nat) (t_water : Int32) (t_sugar : Int32) (t_fat : Int32) (t_warm : Int32) (t_layer : Int32) (t_air : Int32) (t_churned : Int32) (t_scraped_total : Int32) (t_scraped_grams : Nat → Int32) (o1_holds : Int32) (o1_numbers : Nat → Int32) (R : Int32 × Int32 × Int32 × Int32 × Int32 × Int32 × Int32 × Int32 × (Nat → Int32)) (hf : f_X0_begin t_water t_sugar t_fat t_warm t_layer t_air t_churned t_scraped_total t_scraped_grams o1_numbers = some R) : Met l yX0_begin wyX0_begin rmX0_begin (PRE (dC, dI) cI cZ ts [.ref a_t, .ref a_o1] sz (woX0_begin cI cZ a_t a_t_scraped a_t_scraped_grams a_o1 a_o1_numbers a_o1_strengths a_o1_steps a_o1_swings t_water t_sugar t_fat t_warm t_layer t_air t_churned t_scraped_total t_scraped_grams o1_holds o1_numbers)) (POSTv (dC, dI) sz (woX0_begin cI cZ a_t a_t_scraped a_t_scraped_grams a_o1 a_o1_numbers a_o1_strengths a_o1_steps a_o1_swings t_water t_sugar t_fat t_warm t_layer t_air t_churned t_scraped_total t_scraped_grams o1_holds o1_numbers) (woX0_begin cI cZ a_t a_t_scraped a_t_scraped_grams a_o1 a_o1_numbers a_o1_strengths a_o1_steps a_o1_swings R.1 R.2.1 R.2.2.1 R.2.2.2.1 R.2.2.2.2.1 R.2.2.2.2.2.1 R.2.2.2.2.2.2.1 R.2.2.2.2.2.2.2.1 R.2.2.2.2.2.2.2.2 o1_holds o1_numbers)) 0 0 (va_A (woX0_begin cI cZ a_t a_t_scraped a_t_scraped_grams a_o1 a_o1_numbers a_o1_strengths a_o1_steps a_o1_swings t_water t_sugar t_fat t_warm t_layer t_air t_churned t_scraped_total t_scraped_grams o1_holds o1_numbers) sz) := by
  refine Met.ofW (cc := cX0_begin) (maxL := 2) (ret := none) (by decide) rfl ?_
  intro p e s m args below meth c s₁ B hml hv
  obtain ⟨rfl, hv⟩ := hv
  have hG := hg_of hv
  obtain ⟨hsz, hP, -, hD0, -⟩ := hv
  have hx := B.exec
  have hb := B.bytes
  have hr := B.returns
  have hlk := B.notSynchronized
  have hown : s.vm.findClass RX0 = some m.cls := findClass_of_methodNamed B.named
  have hD := hD0.self (sz := sz)
  have hS : va_S (va_A (woX0_begin cI cZ a_t a_t_scraped a_t_scraped_grams a_o1 a_o1_numbers a_o1_strengths a_o1_steps a_o1_swings t_water t_sugar t_fat t_warm t_layer t_air t_churned t_scraped_total t_scraped_grams o1_holds o1_numbers) sz) s.heap s.heap [] := va_S.rf
  have hl := lv_entry ([.ref a_t, .ref a_o1]) (n := 2) (Nat.le_of_ble_eq_true rfl)
  rw [lg_entry_eq]
  generalize (lg_sl ([.ref a_t, .ref a_o1]) ++ List.replicate (2 - (lg_sl ([.ref a_t, .ref a_o1])).length) Slot.unset).toArray = ls at hl ⊢
  have hl : lv_has ls 2 [(0, .ref a_t), (1, .ref a_o1)] := hl
  unfold f_X0_begin at hf
  refine lv_aload_n hx hb dX0_begin_0 rfl (lv_at hl 0 rfl) ?_
  refine lv_aload_n hx hb dX0_begin_1 rfl (lv_at hl 1 rfl) ?_
  refine lv_iconst (v := 2) hx hb dX0_begin_2 (by decide) ?_
  obtain ⟨r3, hc3, hf⟩ := bd1_some hf
  refine cl_Vi (r := r3) (b := a_o1) (As := [.int (2 : Int32)]) (w1 := (woX4_number cI cZ a_o1 a_o1_numbers a_o1_strengths a_o1_steps a_o1_swings o1_holds o1_numbers)) (wN := (woX0_begin cI cZ a_t a_t_scraped a_t_scraped_grams a_o1 a_o1_numbers a_o1_strengths a_o1_steps a_o1_swings t_water t_sugar t_fat t_warm t_layer t_air t_churned t_scraped_total t_scraped_grams o1_holds o1_numbers)) [3, 4] 3 4 (c_X4_number l dC dI cI cZ ts _ a_o1 a_o1_numbers a_o1_strengths a_o1_steps a_o1_swings o1_holds o1_numbers (2 : Int32) (r3) hc3) ⟨hx, hb, hml, hown, hG.2.1.hts _⟩ ⟨callB_of 1 (hG.2.1.hts _) giX4_number rfl rfl rfl (wd_1_3 hG.2.1) (wd_2_135 hG.2.1) hd_X4_number ⟨Nat.le_of_ble_eq_true rfl, Nat.le_of_ble_eq_true rfl⟩, wd_2_15 hG.2.1, wd_2_16 hG.2.1⟩ hG hP hD hS rfl rfl rfl rfl rfl rfl rfl rfl hl.1 rfl (Nat.le_of_ble_eq_true rfl) dX0_begin_3 ⟨Nat.zero_le _, Nat.zero_le _⟩ (fun H locs hP hD hS => ?_)
  refine mp (ci := 0) (wN := (woX0_begin cI cZ a_t a_t_scraped a_t_scraped_grams a_o1 a_o1_numbers a_o1_strengths a_o1_steps a_o1_swings r3 t_sugar t_fat t_warm t_layer t_air t_churned t_scraped_total t_scraped_grams o1_holds o1_numbers)) 0 0 hx hb hG igX0 tyX0 tyX0_ok nmX0 hown hP hD hS rfl rfl (by decide) (wd_1_158 hG.2.1) rfl rfl rfl rfl rfl (Nat.le_of_ble_eq_true rfl) rfl dX0_begin_6 (fun H locs hP hD hS => ?_)
  refine lv_aload_n hx hb dX0_begin_9 rfl (lv_at hl 0 rfl) ?_
  refine lv_aload_n hx hb dX0_begin_10 rfl (lv_at hl 1 rfl) ?_
  refine lv_iconst (v := 3) hx hb dX0_begin_11 (by decide) ?_
  obtain ⟨r12, hc12, hf⟩ := bd1_some hf
  refine cl_Vi (r := r12) (b := a_o1) (As := [.int (3 : Int32)]) (w1 := (woX4_number cI cZ a_o1 a_o1_numbers a_o1_strengths a_o1_steps a_o1_swings o1_holds o1_numbers)) (wN := (woX0_begin cI cZ a_t a_t_scraped a_t_scraped_grams a_o1 a_o1_numbers a_o1_strengths a_o1_steps a_o1_swings r3 t_sugar t_fat t_warm t_layer t_air t_churned t_scraped_total t_scraped_grams o1_holds o1_numbers)) [3, 4] 3 4 (c_X4_number l dC dI cI cZ ts _ a_o1 a_o1_numbers a_o1_strengths a_o1_steps a_o1_swings o1_holds o1_numbers (3 : Int32) (r12) hc12) ⟨hx, hb, hml, hown, hG.2.1.hts _⟩ ⟨callB_of 1 (hG.2.1.hts _) giX4_number rfl rfl rfl (wd_1_3 hG.2.1) (wd_2_135 hG.2.1) hd_X4_number ⟨Nat.le_of_ble_eq_true rfl, Nat.le_of_ble_eq_true rfl⟩, wd_2_15 hG.2.1, wd_2_16 hG.2.1⟩ hG hP hD hS rfl rfl rfl rfl rfl rfl rfl rfl hl.1 rfl (Nat.le_of_ble_eq_true rfl) dX0_begin_12 ⟨Nat.zero_le _, Nat.zero_le _⟩ (fun H locs hP hD hS => ?_)
  refine mp (ci := 0) (wN := (woX0_begin cI cZ a_t a_t_scraped a_t_scraped_grams a_o1 a_o1_numbers a_o1_strengths a_o1_steps a_o1_swings r3 r12 t_fat t_warm t_layer t_air t_churned t_scraped_total t_scraped_grams o1_holds o1_numbers)) 0 1 hx hb hG igX0 tyX0 tyX0_ok nmX0 hown hP hD hS rfl rfl (by decide) (wd_1_159 hG.2.1) rfl rfl rfl rfl rfl (Nat.le_of_ble_eq_true rfl) rfl dX0_begin_15 (fun H locs hP hD hS => ?_)
  refine lv_aload_n hx hb dX0_begin_18 rfl (lv_at hl 0 rfl) ?_
  refine lv_aload_n hx hb dX0_begin_19 rfl (lv_at hl 1 rfl) ?_
  refine lv_iconst (v := 4) hx hb dX0_begin_20 (by decide) ?_
  obtain ⟨r21, hc21, hf⟩ := bd1_some hf
  refine cl_Vi (r := r21) (b := a_o1) (As := [.int (4 : Int32)]) (w1 := (woX4_number cI cZ a_o1 a_o1_numbers a_o1_strengths a_o1_steps a_o1_swings o1_holds o1_numbers)) (wN := (woX0_begin cI cZ a_t a_t_scraped a_t_scraped_grams a_o1 a_o1_numbers a_o1_strengths a_o1_steps a_o1_swings r3 r12 t_fat t_warm t_layer t_air t_churned t_scraped_total t_scraped_grams o1_holds o1_numbers)) [3, 4] 3 4 (c_X4_number l dC dI cI cZ ts _ a_o1 a_o1_numbers a_o1_strengths a_o1_steps a_o1_swings o1_holds o1_numbers (4 : Int32) (r21) hc21) ⟨hx, hb, hml, hown, hG.2.1.hts _⟩ ⟨callB_of 1 (hG.2.1.hts _) giX4_number rfl rfl rfl (wd_1_3 hG.2.1) (wd_2_135 hG.2.1) hd_X4_number ⟨Nat.le_of_ble_eq_true rfl, Nat.le_of_ble_eq_true rfl⟩, wd_2_15 hG.2.1, wd_2_16 hG.2.1⟩ hG hP hD hS rfl rfl rfl rfl rfl rfl rfl rfl hl.1 rfl (Nat.le_of_ble_eq_true rfl) dX0_begin_21 ⟨Nat.zero_le _, Nat.zero_le _⟩ (fun H locs hP hD hS => ?_)
  refine mp (ci := 0) (wN := (woX0_begin cI cZ a_t a_t_scraped a_t_scraped_grams a_o1 a_o1_numbers a_o1_strengths a_o1_steps a_o1_swings r3 r12 r21 t_warm t_layer t_air t_churned t_scraped_total t_scraped_grams o1_holds o1_numbers)) 0 2 hx hb hG igX0 tyX0 tyX0_ok nmX0 hown hP hD hS rfl rfl (by decide) (wd_1_160 hG.2.1) rfl rfl rfl rfl rfl (Nat.le_of_ble_eq_true rfl) rfl dX0_begin_24 (fun H locs hP hD hS => ?_)
  refine lv_aload_n hx hb dX0_begin_27 rfl (lv_at hl 0 rfl) ?_
  refine lv_aload_n hx hb dX0_begin_28 rfl (lv_at hl 1 rfl) ?_
  refine lv_iconst (v := 5) hx hb dX0_begin_29 (by decide) ?_
  obtain ⟨r30, hc30, hf⟩ := bd1_some hf
  refine cl_Vi (r := r30) (b := a_o1) (As := [.int (5 : Int32)]) (w1 := (woX4_number cI cZ a_o1 a_o1_numbers a_o1_strengths a_o1_steps a_o1_swings o1_holds o1_numbers)) (wN := (woX0_begin cI cZ a_t a_t_scraped a_t_scraped_grams a_o1 a_o1_numbers a_o1_strengths a_o1_steps a_o1_swings r3 r12 r21 t_warm t_layer t_air t_churned t_scraped_total t_scraped_grams o1_holds o1_numbers)) [3, 4] 3 4 (c_X4_number l dC dI cI cZ ts _ a_o1 a_o1_numbers a_o1_strengths a_o1_steps a_o1_swings o1_holds o1_numbers (5 : Int32) (r30) hc30) ⟨hx, hb, hml, hown, hG.2.1.hts _⟩ ⟨callB_of 1 (hG.2.1.hts _) giX4_number rfl rfl rfl (wd_1_3 hG.2.1) (wd_2_135 hG.2.1) hd_X4_number ⟨Nat.le_of_ble_eq_true rfl, Nat.le_of_ble_eq_true rfl⟩, wd_2_15 hG.2.1, wd_2_16 hG.2.1⟩ hG hP hD hS rfl rfl rfl rfl rfl rfl rfl rfl hl.1 rfl (Nat.le_of_ble_eq_true rfl) dX0_begin_30 ⟨Nat.zero_le _, Nat.zero_le _⟩ (fun H locs hP hD hS => ?_)
  refine mp (ci := 0) (wN := (woX0_begin cI cZ a_t a_t_scraped a_t_scraped_grams a_o1 a_o1_numbers a_o1_strengths a_o1_steps a_o1_swings r3 r12 r21 r30 t_layer t_air t_churned t_scraped_total t_scraped_grams o1_holds o1_numbers)) 0 3 hx hb hG igX0 tyX0 tyX0_ok nmX0 hown hP hD hS rfl rfl (by decide) (wd_1_161 hG.2.1) rfl rfl rfl rfl rfl (Nat.le_of_ble_eq_true rfl) rfl dX0_begin_33 (fun H locs hP hD hS => ?_)
  refine lv_aload_n hx hb dX0_begin_36 rfl (lv_at hl 0 rfl) ?_
  refine lv_iconst (v := 0) hx hb dX0_begin_37 (by decide) ?_
  refine mp (ci := 0) (wN := (woX0_begin cI cZ a_t a_t_scraped a_t_scraped_grams a_o1 a_o1_numbers a_o1_strengths a_o1_steps a_o1_swings r3 r12 r21 r30 (0 : Int32) t_air t_churned t_scraped_total t_scraped_grams o1_holds o1_numbers)) 0 4 hx hb hG igX0 tyX0 tyX0_ok nmX0 hown hP hD hS rfl rfl (by decide) (wd_1_163 hG.2.1) rfl rfl rfl rfl rfl (Nat.le_of_ble_eq_true rfl) rfl dX0_begin_38 (fun H locs hP hD hS => ?_)
  refine lv_aload_n hx hb dX0_begin_41 rfl (lv_at hl 0 rfl) ?_
  refine lv_iconst (v := 0) hx hb dX0_begin_42 (by decide) ?_
  refine mp (ci := 0) (wN := (woX0_begin cI cZ a_t a_t_scraped a_t_scraped_grams a_o1 a_o1_numbers a_o1_strengths a_o1_steps a_o1_swings r3 r12 r21 r30 (0 : Int32) (0 : Int32) t_churned t_scraped_total t_scraped_grams o1_holds o1_numbers)) 0 5 hx hb hG igX0 tyX0 tyX0_ok nmX0 hown hP hD hS rfl rfl (by decide) (wd_1_165 hG.2.1) rfl rfl rfl rfl rfl (Nat.le_of_ble_eq_true rfl) rfl dX0_begin_43 (fun H locs hP hD hS => ?_)
  refine lv_aload_n hx hb dX0_begin_46 rfl (lv_at hl 0 rfl) ?_
  refine lv_iconst (v := 0) hx hb dX0_begin_47 (by decide) ?_
  refine mp (ci := 0) (wN := (woX0_begin cI cZ a_t a_t_scraped a_t_scraped_grams a_o1 a_o1_numbers a_o1_strengths a_o1_steps a_o1_swings r3 r12 r21 r30 (0 : Int32) (0 : Int32) (0 : Int32) t_scraped_total t_scraped_grams o1_holds o1_numbers)) 0 6 hx hb hG igX0 tyX0 tyX0_ok nmX0 hown hP hD hS rfl rfl (by decide) (wd_1_167 hG.2.1) rfl rfl rfl rfl rfl (Nat.le_of_ble_eq_true rfl) rfl dX0_begin_48 (fun H locs hP hD hS => ?_)
  refine lv_aload_n hx hb dX0_begin_51 rfl (lv_at hl 0 rfl) ?_
  refine mg (ci := 0) 0 7 hx hb hG igX0 hown hP rfl rfl (by decide) (wd_1_169 hG.2.1) rfl rfl dX0_begin_52 ?_
  obtain ⟨g55_0, g55_1, hc55, hf⟩ := bd2_some hf
  refine cl_Vv (b := a_t_scraped) (As := []) (w1 := (woX2_clear cI cZ a_t_scraped a_t_scraped_grams g55_0 g55_1)) (wN := (woX0_begin cI cZ a_t a_t_scraped a_t_scraped_grams a_o1 a_o1_numbers a_o1_strengths a_o1_steps a_o1_swings r3 r12 r21 r30 (0 : Int32) (0 : Int32) (0 : Int32) g55_0 g55_1 o1_holds o1_numbers)) [1, 2] 1 2 (c_X2_clear l dC dI cI cZ ts _ a_t_scraped a_t_scraped_grams t_scraped_total t_scraped_grams (g55_0, g55_1) hc55) ⟨hx, hb, hml, hown, hG.2.1.hts _⟩ ⟨callB_of 0 (hG.2.1.hts _) giX2_clear rfl rfl rfl (wd_1_8 hG.2.1) (wd_2_136 hG.2.1) hd_X2_clear ⟨Nat.le_of_ble_eq_true rfl, Nat.le_of_ble_eq_true rfl⟩, wd_2_137 hG.2.1, wd_2_138 hG.2.1⟩ hG hP hD hS rfl rfl rfl rfl rfl rfl rfl rfl hl.1 rfl (Nat.le_of_ble_eq_true rfl) dX0_begin_55 ⟨Nat.zero_le _, Nat.zero_le _⟩ (fun H locs hP hD hS => ?_)
  have hR := Option.some.inj hf
  rw [← hR]
  exact rt_v hx hb hr hlk hsz hP hD hS rfl dX0_begin_58
abbrev woX0_liquid (cI cZ : ClassId) (a_t a_t_scraped a_t_scraped_grams : Nat) (t_water : Int32) (t_sugar : Int32) (t_fat : Int32) (t_warm : Int32) (t_layer : Int32) (t_air : Int32) (t_churned : Int32) (t_scraped_total : Int32) : va_W := [(a_t, .inr (0, [.int t_water, .int t_sugar, .int t_fat, .int t_warm, .int t_layer, .int t_air, .int t_churned, .ref a_t_scraped])), (a_t_scraped, .inr (2, [.ref a_t_scraped_grams, .int t_scraped_total]))]
abbrev rmX0_liquid : Room := { frames := 0, cells := 0, slots := 0, locals := 0 }
theorem hd_X0_liquid : yX0_liquid.cls ≠ "java/lang/invoke/MethodHandle" ∧ yX0_liquid.cls ≠ "java/lang/invoke/VarHandle" ∧ (parseMethodDescriptor yX0_liquid.desc).map (fun d => d.parameters.length) = some 0 := by decide +kernel
set_option maxHeartbeats 4000000 in
set_option maxRecDepth 100000 in
theorem c_X0_liquid (l : Launch) (dC : Nat → ClassId) (dI : Nat → Nat → Nat) (cI cZ : ClassId) (ts : Nat → Nat) (sz : Nat) (a_t a_t_scraped a_t_scraped_grams : Nat) (t_water : Int32) (t_sugar : Int32) (t_fat : Int32) (t_warm : Int32) (t_layer : Int32) (t_air : Int32) (t_churned : Int32) (t_scraped_total : Int32) (R : Int32) (hf : f_X0_liquid t_water t_layer t_scraped_total = some R) : Met l yX0_liquid wyX0_liquid rmX0_liquid (PRE (dC, dI) cI cZ ts [.ref a_t] sz (woX0_liquid cI cZ a_t a_t_scraped a_t_scraped_grams t_water t_sugar t_fat t_warm t_layer t_air t_churned t_scraped_total)) (POSTi (dC, dI) R sz (woX0_liquid cI cZ a_t a_t_scraped a_t_scraped_grams t_water t_sugar t_fat t_warm t_layer t_air t_churned t_scraped_total) (woX0_liquid cI cZ a_t a_t_scraped a_t_scraped_grams t_water t_sugar t_fat t_warm t_layer t_air t_churned t_scraped_total)) 0 0 (va_A (woX0_liquid cI cZ a_t a_t_scraped a_t_scraped_grams t_water t_sugar t_fat t_warm t_layer t_air t_churned t_scraped_total) sz) := by
  refine Met.ofW (cc := cX0_liquid) (maxL := 1) (ret := (some .int)) (by decide) rfl ?_
  intro p e s m args below meth c s₁ B hml hv
  obtain ⟨rfl, hv⟩ := hv
  have hG := hg_of hv
  obtain ⟨hsz, hP, -, hD0, -⟩ := hv
  have hx := B.exec
  have hb := B.bytes
  have hr := B.returns
  have hlk := B.notSynchronized
  have hown : s.vm.findClass RX0 = some m.cls := findClass_of_methodNamed B.named
  have hD := hD0.self (sz := sz)
  have hS : va_S (va_A (woX0_liquid cI cZ a_t a_t_scraped a_t_scraped_grams t_water t_sugar t_fat t_warm t_layer t_air t_churned t_scraped_total) sz) s.heap s.heap [] := va_S.rf
  have hl := lv_entry ([.ref a_t]) (n := 1) (Nat.le_of_ble_eq_true rfl)
  rw [lg_entry_eq]
  generalize (lg_sl ([.ref a_t]) ++ List.replicate (1 - (lg_sl ([.ref a_t])).length) Slot.unset).toArray = ls at hl ⊢
  have hl : lv_has ls 1 [(0, .ref a_t)] := hl
  unfold f_X0_liquid at hf
  refine lv_aload_n hx hb dX0_liquid_0 rfl (lv_at hl 0 rfl) ?_
  refine mg (ci := 0) 0 0 hx hb hG igX0 hown hP rfl rfl (by decide) (wd_1_158 hG.2.1) rfl rfl dX0_liquid_1 ?_
  refine lv_aload_n hx hb dX0_liquid_4 rfl (lv_at hl 0 rfl) ?_
  refine mg (ci := 0) 0 7 hx hb hG igX0 hown hP rfl rfl (by decide) (wd_1_169 hG.2.1) rfl rfl dX0_liquid_5 ?_
  refine mgN (ci := 2) 1 1 hx hb hG igX2 hown hP rfl rfl (by decide) (wd_1_150 hG.2.1) rfl rfl dX0_liquid_8 ?_
  refine lv_isub hx hb dX0_liquid_11 ?_
  refine lv_aload_n hx hb dX0_liquid_12 rfl (lv_at hl 0 rfl) ?_
  refine mg (ci := 0) 0 4 hx hb hG igX0 hown hP rfl rfl (by decide) (wd_1_163 hG.2.1) rfl rfl dX0_liquid_13 ?_
  refine lv_isub hx hb dX0_liquid_16 ?_
  have hR := Option.some.inj hf
  rw [← hR]
  exact rt_i hx hb hr hlk hsz hP hD hS rfl rfl dX0_liquid_17
abbrev rmX8_quotient : Room := { frames := 0, cells := 0, slots := 0, locals := 0 }
theorem hd_X8_quotient : yX8_quotient.cls ≠ "java/lang/invoke/MethodHandle" ∧ yX8_quotient.cls ≠ "java/lang/invoke/VarHandle" ∧ (parseMethodDescriptor yX8_quotient.desc).map (fun d => d.parameters.length) = some 2 := by decide +kernel
set_option maxHeartbeats 4000000 in
set_option maxRecDepth 100000 in
theorem c_X8_quotient (l : Launch) (dC : Nat → ClassId) (dI : Nat → Nat → Nat) (cI cZ : ClassId) (ts : Nat → Nat) (sz : Nat) (x0 : Int32) (x1 : Int32) (R : Int32) (hf : f_X8_quotient x0 x1 = some R) : Met l yX8_quotient wyX8_quotient rmX8_quotient (PRE (dC, dI) cI cZ ts [.int x0, .int x1] sz []) (POSTi (dC, dI) R sz [] []) 0 0 (va_A [] sz) := by
  refine Met.ofW (cc := cX8_quotient) (maxL := 2) (ret := (some .int)) (by decide) rfl ?_
  intro p e s m args below meth c s₁ B hml hv
  obtain ⟨rfl, hv⟩ := hv
  have hG := hg_of hv
  obtain ⟨hsz, hP, -, hD0, -⟩ := hv
  have hx := B.exec
  have hb := B.bytes
  have hr := B.returns
  have hlk := B.notSynchronized
  have hown : s.vm.findClass RX8 = some m.cls := findClass_of_methodNamed B.named
  have hD := hD0.self (sz := sz)
  have hS : va_S (va_A [] sz) s.heap s.heap [] := va_S.rf
  have hl := lv_entry ([.int x0, .int x1]) (n := 2) (Nat.le_of_ble_eq_true rfl)
  rw [lg_entry_eq]
  generalize (lg_sl ([.int x0, .int x1]) ++ List.replicate (2 - (lg_sl ([.int x0, .int x1])).length) Slot.unset).toArray = ls at hl ⊢
  have hl : lv_has ls 2 [(0, .int x0), (1, .int x1)] := hl
  unfold f_X8_quotient at hf
  refine lv_iload_n hx hb dX8_quotient_0 rfl (lv_at hl 1 rfl) ?_
  refine lv_if_ne (tgt := 8) hx hb dX8_quotient_1 (by decide) (fun c1 => ?_) (fun c1 => ?_)
  · have hf := (if_neg c1).symm.trans hf
    refine lv_iload_n hx hb dX8_quotient_8 rfl (lv_at hl 0 rfl) ?_
    refine lv_iload_n hx hb dX8_quotient_9 rfl (lv_at hl 1 rfl) ?_
    obtain ⟨g2, hf⟩ := gd_some hf
    refine lv_idiv hx hb dX8_quotient_10 g2 ?_
    have hR := Option.some.inj hf
    rw [← hR]
    exact rt_i hx hb hr hlk hsz hP hD hS rfl rfl dX8_quotient_11
  · have hf := (if_pos c1).symm.trans hf
    refine lv_iconst (v := 0) hx hb dX8_quotient_4 (by decide) ?_
    refine lv_goto (tgt := 11) hx hb dX8_quotient_5 (by decide) ?_
    have hR := Option.some.inj hf
    rw [← hR]
    exact rt_i hx hb hr hlk hsz hP hD hS rfl rfl dX8_quotient_11
abbrev woX0_line (cI cZ : ClassId) (a_t a_t_scraped a_t_scraped_grams : Nat) (t_water : Int32) (t_sugar : Int32) (t_fat : Int32) (t_warm : Int32) (t_layer : Int32) (t_air : Int32) (t_churned : Int32) (t_scraped_total : Int32) : va_W := [(a_t, .inr (0, [.int t_water, .int t_sugar, .int t_fat, .int t_warm, .int t_layer, .int t_air, .int t_churned, .ref a_t_scraped])), (a_t_scraped, .inr (2, [.ref a_t_scraped_grams, .int t_scraped_total]))]
abbrev rmX0_line : Room := { frames := 1, cells := 0, slots := 0, locals := 21 }
theorem hd_X0_line : yX0_line.cls ≠ "java/lang/invoke/MethodHandle" ∧ yX0_line.cls ≠ "java/lang/invoke/VarHandle" ∧ (parseMethodDescriptor yX0_line.desc).map (fun d => d.parameters.length) = some 0 := by decide +kernel
set_option maxHeartbeats 4000000 in
set_option maxRecDepth 100000 in
theorem c_X0_line (l : Launch) (dC : Nat → ClassId) (dI : Nat → Nat → Nat) (cI cZ : ClassId) (ts : Nat → Nat) (sz : Nat) (a_t a_t_scraped a_t_scraped_grams : Nat) (t_water : Int32) (t_sugar : Int32) (t_fat : Int32) (t_warm : Int32) (t_layer : Int32) (t_air : Int32) (t_churned : Int32) (t_scraped_total : Int32) (R : Int32) (hf : f_X0_line t_water t_sugar t_layer t_scraped_total = some R) : Met l yX0_line wyX0_line rmX0_line (PRE (dC, dI) cI cZ ts [.ref a_t] sz (woX0_line cI cZ a_t a_t_scraped a_t_scraped_grams t_water t_sugar t_fat t_warm t_layer t_air t_churned t_scraped_total)) (POSTi (dC, dI) R sz (woX0_line cI cZ a_t a_t_scraped a_t_scraped_grams t_water t_sugar t_fat t_warm t_layer t_air t_churned t_scraped_total) (woX0_line cI cZ a_t a_t_scraped a_t_scraped_grams t_water t_sugar t_fat t_warm t_layer t_air t_churned t_scraped_total)) 0 0 (va_A (woX0_line cI cZ a_t a_t_scraped a_t_scraped_grams t_water t_sugar t_fat t_warm t_layer t_air t_churned t_scraped_total) sz) := by
  refine Met.ofW (cc := cX0_line) (maxL := 1) (ret := (some .int)) (by decide) rfl ?_
  intro p e s m args below meth c s₁ B hml hv
  obtain ⟨rfl, hv⟩ := hv
  have hG := hg_of hv
  obtain ⟨hsz, hP, -, hD0, -⟩ := hv
  have hx := B.exec
  have hb := B.bytes
  have hr := B.returns
  have hlk := B.notSynchronized
  have hown : s.vm.findClass RX0 = some m.cls := findClass_of_methodNamed B.named
  have hD := hD0.self (sz := sz)
  have hS : va_S (va_A (woX0_line cI cZ a_t a_t_scraped a_t_scraped_grams t_water t_sugar t_fat t_warm t_layer t_air t_churned t_scraped_total) sz) s.heap s.heap [] := va_S.rf
  have hl := lv_entry ([.ref a_t]) (n := 1) (Nat.le_of_ble_eq_true rfl)
  rw [lg_entry_eq]
  generalize (lg_sl ([.ref a_t]) ++ List.replicate (1 - (lg_sl ([.ref a_t])).length) Slot.unset).toArray = ls at hl ⊢
  have hl : lv_has ls 1 [(0, .ref a_t)] := hl
  unfold f_X0_line at hf
  refine lv_bipush (v := 54) hx hb dX0_line_0 (by decide) ?_
  refine lv_aload_n hx hb dX0_line_2 rfl (lv_at hl 0 rfl) ?_
  refine mg (ci := 0) 0 1 hx hb hG igX0 hown hP rfl rfl (by decide) (wd_1_159 hG.2.1) rfl rfl dX0_line_3 ?_
  refine lv_imul hx hb dX0_line_6 ?_
  refine lv_aload_n hx hb dX0_line_7 rfl (lv_at hl 0 rfl) ?_
  obtain ⟨r8, hc8, hf⟩ := bd1_some hf
  refine cl_Vi (r := r8) (b := a_t) (As := []) (w1 := (woX0_liquid cI cZ a_t a_t_scraped a_t_scraped_grams t_water t_sugar t_fat t_warm t_layer t_air t_churned t_scraped_total)) (wN := (woX0_line cI cZ a_t a_t_scraped a_t_scraped_grams t_water t_sugar t_fat t_warm t_layer t_air t_churned t_scraped_total)) [0, 1] 0 0 (c_X0_liquid l dC dI cI cZ ts _ a_t a_t_scraped a_t_scraped_grams t_water t_sugar t_fat t_warm t_layer t_air t_churned t_scraped_total (r8) hc8) ⟨hx, hb, hml, hown, hG.2.1.hts _⟩ ⟨callB_of 0 (hG.2.1.hts _) giX0_liquid rfl rfl rfl (wd_1_7 hG.2.1) (wd_2_182 hG.2.1) hd_X0_liquid ⟨Nat.le_of_ble_eq_true rfl, Nat.le_of_ble_eq_true rfl⟩, wd_2_184 hG.2.1, ws_6 hG.2.1⟩ hG hP hD hS rfl rfl rfl rfl rfl rfl rfl rfl hl.1 rfl (Nat.le_of_ble_eq_true rfl) dX0_line_8 ⟨Nat.zero_le _, Nat.zero_le _⟩ (fun H locs hP hD hS => ?_)
  obtain ⟨r11, hc11, hf⟩ := bd1_some hf
  refine cl_Ni (r := r11) (As := [.int ((54 : Int32) * t_sugar), .int r8]) (w1 := []) (wN := (woX0_line cI cZ a_t a_t_scraped a_t_scraped_grams t_water t_sugar t_fat t_warm t_layer t_air t_churned t_scraped_total)) [] 0 0 (c_X8_quotient l dC dI cI cZ ts _ ((54 : Int32) * t_sugar) r8 (r11) hc11) ⟨hx, hb, hml, hown, hG.2.1.hts _⟩ ⟨va_cnB 2 (hG.2.1.hts _) giX8_quotient rfl rfl rfl (va_Nw.of (A := #[]) rfl (wd_2_158 hG.2.1)) (wd_1_1 hG.2.1) hd_X8_quotient ⟨Nat.le_of_ble_eq_true rfl, Nat.le_of_ble_eq_true rfl⟩, wd_2_123 hG.2.1, trivial⟩ hG hP hD hS rfl rfl rfl rfl rfl hl.1 rfl (Nat.le_of_ble_eq_true rfl) dX0_line_11 ⟨Nat.zero_le _, Nat.zero_le _⟩ (fun H locs hP hD hS => ?_)
  have hR := Option.some.inj hf
  rw [← hR]
  exact rt_i hx hb hr hlk hsz hP hD hS rfl rfl dX0_line_14
abbrev woX0_stiff (cI cZ : ClassId) (a_t a_t_scraped a_t_scraped_grams : Nat) (t_water : Int32) (t_sugar : Int32) (t_fat : Int32) (t_warm : Int32) (t_layer : Int32) (t_air : Int32) (t_churned : Int32) (t_scraped_total : Int32) : va_W := [(a_t, .inr (0, [.int t_water, .int t_sugar, .int t_fat, .int t_warm, .int t_layer, .int t_air, .int t_churned, .ref a_t_scraped])), (a_t_scraped, .inr (2, [.ref a_t_scraped_grams, .int t_scraped_total]))]
abbrev rmX0_stiff : Room := { frames := 1, cells := 0, slots := 0, locals := 21 }
theorem hd_X0_stiff : yX0_stiff.cls ≠ "java/lang/invoke/MethodHandle" ∧ yX0_stiff.cls ≠ "java/lang/invoke/VarHandle" ∧ (parseMethodDescriptor yX0_stiff.desc).map (fun d => d.parameters.length) = some 0 := by decide +kernel
set_option maxHeartbeats 4000000 in
set_option maxRecDepth 100000 in
theorem c_X0_stiff (l : Launch) (dC : Nat → ClassId) (dI : Nat → Nat → Nat) (cI cZ : ClassId) (ts : Nat → Nat) (sz : Nat) (a_t a_t_scraped a_t_scraped_grams : Nat) (t_water : Int32) (t_sugar : Int32) (t_fat : Int32) (t_warm : Int32) (t_layer : Int32) (t_air : Int32) (t_churned : Int32) (t_scraped_total : Int32) (R : Int32) (hf : f_X0_stiff t_water t_air t_scraped_total = some R) : Met l yX0_stiff wyX0_stiff rmX0_stiff (PRE (dC, dI) cI cZ ts [.ref a_t] sz (woX0_stiff cI cZ a_t a_t_scraped a_t_scraped_grams t_water t_sugar t_fat t_warm t_layer t_air t_churned t_scraped_total)) (POSTi (dC, dI) R sz (woX0_stiff cI cZ a_t a_t_scraped a_t_scraped_grams t_water t_sugar t_fat t_warm t_layer t_air t_churned t_scraped_total) (woX0_stiff cI cZ a_t a_t_scraped a_t_scraped_grams t_water t_sugar t_fat t_warm t_layer t_air t_churned t_scraped_total)) 0 0 (va_A (woX0_stiff cI cZ a_t a_t_scraped a_t_scraped_grams t_water t_sugar t_fat t_warm t_layer t_air t_churned t_scraped_total) sz) := by
  refine Met.ofW (cc := cX0_stiff) (maxL := 1) (ret := (some .int)) (by decide) rfl ?_
  intro p e s m args below meth c s₁ B hml hv
  obtain ⟨rfl, hv⟩ := hv
  have hG := hg_of hv
  obtain ⟨hsz, hP, -, hD0, -⟩ := hv
  have hx := B.exec
  have hb := B.bytes
  have hr := B.returns
  have hlk := B.notSynchronized
  have hown : s.vm.findClass RX0 = some m.cls := findClass_of_methodNamed B.named
  have hD := hD0.self (sz := sz)
  have hS : va_S (va_A (woX0_stiff cI cZ a_t a_t_scraped a_t_scraped_grams t_water t_sugar t_fat t_warm t_layer t_air t_churned t_scraped_total) sz) s.heap s.heap [] := va_S.rf
  have hl := lv_entry ([.ref a_t]) (n := 1) (Nat.le_of_ble_eq_true rfl)
  rw [lg_entry_eq]
  generalize (lg_sl ([.ref a_t]) ++ List.replicate (1 - (lg_sl ([.ref a_t])).length) Slot.unset).toArray = ls at hl ⊢
  have hl : lv_has ls 1 [(0, .ref a_t)] := hl
  unfold f_X0_stiff at hf
  refine lv_bipush (v := 100) hx hb dX0_stiff_0 (by decide) ?_
  refine lv_aload_n hx hb dX0_stiff_2 rfl (lv_at hl 0 rfl) ?_
  refine mg (ci := 0) 0 7 hx hb hG igX0 hown hP rfl rfl (by decide) (wd_1_169 hG.2.1) rfl rfl dX0_stiff_3 ?_
  refine mgN (ci := 2) 1 1 hx hb hG igX2 hown hP rfl rfl (by decide) (wd_1_150 hG.2.1) rfl rfl dX0_stiff_6 ?_
  refine lv_imul hx hb dX0_stiff_9 ?_
  refine lv_aload_n hx hb dX0_stiff_10 rfl (lv_at hl 0 rfl) ?_
  refine mg (ci := 0) 0 0 hx hb hG igX0 hown hP rfl rfl (by decide) (wd_1_158 hG.2.1) rfl rfl dX0_stiff_11 ?_
  obtain ⟨r14, hc14, hf⟩ := bd1_some hf
  refine cl_Ni (r := r14) (As := [.int ((100 : Int32) * t_scraped_total), .int t_water]) (w1 := []) (wN := (woX0_stiff cI cZ a_t a_t_scraped a_t_scraped_grams t_water t_sugar t_fat t_warm t_layer t_air t_churned t_scraped_total)) [] 0 0 (c_X8_quotient l dC dI cI cZ ts _ ((100 : Int32) * t_scraped_total) t_water (r14) hc14) ⟨hx, hb, hml, hown, hG.2.1.hts _⟩ ⟨va_cnB 2 (hG.2.1.hts _) giX8_quotient rfl rfl rfl (va_Nw.of (A := #[]) rfl (wd_2_158 hG.2.1)) (wd_1_1 hG.2.1) hd_X8_quotient ⟨Nat.le_of_ble_eq_true rfl, Nat.le_of_ble_eq_true rfl⟩, wd_2_123 hG.2.1, trivial⟩ hG hP hD hS rfl rfl rfl rfl rfl hl.1 rfl (Nat.le_of_ble_eq_true rfl) dX0_stiff_14 ⟨Nat.zero_le _, Nat.zero_le _⟩ (fun H locs hP hD hS => ?_)
  refine lv_aload_n hx hb dX0_stiff_17 rfl (lv_at hl 0 rfl) ?_
  refine mg (ci := 0) 0 5 hx hb hG igX0 hown hP rfl rfl (by decide) (wd_1_165 hG.2.1) rfl rfl dX0_stiff_18 ?_
  refine lv_iconst (v := 5) hx hb dX0_stiff_21 (by decide) ?_
  refine lv_idiv hx hb dX0_stiff_22 (by decide) ?_
  refine lv_iadd hx hb dX0_stiff_23 ?_
  have hR := Option.some.inj hf
  rw [← hR]
  exact rt_i hx hb hr hlk hsz hP hD hS rfl rfl dX0_stiff_24
abbrev woX0_flow (cI cZ : ClassId) (a_t a_t_scraped : Nat) (t_water : Int32) (t_sugar : Int32) (t_fat : Int32) (t_warm : Int32) (t_layer : Int32) (t_air : Int32) (t_churned : Int32) : va_W := [(a_t, .inr (0, [.int t_water, .int t_sugar, .int t_fat, .int t_warm, .int t_layer, .int t_air, .int t_churned, .ref a_t_scraped]))]
abbrev rmX0_flow : Room := { frames := 1, cells := 0, slots := 0, locals := 23 }
theorem hd_X0_flow : yX0_flow.cls ≠ "java/lang/invoke/MethodHandle" ∧ yX0_flow.cls ≠ "java/lang/invoke/VarHandle" ∧ (parseMethodDescriptor yX0_flow.desc).map (fun d => d.parameters.length) = some 1 := by decide +kernel
set_option maxHeartbeats 4000000 in
set_option maxRecDepth 100000 in
theorem c_X0_flow (l : Launch) (dC : Nat → ClassId) (dI : Nat → Nat → Nat) (cI cZ : ClassId) (ts : Nat → Nat) (sz : Nat) (a_t a_t_scraped : Nat) (t_water : Int32) (t_sugar : Int32) (t_fat : Int32) (t_warm : Int32) (t_layer : Int32) (t_air : Int32) (t_churned : Int32) (x1 : Int32) (R : Int32) (hf : f_X0_flow t_warm t_layer x1 = some R) : Met l yX0_flow wyX0_flow rmX0_flow (PRE (dC, dI) cI cZ ts [.ref a_t, .int x1] sz (woX0_flow cI cZ a_t a_t_scraped t_water t_sugar t_fat t_warm t_layer t_air t_churned)) (POSTi (dC, dI) R sz (woX0_flow cI cZ a_t a_t_scraped t_water t_sugar t_fat t_warm t_layer t_air t_churned) (woX0_flow cI cZ a_t a_t_scraped t_water t_sugar t_fat t_warm t_layer t_air t_churned)) 0 0 (va_A (woX0_flow cI cZ a_t a_t_scraped t_water t_sugar t_fat t_warm t_layer t_air t_churned) sz) := by
  refine Met.ofW (cc := cX0_flow) (maxL := 2) (ret := (some .int)) (by decide) rfl ?_
  intro p e s m args below meth c s₁ B hml hv
  obtain ⟨rfl, hv⟩ := hv
  have hG := hg_of hv
  obtain ⟨hsz, hP, -, hD0, -⟩ := hv
  have hx := B.exec
  have hb := B.bytes
  have hr := B.returns
  have hlk := B.notSynchronized
  have hown : s.vm.findClass RX0 = some m.cls := findClass_of_methodNamed B.named
  have hD := hD0.self (sz := sz)
  have hS : va_S (va_A (woX0_flow cI cZ a_t a_t_scraped t_water t_sugar t_fat t_warm t_layer t_air t_churned) sz) s.heap s.heap [] := va_S.rf
  have hl := lv_entry ([.ref a_t, .int x1]) (n := 2) (Nat.le_of_ble_eq_true rfl)
  rw [lg_entry_eq]
  generalize (lg_sl ([.ref a_t, .int x1]) ++ List.replicate (2 - (lg_sl ([.ref a_t, .int x1])).length) Slot.unset).toArray = ls at hl ⊢
  have hl : lv_has ls 2 [(0, .ref a_t), (1, .int x1)] := hl
  unfold f_X0_flow at hf
  refine lv_iconst (v := 0) hx hb dX0_flow_0 (by decide) ?_
  refine lv_bipush (v := 120) hx hb dX0_flow_1 (by decide) ?_
  refine lv_aload_n hx hb dX0_flow_3 rfl (lv_at hl 0 rfl) ?_
  refine mg (ci := 0) 0 3 hx hb hG igX0 hown hP rfl rfl (by decide) (wd_1_161 hG.2.1) rfl rfl dX0_flow_4 ?_
  refine lv_iload_n hx hb dX0_flow_7 rfl (lv_at hl 1 rfl) ?_
  refine lv_iadd hx hb dX0_flow_8 ?_
  refine lv_imul hx hb dX0_flow_9 ?_
  refine lv_bipush (v := 10) hx hb dX0_flow_10 (by decide) ?_
  refine lv_aload_n hx hb dX0_flow_12 rfl (lv_at hl 0 rfl) ?_
  refine mg (ci := 0) 0 4 hx hb hG igX0 hown hP rfl rfl (by decide) (wd_1_163 hG.2.1) rfl rfl dX0_flow_13 ?_
  refine lv_iadd hx hb dX0_flow_16 ?_
  obtain ⟨r17, hc17, hf⟩ := bd1_some hf
  refine cl_Ni (r := r17) (As := [.int ((120 : Int32) * (t_warm + x1)), .int ((10 : Int32) + t_layer)]) (w1 := []) (wN := (woX0_flow cI cZ a_t a_t_scraped t_water t_sugar t_fat t_warm t_layer t_air t_churned)) [] 0 0 (c_X8_quotient l dC dI cI cZ ts _ ((120 : Int32) * (t_warm + x1)) ((10 : Int32) + t_layer) (r17) hc17) ⟨hx, hb, hml, hown, hG.2.1.hts _⟩ ⟨va_cnB 2 (hG.2.1.hts _) giX8_quotient rfl rfl rfl (va_Nw.of (A := #[]) rfl (wd_2_158 hG.2.1)) (wd_1_1 hG.2.1) hd_X8_quotient ⟨Nat.le_of_ble_eq_true rfl, Nat.le_of_ble_eq_true rfl⟩, wd_2_123 hG.2.1, trivial⟩ hG hP hD hS rfl rfl rfl rfl rfl hl.1 rfl (Nat.le_of_ble_eq_true rfl) dX0_flow_17 ⟨Nat.zero_le _, Nat.zero_le _⟩ (fun H locs hP hD hS => ?_)
  refine va_mmax hx hb (hml.trans hl.1.symm) hown (wd_2_169 hG.2.1) (wd_2_129 hG.2.1) (wd_1_11 hG.2.1) (wd_2_130 hG.2.1) (Nat.le_of_ble_eq_true rfl) (Nat.le_of_ble_eq_true rfl) (Nat.zero_le _) (Nat.zero_le _) dX0_flow_20 ?_
  have hR := Option.some.inj hf
  rw [← hR]
  exact rt_i hx hb hr hlk hsz hP hD hS rfl rfl dX0_flow_23
abbrev woX0_giveWarmth (cI cZ : ClassId) (a_t a_t_scraped a_t_scraped_grams : Nat) (t_water : Int32) (t_sugar : Int32) (t_fat : Int32) (t_warm : Int32) (t_layer : Int32) (t_air : Int32) (t_churned : Int32) (t_scraped_total : Int32) : va_W := [(a_t, .inr (0, [.int t_water, .int t_sugar, .int t_fat, .int t_warm, .int t_layer, .int t_air, .int t_churned, .ref a_t_scraped])), (a_t_scraped, .inr (2, [.ref a_t_scraped_grams, .int t_scraped_total]))]
abbrev rmX0_giveWarmth : Room := { frames := 2, cells := 0, slots := 0, locals := 41 }
theorem hd_X0_giveWarmth : yX0_giveWarmth.cls ≠ "java/lang/invoke/MethodHandle" ∧ yX0_giveWarmth.cls ≠ "java/lang/invoke/VarHandle" ∧ (parseMethodDescriptor yX0_giveWarmth.desc).map (fun d => d.parameters.length) = some 1 := by decide +kernel
set_option maxHeartbeats 4000000 in
set_option maxRecDepth 100000 in
theorem c_X0_giveWarmth (l : Launch) (dC : Nat → ClassId) (dI : Nat → Nat → Nat) (cI cZ : ClassId) (ts : Nat → Nat) (sz : Nat) (a_t a_t_scraped a_t_scraped_grams : Nat) (t_water : Int32) (t_sugar : Int32) (t_fat : Int32) (t_warm : Int32) (t_layer : Int32) (t_air : Int32) (t_churned : Int32) (t_scraped_total : Int32) (x1 : Int32) (R : Int32 × Int32) (hf : f_X0_giveWarmth t_water t_sugar t_fat t_warm t_layer t_scraped_total x1 = some R) : Met l yX0_giveWarmth wyX0_giveWarmth rmX0_giveWarmth (PRE (dC, dI) cI cZ ts [.ref a_t, .int x1] sz (woX0_giveWarmth cI cZ a_t a_t_scraped a_t_scraped_grams t_water t_sugar t_fat t_warm t_layer t_air t_churned t_scraped_total)) (POSTv (dC, dI) sz (woX0_giveWarmth cI cZ a_t a_t_scraped a_t_scraped_grams t_water t_sugar t_fat t_warm t_layer t_air t_churned t_scraped_total) (woX0_giveWarmth cI cZ a_t a_t_scraped a_t_scraped_grams t_water t_sugar t_fat R.1 R.2 t_air t_churned t_scraped_total)) 0 0 (va_A (woX0_giveWarmth cI cZ a_t a_t_scraped a_t_scraped_grams t_water t_sugar t_fat t_warm t_layer t_air t_churned t_scraped_total) sz) := by
  refine Met.ofW (cc := cX0_giveWarmth) (maxL := 2) (ret := none) (by decide) rfl ?_
  intro p e s m args below meth c s₁ B hml hv
  obtain ⟨rfl, hv⟩ := hv
  have hG := hg_of hv
  obtain ⟨hsz, hP, -, hD0, -⟩ := hv
  have hx := B.exec
  have hb := B.bytes
  have hr := B.returns
  have hlk := B.notSynchronized
  have hown : s.vm.findClass RX0 = some m.cls := findClass_of_methodNamed B.named
  have hD := hD0.self (sz := sz)
  have hS : va_S (va_A (woX0_giveWarmth cI cZ a_t a_t_scraped a_t_scraped_grams t_water t_sugar t_fat t_warm t_layer t_air t_churned t_scraped_total) sz) s.heap s.heap [] := va_S.rf
  have hl := lv_entry ([.ref a_t, .int x1]) (n := 2) (Nat.le_of_ble_eq_true rfl)
  rw [lg_entry_eq]
  generalize (lg_sl ([.ref a_t, .int x1]) ++ List.replicate (2 - (lg_sl ([.ref a_t, .int x1])).length) Slot.unset).toArray = ls at hl ⊢
  have hl : lv_has ls 2 [(0, .ref a_t), (1, .int x1)] := hl
  unfold f_X0_giveWarmth at hf
  refine lv_aload_n hx hb dX0_giveWarmth_0 rfl (lv_at hl 0 rfl) ?_
  refine mg (ci := 0) 0 3 hx hb hG igX0 hown hP rfl rfl (by decide) (wd_1_161 hG.2.1) rfl rfl dX0_giveWarmth_1 ?_
  refine lv_aload_n hx hb dX0_giveWarmth_4 rfl (lv_at hl 0 rfl) ?_
  obtain ⟨r5, hc5, hf⟩ := bd1_some hf
  refine cl_Vi (r := r5) (b := a_t) (As := []) (w1 := (woX0_line cI cZ a_t a_t_scraped a_t_scraped_grams t_water t_sugar t_fat t_warm t_layer t_air t_churned t_scraped_total)) (wN := (woX0_giveWarmth cI cZ a_t a_t_scraped a_t_scraped_grams t_water t_sugar t_fat t_warm t_layer t_air t_churned t_scraped_total)) [0, 1] 0 0 (c_X0_line l dC dI cI cZ ts _ a_t a_t_scraped a_t_scraped_grams t_water t_sugar t_fat t_warm t_layer t_air t_churned t_scraped_total (r5) hc5) ⟨hx, hb, hml, hown, hG.2.1.hts _⟩ ⟨callB_of 0 (hG.2.1.hts _) giX0_line rfl rfl rfl (wd_1_7 hG.2.1) (wd_2_178 hG.2.1) hd_X0_line ⟨Nat.le_of_ble_eq_true rfl, Nat.le_of_ble_eq_true rfl⟩, wd_2_179 hG.2.1, wd_2_180 hG.2.1⟩ hG hP hD hS rfl rfl rfl rfl rfl rfl rfl rfl hl.1 rfl (Nat.le_of_ble_eq_true rfl) dX0_giveWarmth_5 ⟨Nat.zero_le _, Nat.zero_le _⟩ (fun H locs hP hD hS => ?_)
  refine lv_ineg hx hb dX0_giveWarmth_8 ?_
  refine lv_icmp_le (tgt := 53) hx hb dX0_giveWarmth_9 (by decide) (fun c1 => ?_) (fun c1 => ?_)
  · have hf := (if_pos c1).symm.trans hf
    refine lv_aload_n hx hb dX0_giveWarmth_53 rfl (lv_at hl 0 rfl) ?_
    refine lv_dup hx hb dX0_giveWarmth_54 rfl ?_
    refine mg (ci := 0) 0 4 hx hb hG igX0 hown hP rfl rfl (by decide) (wd_1_163 hG.2.1) rfl rfl dX0_giveWarmth_55 ?_
    refine lv_iload_n hx hb dX0_giveWarmth_58 rfl (lv_at hl 1 rfl) ?_
    refine lv_bipush (v := 80) hx hb dX0_giveWarmth_59 (by decide) ?_
    refine lv_idiv hx hb dX0_giveWarmth_61 (by decide) ?_
    refine lv_aload_n hx hb dX0_giveWarmth_62 rfl (lv_at hl 0 rfl) ?_
    obtain ⟨r63, hc63, hf⟩ := bd1_some hf
    refine cl_Vi (r := r63) (b := a_t) (As := []) (w1 := (woX0_liquid cI cZ a_t a_t_scraped a_t_scraped_grams t_water t_sugar t_fat t_warm t_layer t_air t_churned t_scraped_total)) (wN := (woX0_giveWarmth cI cZ a_t a_t_scraped a_t_scraped_grams t_water t_sugar t_fat t_warm t_layer t_air t_churned t_scraped_total)) [0, 1] 0 0 (c_X0_liquid l dC dI cI cZ ts _ a_t a_t_scraped a_t_scraped_grams t_water t_sugar t_fat t_warm t_layer t_air t_churned t_scraped_total (r63) hc63) ⟨hx, hb, hml, hown, hG.2.1.hts _⟩ ⟨callB_of 0 (hG.2.1.hts _) giX0_liquid rfl rfl rfl (wd_1_7 hG.2.1) (wd_2_182 hG.2.1) hd_X0_liquid ⟨Nat.le_of_ble_eq_true rfl, Nat.le_of_ble_eq_true rfl⟩, wd_2_184 hG.2.1, ws_6 hG.2.1⟩ hG hP hD hS rfl rfl rfl rfl rfl rfl rfl rfl hl.1 rfl (Nat.le_of_ble_eq_true rfl) dX0_giveWarmth_63 ⟨Nat.zero_le _, Nat.zero_le _⟩ (fun H locs hP hD hS => ?_)
    refine lv_iconst (v := 1) hx hb dX0_giveWarmth_66 (by decide) ?_
    refine lv_isub hx hb dX0_giveWarmth_67 ?_
    refine va_mmin hx hb (hml.trans hl.1.symm) hown (wd_2_186 hG.2.1) (wd_2_126 hG.2.1) (wd_1_11 hG.2.1) (wd_2_127 hG.2.1) (Nat.le_of_ble_eq_true rfl) (Nat.le_of_ble_eq_true rfl) (Nat.zero_le _) (Nat.zero_le _) dX0_giveWarmth_68 ?_
    refine lv_iadd hx hb dX0_giveWarmth_71 ?_
    refine mp (ci := 0) (wN := (woX0_giveWarmth cI cZ a_t a_t_scraped a_t_scraped_grams t_water t_sugar t_fat t_warm (t_layer + (if (r63 - (1 : Int32)) < (x1 / (80 : Int32)) then (r63 - (1 : Int32)) else (x1 / (80 : Int32)))) t_air t_churned t_scraped_total)) 0 4 hx hb hG igX0 tyX0 tyX0_ok nmX0 hown hP hD hS rfl rfl (by decide) (wd_1_163 hG.2.1) rfl rfl rfl rfl rfl (Nat.le_of_ble_eq_true rfl) rfl dX0_giveWarmth_72 (fun H locs hP hD hS => ?_)
    refine lv_aload_n hx hb dX0_giveWarmth_75 rfl (lv_at hl 0 rfl) ?_
    refine lv_aload_n hx hb dX0_giveWarmth_76 rfl (lv_at hl 0 rfl) ?_
    obtain ⟨r77, hc77, hf⟩ := bd1_some hf
    refine cl_Vi (r := r77) (b := a_t) (As := []) (w1 := (woX0_line cI cZ a_t a_t_scraped a_t_scraped_grams t_water t_sugar t_fat t_warm (t_layer + (if (r63 - (1 : Int32)) < (x1 / (80 : Int32)) then (r63 - (1 : Int32)) else (x1 / (80 : Int32)))) t_air t_churned t_scraped_total)) (wN := (woX0_giveWarmth cI cZ a_t a_t_scraped a_t_scraped_grams t_water t_sugar t_fat t_warm (t_layer + (if (r63 - (1 : Int32)) < (x1 / (80 : Int32)) then (r63 - (1 : Int32)) else (x1 / (80 : Int32)))) t_air t_churned t_scraped_total)) [0, 1] 0 0 (c_X0_line l dC dI cI cZ ts _ a_t a_t_scraped a_t_scraped_grams t_water t_sugar t_fat t_warm (t_layer + (if (r63 - (1 : Int32)) < (x1 / (80 : Int32)) then (r63 - (1 : Int32)) else (x1 / (80 : Int32)))) t_air t_churned t_scraped_total (r77) hc77) ⟨hx, hb, hml, hown, hG.2.1.hts _⟩ ⟨callB_of 0 (hG.2.1.hts _) giX0_line rfl rfl rfl (wd_1_7 hG.2.1) (wd_2_178 hG.2.1) hd_X0_line ⟨Nat.le_of_ble_eq_true rfl, Nat.le_of_ble_eq_true rfl⟩, wd_2_179 hG.2.1, wd_2_180 hG.2.1⟩ hG hP hD hS rfl rfl rfl rfl rfl rfl rfl rfl hl.1 rfl (Nat.le_of_ble_eq_true rfl) dX0_giveWarmth_77 ⟨Nat.zero_le _, Nat.zero_le _⟩ (fun H locs hP hD hS => ?_)
    refine lv_ineg hx hb dX0_giveWarmth_80 ?_
    refine mp (ci := 0) (wN := (woX0_giveWarmth cI cZ a_t a_t_scraped a_t_scraped_grams t_water t_sugar t_fat (-r77) (t_layer + (if (r63 - (1 : Int32)) < (x1 / (80 : Int32)) then (r63 - (1 : Int32)) else (x1 / (80 : Int32)))) t_air t_churned t_scraped_total)) 0 3 hx hb hG igX0 tyX0 tyX0_ok nmX0 hown hP hD hS rfl rfl (by decide) (wd_1_161 hG.2.1) rfl rfl rfl rfl rfl (Nat.le_of_ble_eq_true rfl) rfl dX0_giveWarmth_81 (fun H locs hP hD hS => ?_)
    have hR := Option.some.inj hf
    rw [← hR]
    exact rt_v hx hb hr hlk hsz hP hD hS rfl dX0_giveWarmth_84
  · have hf := (if_neg c1).symm.trans hf
    refine lv_aload_n hx hb dX0_giveWarmth_12 rfl (lv_at hl 0 rfl) ?_
    refine lv_aload_n hx hb dX0_giveWarmth_13 rfl (lv_at hl 0 rfl) ?_
    obtain ⟨r14, hc14, hf⟩ := bd1_some hf
    refine cl_Vi (r := r14) (b := a_t) (As := []) (w1 := (woX0_line cI cZ a_t a_t_scraped a_t_scraped_grams t_water t_sugar t_fat t_warm t_layer t_air t_churned t_scraped_total)) (wN := (woX0_giveWarmth cI cZ a_t a_t_scraped a_t_scraped_grams t_water t_sugar t_fat t_warm t_layer t_air t_churned t_scraped_total)) [0, 1] 0 0 (c_X0_line l dC dI cI cZ ts _ a_t a_t_scraped a_t_scraped_grams t_water t_sugar t_fat t_warm t_layer t_air t_churned t_scraped_total (r14) hc14) ⟨hx, hb, hml, hown, hG.2.1.hts _⟩ ⟨callB_of 0 (hG.2.1.hts _) giX0_line rfl rfl rfl (wd_1_7 hG.2.1) (wd_2_178 hG.2.1) hd_X0_line ⟨Nat.le_of_ble_eq_true rfl, Nat.le_of_ble_eq_true rfl⟩, wd_2_179 hG.2.1, wd_2_180 hG.2.1⟩ hG hP hD hS rfl rfl rfl rfl rfl rfl rfl rfl hl.1 rfl (Nat.le_of_ble_eq_true rfl) dX0_giveWarmth_14 ⟨Nat.zero_le _, Nat.zero_le _⟩ (fun H locs hP hD hS => ?_)
    refine lv_ineg hx hb dX0_giveWarmth_17 ?_
    refine lv_aload_n hx hb dX0_giveWarmth_18 rfl (lv_at hl 0 rfl) ?_
    refine mg (ci := 0) 0 3 hx hb hG igX0 hown hP rfl rfl (by decide) (wd_1_161 hG.2.1) rfl rfl dX0_giveWarmth_19 ?_
    refine lv_bipush (v := 10) hx hb dX0_giveWarmth_22 (by decide) ?_
    refine lv_iload_n hx hb dX0_giveWarmth_24 rfl (lv_at hl 1 rfl) ?_
    refine lv_imul hx hb dX0_giveWarmth_25 ?_
    refine lv_aload_n hx hb dX0_giveWarmth_26 rfl (lv_at hl 0 rfl) ?_
    refine mg (ci := 0) 0 0 hx hb hG igX0 hown hP rfl rfl (by decide) (wd_1_158 hG.2.1) rfl rfl dX0_giveWarmth_27 ?_
    refine lv_aload_n hx hb dX0_giveWarmth_30 rfl (lv_at hl 0 rfl) ?_
    refine mg (ci := 0) 0 1 hx hb hG igX0 hown hP rfl rfl (by decide) (wd_1_159 hG.2.1) rfl rfl dX0_giveWarmth_31 ?_
    refine lv_iadd hx hb dX0_giveWarmth_34 ?_
    refine lv_aload_n hx hb dX0_giveWarmth_35 rfl (lv_at hl 0 rfl) ?_
    refine mg (ci := 0) 0 2 hx hb hG igX0 hown hP rfl rfl (by decide) (wd_1_160 hG.2.1) rfl rfl dX0_giveWarmth_36 ?_
    refine lv_iadd hx hb dX0_giveWarmth_39 ?_
    obtain ⟨r40, hc40, hf⟩ := bd1_some hf
    refine cl_Ni (r := r40) (As := [.int ((10 : Int32) * x1), .int ((t_water + t_sugar) + t_fat)]) (w1 := []) (wN := (woX0_giveWarmth cI cZ a_t a_t_scraped a_t_scraped_grams t_water t_sugar t_fat t_warm t_layer t_air t_churned t_scraped_total)) [] 0 0 (c_X8_quotient l dC dI cI cZ ts _ ((10 : Int32) * x1) ((t_water + t_sugar) + t_fat) (r40) hc40) ⟨hx, hb, hml, hown, hG.2.1.hts _⟩ ⟨va_cnB 2 (hG.2.1.hts _) giX8_quotient rfl rfl rfl (va_Nw.of (A := #[]) rfl (wd_2_158 hG.2.1)) (wd_1_1 hG.2.1) hd_X8_quotient ⟨Nat.le_of_ble_eq_true rfl, Nat.le_of_ble_eq_true rfl⟩, wd_2_123 hG.2.1, trivial⟩ hG hP hD hS rfl rfl rfl rfl rfl hl.1 rfl (Nat.le_of_ble_eq_true rfl) dX0_giveWarmth_40 ⟨Nat.zero_le _, Nat.zero_le _⟩ (fun H locs hP hD hS => ?_)
    refine lv_isub hx hb dX0_giveWarmth_43 ?_
    refine va_mmax hx hb (hml.trans hl.1.symm) hown (wd_2_169 hG.2.1) (wd_2_129 hG.2.1) (wd_1_11 hG.2.1) (wd_2_130 hG.2.1) (Nat.le_of_ble_eq_true rfl) (Nat.le_of_ble_eq_true rfl) (Nat.zero_le _) (Nat.zero_le _) dX0_giveWarmth_44 ?_
    refine mp (ci := 0) (wN := (woX0_giveWarmth cI cZ a_t a_t_scraped a_t_scraped_grams t_water t_sugar t_fat (if (-r14) < (t_warm - r40) then (t_warm - r40) else (-r14)) t_layer t_air t_churned t_scraped_total)) 0 3 hx hb hG igX0 tyX0 tyX0_ok nmX0 hown hP hD hS rfl rfl (by decide) (wd_1_161 hG.2.1) rfl rfl rfl rfl rfl (Nat.le_of_ble_eq_true rfl) rfl dX0_giveWarmth_47 (fun H locs hP hD hS => ?_)
    refine lv_goto (tgt := 84) hx hb dX0_giveWarmth_50 (by decide) ?_
    have hR := Option.some.inj hf
    rw [← hR]
    exact rt_v hx hb hr hlk hsz hP hD hS rfl dX0_giveWarmth_84
abbrev woX8_put (cI cZ : ClassId) (a_b0 : Nat) (n0 : Nat) (b0 : Nat → Int32) : va_W := [(a_b0, .inl (cI, n0, .inl b0))]
abbrev rmX8_put : Room := { frames := 0, cells := 0, slots := 0, locals := 0 }
theorem hd_X8_put : yX8_put.cls ≠ "java/lang/invoke/MethodHandle" ∧ yX8_put.cls ≠ "java/lang/invoke/VarHandle" ∧ (parseMethodDescriptor yX8_put.desc).map (fun d => d.parameters.length) = some 3 := by decide +kernel
set_option maxHeartbeats 4000000 in
set_option maxRecDepth 100000 in
theorem c_X8_put (l : Launch) (dC : Nat → ClassId) (dI : Nat → Nat → Nat) (cI cZ : ClassId) (ts : Nat → Nat) (sz : Nat) (a_b0 : Nat) (n0 : Nat) (b0 : Nat → Int32) (x1 : Int32) (x2 : Int32) (R : (Nat → Int32)) (hf : f_X8_put n0 b0 x1 x2 = some R) : Met l yX8_put wyX8_put rmX8_put (PRE (dC, dI) cI cZ ts [.ref a_b0, .int x1, .int x2] sz (woX8_put cI cZ a_b0 n0 b0)) (POSTv (dC, dI) sz (woX8_put cI cZ a_b0 n0 b0) (woX8_put cI cZ a_b0 n0 R)) 0 0 (va_A (woX8_put cI cZ a_b0 n0 b0) sz) := by
  refine Met.ofW (cc := cX8_put) (maxL := 3) (ret := none) (by decide) rfl ?_
  intro p e s m args below meth c s₁ B hml hv
  obtain ⟨rfl, hv⟩ := hv
  have hG := hg_of hv
  obtain ⟨hsz, hP, -, hD0, -⟩ := hv
  have hx := B.exec
  have hb := B.bytes
  have hr := B.returns
  have hlk := B.notSynchronized
  have hown : s.vm.findClass RX8 = some m.cls := findClass_of_methodNamed B.named
  have hD := hD0.self (sz := sz)
  have hS : va_S (va_A (woX8_put cI cZ a_b0 n0 b0) sz) s.heap s.heap [] := va_S.rf
  have hl := lv_entry ([.ref a_b0, .int x1, .int x2]) (n := 3) (Nat.le_of_ble_eq_true rfl)
  rw [lg_entry_eq]
  generalize (lg_sl ([.ref a_b0, .int x1, .int x2]) ++ List.replicate (3 - (lg_sl ([.ref a_b0, .int x1, .int x2])).length) Slot.unset).toArray = ls at hl ⊢
  have hl : lv_has ls 3 [(0, .ref a_b0), (1, .int x1), (2, .int x2)] := hl
  unfold f_X8_put at hf
  refine lv_iload_n hx hb dX8_put_0 rfl (lv_at hl 1 rfl) ?_
  refine lv_if_lt (tgt := 14) hx hb dX8_put_1 (by decide) (fun c1 => ?_) (fun c1 => ?_)
  · have hf := (if_pos c1).symm.trans hf
    have hR := Option.some.inj hf
    rw [← hR]
    exact rt_v hx hb hr hlk hsz hP hD hS rfl dX8_put_14
  · have hf := (if_neg c1).symm.trans hf
    refine lv_iload_n hx hb dX8_put_4 rfl (lv_at hl 1 rfl) ?_
    refine lv_aload_n hx hb dX8_put_5 rfl (lv_at hl 0 rfl) ?_
    refine maln 0 0 hx hb hG hP rfl rfl (v := (Int32.ofNat n0)) rfl dX8_put_6 ?_
    refine lv_icmp_ge (tgt := 14) hx hb dX8_put_7 (by decide) (fun c2 => ?_) (fun c2 => ?_)
    · have hf := (if_pos c2).symm.trans hf
      have hR := Option.some.inj hf
      rw [← hR]
      exact rt_v hx hb hr hlk hsz hP hD hS rfl dX8_put_14
    · have hf := (if_neg c2).symm.trans hf
      refine lv_aload_n hx hb dX8_put_10 rfl (lv_at hl 0 rfl) ?_
      refine lv_iload_n hx hb dX8_put_11 rfl (lv_at hl 1 rfl) ?_
      refine lv_iload_n hx hb dX8_put_12 rfl (lv_at hl 2 rfl) ?_
      obtain ⟨g3, hf⟩ := gd_some hf
      refine mas (wN := (woX8_put cI cZ a_b0 n0 (upd b0 (x1).toNatClampNeg x2))) 0 hx hb hG hP hD hS rfl g3 rfl dX8_put_13 (fun H locs hP hD hS => ?_)
      have hR := Option.some.inj hf
      rw [← hR]
      exact rt_v hx hb hr hlk hsz hP hD hS rfl dX8_put_14
abbrev woX2_add (cI cZ : ClassId) (a_t a_t_grams : Nat) (t_total : Int32) (t_grams : Nat → Int32) : va_W := [(a_t, .inr (2, [.ref a_t_grams, .int t_total])), (a_t_grams, .inl (cI, 64, .inl t_grams))]
abbrev rmX2_add : Room := { frames := 1, cells := 0, slots := 0, locals := 22 }
theorem hd_X2_add : yX2_add.cls ≠ "java/lang/invoke/MethodHandle" ∧ yX2_add.cls ≠ "java/lang/invoke/VarHandle" ∧ (parseMethodDescriptor yX2_add.desc).map (fun d => d.parameters.length) = some 2 := by decide +kernel
set_option maxHeartbeats 4000000 in
set_option maxRecDepth 100000 in
theorem c_X2_add (l : Launch) (dC : Nat → ClassId) (dI : Nat → Nat → Nat) (cI cZ : ClassId) (ts : Nat → Nat) (sz : Nat) (a_t a_t_grams : Nat) (t_total : Int32) (t_grams : Nat → Int32) (x1 : Int32) (x2 : Int32) (R : Int32 × (Nat → Int32)) (hf : f_X2_add t_total t_grams x1 x2 = some R) : Met l yX2_add wyX2_add rmX2_add (PRE (dC, dI) cI cZ ts [.ref a_t, .int x1, .int x2] sz (woX2_add cI cZ a_t a_t_grams t_total t_grams)) (POSTv (dC, dI) sz (woX2_add cI cZ a_t a_t_grams t_total t_grams) (woX2_add cI cZ a_t a_t_grams R.1 R.2)) 0 0 (va_A (woX2_add cI cZ a_t a_t_grams t_total t_grams) sz) := by
  refine Met.ofW (cc := cX2_add) (maxL := 3) (ret := none) (by decide) rfl ?_
  intro p e s m args below meth c s₁ B hml hv
  obtain ⟨rfl, hv⟩ := hv
  have hG := hg_of hv
  obtain ⟨hsz, hP, -, hD0, -⟩ := hv
  have hx := B.exec
  have hb := B.bytes
  have hr := B.returns
  have hlk := B.notSynchronized
  have hown : s.vm.findClass RX2 = some m.cls := findClass_of_methodNamed B.named
  have hD := hD0.self (sz := sz)
  have hS : va_S (va_A (woX2_add cI cZ a_t a_t_grams t_total t_grams) sz) s.heap s.heap [] := va_S.rf
  have hl := lv_entry ([.ref a_t, .int x1, .int x2]) (n := 3) (Nat.le_of_ble_eq_true rfl)
  rw [lg_entry_eq]
  generalize (lg_sl ([.ref a_t, .int x1, .int x2]) ++ List.replicate (3 - (lg_sl ([.ref a_t, .int x1, .int x2])).length) Slot.unset).toArray = ls at hl ⊢
  have hl : lv_has ls 3 [(0, .ref a_t), (1, .int x1), (2, .int x2)] := hl
  unfold f_X2_add at hf
  refine lv_aload_n hx hb dX2_add_0 rfl (lv_at hl 0 rfl) ?_
  refine mg (ci := 2) 0 0 hx hb hG igX2 hown hP rfl rfl (by decide) (wd_1_148 hG.2.1) rfl rfl dX2_add_1 ?_
  refine lv_iload_n hx hb dX2_add_4 rfl (lv_at hl 1 rfl) ?_
  refine lv_aload_n hx hb dX2_add_5 rfl (lv_at hl 0 rfl) ?_
  refine mg (ci := 2) 0 0 hx hb hG igX2 hown hP rfl rfl (by decide) (wd_1_148 hG.2.1) rfl rfl dX2_add_6 ?_
  refine lv_iload_n hx hb dX2_add_9 rfl (lv_at hl 1 rfl) ?_
  obtain ⟨r10, hc10, hf⟩ := bd1_some hf
  refine cl_Ni (r := r10) (As := [.ref a_t_grams, .int x1]) (w1 := (woX8_at cI cZ a_t_grams 64 t_grams)) (wN := (woX2_add cI cZ a_t a_t_grams t_total t_grams)) [1] 0 0 (c_X8_at l dC dI cI cZ ts _ a_t_grams 64 t_grams x1 (r10) hc10) ⟨hx, hb, hml, hown, hG.2.1.hts _⟩ ⟨va_cnB 2 (hG.2.1.hts _) giX8_at rfl rfl rfl (va_Nw.of (A := #[]) rfl (wd_2_195 hG.2.1)) (wd_1_1 hG.2.1) hd_X8_at ⟨Nat.le_of_ble_eq_true rfl, Nat.le_of_ble_eq_true rfl⟩, wd_2_10 hG.2.1, trivial⟩ hG hP hD hS rfl rfl rfl rfl rfl hl.1 rfl (Nat.le_of_ble_eq_true rfl) dX2_add_10 ⟨Nat.zero_le _, Nat.zero_le _⟩ (fun H locs hP hD hS => ?_)
  refine lv_iload_n hx hb dX2_add_13 rfl (lv_at hl 2 rfl) ?_
  refine lv_iadd hx hb dX2_add_14 ?_
  obtain ⟨g15_0, hc15, hf⟩ := bd1_some hf
  refine cl_Nv (As := [.ref a_t_grams, .int x1, .int (r10 + x2)]) (w1 := (woX8_put cI cZ a_t_grams 64 g15_0)) (wN := (woX2_add cI cZ a_t a_t_grams t_total g15_0)) [1] 0 0 (c_X8_put l dC dI cI cZ ts _ a_t_grams 64 t_grams x1 (r10 + x2) (g15_0) hc15) ⟨hx, hb, hml, hown, hG.2.1.hts _⟩ ⟨va_cnB 3 (hG.2.1.hts _) giX8_put rfl rfl rfl (va_Nw.of (A := #[]) rfl (wd_2_196 hG.2.1)) (wd_1_1 hG.2.1) hd_X8_put ⟨Nat.le_of_ble_eq_true rfl, Nat.le_of_ble_eq_true rfl⟩, wd_2_20 hG.2.1, trivial⟩ hG hP hD hS rfl rfl rfl rfl rfl hl.1 rfl (Nat.le_of_ble_eq_true rfl) dX2_add_15 ⟨Nat.zero_le _, Nat.zero_le _⟩ (fun H locs hP hD hS => ?_)
  refine lv_aload_n hx hb dX2_add_18 rfl (lv_at hl 0 rfl) ?_
  refine lv_dup hx hb dX2_add_19 rfl ?_
  refine mg (ci := 2) 0 1 hx hb hG igX2 hown hP rfl rfl (by decide) (wd_1_149 hG.2.1) rfl rfl dX2_add_20 ?_
  refine lv_iload_n hx hb dX2_add_23 rfl (lv_at hl 2 rfl) ?_
  refine lv_iadd hx hb dX2_add_24 ?_
  refine mp (ci := 2) (wN := (woX2_add cI cZ a_t a_t_grams (t_total + x2) g15_0)) 0 1 hx hb hG igX2 tyX2 tyX2_ok nmX2 hown hP hD hS rfl rfl (by decide) (wd_1_149 hG.2.1) rfl rfl rfl rfl rfl (Nat.le_of_ble_eq_true rfl) rfl dX2_add_25 (fun H locs hP hD hS => ?_)
  have hR := Option.some.inj hf
  rw [← hR]
  exact rt_v hx hb hr hlk hsz hP hD hS rfl dX2_add_28
abbrev woX0_scrape (cI cZ : ClassId) (a_t a_t_scraped a_t_scraped_grams : Nat) (t_water : Int32) (t_sugar : Int32) (t_fat : Int32) (t_warm : Int32) (t_layer : Int32) (t_air : Int32) (t_churned : Int32) (t_scraped_total : Int32) (t_scraped_grams : Nat → Int32) : va_W := [(a_t, .inr (0, [.int t_water, .int t_sugar, .int t_fat, .int t_warm, .int t_layer, .int t_air, .int t_churned, .ref a_t_scraped])), (a_t_scraped, .inr (2, [.ref a_t_scraped_grams, .int t_scraped_total])), (a_t_scraped_grams, .inl (cI, 64, .inl t_scraped_grams))]
abbrev rmX0_scrape : Room := { frames := 2, cells := 0, slots := 0, locals := 44 }
theorem hd_X0_scrape : yX0_scrape.cls ≠ "java/lang/invoke/MethodHandle" ∧ yX0_scrape.cls ≠ "java/lang/invoke/VarHandle" ∧ (parseMethodDescriptor yX0_scrape.desc).map (fun d => d.parameters.length) = some 1 := by decide +kernel
set_option maxHeartbeats 4000000 in
set_option maxRecDepth 100000 in
theorem c_X0_scrape (l : Launch) (dC : Nat → ClassId) (dI : Nat → Nat → Nat) (cI cZ : ClassId) (ts : Nat → Nat) (sz : Nat) (a_t a_t_scraped a_t_scraped_grams : Nat) (t_water : Int32) (t_sugar : Int32) (t_fat : Int32) (t_warm : Int32) (t_layer : Int32) (t_air : Int32) (t_churned : Int32) (t_scraped_total : Int32) (t_scraped_grams : Nat → Int32) (x1 : Int32) (R : Int32 × Int32 × (Nat → Int32)) (hf : f_X0_scrape t_layer t_scraped_total t_scraped_grams x1 = some R) : Met l yX0_scrape wyX0_scrape rmX0_scrape (PRE (dC, dI) cI cZ ts [.ref a_t, .int x1] sz (woX0_scrape cI cZ a_t a_t_scraped a_t_scraped_grams t_water t_sugar t_fat t_warm t_layer t_air t_churned t_scraped_total t_scraped_grams)) (POSTv (dC, dI) sz (woX0_scrape cI cZ a_t a_t_scraped a_t_scraped_grams t_water t_sugar t_fat t_warm t_layer t_air t_churned t_scraped_total t_scraped_grams) (woX0_scrape cI cZ a_t a_t_scraped a_t_scraped_grams t_water t_sugar t_fat t_warm R.1 t_air t_churned R.2.1 R.2.2)) 0 0 (va_A (woX0_scrape cI cZ a_t a_t_scraped a_t_scraped_grams t_water t_sugar t_fat t_warm t_layer t_air t_churned t_scraped_total t_scraped_grams) sz) := by
  refine Met.ofW (cc := cX0_scrape) (maxL := 3) (ret := none) (by decide) rfl ?_
  intro p e s m args below meth c s₁ B hml hv
  obtain ⟨rfl, hv⟩ := hv
  have hG := hg_of hv
  obtain ⟨hsz, hP, -, hD0, -⟩ := hv
  have hx := B.exec
  have hb := B.bytes
  have hr := B.returns
  have hlk := B.notSynchronized
  have hown : s.vm.findClass RX0 = some m.cls := findClass_of_methodNamed B.named
  have hD := hD0.self (sz := sz)
  have hS : va_S (va_A (woX0_scrape cI cZ a_t a_t_scraped a_t_scraped_grams t_water t_sugar t_fat t_warm t_layer t_air t_churned t_scraped_total t_scraped_grams) sz) s.heap s.heap [] := va_S.rf
  have hl := lv_entry ([.ref a_t, .int x1]) (n := 3) (Nat.le_of_ble_eq_true rfl)
  rw [lg_entry_eq]
  generalize (lg_sl ([.ref a_t, .int x1]) ++ List.replicate (3 - (lg_sl ([.ref a_t, .int x1])).length) Slot.unset).toArray = ls at hl ⊢
  have hl : lv_has ls 3 [(0, .ref a_t), (1, .int x1)] := hl
  unfold f_X0_scrape at hf
  refine lv_iconst (v := 4) hx hb dX0_scrape_0 (by decide) ?_
  refine lv_iload_n hx hb dX0_scrape_1 rfl (lv_at hl 1 rfl) ?_
  refine lv_imul hx hb dX0_scrape_2 ?_
  refine lv_aload_n hx hb dX0_scrape_3 rfl (lv_at hl 0 rfl) ?_
  refine mg (ci := 0) 0 4 hx hb hG igX0 hown hP rfl rfl (by decide) (wd_1_163 hG.2.1) rfl rfl dX0_scrape_4 ?_
  refine va_mmin hx hb (hml.trans hl.1.symm) hown (wd_2_186 hG.2.1) (wd_2_126 hG.2.1) (wd_1_11 hG.2.1) (wd_2_127 hG.2.1) (Nat.le_of_ble_eq_true rfl) (Nat.le_of_ble_eq_true rfl) (Nat.zero_le _) (Nat.zero_le _) dX0_scrape_7 ?_
  refine lv_istore_n (lv' := [(2, .int (if t_layer < ((4 : Int32) * x1) then t_layer else ((4 : Int32) * x1))), (0, .ref a_t), (1, .int x1)]) hx hb dX0_scrape_10 rfl hl (by decide) rfl (fun ls hl => ?_)
  refine lv_aload_n hx hb dX0_scrape_11 rfl (lv_at hl 1 rfl) ?_
  refine mg (ci := 0) 0 7 hx hb hG igX0 hown hP rfl rfl (by decide) (wd_1_169 hG.2.1) rfl rfl dX0_scrape_12 ?_
  refine lv_bipush (v := 60) hx hb dX0_scrape_15 (by decide) ?_
  refine lv_bipush (v := 10) hx hb dX0_scrape_17 (by decide) ?_
  refine lv_aload_n hx hb dX0_scrape_19 rfl (lv_at hl 1 rfl) ?_
  refine mg (ci := 0) 0 4 hx hb hG igX0 hown hP rfl rfl (by decide) (wd_1_163 hG.2.1) rfl rfl dX0_scrape_20 ?_
  refine lv_iadd hx hb dX0_scrape_23 ?_
  refine va_mmin hx hb (hml.trans hl.1.symm) hown (wd_2_186 hG.2.1) (wd_2_126 hG.2.1) (wd_1_11 hG.2.1) (wd_2_127 hG.2.1) (Nat.le_of_ble_eq_true rfl) (Nat.le_of_ble_eq_true rfl) (Nat.zero_le _) (Nat.zero_le _) dX0_scrape_24 ?_
  refine lv_iload_n hx hb dX0_scrape_27 rfl (lv_at hl 0 rfl) ?_
  obtain ⟨g28_0, g28_1, hc28, hf⟩ := bd2_some hf
  refine cl_Vv (b := a_t_scraped) (As := [.int (if ((10 : Int32) + t_layer) < (60 : Int32) then ((10 : Int32) + t_layer) else (60 : Int32)), .int (if t_layer < ((4 : Int32) * x1) then t_layer else ((4 : Int32) * x1))]) (w1 := (woX2_add cI cZ a_t_scraped a_t_scraped_grams g28_0 g28_1)) (wN := (woX0_scrape cI cZ a_t a_t_scraped a_t_scraped_grams t_water t_sugar t_fat t_warm t_layer t_air t_churned g28_0 g28_1)) [1, 2] 1 2 (c_X2_add l dC dI cI cZ ts _ a_t_scraped a_t_scraped_grams t_scraped_total t_scraped_grams (if ((10 : Int32) + t_layer) < (60 : Int32) then ((10 : Int32) + t_layer) else (60 : Int32)) (if t_layer < ((4 : Int32) * x1) then t_layer else ((4 : Int32) * x1)) (g28_0, g28_1) hc28) ⟨hx, hb, hml, hown, hG.2.1.hts _⟩ ⟨callB_of 2 (hG.2.1.hts _) giX2_add rfl rfl rfl (wd_1_8 hG.2.1) (wd_2_191 hG.2.1) hd_X2_add ⟨Nat.le_of_ble_eq_true rfl, Nat.le_of_ble_eq_true rfl⟩, wd_2_192 hG.2.1, wd_2_193 hG.2.1⟩ hG hP hD hS rfl rfl rfl rfl rfl rfl rfl rfl hl.1 rfl (Nat.le_of_ble_eq_true rfl) dX0_scrape_28 ⟨Nat.zero_le _, Nat.zero_le _⟩ (fun H locs hP hD hS => ?_)
  refine lv_aload_n hx hb dX0_scrape_31 rfl (lv_at hl 1 rfl) ?_
  refine lv_dup hx hb dX0_scrape_32 rfl ?_
  refine mg (ci := 0) 0 4 hx hb hG igX0 hown hP rfl rfl (by decide) (wd_1_163 hG.2.1) rfl rfl dX0_scrape_33 ?_
  refine lv_iload_n hx hb dX0_scrape_36 rfl (lv_at hl 0 rfl) ?_
  refine lv_isub hx hb dX0_scrape_37 ?_
  refine mp (ci := 0) (wN := (woX0_scrape cI cZ a_t a_t_scraped a_t_scraped_grams t_water t_sugar t_fat t_warm (t_layer - (if t_layer < ((4 : Int32) * x1) then t_layer else ((4 : Int32) * x1))) t_air t_churned g28_0 g28_1)) 0 4 hx hb hG igX0 tyX0 tyX0_ok nmX0 hown hP hD hS rfl rfl (by decide) (wd_1_163 hG.2.1) rfl rfl rfl rfl rfl (Nat.le_of_ble_eq_true rfl) rfl dX0_scrape_38 (fun H locs hP hD hS => ?_)
  have hR := Option.some.inj hf
  rw [← hR]
  exact rt_v hx hb hr hlk hsz hP hD hS rfl dX0_scrape_41
abbrev woX0_beat (cI cZ : ClassId) (a_t a_t_scraped : Nat) (t_water : Int32) (t_sugar : Int32) (t_fat : Int32) (t_warm : Int32) (t_layer : Int32) (t_air : Int32) (t_churned : Int32) : va_W := [(a_t, .inr (0, [.int t_water, .int t_sugar, .int t_fat, .int t_warm, .int t_layer, .int t_air, .int t_churned, .ref a_t_scraped]))]
abbrev rmX0_beat : Room := { frames := 1, cells := 0, slots := 0, locals := 23 }
theorem hd_X0_beat : yX0_beat.cls ≠ "java/lang/invoke/MethodHandle" ∧ yX0_beat.cls ≠ "java/lang/invoke/VarHandle" ∧ (parseMethodDescriptor yX0_beat.desc).map (fun d => d.parameters.length) = some 2 := by decide +kernel
set_option maxHeartbeats 4000000 in
set_option maxRecDepth 100000 in
theorem c_X0_beat (l : Launch) (dC : Nat → ClassId) (dI : Nat → Nat → Nat) (cI cZ : ClassId) (ts : Nat → Nat) (sz : Nat) (a_t a_t_scraped : Nat) (t_water : Int32) (t_sugar : Int32) (t_fat : Int32) (t_warm : Int32) (t_layer : Int32) (t_air : Int32) (t_churned : Int32) (x1 : Int32) (x2 : Int32) (R : Int32 × Int32) (hf : f_X0_beat t_fat t_air t_churned x1 x2 = some R) : Met l yX0_beat wyX0_beat rmX0_beat (PRE (dC, dI) cI cZ ts [.ref a_t, .int x1, .int x2] sz (woX0_beat cI cZ a_t a_t_scraped t_water t_sugar t_fat t_warm t_layer t_air t_churned)) (POSTv (dC, dI) sz (woX0_beat cI cZ a_t a_t_scraped t_water t_sugar t_fat t_warm t_layer t_air t_churned) (woX0_beat cI cZ a_t a_t_scraped t_water t_sugar t_fat t_warm t_layer R.1 R.2)) 0 0 (va_A (woX0_beat cI cZ a_t a_t_scraped t_water t_sugar t_fat t_warm t_layer t_air t_churned) sz) := by
  refine Met.ofW (cc := cX0_beat) (maxL := 3) (ret := none) (by decide) rfl ?_
  intro p e s m args below meth c s₁ B hml hv
  obtain ⟨rfl, hv⟩ := hv
  have hG := hg_of hv
  obtain ⟨hsz, hP, -, hD0, -⟩ := hv
  have hx := B.exec
  have hb := B.bytes
  have hr := B.returns
  have hlk := B.notSynchronized
  have hown : s.vm.findClass RX0 = some m.cls := findClass_of_methodNamed B.named
  have hD := hD0.self (sz := sz)
  have hS : va_S (va_A (woX0_beat cI cZ a_t a_t_scraped t_water t_sugar t_fat t_warm t_layer t_air t_churned) sz) s.heap s.heap [] := va_S.rf
  have L41 : ∀ (y1 : Int32) (y2 : Int32) (v_t_air : Int32) (v_t_churned : Int32) (H : Heap) (locs : List Loc) (ls : Array Slot), f_X0_beat_L41 t_fat y1 y2 v_t_air v_t_churned = some R → va_P (dC, dI) vwCl (woX0_beat cI cZ a_t a_t_scraped t_water t_sugar t_fat t_warm t_layer v_t_air v_t_churned) H → va_D (va_A (woX0_beat cI cZ a_t a_t_scraped t_water t_sugar t_fat t_warm t_layer t_air t_churned) sz) (woX0_beat cI cZ a_t a_t_scraped t_water t_sugar t_fat t_warm t_layer v_t_air v_t_churned) → va_S (va_A (woX0_beat cI cZ a_t a_t_scraped t_water t_sugar t_fat t_warm t_layer t_air t_churned) sz) s.heap H locs → lv_has ls 3 [(0, .ref a_t), (1, .int y1), (2, .int y2)] → W p l e (headSpec wyX0_beat rmX0_beat).room s m ([Value.ref a_t, Value.int x1, Value.int x2] : List Value).toArray below meth c H locs 0 0 (MQ below (POSTv (dC, dI) sz (woX0_beat cI cZ a_t a_t_scraped t_water t_sugar t_fat t_warm t_layer t_air t_churned) (woX0_beat cI cZ a_t a_t_scraped t_water t_sugar t_fat t_warm t_layer R.1 R.2)) ([Value.ref a_t, Value.int x1, Value.int x2] : List Value).toArray s 0 0 (va_A (woX0_beat cI cZ a_t a_t_scraped t_water t_sugar t_fat t_warm t_layer t_air t_churned) sz)) (F0 m 41 ls []) := by
    intro  y1 y2 v_t_air v_t_churned H locs ls hf hP hD hS hl
    unfold f_X0_beat_L41 at hf
    refine lv_iload_n hx hb dX0_beat_41 rfl (lv_at hl 1 rfl) ?_
    refine lv_bipush (v := 6) hx hb dX0_beat_42 (by decide) ?_
    refine lv_icmp_lt (tgt := 63) hx hb dX0_beat_44 (by decide) (fun c1 => ?_) (fun c1 => ?_)
    · have hf := (if_pos c1).symm.trans hf
      have hR := Option.some.inj hf
      rw [← hR]
      exact rt_v hx hb hr hlk hsz hP hD hS rfl dX0_beat_63
    · have hf := (if_neg c1).symm.trans hf
      refine lv_iload_n hx hb dX0_beat_47 rfl (lv_at hl 2 rfl) ?_
      refine lv_bipush (v := 50) hx hb dX0_beat_48 (by decide) ?_
      refine lv_icmp_lt (tgt := 63) hx hb dX0_beat_50 (by decide) (fun c2 => ?_) (fun c2 => ?_)
      · have hf := (if_pos c2).symm.trans hf
        have hR := Option.some.inj hf
        rw [← hR]
        exact rt_v hx hb hr hlk hsz hP hD hS rfl dX0_beat_63
      · have hf := (if_neg c2).symm.trans hf
        refine lv_aload_n hx hb dX0_beat_53 rfl (lv_at hl 0 rfl) ?_
        refine lv_dup hx hb dX0_beat_54 rfl ?_
        refine mg (ci := 0) 0 6 hx hb hG igX0 hown hP rfl rfl (by decide) (wd_1_167 hG.2.1) rfl rfl dX0_beat_55 ?_
        refine lv_iconst (v := 1) hx hb dX0_beat_58 (by decide) ?_
        refine lv_iadd hx hb dX0_beat_59 ?_
        refine mp (ci := 0) (wN := (woX0_beat cI cZ a_t a_t_scraped t_water t_sugar t_fat t_warm t_layer v_t_air (v_t_churned + (1 : Int32)))) 0 6 hx hb hG igX0 tyX0 tyX0_ok nmX0 hown hP hD hS rfl rfl (by decide) (wd_1_167 hG.2.1) rfl rfl rfl rfl rfl (Nat.le_of_ble_eq_true rfl) rfl dX0_beat_60 (fun H locs hP hD hS => ?_)
        have hR := Option.some.inj hf
        rw [← hR]
        exact rt_v hx hb hr hlk hsz hP hD hS rfl dX0_beat_63
  have hl := lv_entry ([.ref a_t, .int x1, .int x2]) (n := 3) (Nat.le_of_ble_eq_true rfl)
  rw [lg_entry_eq]
  generalize (lg_sl ([.ref a_t, .int x1, .int x2]) ++ List.replicate (3 - (lg_sl ([.ref a_t, .int x1, .int x2])).length) Slot.unset).toArray = ls at hl ⊢
  have hl : lv_has ls 3 [(0, .ref a_t), (1, .int x1), (2, .int x2)] := hl
  unfold f_X0_beat at hf
  refine lv_aload_n hx hb dX0_beat_0 rfl (lv_at hl 0 rfl) ?_
  refine mg (ci := 0) 0 2 hx hb hG igX0 hown hP rfl rfl (by decide) (wd_1_160 hG.2.1) rfl rfl dX0_beat_1 ?_
  refine lv_bipush (v := 50) hx hb dX0_beat_4 (by decide) ?_
  refine lv_icmp_lt (tgt := 41) hx hb dX0_beat_6 (by decide) (fun c3 => ?_) (fun c3 => ?_)
  · have hf := (if_pos c3).symm.trans hf
    exact L41  x1 x2 t_air t_churned _ _ _ hf hP hD hS (lv_sub hl [0, 1, 2] rfl)
  · have hf := (if_neg c3).symm.trans hf
    refine lv_iload_n hx hb dX0_beat_9 rfl (lv_at hl 2 rfl) ?_
    refine lv_bipush (v := 10) hx hb dX0_beat_10 (by decide) ?_
    refine lv_icmp_lt (tgt := 41) hx hb dX0_beat_12 (by decide) (fun c4 => ?_) (fun c4 => ?_)
    · have hf := (if_pos c4).symm.trans hf
      exact L41  x1 x2 t_air t_churned _ _ _ hf hP hD hS (lv_sub hl [0, 1, 2] rfl)
    · have hf := (if_neg c4).symm.trans hf
      refine lv_aload_n hx hb dX0_beat_15 rfl (lv_at hl 0 rfl) ?_
      refine mg (ci := 0) 0 6 hx hb hG igX0 hown hP rfl rfl (by decide) (wd_1_167 hG.2.1) rfl rfl dX0_beat_16 ?_
      refine lv_bipush (v := 8) hx hb dX0_beat_19 (by decide) ?_
      refine lv_icmp_ge (tgt := 41) hx hb dX0_beat_21 (by decide) (fun c5 => ?_) (fun c5 => ?_)
      · have hf := (if_pos c5).symm.trans hf
        exact L41  x1 x2 t_air t_churned _ _ _ hf hP hD hS (lv_sub hl [0, 1, 2] rfl)
      · have hf := (if_neg c5).symm.trans hf
        refine lv_aload_n hx hb dX0_beat_24 rfl (lv_at hl 0 rfl) ?_
        refine lv_bipush (v := 100) hx hb dX0_beat_25 (by decide) ?_
        refine lv_aload_n hx hb dX0_beat_27 rfl (lv_at hl 0 rfl) ?_
        refine mg (ci := 0) 0 5 hx hb hG igX0 hown hP rfl rfl (by decide) (wd_1_165 hG.2.1) rfl rfl dX0_beat_28 ?_
        refine lv_iload_n hx hb dX0_beat_31 rfl (lv_at hl 1 rfl) ?_
        refine lv_iconst (v := 3) hx hb dX0_beat_32 (by decide) ?_
        refine lv_idiv hx hb dX0_beat_33 (by decide) ?_
        refine lv_iadd hx hb dX0_beat_34 ?_
        refine va_mmin hx hb (hml.trans hl.1.symm) hown (wd_2_186 hG.2.1) (wd_2_126 hG.2.1) (wd_1_11 hG.2.1) (wd_2_127 hG.2.1) (Nat.le_of_ble_eq_true rfl) (Nat.le_of_ble_eq_true rfl) (Nat.zero_le _) (Nat.zero_le _) dX0_beat_35 ?_
        refine mp (ci := 0) (wN := (woX0_beat cI cZ a_t a_t_scraped t_water t_sugar t_fat t_warm t_layer (if (t_air + (x1 / (3 : Int32))) < (100 : Int32) then (t_air + (x1 / (3 : Int32))) else (100 : Int32)) t_churned)) 0 5 hx hb hG igX0 tyX0 tyX0_ok nmX0 hown hP hD hS rfl rfl (by decide) (wd_1_165 hG.2.1) rfl rfl rfl rfl rfl (Nat.le_of_ble_eq_true rfl) rfl dX0_beat_38 (fun H locs hP hD hS => ?_)
        exact L41  x1 x2 (if (t_air + (x1 / (3 : Int32))) < (100 : Int32) then (t_air + (x1 / (3 : Int32))) else (100 : Int32)) t_churned _ _ _ hf hP hD hS (lv_sub hl [0, 1, 2] rfl)
abbrev woX1_begin (cI cZ : ClassId) (a_t a_t_wearinesses : Nat) (t_wearinesses : Nat → Int32) : va_W := [(a_t, .inr (1, [.ref a_t_wearinesses])), (a_t_wearinesses, .inl (cI, 4, .inl t_wearinesses))]
abbrev rmX1_begin : Room := { frames := 0, cells := 0, slots := 0, locals := 0 }
theorem hd_X1_begin : yX1_begin.cls ≠ "java/lang/invoke/MethodHandle" ∧ yX1_begin.cls ≠ "java/lang/invoke/VarHandle" ∧ (parseMethodDescriptor yX1_begin.desc).map (fun d => d.parameters.length) = some 0 := by decide +kernel
set_option maxHeartbeats 4000000 in
set_option maxRecDepth 100000 in
theorem c_X1_begin (l : Launch) (dC : Nat → ClassId) (dI : Nat → Nat → Nat) (cI cZ : ClassId) (ts : Nat → Nat) (sz : Nat) (a_t a_t_wearinesses : Nat) (t_wearinesses : Nat → Int32) (R : (Nat → Int32)) (hf : f_X1_begin t_wearinesses = some R) : Met l yX1_begin wyX1_begin rmX1_begin (PRE (dC, dI) cI cZ ts [.ref a_t] sz (woX1_begin cI cZ a_t a_t_wearinesses t_wearinesses)) (POSTv (dC, dI) sz (woX1_begin cI cZ a_t a_t_wearinesses t_wearinesses) (woX1_begin cI cZ a_t a_t_wearinesses R)) 0 0 (va_A (woX1_begin cI cZ a_t a_t_wearinesses t_wearinesses) sz) := by
  refine Met.ofW (cc := cX1_begin) (maxL := 2) (ret := none) (by decide) rfl ?_
  intro p e s m args below meth c s₁ B hml hv
  obtain ⟨rfl, hv⟩ := hv
  have hG := hg_of hv
  obtain ⟨hsz, hP, -, hD0, -⟩ := hv
  have hx := B.exec
  have hb := B.bytes
  have hr := B.returns
  have hlk := B.notSynchronized
  have hown : s.vm.findClass RX1 = some m.cls := findClass_of_methodNamed B.named
  have hD := hD0.self (sz := sz)
  have hS : va_S (va_A (woX1_begin cI cZ a_t a_t_wearinesses t_wearinesses) sz) s.heap s.heap [] := va_S.rf
  have L2 : ∀ (fu : Nat) (y1 : Int32) (v_t_wearinesses : Nat → Int32) (H : Heap) (locs : List Loc) (ls : Array Slot), f_X1_begin_L2 fu y1 v_t_wearinesses = some R → va_P (dC, dI) vwCl (woX1_begin cI cZ a_t a_t_wearinesses v_t_wearinesses) H → va_D (va_A (woX1_begin cI cZ a_t a_t_wearinesses t_wearinesses) sz) (woX1_begin cI cZ a_t a_t_wearinesses v_t_wearinesses) → va_S (va_A (woX1_begin cI cZ a_t a_t_wearinesses t_wearinesses) sz) s.heap H locs → lv_has ls 2 [(0, .ref a_t), (1, .int y1)] → W p l e (headSpec wyX1_begin rmX1_begin).room s m ([Value.ref a_t] : List Value).toArray below meth c H locs 0 0 (MQ below (POSTv (dC, dI) sz (woX1_begin cI cZ a_t a_t_wearinesses t_wearinesses) (woX1_begin cI cZ a_t a_t_wearinesses R)) ([Value.ref a_t] : List Value).toArray s 0 0 (va_A (woX1_begin cI cZ a_t a_t_wearinesses t_wearinesses) sz)) (F0 m 2 ls []) := by
    intro  fu
    induction fu with
    | zero => intro y1 v_t_wearinesses H locs ls hf; cases hf
    | succ fu ih =>
      intro y1 v_t_wearinesses H locs ls hf hP hD hS hl
      rw [f_X1_begin_L2] at hf
      refine lv_iload_n hx hb dX1_begin_2 rfl (lv_at hl 1 rfl) ?_
      refine lv_aload_n hx hb dX1_begin_3 rfl (lv_at hl 0 rfl) ?_
      refine mg (ci := 1) 0 0 hx hb hG igX1 hown hP rfl rfl (by decide) (wd_1_195 hG.2.1) rfl rfl dX1_begin_4 ?_
      refine maln 1 0 hx hb hG hP rfl rfl (v := (4 : Int32)) rfl dX1_begin_7 ?_
      refine lv_icmp_ge (tgt := 24) hx hb dX1_begin_8 (by decide) (fun c1 => ?_) (fun c1 => ?_)
      · have hf := (if_pos c1).symm.trans hf
        have hR := Option.some.inj hf
        rw [← hR]
        exact rt_v hx hb hr hlk hsz hP hD hS rfl dX1_begin_24
      · have hf := (if_neg c1).symm.trans hf
        refine lv_aload_n hx hb dX1_begin_11 rfl (lv_at hl 0 rfl) ?_
        refine mg (ci := 1) 0 0 hx hb hG igX1 hown hP rfl rfl (by decide) (wd_1_195 hG.2.1) rfl rfl dX1_begin_12 ?_
        refine lv_iload_n hx hb dX1_begin_15 rfl (lv_at hl 1 rfl) ?_
        refine lv_iconst (v := 0) hx hb dX1_begin_16 (by decide) ?_
        obtain ⟨g2, hf⟩ := gd_some hf
        refine mas (wN := (woX1_begin cI cZ a_t a_t_wearinesses (upd v_t_wearinesses (y1).toNatClampNeg (0 : Int32)))) 1 hx hb hG hP hD hS rfl g2 rfl dX1_begin_17 (fun H locs hP hD hS => ?_)
        refine lv_iinc (v := (y1 + (1 : Int32))) (lv' := [(1, .int (y1 + (1 : Int32))), (0, .ref a_t)]) hx hb dX1_begin_18 hl (k := 1) rfl rfl (by decide) rfl (fun ls hl => ?_)
        refine lv_goto (tgt := 2) hx hb dX1_begin_21 (by decide) ?_
        exact ih (y1 + (1 : Int32)) (upd v_t_wearinesses (y1).toNatClampNeg (0 : Int32)) _ _ _ hf hP hD hS (lv_sub hl [1, 0] rfl)
  have hl := lv_entry ([.ref a_t]) (n := 2) (Nat.le_of_ble_eq_true rfl)
  rw [lg_entry_eq]
  generalize (lg_sl ([.ref a_t]) ++ List.replicate (2 - (lg_sl ([.ref a_t])).length) Slot.unset).toArray = ls at hl ⊢
  have hl : lv_has ls 2 [(0, .ref a_t)] := hl
  unfold f_X1_begin at hf
  refine lv_iconst (v := 0) hx hb dX1_begin_0 (by decide) ?_
  refine lv_istore_n (lv' := [(1, .int (0 : Int32)), (0, .ref a_t)]) hx hb dX1_begin_1 rfl hl (by decide) rfl (fun ls hl => ?_)
  exact L2 FU (0 : Int32) t_wearinesses _ _ _ hf hP hD hS (lv_sub hl [1, 0] rfl)
abbrev woX1_weariness (cI cZ : ClassId) (a_t a_t_wearinesses : Nat) (t_wearinesses : Nat → Int32) : va_W := [(a_t, .inr (1, [.ref a_t_wearinesses])), (a_t_wearinesses, .inl (cI, 4, .inl t_wearinesses))]
abbrev rmX1_weariness : Room := { frames := 1, cells := 0, slots := 0, locals := 21 }
theorem hd_X1_weariness : yX1_weariness.cls ≠ "java/lang/invoke/MethodHandle" ∧ yX1_weariness.cls ≠ "java/lang/invoke/VarHandle" ∧ (parseMethodDescriptor yX1_weariness.desc).map (fun d => d.parameters.length) = some 1 := by decide +kernel
set_option maxHeartbeats 4000000 in
set_option maxRecDepth 100000 in
theorem c_X1_weariness (l : Launch) (dC : Nat → ClassId) (dI : Nat → Nat → Nat) (cI cZ : ClassId) (ts : Nat → Nat) (sz : Nat) (a_t a_t_wearinesses : Nat) (t_wearinesses : Nat → Int32) (x1 : Int32) (R : Int32) (hf : f_X1_weariness t_wearinesses x1 = some R) : Met l yX1_weariness wyX1_weariness rmX1_weariness (PRE (dC, dI) cI cZ ts [.ref a_t, .int x1] sz (woX1_weariness cI cZ a_t a_t_wearinesses t_wearinesses)) (POSTi (dC, dI) R sz (woX1_weariness cI cZ a_t a_t_wearinesses t_wearinesses) (woX1_weariness cI cZ a_t a_t_wearinesses t_wearinesses)) 0 0 (va_A (woX1_weariness cI cZ a_t a_t_wearinesses t_wearinesses) sz) := by
  refine Met.ofW (cc := cX1_weariness) (maxL := 2) (ret := (some .int)) (by decide) rfl ?_
  intro p e s m args below meth c s₁ B hml hv
  obtain ⟨rfl, hv⟩ := hv
  have hG := hg_of hv
  obtain ⟨hsz, hP, -, hD0, -⟩ := hv
  have hx := B.exec
  have hb := B.bytes
  have hr := B.returns
  have hlk := B.notSynchronized
  have hown : s.vm.findClass RX1 = some m.cls := findClass_of_methodNamed B.named
  have hD := hD0.self (sz := sz)
  have hS : va_S (va_A (woX1_weariness cI cZ a_t a_t_wearinesses t_wearinesses) sz) s.heap s.heap [] := va_S.rf
  have hl := lv_entry ([.ref a_t, .int x1]) (n := 2) (Nat.le_of_ble_eq_true rfl)
  rw [lg_entry_eq]
  generalize (lg_sl ([.ref a_t, .int x1]) ++ List.replicate (2 - (lg_sl ([.ref a_t, .int x1])).length) Slot.unset).toArray = ls at hl ⊢
  have hl : lv_has ls 2 [(0, .ref a_t), (1, .int x1)] := hl
  unfold f_X1_weariness at hf
  refine lv_aload_n hx hb dX1_weariness_0 rfl (lv_at hl 0 rfl) ?_
  refine mg (ci := 1) 0 0 hx hb hG igX1 hown hP rfl rfl (by decide) (wd_1_195 hG.2.1) rfl rfl dX1_weariness_1 ?_
  refine lv_iload_n hx hb dX1_weariness_4 rfl (lv_at hl 1 rfl) ?_
  obtain ⟨r5, hc5, hf⟩ := bd1_some hf
  refine cl_Ni (r := r5) (As := [.ref a_t_wearinesses, .int x1]) (w1 := (woX8_at cI cZ a_t_wearinesses 4 t_wearinesses)) (wN := (woX1_weariness cI cZ a_t a_t_wearinesses t_wearinesses)) [1] 0 0 (c_X8_at l dC dI cI cZ ts _ a_t_wearinesses 4 t_wearinesses x1 (r5) hc5) ⟨hx, hb, hml, hown, hG.2.1.hts _⟩ ⟨va_cnB 2 (hG.2.1.hts _) giX8_at rfl rfl rfl (va_Nw.of (A := #[]) rfl (wd_2_163 hG.2.1)) (wd_1_1 hG.2.1) hd_X8_at ⟨Nat.le_of_ble_eq_true rfl, Nat.le_of_ble_eq_true rfl⟩, wd_2_10 hG.2.1, trivial⟩ hG hP hD hS rfl rfl rfl rfl rfl hl.1 rfl (Nat.le_of_ble_eq_true rfl) dX1_weariness_5 ⟨Nat.zero_le _, Nat.zero_le _⟩ (fun H locs hP hD hS => ?_)
  have hR := Option.some.inj hf
  rw [← hR]
  exact rt_i hx hb hr hlk hsz hP hD hS rfl rfl dX1_weariness_8
abbrev woX1_pass (cI cZ : ClassId) (a_t a_t_wearinesses : Nat) (t_wearinesses : Nat → Int32) : va_W := [(a_t, .inr (1, [.ref a_t_wearinesses])), (a_t_wearinesses, .inl (cI, 4, .inl t_wearinesses))]
abbrev rmX1_pass : Room := { frames := 2, cells := 0, slots := 0, locals := 42 }
theorem hd_X1_pass : yX1_pass.cls ≠ "java/lang/invoke/MethodHandle" ∧ yX1_pass.cls ≠ "java/lang/invoke/VarHandle" ∧ (parseMethodDescriptor yX1_pass.desc).map (fun d => d.parameters.length) = some 2 := by decide +kernel
set_option maxHeartbeats 4000000 in
set_option maxRecDepth 100000 in
theorem c_X1_pass (l : Launch) (dC : Nat → ClassId) (dI : Nat → Nat → Nat) (cI cZ : ClassId) (ts : Nat → Nat) (sz : Nat) (a_t a_t_wearinesses : Nat) (t_wearinesses : Nat → Int32) (x1 : Int32) (x2 : Int32) (R : (Nat → Int32)) (hf : f_X1_pass t_wearinesses x1 x2 = some R) : Met l yX1_pass wyX1_pass rmX1_pass (PRE (dC, dI) cI cZ ts [.ref a_t, .int x1, .int x2] sz (woX1_pass cI cZ a_t a_t_wearinesses t_wearinesses)) (POSTv (dC, dI) sz (woX1_pass cI cZ a_t a_t_wearinesses t_wearinesses) (woX1_pass cI cZ a_t a_t_wearinesses R)) 0 0 (va_A (woX1_pass cI cZ a_t a_t_wearinesses t_wearinesses) sz) := by
  refine Met.ofW (cc := cX1_pass) (maxL := 5) (ret := none) (by decide) rfl ?_
  intro p e s m args below meth c s₁ B hml hv
  obtain ⟨rfl, hv⟩ := hv
  have hG := hg_of hv
  obtain ⟨hsz, hP, -, hD0, -⟩ := hv
  have hx := B.exec
  have hb := B.bytes
  have hr := B.returns
  have hlk := B.notSynchronized
  have hown : s.vm.findClass RX1 = some m.cls := findClass_of_methodNamed B.named
  have hD := hD0.self (sz := sz)
  have hS : va_S (va_A (woX1_pass cI cZ a_t a_t_wearinesses t_wearinesses) sz) s.heap s.heap [] := va_S.rf
  have L19 : ∀ (rc2 : Int32 → Int32 → Int32 → (Nat → Int32) → Option ((Nat → Int32))), (∀ (y1 : Int32) (y2 : Int32) (y3 : Int32) (v_t_wearinesses : Nat → Int32) (H : Heap) (locs : List Loc) (ls : Array Slot), rc2 y1 y2 y3 v_t_wearinesses = some R → va_P (dC, dI) vwCl (woX1_pass cI cZ a_t a_t_wearinesses v_t_wearinesses) H → va_D (va_A (woX1_pass cI cZ a_t a_t_wearinesses t_wearinesses) sz) (woX1_pass cI cZ a_t a_t_wearinesses v_t_wearinesses) → va_S (va_A (woX1_pass cI cZ a_t a_t_wearinesses t_wearinesses) sz) s.heap H locs → lv_has ls 5 [(0, .ref a_t), (1, .int y1), (2, .int y2), (3, .int y3)] → W p l e (headSpec wyX1_pass rmX1_pass).room s m ([Value.ref a_t, Value.int x1, Value.int x2] : List Value).toArray below meth c H locs 0 0 (MQ below (POSTv (dC, dI) sz (woX1_pass cI cZ a_t a_t_wearinesses t_wearinesses) (woX1_pass cI cZ a_t a_t_wearinesses R)) ([Value.ref a_t, Value.int x1, Value.int x2] : List Value).toArray s 0 0 (va_A (woX1_pass cI cZ a_t a_t_wearinesses t_wearinesses) sz)) (F0 m 2 ls [])) → ∀ (z0 : Int32) (y1 : Int32) (y2 : Int32) (y3 : Int32) (v_t_wearinesses : Nat → Int32) (H : Heap) (locs : List Loc) (ls : Array Slot), f_X1_pass_L19 rc2 z0 y1 y2 y3 v_t_wearinesses = some R → va_P (dC, dI) vwCl (woX1_pass cI cZ a_t a_t_wearinesses v_t_wearinesses) H → va_D (va_A (woX1_pass cI cZ a_t a_t_wearinesses t_wearinesses) sz) (woX1_pass cI cZ a_t a_t_wearinesses v_t_wearinesses) → va_S (va_A (woX1_pass cI cZ a_t a_t_wearinesses t_wearinesses) sz) s.heap H locs → lv_has ls 5 [(0, .ref a_t), (1, .int y1), (2, .int y2), (3, .int y3)] → W p l e (headSpec wyX1_pass rmX1_pass).room s m ([Value.ref a_t, Value.int x1, Value.int x2] : List Value).toArray below meth c H locs 0 0 (MQ below (POSTv (dC, dI) sz (woX1_pass cI cZ a_t a_t_wearinesses t_wearinesses) (woX1_pass cI cZ a_t a_t_wearinesses R)) ([Value.ref a_t, Value.int x1, Value.int x2] : List Value).toArray s 0 0 (va_A (woX1_pass cI cZ a_t a_t_wearinesses t_wearinesses) sz)) (F0 m 19 ls [.int z0]) := by
    intro rc2 hrc2 z0 y1 y2 y3 v_t_wearinesses H locs ls hf hP hD hS hl
    unfold f_X1_pass_L19 at hf
    refine lv_istore (lv' := [(4, .int z0), (0, .ref a_t), (1, .int y1), (2, .int y2), (3, .int y3)]) hx hb dX1_pass_19 hl (by decide) rfl (fun ls hl => ?_)
    refine lv_aload_n hx hb dX1_pass_21 rfl (lv_at hl 1 rfl) ?_
    refine mg (ci := 1) 0 0 hx hb hG igX1 hown hP rfl rfl (by decide) (wd_1_195 hG.2.1) rfl rfl dX1_pass_22 ?_
    refine lv_iload_n hx hb dX1_pass_25 rfl (lv_at hl 4 rfl) ?_
    refine lv_iconst (v := 0) hx hb dX1_pass_26 (by decide) ?_
    refine lv_aload_n hx hb dX1_pass_27 rfl (lv_at hl 1 rfl) ?_
    refine lv_iload_n hx hb dX1_pass_28 rfl (lv_at hl 4 rfl) ?_
    obtain ⟨r29, hc29, hf⟩ := bd1_some hf
    refine cl_Vi (r := r29) (b := a_t) (As := [.int y3]) (w1 := (woX1_weariness cI cZ a_t a_t_wearinesses v_t_wearinesses)) (wN := (woX1_pass cI cZ a_t a_t_wearinesses v_t_wearinesses)) [0, 1] 0 1 (c_X1_weariness l dC dI cI cZ ts _ a_t a_t_wearinesses v_t_wearinesses y3 (r29) hc29) ⟨hx, hb, hml, hown, hG.2.1.hts _⟩ ⟨callB_of 1 (hG.2.1.hts _) giX1_weariness rfl rfl rfl (wd_1_9 hG.2.1) (wd_2_205 hG.2.1) hd_X1_weariness ⟨Nat.le_of_ble_eq_true rfl, Nat.le_of_ble_eq_true rfl⟩, wd_2_160 hG.2.1, wd_2_161 hG.2.1⟩ hG hP hD hS rfl rfl rfl rfl rfl rfl rfl rfl hl.1 rfl (Nat.le_of_ble_eq_true rfl) dX1_pass_29 ⟨Nat.zero_le _, Nat.zero_le _⟩ (fun H locs hP hD hS => ?_)
    refine lv_iload hx hb dX1_pass_32 (lv_at hl 0 rfl) ?_
    refine lv_iadd hx hb dX1_pass_34 ?_
    refine va_mmax hx hb (hml.trans hl.1.symm) hown (wd_2_206 hG.2.1) (wd_2_129 hG.2.1) (wd_1_11 hG.2.1) (wd_2_130 hG.2.1) (Nat.le_of_ble_eq_true rfl) (Nat.le_of_ble_eq_true rfl) (Nat.zero_le _) (Nat.zero_le _) dX1_pass_35 ?_
    obtain ⟨g38_0, hc38, hf⟩ := bd1_some hf
    refine cl_Nv (As := [.ref a_t_wearinesses, .int y3, .int (if (0 : Int32) < (r29 + z0) then (r29 + z0) else (0 : Int32))]) (w1 := (woX8_put cI cZ a_t_wearinesses 4 g38_0)) (wN := (woX1_pass cI cZ a_t a_t_wearinesses g38_0)) [1] 0 0 (c_X8_put l dC dI cI cZ ts _ a_t_wearinesses 4 v_t_wearinesses y3 (if (0 : Int32) < (r29 + z0) then (r29 + z0) else (0 : Int32)) (g38_0) hc38) ⟨hx, hb, hml, hown, hG.2.1.hts _⟩ ⟨va_cnB 3 (hG.2.1.hts _) giX8_put rfl rfl rfl (va_Nw.of (A := #[]) rfl (wd_2_207 hG.2.1)) (wd_1_1 hG.2.1) hd_X8_put ⟨Nat.le_of_ble_eq_true rfl, Nat.le_of_ble_eq_true rfl⟩, wd_2_20 hG.2.1, trivial⟩ hG hP hD hS rfl rfl rfl rfl rfl hl.1 rfl (Nat.le_of_ble_eq_true rfl) dX1_pass_38 ⟨Nat.zero_le _, Nat.zero_le _⟩ (fun H locs hP hD hS => ?_)
    refine lv_iinc (v := (y3 + (1 : Int32))) (lv' := [(3, .int (y3 + (1 : Int32))), (4, .int z0), (0, .ref a_t), (1, .int y1), (2, .int y2)]) hx hb dX1_pass_41 hl (k := 4) rfl rfl (by decide) rfl (fun ls hl => ?_)
    refine lv_goto (tgt := 2) hx hb dX1_pass_44 (by decide) ?_
    exact hrc2 y1 y2 (y3 + (1 : Int32)) g38_0 _ _ _ hf hP hD hS (lv_sub hl [2, 3, 4, 0] rfl)
  have L2 : ∀ (fu : Nat) (y1 : Int32) (y2 : Int32) (y3 : Int32) (v_t_wearinesses : Nat → Int32) (H : Heap) (locs : List Loc) (ls : Array Slot), f_X1_pass_L2 fu y1 y2 y3 v_t_wearinesses = some R → va_P (dC, dI) vwCl (woX1_pass cI cZ a_t a_t_wearinesses v_t_wearinesses) H → va_D (va_A (woX1_pass cI cZ a_t a_t_wearinesses t_wearinesses) sz) (woX1_pass cI cZ a_t a_t_wearinesses v_t_wearinesses) → va_S (va_A (woX1_pass cI cZ a_t a_t_wearinesses t_wearinesses) sz) s.heap H locs → lv_has ls 5 [(0, .ref a_t), (1, .int y1), (2, .int y2), (3, .int y3)] → W p l e (headSpec wyX1_pass rmX1_pass).room s m ([Value.ref a_t, Value.int x1, Value.int x2] : List Value).toArray below meth c H locs 0 0 (MQ below (POSTv (dC, dI) sz (woX1_pass cI cZ a_t a_t_wearinesses t_wearinesses) (woX1_pass cI cZ a_t a_t_wearinesses R)) ([Value.ref a_t, Value.int x1, Value.int x2] : List Value).toArray s 0 0 (va_A (woX1_pass cI cZ a_t a_t_wearinesses t_wearinesses) sz)) (F0 m 2 ls []) := by
    intro  fu
    induction fu with
    | zero => intro y1 y2 y3 v_t_wearinesses H locs ls hf; cases hf
    | succ fu ih =>
      intro y1 y2 y3 v_t_wearinesses H locs ls hf hP hD hS hl
      rw [f_X1_pass_L2] at hf
      refine lv_iload_n hx hb dX1_pass_2 rfl (lv_at hl 3 rfl) ?_
      refine lv_iconst (v := 4) hx hb dX1_pass_3 (by decide) ?_
      refine lv_icmp_ge (tgt := 47) hx hb dX1_pass_4 (by decide) (fun c1 => ?_) (fun c1 => ?_)
      · have hf := (if_pos c1).symm.trans hf
        have hR := Option.some.inj hf
        rw [← hR]
        exact rt_v hx hb hr hlk hsz hP hD hS rfl dX1_pass_47
      · have hf := (if_neg c1).symm.trans hf
        refine lv_iload_n hx hb dX1_pass_7 rfl (lv_at hl 3 rfl) ?_
        refine lv_iload_n hx hb dX1_pass_8 rfl (lv_at hl 1 rfl) ?_
        refine lv_icmp_ne (tgt := 18) hx hb dX1_pass_9 (by decide) (fun c2 => ?_) (fun c2 => ?_)
        · have hf := (if_neg c2).symm.trans hf
          refine lv_iconst (v := -1) hx hb dX1_pass_18 (by decide) ?_
          exact L19 (f_X1_pass_L2 fu) ih (-1 : Int32) y1 y2 y3 v_t_wearinesses _ _ _ hf hP hD hS (lv_sub hl [0, 1, 2, 3] rfl)
        · have hf := (if_pos c2).symm.trans hf
          refine lv_iload_n hx hb dX1_pass_12 rfl (lv_at hl 2 rfl) ?_
          refine lv_iconst (v := 2) hx hb dX1_pass_13 (by decide) ?_
          refine lv_idiv hx hb dX1_pass_14 (by decide) ?_
          refine lv_goto (tgt := 19) hx hb dX1_pass_15 (by decide) ?_
          exact L19 (f_X1_pass_L2 fu) ih (y2 / (2 : Int32)) y1 y2 y3 v_t_wearinesses _ _ _ hf hP hD hS (lv_sub hl [0, 1, 2, 3] rfl)
  have hl := lv_entry ([.ref a_t, .int x1, .int x2]) (n := 5) (Nat.le_of_ble_eq_true rfl)
  rw [lg_entry_eq]
  generalize (lg_sl ([.ref a_t, .int x1, .int x2]) ++ List.replicate (5 - (lg_sl ([.ref a_t, .int x1, .int x2])).length) Slot.unset).toArray = ls at hl ⊢
  have hl : lv_has ls 5 [(0, .ref a_t), (1, .int x1), (2, .int x2)] := hl
  unfold f_X1_pass at hf
  refine lv_iconst (v := 0) hx hb dX1_pass_0 (by decide) ?_
  refine lv_istore_n (lv' := [(3, .int (0 : Int32)), (0, .ref a_t), (1, .int x1), (2, .int x2)]) hx hb dX1_pass_1 rfl hl (by decide) rfl (fun ls hl => ?_)
  exact L2 FU x1 x2 (0 : Int32) t_wearinesses _ _ _ hf hP hD hS (lv_sub hl [1, 2, 3, 0] rfl)
abbrev woX2_gramsOf (cI cZ : ClassId) (a_t a_t_grams : Nat) (t_total : Int32) (t_grams : Nat → Int32) : va_W := [(a_t, .inr (2, [.ref a_t_grams, .int t_total])), (a_t_grams, .inl (cI, 64, .inl t_grams))]
abbrev rmX2_gramsOf : Room := { frames := 1, cells := 0, slots := 0, locals := 21 }
theorem hd_X2_gramsOf : yX2_gramsOf.cls ≠ "java/lang/invoke/MethodHandle" ∧ yX2_gramsOf.cls ≠ "java/lang/invoke/VarHandle" ∧ (parseMethodDescriptor yX2_gramsOf.desc).map (fun d => d.parameters.length) = some 1 := by decide +kernel
set_option maxHeartbeats 4000000 in
set_option maxRecDepth 100000 in
theorem c_X2_gramsOf (l : Launch) (dC : Nat → ClassId) (dI : Nat → Nat → Nat) (cI cZ : ClassId) (ts : Nat → Nat) (sz : Nat) (a_t a_t_grams : Nat) (t_total : Int32) (t_grams : Nat → Int32) (x1 : Int32) (R : Int32) (hf : f_X2_gramsOf t_grams x1 = some R) : Met l yX2_gramsOf wyX2_gramsOf rmX2_gramsOf (PRE (dC, dI) cI cZ ts [.ref a_t, .int x1] sz (woX2_gramsOf cI cZ a_t a_t_grams t_total t_grams)) (POSTi (dC, dI) R sz (woX2_gramsOf cI cZ a_t a_t_grams t_total t_grams) (woX2_gramsOf cI cZ a_t a_t_grams t_total t_grams)) 0 0 (va_A (woX2_gramsOf cI cZ a_t a_t_grams t_total t_grams) sz) := by
  refine Met.ofW (cc := cX2_gramsOf) (maxL := 2) (ret := (some .int)) (by decide) rfl ?_
  intro p e s m args below meth c s₁ B hml hv
  obtain ⟨rfl, hv⟩ := hv
  have hG := hg_of hv
  obtain ⟨hsz, hP, -, hD0, -⟩ := hv
  have hx := B.exec
  have hb := B.bytes
  have hr := B.returns
  have hlk := B.notSynchronized
  have hown : s.vm.findClass RX2 = some m.cls := findClass_of_methodNamed B.named
  have hD := hD0.self (sz := sz)
  have hS : va_S (va_A (woX2_gramsOf cI cZ a_t a_t_grams t_total t_grams) sz) s.heap s.heap [] := va_S.rf
  have hl := lv_entry ([.ref a_t, .int x1]) (n := 2) (Nat.le_of_ble_eq_true rfl)
  rw [lg_entry_eq]
  generalize (lg_sl ([.ref a_t, .int x1]) ++ List.replicate (2 - (lg_sl ([.ref a_t, .int x1])).length) Slot.unset).toArray = ls at hl ⊢
  have hl : lv_has ls 2 [(0, .ref a_t), (1, .int x1)] := hl
  unfold f_X2_gramsOf at hf
  refine lv_aload_n hx hb dX2_gramsOf_0 rfl (lv_at hl 0 rfl) ?_
  refine mg (ci := 2) 0 0 hx hb hG igX2 hown hP rfl rfl (by decide) (wd_1_148 hG.2.1) rfl rfl dX2_gramsOf_1 ?_
  refine lv_iload_n hx hb dX2_gramsOf_4 rfl (lv_at hl 1 rfl) ?_
  obtain ⟨r5, hc5, hf⟩ := bd1_some hf
  refine cl_Ni (r := r5) (As := [.ref a_t_grams, .int x1]) (w1 := (woX8_at cI cZ a_t_grams 64 t_grams)) (wN := (woX2_gramsOf cI cZ a_t a_t_grams t_total t_grams)) [1] 0 0 (c_X8_at l dC dI cI cZ ts _ a_t_grams 64 t_grams x1 (r5) hc5) ⟨hx, hb, hml, hown, hG.2.1.hts _⟩ ⟨va_cnB 2 (hG.2.1.hts _) giX8_at rfl rfl rfl (va_Nw.of (A := #[]) rfl (wd_2_195 hG.2.1)) (wd_1_1 hG.2.1) hd_X8_at ⟨Nat.le_of_ble_eq_true rfl, Nat.le_of_ble_eq_true rfl⟩, wd_2_10 hG.2.1, trivial⟩ hG hP hD hS rfl rfl rfl rfl rfl hl.1 rfl (Nat.le_of_ble_eq_true rfl) dX2_gramsOf_5 ⟨Nat.zero_le _, Nat.zero_le _⟩ (fun H locs hP hD hS => ?_)
  have hR := Option.some.inj hf
  rw [← hR]
  exact rt_i hx hb hr hlk hsz hP hD hS rfl rfl dX2_gramsOf_8
abbrev woX2_coarse (cI cZ : ClassId) (a_t a_t_grams : Nat) (t_total : Int32) (t_grams : Nat → Int32) : va_W := [(a_t, .inr (2, [.ref a_t_grams, .int t_total])), (a_t_grams, .inl (cI, 64, .inl t_grams))]
abbrev rmX2_coarse : Room := { frames := 2, cells := 0, slots := 0, locals := 42 }
theorem hd_X2_coarse : yX2_coarse.cls ≠ "java/lang/invoke/MethodHandle" ∧ yX2_coarse.cls ≠ "java/lang/invoke/VarHandle" ∧ (parseMethodDescriptor yX2_coarse.desc).map (fun d => d.parameters.length) = some 0 := by decide +kernel
set_option maxHeartbeats 4000000 in
set_option maxRecDepth 100000 in
theorem c_X2_coarse (l : Launch) (dC : Nat → ClassId) (dI : Nat → Nat → Nat) (cI cZ : ClassId) (ts : Nat → Nat) (sz : Nat) (a_t a_t_grams : Nat) (t_total : Int32) (t_grams : Nat → Int32) (R : Int32) (hf : f_X2_coarse t_total t_grams = some R) : Met l yX2_coarse wyX2_coarse rmX2_coarse (PRE (dC, dI) cI cZ ts [.ref a_t] sz (woX2_coarse cI cZ a_t a_t_grams t_total t_grams)) (POSTi (dC, dI) R sz (woX2_coarse cI cZ a_t a_t_grams t_total t_grams) (woX2_coarse cI cZ a_t a_t_grams t_total t_grams)) 0 0 (va_A (woX2_coarse cI cZ a_t a_t_grams t_total t_grams) sz) := by
  refine Met.ofW (cc := cX2_coarse) (maxL := 3) (ret := (some .int)) (by decide) rfl ?_
  intro p e s m args below meth c s₁ B hml hv
  obtain ⟨rfl, hv⟩ := hv
  have hG := hg_of hv
  obtain ⟨hsz, hP, -, hD0, -⟩ := hv
  have hx := B.exec
  have hb := B.bytes
  have hr := B.returns
  have hlk := B.notSynchronized
  have hown : s.vm.findClass RX2 = some m.cls := findClass_of_methodNamed B.named
  have hD := hD0.self (sz := sz)
  have hS : va_S (va_A (woX2_coarse cI cZ a_t a_t_grams t_total t_grams) sz) s.heap s.heap [] := va_S.rf
  have L5 : ∀ (fu : Nat) (y1 : Int32) (y2 : Int32) (H : Heap) (locs : List Loc) (ls : Array Slot), f_X2_coarse_L5 t_total t_grams fu y1 y2 = some R → va_P (dC, dI) vwCl (woX2_coarse cI cZ a_t a_t_grams t_total t_grams) H → va_D (va_A (woX2_coarse cI cZ a_t a_t_grams t_total t_grams) sz) (woX2_coarse cI cZ a_t a_t_grams t_total t_grams) → va_S (va_A (woX2_coarse cI cZ a_t a_t_grams t_total t_grams) sz) s.heap H locs → lv_has ls 3 [(0, .ref a_t), (1, .int y1), (2, .int y2)] → W p l e (headSpec wyX2_coarse rmX2_coarse).room s m ([Value.ref a_t] : List Value).toArray below meth c H locs 0 0 (MQ below (POSTi (dC, dI) R sz (woX2_coarse cI cZ a_t a_t_grams t_total t_grams) (woX2_coarse cI cZ a_t a_t_grams t_total t_grams)) ([Value.ref a_t] : List Value).toArray s 0 0 (va_A (woX2_coarse cI cZ a_t a_t_grams t_total t_grams) sz)) (F0 m 5 ls []) := by
    intro  fu
    induction fu with
    | zero => intro y1 y2 H locs ls hf; cases hf
    | succ fu ih =>
      intro y1 y2 H locs ls hf hP hD hS hl
      rw [f_X2_coarse_L5] at hf
      refine lv_iload_n hx hb dX2_coarse_5 rfl (lv_at hl 2 rfl) ?_
      refine lv_bipush (v := 63) hx hb dX2_coarse_6 (by decide) ?_
      refine lv_icmp_gt (tgt := 25) hx hb dX2_coarse_8 (by decide) (fun c1 => ?_) (fun c1 => ?_)
      · have hf := (if_pos c1).symm.trans hf
        refine lv_sipush (v := 1000) hx hb dX2_coarse_25 (by decide) ?_
        refine lv_iload_n hx hb dX2_coarse_28 rfl (lv_at hl 1 rfl) ?_
        refine lv_imul hx hb dX2_coarse_29 ?_
        refine lv_aload_n hx hb dX2_coarse_30 rfl (lv_at hl 0 rfl) ?_
        refine mg (ci := 2) 0 1 hx hb hG igX2 hown hP rfl rfl (by decide) (wd_1_149 hG.2.1) rfl rfl dX2_coarse_31 ?_
        obtain ⟨r34, hc34, hf⟩ := bd1_some hf
        refine cl_Ni (r := r34) (As := [.int ((1000 : Int32) * y1), .int t_total]) (w1 := []) (wN := (woX2_coarse cI cZ a_t a_t_grams t_total t_grams)) [] 0 0 (c_X8_quotient l dC dI cI cZ ts _ ((1000 : Int32) * y1) t_total (r34) hc34) ⟨hx, hb, hml, hown, hG.2.1.hts _⟩ ⟨va_cnB 2 (hG.2.1.hts _) giX8_quotient rfl rfl rfl (va_Nw.of (A := #[]) rfl (wd_2_221 hG.2.1)) (wd_1_1 hG.2.1) hd_X8_quotient ⟨Nat.le_of_ble_eq_true rfl, Nat.le_of_ble_eq_true rfl⟩, wd_2_123 hG.2.1, trivial⟩ hG hP hD hS rfl rfl rfl rfl rfl hl.1 rfl (Nat.le_of_ble_eq_true rfl) dX2_coarse_34 ⟨Nat.zero_le _, Nat.zero_le _⟩ (fun H locs hP hD hS => ?_)
        have hR := Option.some.inj hf
        rw [← hR]
        exact rt_i hx hb hr hlk hsz hP hD hS rfl rfl dX2_coarse_37
      · have hf := (if_neg c1).symm.trans hf
        refine lv_iload_n hx hb dX2_coarse_11 rfl (lv_at hl 1 rfl) ?_
        refine lv_aload_n hx hb dX2_coarse_12 rfl (lv_at hl 0 rfl) ?_
        refine lv_iload_n hx hb dX2_coarse_13 rfl (lv_at hl 2 rfl) ?_
        obtain ⟨r14, hc14, hf⟩ := bd1_some hf
        refine cl_Vi (r := r14) (b := a_t) (As := [.int y2]) (w1 := (woX2_gramsOf cI cZ a_t a_t_grams t_total t_grams)) (wN := (woX2_coarse cI cZ a_t a_t_grams t_total t_grams)) [0, 1] 0 2 (c_X2_gramsOf l dC dI cI cZ ts _ a_t a_t_grams t_total t_grams y2 (r14) hc14) ⟨hx, hb, hml, hown, hG.2.1.hts _⟩ ⟨callB_of 1 (hG.2.1.hts _) giX2_gramsOf rfl rfl rfl (wd_1_8 hG.2.1) (wd_2_217 hG.2.1) hd_X2_gramsOf ⟨Nat.le_of_ble_eq_true rfl, Nat.le_of_ble_eq_true rfl⟩, wd_2_218 hG.2.1, wd_2_219 hG.2.1⟩ hG hP hD hS rfl rfl rfl rfl rfl rfl rfl rfl hl.1 rfl (Nat.le_of_ble_eq_true rfl) dX2_coarse_14 ⟨Nat.zero_le _, Nat.zero_le _⟩ (fun H locs hP hD hS => ?_)
        refine lv_iadd hx hb dX2_coarse_17 ?_
        refine lv_istore_n (lv' := [(1, .int (y1 + r14)), (0, .ref a_t), (2, .int y2)]) hx hb dX2_coarse_18 rfl hl (by decide) rfl (fun ls hl => ?_)
        refine lv_iinc (v := (y2 + (1 : Int32))) (lv' := [(2, .int (y2 + (1 : Int32))), (1, .int (y1 + r14)), (0, .ref a_t)]) hx hb dX2_coarse_19 hl (k := 2) rfl rfl (by decide) rfl (fun ls hl => ?_)
        refine lv_goto (tgt := 5) hx hb dX2_coarse_22 (by decide) ?_
        exact ih (y1 + r14) (y2 + (1 : Int32)) _ _ _ hf hP hD hS (lv_sub hl [2, 1, 0] rfl)
  have hl := lv_entry ([.ref a_t]) (n := 3) (Nat.le_of_ble_eq_true rfl)
  rw [lg_entry_eq]
  generalize (lg_sl ([.ref a_t]) ++ List.replicate (3 - (lg_sl ([.ref a_t])).length) Slot.unset).toArray = ls at hl ⊢
  have hl : lv_has ls 3 [(0, .ref a_t)] := hl
  unfold f_X2_coarse at hf
  refine lv_iconst (v := 0) hx hb dX2_coarse_0 (by decide) ?_
  refine lv_istore_n (lv' := [(1, .int (0 : Int32)), (0, .ref a_t)]) hx hb dX2_coarse_1 rfl hl (by decide) rfl (fun ls hl => ?_)
  refine lv_bipush (v := 30) hx hb dX2_coarse_2 (by decide) ?_
  refine lv_istore_n (lv' := [(2, .int (30 : Int32)), (1, .int (0 : Int32)), (0, .ref a_t)]) hx hb dX2_coarse_4 rfl hl (by decide) rfl (fun ls hl => ?_)
  exact L5 FU (0 : Int32) (30 : Int32) _ _ _ hf hP hD hS (lv_sub hl [2, 1, 0] rfl)
abbrev woX2_grow (cI cZ : ClassId) (a_t a_t_grams : Nat) (t_total : Int32) (t_grams : Nat → Int32) : va_W := [(a_t, .inr (2, [.ref a_t_grams, .int t_total])), (a_t_grams, .inl (cI, 64, .inl t_grams))]
abbrev rmX2_grow : Room := { frames := 2, cells := 0, slots := 0, locals := 44 }
theorem hd_X2_grow : yX2_grow.cls ≠ "java/lang/invoke/MethodHandle" ∧ yX2_grow.cls ≠ "java/lang/invoke/VarHandle" ∧ (parseMethodDescriptor yX2_grow.desc).map (fun d => d.parameters.length) = some 2 := by decide +kernel
set_option maxHeartbeats 4000000 in
set_option maxRecDepth 100000 in
theorem c_X2_grow (l : Launch) (dC : Nat → ClassId) (dI : Nat → Nat → Nat) (cI cZ : ClassId) (ts : Nat → Nat) (sz : Nat) (a_t a_t_grams : Nat) (t_total : Int32) (t_grams : Nat → Int32) (x1 : Int32) (x2 : Int32) (R : Int32 × (Nat → Int32)) (hf : f_X2_grow t_total t_grams x1 x2 = some R) : Met l yX2_grow wyX2_grow rmX2_grow (PRE (dC, dI) cI cZ ts [.ref a_t, .int x1, .int x2] sz (woX2_grow cI cZ a_t a_t_grams t_total t_grams)) (POSTv (dC, dI) sz (woX2_grow cI cZ a_t a_t_grams t_total t_grams) (woX2_grow cI cZ a_t a_t_grams R.1 R.2)) 0 0 (va_A (woX2_grow cI cZ a_t a_t_grams t_total t_grams) sz) := by
  refine Met.ofW (cc := cX2_grow) (maxL := 5) (ret := none) (by decide) rfl ?_
  intro p e s m args below meth c s₁ B hml hv
  obtain ⟨rfl, hv⟩ := hv
  have hG := hg_of hv
  obtain ⟨hsz, hP, -, hD0, -⟩ := hv
  have hx := B.exec
  have hb := B.bytes
  have hr := B.returns
  have hlk := B.notSynchronized
  have hown : s.vm.findClass RX2 = some m.cls := findClass_of_methodNamed B.named
  have hD := hD0.self (sz := sz)
  have hS : va_S (va_A (woX2_grow cI cZ a_t a_t_grams t_total t_grams) sz) s.heap s.heap [] := va_S.rf
  have L3 : ∀ (fu : Nat) (y1 : Int32) (y2 : Int32) (y3 : Int32) (v_t_total : Int32) (v_t_grams : Nat → Int32) (H : Heap) (locs : List Loc) (ls : Array Slot), f_X2_grow_L3 fu y1 y2 y3 v_t_total v_t_grams = some R → va_P (dC, dI) vwCl (woX2_grow cI cZ a_t a_t_grams v_t_total v_t_grams) H → va_D (va_A (woX2_grow cI cZ a_t a_t_grams t_total t_grams) sz) (woX2_grow cI cZ a_t a_t_grams v_t_total v_t_grams) → va_S (va_A (woX2_grow cI cZ a_t a_t_grams t_total t_grams) sz) s.heap H locs → lv_has ls 5 [(0, .ref a_t), (1, .int y1), (2, .int y2), (3, .int y3)] → W p l e (headSpec wyX2_grow rmX2_grow).room s m ([Value.ref a_t, Value.int x1, Value.int x2] : List Value).toArray below meth c H locs 0 0 (MQ below (POSTv (dC, dI) sz (woX2_grow cI cZ a_t a_t_grams t_total t_grams) (woX2_grow cI cZ a_t a_t_grams R.1 R.2)) ([Value.ref a_t, Value.int x1, Value.int x2] : List Value).toArray s 0 0 (va_A (woX2_grow cI cZ a_t a_t_grams t_total t_grams) sz)) (F0 m 3 ls []) := by
    intro  fu
    induction fu with
    | zero => intro y1 y2 y3 v_t_total v_t_grams H locs ls hf; cases hf
    | succ fu ih =>
      intro y1 y2 y3 v_t_total v_t_grams H locs ls hf hP hD hS hl
      rw [f_X2_grow_L3] at hf
      refine lv_iload_n hx hb dX2_grow_3 rfl (lv_at hl 3 rfl) ?_
      refine lv_bipush (v := 10) hx hb dX2_grow_4 (by decide) ?_
      refine lv_icmp_lt (tgt := 60) hx hb dX2_grow_6 (by decide) (fun c1 => ?_) (fun c1 => ?_)
      · have hf := (if_pos c1).symm.trans hf
        have hR := Option.some.inj hf
        rw [← hR]
        exact rt_v hx hb hr hlk hsz hP hD hS rfl dX2_grow_60
      · have hf := (if_neg c1).symm.trans hf
        refine lv_aload_n hx hb dX2_grow_9 rfl (lv_at hl 0 rfl) ?_
        refine lv_iload_n hx hb dX2_grow_10 rfl (lv_at hl 3 rfl) ?_
        obtain ⟨r11, hc11, hf⟩ := bd1_some hf
        refine cl_Vi (r := r11) (b := a_t) (As := [.int y3]) (w1 := (woX2_gramsOf cI cZ a_t a_t_grams v_t_total v_t_grams)) (wN := (woX2_grow cI cZ a_t a_t_grams v_t_total v_t_grams)) [0, 1] 0 2 (c_X2_gramsOf l dC dI cI cZ ts _ a_t a_t_grams v_t_total v_t_grams y3 (r11) hc11) ⟨hx, hb, hml, hown, hG.2.1.hts _⟩ ⟨callB_of 1 (hG.2.1.hts _) giX2_gramsOf rfl rfl rfl (wd_1_8 hG.2.1) (wd_2_217 hG.2.1) hd_X2_gramsOf ⟨Nat.le_of_ble_eq_true rfl, Nat.le_of_ble_eq_true rfl⟩, wd_2_218 hG.2.1, wd_2_219 hG.2.1⟩ hG hP hD hS rfl rfl rfl rfl rfl rfl rfl rfl hl.1 rfl (Nat.le_of_ble_eq_true rfl) dX2_grow_11 ⟨Nat.zero_le _, Nat.zero_le _⟩ (fun H locs hP hD hS => ?_)
        refine lv_iload_n hx hb dX2_grow_14 rfl (lv_at hl 1 rfl) ?_
        refine lv_imul hx hb dX2_grow_15 ?_
        refine lv_bipush (v := 10) hx hb dX2_grow_16 (by decide) ?_
        refine lv_iconst (v := 5) hx hb dX2_grow_18 (by decide) ?_
        refine lv_iload_n hx hb dX2_grow_19 rfl (lv_at hl 2 rfl) ?_
        refine lv_imul hx hb dX2_grow_20 ?_
        refine lv_iadd hx hb dX2_grow_21 ?_
        obtain ⟨r22, hc22, hf⟩ := bd1_some hf
        refine cl_Ni (r := r22) (As := [.int (r11 * y1), .int ((10 : Int32) + ((5 : Int32) * y2))]) (w1 := []) (wN := (woX2_grow cI cZ a_t a_t_grams v_t_total v_t_grams)) [] 0 0 (c_X8_quotient l dC dI cI cZ ts _ (r11 * y1) ((10 : Int32) + ((5 : Int32) * y2)) (r22) hc22) ⟨hx, hb, hml, hown, hG.2.1.hts _⟩ ⟨va_cnB 2 (hG.2.1.hts _) giX8_quotient rfl rfl rfl (va_Nw.of (A := #[]) rfl (wd_2_221 hG.2.1)) (wd_1_1 hG.2.1) hd_X8_quotient ⟨Nat.le_of_ble_eq_true rfl, Nat.le_of_ble_eq_true rfl⟩, wd_2_123 hG.2.1, trivial⟩ hG hP hD hS rfl rfl rfl rfl rfl hl.1 rfl (Nat.le_of_ble_eq_true rfl) dX2_grow_22 ⟨Nat.zero_le _, Nat.zero_le _⟩ (fun H locs hP hD hS => ?_)
        refine lv_istore (lv' := [(4, .int r22), (0, .ref a_t), (1, .int y1), (2, .int y2), (3, .int y3)]) hx hb dX2_grow_25 hl (by decide) rfl (fun ls hl => ?_)
        refine lv_aload_n hx hb dX2_grow_27 rfl (lv_at hl 1 rfl) ?_
        refine lv_iload_n hx hb dX2_grow_28 rfl (lv_at hl 4 rfl) ?_
        refine lv_iload hx hb dX2_grow_29 (lv_at hl 0 rfl) ?_
        refine lv_ineg hx hb dX2_grow_31 ?_
        obtain ⟨g32_0, g32_1, hc32, hf⟩ := bd2_some hf
        refine cl_Vv (b := a_t) (As := [.int y3, .int (-r22)]) (w1 := (woX2_add cI cZ a_t a_t_grams g32_0 g32_1)) (wN := (woX2_grow cI cZ a_t a_t_grams g32_0 g32_1)) [0, 1] 0 2 (c_X2_add l dC dI cI cZ ts _ a_t a_t_grams v_t_total v_t_grams y3 (-r22) (g32_0, g32_1) hc32) ⟨hx, hb, hml, hown, hG.2.1.hts _⟩ ⟨callB_of 2 (hG.2.1.hts _) giX2_add rfl rfl rfl (wd_1_8 hG.2.1) (wd_3_66 hG.2.1) hd_X2_add ⟨Nat.le_of_ble_eq_true rfl, Nat.le_of_ble_eq_true rfl⟩, wd_2_192 hG.2.1, wd_2_193 hG.2.1⟩ hG hP hD hS rfl rfl rfl rfl rfl rfl rfl rfl hl.1 rfl (Nat.le_of_ble_eq_true rfl) dX2_grow_32 ⟨Nat.zero_le _, Nat.zero_le _⟩ (fun H locs hP hD hS => ?_)
        refine lv_aload_n hx hb dX2_grow_35 rfl (lv_at hl 1 rfl) ?_
        refine lv_bipush (v := 63) hx hb dX2_grow_36 (by decide) ?_
        refine lv_iload_n hx hb dX2_grow_38 rfl (lv_at hl 4 rfl) ?_
        refine lv_iconst (v := 1) hx hb dX2_grow_39 (by decide) ?_
        refine lv_iadd hx hb dX2_grow_40 ?_
        refine lv_bipush (v := 100) hx hb dX2_grow_41 (by decide) ?_
        refine lv_iload_n hx hb dX2_grow_43 rfl (lv_at hl 4 rfl) ?_
        obtain ⟨g2, hf⟩ := gd_some hf
        refine lv_idiv hx hb dX2_grow_44 g2 ?_
        refine lv_iadd hx hb dX2_grow_45 ?_
        refine va_mmin hx hb (hml.trans hl.1.symm) hown (wd_3_67 hG.2.1) (wd_2_126 hG.2.1) (wd_1_11 hG.2.1) (wd_2_127 hG.2.1) (Nat.le_of_ble_eq_true rfl) (Nat.le_of_ble_eq_true rfl) (Nat.zero_le _) (Nat.zero_le _) dX2_grow_46 ?_
        refine lv_iload hx hb dX2_grow_49 (lv_at hl 0 rfl) ?_
        obtain ⟨g51_0, g51_1, hc51, hf⟩ := bd2_some hf
        refine cl_Vv (b := a_t) (As := [.int (if ((y3 + (1 : Int32)) + ((100 : Int32) / y3)) < (63 : Int32) then ((y3 + (1 : Int32)) + ((100 : Int32) / y3)) else (63 : Int32)), .int r22]) (w1 := (woX2_add cI cZ a_t a_t_grams g51_0 g51_1)) (wN := (woX2_grow cI cZ a_t a_t_grams g51_0 g51_1)) [0, 1] 0 2 (c_X2_add l dC dI cI cZ ts _ a_t a_t_grams g32_0 g32_1 (if ((y3 + (1 : Int32)) + ((100 : Int32) / y3)) < (63 : Int32) then ((y3 + (1 : Int32)) + ((100 : Int32) / y3)) else (63 : Int32)) r22 (g51_0, g51_1) hc51) ⟨hx, hb, hml, hown, hG.2.1.hts _⟩ ⟨callB_of 2 (hG.2.1.hts _) giX2_add rfl rfl rfl (wd_1_8 hG.2.1) (wd_3_66 hG.2.1) hd_X2_add ⟨Nat.le_of_ble_eq_true rfl, Nat.le_of_ble_eq_true rfl⟩, wd_2_192 hG.2.1, wd_2_193 hG.2.1⟩ hG hP hD hS rfl rfl rfl rfl rfl rfl rfl rfl hl.1 rfl (Nat.le_of_ble_eq_true rfl) dX2_grow_51 ⟨Nat.zero_le _, Nat.zero_le _⟩ (fun H locs hP hD hS => ?_)
        refine lv_iinc (v := (y3 + (-1 : Int32))) (lv' := [(3, .int (y3 + (-1 : Int32))), (4, .int r22), (0, .ref a_t), (1, .int y1), (2, .int y2)]) hx hb dX2_grow_54 hl (k := 4) rfl rfl (by decide) rfl (fun ls hl => ?_)
        refine lv_goto (tgt := 3) hx hb dX2_grow_57 (by decide) ?_
        exact ih y1 y2 (y3 + (-1 : Int32)) g51_0 g51_1 _ _ _ hf hP hD hS (lv_sub hl [2, 3, 4, 0] rfl)
  have hl := lv_entry ([.ref a_t, .int x1, .int x2]) (n := 5) (Nat.le_of_ble_eq_true rfl)
  rw [lg_entry_eq]
  generalize (lg_sl ([.ref a_t, .int x1, .int x2]) ++ List.replicate (5 - (lg_sl ([.ref a_t, .int x1, .int x2])).length) Slot.unset).toArray = ls at hl ⊢
  have hl : lv_has ls 5 [(0, .ref a_t), (1, .int x1), (2, .int x2)] := hl
  unfold f_X2_grow at hf
  refine lv_bipush (v := 63) hx hb dX2_grow_0 (by decide) ?_
  refine lv_istore_n (lv' := [(3, .int (63 : Int32)), (0, .ref a_t), (1, .int x1), (2, .int x2)]) hx hb dX2_grow_2 rfl hl (by decide) rfl (fun ls hl => ?_)
  exact L3 FU x1 x2 (63 : Int32) t_total t_grams _ _ _ hf hP hD hS (lv_sub hl [1, 2, 3, 0] rfl)
abbrev woX3_settle (cI cZ : ClassId) (a_t : Nat) (t_ice : Int32) (t_saltGrams : Int32) (t_brine : Int32) (t_cold : Int32) : va_W := [(a_t, .inr (3, [.int t_ice, .int t_saltGrams, .int t_brine, .int t_cold]))]
abbrev rmX3_settle : Room := { frames := 1, cells := 0, slots := 0, locals := 23 }
theorem hd_X3_settle : yX3_settle.cls ≠ "java/lang/invoke/MethodHandle" ∧ yX3_settle.cls ≠ "java/lang/invoke/VarHandle" ∧ (parseMethodDescriptor yX3_settle.desc).map (fun d => d.parameters.length) = some 0 := by decide +kernel
set_option maxHeartbeats 4000000 in
set_option maxRecDepth 100000 in
theorem c_X3_settle (l : Launch) (dC : Nat → ClassId) (dI : Nat → Nat → Nat) (cI cZ : ClassId) (ts : Nat → Nat) (sz : Nat) (a_t : Nat) (t_ice : Int32) (t_saltGrams : Int32) (t_brine : Int32) (t_cold : Int32) (R : Int32) (hf : f_X3_settle t_ice t_saltGrams t_brine t_cold = some R) : Met l yX3_settle wyX3_settle rmX3_settle (PRE (dC, dI) cI cZ ts [.ref a_t] sz (woX3_settle cI cZ a_t t_ice t_saltGrams t_brine t_cold)) (POSTv (dC, dI) sz (woX3_settle cI cZ a_t t_ice t_saltGrams t_brine t_cold) (woX3_settle cI cZ a_t t_ice t_saltGrams t_brine R)) 0 0 (va_A (woX3_settle cI cZ a_t t_ice t_saltGrams t_brine t_cold) sz) := by
  refine Met.ofW (cc := cX3_settle) (maxL := 1) (ret := none) (by decide) rfl ?_
  intro p e s m args below meth c s₁ B hml hv
  obtain ⟨rfl, hv⟩ := hv
  have hG := hg_of hv
  obtain ⟨hsz, hP, -, hD0, -⟩ := hv
  have hx := B.exec
  have hb := B.bytes
  have hr := B.returns
  have hlk := B.notSynchronized
  have hown : s.vm.findClass RX3 = some m.cls := findClass_of_methodNamed B.named
  have hD := hD0.self (sz := sz)
  have hS : va_S (va_A (woX3_settle cI cZ a_t t_ice t_saltGrams t_brine t_cold) sz) s.heap s.heap [] := va_S.rf
  have hl := lv_entry ([.ref a_t]) (n := 1) (Nat.le_of_ble_eq_true rfl)
  rw [lg_entry_eq]
  generalize (lg_sl ([.ref a_t]) ++ List.replicate (1 - (lg_sl ([.ref a_t])).length) Slot.unset).toArray = ls at hl ⊢
  have hl : lv_has ls 1 [(0, .ref a_t)] := hl
  unfold f_X3_settle at hf
  refine lv_aload_n hx hb dX3_settle_0 rfl (lv_at hl 0 rfl) ?_
  refine mg (ci := 3) 0 0 hx hb hG igX3 hown hP rfl rfl (by decide) (wd_1_119 hG.2.1) rfl rfl dX3_settle_1 ?_
  refine lv_if_le (tgt := 45) hx hb dX3_settle_4 (by decide) (fun c1 => ?_) (fun c1 => ?_)
  · have hf := (if_pos c1).symm.trans hf
    refine lv_aload_n hx hb dX3_settle_45 rfl (lv_at hl 0 rfl) ?_
    refine lv_iconst (v := 0) hx hb dX3_settle_46 (by decide) ?_
    refine lv_aload_n hx hb dX3_settle_47 rfl (lv_at hl 0 rfl) ?_
    refine mg (ci := 3) 0 3 hx hb hG igX3 hown hP rfl rfl (by decide) (wd_1_125 hG.2.1) rfl rfl dX3_settle_48 ?_
    refine lv_iconst (v := 5) hx hb dX3_settle_51 (by decide) ?_
    refine lv_isub hx hb dX3_settle_52 ?_
    refine va_mmax hx hb (hml.trans hl.1.symm) hown (wd_2_128 hG.2.1) (wd_2_129 hG.2.1) (wd_1_11 hG.2.1) (wd_2_130 hG.2.1) (Nat.le_of_ble_eq_true rfl) (Nat.le_of_ble_eq_true rfl) (Nat.zero_le _) (Nat.zero_le _) dX3_settle_53 ?_
    refine mp (ci := 3) (wN := (woX3_settle cI cZ a_t t_ice t_saltGrams t_brine (if (0 : Int32) < (t_cold - (5 : Int32)) then (t_cold - (5 : Int32)) else (0 : Int32)))) 0 3 hx hb hG igX3 tyX3 tyX3_ok nmX3 hown hP hD hS rfl rfl (by decide) (wd_1_125 hG.2.1) rfl rfl rfl rfl rfl (Nat.le_of_ble_eq_true rfl) rfl dX3_settle_56 (fun H locs hP hD hS => ?_)
    have hR := Option.some.inj hf
    rw [← hR]
    exact rt_v hx hb hr hlk hsz hP hD hS rfl dX3_settle_59
  · have hf := (if_neg c1).symm.trans hf
    refine lv_aload_n hx hb dX3_settle_7 rfl (lv_at hl 0 rfl) ?_
    refine lv_sipush (v := 210) hx hb dX3_settle_8 (by decide) ?_
    refine lv_sipush (v := 900) hx hb dX3_settle_11 (by decide) ?_
    refine lv_aload_n hx hb dX3_settle_14 rfl (lv_at hl 0 rfl) ?_
    refine mg (ci := 3) 0 1 hx hb hG igX3 hown hP rfl rfl (by decide) (wd_1_121 hG.2.1) rfl rfl dX3_settle_15 ?_
    refine lv_imul hx hb dX3_settle_18 ?_
    refine lv_aload_n hx hb dX3_settle_19 rfl (lv_at hl 0 rfl) ?_
    refine mg (ci := 3) 0 0 hx hb hG igX3 hown hP rfl rfl (by decide) (wd_1_119 hG.2.1) rfl rfl dX3_settle_20 ?_
    refine lv_aload_n hx hb dX3_settle_23 rfl (lv_at hl 0 rfl) ?_
    refine mg (ci := 3) 0 2 hx hb hG igX3 hown hP rfl rfl (by decide) (wd_1_123 hG.2.1) rfl rfl dX3_settle_24 ?_
    refine lv_iadd hx hb dX3_settle_27 ?_
    refine lv_aload_n hx hb dX3_settle_28 rfl (lv_at hl 0 rfl) ?_
    refine mg (ci := 3) 0 1 hx hb hG igX3 hown hP rfl rfl (by decide) (wd_1_121 hG.2.1) rfl rfl dX3_settle_29 ?_
    refine lv_iadd hx hb dX3_settle_32 ?_
    obtain ⟨r33, hc33, hf⟩ := bd1_some hf
    refine cl_Ni (r := r33) (As := [.int ((900 : Int32) * t_saltGrams), .int ((t_ice + t_brine) + t_saltGrams)]) (w1 := []) (wN := (woX3_settle cI cZ a_t t_ice t_saltGrams t_brine t_cold)) [] 0 0 (c_X8_quotient l dC dI cI cZ ts _ ((900 : Int32) * t_saltGrams) ((t_ice + t_brine) + t_saltGrams) (r33) hc33) ⟨hx, hb, hml, hown, hG.2.1.hts _⟩ ⟨va_cnB 2 (hG.2.1.hts _) giX8_quotient rfl rfl rfl (va_Nw.of (A := #[]) rfl (wd_2_122 hG.2.1)) (wd_1_1 hG.2.1) hd_X8_quotient ⟨Nat.le_of_ble_eq_true rfl, Nat.le_of_ble_eq_true rfl⟩, wd_2_123 hG.2.1, trivial⟩ hG hP hD hS rfl rfl rfl rfl rfl hl.1 rfl (Nat.le_of_ble_eq_true rfl) dX3_settle_33 ⟨Nat.zero_le _, Nat.zero_le _⟩ (fun H locs hP hD hS => ?_)
    refine va_mmin hx hb (hml.trans hl.1.symm) hown (wd_2_125 hG.2.1) (wd_2_126 hG.2.1) (wd_1_11 hG.2.1) (wd_2_127 hG.2.1) (Nat.le_of_ble_eq_true rfl) (Nat.le_of_ble_eq_true rfl) (Nat.zero_le _) (Nat.zero_le _) dX3_settle_36 ?_
    refine mp (ci := 3) (wN := (woX3_settle cI cZ a_t t_ice t_saltGrams t_brine (if r33 < (210 : Int32) then r33 else (210 : Int32)))) 0 3 hx hb hG igX3 tyX3 tyX3_ok nmX3 hown hP hD hS rfl rfl (by decide) (wd_1_125 hG.2.1) rfl rfl rfl rfl rfl (Nat.le_of_ble_eq_true rfl) rfl dX3_settle_39 (fun H locs hP hD hS => ?_)
    refine lv_goto (tgt := 59) hx hb dX3_settle_42 (by decide) ?_
    have hR := Option.some.inj hf
    rw [← hR]
    exact rt_v hx hb hr hlk hsz hP hD hS rfl dX3_settle_59
abbrev woX3_begin (cI cZ : ClassId) (a_t : Nat) (t_ice : Int32) (t_saltGrams : Int32) (t_brine : Int32) (t_cold : Int32) : va_W := [(a_t, .inr (3, [.int t_ice, .int t_saltGrams, .int t_brine, .int t_cold]))]
abbrev rmX3_begin : Room := { frames := 2, cells := 0, slots := 0, locals := 43 }
theorem hd_X3_begin : yX3_begin.cls ≠ "java/lang/invoke/MethodHandle" ∧ yX3_begin.cls ≠ "java/lang/invoke/VarHandle" ∧ (parseMethodDescriptor yX3_begin.desc).map (fun d => d.parameters.length) = some 2 := by decide +kernel
set_option maxHeartbeats 4000000 in
set_option maxRecDepth 100000 in
theorem c_X3_begin (l : Launch) (dC : Nat → ClassId) (dI : Nat → Nat → Nat) (cI cZ : ClassId) (ts : Nat → Nat) (sz : Nat) (a_t : Nat) (t_ice : Int32) (t_saltGrams : Int32) (t_brine : Int32) (t_cold : Int32) (x1 : Int32) (x2 : Int32) (R : Int32 × Int32 × Int32 × Int32) (hf : f_X3_begin t_ice t_saltGrams t_brine t_cold x1 x2 = some R) : Met l yX3_begin wyX3_begin rmX3_begin (PRE (dC, dI) cI cZ ts [.ref a_t, .int x1, .int x2] sz (woX3_begin cI cZ a_t t_ice t_saltGrams t_brine t_cold)) (POSTv (dC, dI) sz (woX3_begin cI cZ a_t t_ice t_saltGrams t_brine t_cold) (woX3_begin cI cZ a_t R.1 R.2.1 R.2.2.1 R.2.2.2)) 0 0 (va_A (woX3_begin cI cZ a_t t_ice t_saltGrams t_brine t_cold) sz) := by
  refine Met.ofW (cc := cX3_begin) (maxL := 3) (ret := none) (by decide) rfl ?_
  intro p e s m args below meth c s₁ B hml hv
  obtain ⟨rfl, hv⟩ := hv
  have hG := hg_of hv
  obtain ⟨hsz, hP, -, hD0, -⟩ := hv
  have hx := B.exec
  have hb := B.bytes
  have hr := B.returns
  have hlk := B.notSynchronized
  have hown : s.vm.findClass RX3 = some m.cls := findClass_of_methodNamed B.named
  have hD := hD0.self (sz := sz)
  have hS : va_S (va_A (woX3_begin cI cZ a_t t_ice t_saltGrams t_brine t_cold) sz) s.heap s.heap [] := va_S.rf
  have hl := lv_entry ([.ref a_t, .int x1, .int x2]) (n := 3) (Nat.le_of_ble_eq_true rfl)
  rw [lg_entry_eq]
  generalize (lg_sl ([.ref a_t, .int x1, .int x2]) ++ List.replicate (3 - (lg_sl ([.ref a_t, .int x1, .int x2])).length) Slot.unset).toArray = ls at hl ⊢
  have hl : lv_has ls 3 [(0, .ref a_t), (1, .int x1), (2, .int x2)] := hl
  unfold f_X3_begin at hf
  refine lv_aload_n hx hb dX3_begin_0 rfl (lv_at hl 0 rfl) ?_
  refine lv_iload_n hx hb dX3_begin_1 rfl (lv_at hl 1 rfl) ?_
  refine mp (ci := 3) (wN := (woX3_begin cI cZ a_t x1 t_saltGrams t_brine t_cold)) 0 0 hx hb hG igX3 tyX3 tyX3_ok nmX3 hown hP hD hS rfl rfl (by decide) (wd_1_119 hG.2.1) rfl rfl rfl rfl rfl (Nat.le_of_ble_eq_true rfl) rfl dX3_begin_2 (fun H locs hP hD hS => ?_)
  refine lv_aload_n hx hb dX3_begin_5 rfl (lv_at hl 0 rfl) ?_
  refine lv_iload_n hx hb dX3_begin_6 rfl (lv_at hl 2 rfl) ?_
  refine mp (ci := 3) (wN := (woX3_begin cI cZ a_t x1 x2 t_brine t_cold)) 0 1 hx hb hG igX3 tyX3 tyX3_ok nmX3 hown hP hD hS rfl rfl (by decide) (wd_1_121 hG.2.1) rfl rfl rfl rfl rfl (Nat.le_of_ble_eq_true rfl) rfl dX3_begin_7 (fun H locs hP hD hS => ?_)
  refine lv_aload_n hx hb dX3_begin_10 rfl (lv_at hl 0 rfl) ?_
  refine lv_iconst (v := 0) hx hb dX3_begin_11 (by decide) ?_
  refine mp (ci := 3) (wN := (woX3_begin cI cZ a_t x1 x2 (0 : Int32) t_cold)) 0 2 hx hb hG igX3 tyX3 tyX3_ok nmX3 hown hP hD hS rfl rfl (by decide) (wd_1_123 hG.2.1) rfl rfl rfl rfl rfl (Nat.le_of_ble_eq_true rfl) rfl dX3_begin_12 (fun H locs hP hD hS => ?_)
  refine lv_aload_n hx hb dX3_begin_15 rfl (lv_at hl 0 rfl) ?_
  refine lv_iconst (v := 0) hx hb dX3_begin_16 (by decide) ?_
  refine mp (ci := 3) (wN := (woX3_begin cI cZ a_t x1 x2 (0 : Int32) (0 : Int32))) 0 3 hx hb hG igX3 tyX3 tyX3_ok nmX3 hown hP hD hS rfl rfl (by decide) (wd_1_125 hG.2.1) rfl rfl rfl rfl rfl (Nat.le_of_ble_eq_true rfl) rfl dX3_begin_17 (fun H locs hP hD hS => ?_)
  refine lv_aload_n hx hb dX3_begin_20 rfl (lv_at hl 0 rfl) ?_
  obtain ⟨g21_0, hc21, hf⟩ := bd1_some hf
  refine cl_Vv (b := a_t) (As := []) (w1 := (woX3_settle cI cZ a_t x1 x2 (0 : Int32) g21_0)) (wN := (woX3_begin cI cZ a_t x1 x2 (0 : Int32) g21_0)) [0] 0 3 (c_X3_settle l dC dI cI cZ ts _ a_t x1 x2 (0 : Int32) (0 : Int32) (g21_0) hc21) ⟨hx, hb, hml, hown, hG.2.1.hts _⟩ ⟨callB_of 0 (hG.2.1.hts _) giX3_settle rfl rfl rfl (wd_1_6 hG.2.1) (wd_2_118 hG.2.1) hd_X3_settle ⟨Nat.le_of_ble_eq_true rfl, Nat.le_of_ble_eq_true rfl⟩, wd_2_119 hG.2.1, wd_2_120 hG.2.1⟩ hG hP hD hS rfl rfl rfl rfl rfl rfl rfl rfl hl.1 rfl (Nat.le_of_ble_eq_true rfl) dX3_begin_21 ⟨Nat.zero_le _, Nat.zero_le _⟩ (fun H locs hP hD hS => ?_)
  have hR := Option.some.inj hf
  rw [← hR]
  exact rt_v hx hb hr hlk hsz hP hD hS rfl dX3_begin_24
abbrev woX3_melt (cI cZ : ClassId) (a_t : Nat) (t_ice : Int32) (t_saltGrams : Int32) (t_brine : Int32) (t_cold : Int32) : va_W := [(a_t, .inr (3, [.int t_ice, .int t_saltGrams, .int t_brine, .int t_cold]))]
abbrev rmX3_melt : Room := { frames := 1, cells := 0, slots := 0, locals := 23 }
theorem hd_X3_melt : yX3_melt.cls ≠ "java/lang/invoke/MethodHandle" ∧ yX3_melt.cls ≠ "java/lang/invoke/VarHandle" ∧ (parseMethodDescriptor yX3_melt.desc).map (fun d => d.parameters.length) = some 1 := by decide +kernel
set_option maxHeartbeats 4000000 in
set_option maxRecDepth 100000 in
theorem c_X3_melt (l : Launch) (dC : Nat → ClassId) (dI : Nat → Nat → Nat) (cI cZ : ClassId) (ts : Nat → Nat) (sz : Nat) (a_t : Nat) (t_ice : Int32) (t_saltGrams : Int32) (t_brine : Int32) (t_cold : Int32) (x1 : Int32) (R : Int32 × Int32) (hf : f_X3_melt t_ice t_brine x1 = some R) : Met l yX3_melt wyX3_melt rmX3_melt (PRE (dC, dI) cI cZ ts [.ref a_t, .int x1] sz (woX3_melt cI cZ a_t t_ice t_saltGrams t_brine t_cold)) (POSTv (dC, dI) sz (woX3_melt cI cZ a_t t_ice t_saltGrams t_brine t_cold) (woX3_melt cI cZ a_t R.1 t_saltGrams R.2 t_cold)) 0 0 (va_A (woX3_melt cI cZ a_t t_ice t_saltGrams t_brine t_cold) sz) := by
  refine Met.ofW (cc := cX3_melt) (maxL := 3) (ret := none) (by decide) rfl ?_
  intro p e s m args below meth c s₁ B hml hv
  obtain ⟨rfl, hv⟩ := hv
  have hG := hg_of hv
  obtain ⟨hsz, hP, -, hD0, -⟩ := hv
  have hx := B.exec
  have hb := B.bytes
  have hr := B.returns
  have hlk := B.notSynchronized
  have hown : s.vm.findClass RX3 = some m.cls := findClass_of_methodNamed B.named
  have hD := hD0.self (sz := sz)
  have hS : va_S (va_A (woX3_melt cI cZ a_t t_ice t_saltGrams t_brine t_cold) sz) s.heap s.heap [] := va_S.rf
  have hl := lv_entry ([.ref a_t, .int x1]) (n := 3) (Nat.le_of_ble_eq_true rfl)
  rw [lg_entry_eq]
  generalize (lg_sl ([.ref a_t, .int x1]) ++ List.replicate (3 - (lg_sl ([.ref a_t, .int x1])).length) Slot.unset).toArray = ls at hl ⊢
  have hl : lv_has ls 3 [(0, .ref a_t), (1, .int x1)] := hl
  unfold f_X3_melt at hf
  refine lv_aload_n hx hb dX3_melt_0 rfl (lv_at hl 0 rfl) ?_
  refine mg (ci := 3) 0 0 hx hb hG igX3 hown hP rfl rfl (by decide) (wd_1_119 hG.2.1) rfl rfl dX3_melt_1 ?_
  refine lv_iload_n hx hb dX3_melt_4 rfl (lv_at hl 1 rfl) ?_
  refine lv_bipush (v := 80) hx hb dX3_melt_5 (by decide) ?_
  refine lv_idiv hx hb dX3_melt_7 (by decide) ?_
  refine lv_iconst (v := 3) hx hb dX3_melt_8 (by decide) ?_
  refine lv_iadd hx hb dX3_melt_9 ?_
  refine va_mmin hx hb (hml.trans hl.1.symm) hown (wd_2_125 hG.2.1) (wd_2_126 hG.2.1) (wd_1_11 hG.2.1) (wd_2_127 hG.2.1) (Nat.le_of_ble_eq_true rfl) (Nat.le_of_ble_eq_true rfl) (Nat.zero_le _) (Nat.zero_le _) dX3_melt_10 ?_
  refine lv_istore_n (lv' := [(2, .int (if ((x1 / (80 : Int32)) + (3 : Int32)) < t_ice then ((x1 / (80 : Int32)) + (3 : Int32)) else t_ice)), (0, .ref a_t), (1, .int x1)]) hx hb dX3_melt_13 rfl hl (by decide) rfl (fun ls hl => ?_)
  refine lv_aload_n hx hb dX3_melt_14 rfl (lv_at hl 1 rfl) ?_
  refine lv_dup hx hb dX3_melt_15 rfl ?_
  refine mg (ci := 3) 0 0 hx hb hG igX3 hown hP rfl rfl (by decide) (wd_1_119 hG.2.1) rfl rfl dX3_melt_16 ?_
  refine lv_iload_n hx hb dX3_melt_19 rfl (lv_at hl 0 rfl) ?_
  refine lv_isub hx hb dX3_melt_20 ?_
  refine mp (ci := 3) (wN := (woX3_melt cI cZ a_t (t_ice - (if ((x1 / (80 : Int32)) + (3 : Int32)) < t_ice then ((x1 / (80 : Int32)) + (3 : Int32)) else t_ice)) t_saltGrams t_brine t_cold)) 0 0 hx hb hG igX3 tyX3 tyX3_ok nmX3 hown hP hD hS rfl rfl (by decide) (wd_1_119 hG.2.1) rfl rfl rfl rfl rfl (Nat.le_of_ble_eq_true rfl) rfl dX3_melt_21 (fun H locs hP hD hS => ?_)
  refine lv_aload_n hx hb dX3_melt_24 rfl (lv_at hl 1 rfl) ?_
  refine lv_dup hx hb dX3_melt_25 rfl ?_
  refine mg (ci := 3) 0 2 hx hb hG igX3 hown hP rfl rfl (by decide) (wd_1_123 hG.2.1) rfl rfl dX3_melt_26 ?_
  refine lv_iload_n hx hb dX3_melt_29 rfl (lv_at hl 0 rfl) ?_
  refine lv_iadd hx hb dX3_melt_30 ?_
  refine mp (ci := 3) (wN := (woX3_melt cI cZ a_t (t_ice - (if ((x1 / (80 : Int32)) + (3 : Int32)) < t_ice then ((x1 / (80 : Int32)) + (3 : Int32)) else t_ice)) t_saltGrams (t_brine + (if ((x1 / (80 : Int32)) + (3 : Int32)) < t_ice then ((x1 / (80 : Int32)) + (3 : Int32)) else t_ice)) t_cold)) 0 2 hx hb hG igX3 tyX3 tyX3_ok nmX3 hown hP hD hS rfl rfl (by decide) (wd_1_123 hG.2.1) rfl rfl rfl rfl rfl (Nat.le_of_ble_eq_true rfl) rfl dX3_melt_31 (fun H locs hP hD hS => ?_)
  have hR := Option.some.inj hf
  rw [← hR]
  exact rt_v hx hb hr hlk hsz hP hD hS rfl dX3_melt_34
abbrev woX8_copyRow (cI cZ : ClassId) (a_b0 a_b1 : Nat) (n0 : Nat) (n1 : Nat) (b0 : Nat → Int32) (b1 : Nat → Int32) : va_W := [(a_b0, .inl (cI, n0, .inl b0)), (a_b1, .inl (cI, n1, .inl b1))]
abbrev rmX8_copyRow : Room := { frames := 0, cells := 0, slots := 0, locals := 0 }
theorem hd_X8_copyRow : yX8_copyRow.cls ≠ "java/lang/invoke/MethodHandle" ∧ yX8_copyRow.cls ≠ "java/lang/invoke/VarHandle" ∧ (parseMethodDescriptor yX8_copyRow.desc).map (fun d => d.parameters.length) = some 2 := by decide +kernel
set_option maxHeartbeats 4000000 in
set_option maxRecDepth 100000 in
theorem c_X8_copyRow (l : Launch) (dC : Nat → ClassId) (dI : Nat → Nat → Nat) (cI cZ : ClassId) (ts : Nat → Nat) (sz : Nat) (a_b0 a_b1 : Nat) (n0 : Nat) (n1 : Nat) (b0 : Nat → Int32) (b1 : Nat → Int32) (R : (Nat → Int32)) (hf : f_X8_copyRow n0 n1 b0 b1 = some R) : Met l yX8_copyRow wyX8_copyRow rmX8_copyRow (PRE (dC, dI) cI cZ ts [.ref a_b0, .ref a_b1] sz (woX8_copyRow cI cZ a_b0 a_b1 n0 n1 b0 b1)) (POSTv (dC, dI) sz (woX8_copyRow cI cZ a_b0 a_b1 n0 n1 b0 b1) (woX8_copyRow cI cZ a_b0 a_b1 n0 n1 b0 R)) 0 0 (va_A (woX8_copyRow cI cZ a_b0 a_b1 n0 n1 b0 b1) sz) := by
  refine Met.ofW (cc := cX8_copyRow) (maxL := 3) (ret := none) (by decide) rfl ?_
  intro p e s m args below meth c s₁ B hml hv
  obtain ⟨rfl, hv⟩ := hv
  have hG := hg_of hv
  obtain ⟨hsz, hP, -, hD0, -⟩ := hv
  have hx := B.exec
  have hb := B.bytes
  have hr := B.returns
  have hlk := B.notSynchronized
  have hown : s.vm.findClass RX8 = some m.cls := findClass_of_methodNamed B.named
  have hD := hD0.self (sz := sz)
  have hS : va_S (va_A (woX8_copyRow cI cZ a_b0 a_b1 n0 n1 b0 b1) sz) s.heap s.heap [] := va_S.rf
  have L2 : ∀ (fu : Nat) (y2 : Int32) (v_b1 : Nat → Int32) (H : Heap) (locs : List Loc) (ls : Array Slot), f_X8_copyRow_L2 n0 n1 b0 fu y2 v_b1 = some R → va_P (dC, dI) vwCl (woX8_copyRow cI cZ a_b0 a_b1 n0 n1 b0 v_b1) H → va_D (va_A (woX8_copyRow cI cZ a_b0 a_b1 n0 n1 b0 b1) sz) (woX8_copyRow cI cZ a_b0 a_b1 n0 n1 b0 v_b1) → va_S (va_A (woX8_copyRow cI cZ a_b0 a_b1 n0 n1 b0 b1) sz) s.heap H locs → lv_has ls 3 [(0, .ref a_b0), (1, .ref a_b1), (2, .int y2)] → W p l e (headSpec wyX8_copyRow rmX8_copyRow).room s m ([Value.ref a_b0, Value.ref a_b1] : List Value).toArray below meth c H locs 0 0 (MQ below (POSTv (dC, dI) sz (woX8_copyRow cI cZ a_b0 a_b1 n0 n1 b0 b1) (woX8_copyRow cI cZ a_b0 a_b1 n0 n1 b0 R)) ([Value.ref a_b0, Value.ref a_b1] : List Value).toArray s 0 0 (va_A (woX8_copyRow cI cZ a_b0 a_b1 n0 n1 b0 b1) sz)) (F0 m 2 ls []) := by
    intro  fu
    induction fu with
    | zero => intro y2 v_b1 H locs ls hf; cases hf
    | succ fu ih =>
      intro y2 v_b1 H locs ls hf hP hD hS hl
      rw [f_X8_copyRow_L2] at hf
      refine lv_iload_n hx hb dX8_copyRow_2 rfl (lv_at hl 2 rfl) ?_
      refine lv_aload_n hx hb dX8_copyRow_3 rfl (lv_at hl 0 rfl) ?_
      refine maln 0 0 hx hb hG hP rfl rfl (v := (Int32.ofNat n0)) rfl dX8_copyRow_4 ?_
      refine lv_icmp_ge (tgt := 26) hx hb dX8_copyRow_5 (by decide) (fun c1 => ?_) (fun c1 => ?_)
      · have hf := (if_pos c1).symm.trans hf
        have hR := Option.some.inj hf
        rw [← hR]
        exact rt_v hx hb hr hlk hsz hP hD hS rfl dX8_copyRow_26
      · have hf := (if_neg c1).symm.trans hf
        refine lv_iload_n hx hb dX8_copyRow_8 rfl (lv_at hl 2 rfl) ?_
        refine lv_aload_n hx hb dX8_copyRow_9 rfl (lv_at hl 1 rfl) ?_
        refine maln 1 0 hx hb hG hP rfl rfl (v := (Int32.ofNat n1)) rfl dX8_copyRow_10 ?_
        refine lv_icmp_ge (tgt := 26) hx hb dX8_copyRow_11 (by decide) (fun c2 => ?_) (fun c2 => ?_)
        · have hf := (if_pos c2).symm.trans hf
          have hR := Option.some.inj hf
          rw [← hR]
          exact rt_v hx hb hr hlk hsz hP hD hS rfl dX8_copyRow_26
        · have hf := (if_neg c2).symm.trans hf
          refine lv_aload_n hx hb dX8_copyRow_14 rfl (lv_at hl 1 rfl) ?_
          refine lv_iload_n hx hb dX8_copyRow_15 rfl (lv_at hl 2 rfl) ?_
          refine lv_aload_n hx hb dX8_copyRow_16 rfl (lv_at hl 0 rfl) ?_
          refine lv_iload_n hx hb dX8_copyRow_17 rfl (lv_at hl 2 rfl) ?_
          obtain ⟨g3, hf⟩ := gd_some hf
          refine mal 0 hx hb hG hP rfl g3 dX8_copyRow_18 ?_
          obtain ⟨g4, hf⟩ := gd_some hf
          refine mas (wN := (woX8_copyRow cI cZ a_b0 a_b1 n0 n1 b0 (upd v_b1 (y2).toNatClampNeg (b0 (y2).toNatClampNeg)))) 1 hx hb hG hP hD hS rfl g4 rfl dX8_copyRow_19 (fun H locs hP hD hS => ?_)
          refine lv_iinc (v := (y2 + (1 : Int32))) (lv' := [(2, .int (y2 + (1 : Int32))), (0, .ref a_b0), (1, .ref a_b1)]) hx hb dX8_copyRow_20 hl (k := 2) rfl rfl (by decide) rfl (fun ls hl => ?_)
          refine lv_goto (tgt := 2) hx hb dX8_copyRow_23 (by decide) ?_
          exact ih (y2 + (1 : Int32)) (upd v_b1 (y2).toNatClampNeg (b0 (y2).toNatClampNeg)) _ _ _ hf hP hD hS (lv_sub hl [1, 2, 0] rfl)
  have hl := lv_entry ([.ref a_b0, .ref a_b1]) (n := 3) (Nat.le_of_ble_eq_true rfl)
  rw [lg_entry_eq]
  generalize (lg_sl ([.ref a_b0, .ref a_b1]) ++ List.replicate (3 - (lg_sl ([.ref a_b0, .ref a_b1])).length) Slot.unset).toArray = ls at hl ⊢
  have hl : lv_has ls 3 [(0, .ref a_b0), (1, .ref a_b1)] := hl
  unfold f_X8_copyRow at hf
  refine lv_iconst (v := 0) hx hb dX8_copyRow_0 (by decide) ?_
  refine lv_istore_n (lv' := [(2, .int (0 : Int32)), (0, .ref a_b0), (1, .ref a_b1)]) hx hb dX8_copyRow_1 rfl hl (by decide) rfl (fun ls hl => ?_)
  exact L2 FU (0 : Int32) b1 _ _ _ hf hP hD hS (lv_sub hl [1, 2, 0] rfl)
abbrev woX7_copyFrom (cI cZ : ClassId) (a_t a_t_who a_t_amount a_t_length a_o1 a_o1_who a_o1_amount a_o1_length : Nat) (t_parts : Int32) (t_minutes : Int32) (t_who : Nat → Int32) (t_amount : Nat → Int32) (t_length : Nat → Int32) (o1_parts : Int32) (o1_minutes : Int32) (o1_who : Nat → Int32) (o1_amount : Nat → Int32) (o1_length : Nat → Int32) : va_W := [(a_t, .inr (7, [.ref a_t_who, .ref a_t_amount, .ref a_t_length, .int t_parts, .int t_minutes])), (a_t_who, .inl (cI, 20, .inl t_who)), (a_t_amount, .inl (cI, 20, .inl t_amount)), (a_t_length, .inl (cI, 20, .inl t_length)), (a_o1, .inr (7, [.ref a_o1_who, .ref a_o1_amount, .ref a_o1_length, .int o1_parts, .int o1_minutes])), (a_o1_who, .inl (cI, 20, .inl o1_who)), (a_o1_amount, .inl (cI, 20, .inl o1_amount)), (a_o1_length, .inl (cI, 20, .inl o1_length))]
abbrev rmX7_copyFrom : Room := { frames := 1, cells := 0, slots := 0, locals := 22 }
theorem hd_X7_copyFrom : yX7_copyFrom.cls ≠ "java/lang/invoke/MethodHandle" ∧ yX7_copyFrom.cls ≠ "java/lang/invoke/VarHandle" ∧ (parseMethodDescriptor yX7_copyFrom.desc).map (fun d => d.parameters.length) = some 1 := by decide +kernel
set_option maxHeartbeats 4000000 in
set_option maxRecDepth 100000 in
theorem c_X7_copyFrom (l : Launch) (dC : Nat → ClassId) (dI : Nat → Nat → Nat) (cI cZ : ClassId) (ts : Nat → Nat) (sz : Nat) (a_t a_t_who a_t_amount a_t_length a_o1 a_o1_who a_o1_amount a_o1_length : Nat) (t_parts : Int32) (t_minutes : Int32) (t_who : Nat → Int32) (t_amount : Nat → Int32) (t_length : Nat → Int32) (o1_parts : Int32) (o1_minutes : Int32) (o1_who : Nat → Int32) (o1_amount : Nat → Int32) (o1_length : Nat → Int32) (R : Int32 × Int32 × (Nat → Int32) × (Nat → Int32) × (Nat → Int32)) (hf : f_X7_copyFrom t_parts t_minutes t_who t_amount t_length o1_parts o1_minutes o1_who o1_amount o1_length = some R) : Met l yX7_copyFrom wyX7_copyFrom rmX7_copyFrom (PRE (dC, dI) cI cZ ts [.ref a_t, .ref a_o1] sz (woX7_copyFrom cI cZ a_t a_t_who a_t_amount a_t_length a_o1 a_o1_who a_o1_amount a_o1_length t_parts t_minutes t_who t_amount t_length o1_parts o1_minutes o1_who o1_amount o1_length)) (POSTv (dC, dI) sz (woX7_copyFrom cI cZ a_t a_t_who a_t_amount a_t_length a_o1 a_o1_who a_o1_amount a_o1_length t_parts t_minutes t_who t_amount t_length o1_parts o1_minutes o1_who o1_amount o1_length) (woX7_copyFrom cI cZ a_t a_t_who a_t_amount a_t_length a_o1 a_o1_who a_o1_amount a_o1_length R.1 R.2.1 R.2.2.1 R.2.2.2.1 R.2.2.2.2 o1_parts o1_minutes o1_who o1_amount o1_length)) 0 0 (va_A (woX7_copyFrom cI cZ a_t a_t_who a_t_amount a_t_length a_o1 a_o1_who a_o1_amount a_o1_length t_parts t_minutes t_who t_amount t_length o1_parts o1_minutes o1_who o1_amount o1_length) sz) := by
  refine Met.ofW (cc := cX7_copyFrom) (maxL := 2) (ret := none) (by decide) rfl ?_
  intro p e s m args below meth c s₁ B hml hv
  obtain ⟨rfl, hv⟩ := hv
  have hG := hg_of hv
  obtain ⟨hsz, hP, -, hD0, -⟩ := hv
  have hx := B.exec
  have hb := B.bytes
  have hr := B.returns
  have hlk := B.notSynchronized
  have hown : s.vm.findClass RX7 = some m.cls := findClass_of_methodNamed B.named
  have hD := hD0.self (sz := sz)
  have hS : va_S (va_A (woX7_copyFrom cI cZ a_t a_t_who a_t_amount a_t_length a_o1 a_o1_who a_o1_amount a_o1_length t_parts t_minutes t_who t_amount t_length o1_parts o1_minutes o1_who o1_amount o1_length) sz) s.heap s.heap [] := va_S.rf
  have hl := lv_entry ([.ref a_t, .ref a_o1]) (n := 2) (Nat.le_of_ble_eq_true rfl)
  rw [lg_entry_eq]
  generalize (lg_sl ([.ref a_t, .ref a_o1]) ++ List.replicate (2 - (lg_sl ([.ref a_t, .ref a_o1])).length) Slot.unset).toArray = ls at hl ⊢
  have hl : lv_has ls 2 [(0, .ref a_t), (1, .ref a_o1)] := hl
  unfold f_X7_copyFrom at hf
  refine lv_aload_n hx hb dX7_copyFrom_0 rfl (lv_at hl 1 rfl) ?_
  refine mg (ci := 7) 4 0 hx hb hG igX7 hown hP rfl rfl (by decide) (wd_1_59 hG.2.1) rfl rfl dX7_copyFrom_1 ?_
  refine lv_aload_n hx hb dX7_copyFrom_4 rfl (lv_at hl 0 rfl) ?_
  refine mg (ci := 7) 0 0 hx hb hG igX7 hown hP rfl rfl (by decide) (wd_1_59 hG.2.1) rfl rfl dX7_copyFrom_5 ?_
  obtain ⟨g8_0, hc8, hf⟩ := bd1_some hf
  refine cl_Nv (As := [.ref a_o1_who, .ref a_t_who]) (w1 := (woX8_copyRow cI cZ a_o1_who a_t_who 20 20 o1_who g8_0)) (wN := (woX7_copyFrom cI cZ a_t a_t_who a_t_amount a_t_length a_o1 a_o1_who a_o1_amount a_o1_length t_parts t_minutes g8_0 t_amount t_length o1_parts o1_minutes o1_who o1_amount o1_length)) [5, 1] 0 0 (c_X8_copyRow l dC dI cI cZ ts _ a_o1_who a_t_who 20 20 o1_who t_who (g8_0) hc8) ⟨hx, hb, hml, hown, hG.2.1.hts _⟩ ⟨va_cnB 2 (hG.2.1.hts _) giX8_copyRow rfl rfl rfl (va_Nw.of (A := #[]) rfl (wd_3_116 hG.2.1)) (wd_1_1 hG.2.1) hd_X8_copyRow ⟨Nat.le_of_ble_eq_true rfl, Nat.le_of_ble_eq_true rfl⟩, wd_3_47 hG.2.1, trivial⟩ hG hP hD hS rfl rfl rfl rfl rfl hl.1 rfl (Nat.le_of_ble_eq_true rfl) dX7_copyFrom_8 ⟨Nat.zero_le _, Nat.zero_le _⟩ (fun H locs hP hD hS => ?_)
  refine lv_aload_n hx hb dX7_copyFrom_11 rfl (lv_at hl 1 rfl) ?_
  refine mg (ci := 7) 4 1 hx hb hG igX7 hown hP rfl rfl (by decide) (wd_1_61 hG.2.1) rfl rfl dX7_copyFrom_12 ?_
  refine lv_aload_n hx hb dX7_copyFrom_15 rfl (lv_at hl 0 rfl) ?_
  refine mg (ci := 7) 0 1 hx hb hG igX7 hown hP rfl rfl (by decide) (wd_1_61 hG.2.1) rfl rfl dX7_copyFrom_16 ?_
  obtain ⟨g19_0, hc19, hf⟩ := bd1_some hf
  refine cl_Nv (As := [.ref a_o1_amount, .ref a_t_amount]) (w1 := (woX8_copyRow cI cZ a_o1_amount a_t_amount 20 20 o1_amount g19_0)) (wN := (woX7_copyFrom cI cZ a_t a_t_who a_t_amount a_t_length a_o1 a_o1_who a_o1_amount a_o1_length t_parts t_minutes g8_0 g19_0 t_length o1_parts o1_minutes o1_who o1_amount o1_length)) [6, 2] 0 0 (c_X8_copyRow l dC dI cI cZ ts _ a_o1_amount a_t_amount 20 20 o1_amount t_amount (g19_0) hc19) ⟨hx, hb, hml, hown, hG.2.1.hts _⟩ ⟨va_cnB 2 (hG.2.1.hts _) giX8_copyRow rfl rfl rfl (va_Nw.of (A := #[]) rfl (wd_3_116 hG.2.1)) (wd_1_1 hG.2.1) hd_X8_copyRow ⟨Nat.le_of_ble_eq_true rfl, Nat.le_of_ble_eq_true rfl⟩, wd_3_47 hG.2.1, trivial⟩ hG hP hD hS rfl rfl rfl rfl rfl hl.1 rfl (Nat.le_of_ble_eq_true rfl) dX7_copyFrom_19 ⟨Nat.zero_le _, Nat.zero_le _⟩ (fun H locs hP hD hS => ?_)
  refine lv_aload_n hx hb dX7_copyFrom_22 rfl (lv_at hl 1 rfl) ?_
  refine mg (ci := 7) 4 2 hx hb hG igX7 hown hP rfl rfl (by decide) (wd_1_63 hG.2.1) rfl rfl dX7_copyFrom_23 ?_
  refine lv_aload_n hx hb dX7_copyFrom_26 rfl (lv_at hl 0 rfl) ?_
  refine mg (ci := 7) 0 2 hx hb hG igX7 hown hP rfl rfl (by decide) (wd_1_63 hG.2.1) rfl rfl dX7_copyFrom_27 ?_
  obtain ⟨g30_0, hc30, hf⟩ := bd1_some hf
  refine cl_Nv (As := [.ref a_o1_length, .ref a_t_length]) (w1 := (woX8_copyRow cI cZ a_o1_length a_t_length 20 20 o1_length g30_0)) (wN := (woX7_copyFrom cI cZ a_t a_t_who a_t_amount a_t_length a_o1 a_o1_who a_o1_amount a_o1_length t_parts t_minutes g8_0 g19_0 g30_0 o1_parts o1_minutes o1_who o1_amount o1_length)) [7, 3] 0 0 (c_X8_copyRow l dC dI cI cZ ts _ a_o1_length a_t_length 20 20 o1_length t_length (g30_0) hc30) ⟨hx, hb, hml, hown, hG.2.1.hts _⟩ ⟨va_cnB 2 (hG.2.1.hts _) giX8_copyRow rfl rfl rfl (va_Nw.of (A := #[]) rfl (wd_3_116 hG.2.1)) (wd_1_1 hG.2.1) hd_X8_copyRow ⟨Nat.le_of_ble_eq_true rfl, Nat.le_of_ble_eq_true rfl⟩, wd_3_47 hG.2.1, trivial⟩ hG hP hD hS rfl rfl rfl rfl rfl hl.1 rfl (Nat.le_of_ble_eq_true rfl) dX7_copyFrom_30 ⟨Nat.zero_le _, Nat.zero_le _⟩ (fun H locs hP hD hS => ?_)
  refine lv_aload_n hx hb dX7_copyFrom_33 rfl (lv_at hl 0 rfl) ?_
  refine lv_aload_n hx hb dX7_copyFrom_34 rfl (lv_at hl 1 rfl) ?_
  refine mg (ci := 7) 4 3 hx hb hG igX7 hown hP rfl rfl (by decide) (wd_1_65 hG.2.1) rfl rfl dX7_copyFrom_35 ?_
  refine mp (ci := 7) (wN := (woX7_copyFrom cI cZ a_t a_t_who a_t_amount a_t_length a_o1 a_o1_who a_o1_amount a_o1_length o1_parts t_minutes g8_0 g19_0 g30_0 o1_parts o1_minutes o1_who o1_amount o1_length)) 0 3 hx hb hG igX7 tyX7 tyX7_ok nmX7 hown hP hD hS rfl rfl (by decide) (wd_1_65 hG.2.1) rfl rfl rfl rfl rfl (Nat.le_of_ble_eq_true rfl) rfl dX7_copyFrom_38 (fun H locs hP hD hS => ?_)
  refine lv_aload_n hx hb dX7_copyFrom_41 rfl (lv_at hl 0 rfl) ?_
  refine lv_aload_n hx hb dX7_copyFrom_42 rfl (lv_at hl 1 rfl) ?_
  refine mg (ci := 7) 4 4 hx hb hG igX7 hown hP rfl rfl (by decide) (wd_1_68 hG.2.1) rfl rfl dX7_copyFrom_43 ?_
  refine mp (ci := 7) (wN := (woX7_copyFrom cI cZ a_t a_t_who a_t_amount a_t_length a_o1 a_o1_who a_o1_amount a_o1_length o1_parts o1_minutes g8_0 g19_0 g30_0 o1_parts o1_minutes o1_who o1_amount o1_length)) 0 4 hx hb hG igX7 tyX7 tyX7_ok nmX7 hown hP hD hS rfl rfl (by decide) (wd_1_68 hG.2.1) rfl rfl rfl rfl rfl (Nat.le_of_ble_eq_true rfl) rfl dX7_copyFrom_46 (fun H locs hP hD hS => ?_)
  have hR := Option.some.inj hf
  rw [← hR]
  exact rt_v hx hb hr hlk hsz hP hD hS rfl dX7_copyFrom_49
abbrev woX6_copyFrom (cI cZ : ClassId) (a_t a_t_codes a_o1 a_o1_codes : Nat) (t_count : Int32) (t_codes : Nat → Int32) (o1_count : Int32) (o1_codes : Nat → Int32) : va_W := [(a_t, .inr (6, [.ref a_t_codes, .int t_count])), (a_t_codes, .inl (cI, 40, .inl t_codes)), (a_o1, .inr (6, [.ref a_o1_codes, .int o1_count])), (a_o1_codes, .inl (cI, 40, .inl o1_codes))]
abbrev rmX6_copyFrom : Room := { frames := 1, cells := 0, slots := 0, locals := 22 }
theorem hd_X6_copyFrom : yX6_copyFrom.cls ≠ "java/lang/invoke/MethodHandle" ∧ yX6_copyFrom.cls ≠ "java/lang/invoke/VarHandle" ∧ (parseMethodDescriptor yX6_copyFrom.desc).map (fun d => d.parameters.length) = some 1 := by decide +kernel
set_option maxHeartbeats 4000000 in
set_option maxRecDepth 100000 in
theorem c_X6_copyFrom (l : Launch) (dC : Nat → ClassId) (dI : Nat → Nat → Nat) (cI cZ : ClassId) (ts : Nat → Nat) (sz : Nat) (a_t a_t_codes a_o1 a_o1_codes : Nat) (t_count : Int32) (t_codes : Nat → Int32) (o1_count : Int32) (o1_codes : Nat → Int32) (R : Int32 × (Nat → Int32)) (hf : f_X6_copyFrom t_count t_codes o1_count o1_codes = some R) : Met l yX6_copyFrom wyX6_copyFrom rmX6_copyFrom (PRE (dC, dI) cI cZ ts [.ref a_t, .ref a_o1] sz (woX6_copyFrom cI cZ a_t a_t_codes a_o1 a_o1_codes t_count t_codes o1_count o1_codes)) (POSTv (dC, dI) sz (woX6_copyFrom cI cZ a_t a_t_codes a_o1 a_o1_codes t_count t_codes o1_count o1_codes) (woX6_copyFrom cI cZ a_t a_t_codes a_o1 a_o1_codes R.1 R.2 o1_count o1_codes)) 0 0 (va_A (woX6_copyFrom cI cZ a_t a_t_codes a_o1 a_o1_codes t_count t_codes o1_count o1_codes) sz) := by
  refine Met.ofW (cc := cX6_copyFrom) (maxL := 2) (ret := none) (by decide) rfl ?_
  intro p e s m args below meth c s₁ B hml hv
  obtain ⟨rfl, hv⟩ := hv
  have hG := hg_of hv
  obtain ⟨hsz, hP, -, hD0, -⟩ := hv
  have hx := B.exec
  have hb := B.bytes
  have hr := B.returns
  have hlk := B.notSynchronized
  have hown : s.vm.findClass RX6 = some m.cls := findClass_of_methodNamed B.named
  have hD := hD0.self (sz := sz)
  have hS : va_S (va_A (woX6_copyFrom cI cZ a_t a_t_codes a_o1 a_o1_codes t_count t_codes o1_count o1_codes) sz) s.heap s.heap [] := va_S.rf
  have hl := lv_entry ([.ref a_t, .ref a_o1]) (n := 2) (Nat.le_of_ble_eq_true rfl)
  rw [lg_entry_eq]
  generalize (lg_sl ([.ref a_t, .ref a_o1]) ++ List.replicate (2 - (lg_sl ([.ref a_t, .ref a_o1])).length) Slot.unset).toArray = ls at hl ⊢
  have hl : lv_has ls 2 [(0, .ref a_t), (1, .ref a_o1)] := hl
  unfold f_X6_copyFrom at hf
  refine lv_aload_n hx hb dX6_copyFrom_0 rfl (lv_at hl 1 rfl) ?_
  refine mg (ci := 6) 2 0 hx hb hG igX6 hown hP rfl rfl (by decide) (wd_1_26 hG.2.1) rfl rfl dX6_copyFrom_1 ?_
  refine lv_aload_n hx hb dX6_copyFrom_4 rfl (lv_at hl 0 rfl) ?_
  refine mg (ci := 6) 0 0 hx hb hG igX6 hown hP rfl rfl (by decide) (wd_1_26 hG.2.1) rfl rfl dX6_copyFrom_5 ?_
  obtain ⟨g8_0, hc8, hf⟩ := bd1_some hf
  refine cl_Nv (As := [.ref a_o1_codes, .ref a_t_codes]) (w1 := (woX8_copyRow cI cZ a_o1_codes a_t_codes 40 40 o1_codes g8_0)) (wN := (woX6_copyFrom cI cZ a_t a_t_codes a_o1 a_o1_codes t_count g8_0 o1_count o1_codes)) [3, 1] 0 0 (c_X8_copyRow l dC dI cI cZ ts _ a_o1_codes a_t_codes 40 40 o1_codes t_codes (g8_0) hc8) ⟨hx, hb, hml, hown, hG.2.1.hts _⟩ ⟨va_cnB 2 (hG.2.1.hts _) giX8_copyRow rfl rfl rfl (va_Nw.of (A := #[]) rfl (wd_3_46 hG.2.1)) (wd_1_1 hG.2.1) hd_X8_copyRow ⟨Nat.le_of_ble_eq_true rfl, Nat.le_of_ble_eq_true rfl⟩, wd_3_47 hG.2.1, trivial⟩ hG hP hD hS rfl rfl rfl rfl rfl hl.1 rfl (Nat.le_of_ble_eq_true rfl) dX6_copyFrom_8 ⟨Nat.zero_le _, Nat.zero_le _⟩ (fun H locs hP hD hS => ?_)
  refine lv_aload_n hx hb dX6_copyFrom_11 rfl (lv_at hl 0 rfl) ?_
  refine lv_aload_n hx hb dX6_copyFrom_12 rfl (lv_at hl 1 rfl) ?_
  refine mg (ci := 6) 2 1 hx hb hG igX6 hown hP rfl rfl (by decide) (wd_1_27 hG.2.1) rfl rfl dX6_copyFrom_13 ?_
  refine mp (ci := 6) (wN := (woX6_copyFrom cI cZ a_t a_t_codes a_o1 a_o1_codes o1_count g8_0 o1_count o1_codes)) 0 1 hx hb hG igX6 tyX6 tyX6_ok nmX6 hown hP hD hS rfl rfl (by decide) (wd_1_27 hG.2.1) rfl rfl rfl rfl rfl (Nat.le_of_ble_eq_true rfl) rfl dX6_copyFrom_16 (fun H locs hP hD hS => ?_)
  have hR := Option.some.inj hf
  rw [← hR]
  exact rt_v hx hb hr hlk hsz hP hD hS rfl dX6_copyFrom_19
