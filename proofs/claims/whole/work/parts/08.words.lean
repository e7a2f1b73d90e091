/-- words that a call keeps -/
def okW (w : Cond) : Bool := goodWord w || (match w with | .fieldLinkNest .. => true | .methodLinkNest .. => true | .castable .. => true | _ => false)
def goodT : List Cond := lw_tbl.filter okW
def TW (U : State) : Prop := ∀ w ∈ lw_tbl, okW w = true → ∀ a : Array Value, w.before a U = true
theorem okW_or {w : Cond} (h : okW w = true) : goodWord w = true ∨ (∃ a i b n d x, w = .fieldLinkNest a i b n d x) ∨ (∃ a i y x, w = .methodLinkNest a i y x) ∨ (∃ a b, w = .castable a b) := by
  unfold okW at h
  rcases Bool.or_eq_true_iff.mp h with h | h
  · exact Or.inl h
  · cases w <;> first | (cases h; done) | exact Or.inr (Or.inl ⟨_, _, _, _, _, _, rfl⟩) | exact Or.inr (Or.inr (Or.inl ⟨_, _, _, _, rfl⟩)) | exact Or.inr (Or.inr (Or.inr ⟨_, _, rfl⟩))
theorem TW.warm {s U : State} (hW : s.WarmedH U.vm) (h : TW s) : TW U := by
  intro w hm ho a
  rcases okW_or ho with hg | ⟨c, i, b, n, d, x, rfl⟩ | ⟨c, i, y, x, rfl⟩ | ⟨c, b, rfl⟩
  · exact word_at hW (good_of_word hg) (h w hm ho #[])
  · exact va_Nw.use rfl (va_Nw.warmF hW (va_Nw.of rfl (h _ hm ho #[])))
  · exact va_Nw.use rfl (va_Nw.warmM hW (va_Nw.of rfl (h _ hm ho #[])))
  · exact va_Nw.use rfl (va_Nw.warmC hW (va_Nw.of rfl (h _ hm ho #[])))
theorem TW.same {s U : State} (hv : U.vm = s.vm) (h : TW s) : TW U := TW.warm (hv ▸ State.WarmedH.refl s) h
theorem TW.init {s : State} {a : Array Value} (h : ∀ w ∈ lw_tbl, w.before a s = true) : TW s := by
  intro w hm ho a'
  rcases okW_or ho with hg | ⟨c, i, b, n, d, x, rfl⟩ | ⟨c, i, y, x, rfl⟩ | ⟨c, b, rfl⟩
  · exact word_at (State.WarmedH.refl s) (good_of_word hg) (h w hm)
  · exact va_tabs rfl rfl (h _ hm)
  · exact va_tabs rfl rfl (h _ hm)
  · exact va_tabs rfl rfl (h _ hm)
theorem TW.hts {s : State} (h : TW s) (a : Array Value) : ∀ w ∈ goodT, w.before a s = true := fun w hw => h w (List.mem_filter.mp hw).1 (List.mem_filter.mp hw).2 a
theorem mt0 {w : Cond} (h : w ∈ k2_sels lw_privs) : w ∈ lw_tbl := List.mem_append_left _ h
theorem mt1 {w : Cond} (h : w ∈ tables_1_1) : w ∈ lw_tbl := List.mem_append_right _ (List.mem_append_left _ h)
theorem mt2 {w : Cond} (h : w ∈ tables_1_2) : w ∈ lw_tbl := List.mem_append_right _ (List.mem_append_right _ (List.mem_append_left _ h))
theorem mt3 {w : Cond} (h : w ∈ tables_1_3) : w ∈ lw_tbl := List.mem_append_right _ (List.mem_append_right _ (List.mem_append_right _ (List.mem_append_left _ h)))
theorem mt4 {w : Cond} (h : w ∈ tables_1_4) : w ∈ lw_tbl := List.mem_append_right _ (List.mem_append_right _ (List.mem_append_right _ (List.mem_append_right _ h)))
theorem inT {w : Cond} (h : w ∈ lw_tbl) (ho : okW w = true) : w ∈ goodT := List.mem_filter.mpr ⟨h, ho⟩
theorem gi1 {w : Cond} (h : w ∈ lw_tbl) (hg : (w.onTables && w.keeps) = true) (ho : okW w = true) : GoodIn goodT [w] := fun v hv => by
  cases List.mem_singleton.mp hv
  exact ⟨inT h ho, Or.inl hg⟩

theorem wd_1_0 {U : State} {a : Array Value} (h : TW U) : (Cond.initialized RL).before a U = true := h _ (mt1 (List.mem_of_getElem? (i := 0) rfl)) rfl a
theorem wd_1_1 {U : State} {a : Array Value} (h : TW U) : (Cond.initialized RX8).before a U = true := h _ (mt1 (List.mem_of_getElem? (i := 1) rfl)) rfl a
theorem wd_1_2 {U : State} {a : Array Value} (h : TW U) : (Cond.initialized RX6).before a U = true := h _ (mt1 (List.mem_of_getElem? (i := 2) rfl)) rfl a
theorem wd_1_3 {U : State} {a : Array Value} (h : TW U) : (Cond.initialized RX4).before a U = true := h _ (mt1 (List.mem_of_getElem? (i := 3) rfl)) rfl a
theorem wd_1_4 {U : State} {a : Array Value} (h : TW U) : (Cond.initialized RX7).before a U = true := h _ (mt1 (List.mem_of_getElem? (i := 4) rfl)) rfl a
theorem wd_1_5 {U : State} {a : Array Value} (h : TW U) : (Cond.initialized RX5).before a U = true := h _ (mt1 (List.mem_of_getElem? (i := 5) rfl)) rfl a
theorem wd_1_6 {U : State} {a : Array Value} (h : TW U) : (Cond.initialized RX3).before a U = true := h _ (mt1 (List.mem_of_getElem? (i := 6) rfl)) rfl a
theorem wd_1_7 {U : State} {a : Array Value} (h : TW U) : (Cond.initialized RX0).before a U = true := h _ (mt1 (List.mem_of_getElem? (i := 7) rfl)) rfl a
theorem wd_1_8 {U : State} {a : Array Value} (h : TW U) : (Cond.initialized RX2).before a U = true := h _ (mt1 (List.mem_of_getElem? (i := 8) rfl)) rfl a
theorem wd_1_9 {U : State} {a : Array Value} (h : TW U) : (Cond.initialized RX1).before a U = true := h _ (mt1 (List.mem_of_getElem? (i := 9) rfl)) rfl a
theorem wd_1_10 {U : State} {a : Array Value} (h : TW U) : (Cond.initialized RX9).before a U = true := h _ (mt1 (List.mem_of_getElem? (i := 10) rfl)) rfl a
theorem wd_1_11 {U : State} {a : Array Value} (h : TW U) : (Cond.initialized "java/lang/Math").before a U = true := h _ (mt1 (List.mem_of_getElem? (i := 11) rfl)) rfl a
theorem wd_1_12 {U : State} {a : Array Value} (h : TW U) : (Cond.classLink RL 7 RX8).before a U = true := h _ (mt1 (List.mem_of_getElem? (i := 12) rfl)) rfl a
theorem wd_1_13 {U : State} {a : Array Value} (h : TW U) : (Cond.instantiable RX8 5).before a U = true := h _ (mt1 (List.mem_of_getElem? (i := 13) rfl)) rfl a
theorem wd_1_14 {U : State} {a : Array Value} (h : TW U) : (Cond.methodLink RL 9 yX8_init).before a U = true := h _ (mt1 (List.mem_of_getElem? (i := 14) rfl)) rfl a
theorem wd_1_15 {U : State} {a : Array Value} (h : TW U) : (Cond.instanceMethod yX8_init).before a U = true := h _ (mt1 (List.mem_of_getElem? (i := 15) rfl)) rfl a
theorem wd_1_16 {U : State} {a : Array Value} (h : TW U) : (Cond.code yX8_init cX8_init 1 none).before a U = true := h _ (mt1 (List.mem_of_getElem? (i := 16) rfl)) rfl a
theorem wd_1_17 {U : State} {a : Array Value} (h : TW U) : (Cond.methodLink RX8 1 Lib.objectInit).before a U = true := h _ (mt1 (List.mem_of_getElem? (i := 17) rfl)) rfl a
theorem wd_1_18 {U : State} {a : Array Value} (h : TW U) : (Cond.instanceMethod Lib.objectInit).before a U = true := h _ (mt1 (List.mem_of_getElem? (i := 18) rfl)) rfl a
theorem wd_1_19 {U : State} {a : Array Value} (h : TW U) : (Cond.code Lib.objectInit ⟨#[0xb1]⟩ 1 none).before a U = true := h _ (mt1 (List.mem_of_getElem? (i := 19) rfl)) rfl a
theorem wd_1_20 {U : State} {a : Array Value} (h : TW U) : (Cond.classLink RX8 7 RX6).before a U = true := h _ (mt1 (List.mem_of_getElem? (i := 20) rfl)) rfl a
theorem wd_1_21 {U : State} {a : Array Value} (h : TW U) : (Cond.instantiable RX6 2).before a U = true := h _ (mt1 (List.mem_of_getElem? (i := 21) rfl)) rfl a
theorem wd_1_22 {U : State} {a : Array Value} (h : TW U) : (Cond.methodLinkNest RX8 9 yX6_init RX8).before a U = true := h _ (mt1 (List.mem_of_getElem? (i := 22) rfl)) rfl a
theorem wd_1_23 {U : State} {a : Array Value} (h : TW U) : (Cond.instanceMethod yX6_init).before a U = true := h _ (mt1 (List.mem_of_getElem? (i := 23) rfl)) rfl a
theorem wd_1_24 {U : State} {a : Array Value} (h : TW U) : (Cond.code yX6_init cX6_init 1 none).before a U = true := h _ (mt1 (List.mem_of_getElem? (i := 24) rfl)) rfl a
theorem wd_1_25 {U : State} {a : Array Value} (h : TW U) : (Cond.methodLink RX6 3 Lib.objectInit).before a U = true := h _ (mt1 (List.mem_of_getElem? (i := 25) rfl)) rfl a
theorem wd_1_26 {U : State} {a : Array Value} (h : TW U) : (Cond.fieldLink RX6 9 RX6 "codes" "[I").before a U = true := h _ (mt1 (List.mem_of_getElem? (i := 26) rfl)) rfl a
theorem wd_1_27 {U : State} {a : Array Value} (h : TW U) : (Cond.fieldLink RX6 15 RX6 "count" "I").before a U = true := h _ (mt1 (List.mem_of_getElem? (i := 27) rfl)) rfl a
theorem wd_1_28 {U : State} {a : Array Value} (h : TW U) : (Cond.fieldLinkNest RX7 28 RX6 "count" "I" RX8).before a U = true := h _ (mt1 (List.mem_of_getElem? (i := 28) rfl)) rfl a
theorem wd_1_29 {U : State} {a : Array Value} (h : TW U) : (Cond.fieldLinkNest RX8 65 RX6 "count" "I" RX8).before a U = true := h _ (mt1 (List.mem_of_getElem? (i := 29) rfl)) rfl a
theorem wd_1_35 {U : State} {a : Array Value} (h : TW U) : (Cond.arrayClass .int).before a U = true := h _ (mt1 (List.mem_of_getElem? (i := 35) rfl)) rfl a
theorem wd_1_36 {U : State} {a : Array Value} (h : TW U) : (Cond.classLink RX8 16 RX4).before a U = true := h _ (mt1 (List.mem_of_getElem? (i := 36) rfl)) rfl a
theorem wd_1_37 {U : State} {a : Array Value} (h : TW U) : (Cond.instantiable RX4 5).before a U = true := h _ (mt1 (List.mem_of_getElem? (i := 37) rfl)) rfl a
theorem wd_1_38 {U : State} {a : Array Value} (h : TW U) : (Cond.methodLinkNest RX8 18 yX4_init RX8).before a U = true := h _ (mt1 (List.mem_of_getElem? (i := 38) rfl)) rfl a
theorem wd_1_39 {U : State} {a : Array Value} (h : TW U) : (Cond.instanceMethod yX4_init).before a U = true := h _ (mt1 (List.mem_of_getElem? (i := 39) rfl)) rfl a
theorem wd_1_40 {U : State} {a : Array Value} (h : TW U) : (Cond.code yX4_init cX4_init 1 none).before a U = true := h _ (mt1 (List.mem_of_getElem? (i := 40) rfl)) rfl a
theorem wd_1_41 {U : State} {a : Array Value} (h : TW U) : (Cond.methodLink RX4 1 Lib.objectInit).before a U = true := h _ (mt1 (List.mem_of_getElem? (i := 41) rfl)) rfl a
theorem wd_1_42 {U : State} {a : Array Value} (h : TW U) : (Cond.fieldLinkNest RX4 13 RX8 "AT_FIRST" "[I" RX8).before a U = true := h _ (mt1 (List.mem_of_getElem? (i := 42) rfl)) rfl a
theorem wd_1_44 {U : State} {a : Array Value} (h : TW U) : (Cond.methodLink RX4 19 ⟨"[I", "clone", "()Ljava/lang/Object;"⟩).before a U = true := h _ (mt1 (List.mem_of_getElem? (i := 44) rfl)) rfl a
theorem wd_1_45 {U : State} {a : Array Value} (h : TW U) : (Cond.sameMethod "[I" "java/lang/Object" "clone" "()Ljava/lang/Object;").before a U = true := h _ (mt1 (List.mem_of_getElem? (i := 45) rfl)) rfl a
theorem wd_1_46 {U : State} {a : Array Value} (h : TW U) : (Cond.native ⟨"java/lang/Object", "clone", "()Ljava/lang/Object;"⟩).before a U = true := h _ (mt1 (List.mem_of_getElem? (i := 46) rfl)) rfl a
theorem wd_1_47 {U : State} {a : Array Value} (h : TW U) : (Cond.instanceMethod ⟨"java/lang/Object", "clone", "()Ljava/lang/Object;"⟩).before a U = true := h _ (mt1 (List.mem_of_getElem? (i := 47) rfl)) rfl a
theorem wd_1_48 {U : State} {a : Array Value} (h : TW U) : (Cond.selects "[I" ⟨"[I", "clone", "()Ljava/lang/Object;"⟩ ⟨"java/lang/Object", "clone", "()Ljava/lang/Object;"⟩).before a U = true := h _ (mt1 (List.mem_of_getElem? (i := 48) rfl)) rfl a
theorem wd_1_49 {U : State} {a : Array Value} (h : TW U) : (Cond.castable "[I" "java/lang/Cloneable").before a U = true := h _ (mt1 (List.mem_of_getElem? (i := 49) rfl)) rfl a
theorem wd_1_50 {U : State} {a : Array Value} (h : TW U) : (Cond.classLink RX4 20 "[I").before a U = true := h _ (mt1 (List.mem_of_getElem? (i := 50) rfl)) rfl a
theorem wd_1_51 {U : State} {a : Array Value} (h : TW U) : (Cond.fieldLinkNest RX4 27 RX8 "STRONG_AT_FIRST" "[I" RX8).before a U = true := h _ (mt1 (List.mem_of_getElem? (i := 51) rfl)) rfl a
theorem wd_1_53 {U : State} {a : Array Value} (h : TW U) : (Cond.classLink RX4 33 RX7).before a U = true := h _ (mt1 (List.mem_of_getElem? (i := 53) rfl)) rfl a
theorem wd_1_54 {U : State} {a : Array Value} (h : TW U) : (Cond.instantiable RX7 5).before a U = true := h _ (mt1 (List.mem_of_getElem? (i := 54) rfl)) rfl a
theorem wd_1_55 {U : State} {a : Array Value} (h : TW U) : (Cond.methodLinkNest RX4 35 yX7_init RX8).before a U = true := h _ (mt1 (List.mem_of_getElem? (i := 55) rfl)) rfl a
theorem wd_1_56 {U : State} {a : Array Value} (h : TW U) : (Cond.instanceMethod yX7_init).before a U = true := h _ (mt1 (List.mem_of_getElem? (i := 56) rfl)) rfl a
theorem wd_1_57 {U : State} {a : Array Value} (h : TW U) : (Cond.code yX7_init cX7_init 1 none).before a U = true := h _ (mt1 (List.mem_of_getElem? (i := 57) rfl)) rfl a
theorem wd_1_58 {U : State} {a : Array Value} (h : TW U) : (Cond.methodLink RX7 3 Lib.objectInit).before a U = true := h _ (mt1 (List.mem_of_getElem? (i := 58) rfl)) rfl a
theorem wd_1_59 {U : State} {a : Array Value} (h : TW U) : (Cond.fieldLink RX7 9 RX7 "who" "[I").before a U = true := h _ (mt1 (List.mem_of_getElem? (i := 59) rfl)) rfl a
theorem wd_1_60 {U : State} {a : Array Value} (h : TW U) : (Cond.fieldLinkNest RX5 61 RX7 "who" "[I" RX8).before a U = true := h _ (mt1 (List.mem_of_getElem? (i := 60) rfl)) rfl a
theorem wd_1_61 {U : State} {a : Array Value} (h : TW U) : (Cond.fieldLink RX7 15 RX7 "amount" "[I").before a U = true := h _ (mt1 (List.mem_of_getElem? (i := 61) rfl)) rfl a
theorem wd_1_62 {U : State} {a : Array Value} (h : TW U) : (Cond.fieldLinkNest RX5 68 RX7 "amount" "[I" RX8).before a U = true := h _ (mt1 (List.mem_of_getElem? (i := 62) rfl)) rfl a
theorem wd_1_63 {U : State} {a : Array Value} (h : TW U) : (Cond.fieldLink RX7 18 RX7 "length" "[I").before a U = true := h _ (mt1 (List.mem_of_getElem? (i := 63) rfl)) rfl a
theorem wd_1_64 {U : State} {a : Array Value} (h : TW U) : (Cond.fieldLinkNest RX5 83 RX7 "length" "[I" RX8).before a U = true := h _ (mt1 (List.mem_of_getElem? (i := 64) rfl)) rfl a
theorem wd_1_65 {U : State} {a : Array Value} (h : TW U) : (Cond.fieldLink RX7 21 RX7 "parts" "I").before a U = true := h _ (mt1 (List.mem_of_getElem? (i := 65) rfl)) rfl a
theorem wd_1_66 {U : State} {a : Array Value} (h : TW U) : (Cond.fieldLinkNest RX5 56 RX7 "parts" "I" RX8).before a U = true := h _ (mt1 (List.mem_of_getElem? (i := 66) rfl)) rfl a
theorem wd_1_67 {U : State} {a : Array Value} (h : TW U) : (Cond.fieldLinkNest RX8 202 RX7 "parts" "I" RX8).before a U = true := h _ (mt1 (List.mem_of_getElem? (i := 67) rfl)) rfl a
theorem wd_1_68 {U : State} {a : Array Value} (h : TW U) : (Cond.fieldLink RX7 25 RX7 "minutes" "I").before a U = true := h _ (mt1 (List.mem_of_getElem? (i := 68) rfl)) rfl a
theorem wd_1_69 {U : State} {a : Array Value} (h : TW U) : (Cond.fieldLinkNest RX5 71 RX7 "minutes" "I" RX8).before a U = true := h _ (mt1 (List.mem_of_getElem? (i := 69) rfl)) rfl a
theorem wd_1_70 {U : State} {a : Array Value} (h : TW U) : (Cond.fieldLinkNest RX8 93 RX7 "minutes" "I" RX8).before a U = true := h _ (mt1 (List.mem_of_getElem? (i := 70) rfl)) rfl a
theorem wd_1_82 {U : State} {a : Array Value} (h : TW U) : (Cond.classLink RX4 40 RX6).before a U = true := h _ (mt1 (List.mem_of_getElem? (i := 82) rfl)) rfl a
theorem wd_1_83 {U : State} {a : Array Value} (h : TW U) : (Cond.methodLinkNest RX4 42 yX6_init RX8).before a U = true := h _ (mt1 (List.mem_of_getElem? (i := 83) rfl)) rfl a
theorem wd_1_84 {U : State} {a : Array Value} (h : TW U) : (Cond.fieldLink RX4 7 RX4 "holds" "Z").before a U = true := h _ (mt1 (List.mem_of_getElem? (i := 84) rfl)) rfl a
theorem wd_1_85 {U : State} {a : Array Value} (h : TW U) : (Cond.fieldLinkNest RX8 198 RX4 "holds" "Z" RX8).before a U = true := h _ (mt1 (List.mem_of_getElem? (i := 85) rfl)) rfl a
theorem wd_1_86 {U : State} {a : Array Value} (h : TW U) : (Cond.fieldLink RX4 24 RX4 "numbers" "[I").before a U = true := h _ (mt1 (List.mem_of_getElem? (i := 86) rfl)) rfl a
theorem wd_1_87 {U : State} {a : Array Value} (h : TW U) : (Cond.fieldLinkNest RX8 51 RX4 "numbers" "[I" RX8).before a U = true := h _ (mt1 (List.mem_of_getElem? (i := 87) rfl)) rfl a
theorem wd_1_88 {U : State} {a : Array Value} (h : TW U) : (Cond.fieldLink RX4 30 RX4 "strengths" "[I").before a U = true := h _ (mt1 (List.mem_of_getElem? (i := 88) rfl)) rfl a
theorem wd_1_89 {U : State} {a : Array Value} (h : TW U) : (Cond.fieldLinkNest RX5 91 RX4 "strengths" "[I" RX8).before a U = true := h _ (mt1 (List.mem_of_getElem? (i := 89) rfl)) rfl a
theorem wd_1_90 {U : State} {a : Array Value} (h : TW U) : (Cond.fieldLinkNest RX8 62 RX4 "strengths" "[I" RX8).before a U = true := h _ (mt1 (List.mem_of_getElem? (i := 90) rfl)) rfl a
theorem wd_1_91 {U : State} {a : Array Value} (h : TW U) : (Cond.fieldLink RX4 36 RX4 "steps" "LSaltIceCream$Steps;").before a U = true := h _ (mt1 (List.mem_of_getElem? (i := 91) rfl)) rfl a
theorem wd_1_92 {U : State} {a : Array Value} (h : TW U) : (Cond.fieldLinkNest RX5 50 RX4 "steps" "LSaltIceCream$Steps;" RX8).before a U = true := h _ (mt1 (List.mem_of_getElem? (i := 92) rfl)) rfl a
theorem wd_1_93 {U : State} {a : Array Value} (h : TW U) : (Cond.fieldLinkNest RX8 83 RX4 "steps" "LSaltIceCream$Steps;" RX8).before a U = true := h _ (mt1 (List.mem_of_getElem? (i := 93) rfl)) rfl a
theorem wd_1_94 {U : State} {a : Array Value} (h : TW U) : (Cond.fieldLink RX4 43 RX4 "swings" "LSaltIceCream$Signs;").before a U = true := h _ (mt1 (List.mem_of_getElem? (i := 94) rfl)) rfl a
theorem wd_1_95 {U : State} {a : Array Value} (h : TW U) : (Cond.fieldLinkNest RX8 163 RX4 "swings" "LSaltIceCream$Signs;" RX8).before a U = true := h _ (mt1 (List.mem_of_getElem? (i := 95) rfl)) rfl a
theorem wd_1_107 {U : State} {a : Array Value} (h : TW U) : (Cond.classLink RX8 29 RX5).before a U = true := h _ (mt1 (List.mem_of_getElem? (i := 107) rfl)) rfl a
theorem wd_1_108 {U : State} {a : Array Value} (h : TW U) : (Cond.instantiable RX5 7).before a U = true := h _ (mt1 (List.mem_of_getElem? (i := 108) rfl)) rfl a
theorem wd_1_109 {U : State} {a : Array Value} (h : TW U) : (Cond.methodLinkNest RX8 31 yX5_init RX8).before a U = true := h _ (mt1 (List.mem_of_getElem? (i := 109) rfl)) rfl a
theorem wd_1_110 {U : State} {a : Array Value} (h : TW U) : (Cond.instanceMethod yX5_init).before a U = true := h _ (mt1 (List.mem_of_getElem? (i := 110) rfl)) rfl a
theorem wd_1_111 {U : State} {a : Array Value} (h : TW U) : (Cond.code yX5_init cX5_init 1 none).before a U = true := h _ (mt1 (List.mem_of_getElem? (i := 111) rfl)) rfl a
theorem wd_1_112 {U : State} {a : Array Value} (h : TW U) : (Cond.methodLink RX5 3 Lib.objectInit).before a U = true := h _ (mt1 (List.mem_of_getElem? (i := 112) rfl)) rfl a
theorem wd_1_113 {U : State} {a : Array Value} (h : TW U) : (Cond.classLink RX5 9 RX3).before a U = true := h _ (mt1 (List.mem_of_getElem? (i := 113) rfl)) rfl a
theorem wd_1_114 {U : State} {a : Array Value} (h : TW U) : (Cond.instantiable RX3 4).before a U = true := h _ (mt1 (List.mem_of_getElem? (i := 114) rfl)) rfl a
theorem wd_1_115 {U : State} {a : Array Value} (h : TW U) : (Cond.methodLinkNest RX5 11 yX3_init RX8).before a U = true := h _ (mt1 (List.mem_of_getElem? (i := 115) rfl)) rfl a
theorem wd_1_116 {U : State} {a : Array Value} (h : TW U) : (Cond.instanceMethod yX3_init).before a U = true := h _ (mt1 (List.mem_of_getElem? (i := 116) rfl)) rfl a
theorem wd_1_117 {U : State} {a : Array Value} (h : TW U) : (Cond.code yX3_init cX3_init 1 none).before a U = true := h _ (mt1 (List.mem_of_getElem? (i := 117) rfl)) rfl a
theorem wd_1_118 {U : State} {a : Array Value} (h : TW U) : (Cond.methodLink RX3 1 Lib.objectInit).before a U = true := h _ (mt1 (List.mem_of_getElem? (i := 118) rfl)) rfl a
theorem wd_1_119 {U : State} {a : Array Value} (h : TW U) : (Cond.fieldLink RX3 7 RX3 "ice" "I").before a U = true := h _ (mt1 (List.mem_of_getElem? (i := 119) rfl)) rfl a
theorem wd_1_120 {U : State} {a : Array Value} (h : TW U) : (Cond.fieldLinkNest RX5 146 RX3 "ice" "I" RX8).before a U = true := h _ (mt1 (List.mem_of_getElem? (i := 120) rfl)) rfl a
theorem wd_1_121 {U : State} {a : Array Value} (h : TW U) : (Cond.fieldLink RX3 13 RX3 "saltGrams" "I").before a U = true := h _ (mt1 (List.mem_of_getElem? (i := 121) rfl)) rfl a
theorem wd_1_122 {U : State} {a : Array Value} (h : TW U) : (Cond.fieldLinkNest RX5 72 RX3 "saltGrams" "I" RX8).before a U = true := h _ (mt1 (List.mem_of_getElem? (i := 122) rfl)) rfl a
theorem wd_1_123 {U : State} {a : Array Value} (h : TW U) : (Cond.fieldLink RX3 16 RX3 "brine" "I").before a U = true := h _ (mt1 (List.mem_of_getElem? (i := 123) rfl)) rfl a
theorem wd_1_124 {U : State} {a : Array Value} (h : TW U) : (Cond.fieldLinkNest RX5 149 RX3 "brine" "I" RX8).before a U = true := h _ (mt1 (List.mem_of_getElem? (i := 124) rfl)) rfl a
theorem wd_1_125 {U : State} {a : Array Value} (h : TW U) : (Cond.fieldLink RX3 19 RX3 "cold" "I").before a U = true := h _ (mt1 (List.mem_of_getElem? (i := 125) rfl)) rfl a
theorem wd_1_126 {U : State} {a : Array Value} (h : TW U) : (Cond.fieldLinkNest RX5 120 RX3 "cold" "I" RX8).before a U = true := h _ (mt1 (List.mem_of_getElem? (i := 126) rfl)) rfl a
theorem wd_1_136 {U : State} {a : Array Value} (h : TW U) : (Cond.classLink RX5 18 RX0).before a U = true := h _ (mt1 (List.mem_of_getElem? (i := 136) rfl)) rfl a
theorem wd_1_137 {U : State} {a : Array Value} (h : TW U) : (Cond.instantiable RX0 8).before a U = true := h _ (mt1 (List.mem_of_getElem? (i := 137) rfl)) rfl a
theorem wd_1_138 {U : State} {a : Array Value} (h : TW U) : (Cond.methodLinkNest RX5 20 yX0_init RX8).before a U = true := h _ (mt1 (List.mem_of_getElem? (i := 138) rfl)) rfl a
theorem wd_1_139 {U : State} {a : Array Value} (h : TW U) : (Cond.instanceMethod yX0_init).before a U = true := h _ (mt1 (List.mem_of_getElem? (i := 139) rfl)) rfl a
theorem wd_1_140 {U : State} {a : Array Value} (h : TW U) : (Cond.code yX0_init cX0_init 1 none).before a U = true := h _ (mt1 (List.mem_of_getElem? (i := 140) rfl)) rfl a
theorem wd_1_141 {U : State} {a : Array Value} (h : TW U) : (Cond.methodLink RX0 3 Lib.objectInit).before a U = true := h _ (mt1 (List.mem_of_getElem? (i := 141) rfl)) rfl a
theorem wd_1_142 {U : State} {a : Array Value} (h : TW U) : (Cond.classLink RX0 33 RX2).before a U = true := h _ (mt1 (List.mem_of_getElem? (i := 142) rfl)) rfl a
theorem wd_1_143 {U : State} {a : Array Value} (h : TW U) : (Cond.instantiable RX2 2).before a U = true := h _ (mt1 (List.mem_of_getElem? (i := 143) rfl)) rfl a
theorem wd_1_144 {U : State} {a : Array Value} (h : TW U) : (Cond.methodLinkNest RX0 35 yX2_init RX8).before a U = true := h _ (mt1 (List.mem_of_getElem? (i := 144) rfl)) rfl a
theorem wd_1_145 {U : State} {a : Array Value} (h : TW U) : (Cond.instanceMethod yX2_init).before a U = true := h _ (mt1 (List.mem_of_getElem? (i := 145) rfl)) rfl a
theorem wd_1_146 {U : State} {a : Array Value} (h : TW U) : (Cond.code yX2_init cX2_init 1 none).before a U = true := h _ (mt1 (List.mem_of_getElem? (i := 146) rfl)) rfl a
theorem wd_1_147 {U : State} {a : Array Value} (h : TW U) : (Cond.methodLink RX2 3 Lib.objectInit).before a U = true := h _ (mt1 (List.mem_of_getElem? (i := 147) rfl)) rfl a
theorem wd_1_148 {U : State} {a : Array Value} (h : TW U) : (Cond.fieldLink RX2 9 RX2 "grams" "[I").before a U = true := h _ (mt1 (List.mem_of_getElem? (i := 148) rfl)) rfl a
theorem wd_1_149 {U : State} {a : Array Value} (h : TW U) : (Cond.fieldLink RX2 15 RX2 "total" "I").before a U = true := h _ (mt1 (List.mem_of_getElem? (i := 149) rfl)) rfl a
theorem wd_1_150 {U : State} {a : Array Value} (h : TW U) : (Cond.fieldLinkNest RX0 49 RX2 "total" "I" RX8).before a U = true := h _ (mt1 (List.mem_of_getElem? (i := 150) rfl)) rfl a
theorem wd_1_151 {U : State} {a : Array Value} (h : TW U) : (Cond.fieldLinkNest RX5 159 RX2 "total" "I" RX8).before a U = true := h _ (mt1 (List.mem_of_getElem? (i := 151) rfl)) rfl a
theorem wd_1_152 {U : State} {a : Array Value} (h : TW U) : (Cond.fieldLinkNest RX8 147 RX2 "total" "I" RX8).before a U = true := h _ (mt1 (List.mem_of_getElem? (i := 152) rfl)) rfl a
theorem wd_1_158 {U : State} {a : Array Value} (h : TW U) : (Cond.fieldLink RX0 9 RX0 "water" "I").before a U = true := h _ (mt1 (List.mem_of_getElem? (i := 158) rfl)) rfl a
theorem wd_1_159 {U : State} {a : Array Value} (h : TW U) : (Cond.fieldLink RX0 15 RX0 "sugar" "I").before a U = true := h _ (mt1 (List.mem_of_getElem? (i := 159) rfl)) rfl a
theorem wd_1_160 {U : State} {a : Array Value} (h : TW U) : (Cond.fieldLink RX0 18 RX0 "fat" "I").before a U = true := h _ (mt1 (List.mem_of_getElem? (i := 160) rfl)) rfl a
theorem wd_1_161 {U : State} {a : Array Value} (h : TW U) : (Cond.fieldLink RX0 21 RX0 "warm" "I").before a U = true := h _ (mt1 (List.mem_of_getElem? (i := 161) rfl)) rfl a
theorem wd_1_162 {U : State} {a : Array Value} (h : TW U) : (Cond.fieldLinkNest RX5 152 RX0 "warm" "I" RX8).before a U = true := h _ (mt1 (List.mem_of_getElem? (i := 162) rfl)) rfl a
theorem wd_1_163 {U : State} {a : Array Value} (h : TW U) : (Cond.fieldLink RX0 24 RX0 "layer" "I").before a U = true := h _ (mt1 (List.mem_of_getElem? (i := 163) rfl)) rfl a
theorem wd_1_164 {U : State} {a : Array Value} (h : TW U) : (Cond.fieldLinkNest RX5 164 RX0 "layer" "I" RX8).before a U = true := h _ (mt1 (List.mem_of_getElem? (i := 164) rfl)) rfl a
theorem wd_1_165 {U : State} {a : Array Value} (h : TW U) : (Cond.fieldLink RX0 27 RX0 "air" "I").before a U = true := h _ (mt1 (List.mem_of_getElem? (i := 165) rfl)) rfl a
theorem wd_1_166 {U : State} {a : Array Value} (h : TW U) : (Cond.fieldLinkNest RX5 167 RX0 "air" "I" RX8).before a U = true := h _ (mt1 (List.mem_of_getElem? (i := 166) rfl)) rfl a
theorem wd_1_167 {U : State} {a : Array Value} (h : TW U) : (Cond.fieldLink RX0 30 RX0 "churned" "I").before a U = true := h _ (mt1 (List.mem_of_getElem? (i := 167) rfl)) rfl a
theorem wd_1_168 {U : State} {a : Array Value} (h : TW U) : (Cond.fieldLinkNest RX5 170 RX0 "churned" "I" RX8).before a U = true := h _ (mt1 (List.mem_of_getElem? (i := 168) rfl)) rfl a
theorem wd_1_169 {U : State} {a : Array Value} (h : TW U) : (Cond.fieldLink RX0 36 RX0 "scraped" "LSaltIceCream$Flakes;").before a U = true := h _ (mt1 (List.mem_of_getElem? (i := 169) rfl)) rfl a
theorem wd_1_170 {U : State} {a : Array Value} (h : TW U) : (Cond.fieldLinkNest RX5 155 RX0 "scraped" "LSaltIceCream$Flakes;" RX8).before a U = true := h _ (mt1 (List.mem_of_getElem? (i := 170) rfl)) rfl a
theorem wd_1_171 {U : State} {a : Array Value} (h : TW U) : (Cond.fieldLinkNest RX8 107 RX0 "scraped" "LSaltIceCream$Flakes;" RX8).before a U = true := h _ (mt1 (List.mem_of_getElem? (i := 171) rfl)) rfl a
theorem wd_1_189 {U : State} {a : Array Value} (h : TW U) : (Cond.classLink RX5 25 RX1).before a U = true := h _ (mt1 (List.mem_of_getElem? (i := 189) rfl)) rfl a
theorem wd_1_190 {U : State} {a : Array Value} (h : TW U) : (Cond.instantiable RX1 1).before a U = true := h _ (mt1 (List.mem_of_getElem? (i := 190) rfl)) rfl a
theorem wd_1_191 {U : State} {a : Array Value} (h : TW U) : (Cond.methodLinkNest RX5 27 yX1_init RX8).before a U = true := h _ (mt1 (List.mem_of_getElem? (i := 191) rfl)) rfl a
theorem wd_1_192 {U : State} {a : Array Value} (h : TW U) : (Cond.instanceMethod yX1_init).before a U = true := h _ (mt1 (List.mem_of_getElem? (i := 192) rfl)) rfl a
theorem wd_1_193 {U : State} {a : Array Value} (h : TW U) : (Cond.code yX1_init cX1_init 1 none).before a U = true := h _ (mt1 (List.mem_of_getElem? (i := 193) rfl)) rfl a
theorem wd_1_194 {U : State} {a : Array Value} (h : TW U) : (Cond.methodLink RX1 3 Lib.objectInit).before a U = true := h _ (mt1 (List.mem_of_getElem? (i := 194) rfl)) rfl a
theorem wd_1_195 {U : State} {a : Array Value} (h : TW U) : (Cond.fieldLink RX1 9 RX1 "wearinesses" "[I").before a U = true := h _ (mt1 (List.mem_of_getElem? (i := 195) rfl)) rfl a
theorem wd_1_199 {U : State} {a : Array Value} (h : TW U) : (Cond.fieldLink RX5 12 RX5 "pail" "LSaltIceCream$Pail;").before a U = true := h _ (mt1 (List.mem_of_getElem? (i := 199) rfl)) rfl a
theorem wd_1_200 {U : State} {a : Array Value} (h : TW U) : (Cond.fieldLink RX5 21 RX5 "cream" "LSaltIceCream$Cream;").before a U = true := h _ (mt1 (List.mem_of_getElem? (i := 200) rfl)) rfl a
theorem wd_1_201 {U : State} {a : Array Value} (h : TW U) : (Cond.fieldLinkNest RX8 103 RX5 "cream" "LSaltIceCream$Cream;" RX8).before a U = true := h _ (mt1 (List.mem_of_getElem? (i := 201) rfl)) rfl a
theorem wd_1_202 {U : State} {a : Array Value} (h : TW U) : (Cond.fieldLink RX5 28 RX5 "crew" "LSaltIceCream$Crew;").before a U = true := h _ (mt1 (List.mem_of_getElem? (i := 202) rfl)) rfl a
theorem wd_1_203 {U : State} {a : Array Value} (h : TW U) : (Cond.fieldLinkNest RX8 118 RX5 "crew" "LSaltIceCream$Crew;" RX8).before a U = true := h _ (mt1 (List.mem_of_getElem? (i := 203) rfl)) rfl a
theorem wd_1_204 {U : State} {a : Array Value} (h : TW U) : (Cond.fieldLink RX5 32 RX5 "stiffBehind" "[I").before a U = true := h _ (mt1 (List.mem_of_getElem? (i := 204) rfl)) rfl a
theorem wd_1_205 {U : State} {a : Array Value} (h : TW U) : (Cond.fieldLinkNest RX8 160 RX5 "stiffBehind" "[I" RX8).before a U = true := h _ (mt1 (List.mem_of_getElem? (i := 205) rfl)) rfl a
theorem wd_1_206 {U : State} {a : Array Value} (h : TW U) : (Cond.fieldLink RX5 36 RX5 "minutes" "I").before a U = true := h _ (mt1 (List.mem_of_getElem? (i := 206) rfl)) rfl a
theorem wd_1_207 {U : State} {a : Array Value} (h : TW U) : (Cond.fieldLinkNest RX8 159 RX5 "minutes" "I" RX8).before a U = true := h _ (mt1 (List.mem_of_getElem? (i := 207) rfl)) rfl a
theorem wd_1_208 {U : State} {a : Array Value} (h : TW U) : (Cond.fieldLink RX5 40 RX5 "heldMinutes" "I").before a U = true := h _ (mt1 (List.mem_of_getElem? (i := 208) rfl)) rfl a
theorem wd_1_209 {U : State} {a : Array Value} (h : TW U) : (Cond.fieldLinkNest RX8 130 RX5 "heldMinutes" "I" RX8).before a U = true := h _ (mt1 (List.mem_of_getElem? (i := 209) rfl)) rfl a
theorem wd_1_210 {U : State} {a : Array Value} (h : TW U) : (Cond.fieldLink RX5 43 RX5 "firstHeld" "I").before a U = true := h _ (mt1 (List.mem_of_getElem? (i := 210) rfl)) rfl a
theorem wd_1_211 {U : State} {a : Array Value} (h : TW U) : (Cond.fieldLinkNest RX8 133 RX5 "firstHeld" "I" RX8).before a U = true := h _ (mt1 (List.mem_of_getElem? (i := 211) rfl)) rfl a
theorem wd_1_227 {U : State} {a : Array Value} (h : TW U) : (Cond.fieldLink RX8 10 RX8 "pad" "LSaltIceCream$Signs;").before a U = true := h _ (mt1 (List.mem_of_getElem? (i := 227) rfl)) rfl a
theorem wd_1_228 {U : State} {a : Array Value} (h : TW U) : (Cond.fieldLink RX8 19 RX8 "now" "LSaltIceCream$Recipe;").before a U = true := h _ (mt1 (List.mem_of_getElem? (i := 228) rfl)) rfl a
theorem wd_1_229 {U : State} {a : Array Value} (h : TW U) : (Cond.fieldLink RX8 23 RX8 "imageZero" "LSaltIceCream$Recipe;").before a U = true := h _ (mt1 (List.mem_of_getElem? (i := 229) rfl)) rfl a
theorem wd_1_230 {U : State} {a : Array Value} (h : TW U) : (Cond.fieldLink RX8 26 RX8 "imageOne" "LSaltIceCream$Recipe;").before a U = true := h _ (mt1 (List.mem_of_getElem? (i := 230) rfl)) rfl a
theorem wd_1_231 {U : State} {a : Array Value} (h : TW U) : (Cond.fieldLink RX8 32 RX8 "run" "LSaltIceCream$Run;").before a U = true := h _ (mt1 (List.mem_of_getElem? (i := 231) rfl)) rfl a
theorem wd_2_3 {U : State} {a : Array Value} (h : TW U) : (Cond.methodLink RL 13 yX8_set).before a U = true := h _ (mt2 (List.mem_of_getElem? (i := 3) rfl)) rfl a
theorem wd_2_4 {U : State} {a : Array Value} (h : TW U) : (Cond.instanceMethod yX8_set).before a U = true := h _ (mt2 (List.mem_of_getElem? (i := 4) rfl)) rfl a
theorem wd_2_5 {U : State} {a : Array Value} (h : TW U) : (Cond.selects RX8 yX8_set yX8_set).before a U = true := h _ (mt2 (List.mem_of_getElem? (i := 5) rfl)) rfl a
theorem wd_2_6 {U : State} {a : Array Value} (h : TW U) : (Cond.code yX8_set cX8_set 4 (some .int)).before a U = true := h _ (mt2 (List.mem_of_getElem? (i := 6) rfl)) rfl a
theorem wd_2_7 {U : State} {a : Array Value} (h : TW U) : (Cond.fieldLink RX8 36 RX8 "LEAST" "[I").before a U = true := h _ (mt2 (List.mem_of_getElem? (i := 7) rfl)) rfl a
theorem wd_2_9 {U : State} {a : Array Value} (h : TW U) : (Cond.methodLink RX8 40 yX8_at).before a U = true := h _ (mt2 (List.mem_of_getElem? (i := 9) rfl)) rfl a
theorem wd_2_10 {U : State} {a : Array Value} (h : TW U) : (Cond.static yX8_at).before a U = true := h _ (mt2 (List.mem_of_getElem? (i := 10) rfl)) rfl a
theorem wd_2_11 {U : State} {a : Array Value} (h : TW U) : (Cond.code yX8_at cX8_at 2 (some .int)).before a U = true := h _ (mt2 (List.mem_of_getElem? (i := 11) rfl)) rfl a
theorem wd_2_12 {U : State} {a : Array Value} (h : TW U) : (Cond.fieldLink RX8 44 RX8 "MOST" "[I").before a U = true := h _ (mt2 (List.mem_of_getElem? (i := 12) rfl)) rfl a
theorem wd_2_14 {U : State} {a : Array Value} (h : TW U) : (Cond.methodLink RX8 47 yX4_number).before a U = true := h _ (mt2 (List.mem_of_getElem? (i := 14) rfl)) rfl a
theorem wd_2_15 {U : State} {a : Array Value} (h : TW U) : (Cond.instanceMethod yX4_number).before a U = true := h _ (mt2 (List.mem_of_getElem? (i := 15) rfl)) rfl a
theorem wd_2_16 {U : State} {a : Array Value} (h : TW U) : (Cond.selects RX4 yX4_number yX4_number).before a U = true := h _ (mt2 (List.mem_of_getElem? (i := 16) rfl)) rfl a
theorem wd_2_17 {U : State} {a : Array Value} (h : TW U) : (Cond.code yX4_number cX4_number 2 (some .int)).before a U = true := h _ (mt2 (List.mem_of_getElem? (i := 17) rfl)) rfl a
theorem wd_2_18 {U : State} {a : Array Value} (h : TW U) : (Cond.methodLinkNest RX4 47 yX8_at RX8).before a U = true := h _ (mt2 (List.mem_of_getElem? (i := 18) rfl)) rfl a
theorem wd_2_19 {U : State} {a : Array Value} (h : TW U) : (Cond.methodLink RX8 54 yX8_put).before a U = true := h _ (mt2 (List.mem_of_getElem? (i := 19) rfl)) rfl a
theorem wd_2_20 {U : State} {a : Array Value} (h : TW U) : (Cond.static yX8_put).before a U = true := h _ (mt2 (List.mem_of_getElem? (i := 20) rfl)) rfl a
theorem wd_2_21 {U : State} {a : Array Value} (h : TW U) : (Cond.code yX8_put cX8_put 3 none).before a U = true := h _ (mt2 (List.mem_of_getElem? (i := 21) rfl)) rfl a
theorem wd_2_22 {U : State} {a : Array Value} (h : TW U) : (Cond.methodLink RL 18 yX8_strong).before a U = true := h _ (mt2 (List.mem_of_getElem? (i := 22) rfl)) rfl a
theorem wd_2_23 {U : State} {a : Array Value} (h : TW U) : (Cond.instanceMethod yX8_strong).before a U = true := h _ (mt2 (List.mem_of_getElem? (i := 23) rfl)) rfl a
theorem wd_2_24 {U : State} {a : Array Value} (h : TW U) : (Cond.selects RX8 yX8_strong yX8_strong).before a U = true := h _ (mt2 (List.mem_of_getElem? (i := 24) rfl)) rfl a
theorem wd_2_25 {U : State} {a : Array Value} (h : TW U) : (Cond.code yX8_strong cX8_strong 4 (some .int)).before a U = true := h _ (mt2 (List.mem_of_getElem? (i := 25) rfl)) rfl a
theorem wd_2_26 {U : State} {a : Array Value} (h : TW U) : (Cond.methodLink RX8 58 yX8_isChild).before a U = true := h _ (mt2 (List.mem_of_getElem? (i := 26) rfl)) rfl a
theorem wd_2_27 {U : State} {a : Array Value} (h : TW U) : (Cond.static yX8_isChild).before a U = true := h _ (mt2 (List.mem_of_getElem? (i := 27) rfl)) rfl a
theorem wd_2_28 {U : State} {a : Array Value} (h : TW U) : (Cond.code yX8_isChild cX8_isChild 1 (some .boolean)).before a U = true := h _ (mt2 (List.mem_of_getElem? (i := 28) rfl)) rfl a
theorem wd_2_29 {U : State} {a : Array Value} (h : TW U) : (Cond.methodLink RL 22 yX8_say).before a U = true := h _ (mt2 (List.mem_of_getElem? (i := 29) rfl)) rfl a
theorem wd_2_30 {U : State} {a : Array Value} (h : TW U) : (Cond.instanceMethod yX8_say).before a U = true := h _ (mt2 (List.mem_of_getElem? (i := 30) rfl)) rfl a
theorem wd_2_31 {U : State} {a : Array Value} (h : TW U) : (Cond.selects RX8 yX8_say yX8_say).before a U = true := h _ (mt2 (List.mem_of_getElem? (i := 31) rfl)) rfl a
theorem wd_2_32 {U : State} {a : Array Value} (h : TW U) : (Cond.code yX8_say cX8_say 2 (some .int)).before a U = true := h _ (mt2 (List.mem_of_getElem? (i := 32) rfl)) rfl a
theorem wd_2_33 {U : State} {a : Array Value} (h : TW U) : (Cond.methodLink RX8 69 yX6_add).before a U = true := h _ (mt2 (List.mem_of_getElem? (i := 33) rfl)) rfl a
theorem wd_2_34 {U : State} {a : Array Value} (h : TW U) : (Cond.instanceMethod yX6_add).before a U = true := h _ (mt2 (List.mem_of_getElem? (i := 34) rfl)) rfl a
theorem wd_2_35 {U : State} {a : Array Value} (h : TW U) : (Cond.selects RX6 yX6_add yX6_add).before a U = true := h _ (mt2 (List.mem_of_getElem? (i := 35) rfl)) rfl a
theorem wd_2_36 {U : State} {a : Array Value} (h : TW U) : (Cond.code yX6_add cX6_add 2 none).before a U = true := h _ (mt2 (List.mem_of_getElem? (i := 36) rfl)) rfl a
theorem wd_2_37 {U : State} {a : Array Value} (h : TW U) : (Cond.methodLinkNest RX6 19 yX8_put RX8).before a U = true := h _ (mt2 (List.mem_of_getElem? (i := 37) rfl)) rfl a
theorem wd_2_38 {U : State} {a : Array Value} (h : TW U) : (Cond.methodLink RL 27 yX8_wipe).before a U = true := h _ (mt2 (List.mem_of_getElem? (i := 38) rfl)) rfl a
theorem wd_2_39 {U : State} {a : Array Value} (h : TW U) : (Cond.instanceMethod yX8_wipe).before a U = true := h _ (mt2 (List.mem_of_getElem? (i := 39) rfl)) rfl a
theorem wd_2_40 {U : State} {a : Array Value} (h : TW U) : (Cond.selects RX8 yX8_wipe yX8_wipe).before a U = true := h _ (mt2 (List.mem_of_getElem? (i := 40) rfl)) rfl a
theorem wd_2_41 {U : State} {a : Array Value} (h : TW U) : (Cond.code yX8_wipe cX8_wipe 2 (some .int)).before a U = true := h _ (mt2 (List.mem_of_getElem? (i := 41) rfl)) rfl a
theorem wd_2_42 {U : State} {a : Array Value} (h : TW U) : (Cond.methodLink RX8 73 yX6_clear).before a U = true := h _ (mt2 (List.mem_of_getElem? (i := 42) rfl)) rfl a
theorem wd_2_43 {U : State} {a : Array Value} (h : TW U) : (Cond.instanceMethod yX6_clear).before a U = true := h _ (mt2 (List.mem_of_getElem? (i := 43) rfl)) rfl a
theorem wd_2_44 {U : State} {a : Array Value} (h : TW U) : (Cond.selects RX6 yX6_clear yX6_clear).before a U = true := h _ (mt2 (List.mem_of_getElem? (i := 44) rfl)) rfl a
theorem wd_2_45 {U : State} {a : Array Value} (h : TW U) : (Cond.code yX6_clear cX6_clear 1 none).before a U = true := h _ (mt2 (List.mem_of_getElem? (i := 45) rfl)) rfl a
theorem wd_2_46 {U : State} {a : Array Value} (h : TW U) : (Cond.methodLink RL 32 yX8_fault).before a U = true := h _ (mt2 (List.mem_of_getElem? (i := 46) rfl)) rfl a
theorem wd_2_47 {U : State} {a : Array Value} (h : TW U) : (Cond.instanceMethod yX8_fault).before a U = true := h _ (mt2 (List.mem_of_getElem? (i := 47) rfl)) rfl a
theorem wd_2_48 {U : State} {a : Array Value} (h : TW U) : (Cond.selects RX8 yX8_fault yX8_fault).before a U = true := h _ (mt2 (List.mem_of_getElem? (i := 48) rfl)) rfl a
theorem wd_2_49 {U : State} {a : Array Value} (h : TW U) : (Cond.code yX8_fault cX8_fault 2 (some .int)).before a U = true := h _ (mt2 (List.mem_of_getElem? (i := 49) rfl)) rfl a
theorem wd_2_50 {U : State} {a : Array Value} (h : TW U) : (Cond.methodLink RX8 76 yX6_faultAsPlan).before a U = true := h _ (mt2 (List.mem_of_getElem? (i := 50) rfl)) rfl a
theorem wd_2_51 {U : State} {a : Array Value} (h : TW U) : (Cond.instanceMethod yX6_faultAsPlan).before a U = true := h _ (mt2 (List.mem_of_getElem? (i := 51) rfl)) rfl a
theorem wd_2_52 {U : State} {a : Array Value} (h : TW U) : (Cond.selects RX6 yX6_faultAsPlan yX6_faultAsPlan).before a U = true := h _ (mt2 (List.mem_of_getElem? (i := 52) rfl)) rfl a
theorem wd_2_53 {U : State} {a : Array Value} (h : TW U) : (Cond.code yX6_faultAsPlan cX6_faultAsPlan 3 (some .int)).before a U = true := h _ (mt2 (List.mem_of_getElem? (i := 53) rfl)) rfl a
theorem wd_2_54 {U : State} {a : Array Value} (h : TW U) : (Cond.methodLink RX6 42 yX6_dueBehind).before a U = true := h _ (mt2 (List.mem_of_getElem? (i := 54) rfl)) rfl a
theorem wd_2_56 {U : State} {a : Array Value} (h : TW U) : (Cond.instanceMethod yX6_dueBehind).before a U = true := h _ (mt2 (List.mem_of_getElem? (i := 56) rfl)) rfl a
theorem wd_2_57 {U : State} {a : Array Value} (h : TW U) : (Cond.code yX6_dueBehind cX6_dueBehind 3 (some .int)).before a U = true := h _ (mt2 (List.mem_of_getElem? (i := 57) rfl)) rfl a
theorem wd_2_58 {U : State} {a : Array Value} (h : TW U) : (Cond.methodLink RX6 27 yX6_codeAt).before a U = true := h _ (mt2 (List.mem_of_getElem? (i := 58) rfl)) rfl a
theorem wd_2_59 {U : State} {a : Array Value} (h : TW U) : (Cond.instanceMethod yX6_codeAt).before a U = true := h _ (mt2 (List.mem_of_getElem? (i := 59) rfl)) rfl a
theorem wd_2_60 {U : State} {a : Array Value} (h : TW U) : (Cond.selects RX6 yX6_codeAt yX6_codeAt).before a U = true := h _ (mt2 (List.mem_of_getElem? (i := 60) rfl)) rfl a
theorem wd_2_61 {U : State} {a : Array Value} (h : TW U) : (Cond.code yX6_codeAt cX6_codeAt 2 (some .int)).before a U = true := h _ (mt2 (List.mem_of_getElem? (i := 61) rfl)) rfl a
theorem wd_2_62 {U : State} {a : Array Value} (h : TW U) : (Cond.methodLinkNest RX6 23 yX8_at RX8).before a U = true := h _ (mt2 (List.mem_of_getElem? (i := 62) rfl)) rfl a
theorem wd_2_63 {U : State} {a : Array Value} (h : TW U) : (Cond.methodLink RX6 46 yX6_dueBehindBegin).before a U = true := h _ (mt2 (List.mem_of_getElem? (i := 63) rfl)) rfl a
theorem wd_2_64 {U : State} {a : Array Value} (h : TW U) : (Cond.static yX6_dueBehindBegin).before a U = true := h _ (mt2 (List.mem_of_getElem? (i := 64) rfl)) rfl a
theorem wd_2_65 {U : State} {a : Array Value} (h : TW U) : (Cond.code yX6_dueBehindBegin cX6_dueBehindBegin 1 (some .int)).before a U = true := h _ (mt2 (List.mem_of_getElem? (i := 65) rfl)) rfl a
theorem wd_2_66 {U : State} {a : Array Value} (h : TW U) : (Cond.methodLink RX6 38 yX6_isDigitAt).before a U = true := h _ (mt2 (List.mem_of_getElem? (i := 66) rfl)) rfl a
theorem wd_2_67 {U : State} {a : Array Value} (h : TW U) : (Cond.instanceMethod yX6_isDigitAt).before a U = true := h _ (mt2 (List.mem_of_getElem? (i := 67) rfl)) rfl a
theorem wd_2_68 {U : State} {a : Array Value} (h : TW U) : (Cond.selects RX6 yX6_isDigitAt yX6_isDigitAt).before a U = true := h _ (mt2 (List.mem_of_getElem? (i := 68) rfl)) rfl a
theorem wd_2_69 {U : State} {a : Array Value} (h : TW U) : (Cond.code yX6_isDigitAt cX6_isDigitAt 3 (some .boolean)).before a U = true := h _ (mt2 (List.mem_of_getElem? (i := 69) rfl)) rfl a
theorem wd_2_70 {U : State} {a : Array Value} (h : TW U) : (Cond.methodLink RX6 31 yX6_digitAt).before a U = true := h _ (mt2 (List.mem_of_getElem? (i := 70) rfl)) rfl a
theorem wd_2_71 {U : State} {a : Array Value} (h : TW U) : (Cond.instanceMethod yX6_digitAt).before a U = true := h _ (mt2 (List.mem_of_getElem? (i := 71) rfl)) rfl a
theorem wd_2_72 {U : State} {a : Array Value} (h : TW U) : (Cond.selects RX6 yX6_digitAt yX6_digitAt).before a U = true := h _ (mt2 (List.mem_of_getElem? (i := 72) rfl)) rfl a
theorem wd_2_73 {U : State} {a : Array Value} (h : TW U) : (Cond.code yX6_digitAt cX6_digitAt 2 (some .int)).before a U = true := h _ (mt2 (List.mem_of_getElem? (i := 73) rfl)) rfl a
theorem wd_2_74 {U : State} {a : Array Value} (h : TW U) : (Cond.methodLink RX8 80 yX6_faultAsBox).before a U = true := h _ (mt2 (List.mem_of_getElem? (i := 74) rfl)) rfl a
theorem wd_2_75 {U : State} {a : Array Value} (h : TW U) : (Cond.instanceMethod yX6_faultAsBox).before a U = true := h _ (mt2 (List.mem_of_getElem? (i := 75) rfl)) rfl a
theorem wd_2_76 {U : State} {a : Array Value} (h : TW U) : (Cond.selects RX6 yX6_faultAsBox yX6_faultAsBox).before a U = true := h _ (mt2 (List.mem_of_getElem? (i := 76) rfl)) rfl a
theorem wd_2_77 {U : State} {a : Array Value} (h : TW U) : (Cond.code yX6_faultAsBox cX6_faultAsBox 2 (some .int)).before a U = true := h _ (mt2 (List.mem_of_getElem? (i := 77) rfl)) rfl a
theorem wd_2_78 {U : State} {a : Array Value} (h : TW U) : (Cond.methodLink RL 36 yX8_plan).before a U = true := h _ (mt2 (List.mem_of_getElem? (i := 78) rfl)) rfl a
theorem wd_2_79 {U : State} {a : Array Value} (h : TW U) : (Cond.instanceMethod yX8_plan).before a U = true := h _ (mt2 (List.mem_of_getElem? (i := 79) rfl)) rfl a
theorem wd_2_80 {U : State} {a : Array Value} (h : TW U) : (Cond.selects RX8 yX8_plan yX8_plan).before a U = true := h _ (mt2 (List.mem_of_getElem? (i := 80) rfl)) rfl a
theorem wd_2_81 {U : State} {a : Array Value} (h : TW U) : (Cond.code yX8_plan cX8_plan 1 (some .int)).before a U = true := h _ (mt2 (List.mem_of_getElem? (i := 81) rfl)) rfl a
theorem wd_2_82 {U : State} {a : Array Value} (h : TW U) : (Cond.methodLink RX8 87 yX7_read).before a U = true := h _ (mt2 (List.mem_of_getElem? (i := 82) rfl)) rfl a
theorem wd_2_83 {U : State} {a : Array Value} (h : TW U) : (Cond.instanceMethod yX7_read).before a U = true := h _ (mt2 (List.mem_of_getElem? (i := 83) rfl)) rfl a
theorem wd_2_84 {U : State} {a : Array Value} (h : TW U) : (Cond.selects RX7 yX7_read yX7_read).before a U = true := h _ (mt2 (List.mem_of_getElem? (i := 84) rfl)) rfl a
theorem wd_2_85 {U : State} {a : Array Value} (h : TW U) : (Cond.code yX7_read cX7_read 4 none).before a U = true := h _ (mt2 (List.mem_of_getElem? (i := 85) rfl)) rfl a
theorem wd_2_86 {U : State} {a : Array Value} (h : TW U) : (Cond.methodLink RX7 33 yX6_codeAt).before a U = true := h _ (mt2 (List.mem_of_getElem? (i := 86) rfl)) rfl a
theorem wd_2_87 {U : State} {a : Array Value} (h : TW U) : (Cond.methodLink RX7 37 yX6_digitAt).before a U = true := h _ (mt2 (List.mem_of_getElem? (i := 87) rfl)) rfl a
theorem wd_2_88 {U : State} {a : Array Value} (h : TW U) : (Cond.methodLink RX7 40 yX7_addPart).before a U = true := h _ (mt2 (List.mem_of_getElem? (i := 88) rfl)) rfl a
theorem wd_2_90 {U : State} {a : Array Value} (h : TW U) : (Cond.instanceMethod yX7_addPart).before a U = true := h _ (mt2 (List.mem_of_getElem? (i := 90) rfl)) rfl a
theorem wd_2_91 {U : State} {a : Array Value} (h : TW U) : (Cond.code yX7_addPart cX7_addPart 4 none).before a U = true := h _ (mt2 (List.mem_of_getElem? (i := 91) rfl)) rfl a
theorem wd_2_92 {U : State} {a : Array Value} (h : TW U) : (Cond.methodLinkNest RX7 44 yX8_put RX8).before a U = true := h _ (mt2 (List.mem_of_getElem? (i := 92) rfl)) rfl a
theorem wd_2_93 {U : State} {a : Array Value} (h : TW U) : (Cond.methodLink RL 40 yX8_after).before a U = true := h _ (mt2 (List.mem_of_getElem? (i := 93) rfl)) rfl a
theorem wd_2_94 {U : State} {a : Array Value} (h : TW U) : (Cond.instanceMethod yX8_after).before a U = true := h _ (mt2 (List.mem_of_getElem? (i := 94) rfl)) rfl a
theorem wd_2_95 {U : State} {a : Array Value} (h : TW U) : (Cond.selects RX8 yX8_after yX8_after).before a U = true := h _ (mt2 (List.mem_of_getElem? (i := 95) rfl)) rfl a
theorem wd_2_96 {U : State} {a : Array Value} (h : TW U) : (Cond.code yX8_after cX8_after 3 (some .int)).before a U = true := h _ (mt2 (List.mem_of_getElem? (i := 96) rfl)) rfl a
theorem wd_2_97 {U : State} {a : Array Value} (h : TW U) : (Cond.methodLink RX8 96 yX8_isOfPlan).before a U = true := h _ (mt2 (List.mem_of_getElem? (i := 97) rfl)) rfl a
theorem wd_2_99 {U : State} {a : Array Value} (h : TW U) : (Cond.instanceMethod yX8_isOfPlan).before a U = true := h _ (mt2 (List.mem_of_getElem? (i := 99) rfl)) rfl a
theorem wd_2_100 {U : State} {a : Array Value} (h : TW U) : (Cond.code yX8_isOfPlan cX8_isOfPlan 2 (some .boolean)).before a U = true := h _ (mt2 (List.mem_of_getElem? (i := 100) rfl)) rfl a
theorem wd_2_101 {U : State} {a : Array Value} (h : TW U) : (Cond.methodLink RX8 99 yX8_runFor).before a U = true := h _ (mt2 (List.mem_of_getElem? (i := 101) rfl)) rfl a
theorem wd_2_103 {U : State} {a : Array Value} (h : TW U) : (Cond.instanceMethod yX8_runFor).before a U = true := h _ (mt2 (List.mem_of_getElem? (i := 103) rfl)) rfl a
theorem wd_2_104 {U : State} {a : Array Value} (h : TW U) : (Cond.code yX8_runFor cX8_runFor 2 none).before a U = true := h _ (mt2 (List.mem_of_getElem? (i := 104) rfl)) rfl a
theorem wd_2_105 {U : State} {a : Array Value} (h : TW U) : (Cond.methodLink RX8 143 yX5_go).before a U = true := h _ (mt2 (List.mem_of_getElem? (i := 105) rfl)) rfl a
theorem wd_2_106 {U : State} {a : Array Value} (h : TW U) : (Cond.instanceMethod yX5_go).before a U = true := h _ (mt2 (List.mem_of_getElem? (i := 106) rfl)) rfl a
theorem wd_2_107 {U : State} {a : Array Value} (h : TW U) : (Cond.selects RX5 yX5_go yX5_go).before a U = true := h _ (mt2 (List.mem_of_getElem? (i := 107) rfl)) rfl a
theorem wd_2_108 {U : State} {a : Array Value} (h : TW U) : (Cond.code yX5_go cX5_go 14 none).before a U = true := h _ (mt2 (List.mem_of_getElem? (i := 108) rfl)) rfl a
theorem wd_2_109 {U : State} {a : Array Value} (h : TW U) : (Cond.methodLink RX5 46 yX5_begin).before a U = true := h _ (mt2 (List.mem_of_getElem? (i := 109) rfl)) rfl a
theorem wd_2_111 {U : State} {a : Array Value} (h : TW U) : (Cond.instanceMethod yX5_begin).before a U = true := h _ (mt2 (List.mem_of_getElem? (i := 111) rfl)) rfl a
theorem wd_2_112 {U : State} {a : Array Value} (h : TW U) : (Cond.code yX5_begin cX5_begin 3 none).before a U = true := h _ (mt2 (List.mem_of_getElem? (i := 112) rfl)) rfl a
theorem wd_2_113 {U : State} {a : Array Value} (h : TW U) : (Cond.methodLink RX5 98 yX4_number).before a U = true := h _ (mt2 (List.mem_of_getElem? (i := 113) rfl)) rfl a
theorem wd_2_114 {U : State} {a : Array Value} (h : TW U) : (Cond.methodLink RX5 102 yX3_begin).before a U = true := h _ (mt2 (List.mem_of_getElem? (i := 114) rfl)) rfl a
theorem wd_2_115 {U : State} {a : Array Value} (h : TW U) : (Cond.instanceMethod yX3_begin).before a U = true := h _ (mt2 (List.mem_of_getElem? (i := 115) rfl)) rfl a
theorem wd_2_116 {U : State} {a : Array Value} (h : TW U) : (Cond.selects RX3 yX3_begin yX3_begin).before a U = true := h _ (mt2 (List.mem_of_getElem? (i := 116) rfl)) rfl a
theorem wd_2_117 {U : State} {a : Array Value} (h : TW U) : (Cond.code yX3_begin cX3_begin 3 none).before a U = true := h _ (mt2 (List.mem_of_getElem? (i := 117) rfl)) rfl a
theorem wd_2_118 {U : State} {a : Array Value} (h : TW U) : (Cond.methodLink RX3 22 yX3_settle).before a U = true := h _ (mt2 (List.mem_of_getElem? (i := 118) rfl)) rfl a
theorem wd_2_119 {U : State} {a : Array Value} (h : TW U) : (Cond.instanceMethod yX3_settle).before a U = true := h _ (mt2 (List.mem_of_getElem? (i := 119) rfl)) rfl a
theorem wd_2_120 {U : State} {a : Array Value} (h : TW U) : (Cond.selects RX3 yX3_settle yX3_settle).before a U = true := h _ (mt2 (List.mem_of_getElem? (i := 120) rfl)) rfl a
theorem wd_2_121 {U : State} {a : Array Value} (h : TW U) : (Cond.code yX3_settle cX3_settle 1 none).before a U = true := h _ (mt2 (List.mem_of_getElem? (i := 121) rfl)) rfl a
theorem wd_2_122 {U : State} {a : Array Value} (h : TW U) : (Cond.methodLinkNest RX3 25 yX8_quotient RX8).before a U = true := h _ (mt2 (List.mem_of_getElem? (i := 122) rfl)) rfl a
theorem wd_2_123 {U : State} {a : Array Value} (h : TW U) : (Cond.static yX8_quotient).before a U = true := h _ (mt2 (List.mem_of_getElem? (i := 123) rfl)) rfl a
theorem wd_2_124 {U : State} {a : Array Value} (h : TW U) : (Cond.code yX8_quotient cX8_quotient 2 (some .int)).before a U = true := h _ (mt2 (List.mem_of_getElem? (i := 124) rfl)) rfl a
theorem wd_2_125 {U : State} {a : Array Value} (h : TW U) : (Cond.methodLink RX3 31 Lib.Math.min.name).before a U = true := h _ (mt2 (List.mem_of_getElem? (i := 125) rfl)) rfl a
theorem wd_2_126 {U : State} {a : Array Value} (h : TW U) : (Cond.static Lib.Math.min.name).before a U = true := h _ (mt2 (List.mem_of_getElem? (i := 126) rfl)) rfl a
theorem wd_2_127 {U : State} {a : Array Value} (h : TW U) : (Cond.code Lib.Math.min.name Lib.Math.min.code 2 (some .int)).before a U = true := h _ (mt2 (List.mem_of_getElem? (i := 127) rfl)) rfl a
theorem wd_2_128 {U : State} {a : Array Value} (h : TW U) : (Cond.methodLink RX3 36 Lib.Math.max.name).before a U = true := h _ (mt2 (List.mem_of_getElem? (i := 128) rfl)) rfl a
theorem wd_2_129 {U : State} {a : Array Value} (h : TW U) : (Cond.static Lib.Math.max.name).before a U = true := h _ (mt2 (List.mem_of_getElem? (i := 129) rfl)) rfl a
theorem wd_2_130 {U : State} {a : Array Value} (h : TW U) : (Cond.code Lib.Math.max.name Lib.Math.max.code 2 (some .int)).before a U = true := h _ (mt2 (List.mem_of_getElem? (i := 130) rfl)) rfl a
theorem wd_2_131 {U : State} {a : Array Value} (h : TW U) : (Cond.methodLink RX5 105 yX0_begin).before a U = true := h _ (mt2 (List.mem_of_getElem? (i := 131) rfl)) rfl a
theorem wd_2_132 {U : State} {a : Array Value} (h : TW U) : (Cond.instanceMethod yX0_begin).before a U = true := h _ (mt2 (List.mem_of_getElem? (i := 132) rfl)) rfl a
theorem wd_2_133 {U : State} {a : Array Value} (h : TW U) : (Cond.selects RX0 yX0_begin yX0_begin).before a U = true := h _ (mt2 (List.mem_of_getElem? (i := 133) rfl)) rfl a
theorem wd_2_134 {U : State} {a : Array Value} (h : TW U) : (Cond.code yX0_begin cX0_begin 2 none).before a U = true := h _ (mt2 (List.mem_of_getElem? (i := 134) rfl)) rfl a
theorem wd_2_135 {U : State} {a : Array Value} (h : TW U) : (Cond.methodLink RX0 40 yX4_number).before a U = true := h _ (mt2 (List.mem_of_getElem? (i := 135) rfl)) rfl a
theorem wd_2_136 {U : State} {a : Array Value} (h : TW U) : (Cond.methodLink RX0 46 yX2_clear).before a U = true := h _ (mt2 (List.mem_of_getElem? (i := 136) rfl)) rfl a
theorem wd_2_137 {U : State} {a : Array Value} (h : TW U) : (Cond.instanceMethod yX2_clear).before a U = true := h _ (mt2 (List.mem_of_getElem? (i := 137) rfl)) rfl a
theorem wd_2_138 {U : State} {a : Array Value} (h : TW U) : (Cond.selects RX2 yX2_clear yX2_clear).before a U = true := h _ (mt2 (List.mem_of_getElem? (i := 138) rfl)) rfl a
theorem wd_2_139 {U : State} {a : Array Value} (h : TW U) : (Cond.code yX2_clear cX2_clear 2 none).before a U = true := h _ (mt2 (List.mem_of_getElem? (i := 139) rfl)) rfl a
theorem wd_2_140 {U : State} {a : Array Value} (h : TW U) : (Cond.methodLink RX5 108 yX1_begin).before a U = true := h _ (mt2 (List.mem_of_getElem? (i := 140) rfl)) rfl a
theorem wd_2_141 {U : State} {a : Array Value} (h : TW U) : (Cond.instanceMethod yX1_begin).before a U = true := h _ (mt2 (List.mem_of_getElem? (i := 141) rfl)) rfl a
theorem wd_2_142 {U : State} {a : Array Value} (h : TW U) : (Cond.selects RX1 yX1_begin yX1_begin).before a U = true := h _ (mt2 (List.mem_of_getElem? (i := 142) rfl)) rfl a
theorem wd_2_143 {U : State} {a : Array Value} (h : TW U) : (Cond.code yX1_begin cX1_begin 2 none).before a U = true := h _ (mt2 (List.mem_of_getElem? (i := 143) rfl)) rfl a
theorem wd_2_144 {U : State} {a : Array Value} (h : TW U) : (Cond.methodLinkNest RX5 64 yX8_at RX8).before a U = true := h _ (mt2 (List.mem_of_getElem? (i := 144) rfl)) rfl a
theorem wd_2_145 {U : State} {a : Array Value} (h : TW U) : (Cond.methodLinkNest RX5 75 yX8_isChild RX8).before a U = true := h _ (mt2 (List.mem_of_getElem? (i := 145) rfl)) rfl a
theorem wd_2_146 {U : State} {a : Array Value} (h : TW U) : (Cond.methodLinkNest RX5 79 yX8_childInPlace RX8).before a U = true := h _ (mt2 (List.mem_of_getElem? (i := 146) rfl)) rfl a
theorem wd_2_147 {U : State} {a : Array Value} (h : TW U) : (Cond.static yX8_childInPlace).before a U = true := h _ (mt2 (List.mem_of_getElem? (i := 147) rfl)) rfl a
theorem wd_2_148 {U : State} {a : Array Value} (h : TW U) : (Cond.code yX8_childInPlace cX8_childInPlace 2 (some .int)).before a U = true := h _ (mt2 (List.mem_of_getElem? (i := 148) rfl)) rfl a
theorem wd_2_149 {U : State} {a : Array Value} (h : TW U) : (Cond.methodLink RX5 86 Lib.Math.min.name).before a U = true := h _ (mt2 (List.mem_of_getElem? (i := 149) rfl)) rfl a
theorem wd_2_150 {U : State} {a : Array Value} (h : TW U) : (Cond.methodLink RX5 94 yX5_passMinute).before a U = true := h _ (mt2 (List.mem_of_getElem? (i := 150) rfl)) rfl a
theorem wd_2_152 {U : State} {a : Array Value} (h : TW U) : (Cond.instanceMethod yX5_passMinute).before a U = true := h _ (mt2 (List.mem_of_getElem? (i := 152) rfl)) rfl a
theorem wd_2_153 {U : State} {a : Array Value} (h : TW U) : (Cond.code yX5_passMinute cX5_passMinute 9 none).before a U = true := h _ (mt2 (List.mem_of_getElem? (i := 153) rfl)) rfl a
theorem wd_2_154 {U : State} {a : Array Value} (h : TW U) : (Cond.methodLink RX5 110 yX0_stiff).before a U = true := h _ (mt2 (List.mem_of_getElem? (i := 154) rfl)) rfl a
theorem wd_2_155 {U : State} {a : Array Value} (h : TW U) : (Cond.instanceMethod yX0_stiff).before a U = true := h _ (mt2 (List.mem_of_getElem? (i := 155) rfl)) rfl a
theorem wd_2_156 {U : State} {a : Array Value} (h : TW U) : (Cond.selects RX0 yX0_stiff yX0_stiff).before a U = true := h _ (mt2 (List.mem_of_getElem? (i := 156) rfl)) rfl a
theorem wd_2_157 {U : State} {a : Array Value} (h : TW U) : (Cond.code yX0_stiff cX0_stiff 1 (some .int)).before a U = true := h _ (mt2 (List.mem_of_getElem? (i := 157) rfl)) rfl a
theorem wd_2_158 {U : State} {a : Array Value} (h : TW U) : (Cond.methodLinkNest RX0 56 yX8_quotient RX8).before a U = true := h _ (mt2 (List.mem_of_getElem? (i := 158) rfl)) rfl a
theorem wd_2_159 {U : State} {a : Array Value} (h : TW U) : (Cond.methodLink RX5 114 yX1_weariness).before a U = true := h _ (mt2 (List.mem_of_getElem? (i := 159) rfl)) rfl a
theorem wd_2_160 {U : State} {a : Array Value} (h : TW U) : (Cond.instanceMethod yX1_weariness).before a U = true := h _ (mt2 (List.mem_of_getElem? (i := 160) rfl)) rfl a
theorem wd_2_161 {U : State} {a : Array Value} (h : TW U) : (Cond.selects RX1 yX1_weariness yX1_weariness).before a U = true := h _ (mt2 (List.mem_of_getElem? (i := 161) rfl)) rfl a
theorem wd_2_162 {U : State} {a : Array Value} (h : TW U) : (Cond.code yX1_weariness cX1_weariness 2 (some .int)).before a U = true := h _ (mt2 (List.mem_of_getElem? (i := 162) rfl)) rfl a
theorem wd_2_163 {U : State} {a : Array Value} (h : TW U) : (Cond.methodLinkNest RX1 15 yX8_at RX8).before a U = true := h _ (mt2 (List.mem_of_getElem? (i := 163) rfl)) rfl a
theorem wd_2_164 {U : State} {a : Array Value} (h : TW U) : (Cond.methodLink RX5 117 yX3_settle).before a U = true := h _ (mt2 (List.mem_of_getElem? (i := 164) rfl)) rfl a
theorem wd_2_165 {U : State} {a : Array Value} (h : TW U) : (Cond.methodLink RX5 123 yX0_flow).before a U = true := h _ (mt2 (List.mem_of_getElem? (i := 165) rfl)) rfl a
theorem wd_2_166 {U : State} {a : Array Value} (h : TW U) : (Cond.instanceMethod yX0_flow).before a U = true := h _ (mt2 (List.mem_of_getElem? (i := 166) rfl)) rfl a
theorem wd_2_167 {U : State} {a : Array Value} (h : TW U) : (Cond.selects RX0 yX0_flow yX0_flow).before a U = true := h _ (mt2 (List.mem_of_getElem? (i := 167) rfl)) rfl a
theorem wd_2_168 {U : State} {a : Array Value} (h : TW U) : (Cond.code yX0_flow cX0_flow 2 (some .int)).before a U = true := h _ (mt2 (List.mem_of_getElem? (i := 168) rfl)) rfl a
theorem wd_2_169 {U : State} {a : Array Value} (h : TW U) : (Cond.methodLink RX0 60 Lib.Math.max.name).before a U = true := h _ (mt2 (List.mem_of_getElem? (i := 169) rfl)) rfl a
theorem wd_2_170 {U : State} {a : Array Value} (h : TW U) : (Cond.methodLink RX5 126 yX3_melt).before a U = true := h _ (mt2 (List.mem_of_getElem? (i := 170) rfl)) rfl a
theorem wd_2_171 {U : State} {a : Array Value} (h : TW U) : (Cond.instanceMethod yX3_melt).before a U = true := h _ (mt2 (List.mem_of_getElem? (i := 171) rfl)) rfl a
theorem wd_2_172 {U : State} {a : Array Value} (h : TW U) : (Cond.selects RX3 yX3_melt yX3_melt).before a U = true := h _ (mt2 (List.mem_of_getElem? (i := 172) rfl)) rfl a
theorem wd_2_173 {U : State} {a : Array Value} (h : TW U) : (Cond.code yX3_melt cX3_melt 3 none).before a U = true := h _ (mt2 (List.mem_of_getElem? (i := 173) rfl)) rfl a
theorem wd_2_174 {U : State} {a : Array Value} (h : TW U) : (Cond.methodLink RX5 130 yX0_giveWarmth).before a U = true := h _ (mt2 (List.mem_of_getElem? (i := 174) rfl)) rfl a
theorem wd_2_175 {U : State} {a : Array Value} (h : TW U) : (Cond.instanceMethod yX0_giveWarmth).before a U = true := h _ (mt2 (List.mem_of_getElem? (i := 175) rfl)) rfl a
theorem wd_2_176 {U : State} {a : Array Value} (h : TW U) : (Cond.selects RX0 yX0_giveWarmth yX0_giveWarmth).before a U = true := h _ (mt2 (List.mem_of_getElem? (i := 176) rfl)) rfl a
theorem wd_2_177 {U : State} {a : Array Value} (h : TW U) : (Cond.code yX0_giveWarmth cX0_giveWarmth 2 none).before a U = true := h _ (mt2 (List.mem_of_getElem? (i := 177) rfl)) rfl a
theorem wd_2_178 {U : State} {a : Array Value} (h : TW U) : (Cond.methodLink RX0 65 yX0_line).before a U = true := h _ (mt2 (List.mem_of_getElem? (i := 178) rfl)) rfl a
theorem wd_2_179 {U : State} {a : Array Value} (h : TW U) : (Cond.instanceMethod yX0_line).before a U = true := h _ (mt2 (List.mem_of_getElem? (i := 179) rfl)) rfl a
theorem wd_2_180 {U : State} {a : Array Value} (h : TW U) : (Cond.selects RX0 yX0_line yX0_line).before a U = true := h _ (mt2 (List.mem_of_getElem? (i := 180) rfl)) rfl a
theorem wd_2_181 {U : State} {a : Array Value} (h : TW U) : (Cond.code yX0_line cX0_line 1 (some .int)).before a U = true := h _ (mt2 (List.mem_of_getElem? (i := 181) rfl)) rfl a
theorem wd_2_182 {U : State} {a : Array Value} (h : TW U) : (Cond.methodLink RX0 52 yX0_liquid).before a U = true := h _ (mt2 (List.mem_of_getElem? (i := 182) rfl)) rfl a
theorem wd_2_184 {U : State} {a : Array Value} (h : TW U) : (Cond.instanceMethod yX0_liquid).before a U = true := h _ (mt2 (List.mem_of_getElem? (i := 184) rfl)) rfl a
theorem wd_2_185 {U : State} {a : Array Value} (h : TW U) : (Cond.code yX0_liquid cX0_liquid 1 (some .int)).before a U = true := h _ (mt2 (List.mem_of_getElem? (i := 185) rfl)) rfl a
theorem wd_2_186 {U : State} {a : Array Value} (h : TW U) : (Cond.methodLink RX0 68 Lib.Math.min.name).before a U = true := h _ (mt2 (List.mem_of_getElem? (i := 186) rfl)) rfl a
theorem wd_2_187 {U : State} {a : Array Value} (h : TW U) : (Cond.methodLink RX5 133 yX0_scrape).before a U = true := h _ (mt2 (List.mem_of_getElem? (i := 187) rfl)) rfl a
theorem wd_2_188 {U : State} {a : Array Value} (h : TW U) : (Cond.instanceMethod yX0_scrape).before a U = true := h _ (mt2 (List.mem_of_getElem? (i := 188) rfl)) rfl a
theorem wd_2_189 {U : State} {a : Array Value} (h : TW U) : (Cond.selects RX0 yX0_scrape yX0_scrape).before a U = true := h _ (mt2 (List.mem_of_getElem? (i := 189) rfl)) rfl a
theorem wd_2_190 {U : State} {a : Array Value} (h : TW U) : (Cond.code yX0_scrape cX0_scrape 3 none).before a U = true := h _ (mt2 (List.mem_of_getElem? (i := 190) rfl)) rfl a
theorem wd_2_191 {U : State} {a : Array Value} (h : TW U) : (Cond.methodLink RX0 71 yX2_add).before a U = true := h _ (mt2 (List.mem_of_getElem? (i := 191) rfl)) rfl a
theorem wd_2_192 {U : State} {a : Array Value} (h : TW U) : (Cond.instanceMethod yX2_add).before a U = true := h _ (mt2 (List.mem_of_getElem? (i := 192) rfl)) rfl a
theorem wd_2_193 {U : State} {a : Array Value} (h : TW U) : (Cond.selects RX2 yX2_add yX2_add).before a U = true := h _ (mt2 (List.mem_of_getElem? (i := 193) rfl)) rfl a
theorem wd_2_194 {U : State} {a : Array Value} (h : TW U) : (Cond.code yX2_add cX2_add 3 none).before a U = true := h _ (mt2 (List.mem_of_getElem? (i := 194) rfl)) rfl a
theorem wd_2_195 {U : State} {a : Array Value} (h : TW U) : (Cond.methodLinkNest RX2 19 yX8_at RX8).before a U = true := h _ (mt2 (List.mem_of_getElem? (i := 195) rfl)) rfl a
theorem wd_2_196 {U : State} {a : Array Value} (h : TW U) : (Cond.methodLinkNest RX2 23 yX8_put RX8).before a U = true := h _ (mt2 (List.mem_of_getElem? (i := 196) rfl)) rfl a
theorem wd_2_197 {U : State} {a : Array Value} (h : TW U) : (Cond.methodLink RX5 136 yX0_beat).before a U = true := h _ (mt2 (List.mem_of_getElem? (i := 197) rfl)) rfl a
theorem wd_2_198 {U : State} {a : Array Value} (h : TW U) : (Cond.instanceMethod yX0_beat).before a U = true := h _ (mt2 (List.mem_of_getElem? (i := 198) rfl)) rfl a
theorem wd_2_199 {U : State} {a : Array Value} (h : TW U) : (Cond.selects RX0 yX0_beat yX0_beat).before a U = true := h _ (mt2 (List.mem_of_getElem? (i := 199) rfl)) rfl a
theorem wd_2_200 {U : State} {a : Array Value} (h : TW U) : (Cond.code yX0_beat cX0_beat 3 none).before a U = true := h _ (mt2 (List.mem_of_getElem? (i := 200) rfl)) rfl a
theorem wd_2_201 {U : State} {a : Array Value} (h : TW U) : (Cond.methodLink RX5 139 yX1_pass).before a U = true := h _ (mt2 (List.mem_of_getElem? (i := 201) rfl)) rfl a
theorem wd_2_202 {U : State} {a : Array Value} (h : TW U) : (Cond.instanceMethod yX1_pass).before a U = true := h _ (mt2 (List.mem_of_getElem? (i := 202) rfl)) rfl a
theorem wd_2_203 {U : State} {a : Array Value} (h : TW U) : (Cond.selects RX1 yX1_pass yX1_pass).before a U = true := h _ (mt2 (List.mem_of_getElem? (i := 203) rfl)) rfl a
theorem wd_2_204 {U : State} {a : Array Value} (h : TW U) : (Cond.code yX1_pass cX1_pass 5 none).before a U = true := h _ (mt2 (List.mem_of_getElem? (i := 204) rfl)) rfl a
theorem wd_2_205 {U : State} {a : Array Value} (h : TW U) : (Cond.methodLink RX1 19 yX1_weariness).before a U = true := h _ (mt2 (List.mem_of_getElem? (i := 205) rfl)) rfl a
theorem wd_2_206 {U : State} {a : Array Value} (h : TW U) : (Cond.methodLink RX1 23 Lib.Math.max.name).before a U = true := h _ (mt2 (List.mem_of_getElem? (i := 206) rfl)) rfl a
theorem wd_2_207 {U : State} {a : Array Value} (h : TW U) : (Cond.methodLinkNest RX1 29 yX8_put RX8).before a U = true := h _ (mt2 (List.mem_of_getElem? (i := 207) rfl)) rfl a
theorem wd_2_208 {U : State} {a : Array Value} (h : TW U) : (Cond.methodLinkNest RX5 142 yX8_put RX8).before a U = true := h _ (mt2 (List.mem_of_getElem? (i := 208) rfl)) rfl a
theorem wd_2_209 {U : State} {a : Array Value} (h : TW U) : (Cond.methodLink RX8 102 yX5_number).before a U = true := h _ (mt2 (List.mem_of_getElem? (i := 209) rfl)) rfl a
theorem wd_2_210 {U : State} {a : Array Value} (h : TW U) : (Cond.instanceMethod yX5_number).before a U = true := h _ (mt2 (List.mem_of_getElem? (i := 210) rfl)) rfl a
theorem wd_2_211 {U : State} {a : Array Value} (h : TW U) : (Cond.selects RX5 yX5_number yX5_number).before a U = true := h _ (mt2 (List.mem_of_getElem? (i := 211) rfl)) rfl a
theorem wd_2_212 {U : State} {a : Array Value} (h : TW U) : (Cond.code yX5_number cX5_number 2 (some .int)).before a U = true := h _ (mt2 (List.mem_of_getElem? (i := 212) rfl)) rfl a
theorem wd_2_213 {U : State} {a : Array Value} (h : TW U) : (Cond.methodLink RX5 173 yX2_coarse).before a U = true := h _ (mt2 (List.mem_of_getElem? (i := 213) rfl)) rfl a
theorem wd_2_214 {U : State} {a : Array Value} (h : TW U) : (Cond.instanceMethod yX2_coarse).before a U = true := h _ (mt2 (List.mem_of_getElem? (i := 214) rfl)) rfl a
theorem wd_2_215 {U : State} {a : Array Value} (h : TW U) : (Cond.selects RX2 yX2_coarse yX2_coarse).before a U = true := h _ (mt2 (List.mem_of_getElem? (i := 215) rfl)) rfl a
theorem wd_2_216 {U : State} {a : Array Value} (h : TW U) : (Cond.code yX2_coarse cX2_coarse 3 (some .int)).before a U = true := h _ (mt2 (List.mem_of_getElem? (i := 216) rfl)) rfl a
theorem wd_2_217 {U : State} {a : Array Value} (h : TW U) : (Cond.methodLink RX2 27 yX2_gramsOf).before a U = true := h _ (mt2 (List.mem_of_getElem? (i := 217) rfl)) rfl a
theorem wd_2_218 {U : State} {a : Array Value} (h : TW U) : (Cond.instanceMethod yX2_gramsOf).before a U = true := h _ (mt2 (List.mem_of_getElem? (i := 218) rfl)) rfl a
theorem wd_2_219 {U : State} {a : Array Value} (h : TW U) : (Cond.selects RX2 yX2_gramsOf yX2_gramsOf).before a U = true := h _ (mt2 (List.mem_of_getElem? (i := 219) rfl)) rfl a
theorem wd_2_220 {U : State} {a : Array Value} (h : TW U) : (Cond.code yX2_gramsOf cX2_gramsOf 2 (some .int)).before a U = true := h _ (mt2 (List.mem_of_getElem? (i := 220) rfl)) rfl a
theorem wd_2_221 {U : State} {a : Array Value} (h : TW U) : (Cond.methodLinkNest RX2 31 yX8_quotient RX8).before a U = true := h _ (mt2 (List.mem_of_getElem? (i := 221) rfl)) rfl a
theorem wd_2_222 {U : State} {a : Array Value} (h : TW U) : (Cond.methodLink RX5 176 yX0_line).before a U = true := h _ (mt2 (List.mem_of_getElem? (i := 222) rfl)) rfl a
theorem wd_2_223 {U : State} {a : Array Value} (h : TW U) : (Cond.methodLink RL 44 yX8_flakes).before a U = true := h _ (mt2 (List.mem_of_getElem? (i := 223) rfl)) rfl a
theorem wd_2_224 {U : State} {a : Array Value} (h : TW U) : (Cond.instanceMethod yX8_flakes).before a U = true := h _ (mt2 (List.mem_of_getElem? (i := 224) rfl)) rfl a
theorem wd_2_225 {U : State} {a : Array Value} (h : TW U) : (Cond.selects RX8 yX8_flakes yX8_flakes).before a U = true := h _ (mt2 (List.mem_of_getElem? (i := 225) rfl)) rfl a
theorem wd_2_226 {U : State} {a : Array Value} (h : TW U) : (Cond.code yX8_flakes cX8_flakes 3 (some .int)).before a U = true := h _ (mt2 (List.mem_of_getElem? (i := 226) rfl)) rfl a
theorem wd_2_227 {U : State} {a : Array Value} (h : TW U) : (Cond.methodLink RX8 113 yX2_gramsOf).before a U = true := h _ (mt2 (List.mem_of_getElem? (i := 227) rfl)) rfl a
theorem wd_2_228 {U : State} {a : Array Value} (h : TW U) : (Cond.methodLink RL 48 yX8_tired).before a U = true := h _ (mt2 (List.mem_of_getElem? (i := 228) rfl)) rfl a
theorem wd_2_229 {U : State} {a : Array Value} (h : TW U) : (Cond.instanceMethod yX8_tired).before a U = true := h _ (mt2 (List.mem_of_getElem? (i := 229) rfl)) rfl a
theorem wd_2_230 {U : State} {a : Array Value} (h : TW U) : (Cond.selects RX8 yX8_tired yX8_tired).before a U = true := h _ (mt2 (List.mem_of_getElem? (i := 230) rfl)) rfl a
theorem wd_2_231 {U : State} {a : Array Value} (h : TW U) : (Cond.code yX8_tired cX8_tired 3 (some .int)).before a U = true := h _ (mt2 (List.mem_of_getElem? (i := 231) rfl)) rfl a
theorem wd_2_232 {U : State} {a : Array Value} (h : TW U) : (Cond.methodLink RX8 122 yX1_weariness).before a U = true := h _ (mt2 (List.mem_of_getElem? (i := 232) rfl)) rfl a
theorem wd_2_233 {U : State} {a : Array Value} (h : TW U) : (Cond.methodLink RL 52 yX8_held).before a U = true := h _ (mt2 (List.mem_of_getElem? (i := 233) rfl)) rfl a
theorem wd_2_234 {U : State} {a : Array Value} (h : TW U) : (Cond.instanceMethod yX8_held).before a U = true := h _ (mt2 (List.mem_of_getElem? (i := 234) rfl)) rfl a
theorem wd_2_235 {U : State} {a : Array Value} (h : TW U) : (Cond.selects RX8 yX8_held yX8_held).before a U = true := h _ (mt2 (List.mem_of_getElem? (i := 235) rfl)) rfl a
theorem wd_2_236 {U : State} {a : Array Value} (h : TW U) : (Cond.code yX8_held cX8_held 2 (some .int)).before a U = true := h _ (mt2 (List.mem_of_getElem? (i := 236) rfl)) rfl a
theorem wd_2_237 {U : State} {a : Array Value} (h : TW U) : (Cond.methodLink RX8 127 yX8_runAsTold).before a U = true := h _ (mt2 (List.mem_of_getElem? (i := 237) rfl)) rfl a
theorem wd_2_239 {U : State} {a : Array Value} (h : TW U) : (Cond.instanceMethod yX8_runAsTold).before a U = true := h _ (mt2 (List.mem_of_getElem? (i := 239) rfl)) rfl a
theorem wd_3_0 {U : State} {a : Array Value} (h : TW U) : (Cond.code yX8_runAsTold cX8_runAsTold 1 none).before a U = true := h _ (mt3 (List.mem_of_getElem? (i := 0) rfl)) rfl a
theorem wd_3_1 {U : State} {a : Array Value} (h : TW U) : (Cond.methodLink RL 56 yX8_order).before a U = true := h _ (mt3 (List.mem_of_getElem? (i := 1) rfl)) rfl a
theorem wd_3_2 {U : State} {a : Array Value} (h : TW U) : (Cond.instanceMethod yX8_order).before a U = true := h _ (mt3 (List.mem_of_getElem? (i := 2) rfl)) rfl a
theorem wd_3_3 {U : State} {a : Array Value} (h : TW U) : (Cond.selects RX8 yX8_order yX8_order).before a U = true := h _ (mt3 (List.mem_of_getElem? (i := 3) rfl)) rfl a
theorem wd_3_4 {U : State} {a : Array Value} (h : TW U) : (Cond.code yX8_order cX8_order 3 (some .int)).before a U = true := h _ (mt3 (List.mem_of_getElem? (i := 4) rfl)) rfl a
theorem wd_3_5 {U : State} {a : Array Value} (h : TW U) : (Cond.methodLink RX8 136 yX8_bestWay).before a U = true := h _ (mt3 (List.mem_of_getElem? (i := 5) rfl)) rfl a
theorem wd_3_7 {U : State} {a : Array Value} (h : TW U) : (Cond.instanceMethod yX8_bestWay).before a U = true := h _ (mt3 (List.mem_of_getElem? (i := 7) rfl)) rfl a
theorem wd_3_8 {U : State} {a : Array Value} (h : TW U) : (Cond.code yX8_bestWay cX8_bestWay 7 (some .int)).before a U = true := h _ (mt3 (List.mem_of_getElem? (i := 8) rfl)) rfl a
theorem wd_3_9 {U : State} {a : Array Value} (h : TW U) : (Cond.methodLink RX8 205 yX8_hasEachChild).before a U = true := h _ (mt3 (List.mem_of_getElem? (i := 9) rfl)) rfl a
theorem wd_3_10 {U : State} {a : Array Value} (h : TW U) : (Cond.static yX8_hasEachChild).before a U = true := h _ (mt3 (List.mem_of_getElem? (i := 10) rfl)) rfl a
theorem wd_3_11 {U : State} {a : Array Value} (h : TW U) : (Cond.code yX8_hasEachChild cX8_hasEachChild 3 (some .boolean)).before a U = true := h _ (mt3 (List.mem_of_getElem? (i := 11) rfl)) rfl a
theorem wd_3_12 {U : State} {a : Array Value} (h : TW U) : (Cond.methodLink RX8 139 yX8_childInPlace).before a U = true := h _ (mt3 (List.mem_of_getElem? (i := 12) rfl)) rfl a
theorem wd_3_13 {U : State} {a : Array Value} (h : TW U) : (Cond.methodLink RL 60 yX8_bestSalt).before a U = true := h _ (mt3 (List.mem_of_getElem? (i := 13) rfl)) rfl a
theorem wd_3_14 {U : State} {a : Array Value} (h : TW U) : (Cond.instanceMethod yX8_bestSalt).before a U = true := h _ (mt3 (List.mem_of_getElem? (i := 14) rfl)) rfl a
theorem wd_3_15 {U : State} {a : Array Value} (h : TW U) : (Cond.selects RX8 yX8_bestSalt yX8_bestSalt).before a U = true := h _ (mt3 (List.mem_of_getElem? (i := 15) rfl)) rfl a
theorem wd_3_16 {U : State} {a : Array Value} (h : TW U) : (Cond.code yX8_bestSalt cX8_bestSalt 3 (some .int)).before a U = true := h _ (mt3 (List.mem_of_getElem? (i := 16) rfl)) rfl a
theorem wd_3_17 {U : State} {a : Array Value} (h : TW U) : (Cond.methodLink RX8 150 yX8_leastCoarseSalt).before a U = true := h _ (mt3 (List.mem_of_getElem? (i := 17) rfl)) rfl a
theorem wd_3_19 {U : State} {a : Array Value} (h : TW U) : (Cond.instanceMethod yX8_leastCoarseSalt).before a U = true := h _ (mt3 (List.mem_of_getElem? (i := 19) rfl)) rfl a
theorem wd_3_20 {U : State} {a : Array Value} (h : TW U) : (Cond.code yX8_leastCoarseSalt cX8_leastCoarseSalt 5 (some .int)).before a U = true := h _ (mt3 (List.mem_of_getElem? (i := 20) rfl)) rfl a
theorem wd_3_21 {U : State} {a : Array Value} (h : TW U) : (Cond.methodLink RX8 208 yX8_coarseOfEnough).before a U = true := h _ (mt3 (List.mem_of_getElem? (i := 21) rfl)) rfl a
theorem wd_3_23 {U : State} {a : Array Value} (h : TW U) : (Cond.instanceMethod yX8_coarseOfEnough).before a U = true := h _ (mt3 (List.mem_of_getElem? (i := 23) rfl)) rfl a
theorem wd_3_24 {U : State} {a : Array Value} (h : TW U) : (Cond.code yX8_coarseOfEnough cX8_coarseOfEnough 2 (some .int)).before a U = true := h _ (mt3 (List.mem_of_getElem? (i := 24) rfl)) rfl a
theorem wd_3_25 {U : State} {a : Array Value} (h : TW U) : (Cond.methodLink RX8 153 yX2_coarse).before a U = true := h _ (mt3 (List.mem_of_getElem? (i := 25) rfl)) rfl a
theorem wd_3_26 {U : State} {a : Array Value} (h : TW U) : (Cond.methodLink RL 64 yX8_bestPace).before a U = true := h _ (mt3 (List.mem_of_getElem? (i := 26) rfl)) rfl a
theorem wd_3_27 {U : State} {a : Array Value} (h : TW U) : (Cond.instanceMethod yX8_bestPace).before a U = true := h _ (mt3 (List.mem_of_getElem? (i := 27) rfl)) rfl a
theorem wd_3_28 {U : State} {a : Array Value} (h : TW U) : (Cond.selects RX8 yX8_bestPace yX8_bestPace).before a U = true := h _ (mt3 (List.mem_of_getElem? (i := 28) rfl)) rfl a
theorem wd_3_29 {U : State} {a : Array Value} (h : TW U) : (Cond.code yX8_bestPace cX8_bestPace 3 (some .int)).before a U = true := h _ (mt3 (List.mem_of_getElem? (i := 29) rfl)) rfl a
theorem wd_3_30 {U : State} {a : Array Value} (h : TW U) : (Cond.methodLink RX8 156 yX8_leastCoarsePace).before a U = true := h _ (mt3 (List.mem_of_getElem? (i := 30) rfl)) rfl a
theorem wd_3_32 {U : State} {a : Array Value} (h : TW U) : (Cond.instanceMethod yX8_leastCoarsePace).before a U = true := h _ (mt3 (List.mem_of_getElem? (i := 32) rfl)) rfl a
theorem wd_3_33 {U : State} {a : Array Value} (h : TW U) : (Cond.code yX8_leastCoarsePace cX8_leastCoarsePace 5 (some .int)).before a U = true := h _ (mt3 (List.mem_of_getElem? (i := 33) rfl)) rfl a
theorem wd_3_34 {U : State} {a : Array Value} (h : TW U) : (Cond.methodLink RL 68 yX8_leaveOff).before a U = true := h _ (mt3 (List.mem_of_getElem? (i := 34) rfl)) rfl a
theorem wd_3_35 {U : State} {a : Array Value} (h : TW U) : (Cond.instanceMethod yX8_leaveOff).before a U = true := h _ (mt3 (List.mem_of_getElem? (i := 35) rfl)) rfl a
theorem wd_3_36 {U : State} {a : Array Value} (h : TW U) : (Cond.selects RX8 yX8_leaveOff yX8_leaveOff).before a U = true := h _ (mt3 (List.mem_of_getElem? (i := 36) rfl)) rfl a
theorem wd_3_37 {U : State} {a : Array Value} (h : TW U) : (Cond.code yX8_leaveOff cX8_leaveOff 3 (some .int)).before a U = true := h _ (mt3 (List.mem_of_getElem? (i := 37) rfl)) rfl a
theorem wd_3_38 {U : State} {a : Array Value} (h : TW U) : (Cond.methodLink RL 72 yX8_box).before a U = true := h _ (mt3 (List.mem_of_getElem? (i := 38) rfl)) rfl a
theorem wd_3_39 {U : State} {a : Array Value} (h : TW U) : (Cond.instanceMethod yX8_box).before a U = true := h _ (mt3 (List.mem_of_getElem? (i := 39) rfl)) rfl a
theorem wd_3_40 {U : State} {a : Array Value} (h : TW U) : (Cond.selects RX8 yX8_box yX8_box).before a U = true := h _ (mt3 (List.mem_of_getElem? (i := 40) rfl)) rfl a
theorem wd_3_41 {U : State} {a : Array Value} (h : TW U) : (Cond.code yX8_box cX8_box 1 (some .int)).before a U = true := h _ (mt3 (List.mem_of_getElem? (i := 41) rfl)) rfl a
theorem wd_3_42 {U : State} {a : Array Value} (h : TW U) : (Cond.methodLink RX8 166 yX6_copyFrom).before a U = true := h _ (mt3 (List.mem_of_getElem? (i := 42) rfl)) rfl a
theorem wd_3_43 {U : State} {a : Array Value} (h : TW U) : (Cond.instanceMethod yX6_copyFrom).before a U = true := h _ (mt3 (List.mem_of_getElem? (i := 43) rfl)) rfl a
theorem wd_3_44 {U : State} {a : Array Value} (h : TW U) : (Cond.selects RX6 yX6_copyFrom yX6_copyFrom).before a U = true := h _ (mt3 (List.mem_of_getElem? (i := 44) rfl)) rfl a
theorem wd_3_45 {U : State} {a : Array Value} (h : TW U) : (Cond.code yX6_copyFrom cX6_copyFrom 2 none).before a U = true := h _ (mt3 (List.mem_of_getElem? (i := 45) rfl)) rfl a
theorem wd_3_46 {U : State} {a : Array Value} (h : TW U) : (Cond.methodLinkNest RX6 34 yX8_copyRow RX8).before a U = true := h _ (mt3 (List.mem_of_getElem? (i := 46) rfl)) rfl a
theorem wd_3_47 {U : State} {a : Array Value} (h : TW U) : (Cond.static yX8_copyRow).before a U = true := h _ (mt3 (List.mem_of_getElem? (i := 47) rfl)) rfl a
theorem wd_3_48 {U : State} {a : Array Value} (h : TW U) : (Cond.code yX8_copyRow cX8_copyRow 3 none).before a U = true := h _ (mt3 (List.mem_of_getElem? (i := 48) rfl)) rfl a
theorem wd_3_49 {U : State} {a : Array Value} (h : TW U) : (Cond.methodLink RL 76 yX8_stored).before a U = true := h _ (mt3 (List.mem_of_getElem? (i := 49) rfl)) rfl a
theorem wd_3_50 {U : State} {a : Array Value} (h : TW U) : (Cond.instanceMethod yX8_stored).before a U = true := h _ (mt3 (List.mem_of_getElem? (i := 50) rfl)) rfl a
theorem wd_3_51 {U : State} {a : Array Value} (h : TW U) : (Cond.selects RX8 yX8_stored yX8_stored).before a U = true := h _ (mt3 (List.mem_of_getElem? (i := 51) rfl)) rfl a
theorem wd_3_52 {U : State} {a : Array Value} (h : TW U) : (Cond.code yX8_stored cX8_stored 2 (some .int)).before a U = true := h _ (mt3 (List.mem_of_getElem? (i := 52) rfl)) rfl a
theorem wd_3_53 {U : State} {a : Array Value} (h : TW U) : (Cond.methodLink RX8 169 yX8_growFor).before a U = true := h _ (mt3 (List.mem_of_getElem? (i := 53) rfl)) rfl a
theorem wd_3_55 {U : State} {a : Array Value} (h : TW U) : (Cond.instanceMethod yX8_growFor).before a U = true := h _ (mt3 (List.mem_of_getElem? (i := 55) rfl)) rfl a
theorem wd_3_56 {U : State} {a : Array Value} (h : TW U) : (Cond.code yX8_growFor cX8_growFor 3 none).before a U = true := h _ (mt3 (List.mem_of_getElem? (i := 56) rfl)) rfl a
theorem wd_3_57 {U : State} {a : Array Value} (h : TW U) : (Cond.methodLink RX8 172 yX8_growOn).before a U = true := h _ (mt3 (List.mem_of_getElem? (i := 57) rfl)) rfl a
theorem wd_3_59 {U : State} {a : Array Value} (h : TW U) : (Cond.instanceMethod yX8_growOn).before a U = true := h _ (mt3 (List.mem_of_getElem? (i := 59) rfl)) rfl a
theorem wd_3_60 {U : State} {a : Array Value} (h : TW U) : (Cond.code yX8_growOn cX8_growOn 3 none).before a U = true := h _ (mt3 (List.mem_of_getElem? (i := 60) rfl)) rfl a
theorem wd_3_61 {U : State} {a : Array Value} (h : TW U) : (Cond.methodLink RX8 211 yX6_digitAt).before a U = true := h _ (mt3 (List.mem_of_getElem? (i := 61) rfl)) rfl a
theorem wd_3_62 {U : State} {a : Array Value} (h : TW U) : (Cond.methodLink RX8 214 yX2_grow).before a U = true := h _ (mt3 (List.mem_of_getElem? (i := 62) rfl)) rfl a
theorem wd_3_63 {U : State} {a : Array Value} (h : TW U) : (Cond.instanceMethod yX2_grow).before a U = true := h _ (mt3 (List.mem_of_getElem? (i := 63) rfl)) rfl a
theorem wd_3_64 {U : State} {a : Array Value} (h : TW U) : (Cond.selects RX2 yX2_grow yX2_grow).before a U = true := h _ (mt3 (List.mem_of_getElem? (i := 64) rfl)) rfl a
theorem wd_3_65 {U : State} {a : Array Value} (h : TW U) : (Cond.code yX2_grow cX2_grow 5 none).before a U = true := h _ (mt3 (List.mem_of_getElem? (i := 65) rfl)) rfl a
theorem wd_3_66 {U : State} {a : Array Value} (h : TW U) : (Cond.methodLink RX2 35 yX2_add).before a U = true := h _ (mt3 (List.mem_of_getElem? (i := 66) rfl)) rfl a
theorem wd_3_67 {U : State} {a : Array Value} (h : TW U) : (Cond.methodLink RX2 39 Lib.Math.min.name).before a U = true := h _ (mt3 (List.mem_of_getElem? (i := 67) rfl)) rfl a
theorem wd_3_68 {U : State} {a : Array Value} (h : TW U) : (Cond.methodLink RL 80 yX8_grown).before a U = true := h _ (mt3 (List.mem_of_getElem? (i := 68) rfl)) rfl a
theorem wd_3_69 {U : State} {a : Array Value} (h : TW U) : (Cond.instanceMethod yX8_grown).before a U = true := h _ (mt3 (List.mem_of_getElem? (i := 69) rfl)) rfl a
theorem wd_3_70 {U : State} {a : Array Value} (h : TW U) : (Cond.selects RX8 yX8_grown yX8_grown).before a U = true := h _ (mt3 (List.mem_of_getElem? (i := 70) rfl)) rfl a
theorem wd_3_71 {U : State} {a : Array Value} (h : TW U) : (Cond.code yX8_grown cX8_grown 3 (some .int)).before a U = true := h _ (mt3 (List.mem_of_getElem? (i := 71) rfl)) rfl a
theorem wd_3_72 {U : State} {a : Array Value} (h : TW U) : (Cond.methodLink RL 84 yX8_sand).before a U = true := h _ (mt3 (List.mem_of_getElem? (i := 72) rfl)) rfl a
theorem wd_3_73 {U : State} {a : Array Value} (h : TW U) : (Cond.instanceMethod yX8_sand).before a U = true := h _ (mt3 (List.mem_of_getElem? (i := 73) rfl)) rfl a
theorem wd_3_74 {U : State} {a : Array Value} (h : TW U) : (Cond.selects RX8 yX8_sand yX8_sand).before a U = true := h _ (mt3 (List.mem_of_getElem? (i := 74) rfl)) rfl a
theorem wd_3_75 {U : State} {a : Array Value} (h : TW U) : (Cond.code yX8_sand cX8_sand 2 (some .int)).before a U = true := h _ (mt3 (List.mem_of_getElem? (i := 75) rfl)) rfl a
theorem wd_3_76 {U : State} {a : Array Value} (h : TW U) : (Cond.methodLink RL 88 yX8_iceAt).before a U = true := h _ (mt3 (List.mem_of_getElem? (i := 76) rfl)) rfl a
theorem wd_3_77 {U : State} {a : Array Value} (h : TW U) : (Cond.instanceMethod yX8_iceAt).before a U = true := h _ (mt3 (List.mem_of_getElem? (i := 77) rfl)) rfl a
theorem wd_3_78 {U : State} {a : Array Value} (h : TW U) : (Cond.selects RX8 yX8_iceAt yX8_iceAt).before a U = true := h _ (mt3 (List.mem_of_getElem? (i := 78) rfl)) rfl a
theorem wd_3_79 {U : State} {a : Array Value} (h : TW U) : (Cond.code yX8_iceAt cX8_iceAt 9 (some .long)).before a U = true := h _ (mt3 (List.mem_of_getElem? (i := 79) rfl)) rfl a
theorem wd_3_80 {U : State} {a : Array Value} (h : TW U) : (Cond.methodLink RX8 175 yX8_isTenths).before a U = true := h _ (mt3 (List.mem_of_getElem? (i := 80) rfl)) rfl a
theorem wd_3_81 {U : State} {a : Array Value} (h : TW U) : (Cond.static yX8_isTenths).before a U = true := h _ (mt3 (List.mem_of_getElem? (i := 81) rfl)) rfl a
theorem wd_3_82 {U : State} {a : Array Value} (h : TW U) : (Cond.code yX8_isTenths cX8_isTenths 1 (some .boolean)).before a U = true := h _ (mt3 (List.mem_of_getElem? (i := 82) rfl)) rfl a
theorem wd_3_83 {U : State} {a : Array Value} (h : TW U) : (Cond.constantLong RX8 178 (-1000000000000000002)).before a U = true := h _ (mt3 (List.mem_of_getElem? (i := 83) rfl)) rfl a
theorem wd_3_84 {U : State} {a : Array Value} (h : TW U) : (Cond.constantLong RX8 180 (54)).before a U = true := h _ (mt3 (List.mem_of_getElem? (i := 84) rfl)) rfl a
theorem wd_3_85 {U : State} {a : Array Value} (h : TW U) : (Cond.methodLink RX8 182 Lib.MathLoose.max_long.x).before a U = true := h _ (mt3 (List.mem_of_getElem? (i := 85) rfl)) rfl a
theorem wd_3_86 {U : State} {a : Array Value} (h : TW U) : (Cond.static Lib.MathLoose.max_long.x).before a U = true := h _ (mt3 (List.mem_of_getElem? (i := 86) rfl)) rfl a
theorem wd_3_87 {U : State} {a : Array Value} (h : TW U) : (Cond.code Lib.MathLoose.max_long.x Lib.MathLoose.max_long.code 4 (some .long)).before a U = true := h _ (mt3 (List.mem_of_getElem? (i := 87) rfl)) rfl a
theorem wd_3_88 {U : State} {a : Array Value} (h : TW U) : (Cond.methodLink RX8 188 yX8_commonDivisor).before a U = true := h _ (mt3 (List.mem_of_getElem? (i := 88) rfl)) rfl a
theorem wd_3_89 {U : State} {a : Array Value} (h : TW U) : (Cond.static yX8_commonDivisor).before a U = true := h _ (mt3 (List.mem_of_getElem? (i := 89) rfl)) rfl a
theorem wd_3_90 {U : State} {a : Array Value} (h : TW U) : (Cond.code yX8_commonDivisor cX8_commonDivisor 11 (some .long)).before a U = true := h _ (mt3 (List.mem_of_getElem? (i := 90) rfl)) rfl a
theorem wd_3_91 {U : State} {a : Array Value} (h : TW U) : (Cond.methodLink RL 93 yX8_soft).before a U = true := h _ (mt3 (List.mem_of_getElem? (i := 91) rfl)) rfl a
theorem wd_3_92 {U : State} {a : Array Value} (h : TW U) : (Cond.instanceMethod yX8_soft).before a U = true := h _ (mt3 (List.mem_of_getElem? (i := 92) rfl)) rfl a
theorem wd_3_93 {U : State} {a : Array Value} (h : TW U) : (Cond.selects RX8 yX8_soft yX8_soft).before a U = true := h _ (mt3 (List.mem_of_getElem? (i := 93) rfl)) rfl a
theorem wd_3_94 {U : State} {a : Array Value} (h : TW U) : (Cond.code yX8_soft cX8_soft 2 (some .int)).before a U = true := h _ (mt3 (List.mem_of_getElem? (i := 94) rfl)) rfl a
theorem wd_3_95 {U : State} {a : Array Value} (h : TW U) : (Cond.methodLink RX8 191 yX8_isSoft).before a U = true := h _ (mt3 (List.mem_of_getElem? (i := 95) rfl)) rfl a
theorem wd_3_97 {U : State} {a : Array Value} (h : TW U) : (Cond.instanceMethod yX8_isSoft).before a U = true := h _ (mt3 (List.mem_of_getElem? (i := 97) rfl)) rfl a
theorem wd_3_98 {U : State} {a : Array Value} (h : TW U) : (Cond.code yX8_isSoft cX8_isSoft 4 (some .boolean)).before a U = true := h _ (mt3 (List.mem_of_getElem? (i := 98) rfl)) rfl a
theorem wd_3_99 {U : State} {a : Array Value} (h : TW U) : (Cond.methodLink RL 97 yX8_sugarFor).before a U = true := h _ (mt3 (List.mem_of_getElem? (i := 99) rfl)) rfl a
theorem wd_3_100 {U : State} {a : Array Value} (h : TW U) : (Cond.instanceMethod yX8_sugarFor).before a U = true := h _ (mt3 (List.mem_of_getElem? (i := 100) rfl)) rfl a
theorem wd_3_101 {U : State} {a : Array Value} (h : TW U) : (Cond.selects RX8 yX8_sugarFor yX8_sugarFor).before a U = true := h _ (mt3 (List.mem_of_getElem? (i := 101) rfl)) rfl a
theorem wd_3_102 {U : State} {a : Array Value} (h : TW U) : (Cond.code yX8_sugarFor cX8_sugarFor 3 (some .int)).before a U = true := h _ (mt3 (List.mem_of_getElem? (i := 102) rfl)) rfl a
theorem wd_3_103 {U : State} {a : Array Value} (h : TW U) : (Cond.methodLink RL 101 yX8_image).before a U = true := h _ (mt3 (List.mem_of_getElem? (i := 103) rfl)) rfl a
theorem wd_3_104 {U : State} {a : Array Value} (h : TW U) : (Cond.instanceMethod yX8_image).before a U = true := h _ (mt3 (List.mem_of_getElem? (i := 104) rfl)) rfl a
theorem wd_3_105 {U : State} {a : Array Value} (h : TW U) : (Cond.selects RX8 yX8_image yX8_image).before a U = true := h _ (mt3 (List.mem_of_getElem? (i := 105) rfl)) rfl a
theorem wd_3_106 {U : State} {a : Array Value} (h : TW U) : (Cond.code yX8_image cX8_image 3 (some .int)).before a U = true := h _ (mt3 (List.mem_of_getElem? (i := 106) rfl)) rfl a
theorem wd_3_107 {U : State} {a : Array Value} (h : TW U) : (Cond.methodLink RX8 195 yX4_copyFrom).before a U = true := h _ (mt3 (List.mem_of_getElem? (i := 107) rfl)) rfl a
theorem wd_3_108 {U : State} {a : Array Value} (h : TW U) : (Cond.instanceMethod yX4_copyFrom).before a U = true := h _ (mt3 (List.mem_of_getElem? (i := 108) rfl)) rfl a
theorem wd_3_109 {U : State} {a : Array Value} (h : TW U) : (Cond.selects RX4 yX4_copyFrom yX4_copyFrom).before a U = true := h _ (mt3 (List.mem_of_getElem? (i := 109) rfl)) rfl a
theorem wd_3_110 {U : State} {a : Array Value} (h : TW U) : (Cond.code yX4_copyFrom cX4_copyFrom 2 none).before a U = true := h _ (mt3 (List.mem_of_getElem? (i := 110) rfl)) rfl a
theorem wd_3_111 {U : State} {a : Array Value} (h : TW U) : (Cond.methodLinkNest RX4 51 yX8_copyRow RX8).before a U = true := h _ (mt3 (List.mem_of_getElem? (i := 111) rfl)) rfl a
theorem wd_3_112 {U : State} {a : Array Value} (h : TW U) : (Cond.methodLink RX4 55 yX7_copyFrom).before a U = true := h _ (mt3 (List.mem_of_getElem? (i := 112) rfl)) rfl a
theorem wd_3_113 {U : State} {a : Array Value} (h : TW U) : (Cond.instanceMethod yX7_copyFrom).before a U = true := h _ (mt3 (List.mem_of_getElem? (i := 113) rfl)) rfl a
theorem wd_3_114 {U : State} {a : Array Value} (h : TW U) : (Cond.selects RX7 yX7_copyFrom yX7_copyFrom).before a U = true := h _ (mt3 (List.mem_of_getElem? (i := 114) rfl)) rfl a
theorem wd_3_115 {U : State} {a : Array Value} (h : TW U) : (Cond.code yX7_copyFrom cX7_copyFrom 2 none).before a U = true := h _ (mt3 (List.mem_of_getElem? (i := 115) rfl)) rfl a
theorem wd_3_116 {U : State} {a : Array Value} (h : TW U) : (Cond.methodLinkNest RX7 48 yX8_copyRow RX8).before a U = true := h _ (mt3 (List.mem_of_getElem? (i := 116) rfl)) rfl a
theorem wd_3_117 {U : State} {a : Array Value} (h : TW U) : (Cond.methodLink RX4 59 yX6_copyFrom).before a U = true := h _ (mt3 (List.mem_of_getElem? (i := 117) rfl)) rfl a
theorem wd_3_118 {U : State} {a : Array Value} (h : TW U) : (Cond.methodLink RL 105 yX8_restore).before a U = true := h _ (mt3 (List.mem_of_getElem? (i := 118) rfl)) rfl a
theorem wd_3_119 {U : State} {a : Array Value} (h : TW U) : (Cond.instanceMethod yX8_restore).before a U = true := h _ (mt3 (List.mem_of_getElem? (i := 119) rfl)) rfl a
theorem wd_3_120 {U : State} {a : Array Value} (h : TW U) : (Cond.selects RX8 yX8_restore yX8_restore).before a U = true := h _ (mt3 (List.mem_of_getElem? (i := 120) rfl)) rfl a
theorem wd_3_121 {U : State} {a : Array Value} (h : TW U) : (Cond.code yX8_restore cX8_restore 3 (some .int)).before a U = true := h _ (mt3 (List.mem_of_getElem? (i := 121) rfl)) rfl a
theorem wd_3_122 {U : State} {a : Array Value} (h : TW U) : (Cond.methodLink RL 109 yX8_told).before a U = true := h _ (mt3 (List.mem_of_getElem? (i := 122) rfl)) rfl a
theorem wd_3_123 {U : State} {a : Array Value} (h : TW U) : (Cond.instanceMethod yX8_told).before a U = true := h _ (mt3 (List.mem_of_getElem? (i := 123) rfl)) rfl a
theorem wd_3_124 {U : State} {a : Array Value} (h : TW U) : (Cond.selects RX8 yX8_told yX8_told).before a U = true := h _ (mt3 (List.mem_of_getElem? (i := 124) rfl)) rfl a
theorem wd_3_125 {U : State} {a : Array Value} (h : TW U) : (Cond.code yX8_told cX8_told 2 (some .int)).before a U = true := h _ (mt3 (List.mem_of_getElem? (i := 125) rfl)) rfl a
theorem wd_3_126 {U : State} {a : Array Value} (h : TW U) : (Cond.classLink RL 10 RX9).before a U = true := h _ (mt3 (List.mem_of_getElem? (i := 126) rfl)) rfl a
theorem wd_3_127 {U : State} {a : Array Value} (h : TW U) : (Cond.instantiable RX9 28).before a U = true := h _ (mt3 (List.mem_of_getElem? (i := 127) rfl)) rfl a
theorem wd_3_128 {U : State} {a : Array Value} (h : TW U) : (Cond.methodLink RL 12 yX9_init).before a U = true := h _ (mt3 (List.mem_of_getElem? (i := 128) rfl)) rfl a
theorem wd_3_129 {U : State} {a : Array Value} (h : TW U) : (Cond.instanceMethod yX9_init).before a U = true := h _ (mt3 (List.mem_of_getElem? (i := 129) rfl)) rfl a
theorem wd_3_130 {U : State} {a : Array Value} (h : TW U) : (Cond.code yX9_init cX9_init 2 none).before a U = true := h _ (mt3 (List.mem_of_getElem? (i := 130) rfl)) rfl a
theorem wd_3_131 {U : State} {a : Array Value} (h : TW U) : (Cond.methodLink RX9 1 Lib.objectInit).before a U = true := h _ (mt3 (List.mem_of_getElem? (i := 131) rfl)) rfl a
theorem wd_3_132 {U : State} {a : Array Value} (h : TW U) : (Cond.fieldLink RX9 7 RX9 "how" "[I").before a U = true := h _ (mt3 (List.mem_of_getElem? (i := 132) rfl)) rfl a
theorem wd_3_133 {U : State} {a : Array Value} (h : TW U) : (Cond.fieldLink RX9 13 RX9 "strong" "[I").before a U = true := h _ (mt3 (List.mem_of_getElem? (i := 133) rfl)) rfl a
theorem wd_3_134 {U : State} {a : Array Value} (h : TW U) : (Cond.fieldLink RX9 52 RX9 "signs" "I").before a U = true := h _ (mt3 (List.mem_of_getElem? (i := 134) rfl)) rfl a
theorem wd_3_135 {U : State} {a : Array Value} (h : TW U) : (Cond.fieldLink RX9 16 RX9 "pad" "[I").before a U = true := h _ (mt3 (List.mem_of_getElem? (i := 135) rfl)) rfl a
theorem wd_3_136 {U : State} {a : Array Value} (h : TW U) : (Cond.fieldLink RX9 70 RX9 "parts" "I").before a U = true := h _ (mt3 (List.mem_of_getElem? (i := 136) rfl)) rfl a
theorem wd_3_137 {U : State} {a : Array Value} (h : TW U) : (Cond.fieldLink RX9 19 RX9 "plan" "[I").before a U = true := h _ (mt3 (List.mem_of_getElem? (i := 137) rfl)) rfl a
theorem wd_3_138 {U : State} {a : Array Value} (h : TW U) : (Cond.fieldLink RX9 161 RX9 "swings" "I").before a U = true := h _ (mt3 (List.mem_of_getElem? (i := 138) rfl)) rfl a
theorem wd_3_139 {U : State} {a : Array Value} (h : TW U) : (Cond.fieldLink RX9 22 RX9 "box" "[I").before a U = true := h _ (mt3 (List.mem_of_getElem? (i := 139) rfl)) rfl a
theorem wd_3_140 {U : State} {a : Array Value} (h : TW U) : (Cond.fieldLink RX9 25 RX9 "instead" "[I").before a U = true := h _ (mt3 (List.mem_of_getElem? (i := 140) rfl)) rfl a
theorem wd_3_141 {U : State} {a : Array Value} (h : TW U) : (Cond.fieldLink RX9 76 RX9 "saltFirst" "I").before a U = true := h _ (mt3 (List.mem_of_getElem? (i := 141) rfl)) rfl a
theorem wd_3_142 {U : State} {a : Array Value} (h : TW U) : (Cond.fieldLink RX9 79 RX9 "paceOfAll" "I").before a U = true := h _ (mt3 (List.mem_of_getElem? (i := 142) rfl)) rfl a
theorem wd_3_143 {U : State} {a : Array Value} (h : TW U) : (Cond.fieldLink RX9 94 RX9 "ice" "I").before a U = true := h _ (mt3 (List.mem_of_getElem? (i := 143) rfl)) rfl a
theorem wd_3_144 {U : State} {a : Array Value} (h : TW U) : (Cond.fieldLink RX9 91 RX9 "salt" "I").before a U = true := h _ (mt3 (List.mem_of_getElem? (i := 144) rfl)) rfl a
theorem wd_3_145 {U : State} {a : Array Value} (h : TW U) : (Cond.fieldLink RX9 97 RX9 "brine" "I").before a U = true := h _ (mt3 (List.mem_of_getElem? (i := 145) rfl)) rfl a
theorem wd_3_146 {U : State} {a : Array Value} (h : TW U) : (Cond.fieldLink RX9 103 RX9 "cold" "I").before a U = true := h _ (mt3 (List.mem_of_getElem? (i := 146) rfl)) rfl a
theorem wd_3_147 {U : State} {a : Array Value} (h : TW U) : (Cond.fieldLink RX9 106 RX9 "warm" "I").before a U = true := h _ (mt3 (List.mem_of_getElem? (i := 147) rfl)) rfl a
theorem wd_3_148 {U : State} {a : Array Value} (h : TW U) : (Cond.fieldLink RX9 82 RX9 "frozen" "I").before a U = true := h _ (mt3 (List.mem_of_getElem? (i := 148) rfl)) rfl a
theorem wd_3_149 {U : State} {a : Array Value} (h : TW U) : (Cond.fieldLink RX9 85 RX9 "layer" "I").before a U = true := h _ (mt3 (List.mem_of_getElem? (i := 149) rfl)) rfl a
theorem wd_3_150 {U : State} {a : Array Value} (h : TW U) : (Cond.fieldLink RX9 88 RX9 "air" "I").before a U = true := h _ (mt3 (List.mem_of_getElem? (i := 150) rfl)) rfl a
theorem wd_3_151 {U : State} {a : Array Value} (h : TW U) : (Cond.fieldLink RX9 109 RX9 "churned" "I").before a U = true := h _ (mt3 (List.mem_of_getElem? (i := 151) rfl)) rfl a
theorem wd_3_152 {U : State} {a : Array Value} (h : TW U) : (Cond.fieldLink RX9 28 RX9 "flakes" "[I").before a U = true := h _ (mt3 (List.mem_of_getElem? (i := 152) rfl)) rfl a
theorem wd_3_153 {U : State} {a : Array Value} (h : TW U) : (Cond.fieldLink RX9 31 RX9 "tired" "[I").before a U = true := h _ (mt3 (List.mem_of_getElem? (i := 153) rfl)) rfl a
theorem wd_3_154 {U : State} {a : Array Value} (h : TW U) : (Cond.fieldLink RX9 112 RX9 "held" "I").before a U = true := h _ (mt3 (List.mem_of_getElem? (i := 154) rfl)) rfl a
theorem wd_3_155 {U : State} {a : Array Value} (h : TW U) : (Cond.fieldLink RX9 115 RX9 "heldFirst" "I").before a U = true := h _ (mt3 (List.mem_of_getElem? (i := 155) rfl)) rfl a
theorem wd_3_156 {U : State} {a : Array Value} (h : TW U) : (Cond.fieldLink RX9 134 RX9 "stiffWanted" "I").before a U = true := h _ (mt3 (List.mem_of_getElem? (i := 156) rfl)) rfl a
theorem wd_3_157 {U : State} {a : Array Value} (h : TW U) : (Cond.fieldLink RX9 118 RX9 "stiffFirst" "I").before a U = true := h _ (mt3 (List.mem_of_getElem? (i := 157) rfl)) rfl a
theorem wd_3_158 {U : State} {a : Array Value} (h : TW U) : (Cond.fieldLink RX9 34 RX9 "image" "[I").before a U = true := h _ (mt3 (List.mem_of_getElem? (i := 158) rfl)) rfl a
theorem wd_3_159 {U : State} {a : Array Value} (h : TW U) : (Cond.fieldLink RX9 37 RX9 "isKept" "[Z").before a U = true := h _ (mt3 (List.mem_of_getElem? (i := 159) rfl)) rfl a
theorem wd_3_217 {U : State} {a : Array Value} (h : TW U) : (Cond.arrayClass .boolean).before a U = true := h _ (mt3 (List.mem_of_getElem? (i := 217) rfl)) rfl a
theorem wd_3_218 {U : State} {a : Array Value} (h : TW U) : (Cond.methodLink RL 17 yX9_set).before a U = true := h _ (mt3 (List.mem_of_getElem? (i := 218) rfl)) rfl a
theorem wd_3_219 {U : State} {a : Array Value} (h : TW U) : (Cond.instanceMethod yX9_set).before a U = true := h _ (mt3 (List.mem_of_getElem? (i := 219) rfl)) rfl a
theorem wd_3_220 {U : State} {a : Array Value} (h : TW U) : (Cond.selects RX9 yX9_set yX9_set).before a U = true := h _ (mt3 (List.mem_of_getElem? (i := 220) rfl)) rfl a
theorem wd_3_221 {U : State} {a : Array Value} (h : TW U) : (Cond.code yX9_set cX9_set 4 (some .int)).before a U = true := h _ (mt3 (List.mem_of_getElem? (i := 221) rfl)) rfl a
theorem wd_3_222 {U : State} {a : Array Value} (h : TW U) : (Cond.methodLink RX9 41 yX9_in).before a U = true := h _ (mt3 (List.mem_of_getElem? (i := 222) rfl)) rfl a
theorem wd_3_223 {U : State} {a : Array Value} (h : TW U) : (Cond.static yX9_in).before a U = true := h _ (mt3 (List.mem_of_getElem? (i := 223) rfl)) rfl a
theorem wd_3_224 {U : State} {a : Array Value} (h : TW U) : (Cond.code yX9_in cX9_in 3 (some .boolean)).before a U = true := h _ (mt3 (List.mem_of_getElem? (i := 224) rfl)) rfl a
theorem wd_3_225 {U : State} {a : Array Value} (h : TW U) : (Cond.methodLink RX9 45 yX9_leastOf).before a U = true := h _ (mt3 (List.mem_of_getElem? (i := 225) rfl)) rfl a
theorem wd_3_226 {U : State} {a : Array Value} (h : TW U) : (Cond.static yX9_leastOf).before a U = true := h _ (mt3 (List.mem_of_getElem? (i := 226) rfl)) rfl a
theorem wd_3_227 {U : State} {a : Array Value} (h : TW U) : (Cond.code yX9_leastOf cX9_leastOf 1 (some .int)).before a U = true := h _ (mt3 (List.mem_of_getElem? (i := 227) rfl)) rfl a
theorem wd_3_228 {U : State} {a : Array Value} (h : TW U) : (Cond.methodLink RX9 49 yX9_mostOf).before a U = true := h _ (mt3 (List.mem_of_getElem? (i := 228) rfl)) rfl a
theorem wd_3_229 {U : State} {a : Array Value} (h : TW U) : (Cond.static yX9_mostOf).before a U = true := h _ (mt3 (List.mem_of_getElem? (i := 229) rfl)) rfl a
theorem wd_3_230 {U : State} {a : Array Value} (h : TW U) : (Cond.code yX9_mostOf cX9_mostOf 1 (some .int)).before a U = true := h _ (mt3 (List.mem_of_getElem? (i := 230) rfl)) rfl a
theorem wd_3_231 {U : State} {a : Array Value} (h : TW U) : (Cond.methodLink RL 21 yX9_strong).before a U = true := h _ (mt3 (List.mem_of_getElem? (i := 231) rfl)) rfl a
theorem wd_3_232 {U : State} {a : Array Value} (h : TW U) : (Cond.instanceMethod yX9_strong).before a U = true := h _ (mt3 (List.mem_of_getElem? (i := 232) rfl)) rfl a
theorem wd_3_233 {U : State} {a : Array Value} (h : TW U) : (Cond.selects RX9 yX9_strong yX9_strong).before a U = true := h _ (mt3 (List.mem_of_getElem? (i := 233) rfl)) rfl a
theorem wd_3_234 {U : State} {a : Array Value} (h : TW U) : (Cond.code yX9_strong cX9_strong 4 (some .int)).before a U = true := h _ (mt3 (List.mem_of_getElem? (i := 234) rfl)) rfl a
theorem wd_3_235 {U : State} {a : Array Value} (h : TW U) : (Cond.methodLink RL 26 yX9_say).before a U = true := h _ (mt3 (List.mem_of_getElem? (i := 235) rfl)) rfl a
theorem wd_3_236 {U : State} {a : Array Value} (h : TW U) : (Cond.instanceMethod yX9_say).before a U = true := h _ (mt3 (List.mem_of_getElem? (i := 236) rfl)) rfl a
theorem wd_3_237 {U : State} {a : Array Value} (h : TW U) : (Cond.selects RX9 yX9_say yX9_say).before a U = true := h _ (mt3 (List.mem_of_getElem? (i := 237) rfl)) rfl a
theorem wd_3_238 {U : State} {a : Array Value} (h : TW U) : (Cond.code yX9_say cX9_say 2 (some .int)).before a U = true := h _ (mt3 (List.mem_of_getElem? (i := 238) rfl)) rfl a
theorem wd_3_239 {U : State} {a : Array Value} (h : TW U) : (Cond.methodLink RL 31 yX9_wipe).before a U = true := h _ (mt3 (List.mem_of_getElem? (i := 239) rfl)) rfl a
theorem wd_4_0 {U : State} {a : Array Value} (h : TW U) : (Cond.instanceMethod yX9_wipe).before a U = true := h _ (mt4 (List.mem_of_getElem? (i := 0) rfl)) rfl a
theorem wd_4_1 {U : State} {a : Array Value} (h : TW U) : (Cond.selects RX9 yX9_wipe yX9_wipe).before a U = true := h _ (mt4 (List.mem_of_getElem? (i := 1) rfl)) rfl a
theorem wd_4_2 {U : State} {a : Array Value} (h : TW U) : (Cond.code yX9_wipe cX9_wipe 2 (some .int)).before a U = true := h _ (mt4 (List.mem_of_getElem? (i := 2) rfl)) rfl a
theorem wd_4_3 {U : State} {a : Array Value} (h : TW U) : (Cond.methodLink RL 35 yX9_fault).before a U = true := h _ (mt4 (List.mem_of_getElem? (i := 3) rfl)) rfl a
theorem wd_4_4 {U : State} {a : Array Value} (h : TW U) : (Cond.instanceMethod yX9_fault).before a U = true := h _ (mt4 (List.mem_of_getElem? (i := 4) rfl)) rfl a
theorem wd_4_5 {U : State} {a : Array Value} (h : TW U) : (Cond.selects RX9 yX9_fault yX9_fault).before a U = true := h _ (mt4 (List.mem_of_getElem? (i := 5) rfl)) rfl a
theorem wd_4_6 {U : State} {a : Array Value} (h : TW U) : (Cond.code yX9_fault cX9_fault 2 (some .int)).before a U = true := h _ (mt4 (List.mem_of_getElem? (i := 6) rfl)) rfl a
theorem wd_4_7 {U : State} {a : Array Value} (h : TW U) : (Cond.methodLink RX9 63 yX9_planFault).before a U = true := h _ (mt4 (List.mem_of_getElem? (i := 7) rfl)) rfl a
theorem wd_4_9 {U : State} {a : Array Value} (h : TW U) : (Cond.instanceMethod yX9_planFault).before a U = true := h _ (mt4 (List.mem_of_getElem? (i := 9) rfl)) rfl a
theorem wd_4_10 {U : State} {a : Array Value} (h : TW U) : (Cond.code yX9_planFault cX9_planFault 4 (some .int)).before a U = true := h _ (mt4 (List.mem_of_getElem? (i := 10) rfl)) rfl a
theorem wd_4_11 {U : State} {a : Array Value} (h : TW U) : (Cond.methodLink RX9 56 yX9_isWho).before a U = true := h _ (mt4 (List.mem_of_getElem? (i := 11) rfl)) rfl a
theorem wd_4_12 {U : State} {a : Array Value} (h : TW U) : (Cond.static yX9_isWho).before a U = true := h _ (mt4 (List.mem_of_getElem? (i := 12) rfl)) rfl a
theorem wd_4_13 {U : State} {a : Array Value} (h : TW U) : (Cond.code yX9_isWho cX9_isWho 1 (some .boolean)).before a U = true := h _ (mt4 (List.mem_of_getElem? (i := 13) rfl)) rfl a
theorem wd_4_14 {U : State} {a : Array Value} (h : TW U) : (Cond.methodLink RX9 60 yX9_isDigit).before a U = true := h _ (mt4 (List.mem_of_getElem? (i := 14) rfl)) rfl a
theorem wd_4_15 {U : State} {a : Array Value} (h : TW U) : (Cond.static yX9_isDigit).before a U = true := h _ (mt4 (List.mem_of_getElem? (i := 15) rfl)) rfl a
theorem wd_4_16 {U : State} {a : Array Value} (h : TW U) : (Cond.code yX9_isDigit cX9_isDigit 1 (some .boolean)).before a U = true := h _ (mt4 (List.mem_of_getElem? (i := 16) rfl)) rfl a
theorem wd_4_17 {U : State} {a : Array Value} (h : TW U) : (Cond.methodLink RX9 67 yX9_boxFault).before a U = true := h _ (mt4 (List.mem_of_getElem? (i := 17) rfl)) rfl a
theorem wd_4_19 {U : State} {a : Array Value} (h : TW U) : (Cond.instanceMethod yX9_boxFault).before a U = true := h _ (mt4 (List.mem_of_getElem? (i := 19) rfl)) rfl a
theorem wd_4_20 {U : State} {a : Array Value} (h : TW U) : (Cond.code yX9_boxFault cX9_boxFault 2 (some .int)).before a U = true := h _ (mt4 (List.mem_of_getElem? (i := 20) rfl)) rfl a
theorem wd_4_21 {U : State} {a : Array Value} (h : TW U) : (Cond.methodLink RL 39 yX9_plan).before a U = true := h _ (mt4 (List.mem_of_getElem? (i := 21) rfl)) rfl a
theorem wd_4_22 {U : State} {a : Array Value} (h : TW U) : (Cond.instanceMethod yX9_plan).before a U = true := h _ (mt4 (List.mem_of_getElem? (i := 22) rfl)) rfl a
theorem wd_4_23 {U : State} {a : Array Value} (h : TW U) : (Cond.selects RX9 yX9_plan yX9_plan).before a U = true := h _ (mt4 (List.mem_of_getElem? (i := 23) rfl)) rfl a
theorem wd_4_24 {U : State} {a : Array Value} (h : TW U) : (Cond.code yX9_plan cX9_plan 3 (some .int)).before a U = true := h _ (mt4 (List.mem_of_getElem? (i := 24) rfl)) rfl a
theorem wd_4_25 {U : State} {a : Array Value} (h : TW U) : (Cond.methodLink RX9 73 yX9_minutesOf).before a U = true := h _ (mt4 (List.mem_of_getElem? (i := 25) rfl)) rfl a
theorem wd_4_27 {U : State} {a : Array Value} (h : TW U) : (Cond.instanceMethod yX9_minutesOf).before a U = true := h _ (mt4 (List.mem_of_getElem? (i := 27) rfl)) rfl a
theorem wd_4_28 {U : State} {a : Array Value} (h : TW U) : (Cond.code yX9_minutesOf cX9_minutesOf 3 (some .int)).before a U = true := h _ (mt4 (List.mem_of_getElem? (i := 28) rfl)) rfl a
theorem wd_4_29 {U : State} {a : Array Value} (h : TW U) : (Cond.methodLink RL 43 yX9_after).before a U = true := h _ (mt4 (List.mem_of_getElem? (i := 29) rfl)) rfl a
theorem wd_4_30 {U : State} {a : Array Value} (h : TW U) : (Cond.instanceMethod yX9_after).before a U = true := h _ (mt4 (List.mem_of_getElem? (i := 30) rfl)) rfl a
theorem wd_4_31 {U : State} {a : Array Value} (h : TW U) : (Cond.selects RX9 yX9_after yX9_after).before a U = true := h _ (mt4 (List.mem_of_getElem? (i := 31) rfl)) rfl a
theorem wd_4_32 {U : State} {a : Array Value} (h : TW U) : (Cond.code yX9_after cX9_after 3 (some .int)).before a U = true := h _ (mt4 (List.mem_of_getElem? (i := 32) rfl)) rfl a
theorem wd_4_33 {U : State} {a : Array Value} (h : TW U) : (Cond.methodLink RX9 151 yX9_runTold).before a U = true := h _ (mt4 (List.mem_of_getElem? (i := 33) rfl)) rfl a
theorem wd_4_35 {U : State} {a : Array Value} (h : TW U) : (Cond.instanceMethod yX9_runTold).before a U = true := h _ (mt4 (List.mem_of_getElem? (i := 35) rfl)) rfl a
theorem wd_4_36 {U : State} {a : Array Value} (h : TW U) : (Cond.code yX9_runTold cX9_runTold 2 none).before a U = true := h _ (mt4 (List.mem_of_getElem? (i := 36) rfl)) rfl a
theorem wd_4_37 {U : State} {a : Array Value} (h : TW U) : (Cond.methodLink RX9 144 yX9_asTold).before a U = true := h _ (mt4 (List.mem_of_getElem? (i := 37) rfl)) rfl a
theorem wd_4_39 {U : State} {a : Array Value} (h : TW U) : (Cond.instanceMethod yX9_asTold).before a U = true := h _ (mt4 (List.mem_of_getElem? (i := 39) rfl)) rfl a
theorem wd_4_40 {U : State} {a : Array Value} (h : TW U) : (Cond.code yX9_asTold cX9_asTold 2 none).before a U = true := h _ (mt4 (List.mem_of_getElem? (i := 40) rfl)) rfl a
theorem wd_4_41 {U : State} {a : Array Value} (h : TW U) : (Cond.methodLink RX9 147 yX9_run).before a U = true := h _ (mt4 (List.mem_of_getElem? (i := 41) rfl)) rfl a
theorem wd_4_43 {U : State} {a : Array Value} (h : TW U) : (Cond.instanceMethod yX9_run).before a U = true := h _ (mt4 (List.mem_of_getElem? (i := 43) rfl)) rfl a
theorem wd_4_44 {U : State} {a : Array Value} (h : TW U) : (Cond.code yX9_run cX9_run 8 none).before a U = true := h _ (mt4 (List.mem_of_getElem? (i := 44) rfl)) rfl a
theorem wd_4_45 {U : State} {a : Array Value} (h : TW U) : (Cond.methodLink RX9 137 yX9_begin).before a U = true := h _ (mt4 (List.mem_of_getElem? (i := 45) rfl)) rfl a
theorem wd_4_47 {U : State} {a : Array Value} (h : TW U) : (Cond.instanceMethod yX9_begin).before a U = true := h _ (mt4 (List.mem_of_getElem? (i := 47) rfl)) rfl a
theorem wd_4_48 {U : State} {a : Array Value} (h : TW U) : (Cond.code yX9_begin cX9_begin 2 none).before a U = true := h _ (mt4 (List.mem_of_getElem? (i := 48) rfl)) rfl a
theorem wd_4_49 {U : State} {a : Array Value} (h : TW U) : (Cond.methodLink RX9 100 yX9_coldOf).before a U = true := h _ (mt4 (List.mem_of_getElem? (i := 49) rfl)) rfl a
theorem wd_4_51 {U : State} {a : Array Value} (h : TW U) : (Cond.instanceMethod yX9_coldOf).before a U = true := h _ (mt4 (List.mem_of_getElem? (i := 51) rfl)) rfl a
theorem wd_4_52 {U : State} {a : Array Value} (h : TW U) : (Cond.code yX9_coldOf cX9_coldOf 2 (some .int)).before a U = true := h _ (mt4 (List.mem_of_getElem? (i := 52) rfl)) rfl a
theorem wd_4_53 {U : State} {a : Array Value} (h : TW U) : (Cond.methodLink RX9 140 yX9_minute).before a U = true := h _ (mt4 (List.mem_of_getElem? (i := 53) rfl)) rfl a
theorem wd_4_55 {U : State} {a : Array Value} (h : TW U) : (Cond.instanceMethod yX9_minute).before a U = true := h _ (mt4 (List.mem_of_getElem? (i := 55) rfl)) rfl a
theorem wd_4_56 {U : State} {a : Array Value} (h : TW U) : (Cond.code yX9_minute cX9_minute 8 none).before a U = true := h _ (mt4 (List.mem_of_getElem? (i := 56) rfl)) rfl a
theorem wd_4_57 {U : State} {a : Array Value} (h : TW U) : (Cond.methodLink RX9 124 yX9_stiffNow).before a U = true := h _ (mt4 (List.mem_of_getElem? (i := 57) rfl)) rfl a
theorem wd_4_59 {U : State} {a : Array Value} (h : TW U) : (Cond.instanceMethod yX9_stiffNow).before a U = true := h _ (mt4 (List.mem_of_getElem? (i := 59) rfl)) rfl a
theorem wd_4_60 {U : State} {a : Array Value} (h : TW U) : (Cond.code yX9_stiffNow cX9_stiffNow 1 (some .int)).before a U = true := h _ (mt4 (List.mem_of_getElem? (i := 60) rfl)) rfl a
theorem wd_4_61 {U : State} {a : Array Value} (h : TW U) : (Cond.methodLink RX9 127 yX9_freeze).before a U = true := h _ (mt4 (List.mem_of_getElem? (i := 61) rfl)) rfl a
theorem wd_4_63 {U : State} {a : Array Value} (h : TW U) : (Cond.instanceMethod yX9_freeze).before a U = true := h _ (mt4 (List.mem_of_getElem? (i := 63) rfl)) rfl a
theorem wd_4_64 {U : State} {a : Array Value} (h : TW U) : (Cond.code yX9_freeze cX9_freeze 4 none).before a U = true := h _ (mt4 (List.mem_of_getElem? (i := 64) rfl)) rfl a
theorem wd_4_65 {U : State} {a : Array Value} (h : TW U) : (Cond.methodLink RX9 121 yX9_lineNow).before a U = true := h _ (mt4 (List.mem_of_getElem? (i := 65) rfl)) rfl a
theorem wd_4_67 {U : State} {a : Array Value} (h : TW U) : (Cond.instanceMethod yX9_lineNow).before a U = true := h _ (mt4 (List.mem_of_getElem? (i := 67) rfl)) rfl a
theorem wd_4_68 {U : State} {a : Array Value} (h : TW U) : (Cond.code yX9_lineNow cX9_lineNow 1 (some .int)).before a U = true := h _ (mt4 (List.mem_of_getElem? (i := 68) rfl)) rfl a
theorem wd_4_69 {U : State} {a : Array Value} (h : TW U) : (Cond.methodLink RX9 130 yX9_scrape).before a U = true := h _ (mt4 (List.mem_of_getElem? (i := 69) rfl)) rfl a
theorem wd_4_71 {U : State} {a : Array Value} (h : TW U) : (Cond.instanceMethod yX9_scrape).before a U = true := h _ (mt4 (List.mem_of_getElem? (i := 71) rfl)) rfl a
theorem wd_4_72 {U : State} {a : Array Value} (h : TW U) : (Cond.code yX9_scrape cX9_scrape 5 none).before a U = true := h _ (mt4 (List.mem_of_getElem? (i := 72) rfl)) rfl a
theorem wd_4_73 {U : State} {a : Array Value} (h : TW U) : (Cond.methodLink RX9 154 yX9_coarse).before a U = true := h _ (mt4 (List.mem_of_getElem? (i := 73) rfl)) rfl a
theorem wd_4_75 {U : State} {a : Array Value} (h : TW U) : (Cond.instanceMethod yX9_coarse).before a U = true := h _ (mt4 (List.mem_of_getElem? (i := 75) rfl)) rfl a
theorem wd_4_76 {U : State} {a : Array Value} (h : TW U) : (Cond.code yX9_coarse cX9_coarse 4 (some .int)).before a U = true := h _ (mt4 (List.mem_of_getElem? (i := 76) rfl)) rfl a
theorem wd_4_77 {U : State} {a : Array Value} (h : TW U) : (Cond.methodLink RL 47 yX9_flakes).before a U = true := h _ (mt4 (List.mem_of_getElem? (i := 77) rfl)) rfl a
theorem wd_4_78 {U : State} {a : Array Value} (h : TW U) : (Cond.instanceMethod yX9_flakes).before a U = true := h _ (mt4 (List.mem_of_getElem? (i := 78) rfl)) rfl a
theorem wd_4_79 {U : State} {a : Array Value} (h : TW U) : (Cond.selects RX9 yX9_flakes yX9_flakes).before a U = true := h _ (mt4 (List.mem_of_getElem? (i := 79) rfl)) rfl a
theorem wd_4_80 {U : State} {a : Array Value} (h : TW U) : (Cond.code yX9_flakes cX9_flakes 3 (some .int)).before a U = true := h _ (mt4 (List.mem_of_getElem? (i := 80) rfl)) rfl a
theorem wd_4_81 {U : State} {a : Array Value} (h : TW U) : (Cond.methodLink RL 51 yX9_tired).before a U = true := h _ (mt4 (List.mem_of_getElem? (i := 81) rfl)) rfl a
theorem wd_4_82 {U : State} {a : Array Value} (h : TW U) : (Cond.instanceMethod yX9_tired).before a U = true := h _ (mt4 (List.mem_of_getElem? (i := 82) rfl)) rfl a
theorem wd_4_83 {U : State} {a : Array Value} (h : TW U) : (Cond.selects RX9 yX9_tired yX9_tired).before a U = true := h _ (mt4 (List.mem_of_getElem? (i := 83) rfl)) rfl a
theorem wd_4_84 {U : State} {a : Array Value} (h : TW U) : (Cond.code yX9_tired cX9_tired 3 (some .int)).before a U = true := h _ (mt4 (List.mem_of_getElem? (i := 84) rfl)) rfl a
theorem wd_4_85 {U : State} {a : Array Value} (h : TW U) : (Cond.methodLink RL 55 yX9_held).before a U = true := h _ (mt4 (List.mem_of_getElem? (i := 85) rfl)) rfl a
theorem wd_4_86 {U : State} {a : Array Value} (h : TW U) : (Cond.instanceMethod yX9_held).before a U = true := h _ (mt4 (List.mem_of_getElem? (i := 86) rfl)) rfl a
theorem wd_4_87 {U : State} {a : Array Value} (h : TW U) : (Cond.selects RX9 yX9_held yX9_held).before a U = true := h _ (mt4 (List.mem_of_getElem? (i := 87) rfl)) rfl a
theorem wd_4_88 {U : State} {a : Array Value} (h : TW U) : (Cond.code yX9_held cX9_held 2 (some .int)).before a U = true := h _ (mt4 (List.mem_of_getElem? (i := 88) rfl)) rfl a
theorem wd_4_89 {U : State} {a : Array Value} (h : TW U) : (Cond.methodLink RL 59 yX9_order).before a U = true := h _ (mt4 (List.mem_of_getElem? (i := 89) rfl)) rfl a
theorem wd_4_90 {U : State} {a : Array Value} (h : TW U) : (Cond.instanceMethod yX9_order).before a U = true := h _ (mt4 (List.mem_of_getElem? (i := 90) rfl)) rfl a
theorem wd_4_91 {U : State} {a : Array Value} (h : TW U) : (Cond.selects RX9 yX9_order yX9_order).before a U = true := h _ (mt4 (List.mem_of_getElem? (i := 91) rfl)) rfl a
theorem wd_4_92 {U : State} {a : Array Value} (h : TW U) : (Cond.code yX9_order cX9_order 10 (some .int)).before a U = true := h _ (mt4 (List.mem_of_getElem? (i := 92) rfl)) rfl a
theorem wd_4_93 {U : State} {a : Array Value} (h : TW U) : (Cond.methodLink RL 63 yX9_bestSalt).before a U = true := h _ (mt4 (List.mem_of_getElem? (i := 93) rfl)) rfl a
theorem wd_4_94 {U : State} {a : Array Value} (h : TW U) : (Cond.instanceMethod yX9_bestSalt).before a U = true := h _ (mt4 (List.mem_of_getElem? (i := 94) rfl)) rfl a
theorem wd_4_95 {U : State} {a : Array Value} (h : TW U) : (Cond.selects RX9 yX9_bestSalt yX9_bestSalt).before a U = true := h _ (mt4 (List.mem_of_getElem? (i := 95) rfl)) rfl a
theorem wd_4_96 {U : State} {a : Array Value} (h : TW U) : (Cond.code yX9_bestSalt cX9_bestSalt 5 (some .int)).before a U = true := h _ (mt4 (List.mem_of_getElem? (i := 96) rfl)) rfl a
theorem wd_4_97 {U : State} {a : Array Value} (h : TW U) : (Cond.methodLink RX9 157 yX9_isEnough).before a U = true := h _ (mt4 (List.mem_of_getElem? (i := 97) rfl)) rfl a
theorem wd_4_99 {U : State} {a : Array Value} (h : TW U) : (Cond.instanceMethod yX9_isEnough).before a U = true := h _ (mt4 (List.mem_of_getElem? (i := 99) rfl)) rfl a
theorem wd_4_100 {U : State} {a : Array Value} (h : TW U) : (Cond.code yX9_isEnough cX9_isEnough 1 (some .boolean)).before a U = true := h _ (mt4 (List.mem_of_getElem? (i := 100) rfl)) rfl a
theorem wd_4_101 {U : State} {a : Array Value} (h : TW U) : (Cond.methodLink RL 67 yX9_bestPace).before a U = true := h _ (mt4 (List.mem_of_getElem? (i := 101) rfl)) rfl a
theorem wd_4_102 {U : State} {a : Array Value} (h : TW U) : (Cond.instanceMethod yX9_bestPace).before a U = true := h _ (mt4 (List.mem_of_getElem? (i := 102) rfl)) rfl a
theorem wd_4_103 {U : State} {a : Array Value} (h : TW U) : (Cond.selects RX9 yX9_bestPace yX9_bestPace).before a U = true := h _ (mt4 (List.mem_of_getElem? (i := 103) rfl)) rfl a
theorem wd_4_104 {U : State} {a : Array Value} (h : TW U) : (Cond.code yX9_bestPace cX9_bestPace 5 (some .int)).before a U = true := h _ (mt4 (List.mem_of_getElem? (i := 104) rfl)) rfl a
theorem wd_4_105 {U : State} {a : Array Value} (h : TW U) : (Cond.methodLink RL 71 yX9_leaveOff).before a U = true := h _ (mt4 (List.mem_of_getElem? (i := 105) rfl)) rfl a
theorem wd_4_106 {U : State} {a : Array Value} (h : TW U) : (Cond.instanceMethod yX9_leaveOff).before a U = true := h _ (mt4 (List.mem_of_getElem? (i := 106) rfl)) rfl a
theorem wd_4_107 {U : State} {a : Array Value} (h : TW U) : (Cond.selects RX9 yX9_leaveOff yX9_leaveOff).before a U = true := h _ (mt4 (List.mem_of_getElem? (i := 107) rfl)) rfl a
theorem wd_4_108 {U : State} {a : Array Value} (h : TW U) : (Cond.code yX9_leaveOff cX9_leaveOff 2 (some .int)).before a U = true := h _ (mt4 (List.mem_of_getElem? (i := 108) rfl)) rfl a
theorem wd_4_109 {U : State} {a : Array Value} (h : TW U) : (Cond.methodLink RL 75 yX9_box).before a U = true := h _ (mt4 (List.mem_of_getElem? (i := 109) rfl)) rfl a
theorem wd_4_110 {U : State} {a : Array Value} (h : TW U) : (Cond.instanceMethod yX9_box).before a U = true := h _ (mt4 (List.mem_of_getElem? (i := 110) rfl)) rfl a
theorem wd_4_111 {U : State} {a : Array Value} (h : TW U) : (Cond.selects RX9 yX9_box yX9_box).before a U = true := h _ (mt4 (List.mem_of_getElem? (i := 111) rfl)) rfl a
theorem wd_4_112 {U : State} {a : Array Value} (h : TW U) : (Cond.code yX9_box cX9_box 2 (some .int)).before a U = true := h _ (mt4 (List.mem_of_getElem? (i := 112) rfl)) rfl a
theorem wd_4_113 {U : State} {a : Array Value} (h : TW U) : (Cond.methodLink RL 79 yX9_stored).before a U = true := h _ (mt4 (List.mem_of_getElem? (i := 113) rfl)) rfl a
theorem wd_4_114 {U : State} {a : Array Value} (h : TW U) : (Cond.instanceMethod yX9_stored).before a U = true := h _ (mt4 (List.mem_of_getElem? (i := 114) rfl)) rfl a
theorem wd_4_115 {U : State} {a : Array Value} (h : TW U) : (Cond.selects RX9 yX9_stored yX9_stored).before a U = true := h _ (mt4 (List.mem_of_getElem? (i := 115) rfl)) rfl a
theorem wd_4_116 {U : State} {a : Array Value} (h : TW U) : (Cond.code yX9_stored cX9_stored 2 (some .int)).before a U = true := h _ (mt4 (List.mem_of_getElem? (i := 116) rfl)) rfl a
theorem wd_4_117 {U : State} {a : Array Value} (h : TW U) : (Cond.methodLink RX9 167 yX9_runDays).before a U = true := h _ (mt4 (List.mem_of_getElem? (i := 117) rfl)) rfl a
theorem wd_4_119 {U : State} {a : Array Value} (h : TW U) : (Cond.instanceMethod yX9_runDays).before a U = true := h _ (mt4 (List.mem_of_getElem? (i := 119) rfl)) rfl a
theorem wd_4_120 {U : State} {a : Array Value} (h : TW U) : (Cond.code yX9_runDays cX9_runDays 3 none).before a U = true := h _ (mt4 (List.mem_of_getElem? (i := 120) rfl)) rfl a
theorem wd_4_121 {U : State} {a : Array Value} (h : TW U) : (Cond.methodLink RX9 164 yX9_goDay).before a U = true := h _ (mt4 (List.mem_of_getElem? (i := 121) rfl)) rfl a
theorem wd_4_123 {U : State} {a : Array Value} (h : TW U) : (Cond.instanceMethod yX9_goDay).before a U = true := h _ (mt4 (List.mem_of_getElem? (i := 123) rfl)) rfl a
theorem wd_4_124 {U : State} {a : Array Value} (h : TW U) : (Cond.code yX9_goDay cX9_goDay 5 none).before a U = true := h _ (mt4 (List.mem_of_getElem? (i := 124) rfl)) rfl a
theorem wd_4_125 {U : State} {a : Array Value} (h : TW U) : (Cond.methodLink RL 83 yX9_grown).before a U = true := h _ (mt4 (List.mem_of_getElem? (i := 125) rfl)) rfl a
theorem wd_4_126 {U : State} {a : Array Value} (h : TW U) : (Cond.instanceMethod yX9_grown).before a U = true := h _ (mt4 (List.mem_of_getElem? (i := 126) rfl)) rfl a
theorem wd_4_127 {U : State} {a : Array Value} (h : TW U) : (Cond.selects RX9 yX9_grown yX9_grown).before a U = true := h _ (mt4 (List.mem_of_getElem? (i := 127) rfl)) rfl a
theorem wd_4_128 {U : State} {a : Array Value} (h : TW U) : (Cond.code yX9_grown cX9_grown 3 (some .int)).before a U = true := h _ (mt4 (List.mem_of_getElem? (i := 128) rfl)) rfl a
theorem wd_4_129 {U : State} {a : Array Value} (h : TW U) : (Cond.methodLink RL 87 yX9_sand).before a U = true := h _ (mt4 (List.mem_of_getElem? (i := 129) rfl)) rfl a
theorem wd_4_130 {U : State} {a : Array Value} (h : TW U) : (Cond.instanceMethod yX9_sand).before a U = true := h _ (mt4 (List.mem_of_getElem? (i := 130) rfl)) rfl a
theorem wd_4_131 {U : State} {a : Array Value} (h : TW U) : (Cond.selects RX9 yX9_sand yX9_sand).before a U = true := h _ (mt4 (List.mem_of_getElem? (i := 131) rfl)) rfl a
theorem wd_4_132 {U : State} {a : Array Value} (h : TW U) : (Cond.code yX9_sand cX9_sand 2 (some .int)).before a U = true := h _ (mt4 (List.mem_of_getElem? (i := 132) rfl)) rfl a
theorem wd_4_133 {U : State} {a : Array Value} (h : TW U) : (Cond.methodLink RL 92 yX9_iceAt).before a U = true := h _ (mt4 (List.mem_of_getElem? (i := 133) rfl)) rfl a
theorem wd_4_134 {U : State} {a : Array Value} (h : TW U) : (Cond.instanceMethod yX9_iceAt).before a U = true := h _ (mt4 (List.mem_of_getElem? (i := 134) rfl)) rfl a
theorem wd_4_135 {U : State} {a : Array Value} (h : TW U) : (Cond.selects RX9 yX9_iceAt yX9_iceAt).before a U = true := h _ (mt4 (List.mem_of_getElem? (i := 135) rfl)) rfl a
theorem wd_4_136 {U : State} {a : Array Value} (h : TW U) : (Cond.code yX9_iceAt cX9_iceAt 7 (some .long)).before a U = true := h _ (mt4 (List.mem_of_getElem? (i := 136) rfl)) rfl a
theorem wd_4_137 {U : State} {a : Array Value} (h : TW U) : (Cond.constantLong RX9 170 (-1000000000000000002)).before a U = true := h _ (mt4 (List.mem_of_getElem? (i := 137) rfl)) rfl a
theorem wd_4_138 {U : State} {a : Array Value} (h : TW U) : (Cond.methodLink RL 96 yX9_soft).before a U = true := h _ (mt4 (List.mem_of_getElem? (i := 138) rfl)) rfl a
theorem wd_4_139 {U : State} {a : Array Value} (h : TW U) : (Cond.instanceMethod yX9_soft).before a U = true := h _ (mt4 (List.mem_of_getElem? (i := 139) rfl)) rfl a
theorem wd_4_140 {U : State} {a : Array Value} (h : TW U) : (Cond.selects RX9 yX9_soft yX9_soft).before a U = true := h _ (mt4 (List.mem_of_getElem? (i := 140) rfl)) rfl a
theorem wd_4_141 {U : State} {a : Array Value} (h : TW U) : (Cond.code yX9_soft cX9_soft 3 (some .int)).before a U = true := h _ (mt4 (List.mem_of_getElem? (i := 141) rfl)) rfl a
theorem wd_4_142 {U : State} {a : Array Value} (h : TW U) : (Cond.methodLink RX9 174 yX9_isSoft).before a U = true := h _ (mt4 (List.mem_of_getElem? (i := 142) rfl)) rfl a
theorem wd_4_144 {U : State} {a : Array Value} (h : TW U) : (Cond.instanceMethod yX9_isSoft).before a U = true := h _ (mt4 (List.mem_of_getElem? (i := 144) rfl)) rfl a
theorem wd_4_145 {U : State} {a : Array Value} (h : TW U) : (Cond.code yX9_isSoft cX9_isSoft 4 (some .boolean)).before a U = true := h _ (mt4 (List.mem_of_getElem? (i := 145) rfl)) rfl a
theorem wd_4_146 {U : State} {a : Array Value} (h : TW U) : (Cond.constantLong RX9 172 (1000)).before a U = true := h _ (mt4 (List.mem_of_getElem? (i := 146) rfl)) rfl a
theorem wd_4_147 {U : State} {a : Array Value} (h : TW U) : (Cond.methodLink RL 100 yX9_sugarFor).before a U = true := h _ (mt4 (List.mem_of_getElem? (i := 147) rfl)) rfl a
theorem wd_4_148 {U : State} {a : Array Value} (h : TW U) : (Cond.instanceMethod yX9_sugarFor).before a U = true := h _ (mt4 (List.mem_of_getElem? (i := 148) rfl)) rfl a
theorem wd_4_149 {U : State} {a : Array Value} (h : TW U) : (Cond.selects RX9 yX9_sugarFor yX9_sugarFor).before a U = true := h _ (mt4 (List.mem_of_getElem? (i := 149) rfl)) rfl a
theorem wd_4_150 {U : State} {a : Array Value} (h : TW U) : (Cond.code yX9_sugarFor cX9_sugarFor 3 (some .int)).before a U = true := h _ (mt4 (List.mem_of_getElem? (i := 150) rfl)) rfl a
theorem wd_4_151 {U : State} {a : Array Value} (h : TW U) : (Cond.methodLink RL 104 yX9_image).before a U = true := h _ (mt4 (List.mem_of_getElem? (i := 151) rfl)) rfl a
theorem wd_4_152 {U : State} {a : Array Value} (h : TW U) : (Cond.instanceMethod yX9_image).before a U = true := h _ (mt4 (List.mem_of_getElem? (i := 152) rfl)) rfl a
theorem wd_4_153 {U : State} {a : Array Value} (h : TW U) : (Cond.selects RX9 yX9_image yX9_image).before a U = true := h _ (mt4 (List.mem_of_getElem? (i := 153) rfl)) rfl a
theorem wd_4_154 {U : State} {a : Array Value} (h : TW U) : (Cond.code yX9_image cX9_image 4 (some .int)).before a U = true := h _ (mt4 (List.mem_of_getElem? (i := 154) rfl)) rfl a
theorem wd_4_155 {U : State} {a : Array Value} (h : TW U) : (Cond.methodLink RL 108 yX9_restore).before a U = true := h _ (mt4 (List.mem_of_getElem? (i := 155) rfl)) rfl a
theorem wd_4_156 {U : State} {a : Array Value} (h : TW U) : (Cond.instanceMethod yX9_restore).before a U = true := h _ (mt4 (List.mem_of_getElem? (i := 156) rfl)) rfl a
theorem wd_4_157 {U : State} {a : Array Value} (h : TW U) : (Cond.selects RX9 yX9_restore yX9_restore).before a U = true := h _ (mt4 (List.mem_of_getElem? (i := 157) rfl)) rfl a
theorem wd_4_158 {U : State} {a : Array Value} (h : TW U) : (Cond.code yX9_restore cX9_restore 4 (some .int)).before a U = true := h _ (mt4 (List.mem_of_getElem? (i := 158) rfl)) rfl a
theorem wd_4_159 {U : State} {a : Array Value} (h : TW U) : (Cond.methodLink RL 112 yX9_told).before a U = true := h _ (mt4 (List.mem_of_getElem? (i := 159) rfl)) rfl a
theorem wd_4_160 {U : State} {a : Array Value} (h : TW U) : (Cond.instanceMethod yX9_told).before a U = true := h _ (mt4 (List.mem_of_getElem? (i := 160) rfl)) rfl a
theorem wd_4_161 {U : State} {a : Array Value} (h : TW U) : (Cond.selects RX9 yX9_told yX9_told).before a U = true := h _ (mt4 (List.mem_of_getElem? (i := 161) rfl)) rfl a
theorem wd_4_162 {U : State} {a : Array Value} (h : TW U) : (Cond.code yX9_told cX9_told 2 (some .int)).before a U = true := h _ (mt4 (List.mem_of_getElem? (i := 162) rfl)) rfl a
theorem ws_0 {U : State} {a : Array Value} (h : TW U) : (Cond.selects RX6 yX6_dueBehind yX6_dueBehind).before a U = true := h _ (mt0 (List.mem_of_getElem? (i := 0) rfl)) rfl a
theorem ws_1 {U : State} {a : Array Value} (h : TW U) : (Cond.selects RX7 yX7_addPart yX7_addPart).before a U = true := h _ (mt0 (List.mem_of_getElem? (i := 1) rfl)) rfl a
theorem ws_2 {U : State} {a : Array Value} (h : TW U) : (Cond.selects RX8 yX8_isOfPlan yX8_isOfPlan).before a U = true := h _ (mt0 (List.mem_of_getElem? (i := 2) rfl)) rfl a
theorem ws_3 {U : State} {a : Array Value} (h : TW U) : (Cond.selects RX8 yX8_runFor yX8_runFor).before a U = true := h _ (mt0 (List.mem_of_getElem? (i := 3) rfl)) rfl a
theorem ws_4 {U : State} {a : Array Value} (h : TW U) : (Cond.selects RX5 yX5_begin yX5_begin).before a U = true := h _ (mt0 (List.mem_of_getElem? (i := 4) rfl)) rfl a
theorem ws_5 {U : State} {a : Array Value} (h : TW U) : (Cond.selects RX5 yX5_passMinute yX5_passMinute).before a U = true := h _ (mt0 (List.mem_of_getElem? (i := 5) rfl)) rfl a
theorem ws_6 {U : State} {a : Array Value} (h : TW U) : (Cond.selects RX0 yX0_liquid yX0_liquid).before a U = true := h _ (mt0 (List.mem_of_getElem? (i := 6) rfl)) rfl a
theorem ws_7 {U : State} {a : Array Value} (h : TW U) : (Cond.selects RX8 yX8_runAsTold yX8_runAsTold).before a U = true := h _ (mt0 (List.mem_of_getElem? (i := 7) rfl)) rfl a
theorem ws_8 {U : State} {a : Array Value} (h : TW U) : (Cond.selects RX8 yX8_bestWay yX8_bestWay).before a U = true := h _ (mt0 (List.mem_of_getElem? (i := 8) rfl)) rfl a
theorem ws_9 {U : State} {a : Array Value} (h : TW U) : (Cond.selects RX8 yX8_leastCoarseSalt yX8_leastCoarseSalt).before a U = true := h _ (mt0 (List.mem_of_getElem? (i := 9) rfl)) rfl a
theorem ws_10 {U : State} {a : Array Value} (h : TW U) : (Cond.selects RX8 yX8_coarseOfEnough yX8_coarseOfEnough).before a U = true := h _ (mt0 (List.mem_of_getElem? (i := 10) rfl)) rfl a
theorem ws_11 {U : State} {a : Array Value} (h : TW U) : (Cond.selects RX8 yX8_leastCoarsePace yX8_leastCoarsePace).before a U = true := h _ (mt0 (List.mem_of_getElem? (i := 11) rfl)) rfl a
theorem ws_12 {U : State} {a : Array Value} (h : TW U) : (Cond.selects RX8 yX8_growFor yX8_growFor).before a U = true := h _ (mt0 (List.mem_of_getElem? (i := 12) rfl)) rfl a
theorem ws_13 {U : State} {a : Array Value} (h : TW U) : (Cond.selects RX8 yX8_growOn yX8_growOn).before a U = true := h _ (mt0 (List.mem_of_getElem? (i := 13) rfl)) rfl a
theorem ws_14 {U : State} {a : Array Value} (h : TW U) : (Cond.selects RX8 yX8_isSoft yX8_isSoft).before a U = true := h _ (mt0 (List.mem_of_getElem? (i := 14) rfl)) rfl a
theorem ws_15 {U : State} {a : Array Value} (h : TW U) : (Cond.selects RX9 yX9_planFault yX9_planFault).before a U = true := h _ (mt0 (List.mem_of_getElem? (i := 15) rfl)) rfl a
theorem ws_16 {U : State} {a : Array Value} (h : TW U) : (Cond.selects RX9 yX9_boxFault yX9_boxFault).before a U = true := h _ (mt0 (List.mem_of_getElem? (i := 16) rfl)) rfl a
theorem ws_17 {U : State} {a : Array Value} (h : TW U) : (Cond.selects RX9 yX9_minutesOf yX9_minutesOf).before a U = true := h _ (mt0 (List.mem_of_getElem? (i := 17) rfl)) rfl a
theorem ws_18 {U : State} {a : Array Value} (h : TW U) : (Cond.selects RX9 yX9_runTold yX9_runTold).before a U = true := h _ (mt0 (List.mem_of_getElem? (i := 18) rfl)) rfl a
theorem ws_19 {U : State} {a : Array Value} (h : TW U) : (Cond.selects RX9 yX9_asTold yX9_asTold).before a U = true := h _ (mt0 (List.mem_of_getElem? (i := 19) rfl)) rfl a
theorem ws_20 {U : State} {a : Array Value} (h : TW U) : (Cond.selects RX9 yX9_run yX9_run).before a U = true := h _ (mt0 (List.mem_of_getElem? (i := 20) rfl)) rfl a
theorem ws_21 {U : State} {a : Array Value} (h : TW U) : (Cond.selects RX9 yX9_begin yX9_begin).before a U = true := h _ (mt0 (List.mem_of_getElem? (i := 21) rfl)) rfl a
theorem ws_22 {U : State} {a : Array Value} (h : TW U) : (Cond.selects RX9 yX9_coldOf yX9_coldOf).before a U = true := h _ (mt0 (List.mem_of_getElem? (i := 22) rfl)) rfl a
theorem ws_23 {U : State} {a : Array Value} (h : TW U) : (Cond.selects RX9 yX9_minute yX9_minute).before a U = true := h _ (mt0 (List.mem_of_getElem? (i := 23) rfl)) rfl a
theorem ws_24 {U : State} {a : Array Value} (h : TW U) : (Cond.selects RX9 yX9_stiffNow yX9_stiffNow).before a U = true := h _ (mt0 (List.mem_of_getElem? (i := 24) rfl)) rfl a
theorem ws_25 {U : State} {a : Array Value} (h : TW U) : (Cond.selects RX9 yX9_freeze yX9_freeze).before a U = true := h _ (mt0 (List.mem_of_getElem? (i := 25) rfl)) rfl a
theorem ws_26 {U : State} {a : Array Value} (h : TW U) : (Cond.selects RX9 yX9_lineNow yX9_lineNow).before a U = true := h _ (mt0 (List.mem_of_getElem? (i := 26) rfl)) rfl a
theorem ws_27 {U : State} {a : Array Value} (h : TW U) : (Cond.selects RX9 yX9_scrape yX9_scrape).before a U = true := h _ (mt0 (List.mem_of_getElem? (i := 27) rfl)) rfl a
theorem ws_28 {U : State} {a : Array Value} (h : TW U) : (Cond.selects RX9 yX9_coarse yX9_coarse).before a U = true := h _ (mt0 (List.mem_of_getElem? (i := 28) rfl)) rfl a
theorem ws_29 {U : State} {a : Array Value} (h : TW U) : (Cond.selects RX9 yX9_isEnough yX9_isEnough).before a U = true := h _ (mt0 (List.mem_of_getElem? (i := 29) rfl)) rfl a
theorem ws_30 {U : State} {a : Array Value} (h : TW U) : (Cond.selects RX9 yX9_runDays yX9_runDays).before a U = true := h _ (mt0 (List.mem_of_getElem? (i := 30) rfl)) rfl a
theorem ws_31 {U : State} {a : Array Value} (h : TW U) : (Cond.selects RX9 yX9_goDay yX9_goDay).before a U = true := h _ (mt0 (List.mem_of_getElem? (i := 31) rfl)) rfl a
theorem ws_32 {U : State} {a : Array Value} (h : TW U) : (Cond.selects RX9 yX9_isSoft yX9_isSoft).before a U = true := h _ (mt0 (List.mem_of_getElem? (i := 32) rfl)) rfl a
abbrev wyX8_init : List Cond := [.code yX8_init cX8_init 1 none]
theorem giX8_init : GoodIn goodT wyX8_init := gi1 (mt1 (List.mem_of_getElem? (i := 16) rfl)) rfl rfl
abbrev wyX6_init : List Cond := [.code yX6_init cX6_init 1 none]
theorem giX6_init : GoodIn goodT wyX6_init := gi1 (mt1 (List.mem_of_getElem? (i := 24) rfl)) rfl rfl
abbrev wyX4_init : List Cond := [.code yX4_init cX4_init 1 none]
theorem giX4_init : GoodIn goodT wyX4_init := gi1 (mt1 (List.mem_of_getElem? (i := 40) rfl)) rfl rfl
abbrev wyX7_init : List Cond := [.code yX7_init cX7_init 1 none]
theorem giX7_init : GoodIn goodT wyX7_init := gi1 (mt1 (List.mem_of_getElem? (i := 57) rfl)) rfl rfl
abbrev wyX5_init : List Cond := [.code yX5_init cX5_init 1 none]
theorem giX5_init : GoodIn goodT wyX5_init := gi1 (mt1 (List.mem_of_getElem? (i := 111) rfl)) rfl rfl
abbrev wyX3_init : List Cond := [.code yX3_init cX3_init 1 none]
theorem giX3_init : GoodIn goodT wyX3_init := gi1 (mt1 (List.mem_of_getElem? (i := 117) rfl)) rfl rfl
abbrev wyX0_init : List Cond := [.code yX0_init cX0_init 1 none]
theorem giX0_init : GoodIn goodT wyX0_init := gi1 (mt1 (List.mem_of_getElem? (i := 140) rfl)) rfl rfl
abbrev wyX2_init : List Cond := [.code yX2_init cX2_init 1 none]
theorem giX2_init : GoodIn goodT wyX2_init := gi1 (mt1 (List.mem_of_getElem? (i := 146) rfl)) rfl rfl
abbrev wyX1_init : List Cond := [.code yX1_init cX1_init 1 none]
theorem giX1_init : GoodIn goodT wyX1_init := gi1 (mt1 (List.mem_of_getElem? (i := 193) rfl)) rfl rfl
abbrev wyX8_set : List Cond := [.code yX8_set cX8_set 4 (some .int)]
theorem giX8_set : GoodIn goodT wyX8_set := gi1 (mt2 (List.mem_of_getElem? (i := 6) rfl)) rfl rfl
abbrev wyX8_at : List Cond := [.code yX8_at cX8_at 2 (some .int)]
theorem giX8_at : GoodIn goodT wyX8_at := gi1 (mt2 (List.mem_of_getElem? (i := 11) rfl)) rfl rfl
abbrev wyX4_number : List Cond := [.code yX4_number cX4_number 2 (some .int)]
theorem giX4_number : GoodIn goodT wyX4_number := gi1 (mt2 (List.mem_of_getElem? (i := 17) rfl)) rfl rfl
abbrev wyX8_put : List Cond := [.code yX8_put cX8_put 3 none]
theorem giX8_put : GoodIn goodT wyX8_put := gi1 (mt2 (List.mem_of_getElem? (i := 21) rfl)) rfl rfl
abbrev wyX8_strong : List Cond := [.code yX8_strong cX8_strong 4 (some .int)]
theorem giX8_strong : GoodIn goodT wyX8_strong := gi1 (mt2 (List.mem_of_getElem? (i := 25) rfl)) rfl rfl
abbrev wyX8_isChild : List Cond := [.code yX8_isChild cX8_isChild 1 (some .boolean)]
theorem giX8_isChild : GoodIn goodT wyX8_isChild := gi1 (mt2 (List.mem_of_getElem? (i := 28) rfl)) rfl rfl
abbrev wyX8_say : List Cond := [.code yX8_say cX8_say 2 (some .int)]
theorem giX8_say : GoodIn goodT wyX8_say := gi1 (mt2 (List.mem_of_getElem? (i := 32) rfl)) rfl rfl
abbrev wyX6_add : List Cond := [.code yX6_add cX6_add 2 none]
theorem giX6_add : GoodIn goodT wyX6_add := gi1 (mt2 (List.mem_of_getElem? (i := 36) rfl)) rfl rfl
abbrev wyX8_wipe : List Cond := [.code yX8_wipe cX8_wipe 2 (some .int)]
theorem giX8_wipe : GoodIn goodT wyX8_wipe := gi1 (mt2 (List.mem_of_getElem? (i := 41) rfl)) rfl rfl
abbrev wyX6_clear : List Cond := [.code yX6_clear cX6_clear 1 none]
theorem giX6_clear : GoodIn goodT wyX6_clear := gi1 (mt2 (List.mem_of_getElem? (i := 45) rfl)) rfl rfl
abbrev wyX8_fault : List Cond := [.code yX8_fault cX8_fault 2 (some .int)]
theorem giX8_fault : GoodIn goodT wyX8_fault := gi1 (mt2 (List.mem_of_getElem? (i := 49) rfl)) rfl rfl
abbrev wyX6_faultAsPlan : List Cond := [.code yX6_faultAsPlan cX6_faultAsPlan 3 (some .int)]
theorem giX6_faultAsPlan : GoodIn goodT wyX6_faultAsPlan := gi1 (mt2 (List.mem_of_getElem? (i := 53) rfl)) rfl rfl
abbrev wyX6_dueBehind : List Cond := [.code yX6_dueBehind cX6_dueBehind 3 (some .int)]
theorem giX6_dueBehind : GoodIn goodT wyX6_dueBehind := gi1 (mt2 (List.mem_of_getElem? (i := 57) rfl)) rfl rfl
abbrev wyX6_codeAt : List Cond := [.code yX6_codeAt cX6_codeAt 2 (some .int)]
theorem giX6_codeAt : GoodIn goodT wyX6_codeAt := gi1 (mt2 (List.mem_of_getElem? (i := 61) rfl)) rfl rfl
abbrev wyX6_dueBehindBegin : List Cond := [.code yX6_dueBehindBegin cX6_dueBehindBegin 1 (some .int)]
theorem giX6_dueBehindBegin : GoodIn goodT wyX6_dueBehindBegin := gi1 (mt2 (List.mem_of_getElem? (i := 65) rfl)) rfl rfl
abbrev wyX6_isDigitAt : List Cond := [.code yX6_isDigitAt cX6_isDigitAt 3 (some .boolean)]
theorem giX6_isDigitAt : GoodIn goodT wyX6_isDigitAt := gi1 (mt2 (List.mem_of_getElem? (i := 69) rfl)) rfl rfl
abbrev wyX6_digitAt : List Cond := [.code yX6_digitAt cX6_digitAt 2 (some .int)]
theorem giX6_digitAt : GoodIn goodT wyX6_digitAt := gi1 (mt2 (List.mem_of_getElem? (i := 73) rfl)) rfl rfl
abbrev wyX6_faultAsBox : List Cond := [.code yX6_faultAsBox cX6_faultAsBox 2 (some .int)]
theorem giX6_faultAsBox : GoodIn goodT wyX6_faultAsBox := gi1 (mt2 (List.mem_of_getElem? (i := 77) rfl)) rfl rfl
abbrev wyX8_plan : List Cond := [.code yX8_plan cX8_plan 1 (some .int)]
theorem giX8_plan : GoodIn goodT wyX8_plan := gi1 (mt2 (List.mem_of_getElem? (i := 81) rfl)) rfl rfl
abbrev wyX7_read : List Cond := [.code yX7_read cX7_read 4 none]
theorem giX7_read : GoodIn goodT wyX7_read := gi1 (mt2 (List.mem_of_getElem? (i := 85) rfl)) rfl rfl
abbrev wyX7_addPart : List Cond := [.code yX7_addPart cX7_addPart 4 none]
theorem giX7_addPart : GoodIn goodT wyX7_addPart := gi1 (mt2 (List.mem_of_getElem? (i := 91) rfl)) rfl rfl
abbrev wyX8_after : List Cond := [.code yX8_after cX8_after 3 (some .int)]
theorem giX8_after : GoodIn goodT wyX8_after := gi1 (mt2 (List.mem_of_getElem? (i := 96) rfl)) rfl rfl
abbrev wyX8_isOfPlan : List Cond := [.code yX8_isOfPlan cX8_isOfPlan 2 (some .boolean)]
theorem giX8_isOfPlan : GoodIn goodT wyX8_isOfPlan := gi1 (mt2 (List.mem_of_getElem? (i := 100) rfl)) rfl rfl
abbrev wyX8_runFor : List Cond := [.code yX8_runFor cX8_runFor 2 none]
theorem giX8_runFor : GoodIn goodT wyX8_runFor := gi1 (mt2 (List.mem_of_getElem? (i := 104) rfl)) rfl rfl
abbrev wyX5_go : List Cond := [.code yX5_go cX5_go 14 none]
theorem giX5_go : GoodIn goodT wyX5_go := gi1 (mt2 (List.mem_of_getElem? (i := 108) rfl)) rfl rfl
abbrev wyX5_begin : List Cond := [.code yX5_begin cX5_begin 3 none]
theorem giX5_begin : GoodIn goodT wyX5_begin := gi1 (mt2 (List.mem_of_getElem? (i := 112) rfl)) rfl rfl
abbrev wyX3_begin : List Cond := [.code yX3_begin cX3_begin 3 none]
theorem giX3_begin : GoodIn goodT wyX3_begin := gi1 (mt2 (List.mem_of_getElem? (i := 117) rfl)) rfl rfl
abbrev wyX3_settle : List Cond := [.code yX3_settle cX3_settle 1 none]
theorem giX3_settle : GoodIn goodT wyX3_settle := gi1 (mt2 (List.mem_of_getElem? (i := 121) rfl)) rfl rfl
abbrev wyX8_quotient : List Cond := [.code yX8_quotient cX8_quotient 2 (some .int)]
theorem giX8_quotient : GoodIn goodT wyX8_quotient := gi1 (mt2 (List.mem_of_getElem? (i := 124) rfl)) rfl rfl
abbrev wyX0_begin : List Cond := [.code yX0_begin cX0_begin 2 none]
theorem giX0_begin : GoodIn goodT wyX0_begin := gi1 (mt2 (List.mem_of_getElem? (i := 134) rfl)) rfl rfl
abbrev wyX2_clear : List Cond := [.code yX2_clear cX2_clear 2 none]
theorem giX2_clear : GoodIn goodT wyX2_clear := gi1 (mt2 (List.mem_of_getElem? (i := 139) rfl)) rfl rfl
abbrev wyX1_begin : List Cond := [.code yX1_begin cX1_begin 2 none]
theorem giX1_begin : GoodIn goodT wyX1_begin := gi1 (mt2 (List.mem_of_getElem? (i := 143) rfl)) rfl rfl
abbrev wyX8_childInPlace : List Cond := [.code yX8_childInPlace cX8_childInPlace 2 (some .int)]
theorem giX8_childInPlace : GoodIn goodT wyX8_childInPlace := gi1 (mt2 (List.mem_of_getElem? (i := 148) rfl)) rfl rfl
abbrev wyX5_passMinute : List Cond := [.code yX5_passMinute cX5_passMinute 9 none]
theorem giX5_passMinute : GoodIn goodT wyX5_passMinute := gi1 (mt2 (List.mem_of_getElem? (i := 153) rfl)) rfl rfl
abbrev wyX0_stiff : List Cond := [.code yX0_stiff cX0_stiff 1 (some .int)]
theorem giX0_stiff : GoodIn goodT wyX0_stiff := gi1 (mt2 (List.mem_of_getElem? (i := 157) rfl)) rfl rfl
abbrev wyX1_weariness : List Cond := [.code yX1_weariness cX1_weariness 2 (some .int)]
theorem giX1_weariness : GoodIn goodT wyX1_weariness := gi1 (mt2 (List.mem_of_getElem? (i := 162) rfl)) rfl rfl
abbrev wyX0_flow : List Cond := [.code yX0_flow cX0_flow 2 (some .int)]
theorem giX0_flow : GoodIn goodT wyX0_flow := gi1 (mt2 (List.mem_of_getElem? (i := 168) rfl)) rfl rfl
abbrev wyX3_melt : List Cond := [.code yX3_melt cX3_melt 3 none]
theorem giX3_melt : GoodIn goodT wyX3_melt := gi1 (mt2 (List.mem_of_getElem? (i := 173) rfl)) rfl rfl
abbrev wyX0_giveWarmth : List Cond := [.code yX0_giveWarmth cX0_giveWarmth 2 none]
theorem giX0_giveWarmth : GoodIn goodT wyX0_giveWarmth := gi1 (mt2 (List.mem_of_getElem? (i := 177) rfl)) rfl rfl
abbrev wyX0_line : List Cond := [.code yX0_line cX0_line 1 (some .int)]
theorem giX0_line : GoodIn goodT wyX0_line := gi1 (mt2 (List.mem_of_getElem? (i := 181) rfl)) rfl rfl
abbrev wyX0_liquid : List Cond := [.code yX0_liquid cX0_liquid 1 (some .int)]
theorem giX0_liquid : GoodIn goodT wyX0_liquid := gi1 (mt2 (List.mem_of_getElem? (i := 185) rfl)) rfl rfl
abbrev wyX0_scrape : List Cond := [.code yX0_scrape cX0_scrape 3 none]
theorem giX0_scrape : GoodIn goodT wyX0_scrape := gi1 (mt2 (List.mem_of_getElem? (i := 190) rfl)) rfl rfl
abbrev wyX2_add : List Cond := [.code yX2_add cX2_add 3 none]
theorem giX2_add : GoodIn goodT wyX2_add := gi1 (mt2 (List.mem_of_getElem? (i := 194) rfl)) rfl rfl
abbrev wyX0_beat : List Cond := [.code yX0_beat cX0_beat 3 none]
theorem giX0_beat : GoodIn goodT wyX0_beat := gi1 (mt2 (List.mem_of_getElem? (i := 200) rfl)) rfl rfl
abbrev wyX1_pass : List Cond := [.code yX1_pass cX1_pass 5 none]
theorem giX1_pass : GoodIn goodT wyX1_pass := gi1 (mt2 (List.mem_of_getElem? (i := 204) rfl)) rfl rfl
abbrev wyX5_number : List Cond := [.code yX5_number cX5_number 2 (some .int)]
theorem giX5_number : GoodIn goodT wyX5_number := gi1 (mt2 (List.mem_of_getElem? (i := 212) rfl)) rfl rfl
abbrev wyX2_coarse : List Cond := [.code yX2_coarse cX2_coarse 3 (some .int)]
theorem giX2_coarse : GoodIn goodT wyX2_coarse := gi1 (mt2 (List.mem_of_getElem? (i := 216) rfl)) rfl rfl
abbrev wyX2_gramsOf : List Cond := [.code yX2_gramsOf cX2_gramsOf 2 (some .int)]
theorem giX2_gramsOf : GoodIn goodT wyX2_gramsOf := gi1 (mt2 (List.mem_of_getElem? (i := 220) rfl)) rfl rfl
abbrev wyX8_flakes : List Cond := [.code yX8_flakes cX8_flakes 3 (some .int)]
theorem giX8_flakes : GoodIn goodT wyX8_flakes := gi1 (mt2 (List.mem_of_getElem? (i := 226) rfl)) rfl rfl
abbrev wyX8_tired : List Cond := [.code yX8_tired cX8_tired 3 (some .int)]
theorem giX8_tired : GoodIn goodT wyX8_tired := gi1 (mt2 (List.mem_of_getElem? (i := 231) rfl)) rfl rfl
abbrev wyX8_held : List Cond := [.code yX8_held cX8_held 2 (some .int)]
theorem giX8_held : GoodIn goodT wyX8_held := gi1 (mt2 (List.mem_of_getElem? (i := 236) rfl)) rfl rfl
abbrev wyX8_runAsTold : List Cond := [.code yX8_runAsTold cX8_runAsTold 1 none]
theorem giX8_runAsTold : GoodIn goodT wyX8_runAsTold := gi1 (mt3 (List.mem_of_getElem? (i := 0) rfl)) rfl rfl
abbrev wyX8_order : List Cond := [.code yX8_order cX8_order 3 (some .int)]
theorem giX8_order : GoodIn goodT wyX8_order := gi1 (mt3 (List.mem_of_getElem? (i := 4) rfl)) rfl rfl
abbrev wyX8_bestWay : List Cond := [.code yX8_bestWay cX8_bestWay 7 (some .int)]
theorem giX8_bestWay : GoodIn goodT wyX8_bestWay := gi1 (mt3 (List.mem_of_getElem? (i := 8) rfl)) rfl rfl
abbrev wyX8_hasEachChild : List Cond := [.code yX8_hasEachChild cX8_hasEachChild 3 (some .boolean)]
theorem giX8_hasEachChild : GoodIn goodT wyX8_hasEachChild := gi1 (mt3 (List.mem_of_getElem? (i := 11) rfl)) rfl rfl
abbrev wyX8_bestSalt : List Cond := [.code yX8_bestSalt cX8_bestSalt 3 (some .int)]
theorem giX8_bestSalt : GoodIn goodT wyX8_bestSalt := gi1 (mt3 (List.mem_of_getElem? (i := 16) rfl)) rfl rfl
abbrev wyX8_leastCoarseSalt : List Cond := [.code yX8_leastCoarseSalt cX8_leastCoarseSalt 5 (some .int)]
theorem giX8_leastCoarseSalt : GoodIn goodT wyX8_leastCoarseSalt := gi1 (mt3 (List.mem_of_getElem? (i := 20) rfl)) rfl rfl
abbrev wyX8_coarseOfEnough : List Cond := [.code yX8_coarseOfEnough cX8_coarseOfEnough 2 (some .int)]
theorem giX8_coarseOfEnough : GoodIn goodT wyX8_coarseOfEnough := gi1 (mt3 (List.mem_of_getElem? (i := 24) rfl)) rfl rfl
abbrev wyX8_bestPace : List Cond := [.code yX8_bestPace cX8_bestPace 3 (some .int)]
theorem giX8_bestPace : GoodIn goodT wyX8_bestPace := gi1 (mt3 (List.mem_of_getElem? (i := 29) rfl)) rfl rfl
abbrev wyX8_leastCoarsePace : List Cond := [.code yX8_leastCoarsePace cX8_leastCoarsePace 5 (some .int)]
theorem giX8_leastCoarsePace : GoodIn goodT wyX8_leastCoarsePace := gi1 (mt3 (List.mem_of_getElem? (i := 33) rfl)) rfl rfl
abbrev wyX8_leaveOff : List Cond := [.code yX8_leaveOff cX8_leaveOff 3 (some .int)]
theorem giX8_leaveOff : GoodIn goodT wyX8_leaveOff := gi1 (mt3 (List.mem_of_getElem? (i := 37) rfl)) rfl rfl
abbrev wyX8_box : List Cond := [.code yX8_box cX8_box 1 (some .int)]
theorem giX8_box : GoodIn goodT wyX8_box := gi1 (mt3 (List.mem_of_getElem? (i := 41) rfl)) rfl rfl
abbrev wyX6_copyFrom : List Cond := [.code yX6_copyFrom cX6_copyFrom 2 none]
theorem giX6_copyFrom : GoodIn goodT wyX6_copyFrom := gi1 (mt3 (List.mem_of_getElem? (i := 45) rfl)) rfl rfl
abbrev wyX8_copyRow : List Cond := [.code yX8_copyRow cX8_copyRow 3 none]
theorem giX8_copyRow : GoodIn goodT wyX8_copyRow := gi1 (mt3 (List.mem_of_getElem? (i := 48) rfl)) rfl rfl
abbrev wyX8_stored : List Cond := [.code yX8_stored cX8_stored 2 (some .int)]
theorem giX8_stored : GoodIn goodT wyX8_stored := gi1 (mt3 (List.mem_of_getElem? (i := 52) rfl)) rfl rfl
abbrev wyX8_growFor : List Cond := [.code yX8_growFor cX8_growFor 3 none]
theorem giX8_growFor : GoodIn goodT wyX8_growFor := gi1 (mt3 (List.mem_of_getElem? (i := 56) rfl)) rfl rfl
abbrev wyX8_growOn : List Cond := [.code yX8_growOn cX8_growOn 3 none]
theorem giX8_growOn : GoodIn goodT wyX8_growOn := gi1 (mt3 (List.mem_of_getElem? (i := 60) rfl)) rfl rfl
abbrev wyX2_grow : List Cond := [.code yX2_grow cX2_grow 5 none]
theorem giX2_grow : GoodIn goodT wyX2_grow := gi1 (mt3 (List.mem_of_getElem? (i := 65) rfl)) rfl rfl
abbrev wyX8_grown : List Cond := [.code yX8_grown cX8_grown 3 (some .int)]
theorem giX8_grown : GoodIn goodT wyX8_grown := gi1 (mt3 (List.mem_of_getElem? (i := 71) rfl)) rfl rfl
abbrev wyX8_sand : List Cond := [.code yX8_sand cX8_sand 2 (some .int)]
theorem giX8_sand : GoodIn goodT wyX8_sand := gi1 (mt3 (List.mem_of_getElem? (i := 75) rfl)) rfl rfl
abbrev wyX8_iceAt : List Cond := [.code yX8_iceAt cX8_iceAt 9 (some .long)]
theorem giX8_iceAt : GoodIn goodT wyX8_iceAt := gi1 (mt3 (List.mem_of_getElem? (i := 79) rfl)) rfl rfl
abbrev wyX8_isTenths : List Cond := [.code yX8_isTenths cX8_isTenths 1 (some .boolean)]
theorem giX8_isTenths : GoodIn goodT wyX8_isTenths := gi1 (mt3 (List.mem_of_getElem? (i := 82) rfl)) rfl rfl
abbrev wyX8_commonDivisor : List Cond := [.code yX8_commonDivisor cX8_commonDivisor 11 (some .long)]
theorem giX8_commonDivisor : GoodIn goodT wyX8_commonDivisor := gi1 (mt3 (List.mem_of_getElem? (i := 90) rfl)) rfl rfl
abbrev wyX8_soft : List Cond := [.code yX8_soft cX8_soft 2 (some .int)]
theorem giX8_soft : GoodIn goodT wyX8_soft := gi1 (mt3 (List.mem_of_getElem? (i := 94) rfl)) rfl rfl
abbrev wyX8_isSoft : List Cond := [.code yX8_isSoft cX8_isSoft 4 (some .boolean)]
theorem giX8_isSoft : GoodIn goodT wyX8_isSoft := gi1 (mt3 (List.mem_of_getElem? (i := 98) rfl)) rfl rfl
abbrev wyX8_sugarFor : List Cond := [.code yX8_sugarFor cX8_sugarFor 3 (some .int)]
theorem giX8_sugarFor : GoodIn goodT wyX8_sugarFor := gi1 (mt3 (List.mem_of_getElem? (i := 102) rfl)) rfl rfl
abbrev wyX8_image : List Cond := [.code yX8_image cX8_image 3 (some .int)]
theorem giX8_image : GoodIn goodT wyX8_image := gi1 (mt3 (List.mem_of_getElem? (i := 106) rfl)) rfl rfl
abbrev wyX4_copyFrom : List Cond := [.code yX4_copyFrom cX4_copyFrom 2 none]
theorem giX4_copyFrom : GoodIn goodT wyX4_copyFrom := gi1 (mt3 (List.mem_of_getElem? (i := 110) rfl)) rfl rfl
abbrev wyX7_copyFrom : List Cond := [.code yX7_copyFrom cX7_copyFrom 2 none]
theorem giX7_copyFrom : GoodIn goodT wyX7_copyFrom := gi1 (mt3 (List.mem_of_getElem? (i := 115) rfl)) rfl rfl
abbrev wyX8_restore : List Cond := [.code yX8_restore cX8_restore 3 (some .int)]
theorem giX8_restore : GoodIn goodT wyX8_restore := gi1 (mt3 (List.mem_of_getElem? (i := 121) rfl)) rfl rfl
abbrev wyX8_told : List Cond := [.code yX8_told cX8_told 2 (some .int)]
theorem giX8_told : GoodIn goodT wyX8_told := gi1 (mt3 (List.mem_of_getElem? (i := 125) rfl)) rfl rfl
abbrev wyX9_init : List Cond := [.code yX9_init cX9_init 2 none]
theorem giX9_init : GoodIn goodT wyX9_init := gi1 (mt3 (List.mem_of_getElem? (i := 130) rfl)) rfl rfl
abbrev wyX9_set : List Cond := [.code yX9_set cX9_set 4 (some .int)]
theorem giX9_set : GoodIn goodT wyX9_set := gi1 (mt3 (List.mem_of_getElem? (i := 221) rfl)) rfl rfl
abbrev wyX9_in : List Cond := [.code yX9_in cX9_in 3 (some .boolean)]
theorem giX9_in : GoodIn goodT wyX9_in := gi1 (mt3 (List.mem_of_getElem? (i := 224) rfl)) rfl rfl
abbrev wyX9_leastOf : List Cond := [.code yX9_leastOf cX9_leastOf 1 (some .int)]
theorem giX9_leastOf : GoodIn goodT wyX9_leastOf := gi1 (mt3 (List.mem_of_getElem? (i := 227) rfl)) rfl rfl
abbrev wyX9_mostOf : List Cond := [.code yX9_mostOf cX9_mostOf 1 (some .int)]
theorem giX9_mostOf : GoodIn goodT wyX9_mostOf := gi1 (mt3 (List.mem_of_getElem? (i := 230) rfl)) rfl rfl
abbrev wyX9_strong : List Cond := [.code yX9_strong cX9_strong 4 (some .int)]
theorem giX9_strong : GoodIn goodT wyX9_strong := gi1 (mt3 (List.mem_of_getElem? (i := 234) rfl)) rfl rfl
abbrev wyX9_say : List Cond := [.code yX9_say cX9_say 2 (some .int)]
theorem giX9_say : GoodIn goodT wyX9_say := gi1 (mt3 (List.mem_of_getElem? (i := 238) rfl)) rfl rfl
abbrev wyX9_wipe : List Cond := [.code yX9_wipe cX9_wipe 2 (some .int)]
theorem giX9_wipe : GoodIn goodT wyX9_wipe := gi1 (mt4 (List.mem_of_getElem? (i := 2) rfl)) rfl rfl
abbrev wyX9_fault : List Cond := [.code yX9_fault cX9_fault 2 (some .int)]
theorem giX9_fault : GoodIn goodT wyX9_fault := gi1 (mt4 (List.mem_of_getElem? (i := 6) rfl)) rfl rfl
abbrev wyX9_planFault : List Cond := [.code yX9_planFault cX9_planFault 4 (some .int)]
theorem giX9_planFault : GoodIn goodT wyX9_planFault := gi1 (mt4 (List.mem_of_getElem? (i := 10) rfl)) rfl rfl
abbrev wyX9_isWho : List Cond := [.code yX9_isWho cX9_isWho 1 (some .boolean)]
theorem giX9_isWho : GoodIn goodT wyX9_isWho := gi1 (mt4 (List.mem_of_getElem? (i := 13) rfl)) rfl rfl
abbrev wyX9_isDigit : List Cond := [.code yX9_isDigit cX9_isDigit 1 (some .boolean)]
theorem giX9_isDigit : GoodIn goodT wyX9_isDigit := gi1 (mt4 (List.mem_of_getElem? (i := 16) rfl)) rfl rfl
abbrev wyX9_boxFault : List Cond := [.code yX9_boxFault cX9_boxFault 2 (some .int)]
theorem giX9_boxFault : GoodIn goodT wyX9_boxFault := gi1 (mt4 (List.mem_of_getElem? (i := 20) rfl)) rfl rfl
abbrev wyX9_plan : List Cond := [.code yX9_plan cX9_plan 3 (some .int)]
theorem giX9_plan : GoodIn goodT wyX9_plan := gi1 (mt4 (List.mem_of_getElem? (i := 24) rfl)) rfl rfl
abbrev wyX9_minutesOf : List Cond := [.code yX9_minutesOf cX9_minutesOf 3 (some .int)]
theorem giX9_minutesOf : GoodIn goodT wyX9_minutesOf := gi1 (mt4 (List.mem_of_getElem? (i := 28) rfl)) rfl rfl
abbrev wyX9_after : List Cond := [.code yX9_after cX9_after 3 (some .int)]
theorem giX9_after : GoodIn goodT wyX9_after := gi1 (mt4 (List.mem_of_getElem? (i := 32) rfl)) rfl rfl
abbrev wyX9_runTold : List Cond := [.code yX9_runTold cX9_runTold 2 none]
theorem giX9_runTold : GoodIn goodT wyX9_runTold := gi1 (mt4 (List.mem_of_getElem? (i := 36) rfl)) rfl rfl
abbrev wyX9_asTold : List Cond := [.code yX9_asTold cX9_asTold 2 none]
theorem giX9_asTold : GoodIn goodT wyX9_asTold := gi1 (mt4 (List.mem_of_getElem? (i := 40) rfl)) rfl rfl
abbrev wyX9_run : List Cond := [.code yX9_run cX9_run 8 none]
theorem giX9_run : GoodIn goodT wyX9_run := gi1 (mt4 (List.mem_of_getElem? (i := 44) rfl)) rfl rfl
abbrev wyX9_begin : List Cond := [.code yX9_begin cX9_begin 2 none]
theorem giX9_begin : GoodIn goodT wyX9_begin := gi1 (mt4 (List.mem_of_getElem? (i := 48) rfl)) rfl rfl
abbrev wyX9_coldOf : List Cond := [.code yX9_coldOf cX9_coldOf 2 (some .int)]
theorem giX9_coldOf : GoodIn goodT wyX9_coldOf := gi1 (mt4 (List.mem_of_getElem? (i := 52) rfl)) rfl rfl
abbrev wyX9_minute : List Cond := [.code yX9_minute cX9_minute 8 none]
theorem giX9_minute : GoodIn goodT wyX9_minute := gi1 (mt4 (List.mem_of_getElem? (i := 56) rfl)) rfl rfl
abbrev wyX9_stiffNow : List Cond := [.code yX9_stiffNow cX9_stiffNow 1 (some .int)]
theorem giX9_stiffNow : GoodIn goodT wyX9_stiffNow := gi1 (mt4 (List.mem_of_getElem? (i := 60) rfl)) rfl rfl
abbrev wyX9_freeze : List Cond := [.code yX9_freeze cX9_freeze 4 none]
theorem giX9_freeze : GoodIn goodT wyX9_freeze := gi1 (mt4 (List.mem_of_getElem? (i := 64) rfl)) rfl rfl
abbrev wyX9_lineNow : List Cond := [.code yX9_lineNow cX9_lineNow 1 (some .int)]
theorem giX9_lineNow : GoodIn goodT wyX9_lineNow := gi1 (mt4 (List.mem_of_getElem? (i := 68) rfl)) rfl rfl
abbrev wyX9_scrape : List Cond := [.code yX9_scrape cX9_scrape 5 none]
theorem giX9_scrape : GoodIn goodT wyX9_scrape := gi1 (mt4 (List.mem_of_getElem? (i := 72) rfl)) rfl rfl
abbrev wyX9_coarse : List Cond := [.code yX9_coarse cX9_coarse 4 (some .int)]
theorem giX9_coarse : GoodIn goodT wyX9_coarse := gi1 (mt4 (List.mem_of_getElem? (i := 76) rfl)) rfl rfl
abbrev wyX9_flakes : List Cond := [.code yX9_flakes cX9_flakes 3 (some .int)]
theorem giX9_flakes : GoodIn goodT wyX9_flakes := gi1 (mt4 (List.mem_of_getElem? (i := 80) rfl)) rfl rfl
abbrev wyX9_tired : List Cond := [.code yX9_tired cX9_tired 3 (some .int)]
theorem giX9_tired : GoodIn goodT wyX9_tired := gi1 (mt4 (List.mem_of_getElem? (i := 84) rfl)) rfl rfl
abbrev wyX9_held : List Cond := [.code yX9_held cX9_held 2 (some .int)]
theorem giX9_held : GoodIn goodT wyX9_held := gi1 (mt4 (List.mem_of_getElem? (i := 88) rfl)) rfl rfl
abbrev wyX9_order : List Cond := [.code yX9_order cX9_order 10 (some .int)]
theorem giX9_order : GoodIn goodT wyX9_order := gi1 (mt4 (List.mem_of_getElem? (i := 92) rfl)) rfl rfl
abbrev wyX9_bestSalt : List Cond := [.code yX9_bestSalt cX9_bestSalt 5 (some .int)]
theorem giX9_bestSalt : GoodIn goodT wyX9_bestSalt := gi1 (mt4 (List.mem_of_getElem? (i := 96) rfl)) rfl rfl
abbrev wyX9_isEnough : List Cond := [.code yX9_isEnough cX9_isEnough 1 (some .boolean)]
theorem giX9_isEnough : GoodIn goodT wyX9_isEnough := gi1 (mt4 (List.mem_of_getElem? (i := 100) rfl)) rfl rfl
abbrev wyX9_bestPace : List Cond := [.code yX9_bestPace cX9_bestPace 5 (some .int)]
theorem giX9_bestPace : GoodIn goodT wyX9_bestPace := gi1 (mt4 (List.mem_of_getElem? (i := 104) rfl)) rfl rfl
abbrev wyX9_leaveOff : List Cond := [.code yX9_leaveOff cX9_leaveOff 2 (some .int)]
theorem giX9_leaveOff : GoodIn goodT wyX9_leaveOff := gi1 (mt4 (List.mem_of_getElem? (i := 108) rfl)) rfl rfl
abbrev wyX9_box : List Cond := [.code yX9_box cX9_box 2 (some .int)]
theorem giX9_box : GoodIn goodT wyX9_box := gi1 (mt4 (List.mem_of_getElem? (i := 112) rfl)) rfl rfl
abbrev wyX9_stored : List Cond := [.code yX9_stored cX9_stored 2 (some .int)]
theorem giX9_stored : GoodIn goodT wyX9_stored := gi1 (mt4 (List.mem_of_getElem? (i := 116) rfl)) rfl rfl
abbrev wyX9_runDays : List Cond := [.code yX9_runDays cX9_runDays 3 none]
theorem giX9_runDays : GoodIn goodT wyX9_runDays := gi1 (mt4 (List.mem_of_getElem? (i := 120) rfl)) rfl rfl
abbrev wyX9_goDay : List Cond := [.code yX9_goDay cX9_goDay 5 none]
theorem giX9_goDay : GoodIn goodT wyX9_goDay := gi1 (mt4 (List.mem_of_getElem? (i := 124) rfl)) rfl rfl
abbrev wyX9_grown : List Cond := [.code yX9_grown cX9_grown 3 (some .int)]
theorem giX9_grown : GoodIn goodT wyX9_grown := gi1 (mt4 (List.mem_of_getElem? (i := 128) rfl)) rfl rfl
abbrev wyX9_sand : List Cond := [.code yX9_sand cX9_sand 2 (some .int)]
theorem giX9_sand : GoodIn goodT wyX9_sand := gi1 (mt4 (List.mem_of_getElem? (i := 132) rfl)) rfl rfl
abbrev wyX9_iceAt : List Cond := [.code yX9_iceAt cX9_iceAt 7 (some .long)]
theorem giX9_iceAt : GoodIn goodT wyX9_iceAt := gi1 (mt4 (List.mem_of_getElem? (i := 136) rfl)) rfl rfl
abbrev wyX9_soft : List Cond := [.code yX9_soft cX9_soft 3 (some .int)]
theorem giX9_soft : GoodIn goodT wyX9_soft := gi1 (mt4 (List.mem_of_getElem? (i := 141) rfl)) rfl rfl
abbrev wyX9_isSoft : List Cond := [.code yX9_isSoft cX9_isSoft 4 (some .boolean)]
theorem giX9_isSoft : GoodIn goodT wyX9_isSoft := gi1 (mt4 (List.mem_of_getElem? (i := 145) rfl)) rfl rfl
abbrev wyX9_sugarFor : List Cond := [.code yX9_sugarFor cX9_sugarFor 3 (some .int)]
theorem giX9_sugarFor : GoodIn goodT wyX9_sugarFor := gi1 (mt4 (List.mem_of_getElem? (i := 150) rfl)) rfl rfl
abbrev wyX9_image : List Cond := [.code yX9_image cX9_image 4 (some .int)]
theorem giX9_image : GoodIn goodT wyX9_image := gi1 (mt4 (List.mem_of_getElem? (i := 154) rfl)) rfl rfl
abbrev wyX9_restore : List Cond := [.code yX9_restore cX9_restore 4 (some .int)]
theorem giX9_restore : GoodIn goodT wyX9_restore := gi1 (mt4 (List.mem_of_getElem? (i := 158) rfl)) rfl rfl
abbrev wyX9_told : List Cond := [.code yX9_told cX9_told 2 (some .int)]
theorem giX9_told : GoodIn goodT wyX9_told := gi1 (mt4 (List.mem_of_getElem? (i := 162) rfl)) rfl rfl
theorem igX0 : ∀ w ∈ u_ws RX0 TX0 8, w ∈ goodT := by
  show ∀ w ∈ [u_lay RX0 TX0 0, u_lay RX0 TX0 1, u_lay RX0 TX0 2, u_lay RX0 TX0 3, u_lay RX0 TX0 4, u_lay RX0 TX0 5, u_lay RX0 TX0 6, u_lay RX0 TX0 7], w ∈ goodT
  exact List.forall_mem_cons.mpr ⟨inT (mt1 (List.mem_of_getElem? (i := 172) (by decide +kernel))) (by decide +kernel), List.forall_mem_cons.mpr ⟨inT (mt1 (List.mem_of_getElem? (i := 174) (by decide +kernel))) (by decide +kernel), List.forall_mem_cons.mpr ⟨inT (mt1 (List.mem_of_getElem? (i := 176) (by decide +kernel))) (by decide +kernel), List.forall_mem_cons.mpr ⟨inT (mt1 (List.mem_of_getElem? (i := 178) (by decide +kernel))) (by decide +kernel), List.forall_mem_cons.mpr ⟨inT (mt1 (List.mem_of_getElem? (i := 180) (by decide +kernel))) (by decide +kernel), List.forall_mem_cons.mpr ⟨inT (mt1 (List.mem_of_getElem? (i := 182) (by decide +kernel))) (by decide +kernel), List.forall_mem_cons.mpr ⟨inT (mt1 (List.mem_of_getElem? (i := 184) (by decide +kernel))) (by decide +kernel), List.forall_mem_cons.mpr ⟨inT (mt1 (List.mem_of_getElem? (i := 186) (by decide +kernel))) (by decide +kernel), fun _ h => absurd h List.not_mem_nil⟩⟩⟩⟩⟩⟩⟩⟩
theorem igX1 : ∀ w ∈ u_ws RX1 TX1 1, w ∈ goodT := by
  show ∀ w ∈ [u_lay RX1 TX1 0], w ∈ goodT
  exact List.forall_mem_cons.mpr ⟨inT (mt1 (List.mem_of_getElem? (i := 196) (by decide +kernel))) (by decide +kernel), fun _ h => absurd h List.not_mem_nil⟩
theorem igX2 : ∀ w ∈ u_ws RX2 TX2 2, w ∈ goodT := by
  show ∀ w ∈ [u_lay RX2 TX2 0, u_lay RX2 TX2 1], w ∈ goodT
  exact List.forall_mem_cons.mpr ⟨inT (mt1 (List.mem_of_getElem? (i := 153) (by decide +kernel))) (by decide +kernel), List.forall_mem_cons.mpr ⟨inT (mt1 (List.mem_of_getElem? (i := 155) (by decide +kernel))) (by decide +kernel), fun _ h => absurd h List.not_mem_nil⟩⟩
theorem igX3 : ∀ w ∈ u_ws RX3 TX3 4, w ∈ goodT := by
  show ∀ w ∈ [u_lay RX3 TX3 0, u_lay RX3 TX3 1, u_lay RX3 TX3 2, u_lay RX3 TX3 3], w ∈ goodT
  exact List.forall_mem_cons.mpr ⟨inT (mt1 (List.mem_of_getElem? (i := 127) (by decide +kernel))) (by decide +kernel), List.forall_mem_cons.mpr ⟨inT (mt1 (List.mem_of_getElem? (i := 129) (by decide +kernel))) (by decide +kernel), List.forall_mem_cons.mpr ⟨inT (mt1 (List.mem_of_getElem? (i := 131) (by decide +kernel))) (by decide +kernel), List.forall_mem_cons.mpr ⟨inT (mt1 (List.mem_of_getElem? (i := 133) (by decide +kernel))) (by decide +kernel), fun _ h => absurd h List.not_mem_nil⟩⟩⟩⟩
theorem igX4 : ∀ w ∈ u_ws RX4 TX4 5, w ∈ goodT := by
  show ∀ w ∈ [u_lay RX4 TX4 0, u_lay RX4 TX4 1, u_lay RX4 TX4 2, u_lay RX4 TX4 3, u_lay RX4 TX4 4], w ∈ goodT
  exact List.forall_mem_cons.mpr ⟨inT (mt1 (List.mem_of_getElem? (i := 96) (by decide +kernel))) (by decide +kernel), List.forall_mem_cons.mpr ⟨inT (mt1 (List.mem_of_getElem? (i := 98) (by decide +kernel))) (by decide +kernel), List.forall_mem_cons.mpr ⟨inT (mt1 (List.mem_of_getElem? (i := 100) (by decide +kernel))) (by decide +kernel), List.forall_mem_cons.mpr ⟨inT (mt1 (List.mem_of_getElem? (i := 102) (by decide +kernel))) (by decide +kernel), List.forall_mem_cons.mpr ⟨inT (mt1 (List.mem_of_getElem? (i := 104) (by decide +kernel))) (by decide +kernel), fun _ h => absurd h List.not_mem_nil⟩⟩⟩⟩⟩
theorem igX5 : ∀ w ∈ u_ws RX5 TX5 7, w ∈ goodT := by
  show ∀ w ∈ [u_lay RX5 TX5 0, u_lay RX5 TX5 1, u_lay RX5 TX5 2, u_lay RX5 TX5 3, u_lay RX5 TX5 4, u_lay RX5 TX5 5, u_lay RX5 TX5 6], w ∈ goodT
  exact List.forall_mem_cons.mpr ⟨inT (mt1 (List.mem_of_getElem? (i := 212) (by decide +kernel))) (by decide +kernel), List.forall_mem_cons.mpr ⟨inT (mt1 (List.mem_of_getElem? (i := 214) (by decide +kernel))) (by decide +kernel), List.forall_mem_cons.mpr ⟨inT (mt1 (List.mem_of_getElem? (i := 216) (by decide +kernel))) (by decide +kernel), List.forall_mem_cons.mpr ⟨inT (mt1 (List.mem_of_getElem? (i := 218) (by decide +kernel))) (by decide +kernel), List.forall_mem_cons.mpr ⟨inT (mt1 (List.mem_of_getElem? (i := 220) (by decide +kernel))) (by decide +kernel), List.forall_mem_cons.mpr ⟨inT (mt1 (List.mem_of_getElem? (i := 222) (by decide +kernel))) (by decide +kernel), List.forall_mem_cons.mpr ⟨inT (mt1 (List.mem_of_getElem? (i := 224) (by decide +kernel))) (by decide +kernel), fun _ h => absurd h List.not_mem_nil⟩⟩⟩⟩⟩⟩⟩
theorem igX6 : ∀ w ∈ u_ws RX6 TX6 2, w ∈ goodT := by
  show ∀ w ∈ [u_lay RX6 TX6 0, u_lay RX6 TX6 1], w ∈ goodT
  exact List.forall_mem_cons.mpr ⟨inT (mt1 (List.mem_of_getElem? (i := 30) (by decide +kernel))) (by decide +kernel), List.forall_mem_cons.mpr ⟨inT (mt1 (List.mem_of_getElem? (i := 32) (by decide +kernel))) (by decide +kernel), fun _ h => absurd h List.not_mem_nil⟩⟩
theorem igX7 : ∀ w ∈ u_ws RX7 TX7 5, w ∈ goodT := by
  show ∀ w ∈ [u_lay RX7 TX7 0, u_lay RX7 TX7 1, u_lay RX7 TX7 2, u_lay RX7 TX7 3, u_lay RX7 TX7 4], w ∈ goodT
  exact List.forall_mem_cons.mpr ⟨inT (mt1 (List.mem_of_getElem? (i := 71) (by decide +kernel))) (by decide +kernel), List.forall_mem_cons.mpr ⟨inT (mt1 (List.mem_of_getElem? (i := 73) (by decide +kernel))) (by decide +kernel), List.forall_mem_cons.mpr ⟨inT (mt1 (List.mem_of_getElem? (i := 75) (by decide +kernel))) (by decide +kernel), List.forall_mem_cons.mpr ⟨inT (mt1 (List.mem_of_getElem? (i := 77) (by decide +kernel))) (by decide +kernel), List.forall_mem_cons.mpr ⟨inT (mt1 (List.mem_of_getElem? (i := 79) (by decide +kernel))) (by decide +kernel), fun _ h => absurd h List.not_mem_nil⟩⟩⟩⟩⟩
theorem igX8 : ∀ w ∈ u_ws RX8 TX8 5, w ∈ goodT := by
  show ∀ w ∈ [u_lay RX8 TX8 0, u_lay RX8 TX8 1, u_lay RX8 TX8 2, u_lay RX8 TX8 3, u_lay RX8 TX8 4], w ∈ goodT
  exact List.forall_mem_cons.mpr ⟨inT (mt1 (List.mem_of_getElem? (i := 232) (by decide +kernel))) (by decide +kernel), List.forall_mem_cons.mpr ⟨inT (mt1 (List.mem_of_getElem? (i := 234) (by decide +kernel))) (by decide +kernel), List.forall_mem_cons.mpr ⟨inT (mt1 (List.mem_of_getElem? (i := 236) (by decide +kernel))) (by decide +kernel), List.forall_mem_cons.mpr ⟨inT (mt1 (List.mem_of_getElem? (i := 238) (by decide +kernel))) (by decide +kernel), List.forall_mem_cons.mpr ⟨inT (mt2 (List.mem_of_getElem? (i := 0) (by decide +kernel))) (by decide +kernel), fun _ h => absurd h List.not_mem_nil⟩⟩⟩⟩⟩
theorem igX9 : ∀ w ∈ u_ws RX9 TX9 28, w ∈ goodT := by
  show ∀ w ∈ [u_lay RX9 TX9 0, u_lay RX9 TX9 1, u_lay RX9 TX9 2, u_lay RX9 TX9 3, u_lay RX9 TX9 4, u_lay RX9 TX9 5, u_lay RX9 TX9 6, u_lay RX9 TX9 7, u_lay RX9 TX9 8, u_lay RX9 TX9 9, u_lay RX9 TX9 10, u_lay RX9 TX9 11, u_lay RX9 TX9 12, u_lay RX9 TX9 13, u_lay RX9 TX9 14, u_lay RX9 TX9 15, u_lay RX9 TX9 16, u_lay RX9 TX9 17, u_lay RX9 TX9 18, u_lay RX9 TX9 19, u_lay RX9 TX9 20, u_lay RX9 TX9 21, u_lay RX9 TX9 22, u_lay RX9 TX9 23, u_lay RX9 TX9 24, u_lay RX9 TX9 25, u_lay RX9 TX9 26, u_lay RX9 TX9 27], w ∈ goodT
  exact List.forall_mem_cons.mpr ⟨inT (mt3 (List.mem_of_getElem? (i := 160) (by decide +kernel))) (by decide +kernel), List.forall_mem_cons.mpr ⟨inT (mt3 (List.mem_of_getElem? (i := 162) (by decide +kernel))) (by decide +kernel), List.forall_mem_cons.mpr ⟨inT (mt3 (List.mem_of_getElem? (i := 164) (by decide +kernel))) (by decide +kernel), List.forall_mem_cons.mpr ⟨inT (mt3 (List.mem_of_getElem? (i := 166) (by decide +kernel))) (by decide +kernel), List.forall_mem_cons.mpr ⟨inT (mt3 (List.mem_of_getElem? (i := 168) (by decide +kernel))) (by decide +kernel), List.forall_mem_cons.mpr ⟨inT (mt3 (List.mem_of_getElem? (i := 170) (by decide +kernel))) (by decide +kernel), List.forall_mem_cons.mpr ⟨inT (mt3 (List.mem_of_getElem? (i := 172) (by decide +kernel))) (by decide +kernel), List.forall_mem_cons.mpr ⟨inT (mt3 (List.mem_of_getElem? (i := 174) (by decide +kernel))) (by decide +kernel), List.forall_mem_cons.mpr ⟨inT (mt3 (List.mem_of_getElem? (i := 176) (by decide +kernel))) (by decide +kernel), List.forall_mem_cons.mpr ⟨inT (mt3 (List.mem_of_getElem? (i := 178) (by decide +kernel))) (by decide +kernel), List.forall_mem_cons.mpr ⟨inT (mt3 (List.mem_of_getElem? (i := 180) (by decide +kernel))) (by decide +kernel), List.forall_mem_cons.mpr ⟨inT (mt3 (List.mem_of_getElem? (i := 182) (by decide +kernel))) (by decide +kernel), List.forall_mem_cons.mpr ⟨inT (mt3 (List.mem_of_getElem? (i := 184) (by decide +kernel))) (by decide +kernel), List.forall_mem_cons.mpr ⟨inT (mt3 (List.mem_of_getElem? (i := 186) (by decide +kernel))) (by decide +kernel), List.forall_mem_cons.mpr ⟨inT (mt3 (List.mem_of_getElem? (i := 188) (by decide +kernel))) (by decide +kernel), List.forall_mem_cons.mpr ⟨inT (mt3 (List.mem_of_getElem? (i := 190) (by decide +kernel))) (by decide +kernel), List.forall_mem_cons.mpr ⟨inT (mt3 (List.mem_of_getElem? (i := 192) (by decide +kernel))) (by decide +kernel), List.forall_mem_cons.mpr ⟨inT (mt3 (List.mem_of_getElem? (i := 194) (by decide +kernel))) (by decide +kernel), List.forall_mem_cons.mpr ⟨inT (mt3 (List.mem_of_getElem? (i := 196) (by decide +kernel))) (by decide +kernel), List.forall_mem_cons.mpr ⟨inT (mt3 (List.mem_of_getElem? (i := 198) (by decide +kernel))) (by decide +kernel), List.forall_mem_cons.mpr ⟨inT (mt3 (List.mem_of_getElem? (i := 200) (by decide +kernel))) (by decide +kernel), List.forall_mem_cons.mpr ⟨inT (mt3 (List.mem_of_getElem? (i := 202) (by decide +kernel))) (by decide +kernel), List.forall_mem_cons.mpr ⟨inT (mt3 (List.mem_of_getElem? (i := 204) (by decide +kernel))) (by decide +kernel), List.forall_mem_cons.mpr ⟨inT (mt3 (List.mem_of_getElem? (i := 206) (by decide +kernel))) (by decide +kernel), List.forall_mem_cons.mpr ⟨inT (mt3 (List.mem_of_getElem? (i := 208) (by decide +kernel))) (by decide +kernel), List.forall_mem_cons.mpr ⟨inT (mt3 (List.mem_of_getElem? (i := 210) (by decide +kernel))) (by decide +kernel), List.forall_mem_cons.mpr ⟨inT (mt3 (List.mem_of_getElem? (i := 212) (by decide +kernel))) (by decide +kernel), List.forall_mem_cons.mpr ⟨inT (mt3 (List.mem_of_getElem? (i := 214) (by decide +kernel))) (by decide +kernel), fun _ h => absurd h List.not_mem_nil⟩⟩⟩⟩⟩⟩⟩⟩⟩⟩⟩⟩⟩⟩⟩⟩⟩⟩⟩⟩⟩⟩⟩⟩⟩⟩⟩⟩
