theorem ep1 {α β : Type} {a : α} {k : α → Option β} : Option.bind (some a) k = k a := rfl
theorem ep2 {α1 α2 β : Type} {k : α1 → α2 → Option β} {a : α1} {o : α2} : bd2 (some (a, o)) k = k a (o) := rfl
theorem ep3 {α1 α2 α3 β : Type} {k : α1 → α2 → α3 → Option β} {a : α1} {o : α2 × α3} : bd3 (some (a, o)) k = k a (o.1) (o.2) := rfl
theorem ep4 {α1 α2 α3 α4 β : Type} {k : α1 → α2 → α3 → α4 → Option β} {a : α1} {o : α2 × α3 × α4} : bd4 (some (a, o)) k = k a (o.1) (o.2.1) (o.2.2) := rfl
theorem ep5 {α1 α2 α3 α4 α5 β : Type} {k : α1 → α2 → α3 → α4 → α5 → Option β} {a : α1} {o : α2 × α3 × α4 × α5} : bd5 (some (a, o)) k = k a (o.1) (o.2.1) (o.2.2.1) (o.2.2.2) := rfl
theorem ep6 {α1 α2 α3 α4 α5 α6 β : Type} {k : α1 → α2 → α3 → α4 → α5 → α6 → Option β} {a : α1} {o : α2 × α3 × α4 × α5 × α6} : bd6 (some (a, o)) k = k a (o.1) (o.2.1) (o.2.2.1) (o.2.2.2.1) (o.2.2.2.2) := rfl
theorem ep7 {α1 α2 α3 α4 α5 α6 α7 β : Type} {k : α1 → α2 → α3 → α4 → α5 → α6 → α7 → Option β} {a : α1} {o : α2 × α3 × α4 × α5 × α6 × α7} : bd7 (some (a, o)) k = k a (o.1) (o.2.1) (o.2.2.1) (o.2.2.2.1) (o.2.2.2.2.1) (o.2.2.2.2.2) := rfl
theorem ep8 {α1 α2 α3 α4 α5 α6 α7 α8 β : Type} {k : α1 → α2 → α3 → α4 → α5 → α6 → α7 → α8 → Option β} {a : α1} {o : α2 × α3 × α4 × α5 × α6 × α7 × α8} : bd8 (some (a, o)) k = k a (o.1) (o.2.1) (o.2.2.1) (o.2.2.2.1) (o.2.2.2.2.1) (o.2.2.2.2.2.1) (o.2.2.2.2.2.2) := rfl
theorem ep9 {α1 α2 α3 α4 α5 α6 α7 α8 α9 β : Type} {k : α1 → α2 → α3 → α4 → α5 → α6 → α7 → α8 → α9 → Option β} {a : α1} {o : α2 × α3 × α4 × α5 × α6 × α7 × α8 × α9} : bd9 (some (a, o)) k = k a (o.1) (o.2.1) (o.2.2.1) (o.2.2.2.1) (o.2.2.2.2.1) (o.2.2.2.2.2.1) (o.2.2.2.2.2.2.1) (o.2.2.2.2.2.2.2) := rfl
theorem ep10 {α1 α2 α3 α4 α5 α6 α7 α8 α9 α10 β : Type} {k : α1 → α2 → α3 → α4 → α5 → α6 → α7 → α8 → α9 → α10 → Option β} {a : α1} {o : α2 × α3 × α4 × α5 × α6 × α7 × α8 × α9 × α10} : bd10 (some (a, o)) k = k a (o.1) (o.2.1) (o.2.2.1) (o.2.2.2.1) (o.2.2.2.2.1) (o.2.2.2.2.2.1) (o.2.2.2.2.2.2.1) (o.2.2.2.2.2.2.2.1) (o.2.2.2.2.2.2.2.2) := rfl
theorem ep11 {α1 α2 α3 α4 α5 α6 α7 α8 α9 α10 α11 β : Type} {k : α1 → α2 → α3 → α4 → α5 → α6 → α7 → α8 → α9 → α10 → α11 → Option β} {a : α1} {o : α2 × α3 × α4 × α5 × α6 × α7 × α8 × α9 × α10 × α11} : bd11 (some (a, o)) k = k a (o.1) (o.2.1) (o.2.2.1) (o.2.2.2.1) (o.2.2.2.2.1) (o.2.2.2.2.2.1) (o.2.2.2.2.2.2.1) (o.2.2.2.2.2.2.2.1) (o.2.2.2.2.2.2.2.2.1) (o.2.2.2.2.2.2.2.2.2) := rfl
theorem ep12 {α1 α2 α3 α4 α5 α6 α7 α8 α9 α10 α11 α12 β : Type} {k : α1 → α2 → α3 → α4 → α5 → α6 → α7 → α8 → α9 → α10 → α11 → α12 → Option β} {a : α1} {o : α2 × α3 × α4 × α5 × α6 × α7 × α8 × α9 × α10 × α11 × α12} : bd12 (some (a, o)) k = k a (o.1) (o.2.1) (o.2.2.1) (o.2.2.2.1) (o.2.2.2.2.1) (o.2.2.2.2.2.1) (o.2.2.2.2.2.2.1) (o.2.2.2.2.2.2.2.1) (o.2.2.2.2.2.2.2.2.1) (o.2.2.2.2.2.2.2.2.2.1) (o.2.2.2.2.2.2.2.2.2.2) := rfl
theorem ep13 {α1 α2 α3 α4 α5 α6 α7 α8 α9 α10 α11 α12 α13 β : Type} {k : α1 → α2 → α3 → α4 → α5 → α6 → α7 → α8 → α9 → α10 → α11 → α12 → α13 → Option β} {a : α1} {o : α2 × α3 × α4 × α5 × α6 × α7 × α8 × α9 × α10 × α11 × α12 × α13} : bd13 (some (a, o)) k = k a (o.1) (o.2.1) (o.2.2.1) (o.2.2.2.1) (o.2.2.2.2.1) (o.2.2.2.2.2.1) (o.2.2.2.2.2.2.1) (o.2.2.2.2.2.2.2.1) (o.2.2.2.2.2.2.2.2.1) (o.2.2.2.2.2.2.2.2.2.1) (o.2.2.2.2.2.2.2.2.2.2.1) (o.2.2.2.2.2.2.2.2.2.2.2) := rfl
theorem ep14 {α1 α2 α3 α4 α5 α6 α7 α8 α9 α10 α11 α12 α13 α14 β : Type} {k : α1 → α2 → α3 → α4 → α5 → α6 → α7 → α8 → α9 → α10 → α11 → α12 → α13 → α14 → Option β} {a : α1} {o : α2 × α3 × α4 × α5 × α6 × α7 × α8 × α9 × α10 × α11 × α12 × α13 × α14} : bd14 (some (a, o)) k = k a (o.1) (o.2.1) (o.2.2.1) (o.2.2.2.1) (o.2.2.2.2.1) (o.2.2.2.2.2.1) (o.2.2.2.2.2.2.1) (o.2.2.2.2.2.2.2.1) (o.2.2.2.2.2.2.2.2.1) (o.2.2.2.2.2.2.2.2.2.1) (o.2.2.2.2.2.2.2.2.2.2.1) (o.2.2.2.2.2.2.2.2.2.2.2.1) (o.2.2.2.2.2.2.2.2.2.2.2.2) := rfl
theorem ep15 {α1 α2 α3 α4 α5 α6 α7 α8 α9 α10 α11 α12 α13 α14 α15 β : Type} {k : α1 → α2 → α3 → α4 → α5 → α6 → α7 → α8 → α9 → α10 → α11 → α12 → α13 → α14 → α15 → Option β} {a : α1} {o : α2 × α3 × α4 × α5 × α6 × α7 × α8 × α9 × α10 × α11 × α12 × α13 × α14 × α15} : bd15 (some (a, o)) k = k a (o.1) (o.2.1) (o.2.2.1) (o.2.2.2.1) (o.2.2.2.2.1) (o.2.2.2.2.2.1) (o.2.2.2.2.2.2.1) (o.2.2.2.2.2.2.2.1) (o.2.2.2.2.2.2.2.2.1) (o.2.2.2.2.2.2.2.2.2.1) (o.2.2.2.2.2.2.2.2.2.2.1) (o.2.2.2.2.2.2.2.2.2.2.2.1) (o.2.2.2.2.2.2.2.2.2.2.2.2.1) (o.2.2.2.2.2.2.2.2.2.2.2.2.2) := rfl
theorem ep16 {α1 α2 α3 α4 α5 α6 α7 α8 α9 α10 α11 α12 α13 α14 α15 α16 β : Type} {k : α1 → α2 → α3 → α4 → α5 → α6 → α7 → α8 → α9 → α10 → α11 → α12 → α13 → α14 → α15 → α16 → Option β} {a : α1} {o : α2 × α3 × α4 × α5 × α6 × α7 × α8 × α9 × α10 × α11 × α12 × α13 × α14 × α15 × α16} : bd16 (some (a, o)) k = k a (o.1) (o.2.1) (o.2.2.1) (o.2.2.2.1) (o.2.2.2.2.1) (o.2.2.2.2.2.1) (o.2.2.2.2.2.2.1) (o.2.2.2.2.2.2.2.1) (o.2.2.2.2.2.2.2.2.1) (o.2.2.2.2.2.2.2.2.2.1) (o.2.2.2.2.2.2.2.2.2.2.1) (o.2.2.2.2.2.2.2.2.2.2.2.1) (o.2.2.2.2.2.2.2.2.2.2.2.2.1) (o.2.2.2.2.2.2.2.2.2.2.2.2.2.1) (o.2.2.2.2.2.2.2.2.2.2.2.2.2.2) := rfl
theorem ep17 {α1 α2 α3 α4 α5 α6 α7 α8 α9 α10 α11 α12 α13 α14 α15 α16 α17 β : Type} {k : α1 → α2 → α3 → α4 → α5 → α6 → α7 → α8 → α9 → α10 → α11 → α12 → α13 → α14 → α15 → α16 → α17 → Option β} {a : α1} {o : α2 × α3 × α4 × α5 × α6 × α7 × α8 × α9 × α10 × α11 × α12 × α13 × α14 × α15 × α16 × α17} : bd17 (some (a, o)) k = k a (o.1) (o.2.1) (o.2.2.1) (o.2.2.2.1) (o.2.2.2.2.1) (o.2.2.2.2.2.1) (o.2.2.2.2.2.2.1) (o.2.2.2.2.2.2.2.1) (o.2.2.2.2.2.2.2.2.1) (o.2.2.2.2.2.2.2.2.2.1) (o.2.2.2.2.2.2.2.2.2.2.1) (o.2.2.2.2.2.2.2.2.2.2.2.1) (o.2.2.2.2.2.2.2.2.2.2.2.2.1) (o.2.2.2.2.2.2.2.2.2.2.2.2.2.1) (o.2.2.2.2.2.2.2.2.2.2.2.2.2.2.1) (o.2.2.2.2.2.2.2.2.2.2.2.2.2.2.2) := rfl
theorem ep18 {α1 α2 α3 α4 α5 α6 α7 α8 α9 α10 α11 α12 α13 α14 α15 α16 α17 α18 β : Type} {k : α1 → α2 → α3 → α4 → α5 → α6 → α7 → α8 → α9 → α10 → α11 → α12 → α13 → α14 → α15 → α16 → α17 → α18 → Option β} {a : α1} {o : α2 × α3 × α4 × α5 × α6 × α7 × α8 × α9 × α10 × α11 × α12 × α13 × α14 × α15 × α16 × α17 × α18} : bd18 (some (a, o)) k = k a (o.1) (o.2.1) (o.2.2.1) (o.2.2.2.1) (o.2.2.2.2.1) (o.2.2.2.2.2.1) (o.2.2.2.2.2.2.1) (o.2.2.2.2.2.2.2.1) (o.2.2.2.2.2.2.2.2.1) (o.2.2.2.2.2.2.2.2.2.1) (o.2.2.2.2.2.2.2.2.2.2.1) (o.2.2.2.2.2.2.2.2.2.2.2.1) (o.2.2.2.2.2.2.2.2.2.2.2.2.1) (o.2.2.2.2.2.2.2.2.2.2.2.2.2.1) (o.2.2.2.2.2.2.2.2.2.2.2.2.2.2.1) (o.2.2.2.2.2.2.2.2.2.2.2.2.2.2.2.1) (o.2.2.2.2.2.2.2.2.2.2.2.2.2.2.2.2) := rfl
theorem ep19 {α1 α2 α3 α4 α5 α6 α7 α8 α9 α10 α11 α12 α13 α14 α15 α16 α17 α18 α19 β : Type} {k : α1 → α2 → α3 → α4 → α5 → α6 → α7 → α8 → α9 → α10 → α11 → α12 → α13 → α14 → α15 → α16 → α17 → α18 → α19 → Option β} {a : α1} {o : α2 × α3 × α4 × α5 × α6 × α7 × α8 × α9 × α10 × α11 × α12 × α13 × α14 × α15 × α16 × α17 × α18 × α19} : bd19 (some (a, o)) k = k a (o.1) (o.2.1) (o.2.2.1) (o.2.2.2.1) (o.2.2.2.2.1) (o.2.2.2.2.2.1) (o.2.2.2.2.2.2.1) (o.2.2.2.2.2.2.2.1) (o.2.2.2.2.2.2.2.2.1) (o.2.2.2.2.2.2.2.2.2.1) (o.2.2.2.2.2.2.2.2.2.2.1) (o.2.2.2.2.2.2.2.2.2.2.2.1) (o.2.2.2.2.2.2.2.2.2.2.2.2.1) (o.2.2.2.2.2.2.2.2.2.2.2.2.2.1) (o.2.2.2.2.2.2.2.2.2.2.2.2.2.2.1) (o.2.2.2.2.2.2.2.2.2.2.2.2.2.2.2.1) (o.2.2.2.2.2.2.2.2.2.2.2.2.2.2.2.2.1) (o.2.2.2.2.2.2.2.2.2.2.2.2.2.2.2.2.2) := rfl
theorem ep20 {α1 α2 α3 α4 α5 α6 α7 α8 α9 α10 α11 α12 α13 α14 α15 α16 α17 α18 α19 α20 β : Type} {k : α1 → α2 → α3 → α4 → α5 → α6 → α7 → α8 → α9 → α10 → α11 → α12 → α13 → α14 → α15 → α16 → α17 → α18 → α19 → α20 → Option β} {a : α1} {o : α2 × α3 × α4 × α5 × α6 × α7 × α8 × α9 × α10 × α11 × α12 × α13 × α14 × α15 × α16 × α17 × α18 × α19 × α20} : bd20 (some (a, o)) k = k a (o.1) (o.2.1) (o.2.2.1) (o.2.2.2.1) (o.2.2.2.2.1) (o.2.2.2.2.2.1) (o.2.2.2.2.2.2.1) (o.2.2.2.2.2.2.2.1) (o.2.2.2.2.2.2.2.2.1) (o.2.2.2.2.2.2.2.2.2.1) (o.2.2.2.2.2.2.2.2.2.2.1) (o.2.2.2.2.2.2.2.2.2.2.2.1) (o.2.2.2.2.2.2.2.2.2.2.2.2.1) (o.2.2.2.2.2.2.2.2.2.2.2.2.2.1) (o.2.2.2.2.2.2.2.2.2.2.2.2.2.2.1) (o.2.2.2.2.2.2.2.2.2.2.2.2.2.2.2.1) (o.2.2.2.2.2.2.2.2.2.2.2.2.2.2.2.2.1) (o.2.2.2.2.2.2.2.2.2.2.2.2.2.2.2.2.2.1) (o.2.2.2.2.2.2.2.2.2.2.2.2.2.2.2.2.2.2) := rfl
theorem ep21 {α1 α2 α3 α4 α5 α6 α7 α8 α9 α10 α11 α12 α13 α14 α15 α16 α17 α18 α19 α20 α21 β : Type} {k : α1 → α2 → α3 → α4 → α5 → α6 → α7 → α8 → α9 → α10 → α11 → α12 → α13 → α14 → α15 → α16 → α17 → α18 → α19 → α20 → α21 → Option β} {a : α1} {o : α2 × α3 × α4 × α5 × α6 × α7 × α8 × α9 × α10 × α11 × α12 × α13 × α14 × α15 × α16 × α17 × α18 × α19 × α20 × α21} : bd21 (some (a, o)) k = k a (o.1) (o.2.1) (o.2.2.1) (o.2.2.2.1) (o.2.2.2.2.1) (o.2.2.2.2.2.1) (o.2.2.2.2.2.2.1) (o.2.2.2.2.2.2.2.1) (o.2.2.2.2.2.2.2.2.1) (o.2.2.2.2.2.2.2.2.2.1) (o.2.2.2.2.2.2.2.2.2.2.1) (o.2.2.2.2.2.2.2.2.2.2.2.1) (o.2.2.2.2.2.2.2.2.2.2.2.2.1) (o.2.2.2.2.2.2.2.2.2.2.2.2.2.1) (o.2.2.2.2.2.2.2.2.2.2.2.2.2.2.1) (o.2.2.2.2.2.2.2.2.2.2.2.2.2.2.2.1) (o.2.2.2.2.2.2.2.2.2.2.2.2.2.2.2.2.1) (o.2.2.2.2.2.2.2.2.2.2.2.2.2.2.2.2.2.1) (o.2.2.2.2.2.2.2.2.2.2.2.2.2.2.2.2.2.2.1) (o.2.2.2.2.2.2.2.2.2.2.2.2.2.2.2.2.2.2.2) := rfl
theorem ep22 {α1 α2 α3 α4 α5 α6 α7 α8 α9 α10 α11 α12 α13 α14 α15 α16 α17 α18 α19 α20 α21 α22 β : Type} {k : α1 → α2 → α3 → α4 → α5 → α6 → α7 → α8 → α9 → α10 → α11 → α12 → α13 → α14 → α15 → α16 → α17 → α18 → α19 → α20 → α21 → α22 → Option β} {a : α1} {o : α2 × α3 × α4 × α5 × α6 × α7 × α8 × α9 × α10 × α11 × α12 × α13 × α14 × α15 × α16 × α17 × α18 × α19 × α20 × α21 × α22} : bd22 (some (a, o)) k = k a (o.1) (o.2.1) (o.2.2.1) (o.2.2.2.1) (o.2.2.2.2.1) (o.2.2.2.2.2.1) (o.2.2.2.2.2.2.1) (o.2.2.2.2.2.2.2.1) (o.2.2.2.2.2.2.2.2.1) (o.2.2.2.2.2.2.2.2.2.1) (o.2.2.2.2.2.2.2.2.2.2.1) (o.2.2.2.2.2.2.2.2.2.2.2.1) (o.2.2.2.2.2.2.2.2.2.2.2.2.1) (o.2.2.2.2.2.2.2.2.2.2.2.2.2.1) (o.2.2.2.2.2.2.2.2.2.2.2.2.2.2.1) (o.2.2.2.2.2.2.2.2.2.2.2.2.2.2.2.1) (o.2.2.2.2.2.2.2.2.2.2.2.2.2.2.2.2.1) (o.2.2.2.2.2.2.2.2.2.2.2.2.2.2.2.2.2.1) (o.2.2.2.2.2.2.2.2.2.2.2.2.2.2.2.2.2.2.1) (o.2.2.2.2.2.2.2.2.2.2.2.2.2.2.2.2.2.2.2.1) (o.2.2.2.2.2.2.2.2.2.2.2.2.2.2.2.2.2.2.2.2) := rfl

theorem m_in0 {v lo hi : Int32} (h : v < lo ∨ hi < v) : f_X9_in v lo hi = some 0 := by
  unfold f_X9_in
  by_cases c : v < lo
  · rw [if_pos c]
  · rw [if_neg c, if_pos (h.resolve_left c)]
theorem m_in1 {v lo hi : Int32} (h1 : ¬ v < lo) (h2 : ¬ hi < v) : f_X9_in v lo hi = some 1 := by
  unfold f_X9_in
  rw [if_neg h1, if_neg h2]
theorem e_of0 {m x : Int32} (h : x < 0 ∨ m < x) : f_X8_isOfPlan m x = some 0 := by
  unfold f_X8_isOfPlan
  by_cases c : x < 0
  · rw [if_pos c]
  · rw [if_neg c, if_pos (h.resolve_left c)]
theorem e_of1 {m x : Int32} (h1 : ¬ x < 0) (h2 : ¬ m < x) : f_X8_isOfPlan m x = some 1 := by
  unfold f_X8_isOfPlan
  rw [if_neg h1, if_neg h2]
theorem n_of {x : Int32} {M : Nat} (hM : M < 2147483648) (h1 : ¬ x < 0) (h2 : ¬ nI M < x) : ∃ U, U ≤ M ∧ x = nI U := by
  rw [t_lt, i0] at h1
  rw [t_lt, t_n M hM] at h2
  exact ⟨x.toInt.toNat, by omega, t_of (by omega)⟩
/-! COARSE -/
def s32 (g : Nat → Int32) (a : Nat) : Nat → Int32
  | 0 => 0
  | n + 1 => s32 g a n + g (a + n)
theorem s32_ag {g h : Nat → Int32} {a m : Nat} (e : ag m g h) : ∀ n, a + n ≤ m → s32 g a n = s32 h a n := by
  intro n
  induction n with
  | zero => intro _; rfl
  | succ n ih => intro hn; show s32 g a n + g (a + n) = s32 h a n + h (a + n); rw [ih (by omega), e (a + n) (by omega)]
theorem s32_sI (g : Nat → Int32) : ∀ n, s32 g 0 n = Int32.ofInt (sI g n) := by
  intro n
  induction n with
  | zero => rfl
  | succ n ih =>
    show s32 g 0 n + g (0 + n) = Int32.ofInt (sI g n + (g n).toInt)
    rw [ih, Int32.ofInt_add, Nat.zero_add, Int32.ofInt_toInt]
def coS (g : Nat → Int32) (tot : Int32) : Int32 := 1000 * s32 g 30 34 / tot
theorem e_coarse (tot : Int32) (g : Nat → Int32) : f_X2_coarse tot g = some (coS g tot) := by
  have key : ∀ n k fu, k + n = 34 → n < fu → f_X2_coarse_L5 tot g fu (s32 g 30 k) (nI (30 + k)) = some (coS g tot) := by
    intro n
    induction n with
    | zero =>
      intro k fu hk hf
      obtain ⟨fu, rfl⟩ : ∃ k, fu = k + 1 := ⟨fu - 1, by omega⟩
      have e : k = 34 := by omega
      subst e
      rw [f_X2_coarse_L5, if_pos (show (63 : Int32) < nI (30 + 34) by decide), e_quot]; rfl
    | succ n ih =>
      intro k fu hk hf
      obtain ⟨fu, rfl⟩ : ∃ k, fu = k + 1 := ⟨fu - 1, by omega⟩
      rw [f_X2_coarse_L5, if_neg (show ¬ (63 : Int32) < nI (30 + k) from nI_nlt (show 30 + k ≤ 63 by omega) (by decide)), e_grams (30 + k) (by omega) rfl, eb1, nI_1]
      exact ih (k + 1) fu (by omega) (by omega)
  exact key 34 0 FU (by omega) (FU_gt (by decide))
theorem m_coarse (fl : Nat → Int32) : f_X9_coarse fl = some (1000 * s32 fl 30 34 / s32 fl 0 64) := by
  have key : ∀ n k fu, k + n = 64 → n < fu → f_X9_coarse_L6 fl fu (s32 fl 30 (k - 30)) (s32 fl 0 k) (nI k) = some (1000 * s32 fl 30 34 / s32 fl 0 64) := by
    intro n
    induction n with
    | zero =>
      intro k fu hk hf
      obtain ⟨fu, rfl⟩ : ∃ k, fu = k + 1 := ⟨fu - 1, by omega⟩
      have e : k = 64 := by omega
      subst e
      rw [f_X9_coarse_L6, if_pos (show (64 : Int32) ≤ nI 64 by decide)]
      show (if s32 fl 0 64 = 0 then some 0 else gd (¬ s32 fl 0 64 = 0) (some (1000 * s32 fl 30 34 / s32 fl 0 64))) = _
      by_cases c : s32 fl 0 64 = 0
      · rw [if_pos c, c, Int32.div_zero]
      · rw [if_neg c, gd_ok c]
    | succ n ih =>
      intro k fu hk hf
      obtain ⟨fu, rfl⟩ : ∃ k, fu = k + 1 := ⟨fu - 1, by omega⟩
      have hin := n_in (show k < 64 by omega) (by decide)
      rw [f_X9_coarse_L6, if_neg (show ¬ (64 : Int32) ≤ nI k from nI_ge (show k < 64 by omega) (by decide)), gd_ok hin, nI_1]
      have h := ih (k + 1) fu (by omega) (by omega)
      have e1 : s32 fl 0 (k + 1) = s32 fl 0 k + fl k := by show s32 fl 0 k + fl (0 + k) = _; rw [Nat.zero_add]
      rw [e1] at h
      by_cases c : nI k ≤ 29
      · rw [if_pos c, show s32 fl 30 (k - 30) + 0 = s32 fl 30 (k - 30) from Int32.add_zero _, nI_clamp (by omega)]
        have hk29 : k ≤ 29 := (nI_le_iff (by omega) (by decide)).mp c
        rw [show k + 1 - 30 = k - 30 by omega] at h
        exact h
      · rw [if_neg c, gd_ok hin, nI_clamp (by omega)]
        have hk29 : ¬ k ≤ 29 := fun q => c (nI_le q (by decide))
        rw [show k + 1 - 30 = (k - 30) + 1 by omega, show s32 fl 30 (k - 30 + 1) = s32 fl 30 (k - 30) + fl k by show s32 fl 30 (k - 30) + fl (30 + (k - 30)) = _; rw [show 30 + (k - 30) = k by omega]] at h
        exact h
  exact key 64 0 FU (by omega) (FU_gt (by decide))
theorem co_eq {g fl : Nat → Int32} {tot : Int32} (h : ag 64 g fl) (ht : s32 g 0 64 = tot) : f_X9_coarse fl = some (coS g tot) := by
  rw [m_coarse, ← s32_ag h 34 (by decide), ← s32_ag h 64 (by decide), ht]; rfl
theorem gi_tot {g : Nat → Int32} {tot : Int32} (h : GI g tot) : s32 g 0 64 = tot := by
  rw [s32_sI, h.2, Int32.ofInt_toInt]
/-! what the state is, as far as a RUN needs it -/
def HF (how : Nat → Int32) : Prop := ∀ j, j < 8 → (tfn 0 j).toInt ≤ (how j).toInt ∧ (how j).toInt ≤ (tfn 1 j).toInt
theorem hf_hr {how : Nat → Int32} (h : HF how) : HR how ∧ (0 ≤ (how 1).toInt ∧ (how 1).toInt ≤ 3000) := by
  have h0 := h 0 (by decide)
  have h1 := h 1 (by decide)
  have h2 := h 2 (by decide)
  have h3 := h 3 (by decide)
  have h4 := h 4 (by decide)
  exact ⟨⟨h0, h2, h3, h4⟩, h1⟩
def RP (numbers strengths : Nat → Int32) (parts mins : Int32) (who am le how strong : Nat → Int32) (mparts : Int32) (plan : Nat → Int32) : Prop := ag 8 numbers how ∧ HF how ∧ ag 4 strengths strong ∧ ∃ N, parts = nI N ∧ mparts = nI N ∧ PL N who am le plan ∧ mS le N ≤ 117 ∧ mins = nI (mS le N)
theorem m_asTold (sF pOA : Int32) (how ins : Nat → Int32) : ∃ i', f_X9_asTold sF pOA how ins = some (how 1, -6, i') ∧ ∀ c, c < 4 → i' c = nI c := by
  have L := loop_up (fun fu i G => f_X9_asTold_L2 how fu i sF pOA G) 4 (fun j G => upd G j (nI j)) (fun G => some (how 1, -6, G)) (fun j G => ∀ c, c < j → G c = nI c)
    (fun fu j G hj hI => by
      show f_X9_asTold_L2 how (fu + 1) (nI j) sF pOA G = f_X9_asTold_L2 how fu (nI (j + 1)) sF pOA (upd G j (nI j))
      rw [f_X9_asTold_L2, if_neg (show ¬ (4 : Int32) ≤ nI j from nI_ge hj (by decide)), gd_ok (n_in hj (by decide)), nI_clamp (by omega), nI_1])
    (fun j G hj hI c hc => by
      show upd G j (nI j) c = nI c
      rw [upd_at]
      split
      · next e => rw [e]
      · exact hI c (by omega))
    (fun fu G hI => by
      show f_X9_asTold_L2 how (fu + 1) (nI 4) sF pOA G = some (how 1, -6, G)
      rw [f_X9_asTold_L2, if_pos (show (4 : Int32) ≤ nI 4 by decide), gd_ok (by decide)]; rfl)
    4 FU 0 ins rfl (FU_gt (by decide)) (fun c hc => absurd hc (Nat.not_lt_zero c))
  exact ⟨_, L.1, L.2⟩
theorem way27 : ∀ i, i < 4 → f_X8_childInPlace 27 (nI i) = some (nI i) := by
  intro i hi
  match i, hi with
  | 0, _ => decide
  | 1, _ => decide
  | 2, _ => decide
  | 3, _ => decide

theorem told2 {numbers strengths who am le how strong plan : Nat → Int32} {N : Nat} (hnum : ag 8 numbers how) (hf : HF how) (hst : ag 4 strengths strong) (hPL : PL N who am le plan) (hM : mS le N ≤ 117) (U : Nat) (hU : U ≤ mS le N) (c0 c1 c2 c3 c4 c5 c6 c7 c8 c9 c10 c11 c12 c13 c14 : Int32) (g wr hb : Nat → Int32) (sF pOA d0 d1 d2 d3 d4 d5 d6 d7 d8 d9 d10 d11 sw : Int32) (ins fl tr : Nat → Int32) :
    ∃ (t' : Nat) (held' first' ice' salt' br' cold' wm' ly' air' ch' tot' sf' : Int32) (g' fl' wr' tr' hb' : Nat → Int32) (i' : Nat → Int32), t' ≤ U ∧
      f_X8_runFor numbers strengths (nI N) (nI (mS le N)) who am le c0 c1 c2 c3 c4 c5 c6 c7 c8 c9 c10 c11 c12 c13 c14 g wr hb (nI U) = some (nI t', held', first', ice', salt', br', cold', how 2, how 3, how 4, wm', ly', air', ch', tot', g', wr', hb') ∧
      f_X9_runTold (nI N) sF pOA d0 d1 d2 d3 d4 d5 d6 d7 d8 d9 d10 sw d11 how strong plan ins fl tr (nI U) = some (how 1, -6, ice', salt', br', cold', wm', tot', ly', air', ch', held', first', sf', i', fl', tr') ∧
      RI (how 2) (how 3) (how 4) sw t' held' first' ice' salt' br' cold' ly' tot' g' fl' wr' tr' hb' sf' := by
  obtain ⟨hr, hs⟩ := hf_hr hf
  obtain ⟨i', a1, a2⟩ := m_asTold sF pOA how ins
  obtain ⟨t', held', first', ice', salt', br', cold', wm', ly', air', ch', tot', sf', g', fl', wr', tr', hb', q0, q1, q2, q3⟩ := run2 (instead := i') (way := 27) (onep := 0) (pOA := -6) (S := how 1) hnum hr hst hPL hM hs (fun i hi => ⟨i, hi, way27 i hi, a2 i hi⟩) (Or.inl ⟨rfl, by decide⟩) U hU sw c0 c1 c2 c3 c4 c5 c6 c7 c8 c9 c10 c11 c12 c13 c14 g wr hb d0 d1 d2 d3 d4 d5 d6 d7 d8 d9 d10 d11 fl tr
  refine ⟨t', held', first', ice', salt', br', cold', wm', ly', air', ch', tot', sf', g', fl', wr', tr', hb', i', q0, ?_, ?_, q3⟩
  · unfold f_X8_runFor
    rw [e_num (i := 1) 1 (by decide) rfl, eb1, hnum 1 (by decide), q1]; rfl
  · unfold f_X9_runTold
    rw [a1, eb3, q2]; rfl
theorem told3 {numbers strengths who am le how strong plan : Nat → Int32} {N : Nat} (hnum : ag 8 numbers how) (hf : HF how) (hst : ag 4 strengths strong) (hPL : PL N who am le plan) (hM : mS le N ≤ 117) (c0 c1 c2 c3 c4 c5 c6 c7 c8 c9 c10 c11 c12 c13 c14 : Int32) (g wr hb : Nat → Int32) (sF pOA d0 d1 d2 d3 d4 d5 d6 d7 d8 d9 d10 d11 sw : Int32) (ins fl tr : Nat → Int32) :
    ∃ (t' : Nat) (held' first' ice' salt' br' cold' wm' ly' air' ch' tot' sf' : Int32) (g' fl' wr' tr' hb' : Nat → Int32) (i' : Nat → Int32), t' ≤ 117 ∧
      f_X8_runAsTold numbers strengths (nI N) (nI (mS le N)) who am le c0 c1 c2 c3 c4 c5 c6 c7 c8 c9 c10 c11 c12 c13 c14 g wr hb = some (nI t', held', first', ice', salt', br', cold', how 2, how 3, how 4, wm', ly', air', ch', tot', g', wr', hb') ∧
      f_X9_runTold (nI N) sF pOA d0 d1 d2 d3 d4 d5 d6 d7 d8 d9 d10 sw d11 how strong plan ins fl tr (nI (mS le N)) = some (how 1, -6, ice', salt', br', cold', wm', tot', ly', air', ch', held', first', sf', i', fl', tr') ∧
      RI (how 2) (how 3) (how 4) sw t' held' first' ice' salt' br' cold' ly' tot' g' fl' wr' tr' hb' sf' := by
  obtain ⟨t', held', first', ice', salt', br', cold', wm', ly', air', ch', tot', sf', g', fl', wr', tr', hb', i', q0, q1, q2, q3⟩ := told2 hnum hf hst hPL hM (mS le N) (Nat.le_refl _) c0 c1 c2 c3 c4 c5 c6 c7 c8 c9 c10 c11 c12 c13 c14 g wr hb sF pOA d0 d1 d2 d3 d4 d5 d6 d7 d8 d9 d10 d11 sw ins fl tr
  refine ⟨t', held', first', ice', salt', br', cold', wm', ly', air', ch', tot', sf', g', fl', wr', tr', hb', i', by omega, ?_, q2, q3⟩
  unfold f_X8_runFor at q1
  unfold f_X8_runAsTold
  exact q1
set_option maxHeartbeats 2000000 in
theorem s_after {numbers strengths who am le how strong plan : Nat → Int32} {parts mins mparts : Int32} (h : RP numbers strengths parts mins who am le how strong mparts plan) (c0 c1 c2 c3 c4 c5 c6 c7 c8 c9 c10 c11 c12 c13 c14 : Int32) (g wr hb : Nat → Int32) (sF pOA d0 d1 d2 d3 d4 d5 d6 d7 d8 d9 d10 d11 sw : Int32) (ins fl tr : Nat → Int32) (x1 x2 : Int32) : ∃ r o o', f_X8_after numbers strengths parts mins who am le c0 c1 c2 c3 c4 c5 c6 c7 c8 c9 c10 c11 c12 c13 c14 g wr hb x1 x2 = some (r, o) ∧ f_X9_after mparts sF pOA d0 d1 d2 d3 d4 d5 d6 d7 d8 d9 d10 sw d11 how strong plan ins fl tr x1 x2 = some (r, o') := by
  obtain ⟨hnum, hf, hst, N, rfl, rfl, hPL, hM, rfl⟩ := h
  unfold f_X8_after f_X9_after
  rw [m_mins hPL, eb1]
  by_cases a : x1 < 0 ∨ nI (mS le N) < x1
  · rw [e_of0 a, eb1, if_pos rfl, m_in0 a, eb1, if_pos rfl]
    exact ⟨_, _, _, rfl, rfl⟩
  · have a1 : ¬ x1 < 0 := fun q => a (Or.inl q)
    have a2 : ¬ nI (mS le N) < x1 := fun q => a (Or.inr q)
    obtain ⟨U, hU, rfl⟩ := n_of (by omega) a1 a2
    rw [e_of1 a1 a2, eb1, if_neg (show ¬ (1 : Int32) = 0 by decide), m_in1 a1 a2, eb1, if_neg (show ¬ (1 : Int32) = 0 by decide)]
    by_cases b1 : x2 < 0
    · rw [if_pos b1, m_in0 (Or.inl b1), eb1, if_pos rfl]
      exact ⟨_, _, _, rfl, rfl⟩
    · by_cases b2 : 11 < x2
      · rw [if_neg b1, if_neg (show ¬ x2 ≤ 11 by rw [t_le]; rw [t_lt] at b2; omega), m_in0 (Or.inr b2), eb1, if_pos rfl]
        exact ⟨_, _, _, rfl, rfl⟩
      · rw [if_neg b1, if_pos (show x2 ≤ 11 by rw [t_le]; rw [t_lt] at b2; omega), m_in1 b1 b2, eb1, if_neg (show ¬ (1 : Int32) = 0 by decide)]
        obtain ⟨t', held', first', ice', salt', br', cold', wm', ly', air', ch', tot', sf', g', fl', wr', tr', hb', i', q0, q1, q2, q3⟩ := told2 hnum hf hst hPL hM U hU c0 c1 c2 c3 c4 c5 c6 c7 c8 c9 c10 c11 c12 c13 c14 g wr hb sF pOA d0 d1 d2 d3 d4 d5 d6 d7 d8 d9 d10 d11 sw ins fl tr
        obtain ⟨e0, e1, e2, e3, e4, e5, k, k10, k60, hs⟩ := mi_d q3.1 wm'
        rw [q1, q2, eb18, eb17]
        unfold f_X5_number
        by_cases c0 : x2 = 0
        · rw [if_pos c0, if_pos c0]; exact ⟨_, _, _, rfl, rfl⟩
        rw [if_neg c0, if_neg c0]
        by_cases c1 : x2 = 1
        · rw [if_pos c1, if_pos c1]; exact ⟨_, _, _, rfl, rfl⟩
        rw [if_neg c1, if_neg c1]
        by_cases c2 : x2 = 2
        · rw [if_pos c2, if_pos c2]; exact ⟨_, _, _, rfl, rfl⟩
        rw [if_neg c2, if_neg c2]
        by_cases c3 : x2 = 3
        · rw [if_pos c3, if_pos c3]; exact ⟨_, _, _, rfl, rfl⟩
        rw [if_neg c3, if_neg c3]
        by_cases c4 : x2 = 4
        · rw [if_pos c4, if_pos c4]; exact ⟨_, _, _, rfl, rfl⟩
        rw [if_neg c4, if_neg c4]
        by_cases c5 : x2 = 5
        · rw [if_pos c5, if_pos c5]; exact ⟨_, _, _, rfl, rfl⟩
        rw [if_neg c5, if_neg c5]
        by_cases c6 : x2 = 6
        · rw [if_pos c6, if_pos c6]; exact ⟨_, _, _, rfl, rfl⟩
        rw [if_neg c6, if_neg c6]
        by_cases c7 : x2 = 7
        · rw [if_pos c7, if_pos c7]; exact ⟨_, _, _, rfl, rfl⟩
        rw [if_neg c7, if_neg c7]
        by_cases c8 : x2 = 8
        · rw [if_pos c8, if_pos c8, e_stiff, m_stiff rfl e0]; exact ⟨_, _, _, rfl, rfl⟩
        rw [if_neg c8, if_neg c8]
        by_cases c9 : x2 = 9
        · rw [if_pos c9, if_pos c9]; exact ⟨_, _, _, rfl, rfl⟩
        rw [if_neg c9, if_neg c9]
        by_cases c10 : x2 = 10
        · rw [if_pos c10, if_pos c10, e_coarse, co_eq q3.2.1 (gi_tot q3.2.2.2.2.2.2.1)]; exact ⟨_, _, _, rfl, rfl⟩
        rw [if_neg c10, if_neg c10, e_line, m_line rfl rfl e2]
        exact ⟨_, _, _, rfl, rfl⟩
set_option maxHeartbeats 2000000 in
theorem s_flakes {numbers strengths who am le how strong plan : Nat → Int32} {parts mins mparts : Int32} (h : RP numbers strengths parts mins who am le how strong mparts plan) (c0 c1 c2 c3 c4 c5 c6 c7 c8 c9 c10 c11 c12 c13 c14 : Int32) (g wr hb : Nat → Int32) (sF pOA d0 d1 d2 d3 d4 d5 d6 d7 d8 d9 d10 d11 sw : Int32) (ins fl tr : Nat → Int32) (x1 x2 : Int32) : ∃ r o o', f_X8_flakes numbers strengths parts mins who am le c0 c1 c2 c3 c4 c5 c6 c7 c8 c9 c10 c11 c12 c13 c14 g wr hb x1 x2 = some (r, o) ∧ f_X9_flakes mparts sF pOA d0 d1 d2 d3 d4 d5 d6 d7 d8 d9 d10 sw d11 how strong plan ins fl tr x1 x2 = some (r, o') := by
  obtain ⟨hnum, hf, hst, N, rfl, rfl, hPL, hM, rfl⟩ := h
  unfold f_X8_flakes f_X9_flakes
  rw [m_mins hPL, eb1]
  by_cases a : x1 < 0 ∨ nI (mS le N) < x1
  · rw [e_of0 a, eb1, if_pos rfl, m_in0 a, eb1, if_pos rfl]
    exact ⟨_, _, _, rfl, rfl⟩
  · have a1 : ¬ x1 < 0 := fun q => a (Or.inl q)
    have a2 : ¬ nI (mS le N) < x1 := fun q => a (Or.inr q)
    obtain ⟨U, hU, rfl⟩ := n_of (by omega) a1 a2
    rw [e_of1 a1 a2, eb1, if_neg (show ¬ (1 : Int32) = 0 by decide), m_in1 a1 a2, eb1, if_neg (show ¬ (1 : Int32) = 0 by decide)]
    by_cases b1 : x2 < 10
    · rw [if_pos b1, m_in0 (Or.inl b1), eb1, if_pos rfl]
      exact ⟨_, _, _, rfl, rfl⟩
    · by_cases b2 : 60 < x2
      · rw [if_neg b1, if_neg (show ¬ x2 ≤ 60 by rw [t_le]; rw [t_lt] at b2; omega), m_in0 (Or.inr b2), eb1, if_pos rfl]
        exact ⟨_, _, _, rfl, rfl⟩
      · rw [if_neg b1, if_pos (show x2 ≤ 60 by rw [t_le]; rw [t_lt] at b2; omega), m_in1 b1 b2, eb1, if_neg (show ¬ (1 : Int32) = 0 by decide)]
        obtain ⟨t', held', first', ice', salt', br', cold', wm', ly', air', ch', tot', sf', g', fl', wr', tr', hb', i', q0, q1, q2, q3⟩ := told2 hnum hf hst hPL hM U hU c0 c1 c2 c3 c4 c5 c6 c7 c8 c9 c10 c11 c12 c13 c14 g wr hb sF pOA d0 d1 d2 d3 d4 d5 d6 d7 d8 d9 d10 d11 sw ins fl tr
        obtain ⟨j, hj, rfl⟩ : ∃ j, j < 64 ∧ x2 = nI j := by
          have g60 : (60 : Int32).toInt = 60 := rfl
          rw [t_lt, i10] at b1
          rw [t_lt, g60] at b2
          exact ⟨x2.toInt.toNat, by omega, t_of (by omega)⟩
        rw [q1, q2, eb18, eb17, e_grams j hj rfl, eb1, gd_ok (n_in hj (by decide)), nI_clamp (by omega), q3.2.1 j hj]
        exact ⟨_, _, _, rfl, rfl⟩
set_option maxHeartbeats 2000000 in
theorem s_tired {numbers strengths who am le how strong plan : Nat → Int32} {parts mins mparts : Int32} (h : RP numbers strengths parts mins who am le how strong mparts plan) (c0 c1 c2 c3 c4 c5 c6 c7 c8 c9 c10 c11 c12 c13 c14 : Int32) (g wr hb : Nat → Int32) (sF pOA d0 d1 d2 d3 d4 d5 d6 d7 d8 d9 d10 d11 sw : Int32) (ins fl tr : Nat → Int32) (x1 x2 : Int32) : ∃ r o o', f_X8_tired numbers strengths parts mins who am le c0 c1 c2 c3 c4 c5 c6 c7 c8 c9 c10 c11 c12 c13 c14 g wr hb x1 x2 = some (r, o) ∧ f_X9_tired mparts sF pOA d0 d1 d2 d3 d4 d5 d6 d7 d8 d9 d10 sw d11 how strong plan ins fl tr x1 x2 = some (r, o') := by
  obtain ⟨hnum, hf, hst, N, rfl, rfl, hPL, hM, rfl⟩ := h
  unfold f_X8_tired f_X9_tired f_X8_isChild
  by_cases a1 : x1 < 0
  · rw [if_pos a1, eb1, if_pos rfl, m_in0 (Or.inl a1), eb1, if_pos rfl]
    exact ⟨_, _, _, rfl, rfl⟩
  · by_cases a2 : 3 < x1
    · rw [if_neg a1, if_pos (show (4 : Int32) ≤ x1 by rw [t_le, i4]; rw [t_lt, i3] at a2; omega), eb1, if_pos rfl, m_in0 (Or.inr a2), eb1, if_pos rfl]
      exact ⟨_, _, _, rfl, rfl⟩
    · obtain ⟨j, hj, rfl⟩ : ∃ j, j < 4 ∧ x1 = nI j := by
        rw [t_lt, i0] at a1
        rw [t_lt, i3] at a2
        exact ⟨x1.toInt.toNat, by omega, t_of (by omega)⟩
      rw [if_neg a1, if_neg (show ¬ (4 : Int32) ≤ nI j from nI_ge hj (by decide)), eb1, if_neg (show ¬ (1 : Int32) = 0 by decide), m_in1 a1 a2, eb1, if_neg (show ¬ (1 : Int32) = 0 by decide), m_mins hPL, eb1]
      by_cases b : x2 < 0 ∨ nI (mS le N) < x2
      · rw [e_of0 b, eb1, if_pos rfl, m_in0 b, eb1, if_pos rfl]
        exact ⟨_, _, _, rfl, rfl⟩
      · have b1 : ¬ x2 < 0 := fun q => b (Or.inl q)
        have b2 : ¬ nI (mS le N) < x2 := fun q => b (Or.inr q)
        obtain ⟨U, hU, rfl⟩ := n_of (by omega) b1 b2
        rw [e_of1 b1 b2, eb1, if_neg (show ¬ (1 : Int32) = 0 by decide), m_in1 b1 b2, eb1, if_neg (show ¬ (1 : Int32) = 0 by decide)]
        obtain ⟨t', held', first', ice', salt', br', cold', wm', ly', air', ch', tot', sf', g', fl', wr', tr', hb', i', q0, q1, q2, q3⟩ := told2 hnum hf hst hPL hM U hU c0 c1 c2 c3 c4 c5 c6 c7 c8 c9 c10 c11 c12 c13 c14 g wr hb sF pOA d0 d1 d2 d3 d4 d5 d6 d7 d8 d9 d10 d11 sw ins fl tr
        rw [q1, q2, eb18, eb17, e_wear j hj rfl, eb1, gd_ok (n_in hj (by decide)), nI_clamp (by omega), q3.2.2.1 j hj]
        exact ⟨_, _, _, rfl, rfl⟩
set_option maxHeartbeats 2000000 in
theorem s_held {numbers strengths who am le how strong plan : Nat → Int32} {parts mins mparts : Int32} (h : RP numbers strengths parts mins who am le how strong mparts plan) (c0 c1 c2 c3 c4 c5 c6 c7 c8 c9 c10 c11 c12 c13 c14 : Int32) (g wr hb : Nat → Int32) (sF pOA d0 d1 d2 d3 d4 d5 d6 d7 d8 d9 d10 d11 sw : Int32) (ins fl tr : Nat → Int32) (x1 : Int32) : ∃ r o o', f_X8_held numbers strengths parts mins who am le c0 c1 c2 c3 c4 c5 c6 c7 c8 c9 c10 c11 c12 c13 c14 g wr hb x1 = some (r, o) ∧ f_X9_held mparts sF pOA d0 d1 d2 d3 d4 d5 d6 d7 d8 d9 d10 sw d11 how strong plan ins fl tr x1 = some (r, o') := by
  obtain ⟨hnum, hf, hst, N, rfl, rfl, hPL, hM, rfl⟩ := h
  unfold f_X8_held f_X9_held
  by_cases a1 : x1 < 0
  · rw [if_pos a1, m_in0 (Or.inl a1), eb1, if_pos rfl]
    exact ⟨_, _, _, rfl, rfl⟩
  · by_cases a2 : 1 < x1
    · rw [if_neg a1, if_neg (show ¬ x1 ≤ 1 by rw [t_le]; rw [t_lt] at a2; omega), m_in0 (Or.inr a2), eb1, if_pos rfl]
      exact ⟨_, _, _, rfl, rfl⟩
    · rw [if_neg a1, if_pos (show x1 ≤ 1 by rw [t_le]; rw [t_lt] at a2; omega), m_in1 a1 a2, eb1, if_neg (show ¬ (1 : Int32) = 0 by decide), m_mins hPL, eb1]
      obtain ⟨t', held', first', ice', salt', br', cold', wm', ly', air', ch', tot', sf', g', fl', wr', tr', hb', i', q0, q1, q2, q3⟩ := told3 hnum hf hst hPL hM c0 c1 c2 c3 c4 c5 c6 c7 c8 c9 c10 c11 c12 c13 c14 g wr hb sF pOA d0 d1 d2 d3 d4 d5 d6 d7 d8 d9 d10 d11 sw ins fl tr
      rw [q1, q2, eb18, eb17]
      by_cases c0 : x1 = 0
      · rw [if_pos c0, if_pos c0]; exact ⟨_, _, _, rfl, rfl⟩
      · rw [if_neg c0, if_neg c0]; exact ⟨_, _, _, rfl, rfl⟩
theorem e_leave {numbers strengths who am le : Nat → Int32} {parts mins : Int32} {c1 c2 c3 c4 c5 c6 c7 c8 c9 c10 c11 c12 c13 c14 : Int32} {g wr hb : Nat → Int32} {t : Nat} (ht : t ≤ 117) {sw sf : Int32} (hSF : SF hb sf sw t) : ∃ o, f_X8_leaveOff_L19 numbers strengths parts mins who am le FU sw 0 (nI t) c1 c2 c3 c4 c5 c6 c7 c8 c9 c10 c11 c12 c13 c14 g wr hb = some (sf, o) := by
  have key : ∀ n k fu, k + n = t → n < fu → (∀ m, m < k → hb m < sw) → ∃ o, f_X8_leaveOff_L19 numbers strengths parts mins who am le fu sw (nI k) (nI t) c1 c2 c3 c4 c5 c6 c7 c8 c9 c10 c11 c12 c13 c14 g wr hb = some (sf, o) := by
    intro n
    induction n with
    | zero =>
      intro k fu hk hf hall
      obtain ⟨fu, rfl⟩ : ∃ k, fu = k + 1 := ⟨fu - 1, by omega⟩
      have e : k = t := by omega
      subst e
      rw [f_X8_leaveOff_L19, if_pos (nI_le (Nat.le_refl k) (by omega))]
      rcases hSF with ⟨-, n, hn, -, h1, -⟩ | ⟨e, -⟩
      · exact absurd (hall n hn) h1
      · rw [e]; exact ⟨_, rfl⟩
    | succ n ih =>
      intro k fu hk hf hall
      obtain ⟨fu, rfl⟩ : ∃ k, fu = k + 1 := ⟨fu - 1, by omega⟩
      rw [f_X8_leaveOff_L19, if_neg (nI_ge (show k < t by omega) (by omega)), e_at k (show k < 117 by omega) (by decide) rfl, eb1, nI_1]
      by_cases c : hb k < sw
      · rw [if_pos c]
        exact ih (k + 1) fu (by omega) (by omega) (fun m hm => by
          by_cases e : m = k
          · rw [e]; exact c
          · exact hall m (by omega))
      · rw [if_neg c]
        rcases hSF with ⟨-, n', hn, e, h1, h2⟩ | ⟨-, h2⟩
        · have hkn : k = n' := by
            rcases Nat.lt_trichotomy k n' with q | q | q
            · exact absurd (h2 k q) c
            · exact q
            · exact absurd (hall n' q) h1
          rw [e, hkn]; exact ⟨_, rfl⟩
        · exact absurd (h2 k (by omega)) c
  exact key t 0 FU (by omega) (FU_gt (by omega)) (fun m hm => absurd hm (Nat.not_lt_zero m))
set_option maxHeartbeats 2000000 in
theorem s_leaveOff {numbers strengths who am le how strong plan : Nat → Int32} {parts mins mparts : Int32} (h : RP numbers strengths parts mins who am le how strong mparts plan) (c0 c1 c2 c3 c4 c5 c6 c7 c8 c9 c10 c11 c12 c13 c14 : Int32) (g wr hb : Nat → Int32) (sF pOA d0 d1 d2 d3 d4 d5 d6 d7 d8 d9 d10 d11 sw : Int32) (ins fl tr : Nat → Int32) (x1 : Int32) : ∃ r o o', f_X8_leaveOff numbers strengths parts mins who am le c0 c1 c2 c3 c4 c5 c6 c7 c8 c9 c10 c11 c12 c13 c14 g wr hb x1 = some (r, o) ∧ f_X9_leaveOff mparts sF pOA d0 d1 d2 d3 d4 d5 d6 d7 d8 d9 d10 sw d11 how strong plan ins fl tr x1 = some (r, o') := by
  obtain ⟨hnum, hf, hst, N, rfl, rfl, hPL, hM, rfl⟩ := h
  unfold f_X8_leaveOff f_X9_leaveOff
  by_cases a1 : x1 < 0
  · rw [if_pos a1, m_in0 (Or.inl a1), eb1, if_pos rfl]
    exact ⟨_, _, _, rfl, rfl⟩
  · by_cases a2 : 120 < x1
    · rw [if_neg a1, if_neg (show ¬ x1 ≤ 120 by rw [t_le]; rw [t_lt] at a2; omega), m_in0 (Or.inr a2), eb1, if_pos rfl]
      exact ⟨_, _, _, rfl, rfl⟩
    · rw [if_neg a1, if_pos (show x1 ≤ 120 by rw [t_le]; rw [t_lt] at a2; omega), m_in1 a1 a2, eb1, if_neg (show ¬ (1 : Int32) = 0 by decide), m_mins hPL, eb1]
      obtain ⟨t', held', first', ice', salt', br', cold', wm', ly', air', ch', tot', sf', g', fl', wr', tr', hb', i', q0, q1, q2, q3⟩ := told3 hnum hf hst hPL hM c0 c1 c2 c3 c4 c5 c6 c7 c8 c9 c10 c11 c12 c13 c14 g wr hb sF pOA d0 d1 d2 d3 d4 d5 d6 d7 d8 d9 d10 d11 x1 ins fl tr
      rw [q1, q2, eb18, eb17]
      obtain ⟨o, ho⟩ := e_leave (numbers := numbers) (strengths := strengths) (who := who) (am := am) (le := le) (parts := nI N) (mins := nI (mS le N)) (c1 := held') (c2 := first') (c3 := ice') (c4 := salt') (c5 := br') (c6 := cold') (c7 := how 2) (c8 := how 3) (c9 := how 4) (c10 := wm') (c11 := ly') (c12 := air') (c13 := ch') (c14 := tot') (g := g') (wr := wr') q0 q3.2.2.2.2.2.2.2
      exact ⟨_, _, _, ho, rfl⟩
