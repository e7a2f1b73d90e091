/-! BEST SALT, BEST PACE -/
theorem sI_mono {g : Nat → Int32} {m : Nat} (h : ∀ k, k < m → 0 ≤ (g k).toInt) (a : Nat) : ∀ n, a + n ≤ m → sI g a ≤ sI g (a + n) := by
  intro n
  induction n with
  | zero => intro _; exact Int.le_refl _
  | succ n ih =>
    intro hn
    have h1 := ih (by omega)
    have h2 := h (a + n) (by omega)
    show sI g a ≤ sI g (a + n) + (g (a + n)).toInt
    omega
theorem s32_off (g : Nat → Int32) (a : Nat) : ∀ n, s32 g a n = Int32.ofInt (sI g (a + n) - sI g a) := by
  intro n
  induction n with
  | zero => show (0 : Int32) = _; rw [show sI g (a + 0) - sI g a = 0 by show sI g a - sI g a = 0; omega]; rfl
  | succ n ih =>
    show s32 g a n + g (a + n) = _
    rw [ih]
    show _ = Int32.ofInt (sI g (a + n) + (g (a + n)).toInt - sI g a)
    rw [show sI g (a + n) + (g (a + n)).toInt - sI g a = (sI g (a + n) - sI g a) + (g (a + n)).toInt by omega, Int32.ofInt_add, Int32.ofInt_toInt]
theorem i1000 : (1000 : Int32).toInt = 1000 := rfl
theorem co_rng {g : Nat → Int32} {tot : Int32} (h : GI g tot) (ht : tot.toInt ≤ 2000) : (coS g tot).toInt ≤ 1000 := by
  have m1 := sI_mono h.1 30 34 (by decide)
  have m0 := (sI_nn 30 (fun k hk => h.1 k (by omega))).1
  have m2 := h.2
  unfold coS
  rw [s32_off]
  have e : sI g (30 + 34) = tot.toInt := m2
  rw [e] at m1 ⊢
  have e1 : (Int32.ofInt (tot.toInt - sI g 30)).toInt = tot.toInt - sI g 30 := Int32.toInt_ofInt_of_le (by omega) (by omega)
  have e2 : (1000 * Int32.ofInt (tot.toInt - sI g 30)).toInt = 1000 * (tot.toInt - sI g 30) := by rw [t_ml (by rw [i1000, e1]; omega) (by rw [i1000, e1]; omega), i1000, e1]
  by_cases c : tot = 0
  · rw [c, Int32.div_zero]; decide
  · have hpos : 0 < tot.toInt := by
      have : ¬ tot.toInt = 0 := fun q => c (by rw [t_eq, q]; rfl)
      omega
    rw [t_dv (by omega) hpos, e2]
    exact Int.ediv_le_of_le_mul hpos (by omega)
theorem e_enough {numbers how : Nat → Int32} (hnum : ag 8 numbers how) (tot : Int32) (g : Nat → Int32) : f_X8_coarseOfEnough numbers tot g = some (if 1000 * tot < how 6 * how 2 then 1001 else coS g tot) := by
  unfold f_X8_coarseOfEnough f_X8_coarseOfEnough_L43
  rw [e_num (i := 6) 6 (by decide) rfl, eb1, e_num (i := 2) 2 (by decide) rfl, eb1, hnum 6 (by decide), hnum 2 (by decide)]
  by_cases c : 1000 * tot < how 6 * how 2
  · rw [if_pos c, if_pos c, if_pos rfl]
  · rw [if_neg c, if_neg c, if_neg (by decide), e_coarse]; rfl
theorem m_enough (tot : Int32) (how : Nat → Int32) : f_X9_isEnough tot how = some (if 1000 * tot < how 6 * how 2 then 0 else 1) := by
  unfold f_X9_isEnough
  rw [gd_ok (by decide), gd_ok (by decide)]
  show (if 1000 * tot < how 6 * how 2 then some 0 else some 1) = _
  split <;> rfl
theorem aT0 : f_X8_atT 0 1 = some 0 := by decide
theorem aT1 : f_X8_atT 1 1 = some 3000 := by decide
def WSalt (N : Nat) (M : Int32) (sw : Int32) (how strong plan ins : Nat → Int32) (b : Nat) (co : Int32) : Prop := ∃ (d0 d1 d2 d3 d4 d5 d6 d7 d8 d9 d10 d11 : Int32) (fl tr : Nat → Int32) (e0 e1 e2 e3 e4 e5 e6 e7 e8 e9 e10 e11 : Int32) (fl' tr' : Nat → Int32), f_X9_run (nI N) (nI (100 * b)) (-6) d0 d1 d2 d3 d4 d5 d6 d7 d8 d9 d10 sw d11 how strong plan ins fl tr M = some (e0, e1, e2, e3, e4, e5, e6, e7, e8, e9, e10, e11, fl', tr') ∧ f_X9_coarse fl' = some co
set_option maxHeartbeats 4000000 in
theorem bl_Salt {numbers strengths who am le how strong plan : Nat → Int32} {N : Nat} (hnum : ag 8 numbers how) (hf : HF how) (hst : ag 4 strengths strong) (hPL : PL N who am le plan) (hM : mS le N ≤ 117) (sw : Int32) (ins : Nat → Int32) (hins : ∀ c, c < 4 → ins c = nI c) (x1 : Int32) :
    ∀ (n y fu1 fu2 : Nat) (best least leastM sF : Int32) (c0 c1 c2 c3 c4 c5 c6 c7 c8 c9 c10 c11 c12 c13 c14 : Int32) (g wr hb : Nat → Int32) (d0 d1 d2 d3 d4 d5 d6 d7 d8 d9 d10 d11 : Int32) (fl tr : Nat → Int32), y + n = 31 → n < fu1 → n < fu2 → ((best = -6 ∧ least = 1001) ∨ ∃ b, 0 ≤ b ∧ b < 31 ∧ best = nI (100 * b) ∧ least = leastM ∧ least.toInt ≤ 1000 ∧ WSalt N (nI (mS le N)) sw how strong plan ins b leastM) →
      ∃ o o' best' leastM', f_X8_leastCoarseSalt_L15 numbers strengths (nI N) (nI (mS le N)) who am le fu1 best least (nI (100 * y)) c0 c1 c2 c3 c4 c5 c6 c7 c8 c9 c10 c11 c12 c13 c14 g wr hb = some (best', o) ∧ f_X9_bestSalt_L24 (nI N) sw how strong plan fu2 x1 best leastM (nI (100 * y)) sF (-6) d0 d1 d2 d3 d4 d5 d6 d7 d8 d9 d10 d11 ins fl tr = some (if best' < 0 then best' else if x1 = 0 then best' else leastM', o') ∧ (best' = -6 ∨ ∃ b, 0 ≤ b ∧ b < 31 ∧ best' = nI (100 * b) ∧ WSalt N (nI (mS le N)) sw how strong plan ins b leastM') := by
  obtain ⟨hr, hs⟩ := hf_hr hf
  intro n
  induction n with
  | zero =>
    intro y fu1 fu2 best least leastM sF c0 c1 c2 c3 c4 c5 c6 c7 c8 c9 c10 c11 c12 c13 c14 g wr hb d0 d1 d2 d3 d4 d5 d6 d7 d8 d9 d10 d11 fl tr hy f1 f2 hI
    obtain ⟨fu1, rfl⟩ : ∃ k, fu1 = k + 1 := ⟨fu1 - 1, by omega⟩
    obtain ⟨fu2, rfl⟩ : ∃ k, fu2 = k + 1 := ⟨fu2 - 1, by omega⟩
    have e : y = 31 := by omega
    subst e
    rw [f_X8_leastCoarseSalt_L15, f_X9_bestSalt_L24, aT1, eb1, if_pos (show (3000 : Int32) < nI (100 * 31) by decide), if_pos (show (3000 : Int32) < nI (100 * 31) by decide)]
    refine ⟨_, (sF, -6, d0, d1, d2, d3, d4, d5, d6, d7, d8, d9, d10, d11, ins, fl, tr), best, leastM, rfl, ?_, ?_⟩
    · by_cases c1 : best < 0
      · rw [if_pos c1, if_pos c1]
      · rw [if_neg c1, if_neg c1]
        by_cases c2 : x1 = 0
        · rw [if_pos c2, if_pos c2]
        · rw [if_neg c2, if_neg c2]
    · rcases hI with ⟨h, -⟩ | ⟨b, h0, h1, h2, -, -, h3⟩
      · exact Or.inl h
      · exact Or.inr ⟨b, h0, h1, h2, h3⟩
  | succ n ih =>
    intro y fu1 fu2 best least leastM sF c0 c1 c2 c3 c4 c5 c6 c7 c8 c9 c10 c11 c12 c13 c14 g wr hb d0 d1 d2 d3 d4 d5 d6 d7 d8 d9 d10 d11 fl tr hy f1 f2 hI
    obtain ⟨fu1, rfl⟩ : ∃ k, fu1 = k + 1 := ⟨fu1 - 1, by omega⟩
    obtain ⟨fu2, rfl⟩ : ∃ k, fu2 = k + 1 := ⟨fu2 - 1, by omega⟩
    obtain ⟨t', held', first', ice', salt', br', cold', wm', ly', air', ch', tot', sf', g', fl', wr', tr', hb', q0, q1, q2, q3⟩ := run2 (instead := ins) (way := 27) (onep := 0) (pOA := -6) (S := nI (100 * y)) hnum hr hst hPL hM (by rw [t_n _ (by omega)]; omega) (fun i hi => ⟨i, hi, way27 i hi, hins i hi⟩) (Or.inl ⟨rfl, by decide⟩) (mS le N) (Nat.le_refl _) sw c0 c1 c2 c3 c4 c5 c6 c7 c8 c9 c10 c11 c12 c13 c14 g wr hb d0 d1 d2 d3 d4 d5 d6 d7 d8 d9 d10 d11 fl tr
    have hco := co_eq q3.2.1 (gi_tot q3.2.2.2.2.2.2.1)
    have hrg := co_rng q3.2.2.2.2.2.2.1 (by have := q3.1.1; have := q3.1.2.2.2.2.2.2; omega)
    rw [f_X8_leastCoarseSalt_L15, f_X9_bestSalt_L24, aT1, eb1, if_neg (show ¬ (3000 : Int32) < nI (100 * y) from nI_nlt (show 100 * y ≤ 3000 by omega) (by decide)), if_neg (show ¬ (3000 : Int32) < nI (100 * y) from nI_nlt (show 100 * y ≤ 3000 by omega) (by decide)), q1, eb18, e_enough hnum, eb1, m_mins hPL, eb1, q2, eb14, m_enough, eb1]
    by_cases c : 1000 * tot' < how 6 * how 2
    · rw [if_pos c, if_pos c, if_pos (show least ≤ 1001 by
        rcases hI with ⟨-, h⟩ | ⟨b, -, -, -, -, h, -⟩
        · rw [h]; decide
        · rw [t_le]
          have : (1001 : Int32).toInt = 1001 := rfl
          omega), if_pos (show (0 : Int32) = 0 from rfl), (show nI (100 * y) + 100 = nI (100 * (y + 1)) from by rw [show (100 : Int32) = nI 100 from rfl, nI_add]; rfl)]
      exact ih (y + 1) fu1 fu2 best least leastM _ _ _ _ _ _ _ _ _ _ _ _ _ _ _ _ _ _ _ _ _ _ _ _ _ _ _ _ _ _ _ _ _ (by omega) (by omega) (by omega) hI
    · rw [if_neg c, if_neg c, if_neg (show ¬ (1 : Int32) = 0 by decide)]
      have hW : WSalt N (nI (mS le N)) sw how strong plan ins y (coS g' tot') := ⟨_, _, _, _, _, _, _, _, _, _, _, _, _, _, _, _, _, _, _, _, _, _, _, _, _, _, _, _, q2, hco⟩
      unfold f_X9_bestSalt_L65
      rw [hco, eb1, eb1, (show nI (100 * y) + 100 = nI (100 * (y + 1)) from by rw [show (100 : Int32) = nI 100 from rfl, nI_add]; rfl)]
      rcases hI with ⟨h1, h2⟩ | ⟨b, hb0, hb1, h1, h2, h3, hWb⟩
      · rw [if_neg (show ¬ least ≤ coS g' tot' by
          rw [h2, t_le]
          have : (1001 : Int32).toInt = 1001 := rfl
          omega), if_pos (show best < 0 by rw [h1]; decide)]
        exact ih (y + 1) fu1 fu2 _ _ _ _ _ _ _ _ _ _ _ _ _ _ _ _ _ _ _ _ _ _ _ _ _ _ _ _ _ _ _ _ _ _ _ _ (by omega) (by omega) (by omega) (Or.inr ⟨y, by omega, by omega, rfl, rfl, hrg, hW⟩)
      · rw [if_neg (show ¬ best < 0 by rw [h1]; exact nI_pos (by omega)), ← h2]
        by_cases c3 : least ≤ coS g' tot'
        · rw [if_pos c3, if_pos c3]
          exact ih (y + 1) fu1 fu2 best least least _ _ _ _ _ _ _ _ _ _ _ _ _ _ _ _ _ _ _ _ _ _ _ _ _ _ _ _ _ _ _ _ _ (by omega) (by omega) (by omega) (Or.inr ⟨b, hb0, hb1, h1, rfl, h3, by rw [h2]; exact hWb⟩)
        · rw [if_neg c3, if_neg c3]
          exact ih (y + 1) fu1 fu2 _ _ _ _ _ _ _ _ _ _ _ _ _ _ _ _ _ _ _ _ _ _ _ _ _ _ _ _ _ _ _ _ _ _ _ _ (by omega) (by omega) (by omega) (Or.inr ⟨y, by omega, by omega, rfl, rfl, hrg, hW⟩)
def WPace (N : Nat) (M : Int32) (sw : Int32) (how strong plan ins : Nat → Int32) (b : Nat) (co : Int32) : Prop := ∃ (d0 d1 d2 d3 d4 d5 d6 d7 d8 d9 d10 d11 : Int32) (fl tr : Nat → Int32) (e0 e1 e2 e3 e4 e5 e6 e7 e8 e9 e10 e11 : Int32) (fl' tr' : Nat → Int32), f_X9_run (nI N) (how 1) (nI b) d0 d1 d2 d3 d4 d5 d6 d7 d8 d9 d10 sw d11 how strong plan ins fl tr M = some (e0, e1, e2, e3, e4, e5, e6, e7, e8, e9, e10, e11, fl', tr') ∧ f_X9_coarse fl' = some co
set_option maxHeartbeats 4000000 in
theorem bl_Pace {numbers strengths who am le how strong plan : Nat → Int32} {N : Nat} (hnum : ag 8 numbers how) (hf : HF how) (hst : ag 4 strengths strong) (hPL : PL N who am le plan) (hM : mS le N ≤ 117) (sw : Int32) (ins : Nat → Int32) (hins : ∀ c, c < 4 → ins c = nI c) (x1 : Int32) :
    ∀ (n y fu1 fu2 : Nat) (best least leastM pOA : Int32) (c0 c1 c2 c3 c4 c5 c6 c7 c8 c9 c10 c11 c12 c13 c14 : Int32) (g wr hb : Nat → Int32) (d0 d1 d2 d3 d4 d5 d6 d7 d8 d9 d10 d11 : Int32) (fl tr : Nat → Int32), y + n = 10 → 1 ≤ y → n < fu1 → n < fu2 → ((best = -6 ∧ least = 1001) ∨ ∃ b, 1 ≤ b ∧ b < 10 ∧ best = nI b ∧ least = leastM ∧ least.toInt ≤ 1000 ∧ WPace N (nI (mS le N)) sw how strong plan ins b leastM) →
      ∃ o o' best' leastM', f_X8_leastCoarsePace_L9 numbers strengths (nI N) (nI (mS le N)) who am le fu1 best least (nI y) c0 c1 c2 c3 c4 c5 c6 c7 c8 c9 c10 c11 c12 c13 c14 g wr hb = some (best', o) ∧ f_X9_bestPace_L24 (nI N) sw how strong plan fu2 x1 best leastM (nI y) (how 1) pOA d0 d1 d2 d3 d4 d5 d6 d7 d8 d9 d10 d11 ins fl tr = some (if best' < 0 then best' else if x1 = 0 then best' else leastM', o') ∧ (best' = -6 ∨ ∃ b, 1 ≤ b ∧ b < 10 ∧ best' = nI b ∧ WPace N (nI (mS le N)) sw how strong plan ins b leastM') := by
  obtain ⟨hr, hs⟩ := hf_hr hf
  intro n
  induction n with
  | zero =>
    intro y fu1 fu2 best least leastM pOA c0 c1 c2 c3 c4 c5 c6 c7 c8 c9 c10 c11 c12 c13 c14 g wr hb d0 d1 d2 d3 d4 d5 d6 d7 d8 d9 d10 d11 fl tr hy hy1 f1 f2 hI
    obtain ⟨fu1, rfl⟩ : ∃ k, fu1 = k + 1 := ⟨fu1 - 1, by omega⟩
    obtain ⟨fu2, rfl⟩ : ∃ k, fu2 = k + 1 := ⟨fu2 - 1, by omega⟩
    have e : y = 10 := by omega
    subst e
    rw [f_X8_leastCoarsePace_L9, f_X9_bestPace_L24, if_pos (show (9 : Int32) < nI 10 by decide), if_pos (show (10 : Int32) ≤ nI 10 by decide)]
    refine ⟨_, (how 1, pOA, d0, d1, d2, d3, d4, d5, d6, d7, d8, d9, d10, d11, ins, fl, tr), best, leastM, rfl, ?_, ?_⟩
    · by_cases c1 : best < 0
      · rw [if_pos c1, if_pos c1]
      · rw [if_neg c1, if_neg c1]
        by_cases c2 : x1 = 0
        · rw [if_pos c2, if_pos c2]
        · rw [if_neg c2, if_neg c2]
    · rcases hI with ⟨h, -⟩ | ⟨b, h0, h1, h2, -, -, h3⟩
      · exact Or.inl h
      · exact Or.inr ⟨b, h0, h1, h2, h3⟩
  | succ n ih =>
    intro y fu1 fu2 best least leastM pOA c0 c1 c2 c3 c4 c5 c6 c7 c8 c9 c10 c11 c12 c13 c14 g wr hb d0 d1 d2 d3 d4 d5 d6 d7 d8 d9 d10 d11 fl tr hy hy1 f1 f2 hI
    obtain ⟨fu1, rfl⟩ : ∃ k, fu1 = k + 1 := ⟨fu1 - 1, by omega⟩
    obtain ⟨fu2, rfl⟩ : ∃ k, fu2 = k + 1 := ⟨fu2 - 1, by omega⟩
    obtain ⟨t', held', first', ice', salt', br', cold', wm', ly', air', ch', tot', sf', g', fl', wr', tr', hb', q0, q1, q2, q3⟩ := run2 (instead := ins) (way := 27) (onep := nI y) (pOA := nI y) (S := how 1) hnum hr hst hPL hM hs (fun i hi => ⟨i, hi, way27 i hi, hins i hi⟩) (Or.inr ⟨rfl, nI_ne0 (by omega) (by omega), nI_pos (by omega), by rw [t_n _ (by omega)]; omega⟩) (mS le N) (Nat.le_refl _) sw c0 c1 c2 c3 c4 c5 c6 c7 c8 c9 c10 c11 c12 c13 c14 g wr hb d0 d1 d2 d3 d4 d5 d6 d7 d8 d9 d10 d11 fl tr
    have hco := co_eq q3.2.1 (gi_tot q3.2.2.2.2.2.2.1)
    have hrg := co_rng q3.2.2.2.2.2.2.1 (by have := q3.1.1; have := q3.1.2.2.2.2.2.2; omega)
    rw [f_X8_leastCoarsePace_L9, f_X9_bestPace_L24, if_neg (show ¬ (9 : Int32) < nI y from nI_nlt (show y ≤ 9 by omega) (by decide)), if_neg (show ¬ (10 : Int32) ≤ nI y from nI_ge (show y < 10 by omega) (by decide)), e_num (i := 1) 1 (by decide) rfl, eb1, hnum 1 (by decide), q1, eb18, e_enough hnum, eb1, m_mins hPL, eb1, q2, eb14, m_enough, eb1]
    by_cases c : 1000 * tot' < how 6 * how 2
    · rw [if_pos c, if_pos c, if_pos (show least ≤ 1001 by
        rcases hI with ⟨-, h⟩ | ⟨b, -, -, -, -, h, -⟩
        · rw [h]; decide
        · rw [t_le]
          have : (1001 : Int32).toInt = 1001 := rfl
          omega), if_pos (show (0 : Int32) = 0 from rfl), (nI_1 y)]
      exact ih (y + 1) fu1 fu2 best least leastM _ _ _ _ _ _ _ _ _ _ _ _ _ _ _ _ _ _ _ _ _ _ _ _ _ _ _ _ _ _ _ _ _ (by omega) (by omega) (by omega) (by omega) hI
    · rw [if_neg c, if_neg c, if_neg (show ¬ (1 : Int32) = 0 by decide)]
      have hW : WPace N (nI (mS le N)) sw how strong plan ins y (coS g' tot') := ⟨_, _, _, _, _, _, _, _, _, _, _, _, _, _, _, _, _, _, _, _, _, _, _, _, _, _, _, _, q2, hco⟩
      unfold f_X9_bestPace_L64
      rw [hco, eb1, eb1, (nI_1 y)]
      rcases hI with ⟨h1, h2⟩ | ⟨b, hb0, hb1, h1, h2, h3, hWb⟩
      · rw [if_neg (show ¬ least ≤ coS g' tot' by
          rw [h2, t_le]
          have : (1001 : Int32).toInt = 1001 := rfl
          omega), if_pos (show best < 0 by rw [h1]; decide)]
        exact ih (y + 1) fu1 fu2 _ _ _ _ _ _ _ _ _ _ _ _ _ _ _ _ _ _ _ _ _ _ _ _ _ _ _ _ _ _ _ _ _ _ _ _ (by omega) (by omega) (by omega) (by omega) (Or.inr ⟨y, by omega, by omega, rfl, rfl, hrg, hW⟩)
      · rw [if_neg (show ¬ best < 0 by rw [h1]; exact nI_pos (by omega)), ← h2]
        by_cases c3 : least ≤ coS g' tot'
        · rw [if_pos c3, if_pos c3]
          exact ih (y + 1) fu1 fu2 best least least _ _ _ _ _ _ _ _ _ _ _ _ _ _ _ _ _ _ _ _ _ _ _ _ _ _ _ _ _ _ _ _ _ (by omega) (by omega) (by omega) (by omega) (Or.inr ⟨b, hb0, hb1, h1, rfl, h3, by rw [h2]; exact hWb⟩)
        · rw [if_neg c3, if_neg c3]
          exact ih (y + 1) fu1 fu2 _ _ _ _ _ _ _ _ _ _ _ _ _ _ _ _ _ _ _ _ _ _ _ _ _ _ _ _ _ _ _ _ _ _ _ _ (by omega) (by omega) (by omega) (by omega) (Or.inr ⟨y, by omega, by omega, rfl, rfl, hrg, hW⟩)
