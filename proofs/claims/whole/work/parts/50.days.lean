/-! DAYS -/
def BX (cnt : Int32) (codes : Nat → Int32) (msw : Int32) (box : Nat → Int32) : Prop := ∃ B, B ≤ 40 ∧ cnt = nI B ∧ msw = nI B ∧ ∀ j, j < B → codes j - 48 = box j
theorem s32_up {g : Nat → Int32} {j : Nat} {d : Int32} : ∀ n, s32 (upd g j (g j + d)) 0 n = s32 g 0 n + (if j < n then d else 0) := by
  intro n
  induction n with
  | zero => rw [if_neg (Nat.not_lt_zero j)]; rfl
  | succ n ih =>
    show s32 (upd g j (g j + d)) 0 n + upd g j (g j + d) (0 + n) = s32 g 0 n + g (0 + n) + _
    rw [ih, Nat.zero_add, upd_at]
    by_cases e : n = j
    · subst e
      rw [if_pos rfl, if_neg (Nat.lt_irrefl n), if_pos (Nat.lt_succ_self n), Int32.add_zero, Int32.add_assoc]
    · rw [if_neg e]
      by_cases c : j < n
      · rw [if_pos c, if_pos (Nat.lt_succ_of_lt c), Int32.add_assoc, Int32.add_comm d, Int32.add_assoc]
      · rw [if_neg c, if_neg (by omega), Int32.add_zero, Int32.add_zero]
def zz (y : Int32) : Int32 := if ((y + 1) + (100 / y)) < 63 then ((y + 1) + (100 / y)) else 63
theorem zz_in : ∀ j, j < 64 → 10 ≤ j → (zz (nI j)).toNatClampNeg < 64 ∧ zz (nI j) = nI (zz (nI j)).toNatClampNeg := by decide
theorem zz_le (y : Int32) : zz y = if ((y + 1) + (100 / y)) ≤ 63 then ((y + 1) + (100 / y)) else 63 := by
  unfold zz
  by_cases a : ((y + 1) + (100 / y)) < 63
  · rw [if_pos a, if_pos (by rw [t_le]; rw [t_lt] at a; omega)]
  · rw [if_neg a]
    by_cases b : ((y + 1) + (100 / y)) ≤ 63
    · rw [if_pos b, t_eq]; rw [t_le] at b; rw [t_lt] at a; omega
    · rw [if_neg b]
theorem nI_m1 (a : Nat) : nI (a + 1) + -1 = nI a := by
  rw [← nI_1, Int32.add_assoc, show (1 : Int32) + -1 = 0 from rfl, Int32.add_zero]
theorem seven {how : Nat → Int32} (hf : HF how) : ¬ (10 + (5 * (how 7))) = 0 := by
  have h7 := hf 7 (by decide)
  have e0 : (tfn 0 7).toInt = 0 := rfl
  have e1 : (tfn 1 7).toInt = 9 := rfl
  have e5 : (5 : Int32).toInt = 5 := rfl
  have h1 : ((5 : Int32) * how 7).toInt = 5 * (how 7).toInt := by rw [t_ml (by rw [e5]; omega) (by rw [e5]; omega), e5]
  intro q
  rw [t_eq, t_ad (by rw [h1, i10]; omega) (by rw [h1, i10]; omega), h1, i10, i0] at q
  omega
theorem day2 {how : Nat → Int32} (hf : HF how) (y : Int32) : ∀ (n fu1 fu2 : Nat) (tot : Int32) (g fl : Nat → Int32), n ≤ 54 → n < fu1 → n < fu2 → ag 64 g fl → s32 g 0 64 = tot → ∃ tot' g' fl', f_X2_grow_L3 fu1 y (how 7) (nI (9 + n)) tot g = some (tot', g') ∧ f_X9_goDay_L3 how fu2 y (nI (9 + n)) fl = some fl' ∧ ag 64 g' fl' ∧ s32 g' 0 64 = tot' := by
  intro n
  induction n with
  | zero =>
    intro fu1 fu2 tot g fl hn f1 f2 ha ht
    obtain ⟨fu1, rfl⟩ : ∃ k, fu1 = k + 1 := ⟨fu1 - 1, by omega⟩
    obtain ⟨fu2, rfl⟩ : ∃ k, fu2 = k + 1 := ⟨fu2 - 1, by omega⟩
    rw [f_X2_grow_L3, f_X9_goDay_L3, if_pos (show nI (9 + 0) < 10 by decide), if_pos (show nI (9 + 0) ≤ 9 by decide)]
    exact ⟨_, _, _, rfl, rfl, ha, ht⟩
  | succ n ih =>
    intro fu1 fu2 tot g fl hn f1 f2 ha ht
    obtain ⟨fu1, rfl⟩ : ∃ k, fu1 = k + 1 := ⟨fu1 - 1, by omega⟩
    obtain ⟨fu2, rfl⟩ : ∃ k, fu2 = k + 1 := ⟨fu2 - 1, by omega⟩
    have hj : 9 + (n + 1) < 64 := by omega
    have hin := n_in hj (by decide)
    have h0 : ¬ nI (9 + (n + 1)) = 0 := nI_ne0 (by omega) (by omega)
    obtain ⟨z, z1, z2⟩ : ∃ z, z < 64 ∧ zz (nI (9 + (n + 1))) = nI z := ⟨_, zz_in (9 + (n + 1)) hj (by omega)⟩
    have z3 : (if ((nI (9 + (n + 1)) + 1) + (100 / nI (9 + (n + 1)))) < 63 then ((nI (9 + (n + 1)) + 1) + (100 / nI (9 + (n + 1)))) else 63) = nI z := z2
    have hzin := n_in z1 (show 64 < 2147483648 by decide)
    rw [f_X2_grow_L3, f_X9_goDay_L3, if_neg (show ¬ nI (9 + (n + 1)) < 10 from nI_nlt (show 10 ≤ 9 + (n + 1) by omega) (by omega)), if_neg (show ¬ nI (9 + (n + 1)) ≤ 9 from nI_ge (show 9 < 9 + (n + 1) by omega) (by omega)), e_grams _ hj rfl, eb1, e_quot, eb1, e_fadd _ hj rfl, eb2, gd_ok h0, e_fadd _ z1 z3, eb2, gd_ok hin, gd_ok (by decide), show ((7 : Int32)).toNatClampNeg = 7 from rfl, gd_ok (seven hf), gd_ok h0, gd_ok h0]
    rw [show (if ((nI (9 + (n + 1)) + 1) + (100 / nI (9 + (n + 1)))) ≤ 63 then (f_X9_goDay_L57 (f_X9_goDay_L3 how fu2) how ((nI (9 + (n + 1)) + 1) + (100 / nI (9 + (n + 1)))) y (nI (9 + (n + 1))) (((fl (nI (9 + (n + 1))).toNatClampNeg) * y) / (10 + (5 * (how 7)))) fl) else (f_X9_goDay_L57 (f_X9_goDay_L3 how fu2) how 63 y (nI (9 + (n + 1))) (((fl (nI (9 + (n + 1))).toNatClampNeg) * y) / (10 + (5 * (how 7)))) fl)) = f_X9_goDay_L57 (f_X9_goDay_L3 how fu2) how (zz (nI (9 + (n + 1)))) y (nI (9 + (n + 1))) (((fl (nI (9 + (n + 1))).toNatClampNeg) * y) / (10 + (5 * (how 7)))) fl by rw [zz_le]; split <;> rfl]
    unfold f_X9_goDay_L57
    rw [gd_ok hin, gd_ok hin, z2, gd_ok hzin, gd_ok hzin, nI_clamp (show 9 + (n + 1) < 2 ^ 31 by omega), nI_clamp (show z < 2 ^ 31 by omega)]
    rw [show nI (9 + (n + 1)) + -1 = nI (9 + n) from nI_m1 (9 + n)]
    have ea : g (9 + (n + 1)) = fl (9 + (n + 1)) := ha _ hj
    have hup : ag 64 (upd g (9 + (n + 1)) (g (9 + (n + 1)) + -(g (9 + (n + 1)) * y / (10 + 5 * how 7)))) (upd fl (9 + (n + 1)) (fl (9 + (n + 1)) - fl (9 + (n + 1)) * y / (10 + 5 * how 7))) := by
      rw [ea, ← Int32.sub_eq_add_neg]; exact ag_up ha _ _
    refine ih fu1 fu2 _ _ _ (by omega) (by omega) (by omega) ?_ ?_
    · rw [hup _ z1, ea]
      rw [ea] at hup
      exact ag_up hup _ _
    · rw [s32_up, if_pos z1, s32_up, if_pos hj, ht]
theorem day {how numbers : Nat → Int32} (hf : HF how) (y : Int32) (tot : Int32) (g fl : Nat → Int32) (ha : ag 64 g fl) (ht : s32 g 0 64 = tot) : ∃ tot' g' fl', f_X2_grow tot g y (how 7) = some (tot', g') ∧ f_X9_goDay how fl y = some fl' ∧ ag 64 g' fl' ∧ s32 g' 0 64 = tot' := day2 hf y 54 FU FU tot g fl (by omega) (FU_gt (by decide)) (FU_gt (by decide)) ha ht
theorem on2 {numbers how codes box : Nat → Int32} {B : Nat} (hnum : ag 8 numbers how) (hf : HF how) (hB : B ≤ 40) (h0 : 0 < B) (hbx : ∀ j, j < B → codes j - 48 = box j) (k : Nat) (hk : k < 1000) (tot : Int32) (g fl : Nat → Int32) (ha : ag 64 g fl) (ht : s32 g 0 64 = tot) : ∃ tot' g' fl', f_X8_growOn numbers (nI B) codes tot g (nI (k + 1)) = some (tot', g') ∧ f_X9_goDay how fl (box (k % B)) = some fl' ∧ ag 64 g' fl' ∧ s32 g' 0 64 = tot' := by
  obtain ⟨tot', g', fl', q1, q2, q3, q4⟩ := day (numbers := numbers) hf (box (k % B)) tot g fl ha ht
  have hm : k % B < B := Nat.mod_lt k h0
  refine ⟨tot', g', fl', ?_, q2, q3, q4⟩
  unfold f_X8_growOn
  rw [if_neg (show ¬ nI B ≤ 0 from nI_ge h0 (by omega)), gd_ok (nI_ne0 (by omega) (by omega)), show nI (k + 1) - 1 = nI k by rw [Int32.sub_eq_add_neg]; exact nI_m1 k, pk_rem (by omega) h0 (by omega), e_digit (k % B) (by omega) rfl, eb1, hbx _ hm, e_num (i := 7) 7 (by decide) rfl, eb1, hnum 7 (by decide), q1]; rfl
theorem days2 {numbers how codes box strong plan : Nat → Int32} {B : Nat} (hnum : ag 8 numbers how) (hf : HF how) (hB : B ≤ 40) (hbx : ∀ j, j < B → codes j - 48 = box j) (mparts sw : Int32) (D : Nat) (hD : D ≤ 99) (hD0 : D = 0 ∨ 0 < B) (sF pOA d0 d1 d2 d3 d4 d5 d6 d7 d8 d9 d10 d11 : Int32) (ins tr : Nat → Int32) : ∀ (n k fu1 fu2 : Nat) (tot : Int32) (g fl : Nat → Int32), k + n = D → n < fu1 → n < fu2 → ag 64 g fl → s32 g 0 64 = tot → ∃ tot' g' fl', f_X8_growFor_L2 numbers (nI B) codes fu1 (nI D) (nI (k + 1)) tot g = some (tot', g') ∧ f_X9_runDays_L10 mparts (nI B) sw how strong plan box fu2 (nI D) (nI k) sF pOA d0 d1 d2 d3 d4 d5 d6 d7 d8 d9 d10 d11 ins fl tr = some (sF, pOA, d0, d1, d2, d3, d4, d5, d6, d7, d8, d9, d10, d11, ins, fl', tr) ∧ ag 64 g' fl' ∧ s32 g' 0 64 = tot' := by
  intro n
  induction n with
  | zero =>
    intro k fu1 fu2 tot g fl hn f1 f2 ha ht
    obtain ⟨fu1, rfl⟩ : ∃ k, fu1 = k + 1 := ⟨fu1 - 1, by omega⟩
    obtain ⟨fu2, rfl⟩ : ∃ k, fu2 = k + 1 := ⟨fu2 - 1, by omega⟩
    have e : k = D := by omega
    subst e
    rw [f_X8_growFor_L2, f_X9_runDays_L10, if_pos (nI_lt (Nat.lt_succ_self k) (by omega)), if_pos (nI_le (Nat.le_refl k) (by omega))]
    exact ⟨_, _, _, rfl, rfl, ha, ht⟩
  | succ n ih =>
    intro k fu1 fu2 tot g fl hn f1 f2 ha ht
    obtain ⟨fu1, rfl⟩ : ∃ k, fu1 = k + 1 := ⟨fu1 - 1, by omega⟩
    obtain ⟨fu2, rfl⟩ : ∃ k, fu2 = k + 1 := ⟨fu2 - 1, by omega⟩
    have h0 : 0 < B := by omega
    have hm : k % B < B := Nat.mod_lt k h0
    obtain ⟨t1, g1, fl1, q1, q2, q3, q4⟩ := on2 hnum hf hB h0 hbx k (by omega) tot g fl ha ht
    rw [f_X8_growFor_L2, f_X9_runDays_L10, if_neg (nI_nlt (show k + 1 ≤ D by omega) (by omega)), if_neg (nI_ge (show k < D by omega) (by omega)), gd_ok (nI_ne0 (by omega) (by omega)), pk_rem (by omega) h0 (by omega), gd_ok (n_in (show k % B < 40 by omega) (by decide)), nI_clamp (show k % B < 2 ^ 31 by omega), q1, q2, eb2, eb1, nI_1, nI_1]
    exact ih (k + 1) fu1 fu2 t1 g1 fl1 (by omega) (by omega) (by omega) q3 q4
theorem n_days {x : Int32} (h1 : ¬ x < 0) (h2 : ¬ 99 < x) : ∃ D, D ≤ 99 ∧ x = nI D := by
  have g99 : (99 : Int32).toInt = 99 := rfl
  rw [t_lt, i0] at h1
  rw [t_lt, g99] at h2
  exact ⟨x.toInt.toNat, by omega, t_of (by omega)⟩
theorem nb0 {B : Nat} (hB : B ≤ 40) (h : ¬ nI B = 0) : 0 < B := by
  rcases Nat.eq_zero_or_pos B with e | e
  · rw [e] at h; exact absurd rfl h
  · exact e

set_option maxHeartbeats 4000000 in
theorem s_stored {numbers strengths who am le codes how strong plan box : Nat → Int32} {parts mins cnt mparts msw : Int32} (h : RP numbers strengths parts mins who am le how strong mparts plan) (hx : BX cnt codes msw box) (c0 c1 c2 c3 c4 c5 c6 c7 c8 c9 c10 c11 c12 c13 c14 : Int32) (g wr hb : Nat → Int32) (sF pOA d0 d1 d2 d3 d4 d5 d6 d7 d8 d9 d10 d11 sw : Int32) (ins fl tr : Nat → Int32) (x1 : Int32) : ∃ r o o', f_X8_stored numbers strengths parts mins who am le cnt codes c0 c1 c2 c3 c4 c5 c6 c7 c8 c9 c10 c11 c12 c13 c14 g wr hb x1 = some (r, o) ∧ f_X9_stored mparts msw sF pOA d0 d1 d2 d3 d4 d5 d6 d7 d8 d9 d10 sw d11 how strong plan box ins fl tr x1 = some (r, o') := by
  obtain ⟨hnum, hf, hst, N, rfl, rfl, hPL, hM, rfl⟩ := h
  obtain ⟨B, hB, rfl, rfl, hbx⟩ := hx
  unfold f_X8_stored f_X9_stored
  by_cases a1 : x1 < 0
  · rw [if_pos a1, m_in0 (Or.inl a1), eb1, if_pos rfl]
    exact ⟨_, _, _, rfl, rfl⟩
  · by_cases a2 : 99 < x1
    · rw [if_neg a1, if_neg (show ¬ x1 ≤ 99 by rw [t_le]; rw [t_lt] at a2; omega), m_in0 (Or.inr a2), eb1, if_pos rfl]
      exact ⟨_, _, _, rfl, rfl⟩
    · rw [if_neg a1, if_pos (show x1 ≤ 99 by rw [t_le]; rw [t_lt] at a2; omega), m_in1 a1 a2, eb1, if_neg (show ¬ (1 : Int32) = 0 by decide)]
      obtain ⟨D, hD, rfl⟩ := n_days a1 a2
      by_cases b : nI D ≤ 0
      · rw [if_pos b, if_pos b]
        have hD0 : D = 0 := by
          have := (nI_le_iff (b := 0) (show D < 2147483648 by omega) (by decide)).mp b
          omega
        obtain ⟨t', held', first', ice', salt', br', cold', wm', ly', air', ch', tot', sf', g', fl', wr', tr', hb', i', q0, q1, q2, q3⟩ := told3 hnum hf hst hPL hM c0 c1 c2 c3 c4 c5 c6 c7 c8 c9 c10 c11 c12 c13 c14 g wr hb sF pOA d0 d1 d2 d3 d4 d5 d6 d7 d8 d9 d10 d11 sw ins fl tr
        obtain ⟨tot2, g2, fl2, w1, w2, w3, w4⟩ := days2 (strong := strong) (plan := plan) (box := box) hnum hf hB hbx (nI N) sw D hD (Or.inl hD0) (how 1) (-6) ice' salt' br' cold' wm' tot' ly' air' ch' held' first' sf' i' tr' D 0 FU FU tot' g' fl' (by omega) (FU_gt (by omega)) (FU_gt (by omega)) q3.2.1 (gi_tot q3.2.2.2.2.2.2.1)
        have w1' : f_X8_growFor numbers (nI B) codes tot' g' (nI D) = some (tot2, g2) := w1
        have w2' : f_X9_runDays_L10 (nI N) (nI B) sw how strong plan box FU (nI D) 0 (how 1) (-6) ice' salt' br' cold' wm' tot' ly' air' ch' held' first' sf' i' fl' tr' = _ := w2
        unfold f_X9_runDays f_X8_stored_L33
        rw [m_mins hPL, eb1, q1, q2, eb18, eb17, w1', eb2, w2', eb17, e_coarse, eb1, co_eq w3 w4, eb1]
        exact ⟨_, _, _, rfl, rfl⟩
      · rw [if_neg b, if_neg b]
        by_cases c : nI B = 0
        · rw [if_pos c, if_pos c]
          exact ⟨_, _, _, rfl, rfl⟩
        rw [if_neg c, if_neg c]
        have hB0 := nb0 hB c
        obtain ⟨t', held', first', ice', salt', br', cold', wm', ly', air', ch', tot', sf', g', fl', wr', tr', hb', i', q0, q1, q2, q3⟩ := told3 hnum hf hst hPL hM c0 c1 c2 c3 c4 c5 c6 c7 c8 c9 c10 c11 c12 c13 c14 g wr hb sF pOA d0 d1 d2 d3 d4 d5 d6 d7 d8 d9 d10 d11 sw ins fl tr
        obtain ⟨tot2, g2, fl2, w1, w2, w3, w4⟩ := days2 (strong := strong) (plan := plan) (box := box) hnum hf hB hbx (nI N) sw D hD (Or.inr hB0) (how 1) (-6) ice' salt' br' cold' wm' tot' ly' air' ch' held' first' sf' i' tr' D 0 FU FU tot' g' fl' (by omega) (FU_gt (by omega)) (FU_gt (by omega)) q3.2.1 (gi_tot q3.2.2.2.2.2.2.1)
        have w1' : f_X8_growFor numbers (nI B) codes tot' g' (nI D) = some (tot2, g2) := w1
        have w2' : f_X9_runDays_L10 (nI N) (nI B) sw how strong plan box FU (nI D) 0 (how 1) (-6) ice' salt' br' cold' wm' tot' ly' air' ch' held' first' sf' i' fl' tr' = _ := w2
        unfold f_X9_runDays f_X8_stored_L33
        rw [m_mins hPL, eb1, q1, q2, eb18, eb17, w1', eb2, w2', eb17, e_coarse, eb1, co_eq w3 w4, eb1]
        exact ⟨_, _, _, rfl, rfl⟩
set_option maxHeartbeats 4000000 in
theorem s_grown {numbers strengths who am le codes how strong plan box : Nat → Int32} {parts mins cnt mparts msw : Int32} (h : RP numbers strengths parts mins who am le how strong mparts plan) (hx : BX cnt codes msw box) (c0 c1 c2 c3 c4 c5 c6 c7 c8 c9 c10 c11 c12 c13 c14 : Int32) (g wr hb : Nat → Int32) (sF pOA d0 d1 d2 d3 d4 d5 d6 d7 d8 d9 d10 d11 sw : Int32) (ins fl tr : Nat → Int32) (x1 x2 : Int32) : ∃ r o o', f_X8_grown numbers strengths parts mins who am le cnt codes c0 c1 c2 c3 c4 c5 c6 c7 c8 c9 c10 c11 c12 c13 c14 g wr hb x1 x2 = some (r, o) ∧ f_X9_grown mparts msw sF pOA d0 d1 d2 d3 d4 d5 d6 d7 d8 d9 d10 sw d11 how strong plan box ins fl tr x1 x2 = some (r, o') := by
  obtain ⟨hnum, hf, hst, N, rfl, rfl, hPL, hM, rfl⟩ := h
  obtain ⟨B, hB, rfl, rfl, hbx⟩ := hx
  unfold f_X8_grown f_X9_grown
  by_cases a1 : x1 < 0
  · rw [if_pos a1, m_in0 (Or.inl a1), eb1, if_pos rfl]
    exact ⟨_, _, _, rfl, rfl⟩
  by_cases a2 : 99 < x1
  · rw [if_neg a1, if_pos a2, m_in0 (Or.inr a2), eb1, if_pos rfl]
    exact ⟨_, _, _, rfl, rfl⟩
  rw [if_neg a1, if_neg a2, m_in1 a1 a2, eb1, if_neg (show ¬ (1 : Int32) = 0 by decide)]
  by_cases b1 : x2 < 10
  · rw [if_pos b1, m_in0 (Or.inl b1), eb1, if_pos rfl]
    exact ⟨_, _, _, rfl, rfl⟩
  · by_cases b2 : 63 < x2
    · rw [if_neg b1, if_neg (show ¬ x2 ≤ 63 by rw [t_le]; rw [t_lt] at b2; omega), m_in0 (Or.inr b2), eb1, if_pos rfl]
      exact ⟨_, _, _, rfl, rfl⟩
    · rw [if_neg b1, if_pos (show x2 ≤ 63 by rw [t_le]; rw [t_lt] at b2; omega), m_in1 b1 b2, eb1, if_neg (show ¬ (1 : Int32) = 0 by decide)]
      obtain ⟨j, hj, rfl⟩ : ∃ j, j < 64 ∧ x2 = nI j := by
        have g60 : (63 : Int32).toInt = 63 := rfl
        rw [t_lt, i10] at b1
        rw [t_lt, g60] at b2
        exact ⟨x2.toInt.toNat, by omega, t_of (by omega)⟩
      obtain ⟨D, hD, rfl⟩ := n_days a1 a2
      by_cases b : nI D ≤ 0
      · rw [if_pos b, if_pos b]
        have hD0 : D = 0 := by
          have := (nI_le_iff (b := 0) (show D < 2147483648 by omega) (by decide)).mp b
          omega
        obtain ⟨t', held', first', ice', salt', br', cold', wm', ly', air', ch', tot', sf', g', fl', wr', tr', hb', i', q0, q1, q2, q3⟩ := told3 hnum hf hst hPL hM c0 c1 c2 c3 c4 c5 c6 c7 c8 c9 c10 c11 c12 c13 c14 g wr hb sF pOA d0 d1 d2 d3 d4 d5 d6 d7 d8 d9 d10 d11 sw ins fl tr
        obtain ⟨tot2, g2, fl2, w1, w2, w3, w4⟩ := days2 (strong := strong) (plan := plan) (box := box) hnum hf hB hbx (nI N) sw D hD (Or.inl hD0) (how 1) (-6) ice' salt' br' cold' wm' tot' ly' air' ch' held' first' sf' i' tr' D 0 FU FU tot' g' fl' (by omega) (FU_gt (by omega)) (FU_gt (by omega)) q3.2.1 (gi_tot q3.2.2.2.2.2.2.1)
        have w1' : f_X8_growFor numbers (nI B) codes tot' g' (nI D) = some (tot2, g2) := w1
        have w2' : f_X9_runDays_L10 (nI N) (nI B) sw how strong plan box FU (nI D) 0 (how 1) (-6) ice' salt' br' cold' wm' tot' ly' air' ch' held' first' sf' i' fl' tr' = _ := w2
        unfold f_X8_grown_L45 f_X9_grown_L38 f_X9_runDays
        rw [m_mins hPL, eb1, q1, q2, eb18, eb17, w1', eb2, w2', eb17, e_grams j hj rfl, eb1, gd_ok (n_in hj (by decide)), nI_clamp (by omega), w3 j hj]
        exact ⟨_, _, _, rfl, rfl⟩
      · rw [if_neg b, if_neg b]
        by_cases c : nI B = 0
        · rw [if_pos c, if_pos c]
          exact ⟨_, _, _, rfl, rfl⟩
        rw [if_neg c, if_neg c]
        have hB0 := nb0 hB c
        obtain ⟨t', held', first', ice', salt', br', cold', wm', ly', air', ch', tot', sf', g', fl', wr', tr', hb', i', q0, q1, q2, q3⟩ := told3 hnum hf hst hPL hM c0 c1 c2 c3 c4 c5 c6 c7 c8 c9 c10 c11 c12 c13 c14 g wr hb sF pOA d0 d1 d2 d3 d4 d5 d6 d7 d8 d9 d10 d11 sw ins fl tr
        obtain ⟨tot2, g2, fl2, w1, w2, w3, w4⟩ := days2 (strong := strong) (plan := plan) (box := box) hnum hf hB hbx (nI N) sw D hD (Or.inr hB0) (how 1) (-6) ice' salt' br' cold' wm' tot' ly' air' ch' held' first' sf' i' tr' D 0 FU FU tot' g' fl' (by omega) (FU_gt (by omega)) (FU_gt (by omega)) q3.2.1 (gi_tot q3.2.2.2.2.2.2.1)
        have w1' : f_X8_growFor numbers (nI B) codes tot' g' (nI D) = some (tot2, g2) := w1
        have w2' : f_X9_runDays_L10 (nI N) (nI B) sw how strong plan box FU (nI D) 0 (how 1) (-6) ice' salt' br' cold' wm' tot' ly' air' ch' held' first' sf' i' fl' tr' = _ := w2
        unfold f_X8_grown_L45 f_X9_grown_L38 f_X9_runDays
        rw [m_mins hPL, eb1, q1, q2, eb18, eb17, w1', eb2, w2', eb17, e_grams j hj rfl, eb1, gd_ok (n_in hj (by decide)), nI_clamp (by omega), w3 j hj]
        exact ⟨_, _, _, rfl, rfl⟩
theorem sand2 {numbers strengths who am le how codes box strong plan : Nat → Int32} {parts mins : Int32} {B : Nat} (hnum : ag 8 numbers how) (hf : HF how) (hB : B ≤ 40) (h0 : 0 < B) (hbx : ∀ j, j < B → codes j - 48 = box j) (mparts sw : Int32) (sF pOA d0 d1 d2 d3 d4 d5 d6 d7 d8 d9 d10 d11 : Int32) (ins tr : Nat → Int32) (c0 c1 c2 c3 c4 c5 c6 c7 c8 c9 c10 c11 c12 c13 : Int32) (wr hb : Nat → Int32) : ∀ (n k fu1 fu2 : Nat) (tot : Int32) (g fl : Nat → Int32), k + n = 99 → n < fu1 → n < fu2 → ag 64 g fl → s32 g 0 64 = tot → ∃ r o o', f_X8_sand_L22 numbers strengths parts mins who am le (nI B) codes fu1 (nI (k + 1)) c0 c1 c2 c3 c4 c5 c6 c7 c8 c9 c10 c11 c12 c13 tot g wr hb = some (r, o) ∧ f_X9_sand_L20 mparts (nI B) sw how strong plan box fu2 (nI (k + 1)) sF pOA d0 d1 d2 d3 d4 d5 d6 d7 d8 d9 d10 d11 ins fl tr = some (r, o') := by
  intro n
  induction n with
  | zero =>
    intro k fu1 fu2 tot g fl hn f1 f2 ha ht
    obtain ⟨fu1, rfl⟩ : ∃ k, fu1 = k + 1 := ⟨fu1 - 1, by omega⟩
    obtain ⟨fu2, rfl⟩ : ∃ k, fu2 = k + 1 := ⟨fu2 - 1, by omega⟩
    have e : k = 99 := by omega
    subst e
    rw [f_X8_sand_L22, f_X9_sand_L20, if_pos (show (99 : Int32) < nI (99 + 1) by decide), if_pos (show (100 : Int32) ≤ nI (99 + 1) by decide)]
    exact ⟨_, _, _, rfl, rfl⟩
  | succ n ih =>
    intro k fu1 fu2 tot g fl hn f1 f2 ha ht
    obtain ⟨fu1, rfl⟩ : ∃ k, fu1 = k + 1 := ⟨fu1 - 1, by omega⟩
    obtain ⟨fu2, rfl⟩ : ∃ k, fu2 = k + 1 := ⟨fu2 - 1, by omega⟩
    have hm : k % B < B := Nat.mod_lt k h0
    obtain ⟨t1, g1, fl1, q1, q2, q3, q4⟩ := on2 hnum hf hB h0 hbx k (by omega) tot g fl ha ht
    rw [f_X8_sand_L22, f_X9_sand_L20, if_neg (show ¬ (99 : Int32) < nI (k + 1) from nI_nlt (show k + 1 ≤ 99 by omega) (by decide)), if_neg (show ¬ (100 : Int32) ≤ nI (k + 1) from nI_ge (show k + 1 < 100 by omega) (by decide)), gd_ok (nI_ne0 (by omega) (by omega)), show nI (k + 1) - 1 = nI k by (rw [Int32.sub_eq_add_neg]; exact nI_m1 k), pk_rem (by omega) h0 (by omega), gd_ok (n_in (show k % B < 40 by omega) (by decide)), nI_clamp (show k % B < 2 ^ 31 by omega), q1, q2, eb2, eb1, e_coarse, eb1, co_eq q3 q4, eb1, e_num (i := 6) 6 (by decide) rfl, eb1, hnum 6 (by decide), gd_ok (by decide), show ((6 : Int32)).toNatClampNeg = 6 from rfl]
    by_cases c : coS g1 t1 < how 6
    · rw [if_pos c, if_pos c, nI_1]
      exact ih (k + 1) fu1 fu2 t1 g1 fl1 (by omega) (by omega) (by omega) q3 q4
    · rw [if_neg c, if_neg c]
      exact ⟨_, _, _, rfl, rfl⟩
set_option maxHeartbeats 4000000 in
theorem s_sand {numbers strengths who am le codes how strong plan box : Nat → Int32} {parts mins cnt mparts msw : Int32} (h : RP numbers strengths parts mins who am le how strong mparts plan) (hx : BX cnt codes msw box) (c0 c1 c2 c3 c4 c5 c6 c7 c8 c9 c10 c11 c12 c13 c14 : Int32) (g wr hb : Nat → Int32) (sF pOA d0 d1 d2 d3 d4 d5 d6 d7 d8 d9 d10 d11 sw : Int32) (ins fl tr : Nat → Int32) : ∃ r o o', f_X8_sand numbers strengths parts mins who am le cnt codes c0 c1 c2 c3 c4 c5 c6 c7 c8 c9 c10 c11 c12 c13 c14 g wr hb = some (r, o) ∧ f_X9_sand mparts msw sF pOA d0 d1 d2 d3 d4 d5 d6 d7 d8 d9 d10 sw d11 how strong plan box ins fl tr = some (r, o') := by
  obtain ⟨hnum, hf, hst, N, rfl, rfl, hPL, hM, rfl⟩ := h
  obtain ⟨B, hB, rfl, rfl, hbx⟩ := hx
  unfold f_X8_sand f_X9_sand
  by_cases c : nI B = 0
  · rw [if_pos c, if_pos c]
    exact ⟨_, _, _, rfl, rfl⟩
  rw [if_neg c, if_neg c, m_mins hPL, eb1]
  obtain ⟨t', held', first', ice', salt', br', cold', wm', ly', air', ch', tot', sf', g', fl', wr', tr', hb', i', q0, q1, q2, q3⟩ := told3 hnum hf hst hPL hM c0 c1 c2 c3 c4 c5 c6 c7 c8 c9 c10 c11 c12 c13 c14 g wr hb sF pOA d0 d1 d2 d3 d4 d5 d6 d7 d8 d9 d10 d11 sw ins fl tr
  rw [q1, q2, eb18, eb17]
  exact sand2 (strengths := strengths) (who := who) (am := am) (le := le) (strong := strong) (plan := plan) (box := box) hnum hf hB (nb0 hB c) hbx (nI N) sw (how 1) (-6) ice' salt' br' cold' wm' tot' ly' air' ch' held' first' sf' i' tr' (nI t') held' first' ice' salt' br' cold' (how 2) (how 3) (how 4) wm' ly' air' ch' wr' hb' 99 0 FU FU tot' g' fl' (by omega) (FU_gt (by omega)) (FU_gt (by omega)) q3.2.1 (gi_tot q3.2.2.2.2.2.2.1)
