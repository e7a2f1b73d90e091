set_option maxHeartbeats 4000000 in
theorem s_bestSalt {numbers strengths who am le how strong plan : Nat → Int32} {parts mins mparts : Int32} (h : RP numbers strengths parts mins who am le how strong mparts plan) (c0 c1 c2 c3 c4 c5 c6 c7 c8 c9 c10 c11 c12 c13 c14 : Int32) (g wr hb : Nat → Int32) (sF pOA d0 d1 d2 d3 d4 d5 d6 d7 d8 d9 d10 d11 sw : Int32) (ins fl tr : Nat → Int32) (x1 : Int32) : ∃ r o o', f_X8_bestSalt numbers strengths parts mins who am le c0 c1 c2 c3 c4 c5 c6 c7 c8 c9 c10 c11 c12 c13 c14 g wr hb x1 = some (r, o) ∧ f_X9_bestSalt mparts sF pOA d0 d1 d2 d3 d4 d5 d6 d7 d8 d9 d10 sw d11 how strong plan ins fl tr x1 = some (r, o') := by
  obtain ⟨hnum, hf, hst, N, rfl, rfl, hPL, hM, rfl⟩ := h
  obtain ⟨hr, hs⟩ := hf_hr hf
  unfold f_X8_bestSalt f_X9_bestSalt
  by_cases a1 : x1 < 0
  · rw [if_pos a1, m_in0 (Or.inl a1), eb1, if_pos rfl]
    exact ⟨_, _, _, rfl, rfl⟩
  · by_cases a2 : 1 < x1
    · rw [if_neg a1, if_neg (show ¬ x1 ≤ 1 by rw [t_le]; rw [t_lt] at a2; omega), m_in0 (Or.inr a2), eb1, if_pos rfl]
      exact ⟨_, _, _, rfl, rfl⟩
    · obtain ⟨i', b1, b2⟩ := m_asTold sF pOA how ins
      rw [if_neg a1, if_pos (show x1 ≤ 1 by rw [t_le]; rw [t_lt] at a2; omega), m_in1 a1 a2, eb1, if_neg (show ¬ (1 : Int32) = 0 by decide), b1, eb3]
      unfold f_X8_leastCoarseSalt
      rw [aT0, eb1]
      obtain ⟨o, o', best', leastM', r1, r2, r3⟩ := bl_Salt hnum hf hst hPL hM sw i' b2 x1 31 0 FU FU (-6) 1001 0 (how 1) c0 c1 c2 c3 c4 c5 c6 c7 c8 c9 c10 c11 c12 c13 c14 g wr hb d0 d1 d2 d3 d4 d5 d6 d7 d8 d9 d10 d11 fl tr (by omega) (FU_gt (by decide)) (FU_gt (by decide)) (Or.inl ⟨rfl, rfl⟩)
      rw [show nI 0 = (0 : Int32) from rfl] at r1 r2
      rw [r1, ep19, r2]
      rcases r3 with e | ⟨b, hb0, hb1, e, d0, d1, d2, d3, d4, d5, d6, d7, d8, d9, d10, d11, fl2, tr2, e0, e1, e2, e3, e4, e5, e6, e7, e8, e9, e10, e11, fl3, tr3, hW1, hW2⟩
      · rw [if_pos e, if_pos (show best' < 0 by rw [e]; decide)]
        exact ⟨_, _, _, rfl, rfl⟩
      · have hn : ¬ best' < 0 := by rw [e]; exact nI_pos (by omega)
        rw [if_neg (show ¬ best' = -6 from fun q => hn (by rw [q]; decide)), if_neg hn]
        by_cases c0 : x1 = 0
        · rw [if_pos c0, if_pos c0]
          exact ⟨_, _, _, rfl, rfl⟩
        · rw [if_neg c0, if_neg c0]
          obtain ⟨t', held', first', ice', salt', br', cold', wm', ly', air', ch', tot', sf', g', fl', wr', tr', hb', q0, q1, q2, q3⟩ := run2 (instead := i') (way := 27) (onep := 0) (pOA := -6) (S := nI (100 * b)) hnum hr hst hPL hM (by rw [t_n _ (by omega)]; omega) (fun i hi => ⟨i, hi, way27 i hi, b2 i hi⟩) (Or.inl ⟨rfl, by decide⟩) (mS le N) (Nat.le_refl _) sw (o.1) (o.2.1) (o.2.2.1) (o.2.2.2.1) (o.2.2.2.2.1) (o.2.2.2.2.2.1) (o.2.2.2.2.2.2.1) (o.2.2.2.2.2.2.2.1) (o.2.2.2.2.2.2.2.2.1) (o.2.2.2.2.2.2.2.2.2.1) (o.2.2.2.2.2.2.2.2.2.2.1) (o.2.2.2.2.2.2.2.2.2.2.2.1) (o.2.2.2.2.2.2.2.2.2.2.2.2.1) (o.2.2.2.2.2.2.2.2.2.2.2.2.2.1) (o.2.2.2.2.2.2.2.2.2.2.2.2.2.2.1) (o.2.2.2.2.2.2.2.2.2.2.2.2.2.2.2.1) (o.2.2.2.2.2.2.2.2.2.2.2.2.2.2.2.2.1) (o.2.2.2.2.2.2.2.2.2.2.2.2.2.2.2.2.2) d0 d1 d2 d3 d4 d5 d6 d7 d8 d9 d10 d11 fl2 tr2
          have hfl : fl' = fl3 := congrArg (fun z => z.2.2.2.2.2.2.2.2.2.2.2.2.1) (Option.some.inj (q2.symm.trans hW1))
          have hco := co_eq q3.2.1 (gi_tot q3.2.2.2.2.2.2.1)
          rw [hfl, hW2] at hco
          rw [e, q1, eb18, e_coarse, eb1, Option.some.inj hco]
          exact ⟨_, _, _, rfl, rfl⟩
set_option maxHeartbeats 4000000 in
theorem s_bestPace {numbers strengths who am le how strong plan : Nat → Int32} {parts mins mparts : Int32} (h : RP numbers strengths parts mins who am le how strong mparts plan) (c0 c1 c2 c3 c4 c5 c6 c7 c8 c9 c10 c11 c12 c13 c14 : Int32) (g wr hb : Nat → Int32) (sF pOA d0 d1 d2 d3 d4 d5 d6 d7 d8 d9 d10 d11 sw : Int32) (ins fl tr : Nat → Int32) (x1 : Int32) : ∃ r o o', f_X8_bestPace numbers strengths parts mins who am le c0 c1 c2 c3 c4 c5 c6 c7 c8 c9 c10 c11 c12 c13 c14 g wr hb x1 = some (r, o) ∧ f_X9_bestPace mparts sF pOA d0 d1 d2 d3 d4 d5 d6 d7 d8 d9 d10 sw d11 how strong plan ins fl tr x1 = some (r, o') := by
  obtain ⟨hnum, hf, hst, N, rfl, rfl, hPL, hM, rfl⟩ := h
  obtain ⟨hr, hs⟩ := hf_hr hf
  unfold f_X8_bestPace f_X9_bestPace
  by_cases a1 : x1 < 0
  · rw [if_pos a1, m_in0 (Or.inl a1), eb1, if_pos rfl]
    exact ⟨_, _, _, rfl, rfl⟩
  · by_cases a2 : 1 < x1
    · rw [if_neg a1, if_neg (show ¬ x1 ≤ 1 by rw [t_le]; rw [t_lt] at a2; omega), m_in0 (Or.inr a2), eb1, if_pos rfl]
      exact ⟨_, _, _, rfl, rfl⟩
    · obtain ⟨i', b1, b2⟩ := m_asTold sF pOA how ins
      rw [if_neg a1, if_pos (show x1 ≤ 1 by rw [t_le]; rw [t_lt] at a2; omega), m_in1 a1 a2, eb1, if_neg (show ¬ (1 : Int32) = 0 by decide), b1, eb3]
      unfold f_X8_leastCoarsePace
      obtain ⟨o, o', best', leastM', r1, r2, r3⟩ := bl_Pace hnum hf hst hPL hM sw i' b2 x1 9 1 FU FU (-6) 1001 0 (-6) c0 c1 c2 c3 c4 c5 c6 c7 c8 c9 c10 c11 c12 c13 c14 g wr hb d0 d1 d2 d3 d4 d5 d6 d7 d8 d9 d10 d11 fl tr (by omega) (by omega) (FU_gt (by decide)) (FU_gt (by decide)) (Or.inl ⟨rfl, rfl⟩)
      rw [show nI 1 = (1 : Int32) from rfl] at r1 r2
      rw [r1, ep19, r2]
      rcases r3 with e | ⟨b, hb0, hb1, e, d0, d1, d2, d3, d4, d5, d6, d7, d8, d9, d10, d11, fl2, tr2, e0, e1, e2, e3, e4, e5, e6, e7, e8, e9, e10, e11, fl3, tr3, hW1, hW2⟩
      · rw [if_pos e, if_pos (show best' < 0 by rw [e]; decide)]
        exact ⟨_, _, _, rfl, rfl⟩
      · have hn : ¬ best' < 0 := by rw [e]; exact nI_pos (by omega)
        rw [if_neg (show ¬ best' = -6 from fun q => hn (by rw [q]; decide)), if_neg hn]
        by_cases c0 : x1 = 0
        · rw [if_pos c0, if_pos c0]
          exact ⟨_, _, _, rfl, rfl⟩
        · rw [if_neg c0, if_neg c0]
          obtain ⟨t', held', first', ice', salt', br', cold', wm', ly', air', ch', tot', sf', g', fl', wr', tr', hb', q0, q1, q2, q3⟩ := run2 (instead := i') (way := 27) (onep := nI b) (pOA := nI b) (S := how 1) hnum hr hst hPL hM hs (fun i hi => ⟨i, hi, way27 i hi, b2 i hi⟩) (Or.inr ⟨rfl, nI_ne0 (by omega) (by omega), nI_pos (by omega), by rw [t_n _ (by omega)]; omega⟩) (mS le N) (Nat.le_refl _) sw (o.1) (o.2.1) (o.2.2.1) (o.2.2.2.1) (o.2.2.2.2.1) (o.2.2.2.2.2.1) (o.2.2.2.2.2.2.1) (o.2.2.2.2.2.2.2.1) (o.2.2.2.2.2.2.2.2.1) (o.2.2.2.2.2.2.2.2.2.1) (o.2.2.2.2.2.2.2.2.2.2.1) (o.2.2.2.2.2.2.2.2.2.2.2.1) (o.2.2.2.2.2.2.2.2.2.2.2.2.1) (o.2.2.2.2.2.2.2.2.2.2.2.2.2.1) (o.2.2.2.2.2.2.2.2.2.2.2.2.2.2.1) (o.2.2.2.2.2.2.2.2.2.2.2.2.2.2.2.1) (o.2.2.2.2.2.2.2.2.2.2.2.2.2.2.2.2.1) (o.2.2.2.2.2.2.2.2.2.2.2.2.2.2.2.2.2) d0 d1 d2 d3 d4 d5 d6 d7 d8 d9 d10 d11 fl2 tr2
          have hfl : fl' = fl3 := congrArg (fun z => z.2.2.2.2.2.2.2.2.2.2.2.2.1) (Option.some.inj (q2.symm.trans hW1))
          have hco := co_eq q3.2.1 (gi_tot q3.2.2.2.2.2.2.1)
          rw [hfl, hW2] at hco
          rw [e, e_num (i := 1) 1 (by decide) rfl, eb1, hnum 1 (by decide), q1, eb18, e_coarse, eb1, Option.some.inj hco]
          exact ⟨_, _, _, rfl, rfl⟩
/-! ORDER -/
def ckf (y i : Nat) : Nat := match i with
  | 0 => y / 64
  | 1 => y / 16 % 4
  | 2 => y / 4 % 4
  | _ => y % 4
theorem ck_lt {y : Nat} (hy : y < 256) : ∀ i, ckf y i < 4 := by
  intro i
  unfold ckf
  split <;> omega
theorem cpk (y : Nat) (hy : y < 256) (x : Int32) (k : Nat) (hk : ((((2 : Int32) * (3 - x)) &&& 31).toBitVec.smod 32).toNat = k) : f_X8_childInPlace (nI y) x = some (nI (y / 2 ^ k % 4)) := by
  unfold f_X8_childInPlace
  rw [pk_shrN (by omega) _ k hk, pk_andN (Nat.lt_of_le_of_lt (Nat.div_le_self y (2 ^ k)) (by omega)) 2 (by decide)]
theorem cp0 {y : Nat} (hy : y < 256) : f_X8_childInPlace (nI y) 0 = some (nI (ckf y 0)) := by
  rw [cpk y hy 0 6 (by decide), show y / 2 ^ 6 % 4 = ckf y 0 by show y / 2 ^ 6 % 4 = y / 64; omega]
theorem cp1 {y : Nat} (hy : y < 256) : f_X8_childInPlace (nI y) 1 = some (nI (ckf y 1)) := by
  rw [cpk y hy 1 4 (by decide), show y / 2 ^ 4 % 4 = ckf y 1 by show y / 2 ^ 4 % 4 = y / 16 % 4; omega]
theorem cp2 {y : Nat} (hy : y < 256) : f_X8_childInPlace (nI y) 2 = some (nI (ckf y 2)) := by
  rw [cpk y hy 2 2 (by decide), show y / 2 ^ 2 % 4 = ckf y 2 by show y / 2 ^ 2 % 4 = y / 4 % 4; omega]
theorem cp3 {y : Nat} (hy : y < 256) : f_X8_childInPlace (nI y) 3 = some (nI (ckf y 3)) := by
  rw [cpk y hy 3 0 (by decide), show y / 2 ^ 0 % 4 = ckf y 3 by show y / 2 ^ 0 % 4 = y % 4; omega]
theorem cpi {y : Nat} (hy : y < 256) : ∀ i, i < 4 → f_X8_childInPlace (nI y) (nI i) = some (nI (ckf y i)) := by
  intro i hi
  match i, hi with
  | 0, _ => exact cp0 hy
  | 1, _ => exact cp1 hy
  | 2, _ => exact cp2 hy
  | 3, _ => exact cp3 hy
theorem md0 {y : Nat} (hy : y < 256) : nI y / 64 = nI (ckf y 0) := pk_div (a := y) (d := 64) (by omega) (by decide) (by decide)
theorem md1 {y : Nat} (hy : y < 256) : (nI y / 16) - (nI y / 16) / 4 * 4 = nI (ckf y 1) := by
  rw [show nI y / 16 = nI (y / 16) from pk_div (a := y) (d := 16) (by omega) (by decide) (by decide)]
  exact pk_rem (a := y / 16) (d := 4) (by omega) (by decide) (by decide)
theorem md2 {y : Nat} (hy : y < 256) : (nI y / 4) - (nI y / 4) / 4 * 4 = nI (ckf y 2) := by
  rw [show nI y / 4 = nI (y / 4) from pk_div (a := y) (d := 4) (by omega) (by decide) (by decide)]
  exact pk_rem (a := y / 4) (d := 4) (by omega) (by decide) (by decide)
theorem md3 {y : Nat} (hy : y < 256) : nI y - nI y / 4 * 4 = nI (ckf y 3) := pk_rem (a := y) (d := 4) (by omega) (by decide) (by decide)
def MK (y : Nat) : Int32 := (((1 <<< (nI (ckf y 0) &&& 31)) ||| (1 <<< (nI (ckf y 1) &&& 31))) ||| (1 <<< (nI (ckf y 2) &&& 31))) ||| (1 <<< (nI (ckf y 3) &&& 31))
theorem e_each {y : Nat} (hy : y < 256) : f_X8_hasEachChild (nI y) = some (if MK y = 15 then 1 else 0) := by
  unfold f_X8_hasEachChild
  rw [show FU = 1995 + 1 + 1 + 1 + 1 + 1 from rfl]
  rw [f_X8_hasEachChild_L4, if_neg (show ¬ (4 : Int32) ≤ 0 by decide), cp0 hy, eb1, show (0 : Int32) + 1 = 1 from rfl, Int32.zero_or]
  rw [f_X8_hasEachChild_L4, if_neg (show ¬ (4 : Int32) ≤ 1 by decide), cp1 hy, eb1, show (1 : Int32) + 1 = 2 from rfl]
  rw [f_X8_hasEachChild_L4, if_neg (show ¬ (4 : Int32) ≤ 2 by decide), cp2 hy, eb1, show (2 : Int32) + 1 = 3 from rfl]
  rw [f_X8_hasEachChild_L4, if_neg (show ¬ (4 : Int32) ≤ 3 by decide), cp3 hy, eb1, show (3 : Int32) + 1 = 4 from rfl]
  rw [f_X8_hasEachChild_L4, if_pos (show (4 : Int32) ≤ 4 by decide)]
  show (if MK y = 15 then some 1 else some 0) = _
  split <;> rfl
def in4 (ins : Nat → Int32) (y : Nat) : Nat → Int32 := upd (upd (upd (upd ins 0 (nI (ckf y 0))) 1 (nI (ckf y 1))) 2 (nI (ckf y 2))) 3 (nI (ckf y 3))
theorem in4_at (ins : Nat → Int32) (y : Nat) : ∀ i, i < 4 → in4 ins y i = nI (ckf y i) := by
  intro i hi
  match i, hi with
  | 0, _ => rfl
  | 1, _ => rfl
  | 2, _ => rfl
  | 3, _ => rfl
def WO (N : Nat) (M sw : Int32) (how strong plan : Nat → Int32) (b : Nat) (few most : Int32) : Prop := ∃ (ins : Nat → Int32), (∀ i, i < 4 → ins i = nI (ckf b i)) ∧ ∃ (d0 d1 d2 d3 d4 d5 d6 d7 d8 d9 d10 d11 : Int32) (fl tr : Nat → Int32) (e0 e1 e2 e3 e4 e6 e7 e8 e10 e11 : Int32) (fl' tr' : Nat → Int32), f_X9_run (nI N) (how 1) (-6) d0 d1 d2 d3 d4 d5 d6 d7 d8 d9 d10 sw d11 how strong plan ins fl tr M = some (e0, e1, e2, e3, e4, most, e6, e7, e8, few, e10, e11, fl', tr')
def anO (x1 best few most : Int32) : Int32 := if x1 = -1 then few else if x1 = -2 then most else if x1 = 0 then best / 64 else if x1 = 1 then (best / 16) - (best / 16) / 4 * 4 else if x1 = 2 then (best / 4) - (best / 4) / 4 * 4 else best - best / 4 * 4
set_option maxHeartbeats 4000000 in
theorem ol {numbers strengths who am le how strong plan : Nat → Int32} {N : Nat} (hnum : ag 8 numbers how) (hf : HF how) (hst : ag 4 strengths strong) (hPL : PL N who am le plan) (hM : mS le N ≤ 117) (sw : Int32) (x1 : Int32) :
    ∀ (n y fu1 fu2 : Nat) (best few most bestM fewM mostM : Int32) (c0 c1 c2 c3 c4 c5 c6 c7 c8 c9 c10 c11 c12 c13 c14 : Int32) (g wr hb : Nat → Int32) (d0 d1 d2 d3 d4 d5 d6 d7 d8 d9 d10 d11 : Int32) (ins fl tr : Nat → Int32), y + n = 256 → n < fu1 → n < fu2 → ((bestM = -6 ∧ best = 27 ∧ few = 118 ∧ y ≤ 27) ∨ ∃ b, b < 256 ∧ best = nI b ∧ bestM = nI b ∧ fewM = few ∧ mostM = most ∧ WO N (nI (mS le N)) sw how strong plan b few most) →
      ∃ o o' b few' most', b < 256 ∧ f_X8_bestWay_L11 numbers strengths (nI N) (nI (mS le N)) who am le fu1 best few most (nI y) c0 c1 c2 c3 c4 c5 c6 c7 c8 c9 c10 c11 c12 c13 c14 g wr hb = some (nI b, o) ∧ f_X9_order_L27 (nI N) sw how strong plan fu2 x1 bestM fewM mostM (nI y) (how 1) (-6) d0 d1 d2 d3 d4 d5 d6 d7 d8 d9 d10 d11 ins fl tr = some (anO x1 (nI b) few' most', o') ∧ WO N (nI (mS le N)) sw how strong plan b few' most' := by
  obtain ⟨hr, hs⟩ := hf_hr hf
  intro n
  induction n with
  | zero =>
    intro y fu1 fu2 best few most bestM fewM mostM c0 c1 c2 c3 c4 c5 c6 c7 c8 c9 c10 c11 c12 c13 c14 g wr hb d0 d1 d2 d3 d4 d5 d6 d7 d8 d9 d10 d11 ins fl tr hy f1 f2 hI
    obtain ⟨fu1, rfl⟩ : ∃ k, fu1 = k + 1 := ⟨fu1 - 1, by omega⟩
    obtain ⟨fu2, rfl⟩ : ∃ k, fu2 = k + 1 := ⟨fu2 - 1, by omega⟩
    have e : y = 256 := by omega
    subst e
    rcases hI with ⟨-, -, -, h⟩ | ⟨b, hb, h1, h2, h3, h4, h5⟩
    · omega
    · rw [f_X8_bestWay_L11, f_X9_order_L27, if_pos (show (256 : Int32) ≤ nI 256 by decide), if_pos (show (256 : Int32) ≤ nI 256 by decide)]
      refine ⟨_, (how 1, -6, d0, d1, d2, d3, d4, d5, d6, d7, d8, d9, d10, d11, ins, fl, tr), b, few, most, hb, by rw [h1], ?_, h5⟩
      rw [h2, h3, h4]
      unfold anO
      by_cases c1 : x1 = -1
      · rw [if_pos c1, if_pos c1]
      rw [if_neg c1, if_neg c1]
      by_cases c2 : x1 = -2
      · rw [if_pos c2, if_pos c2]
      rw [if_neg c2, if_neg c2]
      by_cases c3 : x1 = 0
      · rw [if_pos c3, if_pos c3]
      rw [if_neg c3, if_neg c3]
      by_cases c4 : x1 = 1
      · rw [if_pos c4, if_pos c4]
      rw [if_neg c4, if_neg c4]
      by_cases c5 : x1 = 2
      · rw [if_pos c5, if_pos c5]
      rw [if_neg c5, if_neg c5]
  | succ n ih =>
    intro y fu1 fu2 best few most bestM fewM mostM c0 c1 c2 c3 c4 c5 c6 c7 c8 c9 c10 c11 c12 c13 c14 g wr hb d0 d1 d2 d3 d4 d5 d6 d7 d8 d9 d10 d11 ins fl tr hy f1 f2 hI
    obtain ⟨fu1, rfl⟩ : ∃ k, fu1 = k + 1 := ⟨fu1 - 1, by omega⟩
    obtain ⟨fu2, rfl⟩ : ∃ k, fu2 = k + 1 := ⟨fu2 - 1, by omega⟩
    have hy2 : y < 256 := by omega
    have h256 : ¬ (256 : Int32) ≤ nI y := nI_ge (show y < 256 by omega) (by decide)
    rw [f_X8_bestWay_L11, f_X9_order_L27, if_neg h256, if_neg h256, e_each hy2, eb1, md0 hy2, md1 hy2, md2 hy2, md3 hy2]
    rw [show ((((1 <<< (nI (ckf y 0) &&& 31)) ||| (1 <<< (nI (ckf y 1) &&& 31))) ||| (1 <<< (nI (ckf y 2) &&& 31))) ||| (1 <<< (nI (ckf y 3) &&& 31)) : Int32) = MK y from rfl]
    by_cases cm : MK y = 15
    · rw [if_pos cm, if_pos cm, if_neg (show ¬ (1 : Int32) = 0 by decide), gd_ok (by decide), gd_ok (by decide), gd_ok (by decide), gd_ok (by decide), e_num (i := 1) 1 (by decide) rfl, eb1, hnum 1 (by decide), m_mins hPL, eb1]
      obtain ⟨t', held', first', ice', salt', br', cold', wm', ly', air', ch', tot', sf', g', fl', wr', tr', hb', q0, q1, q2, q3⟩ := run2 (instead := in4 ins y) (way := nI y) (onep := 0) (pOA := -6) (S := how 1) hnum hr hst hPL hM hs (fun i hi => ⟨ckf y i, ck_lt hy2 i, cpi hy2 i hi, in4_at ins y i hi⟩) (Or.inl ⟨rfl, by decide⟩) (mS le N) (Nat.le_refl _) sw c0 c1 c2 c3 c4 c5 c6 c7 c8 c9 c10 c11 c12 c13 c14 g wr hb d0 d1 d2 d3 d4 d5 d6 d7 d8 d9 d10 d11 fl tr
      have q2' : f_X9_run (nI N) (how 1) (-6) d0 d1 d2 d3 d4 d5 d6 d7 d8 d9 d10 sw d11 how strong plan (upd (upd (upd (upd ins ((0 : Int32)).toNatClampNeg (nI (ckf y 0))) ((1 : Int32)).toNatClampNeg (nI (ckf y 1))) ((2 : Int32)).toNatClampNeg (nI (ckf y 2))) ((3 : Int32)).toNatClampNeg (nI (ckf y 3))) fl tr (nI (mS le N)) = _ := q2
      rw [q1, eb18, q2', eb14, nI_1]
      have hW : WO N (nI (mS le N)) sw how strong plan y held' tot' := ⟨_, in4_at ins y, _, _, _, _, _, _, _, _, _, _, _, _, _, _, _, _, _, _, _, _, _, _, _, _, _, _, q2⟩
      have hheld := q3.2.2.2.2.1
      unfold f_X8_bestWay_L101 f_X9_order_L158
      rw [nI_1]
      rcases hI with ⟨h1, h2, h3, h4⟩ | ⟨b, hb, h1, h2, h3, h4, h5⟩
      · rw [if_pos (show held' < few by
          rw [h3, t_lt]
          have : (118 : Int32).toInt = 118 := rfl
          omega), if_pos (show bestM < 0 by rw [h1]; decide)]
        exact ih (y + 1) fu1 fu2 _ _ _ _ _ _ _ _ _ _ _ _ _ _ _ _ _ _ _ _ _ _ _ _ _ _ _ _ _ _ _ _ _ _ _ _ _ _ _ (by omega) (by omega) (by omega) (Or.inr ⟨y, hy2, rfl, rfl, rfl, rfl, hW⟩)
      · rw [if_neg (show ¬ bestM < 0 by rw [h2]; exact nI_pos (by omega)), h3, h4]
        by_cases c1 : held' < few
        · rw [if_pos c1, if_pos c1]
          exact ih (y + 1) fu1 fu2 _ _ _ _ _ _ _ _ _ _ _ _ _ _ _ _ _ _ _ _ _ _ _ _ _ _ _ _ _ _ _ _ _ _ _ _ _ _ _ (by omega) (by omega) (by omega) (Or.inr ⟨y, hy2, rfl, rfl, rfl, rfl, hW⟩)
        · rw [if_neg c1, if_neg c1]
          by_cases c2 : held' = few
          · rw [if_pos c2, if_pos c2]
            by_cases c3 : tot' ≤ most
            · rw [if_pos c3, if_pos c3]
              exact ih (y + 1) fu1 fu2 _ _ _ _ _ _ _ _ _ _ _ _ _ _ _ _ _ _ _ _ _ _ _ _ _ _ _ _ _ _ _ _ _ _ _ _ _ _ _ (by omega) (by omega) (by omega) (Or.inr ⟨b, hb, h1, h2, rfl, rfl, h5⟩)
            · rw [if_neg c3, if_neg c3]
              exact ih (y + 1) fu1 fu2 _ _ _ _ _ _ _ _ _ _ _ _ _ _ _ _ _ _ _ _ _ _ _ _ _ _ _ _ _ _ _ _ _ _ _ _ _ _ _ (by omega) (by omega) (by omega) (Or.inr ⟨y, hy2, rfl, rfl, rfl, rfl, hW⟩)
          · rw [if_neg c2, if_neg c2]
            exact ih (y + 1) fu1 fu2 _ _ _ _ _ _ _ _ _ _ _ _ _ _ _ _ _ _ _ _ _ _ _ _ _ _ _ _ _ _ _ _ _ _ _ _ _ _ _ (by omega) (by omega) (by omega) (Or.inr ⟨b, hb, h1, h2, rfl, rfl, h5⟩)
    · rw [if_neg cm, if_neg cm, if_pos (show (0 : Int32) = 0 from rfl), nI_1]
      exact ih (y + 1) fu1 fu2 _ _ _ _ _ _ _ _ _ _ _ _ _ _ _ _ _ _ _ _ _ _ _ _ _ _ _ _ _ _ _ _ _ _ _ _ _ _ _ (by omega) (by omega) (by omega) (by
        rcases hI with ⟨h1, h2, h3, h4⟩ | h
        · refine Or.inl ⟨h1, h2, h3, ?_⟩
          by_cases e : y = 27
          · rw [e] at cm; exact absurd (by decide) cm
          · omega
        · exact Or.inr h)
set_option maxHeartbeats 4000000 in
theorem s_order {numbers strengths who am le how strong plan : Nat → Int32} {parts mins mparts : Int32} (h : RP numbers strengths parts mins who am le how strong mparts plan) (c0 c1 c2 c3 c4 c5 c6 c7 c8 c9 c10 c11 c12 c13 c14 : Int32) (g wr hb : Nat → Int32) (sF pOA d0 d1 d2 d3 d4 d5 d6 d7 d8 d9 d10 d11 sw : Int32) (ins fl tr : Nat → Int32) (x1 : Int32) : ∃ r o o', f_X8_order numbers strengths parts mins who am le c0 c1 c2 c3 c4 c5 c6 c7 c8 c9 c10 c11 c12 c13 c14 g wr hb x1 = some (r, o) ∧ f_X9_order mparts sF pOA d0 d1 d2 d3 d4 d5 d6 d7 d8 d9 d10 sw d11 how strong plan ins fl tr x1 = some (r, o') := by
  obtain ⟨hnum, hf, hst, N, rfl, rfl, hPL, hM, rfl⟩ := h
  obtain ⟨hr, hs⟩ := hf_hr hf
  unfold f_X8_order f_X9_order
  by_cases a1 : x1 < -2
  · rw [if_pos a1, m_in0 (Or.inl a1), eb1, if_pos rfl]
    exact ⟨_, _, _, rfl, rfl⟩
  · by_cases a2 : 3 < x1
    · rw [if_neg a1, if_neg (show ¬ x1 < 4 by rw [t_lt, i4]; rw [t_lt, i3] at a2; omega), m_in0 (Or.inr a2), eb1, if_pos rfl]
      exact ⟨_, _, _, rfl, rfl⟩
    · obtain ⟨i', b1, b2⟩ := m_asTold sF pOA how ins
      rw [if_neg a1, if_pos (show x1 < 4 by rw [t_lt, i4]; rw [t_lt, i3] at a2; omega), m_in1 a1 a2, eb1, if_neg (show ¬ (1 : Int32) = 0 by decide), b1, eb3]
      unfold f_X8_bestWay
      obtain ⟨o, o', b, few', most', hb256, r1, r2, ins2, hi2, d0, d1, d2, d3, d4, d5, d6, d7, d8, d9, d10, d11, fl2, tr2, e0, e1, e2, e3, e4, e6, e7, e8, e10, e11, fl3, tr3, hW1⟩ := ol hnum hf hst hPL hM sw x1 256 0 FU FU 27 118 0 (-6) 0 0 c0 c1 c2 c3 c4 c5 c6 c7 c8 c9 c10 c11 c12 c13 c14 g wr hb d0 d1 d2 d3 d4 d5 d6 d7 d8 d9 d10 d11 i' fl tr (by omega) (FU_gt (by decide)) (FU_gt (by decide)) (Or.inl ⟨rfl, rfl, rfl, by omega⟩)
      rw [show nI 0 = (0 : Int32) from rfl] at r1 r2
      rw [r1, ep19]
      have im2 : (-2 : Int32).toInt = -2 := rfl
      have hx : x1 = -2 ∨ x1 = -1 ∨ x1 = 0 ∨ x1 = 1 ∨ x1 = 2 ∨ x1 = 3 := by
        rw [t_lt, im2] at a1
        rw [t_lt, i3] at a2
        rw [t_eq, t_eq, t_eq, t_eq, t_eq, t_eq, im2, im1, i0, i1, i2, i3]
        omega
      rw [r2]
      obtain ⟨t', held', first', ice', salt', br', cold', wm', ly', air', ch', tot', sf', g', fl', wr', tr', hb', q0, q1, q2, q3⟩ := run2 (instead := ins2) (way := nI b) (onep := 0) (pOA := -6) (S := how 1) hnum hr hst hPL hM hs (fun i hi => ⟨ckf b i, ck_lt hb256 i, cpi hb256 i hi, hi2 i hi⟩) (Or.inl ⟨rfl, by decide⟩) (mS le N) (Nat.le_refl _) sw (o.1) (o.2.1) (o.2.2.1) (o.2.2.2.1) (o.2.2.2.2.1) (o.2.2.2.2.2.1) (o.2.2.2.2.2.2.1) (o.2.2.2.2.2.2.2.1) (o.2.2.2.2.2.2.2.2.1) (o.2.2.2.2.2.2.2.2.2.1) (o.2.2.2.2.2.2.2.2.2.2.1) (o.2.2.2.2.2.2.2.2.2.2.2.1) (o.2.2.2.2.2.2.2.2.2.2.2.2.1) (o.2.2.2.2.2.2.2.2.2.2.2.2.2.1) (o.2.2.2.2.2.2.2.2.2.2.2.2.2.2.1) (o.2.2.2.2.2.2.2.2.2.2.2.2.2.2.2.1) (o.2.2.2.2.2.2.2.2.2.2.2.2.2.2.2.2.1) (o.2.2.2.2.2.2.2.2.2.2.2.2.2.2.2.2.2) d0 d1 d2 d3 d4 d5 d6 d7 d8 d9 d10 d11 fl2 tr2
      have ht : tot' = most' := congrArg (fun z => z.2.2.2.2.2.1) (Option.some.inj (q2.symm.trans hW1))
      have hh : held' = few' := congrArg (fun z => z.2.2.2.2.2.2.2.2.2.1) (Option.some.inj (q2.symm.trans hW1))
      unfold anO
      rcases hx with rfl | rfl | rfl | rfl | rfl | rfl
      · rw [if_pos (show (-2 : Int32) < 0 by decide), e_num (i := 1) 1 (by decide) rfl, eb1, hnum 1 (by decide), q1, eb18, if_neg (show ¬ (-2 : Int32) = -1 by decide), if_neg (show ¬ (-2 : Int32) = -1 by decide), if_pos rfl, ht]
        exact ⟨_, _, _, rfl, rfl⟩
      · rw [if_pos (show (-1 : Int32) < 0 by decide), e_num (i := 1) 1 (by decide) rfl, eb1, hnum 1 (by decide), q1, eb18, if_pos rfl, if_pos rfl, hh]
        exact ⟨_, _, _, rfl, rfl⟩
      · rw [if_neg (show ¬ (0 : Int32) < 0 by decide), cp0 hb256, eb1, if_neg (show ¬ (0 : Int32) = -1 by decide), if_neg (show ¬ (0 : Int32) = -2 by decide), if_pos rfl, md0 hb256]
        exact ⟨_, _, _, rfl, rfl⟩
      · rw [if_neg (show ¬ (1 : Int32) < 0 by decide), cp1 hb256, eb1, if_neg (show ¬ (1 : Int32) = -1 by decide), if_neg (show ¬ (1 : Int32) = -2 by decide), if_neg (show ¬ (1 : Int32) = 0 by decide), if_pos rfl, md1 hb256]
        exact ⟨_, _, _, rfl, rfl⟩
      · rw [if_neg (show ¬ (2 : Int32) < 0 by decide), cp2 hb256, eb1, if_neg (show ¬ (2 : Int32) = -1 by decide), if_neg (show ¬ (2 : Int32) = -2 by decide), if_neg (show ¬ (2 : Int32) = 0 by decide), if_neg (show ¬ (2 : Int32) = 1 by decide), if_pos rfl, md2 hb256]
        exact ⟨_, _, _, rfl, rfl⟩
      · rw [if_neg (show ¬ (3 : Int32) < 0 by decide), cp3 hb256, eb1, if_neg (show ¬ (3 : Int32) = -1 by decide), if_neg (show ¬ (3 : Int32) = -2 by decide), if_neg (show ¬ (3 : Int32) = 0 by decide), if_neg (show ¬ (3 : Int32) = 1 by decide), if_neg (show ¬ (3 : Int32) = 2 by decide), md3 hb256]
        exact ⟨_, _, _, rfl, rfl⟩
