/-! SOFT -/
theorem a03 : f_X8_atT 0 3 = some 0 := by decide
theorem a13 : f_X8_atT 1 3 = some 600 := by decide
def lI (n : Nat) : Int64 := Int64.ofNat n
theorem l_ml {a b : Int64} (h1 : -9223372036854775808 ≤ a.toInt * b.toInt) (h2 : a.toInt * b.toInt ≤ 9223372036854775807) : (a * b).toInt = a.toInt * b.toInt := by
  rw [Int64.toInt_mul]; exact Int.bmod_eq_of_le (by omega) (by omega)
theorem l_sb {a b : Int64} (h1 : -9223372036854775808 ≤ a.toInt - b.toInt) (h2 : a.toInt - b.toInt ≤ 9223372036854775807) : (a - b).toInt = a.toInt - b.toInt := by
  rw [Int64.toInt_sub]; exact Int.bmod_eq_of_le (by omega) (by omega)
theorem l_dv {a b : Int64} (ha : 0 ≤ a.toInt) (hb : 0 < b.toInt) : (a / b).toInt = a.toInt / b.toInt := by
  rw [Int64.toInt_div_of_ne_right _ _ (fun h => by rw [h] at hb; exact absurd hb (by decide)), Int.tdiv_eq_ediv_of_nonneg ha]
theorem l_lt {a b : Int64} : a < b ↔ a.toInt < b.toInt := Int64.lt_iff_toInt_lt
theorem l_eq {a b : Int64} : a = b ↔ a.toInt = b.toInt := Int64.toInt_inj.symm
theorem l_n (n : Nat) (h : n < 9223372036854775808) : (lI n).toInt = n := Int64.toInt_ofNat_of_lt h
theorem l_32 (x : Int32) : x.toInt64.toInt = x.toInt := Int32.toInt_toInt64 x
theorem lI_32 {n : Nat} (h : n < 2147483648) : (nI n).toInt64 = lI n := by
  rw [l_eq, l_32, t_n _ h, l_n _ (by omega)]
theorem lI_mul (a b : Nat) : lI a * lI b = lI (a * b) := (Int64.ofNat_mul a b).symm
theorem lI_div {a d : Nat} (ha : a < 2 ^ 62) (h0 : 0 < d) (hd : d < 2 ^ 62) : lI a / lI d = lI (a / d) := by
  have h1 := l_n a (by omega)
  have h2 := l_n d (by omega)
  have h3 := l_n (a / d) (Nat.lt_of_le_of_lt (Nat.div_le_self a d) (by omega))
  rw [l_eq, l_dv (by rw [h1]; omega) (by rw [h2]; omega), h1, h2, h3]; rfl
theorem lI_rem {a d : Nat} (ha : a < 2 ^ 62) (h0 : 0 < d) (hd : d < 2 ^ 62) : lI a - lI a / lI d * lI d = lI (a % d) := by
  have e : a / d * d + a % d = a := Nat.div_add_mod' a d
  rw [lI_div ha h0 hd, lI_mul, l_eq]
  have h1 := l_n a (by omega)
  have h2 := l_n (a / d * d) (by omega)
  have h3 := l_n (a % d) (by omega)
  rw [l_sb (by rw [h1, h2]; omega) (by rw [h1, h2]; omega), h1, h2, h3]
  omega
def SFT (how : Nat → Int32) (S T : Int32) : Int32 := if (how 6 * (T * how 2)) < (1000 * ((T * how 2) - (54 * S))) then 0 else 1
theorem e_soft {numbers how : Nat → Int32} (hnum : ag 8 numbers how) (S T : Int32) : f_X8_isSoft numbers S T = some (SFT how S T) := by
  unfold f_X8_isSoft SFT
  rw [e_num (i := 2) 2 (by decide) rfl, eb1, e_num (i := 6) 6 (by decide) rfl, eb1, hnum 2 (by decide), hnum 6 (by decide)]
  split <;> rfl
theorem m_soft {how : Nat → Int32} (hf : HF how) {S T : Int32} (hS : 0 ≤ S.toInt ∧ S.toInt ≤ 600) (hT : 1 ≤ T.toInt ∧ T.toInt ≤ 300) : f_X9_isSoft how T S = some (SFT how S T) := by
  have h2 : 100 ≤ (how 2).toInt ∧ (how 2).toInt ≤ 2000 := hf 2 (by decide)
  have h6 : 1 ≤ (how 6).toInt ∧ (how 6).toInt ≤ 900 := hf 6 (by decide)
  have p1 : 0 ≤ T.toInt * (how 2).toInt := Int.mul_nonneg (by omega) (by omega)
  have p2 : T.toInt * (how 2).toInt ≤ 300 * 2000 := Int.mul_le_mul hT.2 h2.2 (by omega) (by omega)
  have e54 : (54 : Int32).toInt = 54 := rfl
  have e1000 : (1000 : Int32).toInt = 1000 := rfl
  have l1000 : (1000 : Int64).toInt = 1000 := rfl
  have t1 : (T * how 2).toInt = T.toInt * (how 2).toInt := t_ml (by omega) (by omega)
  have t2 : ((54 : Int32) * S).toInt = 54 * S.toInt := by rw [t_ml (by rw [e54]; omega) (by rw [e54]; omega), e54]
  have t3 : (T * how 2 - 54 * S).toInt = T.toInt * (how 2).toInt - 54 * S.toInt := by rw [t_sb (by rw [t1, t2]; omega) (by rw [t1, t2]; omega), t1, t2]
  have t4 : (1000 * (T * how 2 - 54 * S)).toInt = 1000 * (T.toInt * (how 2).toInt - 54 * S.toInt) := by rw [t_ml (by rw [e1000, t3]; omega) (by rw [e1000, t3]; omega), e1000, t3]
  have p3 : 0 ≤ (how 6).toInt * (T.toInt * (how 2).toInt) := Int.mul_nonneg (by omega) p1
  have p4 : (how 6).toInt * (T.toInt * (how 2).toInt) ≤ 900 * (300 * 2000) := Int.mul_le_mul h6.2 p2 p1 (by omega)
  have t5 : (how 6 * (T * how 2)).toInt = (how 6).toInt * (T.toInt * (how 2).toInt) := by rw [t_ml (by rw [t1]; omega) (by rw [t1]; omega), t1]
  have p5 : 0 ≤ (how 6).toInt * T.toInt := Int.mul_nonneg (by omega) (by omega)
  have p6 : (how 6).toInt * T.toInt ≤ 900 * 300 := Int.mul_le_mul h6.2 hT.2 (by omega) (by omega)
  have u1 : ((how 6).toInt64 * T.toInt64).toInt = (how 6).toInt * T.toInt := by rw [l_ml (by rw [l_32, l_32]; omega) (by rw [l_32, l_32]; omega), l_32, l_32]
  have u2 : (((how 6).toInt64 * T.toInt64) * (how 2).toInt64).toInt = (how 6).toInt * (T.toInt * (how 2).toInt) := by
    rw [l_ml (by rw [u1, l_32, Int.mul_assoc]; omega) (by rw [u1, l_32, Int.mul_assoc]; omega), u1, l_32, Int.mul_assoc]
  have u3 : ((1000 : Int64) * (T * how 2 - 54 * S).toInt64).toInt = 1000 * (T.toInt * (how 2).toInt - 54 * S.toInt) := by
    rw [l_ml (by rw [l_32, l1000, t3]; omega) (by rw [l_32, l1000, t3]; omega), l_32, l1000, t3]
  unfold f_X9_isSoft SFT
  rw [gd_ok (by decide), show ((2 : Int32)).toNatClampNeg = 2 from rfl, show ((6 : Int32)).toNatClampNeg = 6 from rfl]
  by_cases a : (T * how 2 - 54 * S) ≤ 0
  · rw [if_pos a]
    rw [t_le, t3, i0] at a
    rw [if_neg (show ¬ (how 6 * (T * how 2)) < (1000 * ((T * how 2) - (54 * S))) by rw [t_lt, t4, t5]; omega)]
  · rw [if_neg a, gd_ok (by decide), gd_ok (by decide)]
    by_cases b : (how 6 * (T * how 2)) < (1000 * ((T * how 2) - (54 * S)))
    · rw [if_pos b, if_pos ((lg_cmp_gt _ _).mpr (by rw [l_lt, u2, u3]; rw [t_lt, t4, t5] at b; exact b))]
    · rw [if_neg b, if_neg (fun q => b (by rw [t_lt, t4, t5]; have := (lg_cmp_gt _ _).mp q; rw [l_lt, u2, u3] at this; exact this))]
def hiS (how : Nat → Int32) : Nat → Int32
  | 0 => -6
  | n + 1 => if SFT how (how 3) (nI (n + 1)) = 0 then hiS how n else nI (n + 1)
theorem s_soft {numbers how : Nat → Int32} (hnum : ag 8 numbers how) (hf : HF how) : ∃ r, f_X8_soft numbers = some r ∧ f_X9_soft how = some r := by
  have h3 : 0 ≤ (how 3).toInt ∧ (how 3).toInt ≤ 600 := hf 3 (by decide)
  have k1 : ∀ n fu, n ≤ 300 → n < fu → f_X8_soft_L4 numbers fu (nI n) = some (hiS how n) := by
    intro n
    induction n with
    | zero =>
      intro fu hn f
      obtain ⟨fu, rfl⟩ : ∃ k, fu = k + 1 := ⟨fu - 1, by omega⟩
      rw [f_X8_soft_L4, if_pos (show nI 0 < 1 by decide)]; rfl
    | succ n ih =>
      intro fu hn f
      obtain ⟨fu, rfl⟩ : ∃ k, fu = k + 1 := ⟨fu - 1, by omega⟩
      rw [f_X8_soft_L4, if_neg (show ¬ nI (n + 1) < 1 from nI_nlt (show 1 ≤ n + 1 by omega) (by omega)), e_num (i := 3) 3 (by decide) rfl, eb1, hnum 3 (by decide), e_soft hnum, eb1, nI_m1, ih fu (by omega) (by omega), hiS]
      split <;> rfl
  have k2 : ∀ n k fu, k + n = 300 → n < fu → f_X9_soft_L5 how fu (hiS how k) (nI (k + 1)) = some (hiS how 300) := by
    intro n
    induction n with
    | zero =>
      intro k fu hk f
      obtain ⟨fu, rfl⟩ : ∃ k, fu = k + 1 := ⟨fu - 1, by omega⟩
      have e : k = 300 := by omega
      subst e
      rw [f_X9_soft_L5, if_pos (show (300 : Int32) < nI (300 + 1) by decide)]
    | succ n ih =>
      intro k fu hk f
      obtain ⟨fu, rfl⟩ : ∃ k, fu = k + 1 := ⟨fu - 1, by omega⟩
      rw [f_X9_soft_L5, if_neg (show ¬ (300 : Int32) < nI (k + 1) from nI_nlt (show k + 1 ≤ 300 by omega) (by decide)), gd_ok (by decide), show ((3 : Int32)).toNatClampNeg = 3 from rfl, m_soft hf h3 (by rw [t_n _ (by omega)]; omega), eb1, nI_1]
      have h := ih (k + 1) fu (by omega) (by omega)
      rw [hiS] at h
      by_cases c : SFT how (how 3) (nI (k + 1)) = 0
      · rw [if_pos c]; rw [if_pos c] at h; exact h
      · rw [if_neg c]; rw [if_neg c] at h; exact h
  exact ⟨_, k1 300 FU (by omega) (FU_gt (by decide)), k2 300 0 FU (by omega) (FU_gt (by decide))⟩
theorem s_sugarFor {numbers how : Nat → Int32} (hnum : ag 8 numbers how) (hf : HF how) (x1 : Int32) : ∃ r, f_X8_sugarFor numbers x1 = some r ∧ f_X9_sugarFor how x1 = some r := by
  unfold f_X8_sugarFor f_X9_sugarFor f_X8_isTenths
  by_cases a1 : x1 < 1
  · rw [if_pos a1, m_in0 (Or.inl a1), eb1, eb1, if_pos rfl, if_pos rfl]
    exact ⟨_, rfl, rfl⟩
  by_cases a2 : 300 < x1
  · rw [if_neg a1, if_pos a2, m_in0 (Or.inr a2), eb1, eb1, if_pos rfl, if_pos rfl]
    exact ⟨_, rfl, rfl⟩
  rw [if_neg a1, if_neg a2, m_in1 a1 a2, eb1, eb1, if_neg (show ¬ (1 : Int32) = 0 by decide), if_neg (show ¬ (1 : Int32) = 0 by decide), a03, eb1]
  have g300 : (300 : Int32).toInt = 300 := rfl
  have hT : 1 ≤ x1.toInt ∧ x1.toInt ≤ 300 := by
    rw [t_lt, i1] at a1
    rw [t_lt, g300] at a2
    omega
  have key : ∀ n k fu1 fu2, k + n = 601 → n < fu1 → n < fu2 → ∃ r, f_X8_sugarFor_L18 numbers fu1 x1 (nI k) = some r ∧ f_X9_sugarFor_L16 how fu2 x1 (nI k) = some r := by
    intro n
    induction n with
    | zero =>
      intro k fu1 fu2 hk f1 f2
      obtain ⟨fu1, rfl⟩ : ∃ k, fu1 = k + 1 := ⟨fu1 - 1, by omega⟩
      obtain ⟨fu2, rfl⟩ : ∃ k, fu2 = k + 1 := ⟨fu2 - 1, by omega⟩
      have e : k = 601 := by omega
      subst e
      rw [f_X8_sugarFor_L18, f_X9_sugarFor_L16, a13, eb1, if_pos (show (600 : Int32) < nI 601 by decide), if_pos (show (600 : Int32) < nI 601 by decide)]
      exact ⟨_, rfl, rfl⟩
    | succ n ih =>
      intro k fu1 fu2 hk f1 f2
      obtain ⟨fu1, rfl⟩ : ∃ k, fu1 = k + 1 := ⟨fu1 - 1, by omega⟩
      obtain ⟨fu2, rfl⟩ : ∃ k, fu2 = k + 1 := ⟨fu2 - 1, by omega⟩
      have h600 : ¬ (600 : Int32) < nI k := nI_nlt (show k ≤ 600 by omega) (by decide)
      rw [f_X8_sugarFor_L18, f_X9_sugarFor_L16, a13, eb1, if_neg h600, if_neg h600, e_soft hnum, eb1, m_soft hf (by rw [t_n _ (by omega)]; omega) hT, eb1, nI_1]
      by_cases c : SFT how (nI k) x1 = 0
      · rw [if_pos c, if_pos c]; exact ih (k + 1) fu1 fu2 (by omega) (by omega) (by omega)
      · rw [if_neg c, if_neg c]; exact ⟨_, rfl, rfl⟩
  exact key 601 0 FU FU (by omega) (FU_gt (by decide)) (FU_gt (by decide))
/-! ICE -/
theorem gcd_step {a b n : Nat} (h : b ≤ a) (hb : 0 < b) (hp : a * b < 2 ^ (n + 1)) : a % b < b ∧ b * (a % b) < 2 ^ n ∧ Nat.gcd b (a % b) = Nat.gcd a b := by
  have h1 : a % b < b := Nat.mod_lt a hb
  have e : a / b * b + a % b = a := Nat.div_add_mod' a b
  have q1 : 1 ≤ a / b := (Nat.one_le_div_iff hb).mpr h
  have q2 : 1 * b ≤ a / b * b := Nat.mul_le_mul_right b q1
  have h2 : 2 * (a % b) ≤ a := by omega
  have h3 : b * (2 * (a % b)) ≤ b * a := Nat.mul_le_mul_left b h2
  have h4 : b * (2 * (a % b)) = 2 * (b * (a % b)) := by rw [Nat.mul_left_comm]
  refine ⟨h1, ?_, ?_⟩
  · rw [Nat.mul_comm b a, h4] at h3
    rw [Nat.pow_succ] at hp
    omega
  · rw [Nat.gcd_comm a b, Nat.gcd_rec b a, Nat.gcd_comm]
theorem e_gcd : ∀ (n a b k fu : Nat), b ≤ a → a * b < 2 ^ n → k + n < 64 → n < fu → a < 2 ^ 31 → f_X8_commonDivisor_L9 fu (lI a) (lI b) (nI k) = some (lI (Nat.gcd a b)) := by
  intro n
  induction n with
  | zero =>
    intro a b k fu hab hp hk f ha
    obtain ⟨fu, rfl⟩ : ∃ k, fu = k + 1 := ⟨fu - 1, by omega⟩
    have hb : b = 0 := by
      rcases Nat.eq_zero_or_pos b with e | e
      · exact e
      · have := Nat.mul_pos (show 0 < a by omega) e
        omega
    subst hb
    rw [f_X8_commonDivisor_L9, if_neg (show ¬ (64 : Int32) ≤ nI k from nI_ge (show k < 64 by omega) (by decide)), if_pos (show lg_cmp (lI 0) 0 = 0 from (lg_cmp_eq _ _).mpr rfl), Nat.gcd_zero_right]
  | succ n ih =>
    intro a b k fu hab hp hk f ha
    obtain ⟨fu, rfl⟩ : ∃ k, fu = k + 1 := ⟨fu - 1, by omega⟩
    rw [f_X8_commonDivisor_L9, if_neg (show ¬ (64 : Int32) ≤ nI k from nI_ge (show k < 64 by omega) (by decide))]
    rcases Nat.eq_zero_or_pos b with e | e
    · subst e
      rw [if_pos (show lg_cmp (lI 0) 0 = 0 from (lg_cmp_eq _ _).mpr rfl), Nat.gcd_zero_right]
    · have hne : ¬ lI b = 0 := fun q => by
        rw [l_eq, l_n _ (by omega)] at q
        have : (0 : Int64).toInt = 0 := rfl
        omega
      obtain ⟨g1, g2, g3⟩ := gcd_step hab e hp
      rw [if_neg (fun q => hne ((lg_cmp_eq _ _).mp q)), gd_ok hne, lI_rem (by omega) e (by omega), nI_1, ← g3]
      exact ih b (a % b) (k + 1) fu (by omega) g2 (by omega) (by omega) (by omega)
theorem m_gcd {how : Nat → Int32} (x1 x2 y3 : Int32) : ∀ (n a b fu : Nat), b ≤ a → 0 < a → a * b < 2 ^ n → n < fu → a < 2 ^ 31 → f_X9_iceAt_L63 how fu x1 x2 y3 (nI a) (nI b) = some (if x2 = 0 then (y3 / nI (Nat.gcd a b)).toInt64 else ((x1 * how 2) / nI (Nat.gcd a b)).toInt64) := by
  intro n
  induction n with
  | zero =>
    intro a b fu hab h0 hp f ha
    obtain ⟨fu, rfl⟩ : ∃ k, fu = k + 1 := ⟨fu - 1, by omega⟩
    have hb : b = 0 := by
      rcases Nat.eq_zero_or_pos b with e | e
      · exact e
      · have := Nat.mul_pos (show 0 < a by omega) e
        omega
    subst hb
    rw [f_X9_iceAt_L63, if_pos (show nI 0 = 0 from rfl), gd_ok (nI_ne0 (by omega) (by omega)), gd_ok (by decide), gd_ok (nI_ne0 (by omega) (by omega)), Nat.gcd_zero_right]
    split <;> rfl
  | succ n ih =>
    intro a b fu hab h0 hp f ha
    obtain ⟨fu, rfl⟩ : ∃ k, fu = k + 1 := ⟨fu - 1, by omega⟩
    rcases Nat.eq_zero_or_pos b with e | e
    · subst e
      rw [f_X9_iceAt_L63, if_pos (show nI 0 = 0 from rfl), gd_ok (nI_ne0 (by omega) (by omega)), gd_ok (by decide), gd_ok (nI_ne0 (by omega) (by omega)), Nat.gcd_zero_right]
      split <;> rfl
    · obtain ⟨g1, g2, g3⟩ := gcd_step hab e hp
      have hne : ¬ nI b = 0 := nI_ne0 (by omega) (by omega)
      rw [f_X9_iceAt_L63, if_neg hne, gd_ok hne, pk_rem (by omega) e (by omega), ← g3]
      exact ih b (a % b) fu (by omega) e g2 (by omega) (by omega)
theorem s_iceAt {numbers how : Nat → Int32} (hnum : ag 8 numbers how) (hf : HF how) (x1 x2 : Int32) : ∃ r, f_X8_iceAt numbers x1 x2 = some r ∧ f_X9_iceAt how x1 x2 = some r := by
  unfold f_X8_iceAt f_X9_iceAt f_X8_isTenths
  by_cases a1 : x1 < 1
  · rw [if_pos a1, m_in0 (Or.inl a1), eb1, eb1, if_pos rfl, if_pos rfl]
    exact ⟨_, rfl, rfl⟩
  by_cases a2 : 300 < x1
  · rw [if_neg a1, if_pos a2, m_in0 (Or.inr a2), eb1, eb1, if_pos rfl, if_pos rfl]
    exact ⟨_, rfl, rfl⟩
  rw [if_neg a1, if_neg a2, m_in1 a1 a2, eb1, eb1, if_neg (show ¬ (1 : Int32) = 0 by decide), if_neg (show ¬ (1 : Int32) = 0 by decide)]
  by_cases b1 : x2 < 0
  · rw [if_pos b1, m_in0 (Or.inl b1), eb1, if_pos rfl]
    exact ⟨_, rfl, rfl⟩
  by_cases b2 : 1 < x2
  · rw [if_neg b1, if_neg (show ¬ x2 ≤ 1 by rw [t_le]; rw [t_lt] at b2; omega), m_in0 (Or.inr b2), eb1, if_pos rfl]
    exact ⟨_, rfl, rfl⟩
  rw [if_neg b1, if_pos (show x2 ≤ 1 by rw [t_le]; rw [t_lt] at b2; omega), m_in1 b1 b2, eb1, if_neg (show ¬ (1 : Int32) = 0 by decide), gd_ok (by decide), gd_ok (by decide), gd_ok (by decide), show ((2 : Int32)).toNatClampNeg = 2 from rfl, show ((3 : Int32)).toNatClampNeg = 3 from rfl, e_num (i := 2) 2 (by decide) rfl, eb1, e_num (i := 3) 3 (by decide) rfl, eb1, hnum 2 (by decide), hnum 3 (by decide)]
  have hx2 : x2 = 0 ∨ x2 = 1 := by
    rw [t_lt, i0] at b1
    rw [t_lt, i1] at b2
    rw [t_eq, t_eq, i0, i1]
    omega
  have g300 : (300 : Int32).toInt = 300 := rfl
  obtain ⟨T, hT1, hT2, rfl⟩ : ∃ T, 1 ≤ T ∧ T ≤ 300 ∧ x1 = nI T := by
    rw [t_lt, i1] at a1
    rw [t_lt, g300] at a2
    exact ⟨x1.toInt.toNat, by omega, by omega, t_of (by omega)⟩
  have h2 : 100 ≤ (how 2).toInt ∧ (how 2).toInt ≤ 2000 := hf 2 (by decide)
  have h3 : 0 ≤ (how 3).toInt ∧ (how 3).toInt ≤ 600 := hf 3 (by decide)
  obtain ⟨W, hW1, hW2, eW⟩ : ∃ W, 1 ≤ W ∧ W ≤ 2000 ∧ how 2 = nI W := ⟨(how 2).toInt.toNat, by omega, by omega, t_of (by omega)⟩
  obtain ⟨S, hS2, eS⟩ : ∃ S, S ≤ 600 ∧ how 3 = nI S := ⟨(how 3).toInt.toNat, by omega, t_of (by omega)⟩
  have hw0 : 1 * 1 ≤ T * W := Nat.mul_le_mul hT1 hW1
  have hw1 : T * W ≤ 300 * 2000 := Nat.mul_le_mul hT2 hW2
  rw [eW, eS, lI_32 (by omega), lI_32 (by omega), lI_32 (by omega), lI_mul, show (54 : Int64) = lI 54 from rfl, lI_mul, pk_mul, show (54 : Int32) = nI 54 from rfl, pk_mul]
  obtain ⟨w, hw⟩ : ∃ w, w = T * W := ⟨_, rfl⟩
  obtain ⟨m, hm⟩ : ∃ m, m = 54 * S := ⟨_, rfl⟩
  rw [← hw, ← hm]
  rw [← hw] at hw0 hw1
  have hice : (if (lI w - lI m) < 0 then 0 else (lI w - lI m)) = lI (w - m) := by
    have d1 := l_n w (by omega)
    have d2 := l_n m (by omega)
    have d3 := l_n (w - m) (by omega)
    have d4 : (lI w - lI m).toInt = w - m := by rw [l_sb (by rw [d1, d2]; omega) (by rw [d1, d2]; omega), d1, d2]
    have d0 : (0 : Int64).toInt = 0 := rfl
    by_cases c : (lI w - lI m) < 0
    · rw [if_pos c, l_eq, d3, d0]; rw [l_lt, d4, d0] at c; omega
    · rw [if_neg c, l_eq, d3, d4]; rw [l_lt, d4, d0] at c; omega
  have hpr : w * (w - m) < 2 ^ 40 := Nat.lt_of_le_of_lt (Nat.mul_le_mul hw1 (Nat.le_trans (Nat.sub_le w m) hw1)) (by decide)
  have hg : 0 < Nat.gcd w (w - m) := Nat.gcd_pos_of_pos_left _ (by omega)
  have hg2 : Nat.gcd w (w - m) ≤ w := Nat.gcd_le_left _ (by omega)
  have hgne : ¬ lI (Nat.gcd w (w - m)) = 0 := fun q => by
    rw [l_eq, l_n _ (by omega)] at q
    have : (0 : Int64).toInt = 0 := rfl
    omega
  rw [hice, show f_X8_commonDivisor (lI (w - m)) (lI w) = some (lI (Nat.gcd w (w - m))) from e_gcd 40 w (w - m) 0 FU (Nat.sub_le w m) hpr (by omega) (FU_gt (by decide)) (by omega), eb1, if_neg (fun q => hgne ((lg_cmp_eq _ _).mp q)), gd_ok hgne, gd_ok hgne, lI_div (by omega) hg (by omega), lI_div (by omega) hg (by omega)]
  by_cases c : m < w
  · rw [if_pos (show 0 < nI w - nI m by rw [pk_sub (by omega)]; exact nI_lt (show 0 < w - m by omega) (by omega)), pk_sub (by omega)]
    have hwne : ¬ nI w = 0 := nI_ne0 (by omega) (by omega)
    have hb : (w - m) % w < w := Nat.mod_lt _ (by omega)
    have hpr2 : w * ((w - m) % w) < 2 ^ 40 := Nat.lt_of_le_of_lt (Nat.mul_le_mul hw1 (show (w - m) % w ≤ 300 * 2000 by omega)) (by decide)
    rw [show FU = 1999 + 1 from rfl, f_X9_iceAt_L63, if_neg hwne, gd_ok hwne, pk_rem (by omega) (by omega) (by omega), m_gcd _ _ _ 40 w _ 1999 (by omega) (by omega) hpr2 (by decide) (by omega), Nat.gcd_comm w ((w - m) % w), ← Nat.gcd_rec, eW, pk_mul, ← hw, pk_div (by omega) hg (by omega), pk_div (by omega) hg (by omega), lI_32 (Nat.lt_of_le_of_lt (Nat.div_le_self _ _) (by omega)), lI_32 (Nat.lt_of_le_of_lt (Nat.div_le_self _ _) (by omega))]
    by_cases d : x2 = 0
    · rw [if_pos d, if_pos d]; exact ⟨_, rfl, rfl⟩
    · rw [if_neg d, if_neg d]; exact ⟨_, rfl, rfl⟩
  · have e0 : w - m = 0 := by omega
    rw [if_neg (show ¬ 0 < nI w - nI m by
      rw [t_lt, pk_sub_toInt (by omega) (by omega), i0]
      omega), e0, Nat.gcd_zero_right, Nat.zero_div, Nat.div_self (by omega)]
    rcases hx2 with rfl | rfl
    · rw [if_pos rfl]; exact ⟨_, rfl, rfl⟩
    · rw [if_neg (by decide)]; exact ⟨_, rfl, rfl⟩
