/-! PAD -/
def CR (c : Int32) : Prop := 33 ≤ c.toInt ∧ c.toInt ≤ 126
def PD (cnt : Int32) (codes : Nat → Int32) (sg : Int32) (pad : Nat → Int32) : Prop := ∃ n, n ≤ 40 ∧ cnt = nI n ∧ sg = nI n ∧ ∀ j, j < n → codes j = pad j ∧ CR (pad j)
def dg0 (c : Int32) : Int32 := if c < 48 then 0 else if 57 < c then 0 else 1
def dg1 (c : Int32) : Int32 := if c < 49 then 0 else if 57 < c then 0 else 1
theorem i48 : (48 : Int32).toInt = 48 := rfl
theorem i49 : (49 : Int32).toInt = 49 := rfl
theorem i57 : (57 : Int32).toInt = 57 := rfl
theorem i97 : (97 : Int32).toInt = 97 := rfl
theorem i115 : (115 : Int32).toInt = 115 := rfl
theorem i45 : (45 : Int32).toInt = 45 := rfl
theorem c48 {c : Int32} (h : CR c) : (c - 48).toInt = c.toInt - 48 := by
  have := h.1
  have := h.2
  rw [t_sb (by rw [i48]; omega) (by rw [i48]; omega), i48]
theorem e_dg0 {codes : Nat → Int32} {j : Nat} (hj : j < 40) (h : CR (codes j)) : f_X6_isDigitAt codes (nI j) 0 = some (dg0 (codes j)) := by
  unfold f_X6_isDigitAt dg0
  have i9 : (9 : Int32).toInt = 9 := rfl
  rw [e_digit j hj rfl, eb1, eb1]
  by_cases a : codes j < 48
  · rw [if_pos a, if_pos (show codes j - 48 < 0 by rw [t_lt, c48 h, i0]; rw [t_lt, i48] at a; omega)]
  · rw [if_neg a, if_neg (show ¬ codes j - 48 < 0 by rw [t_lt, c48 h, i0]; rw [t_lt, i48] at a; omega)]
    by_cases b : 57 < codes j
    · rw [if_pos b, if_pos (show 9 < codes j - 48 by rw [t_lt, c48 h, i9]; rw [t_lt, i57] at b; omega)]
    · rw [if_neg b, if_neg (show ¬ 9 < codes j - 48 by rw [t_lt, c48 h, i9]; rw [t_lt, i57] at b; omega)]
theorem e_dg1 {codes : Nat → Int32} {j : Nat} (hj : j < 40) (h : CR (codes j)) : f_X6_isDigitAt codes (nI j) 1 = some (dg1 (codes j)) := by
  unfold f_X6_isDigitAt dg1
  have i9 : (9 : Int32).toInt = 9 := rfl
  rw [e_digit j hj rfl, eb1, eb1]
  by_cases a : codes j < 49
  · rw [if_pos a, if_pos (show codes j - 48 < 1 by rw [t_lt, c48 h, i1]; rw [t_lt, i49] at a; omega)]
  · rw [if_neg a, if_neg (show ¬ codes j - 48 < 1 by rw [t_lt, c48 h, i1]; rw [t_lt, i49] at a; omega)]
    by_cases b : 57 < codes j
    · rw [if_pos b, if_pos (show 9 < codes j - 48 by rw [t_lt, c48 h, i9]; rw [t_lt, i57] at b; omega)]
    · rw [if_neg b, if_neg (show ¬ 9 < codes j - 48 by rw [t_lt, c48 h, i9]; rw [t_lt, i57] at b; omega)]
theorem m_d0 (c : Int32) : f_X9_in c 48 57 = some (dg0 c) := by
  unfold f_X9_in dg0
  split
  · rfl
  · split <;> rfl
theorem m_dg1 (c : Int32) : f_X9_in c 49 57 = some (dg1 c) := by
  unfold f_X9_in dg1
  split
  · rfl
  · split <;> rfl
theorem dg0_v (c : Int32) : dg0 c = 0 ∨ dg0 c = 1 := by
  unfold dg0
  split
  · exact Or.inl rfl
  · split
    · exact Or.inl rfl
    · exact Or.inr rfl
theorem m_dg0 (c : Int32) : f_X9_isDigit c = some (dg0 c) := by
  unfold f_X9_isDigit
  rw [m_d0, eb1]
  rcases dg0_v c with e | e <;> rw [e] <;> exact gd_ok (by decide)
theorem dgv0 {c : Int32} (h : ¬ dg0 c = 0) : ∃ d, d ≤ 9 ∧ c - 48 = nI d := by
  unfold dg0 at h
  by_cases a : c < 48
  · rw [if_pos a] at h; exact absurd rfl h
  by_cases b : 57 < c
  · rw [if_neg a, if_pos b] at h; exact absurd rfl h
  rw [t_lt, i48] at a
  rw [t_lt, i57] at b
  have e : (c - 48).toInt = c.toInt - 48 := c48 ⟨by omega, by omega⟩
  exact ⟨(c - 48).toInt.toNat, by omega, t_of (by omega)⟩
theorem dgv1 {c : Int32} (h : ¬ dg1 c = 0) : ∃ d, d ≤ 9 ∧ c - 48 = nI d := by
  unfold dg1 at h
  by_cases a : c < 49
  · rw [if_pos a] at h; exact absurd rfl h
  by_cases b : 57 < c
  · rw [if_neg a, if_pos b] at h; exact absurd rfl h
  rw [t_lt, i49] at a
  rw [t_lt, i57] at b
  have e : (c - 48).toInt = c.toInt - 48 := c48 ⟨by omega, by omega⟩
  exact ⟨(c - 48).toInt.toNat, by omega, t_of (by omega)⟩
theorem s_say {cnt sg : Int32} {codes pad : Nat → Int32} (h : PD cnt codes sg pad) (x1 : Int32) : ∃ r cnt' codes' sg' pad', f_X8_say cnt codes x1 = some (r, cnt', codes') ∧ f_X9_say sg pad x1 = some (r, sg', pad') ∧ PD cnt' codes' sg' pad' := by
  obtain ⟨n, hn, rfl, rfl, hc⟩ := h
  have i33 : (33 : Int32).toInt = 33 := rfl
  have i126 : (126 : Int32).toInt = 126 := rfl
  unfold f_X8_say f_X9_say
  by_cases a1 : x1 < 33
  · rw [if_pos a1, m_in0 (Or.inl a1), eb1, if_pos rfl]
    exact ⟨_, _, _, _, _, rfl, rfl, n, hn, rfl, rfl, hc⟩
  by_cases a2 : 126 < x1
  · rw [if_neg a1, if_neg (show ¬ x1 ≤ 126 by rw [t_le]; rw [t_lt] at a2; omega), m_in0 (Or.inr a2), eb1, if_pos rfl]
    exact ⟨_, _, _, _, _, rfl, rfl, n, hn, rfl, rfl, hc⟩
  rw [if_neg a1, if_pos (show x1 ≤ 126 by rw [t_le]; rw [t_lt] at a2; omega), m_in1 a1 a2, eb1, if_neg (show ¬ (1 : Int32) = 0 by decide)]
  by_cases b : n = 40
  · subst b
    rw [if_neg (show ¬ nI 40 < 40 by decide), if_pos (show nI 40 = 40 from rfl)]
    exact ⟨_, _, _, _, _, rfl, rfl, 40, by omega, rfl, rfl, hc⟩
  · rw [if_pos (show nI n < 40 from nI_lt (show n < 40 by omega) (by decide)), if_neg (show ¬ nI n = 40 from fun q => by
      have i40 : (40 : Int32).toInt = 40 := rfl
      rw [t_eq, t_n _ (by omega), i40] at q
      omega), gd_ok (n_in (show n < 40 by omega) (by decide)), nI_clamp (by omega)]
    unfold f_X6_add
    rw [e_put n (by omega) (by decide) rfl, eb1, eb2, nI_1]
    refine ⟨_, _, _, _, _, rfl, rfl, n + 1, by omega, rfl, rfl, ?_⟩
    intro j hj
    rw [upd_at, upd_at]
    by_cases e : j = n
    · rw [if_pos e, if_pos e]
      rw [t_lt, i33] at a1
      rw [t_lt, i126] at a2
      exact ⟨rfl, by omega, by omega⟩
    · rw [if_neg e, if_neg e]; exact hc j (by omega)
theorem s_wipe {cnt sg : Int32} {codes pad : Nat → Int32} (h : PD cnt codes sg pad) : ∃ r, f_X8_wipe cnt = some (r, 0) ∧ f_X9_wipe sg = some (r, 0) ∧ PD 0 codes 0 pad := by
  obtain ⟨n, hn, rfl, rfl, hc⟩ := h
  exact ⟨nI n, rfl, rfl, 0, by omega, rfl, rfl, fun j hj => absurd hj (Nat.not_lt_zero j)⟩
theorem boxF {codes pad : Nat → Int32} {n : Nat} (hn : n ≤ 40) (hc : ∀ j, j < n → codes j = pad j ∧ CR (pad j)) : ∃ r, f_X6_faultAsBox (nI n) codes = some r ∧ f_X9_boxFault (nI n) pad = some r ∧ (r = -6 ∨ ¬ r < 0) := by
  have key : ∀ m k fu1 fu2, k + m = n → m < fu1 → m < fu2 → ∃ r, f_X6_faultAsBox_L2 (nI n) codes fu1 (nI k) = some r ∧ f_X9_boxFault_L2 (nI n) pad fu2 (nI k) = some r ∧ (r = -6 ∨ ¬ r < 0) := by
    intro m
    induction m with
    | zero =>
      intro k fu1 fu2 hk f1 f2
      obtain ⟨fu1, rfl⟩ : ∃ k, fu1 = k + 1 := ⟨fu1 - 1, by omega⟩
      obtain ⟨fu2, rfl⟩ : ∃ k, fu2 = k + 1 := ⟨fu2 - 1, by omega⟩
      have e : k = n := by omega
      subst e
      rw [f_X6_faultAsBox_L2, f_X9_boxFault_L2, if_pos (nI_le (Nat.le_refl k) (by omega)), if_pos (nI_le (Nat.le_refl k) (by omega))]
      by_cases c : nI k = 0
      · rw [if_pos c]; exact ⟨_, rfl, rfl, Or.inr (by decide)⟩
      · rw [if_neg c]; exact ⟨_, rfl, rfl, Or.inl rfl⟩
    | succ m ih =>
      intro k fu1 fu2 hk f1 f2
      obtain ⟨fu1, rfl⟩ : ∃ k, fu1 = k + 1 := ⟨fu1 - 1, by omega⟩
      obtain ⟨fu2, rfl⟩ : ∃ k, fu2 = k + 1 := ⟨fu2 - 1, by omega⟩
      have hk2 : k < n := by omega
      obtain ⟨h1, h2⟩ := hc k hk2
      rw [f_X6_faultAsBox_L2, f_X9_boxFault_L2, if_neg (nI_ge hk2 (by omega)), if_neg (nI_ge hk2 (by omega)), e_dg0 (by omega) (by rw [h1]; exact h2), eb1, gd_ok (n_in (show k < 40 by omega) (by decide)), nI_clamp (by omega), m_dg0, eb1, h1, nI_1]
      by_cases c : dg0 (pad k) = 0
      · rw [if_pos c, if_pos c]; exact ⟨_, rfl, rfl, Or.inr (nI_pos (by omega))⟩
      · rw [if_neg c, if_neg c]; exact ih (k + 1) fu1 fu2 (by omega) (by omega) (by omega)
  exact key n 0 FU FU (by omega) (FU_gt (by omega)) (FU_gt (by omega))
/-! PLANFAULT -/
def WH (c : Int32) : Prop := c = 45 ∨ (¬ c < 97 ∧ ¬ 100 < c)
def WF (c : Nat → Int32) (n : Nat) : Nat → Nat → Prop
  | 0, k => k = n
  | f + 1, k => k = n ∨ (k + 2 ≤ n ∧ c k = 115 ∧ ¬ dg0 (c (k + 1)) = 0 ∧ WF c n f (k + 2)) ∨ (k + 3 ≤ n ∧ ¬ c k = 115 ∧ WH (c k) ∧ ¬ dg0 (c (k + 1)) = 0 ∧ ¬ dg1 (c (k + 2)) = 0 ∧ WF c n f (k + 3))
theorem cq0 {codes : Nat → Int32} {n k fu : Nat} (hn : n ≤ 40) (hk : k < n) : f_X6_faultAsPlan_L4 (nI n) codes (fu + 1) 0 (nI k) = some (nI k) ∧ ¬ codes k = 115 ∧ ¬ WH (codes k) ∨ f_X6_faultAsPlan_L4 (nI n) codes (fu + 1) 0 (nI k) = f_X6_faultAsPlan_L4 (nI n) codes fu 3 (nI (k + 1)) ∧ codes k = 115 ∨ f_X6_faultAsPlan_L4 (nI n) codes (fu + 1) 0 (nI k) = f_X6_faultAsPlan_L4 (nI n) codes fu 1 (nI (k + 1)) ∧ ¬ codes k = 115 ∧ WH (codes k) := by
  rw [f_X6_faultAsPlan_L4, if_neg (nI_ge hk (by omega)), nI_1]
  unfold f_X6_dueBehind
  rw [if_pos rfl, e_code k (by omega) rfl, eb1]
  unfold f_X6_dueBehindBegin
  by_cases a : codes k = 115
  · rw [if_pos a, eb1, eb1, if_neg (by decide)]; exact Or.inr (Or.inl ⟨rfl, a⟩)
  rw [if_neg a]
  by_cases b : codes k = 45
  · rw [if_pos b, eb1, eb1, if_neg (by decide)]; exact Or.inr (Or.inr ⟨rfl, a, Or.inl b⟩)
  rw [if_neg b]
  by_cases c : codes k < 97
  · rw [if_pos c, eb1, eb1, if_pos rfl]; exact Or.inl ⟨rfl, a, fun q => q.elim b (fun q => q.1 c)⟩
  rw [if_neg c]
  by_cases d : 100 < codes k
  · rw [if_pos d, eb1, eb1, if_pos rfl]; exact Or.inl ⟨rfl, a, fun q => q.elim b (fun q => q.2 d)⟩
  rw [if_neg d, eb1, eb1, if_neg (by decide)]; exact Or.inr (Or.inr ⟨rfl, a, Or.inr ⟨c, d⟩⟩)
theorem cq1 {codes : Nat → Int32} {n k fu : Nat} (hn : n ≤ 40) (hk : k < n) (h : CR (codes k)) : f_X6_faultAsPlan_L4 (nI n) codes (fu + 1) 1 (nI k) = if dg0 (codes k) = 0 then some (nI k) else f_X6_faultAsPlan_L4 (nI n) codes fu 2 (nI (k + 1)) := by
  rw [f_X6_faultAsPlan_L4, if_neg (nI_ge hk (by omega)), nI_1]
  unfold f_X6_dueBehind
  rw [if_neg (by decide), if_pos rfl, e_dg0 (by omega) h, eb1]
  by_cases c : dg0 (codes k) = 0
  · rw [if_pos c, if_pos c, eb1, if_pos rfl]
  · rw [if_neg c, if_neg c, eb1, if_neg (by decide)]
theorem cq2 {codes : Nat → Int32} {n k fu : Nat} (hn : n ≤ 40) (hk : k < n) (h : CR (codes k)) : f_X6_faultAsPlan_L4 (nI n) codes (fu + 1) 2 (nI k) = if dg1 (codes k) = 0 then some (nI k) else f_X6_faultAsPlan_L4 (nI n) codes fu 0 (nI (k + 1)) := by
  rw [f_X6_faultAsPlan_L4, if_neg (nI_ge hk (by omega)), nI_1]
  unfold f_X6_dueBehind
  rw [if_neg (by decide), if_neg (by decide), if_pos rfl, e_dg1 (by omega) h, eb1]
  by_cases c : dg1 (codes k) = 0
  · rw [if_pos c, if_pos c, eb1, if_pos rfl]
  · rw [if_neg c, if_neg c, eb1, if_neg (by decide)]
theorem cq3 {codes : Nat → Int32} {n k fu : Nat} (hn : n ≤ 40) (hk : k < n) (h : CR (codes k)) : f_X6_faultAsPlan_L4 (nI n) codes (fu + 1) 3 (nI k) = if dg0 (codes k) = 0 then some (nI k) else f_X6_faultAsPlan_L4 (nI n) codes fu 0 (nI (k + 1)) := by
  rw [f_X6_faultAsPlan_L4, if_neg (nI_ge hk (by omega)), nI_1]
  unfold f_X6_dueBehind
  rw [if_neg (by decide), if_neg (by decide), if_neg (by decide), e_dg0 (by omega) h, eb1]
  by_cases c : dg0 (codes k) = 0
  · rw [if_pos c, if_pos c, eb1, if_pos rfl]
  · rw [if_neg c, if_neg c, eb1, if_neg (by decide)]
theorem who0 {c : Int32} (h : ¬ WH c) : f_X9_isWho c = some 0 := by
  unfold f_X9_isWho
  have h1 : ¬ c = 45 := fun q => h (Or.inl q)
  by_cases a : c < 97
  · rw [m_in0 (Or.inl a), eb1, if_pos rfl, if_neg h1]
  by_cases b : 100 < c
  · rw [m_in0 (Or.inr b), eb1, if_pos rfl, if_neg h1]
  exact absurd (Or.inr ⟨a, b⟩) h
theorem who1 {c : Int32} (h : WH c) : f_X9_isWho c = some 1 := by
  unfold f_X9_isWho
  rcases h with e | ⟨a, b⟩
  · rw [e, m_in0 (Or.inl (by decide)), eb1, if_pos rfl, if_pos rfl]
  · rw [m_in1 a b, eb1, if_neg (by decide)]
theorem not115 {c : Int32} (h : c = 115) : ¬ WH c := by
  rw [h]
  unfold WH
  decide
theorem mq0n {pad : Nat → Int32} {n k fu : Nat} (hn : n ≤ 40) (hk : k < n) (a : ¬ pad k = 115) (b : ¬ WH (pad k)) : f_X9_planFault_L4 (nI n) pad (fu + 1) 0 (nI k) = some (nI k) := by
  rw [f_X9_planFault_L4, if_neg (nI_ge hk (by omega)), nI_1, gd_ok (n_in (show k < 40 by omega) (by decide)), nI_clamp (by omega), if_pos rfl, who0 b, eb1, if_pos rfl]
  unfold f_X9_planFault_L35 f_X9_planFault_L50 f_X9_planFault_L67 f_X9_planFault_L83
  rw [if_pos rfl, if_neg a, if_neg (by decide), if_neg (by decide), if_neg (by decide)]
theorem mq0s {pad : Nat → Int32} {n k fu : Nat} (hn : n ≤ 40) (hk : k < n) (a : pad k = 115) : f_X9_planFault_L4 (nI n) pad (fu + 1) 0 (nI k) = f_X9_planFault_L4 (nI n) pad fu 3 (nI (k + 1)) := by
  rw [f_X9_planFault_L4, if_neg (nI_ge hk (by omega)), nI_1, gd_ok (n_in (show k < 40 by omega) (by decide)), nI_clamp (by omega), if_pos rfl, who0 (not115 a), eb1, if_pos rfl]
  unfold f_X9_planFault_L35
  rw [if_pos rfl, if_pos a, nI_1]
theorem mq0w {pad : Nat → Int32} {n k fu : Nat} (hn : n ≤ 40) (hk : k < n) (b : WH (pad k)) : f_X9_planFault_L4 (nI n) pad (fu + 1) 0 (nI k) = f_X9_planFault_L4 (nI n) pad fu 1 (nI (k + 1)) := by
  rw [f_X9_planFault_L4, if_neg (nI_ge hk (by omega)), nI_1, gd_ok (n_in (show k < 40 by omega) (by decide)), nI_clamp (by omega), if_pos rfl, who1 b, eb1, if_neg (by decide)]
theorem mq1 {pad : Nat → Int32} {n k fu : Nat} (hn : n ≤ 40) (hk : k < n) : f_X9_planFault_L4 (nI n) pad (fu + 1) 1 (nI k) = if dg0 (pad k) = 0 then some (nI k) else f_X9_planFault_L4 (nI n) pad fu 2 (nI (k + 1)) := by
  rw [f_X9_planFault_L4, if_neg (nI_ge hk (by omega)), nI_1, gd_ok (n_in (show k < 40 by omega) (by decide)), nI_clamp (by omega), if_neg (by decide)]
  unfold f_X9_planFault_L35 f_X9_planFault_L50 f_X9_planFault_L67 f_X9_planFault_L83
  rw [if_neg (by decide), if_pos rfl, m_dg0, eb1, if_neg (show ¬ (1 : Int32) = 2 by decide), if_neg (show ¬ (1 : Int32) = 3 by decide), nI_1]
theorem mq2 {pad : Nat → Int32} {n k fu : Nat} (hn : n ≤ 40) (hk : k < n) : f_X9_planFault_L4 (nI n) pad (fu + 1) 2 (nI k) = if dg1 (pad k) = 0 then some (nI k) else f_X9_planFault_L4 (nI n) pad fu 0 (nI (k + 1)) := by
  rw [f_X9_planFault_L4, if_neg (nI_ge hk (by omega)), nI_1, gd_ok (n_in (show k < 40 by omega) (by decide)), nI_clamp (by omega), if_neg (by decide)]
  unfold f_X9_planFault_L35 f_X9_planFault_L50 f_X9_planFault_L67 f_X9_planFault_L83
  rw [if_neg (by decide), if_neg (by decide), if_pos rfl, m_dg1, eb1, if_neg (show ¬ (2 : Int32) = 3 by decide), nI_1]
theorem mq3 {pad : Nat → Int32} {n k fu : Nat} (hn : n ≤ 40) (hk : k < n) : f_X9_planFault_L4 (nI n) pad (fu + 1) 3 (nI k) = if dg0 (pad k) = 0 then some (nI k) else f_X9_planFault_L4 (nI n) pad fu 0 (nI (k + 1)) := by
  rw [f_X9_planFault_L4, if_neg (nI_ge hk (by omega)), nI_1, gd_ok (n_in (show k < 40 by omega) (by decide)), nI_clamp (by omega), if_neg (by decide)]
  unfold f_X9_planFault_L35 f_X9_planFault_L50 f_X9_planFault_L67 f_X9_planFault_L83
  rw [if_neg (by decide), if_neg (by decide), if_neg (by decide), if_pos rfl, m_dg0, eb1, nI_1]
def St (c : Nat → Int32) (n k : Nat) (y : Nat) : Prop := match y with
  | 0 => ∃ f, WF c n f k
  | 1 => k + 2 ≤ n ∧ ¬ dg0 (c k) = 0 ∧ ¬ dg1 (c (k + 1)) = 0 ∧ ∃ f, WF c n f (k + 2)
  | 2 => k + 1 ≤ n ∧ ¬ dg1 (c k) = 0 ∧ ∃ f, WF c n f (k + 1)
  | _ => k + 1 ≤ n ∧ ¬ dg0 (c k) = 0 ∧ ∃ f, WF c n f (k + 1)
theorem planF {codes pad : Nat → Int32} {n : Nat} (hn : n ≤ 40) (hc : ∀ j, j < n → codes j = pad j ∧ CR (pad j)) : ∀ m k fu1 fu2, k + m = n → m < fu1 → m < fu2 → ∀ y, y < 4 → ∃ r, f_X6_faultAsPlan_L4 (nI n) codes fu1 (nI y) (nI k) = some r ∧ f_X9_planFault_L4 (nI n) pad fu2 (nI y) (nI k) = some r ∧ (r = -6 ∨ ¬ r < 0) ∧ (r = -6 → St pad n k y) := by
  have m6 : ∀ k, k < 41 → ¬ nI k = -6 := fun k hk q => nI_pos (show k < 2 ^ 31 by omega) (by rw [q]; decide)
  intro m
  induction m with
  | zero =>
    intro k fu1 fu2 hk f1 f2 y hy
    obtain ⟨fu1, rfl⟩ : ∃ k, fu1 = k + 1 := ⟨fu1 - 1, by omega⟩
    obtain ⟨fu2, rfl⟩ : ∃ k, fu2 = k + 1 := ⟨fu2 - 1, by omega⟩
    have e : k = n := by omega
    subst e
    rw [f_X6_faultAsPlan_L4, f_X9_planFault_L4, if_pos (nI_le (Nat.le_refl k) (by omega)), if_pos (nI_le (Nat.le_refl k) (by omega))]
    by_cases c : nI y = 0
    · rw [if_pos c]
      refine ⟨_, rfl, rfl, Or.inl rfl, fun _ => ?_⟩
      have : y = 0 := by
        rw [t_eq, t_n _ (by omega), i0] at c
        omega
      subst this
      exact ⟨0, rfl⟩
    · rw [if_neg c]
      exact ⟨_, rfl, rfl, Or.inr (nI_pos (by omega)), fun q => absurd q (m6 k (by omega))⟩
  | succ m ih =>
    intro k fu1 fu2 hk f1 f2 y hy
    obtain ⟨fu1, rfl⟩ : ∃ k, fu1 = k + 1 := ⟨fu1 - 1, by omega⟩
    obtain ⟨fu2, rfl⟩ : ∃ k, fu2 = k + 1 := ⟨fu2 - 1, by omega⟩
    have hk2 : k < n := by omega
    obtain ⟨h1, h2⟩ := hc k hk2
    have h3 : CR (codes k) := by rw [h1]; exact h2
    match y, hy with
    | 0, _ =>
      rcases cq0 (codes := codes) (fu := fu1) hn hk2 with ⟨e, a, b⟩ | ⟨e, a⟩ | ⟨e, a, b⟩
      · rw [h1] at a b
        rw [show nI 0 = (0 : Int32) from rfl, e, mq0n hn hk2 a b]
        exact ⟨_, rfl, rfl, Or.inr (nI_pos (by omega)), fun q => absurd q (m6 k (by omega))⟩
      · rw [h1] at a
        rw [show nI 0 = (0 : Int32) from rfl, e, mq0s hn hk2 a]
        obtain ⟨r, r1, r2, r3, r4⟩ := ih (k + 1) fu1 fu2 (by omega) (by omega) (by omega) 3 (by omega)
        refine ⟨r, r1, r2, r3, fun q => ?_⟩
        obtain ⟨s1, s2, f, s3⟩ := r4 q
        exact ⟨f + 1, Or.inr (Or.inl ⟨by omega, a, s2, s3⟩)⟩
      · rw [h1] at a b
        rw [show nI 0 = (0 : Int32) from rfl, e, mq0w hn hk2 b]
        obtain ⟨r, r1, r2, r3, r4⟩ := ih (k + 1) fu1 fu2 (by omega) (by omega) (by omega) 1 (by omega)
        refine ⟨r, r1, r2, r3, fun q => ?_⟩
        obtain ⟨s1, s2, s3, f, s4⟩ := r4 q
        exact ⟨f + 1, Or.inr (Or.inr ⟨by omega, a, b, s2, s3, s4⟩)⟩
    | 1, _ =>
      rw [show nI 1 = (1 : Int32) from rfl, cq1 hn hk2 h3, mq1 hn hk2, h1]
      by_cases c : dg0 (pad k) = 0
      · rw [if_pos c, if_pos c]; exact ⟨_, rfl, rfl, Or.inr (nI_pos (by omega)), fun q => absurd q (m6 k (by omega))⟩
      · rw [if_neg c, if_neg c]
        obtain ⟨r, r1, r2, r3, r4⟩ := ih (k + 1) fu1 fu2 (by omega) (by omega) (by omega) 2 (by omega)
        refine ⟨r, r1, r2, r3, fun q => ?_⟩
        obtain ⟨s1, s2, f, s4⟩ := r4 q
        exact ⟨by omega, c, s2, f, s4⟩
    | 2, _ =>
      rw [show nI 2 = (2 : Int32) from rfl, cq2 hn hk2 h3, mq2 hn hk2, h1]
      by_cases c : dg1 (pad k) = 0
      · rw [if_pos c, if_pos c]; exact ⟨_, rfl, rfl, Or.inr (nI_pos (by omega)), fun q => absurd q (m6 k (by omega))⟩
      · rw [if_neg c, if_neg c]
        obtain ⟨r, r1, r2, r3, r4⟩ := ih (k + 1) fu1 fu2 (by omega) (by omega) (by omega) 0 (by omega)
        exact ⟨r, r1, r2, r3, fun q => ⟨by omega, c, r4 q⟩⟩
    | 3, _ =>
      rw [show nI 3 = (3 : Int32) from rfl, cq3 hn hk2 h3, mq3 hn hk2, h1]
      by_cases c : dg0 (pad k) = 0
      · rw [if_pos c, if_pos c]; exact ⟨_, rfl, rfl, Or.inr (nI_pos (by omega)), fun q => absurd q (m6 k (by omega))⟩
      · rw [if_neg c, if_neg c]
        obtain ⟨r, r1, r2, r3, r4⟩ := ih (k + 1) fu1 fu2 (by omega) (by omega) (by omega) 0 (by omega)
        exact ⟨r, r1, r2, r3, fun q => ⟨by omega, c, r4 q⟩⟩
theorem planF0 {codes pad : Nat → Int32} {n : Nat} (hn : n ≤ 40) (hc : ∀ j, j < n → codes j = pad j ∧ CR (pad j)) : ∃ r, f_X6_faultAsPlan (nI n) codes = some r ∧ f_X9_planFault (nI n) pad = some r ∧ (r = -6 ∨ ¬ r < 0) ∧ (r = -6 → ∃ f, WF pad n f 0) := planF hn hc n 0 FU FU (by omega) (FU_gt (by omega)) (FU_gt (by omega)) 0 (by omega)
theorem s_fault {cnt sg : Int32} {codes pad : Nat → Int32} (h : PD cnt codes sg pad) (x1 : Int32) : ∃ r, f_X8_fault cnt codes x1 = some r ∧ f_X9_fault sg pad x1 = some r := by
  obtain ⟨n, hn, rfl, rfl, hc⟩ := h
  unfold f_X8_fault f_X9_fault
  by_cases a : x1 = 0
  · obtain ⟨r, r1, r2, -⟩ := planF0 hn hc
    rw [if_pos a, if_pos a, r1, r2]; exact ⟨_, rfl, rfl⟩
  rw [if_neg a, if_neg a]
  by_cases b : x1 = 1
  · obtain ⟨r, r1, r2, -⟩ := boxF hn hc
    rw [if_pos b, if_pos b, r1, r2]; exact ⟨_, rfl, rfl⟩
  rw [if_neg b, if_neg b]; exact ⟨_, rfl, rfl⟩
