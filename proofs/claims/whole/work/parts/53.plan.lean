/-! PLAN, BOX, SET, STRONG, TOLD -/
theorem mS_up (le : Nat → Int32) (P : Nat) (v : Int32) : ∀ n, n ≤ P → mS (upd le P v) n = mS le n := by
  intro n
  induction n with
  | zero => intro _; rfl
  | succ n ih =>
    intro hn
    show mS (upd le P v) n + (upd le P v n).toNatClampNeg = mS le n + (le n).toNatClampNeg
    rw [ih (by omega), upd_at, if_neg (by omega)]
theorem PL_up {P : Nat} {who am le plan : Nat → Int32} (h : PL P who am le plan) (hP : P < 20) {w a l : Int32} (hv : PV w a l) : PL (P + 1) (upd who P w) (upd am P a) (upd le P l) (upd (upd (upd plan (3 * P) w) (3 * P + 1) a) (3 * P + 2) l) := by
  refine ⟨by omega, fun p hp => ?_⟩
  rw [upd_at, upd_at, upd_at, upd_at, upd_at, upd_at, upd_at, upd_at, upd_at, upd_at, upd_at, upd_at]
  by_cases e : p = P
  · subst e
    rw [if_pos rfl, if_pos rfl, if_pos rfl, if_neg (show ¬ 3 * p = 3 * p + 2 by omega), if_neg (show ¬ 3 * p = 3 * p + 1 by omega), if_pos rfl, if_neg (show ¬ 3 * p + 1 = 3 * p + 2 by omega), if_pos rfl, if_pos rfl]
    exact ⟨rfl, rfl, rfl, hv⟩
  · rw [if_neg e, if_neg e, if_neg e, if_neg (show ¬ 3 * p = 3 * P + 2 by omega), if_neg (show ¬ 3 * p = 3 * P + 1 by omega), if_neg (show ¬ 3 * p = 3 * P by omega), if_neg (show ¬ 3 * p + 1 = 3 * P + 2 by omega), if_neg (show ¬ 3 * p + 1 = 3 * P + 1 by omega), if_neg (show ¬ 3 * p + 1 = 3 * P by omega), if_neg (show ¬ 3 * p + 2 = 3 * P + 2 by omega), if_neg (show ¬ 3 * p + 2 = 3 * P + 1 by omega), if_neg (show ¬ 3 * p + 2 = 3 * P by omega)]
    exact h.2 p (by omega)
set_option maxHeartbeats 2000000 in
theorem planL {codes pad : Nat → Int32} {n : Nat} (hn : n ≤ 40) (hc : ∀ j, j < n → codes j = pad j ∧ CR (pad j)) : ∀ f k P fu1 fu2 (who am le plan : Nat → Int32) w, WF pad n f k → k ≤ n → n - k < fu1 → n - k < fu2 → 2 * P ≤ k → PL P who am le plan → mS le P ≤ 9 * w → 3 * w ≤ k →
    ∃ N who' am' le' plan', f_X7_read_L12 (nI n) codes fu1 (nI k) (nI P) (nI (mS le P)) who am le = some (nI N, nI (mS le' N), who', am', le') ∧ f_X9_plan_L17 pad fu2 (nI k) (nI n) (nI P) plan = some (nI (mS le' N), 0, nI N, plan') ∧ PL N who' am' le' plan' ∧ mS le' N ≤ 117 := by
  have fin : ∀ P fu1 fu2 (who am le plan : Nat → Int32) w, 0 < fu1 → 0 < fu2 → PL P who am le plan → mS le P ≤ 9 * w → 3 * w ≤ n → ∃ N who' am' le' plan', f_X7_read_L12 (nI n) codes fu1 (nI n) (nI P) (nI (mS le P)) who am le = some (nI N, nI (mS le' N), who', am', le') ∧ f_X9_plan_L17 pad fu2 (nI n) (nI n) (nI P) plan = some (nI (mS le' N), 0, nI N, plan') ∧ PL N who' am' le' plan' ∧ mS le' N ≤ 117 := by
    intro P fu1 fu2 who am le plan w f1 f2 hPL hmw hw
    obtain ⟨fu1, rfl⟩ : ∃ k, fu1 = k + 1 := ⟨fu1 - 1, by omega⟩
    obtain ⟨fu2, rfl⟩ : ∃ k, fu2 = k + 1 := ⟨fu2 - 1, by omega⟩
    rw [f_X7_read_L12, f_X9_plan_L17, if_pos (nI_le (Nat.le_refl n) (by omega)), if_pos (nI_le (Nat.le_refl n) (by omega)), m_mins hPL, eb1]
    exact ⟨P, who, am, le, plan, rfl, rfl, hPL, by omega⟩
  intro f
  induction f with
  | zero =>
    intro k P fu1 fu2 who am le plan w hW hk f1 f2 hP hPL hmw hw
    have e : k = n := hW
    subst e
    exact fin P fu1 fu2 who am le plan w (by omega) (by omega) hPL hmw hw
  | succ f ih =>
    intro k P fu1 fu2 who am le plan w hW hk f1 f2 hP hPL hmw hw
    rcases hW with e | ⟨w0, w1, w2, w4⟩ | ⟨w0, w1, wh, w2, w3, w4⟩
    · subst e
      exact fin P fu1 fu2 who am le plan w (by omega) (by omega) hPL hmw hw
    · obtain ⟨fu1, rfl⟩ : ∃ k, fu1 = k + 1 := ⟨fu1 - 1, by omega⟩
      obtain ⟨fu2, rfl⟩ : ∃ k, fu2 = k + 1 := ⟨fu2 - 1, by omega⟩
      have hkn : k < n := by omega
      obtain ⟨d, hd, ed⟩ := dgv0 w2
      rw [f_X7_read_L12, f_X9_plan_L17, if_neg (nI_ge hkn (by omega)), if_neg (nI_ge hkn (by omega)), e_code k (by omega) rfl, eb1, (hc k hkn).1, gd_ok (n_in (show k < 40 by omega) (by decide)), nI_clamp (show k < 2 ^ 31 by omega), if_pos w1, if_pos w1, nI_1, show nI k + 2 = nI (k + 2) from nI_add k 2, e_digit (k + 1) (by omega) rfl, eb1, (hc (k + 1) (by omega)).1, ed]
      unfold f_X7_addPart f_X9_plan_L41 f_X9_plan_L84 f_X9_plan_L140 f_X9_plan_L151
      rw [e_put P (by omega) (by decide) rfl, eb1, e_put P (by omega) (by decide) rfl, eb1, e_put P (by omega) (by decide) rfl, eb1, eb5, nI_1, Int32.add_zero, if_neg (show ¬ (1 : Int32) = 0 by decide), if_neg (show ¬ (1 : Int32) = 0 by decide), if_neg (show ¬ (1 : Int32) = 0 by decide), x31, x32, x3, nI_1, gd_ok (n_in (show 3 * P < 60 by omega) (by decide)), gd_ok (n_in (show k + 1 < 40 by omega) (by decide)), gd_ok (n_in (show 3 * P + 1 < 60 by omega) (by decide)), gd_ok (n_in (show 3 * P + 2 < 60 by omega) (by decide)), nI_clamp (show 3 * P < 2 ^ 31 by omega), nI_clamp (show 3 * P + 1 < 2 ^ 31 by omega), nI_clamp (show 3 * P + 2 < 2 ^ 31 by omega), nI_clamp (show k + 1 < 2 ^ 31 by omega), ed, show nI k + 2 = nI (k + 2) from nI_add k 2]
      have hPL' := PL_up hPL (show P < 20 by omega) (w := 5) (a := nI d) (l := 0) ⟨d, 0, rfl, hd, rfl, by omega, Or.inl ⟨rfl, rfl⟩⟩
      have hm' : mS (upd le P 0) (P + 1) = mS le P := by show mS (upd le P 0) P + (upd le P 0 P).toNatClampNeg = _; rw [mS_up _ _ _ P (Nat.le_refl P), upd_at, if_pos rfl]; rfl
      have h := ih (k + 2) (P + 1) fu1 fu2 (upd who P 5) (upd am P (nI d)) (upd le P 0) _ w w4 (by omega) (by omega) (by omega) (by omega) hPL' (by rw [hm']; exact hmw) (by omega)
      rw [hm'] at h
      exact h
    · obtain ⟨fu1, rfl⟩ : ∃ k, fu1 = k + 1 := ⟨fu1 - 1, by omega⟩
      obtain ⟨fu2, rfl⟩ : ∃ k, fu2 = k + 1 := ⟨fu2 - 1, by omega⟩
      have hkn : k < n := by omega
      obtain ⟨d, hd, ed⟩ := dgv0 w2
      obtain ⟨l, hl, el⟩ := dgv1 w3
      by_cases c45 : pad k = 45
      · skip
        rw [f_X7_read_L12, f_X9_plan_L17, if_neg (nI_ge hkn (by omega)), if_neg (nI_ge hkn (by omega)), e_code k (by omega) rfl, eb1, (hc k hkn).1, gd_ok (n_in (show k < 40 by omega) (by decide)), nI_clamp (show k < 2 ^ 31 by omega), if_neg w1, if_neg w1]
        unfold f_X7_read_L66 f_X7_addPart f_X9_plan_L41 f_X9_plan_L84 f_X9_plan_L140 f_X9_plan_L151
        rw [if_pos (show (0 : Int32) = 0 from rfl), gd_ok (n_in (show k < 40 by omega) (by decide)), nI_clamp (show k < 2 ^ 31 by omega), if_pos c45, if_pos c45, if_pos (show (0 : Int32) = 0 from rfl), if_pos (show (0 : Int32) = 0 from rfl), nI_1, show nI k + 2 = nI (k + 2) from nI_add k 2, show nI k + 3 = nI (k + 3) from nI_add k 3, e_digit (k + 1) (by omega) rfl, eb1, (hc (k + 1) (by omega)).1, ed, e_digit (k + 2) (by omega) rfl, eb1, (hc (k + 2) (by omega)).1, el, e_put P (by omega) (by decide) rfl, eb1, e_put P (by omega) (by decide) rfl, eb1, e_put P (by omega) (by decide) rfl, eb1, eb5, nI_1, nI_add, x31, x32, x3, gd_ok (n_in (show 3 * P < 60 by omega) (by decide)), gd_ok (n_in (show k + 1 < 40 by omega) (by decide)), gd_ok (n_in (show 3 * P + 1 < 60 by omega) (by decide)), gd_ok (n_in (show k + 2 < 40 by omega) (by decide)), gd_ok (n_in (show 3 * P + 2 < 60 by omega) (by decide)), nI_clamp (show 3 * P < 2 ^ 31 by omega), nI_clamp (show 3 * P + 1 < 2 ^ 31 by omega), nI_clamp (show 3 * P + 2 < 2 ^ 31 by omega), nI_clamp (show k + 1 < 2 ^ 31 by omega), nI_clamp (show k + 2 < 2 ^ 31 by omega), ed, el]
        have hPL' := PL_up hPL (show P < 20 by omega) (w := 4) (a := nI d) (l := nI l) ⟨d, l, rfl, hd, rfl, hl, Or.inr (Or.inl rfl)⟩
        have hm' : mS (upd le P (nI l)) (P + 1) = mS le P + l := by show mS (upd le P (nI l)) P + (upd le P (nI l) P).toNatClampNeg = _; rw [mS_up _ _ _ P (Nat.le_refl P), upd_at, if_pos rfl, nI_clamp (by omega)]
        have h := ih (k + 3) (P + 1) fu1 fu2 (upd who P (4)) (upd am P (nI d)) (upd le P (nI l)) _ (w + 1) w4 (by omega) (by omega) (by omega) (by omega) hPL' (by rw [hm']; omega) (by omega)
        rw [hm'] at h
        exact h
      · obtain ⟨j, hj, ej⟩ : ∃ j, j < 4 ∧ pad k - 97 = nI j := by
          rcases wh with q | ⟨a, b⟩
          · exact absurd q c45
          · rw [t_lt, i97] at a
            rw [t_lt, i100] at b
            have e : (pad k - 97).toInt = (pad k).toInt - 97 := by rw [t_sb (by rw [i97]; omega) (by rw [i97]; omega), i97]
            exact ⟨(pad k - 97).toInt.toNat, by omega, t_of (by omega)⟩
        rw [f_X7_read_L12, f_X9_plan_L17, if_neg (nI_ge hkn (by omega)), if_neg (nI_ge hkn (by omega)), e_code k (by omega) rfl, eb1, (hc k hkn).1, gd_ok (n_in (show k < 40 by omega) (by decide)), nI_clamp (show k < 2 ^ 31 by omega), if_neg w1, if_neg w1]
        unfold f_X7_read_L66 f_X7_addPart f_X9_plan_L41 f_X9_plan_L84 f_X9_plan_L140 f_X9_plan_L151
        rw [if_pos (show (0 : Int32) = 0 from rfl), gd_ok (n_in (show k < 40 by omega) (by decide)), nI_clamp (show k < 2 ^ 31 by omega), if_neg c45, if_neg c45, gd_ok (show ¬ (nI k < 0 ∨ 40 ≤ k) from fun q => q.elim (nI_pos (by omega)) (by omega)), ej, if_pos (show (0 : Int32) = 0 from rfl), if_pos (show (0 : Int32) = 0 from rfl), nI_1, show nI k + 2 = nI (k + 2) from nI_add k 2, show nI k + 3 = nI (k + 3) from nI_add k 3, e_digit (k + 1) (by omega) rfl, eb1, (hc (k + 1) (by omega)).1, ed, e_digit (k + 2) (by omega) rfl, eb1, (hc (k + 2) (by omega)).1, el, e_put P (by omega) (by decide) rfl, eb1, e_put P (by omega) (by decide) rfl, eb1, e_put P (by omega) (by decide) rfl, eb1, eb5, nI_1, nI_add, x31, x32, x3, gd_ok (n_in (show 3 * P < 60 by omega) (by decide)), gd_ok (n_in (show k + 1 < 40 by omega) (by decide)), gd_ok (n_in (show 3 * P + 1 < 60 by omega) (by decide)), gd_ok (n_in (show k + 2 < 40 by omega) (by decide)), gd_ok (n_in (show 3 * P + 2 < 60 by omega) (by decide)), nI_clamp (show 3 * P < 2 ^ 31 by omega), nI_clamp (show 3 * P + 1 < 2 ^ 31 by omega), nI_clamp (show 3 * P + 2 < 2 ^ 31 by omega), nI_clamp (show k + 1 < 2 ^ 31 by omega), nI_clamp (show k + 2 < 2 ^ 31 by omega), ed, el]
        have hPL' := PL_up hPL (show P < 20 by omega) (w := nI j) (a := nI d) (l := nI l) ⟨d, l, rfl, hd, rfl, hl, Or.inr (Or.inr ⟨j, hj, rfl⟩)⟩
        have hm' : mS (upd le P (nI l)) (P + 1) = mS le P + l := by show mS (upd le P (nI l)) P + (upd le P (nI l) P).toNatClampNeg = _; rw [mS_up _ _ _ P (Nat.le_refl P), upd_at, if_pos rfl, nI_clamp (by omega)]
        have h := ih (k + 3) (P + 1) fu1 fu2 (upd who P (nI j)) (upd am P (nI d)) (upd le P (nI l)) _ (w + 1) w4 (by omega) (by omega) (by omega) (by omega) hPL' (by rw [hm']; omega) (by omega)
        rw [hm'] at h
        exact h
def PLp (parts mins : Int32) (who am le : Nat → Int32) (mparts : Int32) (plan : Nat → Int32) : Prop := ∃ N, parts = nI N ∧ mparts = nI N ∧ PL N who am le plan ∧ mS le N ≤ 117 ∧ mins = nI (mS le N)
theorem s_plan {cnt sg parts mins mparts : Int32} {codes pad who am le plan : Nat → Int32} (h : PD cnt codes sg pad) (hp : PLp parts mins who am le mparts plan) : ∃ r cnt' parts' mins' who' am' le' sg' mparts' plan', f_X8_plan cnt codes parts mins who am le = some (r, cnt', parts', mins', who', am', le') ∧ f_X9_plan sg mparts pad plan = some (r, sg', mparts', plan') ∧ PD cnt' codes sg' pad ∧ PLp parts' mins' who' am' le' mparts' plan' := by
  obtain ⟨n, hn, rfl, rfl, hc⟩ := h
  obtain ⟨r, r1, r2, r3, r4⟩ := planF0 hn hc
  unfold f_X8_plan f_X9_plan
  rw [r1, r2, eb1, eb1]
  rcases r3 with e | e
  · obtain ⟨f, hW⟩ := r4 e
    obtain ⟨N, who', am', le', plan', q1, q2, q3, q4⟩ := planL hn hc f 0 0 FU FU who am le plan 0 hW (by omega) (FU_gt (by omega)) (FU_gt (by omega)) (by omega) ⟨by omega, fun p hp => absurd hp (Nat.not_lt_zero p)⟩ (Nat.le_refl 0) (by omega)
    have q1' : f_X7_read parts mins who am le (nI n) codes = some (nI N, nI (mS le' N), who', am', le') := q1
    have q2' : f_X9_plan_L17 pad FU 0 (nI n) 0 plan = some (nI (mS le' N), 0, nI N, plan') := q2
    rw [if_pos e, if_pos (show r < 0 by rw [e]; decide), q1', q2', eb5]
    exact ⟨_, _, _, _, _, _, _, _, _, _, rfl, rfl, ⟨0, by omega, rfl, rfl, fun j hj => absurd hj (Nat.not_lt_zero j)⟩, N, rfl, rfl, q3, q4, rfl⟩
  · rw [if_neg (show ¬ r = -6 from fun q => e (by rw [q]; decide)), if_neg e]
    exact ⟨_, _, _, _, _, _, _, _, _, _, rfl, rfl, ⟨n, hn, rfl, rfl, hc⟩, hp⟩
theorem e_copy {m : Nat} (hm : m ≤ 100) (b0 b1 : Nat → Int32) : ∃ b, f_X8_copyRow m m b0 b1 = some b ∧ ag m b b0 := by
  have key : ∀ t k fu (b : Nat → Int32), k + t = m → t < fu → (∀ j, j < k → b j = b0 j) → ∃ b', f_X8_copyRow_L2 m m b0 fu (nI k) b = some b' ∧ ag m b' b0 := by
    intro t
    induction t with
    | zero =>
      intro k fu b hk f hb
      obtain ⟨fu, rfl⟩ : ∃ k, fu = k + 1 := ⟨fu - 1, by omega⟩
      have e : k = m := by omega
      subst e
      rw [f_X8_copyRow_L2, if_pos (show Int32.ofNat k ≤ nI k from nI_le (Nat.le_refl k) (by omega))]
      exact ⟨b, rfl, hb⟩
    | succ t ih =>
      intro k fu b hk f hb
      obtain ⟨fu, rfl⟩ : ∃ k, fu = k + 1 := ⟨fu - 1, by omega⟩
      have hn : ¬ Int32.ofNat m ≤ nI k := nI_ge (show k < m by omega) (by omega)
      rw [f_X8_copyRow_L2, if_neg hn, if_neg hn, gd_ok (n_in (show k < m by omega) (by omega)), gd_ok (n_in (show k < m by omega) (by omega)), nI_clamp (by omega), nI_1]
      exact ih (k + 1) fu _ (by omega) (by omega) (fun j hj => by
        rw [upd_at]
        by_cases e : j = k
        · rw [if_pos e, e]
        · rw [if_neg e]; exact hb j (by omega))
  exact key m 0 FU b1 (by omega) (FU_gt (by omega)) (fun j hj => absurd hj (Nat.not_lt_zero j))
theorem s_box {cnt sg scnt msw : Int32} {codes pad scodes box : Nat → Int32} (h : PD cnt codes sg pad) (hx : BX scnt scodes msw box) : ∃ r cnt' scnt' scodes' sg' msw' box', f_X8_box cnt codes scnt scodes = some (r, cnt', scnt', scodes') ∧ f_X9_box sg msw pad box = some (r, sg', msw', box') ∧ PD cnt' codes sg' pad ∧ BX scnt' scodes' msw' box' := by
  obtain ⟨n, hn, rfl, rfl, hc⟩ := h
  obtain ⟨r, r1, r2, r3⟩ := boxF hn hc
  unfold f_X8_box f_X9_box
  rw [r1, r2, eb1, eb1]
  rcases r3 with e | e
  · have key : ∀ t k fu (b : Nat → Int32), k + t = n → t < fu → (∀ j, j < k → b j = pad j - 48) → ∃ b', f_X9_box_L20 pad fu (nI k) (nI n) (nI n) b = some (nI n, 0, nI n, b') ∧ ∀ j, j < n → b' j = pad j - 48 := by
      intro t
      induction t with
      | zero =>
        intro k fu b hk f hb
        obtain ⟨fu, rfl⟩ : ∃ k, fu = k + 1 := ⟨fu - 1, by omega⟩
        have e : k = n := by omega
        subst e
        rw [f_X9_box_L20, if_pos (nI_le (Nat.le_refl k) (by omega))]
        exact ⟨b, rfl, hb⟩
      | succ t ih =>
        intro k fu b hk f hb
        obtain ⟨fu, rfl⟩ : ∃ k, fu = k + 1 := ⟨fu - 1, by omega⟩
        rw [f_X9_box_L20, if_neg (nI_ge (show k < n by omega) (by omega)), gd_ok (n_in (show k < 40 by omega) (by omega)), gd_ok (n_in (show k < 40 by omega) (by omega)), nI_clamp (by omega), nI_1]
        exact ih (k + 1) fu _ (by omega) (by omega) (fun j hj => by
          rw [upd_at]
          by_cases e : j = k
          · rw [if_pos e, e]
          · rw [if_neg e]; exact hb j (by omega))
    obtain ⟨b', q1, q2⟩ := key n 0 FU box (by omega) (FU_gt (by omega)) (fun j hj => absurd hj (Nat.not_lt_zero j))
    obtain ⟨s', q3, q4⟩ := e_copy (m := 40) (by decide) codes scodes
    have q1' : f_X9_box_L20 pad FU 0 (nI n) (nI n) box = some (nI n, 0, nI n, b') := q1
    rw [if_pos e, if_pos (show r < 0 by rw [e]; decide), q1']
    unfold f_X6_copyFrom
    rw [q3, eb1, eb2]
    refine ⟨_, _, _, _, _, _, _, rfl, rfl, ⟨0, by omega, rfl, rfl, fun j hj => absurd hj (Nat.not_lt_zero j)⟩, n, hn, rfl, rfl, fun j hj => ?_⟩
    rw [q4 j (by omega), q2 j hj, (hc j hj).1]
  · rw [if_neg (show ¬ r = -6 from fun q => e (by rw [q]; decide)), if_neg e]
    exact ⟨_, _, _, _, _, _, _, rfl, rfl, ⟨n, hn, rfl, rfl, hc⟩, hx⟩
theorem lims : ∀ j, j < 8 → f_X8_atT 0 (nI j) = some (tfn 0 j) ∧ f_X8_atT 1 (nI j) = some (tfn 1 j) ∧ f_X9_leastOf (nI j) = some (tfn 0 j) ∧ f_X9_mostOf (nI j) = some (tfn 1 j) := by decide
theorem s_set {numbers how : Nat → Int32} (hnum : ag 8 numbers how) (hf : HF how) (x1 x2 : Int32) : ∃ r numbers' how', f_X8_set numbers x1 x2 = some (r, numbers') ∧ f_X9_set how x1 x2 = some (r, how') ∧ ag 8 numbers' how' ∧ HF how' := by
  unfold f_X8_set f_X9_set
  have i8 : (8 : Int32).toInt = 8 := rfl
  have i7 : (7 : Int32).toInt = 7 := rfl
  by_cases a1 : x1 < 0
  · rw [if_pos a1, m_in0 (Or.inl a1), eb1, if_pos rfl]
    exact ⟨_, _, _, rfl, rfl, hnum, hf⟩
  by_cases a2 : 7 < x1
  · rw [if_neg a1, if_neg (show ¬ x1 < 8 by rw [t_lt, i8]; rw [t_lt, i7] at a2; omega), m_in0 (Or.inr a2), eb1, if_pos rfl]
    exact ⟨_, _, _, rfl, rfl, hnum, hf⟩
  rw [if_neg a1, if_pos (show x1 < 8 by rw [t_lt, i8]; rw [t_lt, i7] at a2; omega), m_in1 a1 a2, eb1, if_neg (show ¬ (1 : Int32) = 0 by decide)]
  obtain ⟨j, hj, rfl⟩ : ∃ j, j < 8 ∧ x1 = nI j := by
    rw [t_lt, i0] at a1
    rw [t_lt, i7] at a2
    exact ⟨x1.toInt.toNat, by omega, t_of (by omega)⟩
  obtain ⟨l1, l2, l3, l4⟩ := lims j hj
  rw [l1, l2, l3, l4, eb1, eb1, eb1, eb1]
  by_cases b1 : x2 < tfn 0 j
  · rw [if_pos b1, m_in0 (Or.inl b1), eb1, if_pos rfl]
    exact ⟨_, _, _, rfl, rfl, hnum, hf⟩
  by_cases b2 : tfn 1 j < x2
  · rw [if_neg b1, if_neg (show ¬ x2 ≤ tfn 1 j by rw [t_le]; rw [t_lt] at b2; omega), m_in0 (Or.inr b2), eb1, if_pos rfl]
    exact ⟨_, _, _, rfl, rfl, hnum, hf⟩
  rw [if_neg b1, if_pos (show x2 ≤ tfn 1 j by rw [t_le]; rw [t_lt] at b2; omega), m_in1 b1 b2, eb1, if_neg (show ¬ (1 : Int32) = 0 by decide), e_num j hj rfl, eb1, e_put j hj (by decide) rfl, eb1, gd_ok (n_in hj (by decide)), gd_ok (n_in hj (by decide)), nI_clamp (by omega), hnum j hj]
  refine ⟨_, _, _, rfl, rfl, ag_up hnum _ _, fun i hi => ?_⟩
  rw [upd_at]
  by_cases e : i = j
  · rw [if_pos e, e]
    rw [t_lt] at b1 b2
    omega
  · rw [if_neg e]; exact hf i hi
theorem s_strong {strengths strong : Nat → Int32} (hst : ag 4 strengths strong) (x1 x2 : Int32) : ∃ r strengths' strong', f_X8_strong strengths x1 x2 = some (r, strengths') ∧ f_X9_strong strong x1 x2 = some (r, strong') ∧ ag 4 strengths' strong' := by
  unfold f_X8_strong f_X9_strong f_X8_isChild
  by_cases a1 : x1 < 0
  · rw [if_pos a1, m_in0 (Or.inl a1), eb1, if_pos rfl, eb1, if_pos rfl]
    exact ⟨_, _, _, rfl, rfl, hst⟩
  by_cases a2 : 3 < x1
  · rw [if_neg a1, if_pos (show (4 : Int32) ≤ x1 by rw [t_le, i4]; rw [t_lt, i3] at a2; omega), m_in0 (Or.inr a2), eb1, if_pos rfl, eb1, if_pos rfl]
    exact ⟨_, _, _, rfl, rfl, hst⟩
  rw [if_neg a1, if_neg (show ¬ (4 : Int32) ≤ x1 by rw [t_le, i4]; rw [t_lt, i3] at a2; omega), m_in1 a1 a2, eb1, eb1, if_neg (show ¬ (1 : Int32) = 0 by decide), if_neg (show ¬ (1 : Int32) = 0 by decide)]
  obtain ⟨j, hj, rfl⟩ : ∃ j, j < 4 ∧ x1 = nI j := by
    rw [t_lt, i0] at a1
    rw [t_lt, i3] at a2
    exact ⟨x1.toInt.toNat, by omega, t_of (by omega)⟩
  by_cases b1 : x2 < 0
  · rw [if_pos b1, m_in0 (Or.inl b1), eb1, if_pos rfl]
    exact ⟨_, _, _, rfl, rfl, hst⟩
  by_cases b2 : 200 < x2
  · rw [if_neg b1, if_neg (show ¬ x2 ≤ 200 by rw [t_le]; rw [t_lt] at b2; omega), m_in0 (Or.inr b2), eb1, if_pos rfl]
    exact ⟨_, _, _, rfl, rfl, hst⟩
  rw [if_neg b1, if_pos (show x2 ≤ 200 by rw [t_le]; rw [t_lt] at b2; omega), m_in1 b1 b2, eb1, if_neg (show ¬ (1 : Int32) = 0 by decide), e_at j hj (by decide) rfl, eb1, e_put j hj (by decide) rfl, eb1, gd_ok (n_in hj (by decide)), gd_ok (n_in hj (by decide)), nI_clamp (by omega), hst j hj]
  exact ⟨_, _, _, rfl, rfl, ag_up hst _ _⟩
theorem s_told {numbers strengths how strong who am le plan codes pad scodes box : Nat → Int32} {cnt sg parts mins mparts scnt msw : Int32} (hnum : ag 8 numbers how) (hst : ag 4 strengths strong) (h : PD cnt codes sg pad) (hp : PLp parts mins who am le mparts plan) (hx : BX scnt scodes msw box) (x1 : Int32) : ∃ r, f_X8_told cnt numbers strengths parts mins scnt x1 = some r ∧ f_X9_told sg mparts msw how strong plan x1 = some r := by
  obtain ⟨n, hn, rfl, rfl, hc⟩ := h
  obtain ⟨N, rfl, rfl, hPL, hM, rfl⟩ := hp
  obtain ⟨B, hB, rfl, rfl, hbx⟩ := hx
  have i17 : (17 : Int32).toInt = 17 := rfl
  have i18 : (18 : Int32).toInt = 18 := rfl
  have i20 : (20 : Int32).toInt = 20 := rfl
  have i23 : (23 : Int32).toInt = 23 := rfl
  have i24 : (24 : Int32).toInt = 24 := rfl
  unfold f_X8_told f_X9_told f_X8_told_L24 f_X8_told_L51
  by_cases c1 : x1 < 10 ∨ 17 < x1
  · rw [m_in0 c1, eb1, if_pos (show (0 : Int32) = 0 from rfl)]
    by_cases c2 : x1 < 20 ∨ 23 < x1
    · rw [m_in0 c2, eb1, if_pos (show (0 : Int32) = 0 from rfl), m_mins hPL, eb1]
      have hcl : ∀ (A B : Option Int32), (if x1 < 10 then (if x1 < 20 then A else (if 24 ≤ x1 then A else B)) else (if 18 ≤ x1 then (if x1 < 20 then A else (if 24 ≤ x1 then A else B)) else f_X4_number numbers (x1 - 10) >>= fun r20 => some r20)) = A := by
        intro A B
        have h2 : (if x1 < 20 then A else (if 24 ≤ x1 then A else B)) = A := by
          by_cases q : x1 < 20
          · rw [if_pos q]
          · rw [if_neg q, if_pos]
            have := c2.resolve_left q
            rw [t_le, i24]; rw [t_lt, i23] at this; omega
        rw [h2]
        by_cases q : x1 < 10
        · rw [if_pos q]
        · rw [if_neg q, if_pos]
          have := c1.resolve_left q
          rw [t_le, i18]; rw [t_lt, i17] at this; omega
      obtain ⟨r, hr⟩ : ∃ r, (if x1 = 0 then some (nI n) else if x1 = 1 then some (nI (mS le N)) else if x1 = 2 then some (nI N) else if x1 = 3 then some (nI B) else some (-2)) = some r := by
        split
        · exact ⟨_, rfl⟩
        split
        · exact ⟨_, rfl⟩
        split
        · exact ⟨_, rfl⟩
        split <;> exact ⟨_, rfl⟩
      exact ⟨r, (hcl _ _).trans hr, hr⟩
    · have d1 : ¬ x1 < 20 := fun q => c2 (Or.inl q)
      have d2 : ¬ 23 < x1 := fun q => c2 (Or.inr q)
      rw [m_in1 d1 d2, eb1, if_neg (show ¬ (1 : Int32) = 0 by decide)]
      rw [t_lt, i20] at d1
      rw [t_lt, i23] at d2
      have e1 : (x1 - 20).toInt = x1.toInt - 20 := by rw [t_sb (by rw [i20]; omega) (by rw [i20]; omega), i20]
      obtain ⟨j, hj, ej⟩ : ∃ j, j < 4 ∧ x1 - 20 = nI j := ⟨(x1 - 20).toInt.toNat, by omega, t_of (by omega)⟩
      rw [if_neg (show ¬ x1 < 10 by rw [t_lt, i10]; omega), if_pos (show (18 : Int32) ≤ x1 by rw [t_le, i18]; omega), if_neg (show ¬ x1 < 20 by rw [t_lt, i20]; omega), if_neg (show ¬ (24 : Int32) ≤ x1 by rw [t_le, i24]; omega), ej, e_at j hj (by decide) rfl, eb1, gd_ok (n_in hj (by decide)), nI_clamp (by omega), hst j hj]
      exact ⟨_, rfl, rfl⟩
  · have d1 : ¬ x1 < 10 := fun q => c1 (Or.inl q)
    have d2 : ¬ 17 < x1 := fun q => c1 (Or.inr q)
    rw [m_in1 d1 d2, eb1, if_neg (show ¬ (1 : Int32) = 0 by decide)]
    rw [t_lt, i10] at d1
    rw [t_lt, i17] at d2
    have e1 : (x1 - 10).toInt = x1.toInt - 10 := by rw [t_sb (by rw [i10]; omega) (by rw [i10]; omega), i10]
    obtain ⟨j, hj, ej⟩ : ∃ j, j < 8 ∧ x1 - 10 = nI j := ⟨(x1 - 10).toInt.toNat, by omega, t_of (by omega)⟩
    rw [if_neg (show ¬ x1 < 10 by rw [t_lt, i10]; omega), if_neg (show ¬ (18 : Int32) ≤ x1 by rw [t_le, i18]; omega), ej, e_num j hj rfl, eb1, gd_ok (n_in hj (by decide)), nI_clamp (by omega), hnum j hj]
    exact ⟨_, rfl, rfl⟩
