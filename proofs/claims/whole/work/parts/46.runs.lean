/-! a RUN from its beginning, on both sides -/
def zeroed (n : Nat) (f : Nat → Int32) : Prop := ∀ k, k < n → f k = 0
theorem e_clear (tot : Int32) (g : Nat → Int32) : ∃ g', f_X2_clear tot g = some (0, g') ∧ zeroed 64 g' := by
  have L := loop_up (fun fu i G => f_X2_clear_L2 fu i tot G) 64 (fun j G => upd G j 0) (fun G => some (0, G)) (fun j G => ∀ c, c < j → G c = 0)
    (fun fu j G hj hI => by
      show f_X2_clear_L2 (fu + 1) (nI j) tot G = f_X2_clear_L2 fu (nI (j + 1)) tot (upd G j 0)
      rw [f_X2_clear_L2, if_neg (show ¬ (64 : Int32) ≤ nI j from nI_ge hj (by decide)), gd_ok (n_in hj (by decide)), nI_clamp (by omega), nI_1])
    (fun j G hj hI c hc => by
      show upd G j 0 c = 0
      rw [upd_at]
      split
      · rfl
      · exact hI c (by omega))
    (fun fu G hI => by
      show f_X2_clear_L2 (fu + 1) (nI 64) tot G = some (0, G)
      rw [f_X2_clear_L2, if_pos (show (64 : Int32) ≤ nI 64 by decide)])
    64 FU 0 g rfl (FU_gt (by decide)) (fun c hc => absurd hc (Nat.not_lt_zero c))
  exact ⟨_, L.1, L.2⟩
theorem e_cbeg (wr : Nat → Int32) : ∃ w', f_X1_begin wr = some w' ∧ zeroed 4 w' := by
  have L := loop_up (fun fu i G => f_X1_begin_L2 fu i G) 4 (fun j G => upd G j 0) (fun G => some G) (fun j G => ∀ c, c < j → G c = 0)
    (fun fu j G hj hI => by
      show f_X1_begin_L2 (fu + 1) (nI j) G = f_X1_begin_L2 fu (nI (j + 1)) (upd G j 0)
      rw [f_X1_begin_L2, if_neg (show ¬ (4 : Int32) ≤ nI j from nI_ge hj (by decide)), gd_ok (n_in hj (by decide)), nI_clamp (by omega), nI_1])
    (fun j G hj hI c hc => by
      show upd G j 0 c = 0
      rw [upd_at]
      split
      · rfl
      · exact hI c (by omega))
    (fun fu G hI => by
      show f_X1_begin_L2 (fu + 1) (nI 4) G = some G
      rw [f_X1_begin_L2, if_pos (show (4 : Int32) ≤ nI 4 by decide)])
    4 FU 0 wr rfl (FU_gt (by decide)) (fun c hc => absurd hc (Nat.not_lt_zero c))
  exact ⟨_, L.1, L.2⟩
theorem e_begin (c0 c1 c2 c3 c4 c5 c6 c7 c8 c9 c10 c11 c12 c13 c14 : Int32) (g wr numbers : Nat → Int32) (S : Int32) : ∃ g' w', f_X5_begin c0 c1 c2 c3 c4 c5 c6 c7 c8 c9 c10 c11 c12 c13 c14 g wr numbers S = some (0, 0, -6, numbers 0, S, 0, cdS (numbers 0) S 0 0, numbers 2, numbers 3, numbers 4, numbers 5, 0, 0, 0, 0, g', w') ∧ zeroed 64 g' ∧ zeroed 4 w' := by
  obtain ⟨g', h1, h2⟩ := e_clear c14 g
  obtain ⟨w', h3, h4⟩ := e_cbeg wr
  refine ⟨g', w', ?_, h2, h4⟩
  unfold f_X5_begin
  rw [e_num (i := 0) 0 (by decide) rfl, eb1]
  unfold f_X3_begin
  rw [e_settle, eb1, eb4]
  unfold f_X0_begin
  rw [e_num (i := 2) 2 (by decide) rfl, eb1, e_num (i := 3) 3 (by decide) rfl, eb1, e_num (i := 4) 4 (by decide) rfl, eb1, e_num (i := 5) 5 (by decide) rfl, eb1, h1, eb2, eb9, h3, eb1]
theorem m_begin {how : Nat → Int32} {S : Int32} (hd : ¬ how 0 ≤ 0 → ¬ how 0 + 0 + S = 0) (c0 c1 c2 c3 c4 c5 c6 c7 c8 c9 c10 c11 : Int32) (fl tr : Nat → Int32) : ∃ f' t', f_X9_begin S c0 c1 c2 c3 c4 c5 c6 c7 c8 c9 c10 c11 how fl tr = some (how 0, S, 0, cdS (how 0) S 0 0, how 5, 0, 0, 0, 0, 0, -6, -6, f', t') ∧ zeroed 64 f' ∧ zeroed 4 t' := by
  have L2 : ∀ (F : Nat → Int32), ∃ t', f_X9_begin_L112 S how FU 0 (how 0) S 0 (cdS (how 0) S 0 0) (how 5) 0 0 0 0 0 (-6) (-6) F tr = some (how 0, S, 0, cdS (how 0) S 0 0, how 5, 0, 0, 0, 0, 0, -6, -6, F, t') ∧ zeroed 4 t' := by
    intro F
    have L := loop_up (fun fu i G => f_X9_begin_L112 S how fu i (how 0) S 0 (cdS (how 0) S 0 0) (how 5) 0 0 0 0 0 (-6) (-6) F G) 4 (fun j G => upd G j 0) (fun G => some (how 0, S, 0, cdS (how 0) S 0 0, how 5, 0, 0, 0, 0, 0, -6, -6, F, G)) (fun j G => ∀ c, c < j → G c = 0)
      (fun fu j G hj hI => by
        show f_X9_begin_L112 S how (fu + 1) (nI j) (how 0) S 0 (cdS (how 0) S 0 0) (how 5) 0 0 0 0 0 (-6) (-6) F G = f_X9_begin_L112 S how fu (nI (j + 1)) (how 0) S 0 (cdS (how 0) S 0 0) (how 5) 0 0 0 0 0 (-6) (-6) F (upd G j 0)
        rw [f_X9_begin_L112, if_neg (show ¬ (4 : Int32) ≤ nI j from nI_ge hj (by decide)), gd_ok (n_in hj (by decide)), nI_clamp (by omega), nI_1])
      (fun j G hj hI c hc => by
        show upd G j 0 c = 0
        rw [upd_at]
        split
        · rfl
        · exact hI c (by omega))
      (fun fu G hI => by
        show f_X9_begin_L112 S how (fu + 1) (nI 4) (how 0) S 0 (cdS (how 0) S 0 0) (how 5) 0 0 0 0 0 (-6) (-6) F G = _
        rw [f_X9_begin_L112, if_pos (show (4 : Int32) ≤ nI 4 by decide)])
      4 FU 0 tr rfl (FU_gt (by decide)) (fun c hc => absurd hc (Nat.not_lt_zero c))
    exact ⟨_, L.1, L.2⟩
  have L := loop_up (fun fu i G => f_X9_begin_L91 S how fu i (how 0) S 0 (cdS (how 0) S 0 0) (how 5) 0 0 0 0 0 (-6) (-6) G tr) 64 (fun j G => upd G j 0) (fun G => f_X9_begin_L112 S how FU 0 (how 0) S 0 (cdS (how 0) S 0 0) (how 5) 0 0 0 0 0 (-6) (-6) G tr) (fun j G => ∀ c, c < j → G c = 0)
    (fun fu j G hj hI => by
      show f_X9_begin_L91 S how (fu + 1) (nI j) (how 0) S 0 (cdS (how 0) S 0 0) (how 5) 0 0 0 0 0 (-6) (-6) G tr = f_X9_begin_L91 S how fu (nI (j + 1)) (how 0) S 0 (cdS (how 0) S 0 0) (how 5) 0 0 0 0 0 (-6) (-6) (upd G j 0) tr
      rw [f_X9_begin_L91, if_neg (show ¬ (64 : Int32) ≤ nI j from nI_ge hj (by decide)), gd_ok (n_in hj (by decide)), nI_clamp (by omega), nI_1])
    (fun j G hj hI c hc => by
      show upd G j 0 c = 0
      rw [upd_at]
      split
      · rfl
      · exact hI c (by omega))
    (fun fu G hI => by
      show f_X9_begin_L91 S how (fu + 1) (nI 64) (how 0) S 0 (cdS (how 0) S 0 0) (how 5) 0 0 0 0 0 (-6) (-6) G tr = _
      rw [f_X9_begin_L91, if_pos (show (64 : Int32) ≤ nI 64 by decide)])
    64 FU 0 fl rfl (FU_gt (by decide)) (fun c hc => absurd hc (Nat.not_lt_zero c))
  obtain ⟨t', h1, h2⟩ := L2 (itr (fun j G => upd G j 0) 0 64 fl)
  refine ⟨_, t', ?_, L.2, h2⟩
  have k39 : ∀ z a b c d e f g h i : Int32, f_X9_begin_L39 S how (cdS (how 0) S 0 0) (how 0) S 0 z a b c d e f g h fl tr = some (how 0, S, 0, cdS (how 0) S 0 0, how 5, 0, 0, 0, 0, 0, -6, -6, itr (fun j G => upd G j 0) 0 64 fl, t') := by
    intro z a b c d e f g h i
    unfold f_X9_begin_L39
    rw [gd_ok (by decide)]
    show f_X9_begin_L91 S how FU 0 (how 0) S 0 (cdS (how 0) S 0 0) (how 5) 0 0 0 0 0 (-6) (-6) fl tr = _
    rw [show f_X9_begin_L91 S how FU 0 (how 0) S 0 (cdS (how 0) S 0 0) (how 5) 0 0 0 0 0 (-6) (-6) fl tr = _ from L.1]
    exact h1
  unfold f_X9_begin
  rw [gd_ok (by decide)]
  show (if how 0 ≤ 0 then f_X9_begin_L39 S how 0 (how 0) S 0 c3 c4 c5 c6 c7 c8 c9 c10 c11 fl tr else Option.bind (f_X9_coldOf (how 0) S 0) (fun r32 => f_X9_begin_L39 S how r32 (how 0) S 0 c3 c4 c5 c6 c7 c8 c9 c10 c11 fl tr)) = _
  by_cases c : how 0 ≤ 0
  · rw [if_pos c]
    have e : cdS (how 0) S 0 0 = 0 := by
      unfold cdS
      rw [if_pos c, if_neg (by decide)]
    have h := k39 c3 c4 c5 c6 c7 c8 c9 c10 c11 0
    rw [e] at h ⊢
    exact h
  · rw [if_neg c, m_coldOf (hd c), eb1]
    have e : (if cqS (how 0) S 0 < 210 then cqS (how 0) S 0 else 210) = cdS (how 0) S 0 0 := by
      unfold cdS
      rw [if_neg c]
    rw [e]
    exact k39 c3 c4 c5 c6 c7 c8 c9 c10 c11 0
/-! MINUTES of THE PLAN -/
def mS (le : Nat → Int32) : Nat → Nat
  | 0 => 0
  | n + 1 => mS le n + (le n).toNatClampNeg
theorem m_mins {N : Nat} {who am le plan : Nat → Int32} (hPL : PL N who am le plan) : f_X9_minutesOf (nI N) plan = some (nI (mS le N)) := by
  have key : ∀ n p fu, p + n = N → n < fu → f_X9_minutesOf_L4 (nI N) plan fu (nI (mS le p)) (nI p) = some (nI (mS le N)) := by
    intro n
    induction n with
    | zero =>
      intro p fu hp hf
      obtain ⟨fu, rfl⟩ : ∃ k, fu = k + 1 := ⟨fu - 1, by omega⟩
      have hN := hPL.1
      have e : p = N := by omega
      subst e
      rw [f_X9_minutesOf_L4, if_pos (nI_le (Nat.le_refl p) (by omega))]
    | succ n ih =>
      intro p fu hp hf
      obtain ⟨fu, rfl⟩ : ∃ k, fu = k + 1 := ⟨fu - 1, by omega⟩
      have hN := hPL.1
      obtain ⟨ew, ea, el, a, nn, eam, ha9, ele, hn9, hkind⟩ := hPL.2 p (by omega)
      have hc : (le p).toNatClampNeg = nn := by rw [ele, nI_clamp (by omega)]
      rw [f_X9_minutesOf_L4, if_neg (nI_ge (show p < N by omega) (by omega)), x3, gd_ok (n_in (show 3 * p < 60 by omega) (by decide)), nI_clamp (show 3 * p < 2 ^ 31 by omega), ← ew, nI_1]
      have h := ih (p + 1) fu (by omega) (by omega)
      by_cases c : who p = 5
      · rw [if_pos c]
        have h0 : nn = 0 := by
          rcases hkind with ⟨-, h⟩ | h | ⟨j, hj, h⟩
          · exact h
          · rw [c] at h; exact absurd h (by decide)
          · rw [c] at h
            have h5 : nI 5 = nI j := h
            rw [nI_eq (by decide) (by omega)] at h5; omega
        rw [show nI (mS le p) + 0 = nI (mS le p) from Int32.add_zero _]
        rw [show mS le (p + 1) = mS le p by show mS le p + (le p).toNatClampNeg = _; rw [hc, h0]; rfl] at h
        exact h
      · rw [if_neg c, show nI (3 * p) + 2 = nI (3 * p + 2) from nI_add _ 2]
        rw [gd_ok (n_in (show 3 * p + 2 < 60 by omega) (by decide)), nI_clamp (show 3 * p + 2 < 2 ^ 31 by omega), ← el, ele, nI_add]
        rw [show mS le (p + 1) = mS le p + nn by show mS le p + (le p).toNatClampNeg = _; rw [hc]] at h
        exact h
  exact key N 0 FU (by omega) (FU_gt (by have := hPL.1; omega))
theorem sI_zero {g : Nat → Int32} : ∀ n, zeroed n g → sI g n = 0 := by
  intro n
  induction n with
  | zero => intro _; rfl
  | succ n ih =>
    intro h
    show sI g n + (g n).toInt = 0
    rw [ih (fun k hk => h k (by omega)), h n (by omega)]; rfl
/-- what set() allows, as far as a RUN needs it -/
def HR (how : Nat → Int32) : Prop := (0 ≤ (how 0).toInt ∧ (how 0).toInt ≤ 9000) ∧ (100 ≤ (how 2).toInt ∧ (how 2).toInt ≤ 2000) ∧ (0 ≤ (how 3).toInt ∧ (how 3).toInt ≤ 600) ∧ (0 ≤ (how 4).toInt ∧ (how 4).toInt ≤ 400)
theorem run2 {numbers strengths who am le how strong plan instead : Nat → Int32} (hnum : ag 8 numbers how) (hr : HR how) (hst : ag 4 strengths strong) {N : Nat} (hPL : PL N who am le plan) (hM : mS le N ≤ 117) {way onep pOA S : Int32} (hS : 0 ≤ S.toInt ∧ S.toInt ≤ 3000) (hway : ∀ i, i < 4 → ∃ j, j < 4 ∧ f_X8_childInPlace way (nI i) = some (nI j) ∧ instead i = nI j) (hpace : (onep = 0 ∧ pOA < 0) ∨ (onep = pOA ∧ ¬ onep = 0 ∧ ¬ pOA < 0 ∧ onep.toInt ≤ 9)) (U : Nat) (hU : U ≤ mS le N) (sw : Int32)
    (c0 c1 c2 c3 c4 c5 c6 c7 c8 c9 c10 c11 c12 c13 c14 : Int32) (g wr hb : Nat → Int32) (d0 d1 d2 d3 d4 d5 d6 d7 d8 d9 d10 d11 : Int32) (fl tr : Nat → Int32) :
    ∃ (t' : Nat) (held' first' ice' salt' br' cold' wm' ly' air' ch' tot' sf' : Int32) (g' fl' wr' tr' hb' : Nat → Int32), t' ≤ U ∧
      f_X5_go c0 c1 c2 c3 c4 c5 c6 c7 c8 c9 c10 c11 c12 c13 c14 g wr hb numbers strengths (nI N) (nI (mS le N)) who am le (nI U) S way onep = some (nI t', held', first', ice', salt', br', cold', how 2, how 3, how 4, wm', ly', air', ch', tot', g', wr', hb') ∧
      f_X9_run (nI N) S pOA d0 d1 d2 d3 d4 d5 d6 d7 d8 d9 d10 sw d11 how strong plan instead fl tr (nI U) = some (ice', salt', br', cold', wm', tot', ly', air', ch', held', first', sf', fl', tr') ∧
      RI (how 2) (how 3) (how 4) sw t' held' first' ice' salt' br' cold' ly' tot' g' fl' wr' tr' hb' sf' := by
  obtain ⟨⟨a1, a2⟩, ⟨b1, b2⟩, ⟨s1, s2⟩, ⟨f1, f2⟩⟩ := hr
  have hd : ¬ how 0 ≤ 0 → ¬ how 0 + 0 + S = 0 := by
    intro h0 h
    have e1 : (how 0 + 0 + S).toInt = (how 0).toInt + S.toInt := by rw [show how 0 + 0 = how 0 from Int32.add_zero _, t_ad (by omega) (by omega)]
    rw [t_le, i0] at h0
    rw [t_eq, e1, i0] at h; omega
  obtain ⟨gg, ww, q1, zg, zw⟩ := e_begin c0 c1 c2 c3 c4 c5 c6 c7 c8 c9 c10 c11 c12 c13 c14 g wr numbers S
  obtain ⟨ff, tt, q2, zf, zt⟩ := m_begin hd d0 d1 d2 d3 d4 d5 d6 d7 d8 d9 d10 d11 fl tr
  rw [hnum 0 (by decide), hnum 2 (by decide), hnum 3 (by decide), hnum 4 (by decide), hnum 5 (by decide)] at q1
  have hMI0 : MI (how 2) (how 3) (how 4) (how 0) S 0 0 0 0 := by
    unfold MI
    rw [i0]; omega
  have hcd := cd_rng hMI0
  have hMI : MI (how 2) (how 3) (how 4) (how 0) S 0 (cdS (how 0) S 0 0) 0 0 := by
    unfold MI
    rw [i0]; omega
  have hRI : RI (how 2) (how 3) (how 4) sw 0 0 (-6) (how 0) S 0 (cdS (how 0) S 0 0) 0 0 gg ff ww tt hb (-6) := by
    refine ⟨hMI, fun k hk => by rw [zg k hk, zf k hk], fun k hk => by rw [zw k hk, zt k hk], fun c hc => by rw [zw c hc, i0]; omega, by rw [i0]; omega, by decide, ⟨fun k hk => by rw [zg k hk]; decide, by rw [sI_zero 64 zg]; rfl⟩, Or.inr ⟨rfl, fun m hm => absurd hm (Nat.not_lt_zero m)⟩⟩
  have main := fun all_ hall => out2 (numbers := numbers) (sF := S) (mins := nI (mS le N)) (sw := sw) rfl rfl rfl N hPL hst hway hpace U (by omega) (all_ := all_) hall N 0 FU FU 0 0 (-6) (how 0) S 0 (cdS (how 0) S 0 0) (how 5) 0 0 0 0 (-6) gg ff ww tt hb (by omega) (FU_gt (by have := hPL.1; omega)) (FU_gt (by have := hPL.1; omega)) (Nat.zero_le U) (by omega) hRI
  unfold f_X5_go f_X9_run
  rw [q1, q2, eb17, eb14, m_mins hPL, eb1]
  by_cases c : nI U = nI (mS le N)
  · rw [if_pos c]
    exact main 1 ⟨fun h => absurd h (by decide), fun h => absurd c h⟩
  · rw [if_neg c]
    exact main 0 ⟨fun _ => c, fun _ => rfl⟩
