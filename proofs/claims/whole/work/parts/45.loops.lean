/-! THE PLAN on both sides, and the loops of a RUN -/
def PV (who am le : Int32) : Prop := ∃ a n : Nat, am = nI a ∧ a ≤ 9 ∧ le = nI n ∧ n ≤ 9 ∧ ((who = 5 ∧ n = 0) ∨ who = 4 ∨ ∃ j, j < 4 ∧ who = nI j)
def PL (N : Nat) (who am le plan : Nat → Int32) : Prop := N ≤ 20 ∧ ∀ p, p < N → who p = plan (3 * p) ∧ am p = plan (3 * p + 1) ∧ le p = plan (3 * p + 2) ∧ PV (who p) (am p) (le p)
theorem x3 (p : Nat) : (3 : Int32) * nI p = nI (3 * p) := pk_mul 3 p
theorem x31 (p : Nat) : (3 : Int32) * nI p + 1 = nI (3 * p + 1) := by rw [x3]; exact nI_add _ 1
theorem x32 (p : Nat) : (3 : Int32) * nI p + 2 = nI (3 * p + 2) := by rw [x3]; exact nI_add _ 2
theorem nI_le_iff {a b : Nat} (ha : a < 2147483648) (hb : b < 2147483648) : nI a ≤ nI b ↔ a ≤ b := nI_leI ha hb
theorem nI_lt_iff {a b : Nat} (ha : a < 2147483648) (hb : b < 2147483648) : nI a < nI b ↔ a < b := nI_ltI ha hb
set_option maxHeartbeats 2000000 in
theorem in2 {w s f sw salt : Int32} {how strong strengths instead plan numbers who am le : Nat → Int32} {parts mins way onep part child pace pace' str whoM sF pOA all_ mparts : Int32} {rc15 : Int32 → Int32 → Int32 → Int32 → Int32 → Int32 → Int32 → Int32 → Int32 → Int32 → Int32 → Int32 → Int32 → Int32 → Int32 → Int32 → Int32 → Int32 → Int32 → (Nat → Int32) → (Nat → Int32) → (Nat → Int32) → Option (Int32 × Int32 × Int32 × Int32 × Int32 × Int32 × Int32 × Int32 × Int32 × Int32 × Int32 × Int32 × Int32 × Int32 × Int32 × (Nat → Int32) × (Nat → Int32) × (Nat → Int32))} {rc23 : Int32 → Int32 → Int32 → Int32 → Int32 → Int32 → Int32 → Int32 → Int32 → Int32 → Int32 → Int32 → Int32 → Int32 → Int32 → Int32 → (Nat → Int32) → (Nat → Int32) → Option (Int32 × Int32 × Int32 × Int32 × Int32 × Int32 × Int32 × Int32 × Int32 × Int32 × Int32 × Int32 × (Nat → Int32) × (Nat → Int32))}
    (h2 : how 2 = w) (h3 : how 3 = s) (h4 : how 4 = f) (hat : f_X8_at 4 strengths child = some str) (hmw : (whoM = 4 ∧ child = 4) ∨ ∃ i, i < 4 ∧ whoM = nI i ∧ instead i = child) (hch : child = 4 ∨ (pace' = pace ∧ ∃ j, j < 4 ∧ child = nI j ∧ strong j = str)) (h9 : pace.toInt ≤ 9) (pp : Nat) (hpp : pp < 20) (len U E : Nat) (hlen : plan (3 * pp + 2) = nI len) (hl9 : len ≤ 9) (hU : U ≤ 117) (hE : E ≤ U) :
    ∀ (n t k fu1 fu2 : Nat) (held first ice br cold wm ly air ch tot sf : Int32) (g fl wr tr hb : Nat → Int32), t + n = E → k + n ≤ len → (k + n = len ∨ t + n = U) → n < fu1 → n < fu2 → RI w s f sw t held first ice salt br cold ly tot g fl wr tr hb sf →
      ∃ (held' first' ice' br' cold' wm' ly' air' ch' tot' sf' : Int32) (g' fl' wr' tr' hb' : Nat → Int32),
        f_X5_go_L170 rc15 numbers strengths parts mins who am le fu1 (nI U) way onep part child pace (nI E) (nI t) (nI t) held first ice salt br cold w s f wm ly air ch tot g wr hb = rc15 (nI U) way onep (part + 1) (nI E) held' first' ice' salt br' cold' w s f wm' ly' air' ch' tot' g' wr' hb' ∧
        f_X9_run_L124 rc23 mparts sF pOA sw how strong plan instead fu2 (nI U) (nI t) all_ (nI pp) whoM pace' (nI k) ice salt br cold wm tot ly air ch held first sf fl tr = rc23 (nI U) (nI E) all_ (nI pp + 1) ice' salt br' cold' wm' tot' ly' air' ch' held' first' sf' fl' tr' ∧
        RI w s f sw E held' first' ice' salt br' cold' ly' tot' g' fl' wr' tr' hb' sf' := by
  intro n
  induction n with
  | zero =>
    intro t k fu1 fu2 held first ice br cold wm ly air ch tot sf g fl wr tr hb ht hk hor f1 f2 hR
    obtain ⟨fu1, rfl⟩ : ∃ k, fu1 = k + 1 := ⟨fu1 - 1, by omega⟩
    obtain ⟨fu2, rfl⟩ : ∃ k, fu2 = k + 1 := ⟨fu2 - 1, by omega⟩
    have ht' : t = E := by omega
    subst ht'
    refine ⟨held, first, ice, br, cold, wm, ly, air, ch, tot, sf, g, fl, wr, tr, hb, ?_, ?_, hR⟩
    · rw [f_X5_go_L170, if_pos (show nI t ≤ nI t from nI_le (Nat.le_refl t) (by omega))]
    · rw [f_X9_run_L124, x32, gd_ok (n_in (show 3 * pp + 2 < 60 by omega) (by decide)), nI_clamp (show 3 * pp + 2 < 2 ^ 31 by omega), hlen]
      by_cases c : len ≤ k
      · rw [if_pos (nI_le c (by omega))]
      · rw [if_neg (nI_ge (by omega) (by omega)), if_pos (nI_le (by omega) (by omega))]
  | succ n ih =>
    intro t k fu1 fu2 held first ice br cold wm ly air ch tot sf g fl wr tr hb ht hk hor f1 f2 hR
    obtain ⟨fu1, rfl⟩ : ∃ k, fu1 = k + 1 := ⟨fu1 - 1, by omega⟩
    obtain ⟨fu2, rfl⟩ : ∃ k, fu2 = k + 1 := ⟨fu2 - 1, by omega⟩
    obtain ⟨held', first', ice', br', cold', wm', ly', air', ch', tot', sf', g', fl', wr', tr', hb', q1, q2, hR'⟩ := min2 (strong := strong) (wm := wm) (air := air) (ch := ch) h2 h3 h4 hR (by omega) child pace pace' str h9 hch
    obtain ⟨held2, first2, ice2, br2, cold2, wm2, ly2, air2, ch2, tot2, sf2, g2, fl2, wr2, tr2, hb2, r1, r2, hR2⟩ := ih (t + 1) (k + 1) fu1 fu2 held' first' ice' br' cold' wm' ly' air' ch' tot' sf' g' fl' wr' tr' hb' (by omega) (by omega) (by omega) (by omega) (by omega) hR'
    refine ⟨held2, first2, ice2, br2, cold2, wm2, ly2, air2, ch2, tot2, sf2, g2, fl2, wr2, tr2, hb2, ?_, ?_, hR2⟩
    · rw [f_X5_go_L170, if_neg (nI_ge (show t < E by omega) (by omega)), hat, eb1, q1, eb14, nI_1]
      exact r1
    · rw [f_X9_run_L124, x32, gd_ok (n_in (show 3 * pp + 2 < 60 by omega) (by decide)), nI_clamp (show 3 * pp + 2 < 2 ^ 31 by omega), hlen, if_neg (nI_ge (show k < len by omega) (by omega)), if_neg (nI_ge (show t < U by omega) (by omega))]
      rcases hmw with ⟨m1, m2⟩ | ⟨i, hi, m1, m2⟩
      · rw [if_pos (show (4 : Int32) ≤ whoM by rw [m1]; decide)]
        have e : child = whoM := by rw [m1, m2]
        rw [e] at q2
        rw [q2, eb13, nI_1, nI_1]
        exact r2
      · rw [if_neg (show ¬ (4 : Int32) ≤ whoM by rw [m1]; exact nI_ge hi (by decide)), gd_ok (show ¬ (whoM < 0 ∨ 4 ≤ whoM.toNatClampNeg) by rw [m1]; exact n_in hi (by decide)), show instead whoM.toNatClampNeg = child from by rw [m1, nI_clamp (show i < 2 ^ 31 by omega)]; exact m2, q2, eb13, nI_1, nI_1]
        exact r2

set_option maxHeartbeats 4000000 in
theorem out2 {w s f sw : Int32} {how strong strengths instead plan numbers who am le : Nat → Int32} {mins way onep sF pOA all_ : Int32} (h2 : how 2 = w) (h3 : how 3 = s) (h4 : how 4 = f) (N : Nat) (hPL : PL N who am le plan) (hst : ag 4 strengths strong) (hway : ∀ i, i < 4 → ∃ j, j < 4 ∧ f_X8_childInPlace way (nI i) = some (nI j) ∧ instead i = nI j) (hpace : (onep = 0 ∧ pOA < 0) ∨ (onep = pOA ∧ ¬ onep = 0 ∧ ¬ pOA < 0 ∧ onep.toInt ≤ 9)) (U : Nat) (hU : U ≤ 117) (hall : all_ = 0 ↔ ¬ nI U = mins) :
    ∀ (n p fu1 fu2 t : Nat) (held first ice salt br cold wm ly air ch tot sf : Int32) (g fl wr tr hb : Nat → Int32), p + n = N → n < fu1 → n < fu2 → t ≤ U → salt.toInt ≤ 3000 + 900 * p → RI w s f sw t held first ice salt br cold ly tot g fl wr tr hb sf →
      ∃ (t' : Nat) (held' first' ice' salt' br' cold' wm' ly' air' ch' tot' sf' : Int32) (g' fl' wr' tr' hb' : Nat → Int32), t' ≤ U ∧
        f_X5_go_L15 numbers strengths (nI N) mins who am le fu1 (nI U) way onep (nI p) (nI t) held first ice salt br cold w s f wm ly air ch tot g wr hb = some (nI t', held', first', ice', salt', br', cold', w, s, f, wm', ly', air', ch', tot', g', wr', hb') ∧
        f_X9_run_L23 (nI N) sF pOA sw how strong plan instead fu2 (nI U) (nI t) all_ (nI p) ice salt br cold wm tot ly air ch held first sf fl tr = some (ice', salt', br', cold', wm', tot', ly', air', ch', held', first', sf', fl', tr') ∧
        RI w s f sw t' held' first' ice' salt' br' cold' ly' tot' g' fl' wr' tr' hb' sf' := by
  intro n
  induction n with
  | zero =>
    intro p fu1 fu2 t held first ice salt br cold wm ly air ch tot sf g fl wr tr hb hp f1 f2 ht hsalt hR
    obtain ⟨fu1, rfl⟩ : ∃ k, fu1 = k + 1 := ⟨fu1 - 1, by omega⟩
    obtain ⟨fu2, rfl⟩ : ∃ k, fu2 = k + 1 := ⟨fu2 - 1, by omega⟩
    have hN := hPL.1
    have hpN : p = N := by omega
    subst hpN
    refine ⟨t, held, first, ice, salt, br, cold, wm, ly, air, ch, tot, sf, g, fl, wr, tr, hb, ht, ?_, ?_, hR⟩
    · rw [f_X5_go_L15, if_pos (nI_le (Nat.le_refl p) (by omega))]
    · rw [f_X9_run_L23, if_pos (nI_le (Nat.le_refl p) (by omega))]
  | succ n ih =>
    intro p fu1 fu2 t held first ice salt br cold wm ly air ch tot sf g fl wr tr hb hp f1 f2 ht hsalt hR
    obtain ⟨fu1, rfl⟩ : ∃ k, fu1 = k + 1 := ⟨fu1 - 1, by omega⟩
    obtain ⟨fu2, rfl⟩ : ∃ k, fu2 = k + 1 := ⟨fu2 - 1, by omega⟩
    have hN := hPL.1
    obtain ⟨ew, ea, el, a, nn, eam, ha9, ele, hn9, hkind⟩ := hPL.2 p (by omega)
    have hpN : ¬ nI N ≤ nI p := nI_ge (by omega) (by omega)
    have c20 : p < 20 := by omega
    rw [f_X5_go_L15, f_X9_run_L23, if_neg hpN, if_neg hpN, e_at p c20 (by decide) rfl, eb1, e_at p c20 (by decide) rfl, eb1, x3, gd_ok (n_in (show 3 * p < 60 by omega) (by decide)), nI_clamp (show 3 * p < 2 ^ 31 by omega), ← ew]
    have hsalt0 := hR.1.2.2.2.2.1.1
    have i63 : ¬ (nI (3 * p + 1) < 0 ∨ 60 ≤ (nI (3 * p + 1)).toNatClampNeg) := n_in (show 3 * p + 1 < 60 by omega) (by decide)
    have cl63 : (nI (3 * p + 1)).toNatClampNeg = 3 * p + 1 := nI_clamp (by omega)
    by_cases c5 : who p = 5
    · rw [if_pos c5, if_pos c5]
      have e1 : (100 * nI a).toInt = 100 * a := by rw [t_ml (by rw [i100, t_n a (by omega)]; omega) (by rw [i100, t_n a (by omega)]; omega), i100, t_n a (by omega)]
      have e2 : (salt + 100 * nI a).toInt = salt.toInt + 100 * a := by rw [t_ad (by omega) (by omega), e1]
      have hR2 : RI w s f sw t held first ice (salt + 100 * nI a) br cold ly tot g fl wr tr hb sf := by
        obtain ⟨⟨q1, q2, q3, q4, q5, q6, q7⟩, rest⟩ := hR
        exact ⟨⟨q1, q2, q3, q4, by rw [e2]; omega, q6, q7⟩, rest⟩
      have hz : salt + 0 = salt := Int32.add_zero salt
      have go1 := ih (p + 1) fu1 fu2 t held first ice (salt + 100 * nI a) br cold wm ly air ch tot sf g fl wr tr hb (by omega) (by omega) (by omega) ht (by rw [e2]; omega) hR2
      have go0 := ih (p + 1) fu1 fu2 t held first ice salt br cold wm ly air ch tot sf g fl wr tr hb (by omega) (by omega) (by omega) ht (by omega) hR
      unfold f_X5_go_L77 f_X9_run_L63
      rw [x31, gd_ok i63, cl63, ← ea, eam, nI_1, if_neg (show ¬ (1 : Int32) = 0 by decide), if_pos (show (0 : Int32) = 0 from rfl), hz]
      by_cases c1 : nI t < nI U
      · rw [if_pos c1, if_pos c1]
        exact go1
      · rw [if_neg c1, if_neg c1]
        by_cases c2 : nI U = mins
        · rw [if_pos c2, if_neg (fun h => (hall.mp h) c2)]
          exact go1
        · rw [if_neg c2, if_pos (hall.mpr c2)]
          exact go0
    · rw [if_neg c5, if_neg c5]
      -- MINUTES of this PART
      obtain ⟨E, m, hE, hEU, hm, hmor, hEe⟩ : ∃ E m : Nat, t + m = E ∧ E ≤ U ∧ m ≤ nn ∧ (m = nn ∨ t + m = U) ∧ (if nI t + nI nn < nI U then nI t + nI nn else nI U) = nI E := by
        rw [nI_add]
        by_cases c : t + nn < U
        · exact ⟨t + nn, nn, rfl, by omega, by omega, Or.inl rfl, by rw [if_pos ((nI_lt_iff (by omega) (by omega)).mpr c)]⟩
        · exact ⟨U, U - t, by omega, by omega, by omega, by omega, by rw [if_neg (fun h => c ((nI_lt_iff (by omega) (by omega)).mp h))]⟩
      have inner : ∀ (child pace pace' str whoM : Int32), f_X8_at 4 strengths child = some str → ((whoM = 4 ∧ child = 4) ∨ ∃ i, i < 4 ∧ whoM = nI i ∧ instead i = child) → (child = 4 ∨ (pace' = pace ∧ ∃ j, j < 4 ∧ child = nI j ∧ strong j = str)) → pace.toInt ≤ 9 →
          ∃ (t' : Nat) (held' first' ice' salt' br' cold' wm' ly' air' ch' tot' sf' : Int32) (g' fl' wr' tr' hb' : Nat → Int32), t' ≤ U ∧
            f_X5_go_L141 (f_X5_go_L15 numbers strengths (nI N) mins who am le fu1) numbers strengths (nI N) mins who am le pace (nI U) way onep (nI p) child (nI t) held first ice salt br cold w s f wm ly air ch tot g wr hb = some (nI t', held', first', ice', salt', br', cold', w, s, f, wm', ly', air', ch', tot', g', wr', hb') ∧
            f_X9_run_L124 (f_X9_run_L23 (nI N) sF pOA sw how strong plan instead fu2) (nI N) sF pOA sw how strong plan instead FU (nI U) (nI t) all_ (nI p) whoM pace' 0 ice salt br cold wm tot ly air ch held first sf fl tr = some (ice', salt', br', cold', wm', tot', ly', air', ch', held', first', sf', fl', tr') ∧
            RI w s f sw t' held' first' ice' salt' br' cold' ly' tot' g' fl' wr' tr' hb' sf' := by
        intro child pace pace' str whoM k1 k2 k3 k4
        obtain ⟨held2, first2, ice2, br2, cold2, wm2, ly2, air2, ch2, tot2, sf2, g2, fl2, wr2, tr2, hb2, r1, r2, hR2⟩ := in2 (salt := salt) (instead := instead) (plan := plan) (numbers := numbers) (who := who) (am := am) (le := le) (parts := nI N) (mins := mins) (way := way) (onep := onep) (part := nI p) (sF := sF) (pOA := pOA) (all_ := all_) (mparts := nI N) (rc15 := f_X5_go_L15 numbers strengths (nI N) mins who am le fu1) (rc23 := f_X9_run_L23 (nI N) sF pOA sw how strong plan instead fu2) h2 h3 h4 k1 k2 k3 k4 p c20 nn U E (by rw [← el]; exact ele) hn9 hU hEU m t 0 FU FU held first ice br cold wm ly air ch tot sf g fl wr tr hb hE (by omega) (by omega) (FU_gt (by omega)) (FU_gt (by omega)) hR
        obtain ⟨t', held', first', ice', salt', br', cold', wm', ly', air', ch', tot', sf', g', fl', wr', tr', hb', u1, u2, u3, u4⟩ := ih (p + 1) fu1 fu2 E held2 first2 ice2 salt br2 cold2 wm2 ly2 air2 ch2 tot2 sf2 g2 fl2 wr2 tr2 hb2 (by omega) (by omega) (by omega) hEU (by omega) hR2
        refine ⟨t', held', first', ice', salt', br', cold', wm', ly', air', ch', tot', sf', g', fl', wr', tr', hb', u1, ?_, ?_, u4⟩
        · unfold f_X5_go_L141
          rw [e_at p c20 (by decide) rfl, eb1, ele, hEe, r1, nI_1]
          exact u2
        · rw [← nI_0, r2, nI_1]
          exact u3
      have ha : (am p).toInt ≤ 9 := by rw [eam, t_n a (by omega)]; omega
      rcases hkind with ⟨h5, -⟩ | h4' | ⟨i, hi, hwi⟩
      · exact absurd h5 c5
      · -- nobody
        rw [h4', show f_X8_isChild 4 = some 0 from by decide, eb1, if_pos (show (0 : Int32) = 0 from rfl), if_pos (show (4 : Int32) ≤ 4 by decide)]
        unfold f_X9_run_L108
        rw [x31, gd_ok i63, cl63, ← ea]
        by_cases c0 : onep = 0
        · rw [if_pos c0]
          exact inner 4 (am p) (am p) 0 4 (e_at4 strengths) (Or.inl ⟨rfl, rfl⟩) (Or.inl rfl) ha
        · rw [if_neg c0]
          exact inner 4 onep (am p) 0 4 (e_at4 strengths) (Or.inl ⟨rfl, rfl⟩) (Or.inl rfl) (by
            rcases hpace with ⟨h, -⟩ | ⟨-, -, -, h⟩
            · exact absurd h c0
            · exact h)
      · obtain ⟨j, hj, hw1, hw2⟩ := hway i hi
        have hch : f_X8_isChild (nI i) = some 1 := by
          unfold f_X8_isChild
          rw [if_neg (nI_pos (by omega)), if_neg (show ¬ (4 : Int32) ≤ nI i from nI_ge hi (by decide))]
        rw [hwi, hch, eb1, if_neg (show ¬ (1 : Int32) = 0 by decide), hw1, eb1, if_neg (show ¬ (4 : Int32) ≤ nI i from nI_ge hi (by decide))]
        have hstr : f_X8_at 4 strengths (nI j) = some (strong j) := by rw [e_at j hj (by decide) rfl, hst j hj]
        rcases hpace with ⟨p1, p2⟩ | ⟨p1, p2, p3, p4⟩
        · rw [if_pos p1, if_pos p2]
          unfold f_X9_run_L108
          rw [x31, gd_ok i63, cl63, ← ea]
          exact inner (nI j) (am p) (am p) (strong j) (nI i) hstr (Or.inr ⟨i, hi, rfl, hw2⟩) (Or.inr ⟨rfl, j, hj, rfl, rfl⟩) ha
        · rw [if_neg p2, if_neg p3]
          exact inner (nI j) onep pOA (strong j) (nI i) hstr (Or.inr ⟨i, hi, rfl, hw2⟩) (Or.inr ⟨p1.symm, j, hj, rfl, rfl⟩) p4
