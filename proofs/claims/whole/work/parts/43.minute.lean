def sfS (sf sw at_ st : Int32) : Int32 := if 0 ≤ sf then sf else if st < sw then sf else at_
theorem m_150 {w salt sw who at_ can pb ice br cd wm tot ly air ch held hf sf : Int32} {how strong fl tired : Nat → Int32} (h2 : how 2 = w) (hd : ¬ w = 0) : ∃ T', f_X9_minute_L150 salt sw how strong FU who at_ can pb 0 ice br cd wm tot ly air ch held hf sf fl tired = some (ice, br, cd, wm, tot, ly, air, ch, held, hf, sfS sf sw at_ (stS w air tot), fl, T') ∧ ∀ c, c < 4 → T' c = wvS (if can = 0 then 4 else who) pb c (tired c) := by
  have L := loop_up (fun fu i T => f_X9_minute_L150 salt sw how strong fu who at_ can pb i ice br cd wm tot ly air ch held hf sf fl T) 4 (fun j T => upd T j (wvS (if can = 0 then 4 else who) pb j (T j))) (fun T => some (ice, br, cd, wm, tot, ly, air, ch, held, hf, sfS sf sw at_ (stS w air tot), fl, T)) (fun j T => ∀ c, c < 4 → T c = if c < j then wvS (if can = 0 then 4 else who) pb c (tired c) else tired c)
    (fun fu j T hj hI => by
      show f_X9_minute_L150 salt sw how strong (fu + 1) who at_ can pb (nI j) ice br cd wm tot ly air ch held hf sf fl T = f_X9_minute_L150 salt sw how strong fu who at_ can pb (nI (j + 1)) ice br cd wm tot ly air ch held hf sf fl (upd T j (wvS (if can = 0 then 4 else who) pb j (T j)))
      have hin : ¬ (nI j < 0 ∨ 4 ≤ (nI j).toNatClampNeg) := n_in hj (by decide)
      have hcl : (nI j).toNatClampNeg = j := nI_clamp (by omega)
      have hin2 : ¬ (nI j < 0 ∨ 4 ≤ j) := by rw [hcl] at hin; exact hin
      have hj4 : ¬ nI j = 4 := fun h => by
        have h5 : nI j = nI 4 := h
        rw [nI_eq (by omega) (by decide)] at h5; omega
      have k188 : ¬ nI j = (if can = 0 then 4 else who) → f_X9_minute_L188 (f_X9_minute_L150 salt sw how strong fu) salt sw how strong (nI j) who at_ can pb (nI j) ice br cd wm tot ly air ch held hf sf fl T = f_X9_minute_L150 salt sw how strong fu who at_ can pb (nI (j + 1)) ice br cd wm tot ly air ch held hf sf fl (upd T j (wvS (if can = 0 then 4 else who) pb j (T j))) := by
        intro hne
        unfold f_X9_minute_L188
        rw [gd_ok hin, hcl, nI_1]
        unfold wvS
        rw [if_neg hne]
        by_cases c1 : T j ≤ 0
        · rw [if_pos c1, if_pos c1, gd_ok hin2]
        · rw [if_neg c1, if_neg c1, gd_ok hin2, gd_ok hin2]
      rw [f_X9_minute_L150, if_neg (show ¬ (4 : Int32) ≤ nI j from nI_ge hj (by decide))]
      by_cases c1 : nI j = who
      · rw [if_pos c1]
        by_cases c2 : can = 0
        · rw [if_pos c2, k188 (by rw [if_pos c2]; exact hj4)]
        · rw [if_neg c2, gd_ok hin, gd_ok hin, hcl, nI_1]
          unfold wvS
          rw [if_neg c2, if_pos c1]
      · rw [if_neg c1, k188 (by
          by_cases c2 : can = 0
          · rw [if_pos c2]; exact hj4
          · rw [if_neg c2]; exact c1)])
    (fun j T hj hI c hc => by
      show upd T j (wvS (if can = 0 then 4 else who) pb j (T j)) c = _
      rw [upd_at]
      have hwj : T j = tired j := by rw [hI j hj, if_neg (show ¬ j < j by omega)]
      by_cases e : c = j
      · subst e; rw [if_pos rfl, if_pos (show c < c + 1 by omega), hwj]
      · rw [if_neg e, hI c hc]
        by_cases h2 : c < j
        · rw [if_pos h2, if_pos (show c < j + 1 by omega)]
        · rw [if_neg h2, if_neg (show ¬ c < j + 1 by omega)])
    (fun fu T hI => by
      show f_X9_minute_L150 salt sw how strong (fu + 1) who at_ can pb (nI 4) ice br cd wm tot ly air ch held hf sf fl T = _
      rw [f_X9_minute_L150, if_pos (show (4 : Int32) ≤ nI 4 by decide)]
      unfold sfS
      by_cases c1 : 0 ≤ sf
      · rw [if_pos c1, if_pos c1]
      · rw [if_neg c1, if_neg c1, m_stiff h2 hd, eb1]
        by_cases c2 : stS w air tot < sw
        · rw [if_pos c2, if_pos c2]
        · rw [if_neg c2, if_neg c2])
    4 FU 0 tired rfl (FU_gt (by decide)) (fun c hc => by rw [if_neg (show ¬ c < 0 by omega)])
  refine ⟨_, L.1, fun c hc => ?_⟩
  rw [L.2 c hc, if_pos hc]
theorem m_99 {w s f : Int32} {salt sw who at_ st can pb ice br cold wm tot ly air ch held hf sf : Int32} {how strong fl tired : Nat → Int32} (h2 : how 2 = w) (h3 : how 3 = s) (h4 : how 4 = f) (d0 : ¬ w = 0) (d1 : ¬ 10 + ly = 0) (d2 : ¬ w - tot - ly = 0) (d3 : ¬ w - tot - l1S w s ly tot wm (flS wm ly (cdS ice salt br cold)) = 0) (d4 : ¬ w + s + f = 0) (d5 : ¬ ice ≤ 0 → ¬ ice + br + salt = 0) (hc0 : 0 ≤ cold.toInt) (k : Nat) (hk : k < 64) (hs : szS (l1S w s ly tot wm (flS wm ly (cdS ice salt br cold))) = nI k) :
    ∃ T', f_X9_minute_L99 salt sw how strong who at_ st can pb ice br cold wm tot ly air ch held hf sf fl tired = some (ice - mlS ice (flS wm ly (cdS ice salt br cold)), br + mlS ice (flS wm ly (cdS ice salt br cold)), cdS ice salt br cold, w1S w s f ly tot wm (flS wm ly (cdS ice salt br cold)), tot + ofS (l1S w s ly tot wm (flS wm ly (cdS ice salt br cold))) pb, l1S w s ly tot wm (flS wm ly (cdS ice salt br cold)) - ofS (l1S w s ly tot wm (flS wm ly (cdS ice salt br cold))) pb, arS f air ch st pb, chS ch st pb, held, hf, sfS sf sw at_ (stS w (arS f air ch st pb) (tot + ofS (l1S w s ly tot wm (flS wm ly (cdS ice salt br cold))) pb)), upd fl k (fl k + ofS (l1S w s ly tot wm (flS wm ly (cdS ice salt br cold))) pb), T') ∧ ∀ c, c < 4 → T' c = wvS (if can = 0 then 4 else who) pb c (tired c) := by
  have k132 : f_X9_minute_L99 salt sw how strong who at_ st can pb ice br cold wm tot ly air ch held hf sf fl tired = f_X9_minute_L132 salt sw how strong (cdS ice salt br cold) who at_ st can pb ice br cold wm tot ly air ch held hf sf fl tired := by
    unfold f_X9_minute_L99 cdS
    by_cases c1 : ice ≤ 0
    · rw [if_pos c1, if_pos c1]
      have e : (cold - 5).toInt = cold.toInt - 5 := by
        have := t_hi cold
        rw [t_sb (by rw [i5]; omega) (by rw [i5]; omega), i5]
      by_cases c2 : (5 : Int32) ≤ cold
      · rw [if_pos c2]
        rw [t_le, i5] at c2
        by_cases c3 : 0 < cold - 5
        · rw [if_pos c3]
        · rw [if_neg c3]
          rw [t_lt, i0, e] at c3
          have : cold - 5 = 0 := by rw [t_eq, e, i0]; omega
          rw [this]
      · rw [if_neg c2]
        rw [t_le, i5] at c2
        rw [if_neg (by rw [t_lt, i0, e]; omega)]
    · rw [if_neg c1, if_neg c1, m_coldOf (d5 c1), eb1]
  rw [k132]
  unfold f_X9_minute_L132
  rw [m_freeze h2 h3 h4 d1 d2 d3 d4, eb4, m_scrape h4 k hk hs, eb5]
  exact m_150 h2 d0
theorem m_min {w s f : Int32} (ice salt br cold wm tot ly air ch held hf sw sf : Int32) (how strong fl tired : Nat → Int32) (who pace at_ str wrc : Int32) (h2 : how 2 = w) (h3 : how 3 = s) (h4 : how 4 = f) (d0 : ¬ w = 0) (d1 : ¬ 10 + ly = 0) (d2 : ¬ w - tot - ly = 0) (d3 : ¬ w - tot - l1S w s ly tot wm (flS wm ly (cdS ice salt br cold)) = 0) (d4 : ¬ w + s + f = 0) (d5 : ¬ ice ≤ 0 → ¬ ice + br + salt = 0) (hc0 : 0 ≤ cold.toInt) (k : Nat) (hk : k < 64) (hs : szS (l1S w s ly tot wm (flS wm ly (cdS ice salt br cold))) = nI k)
    (hwho : who = 4 ∨ ∃ j, j < 4 ∧ who = nI j ∧ strong j = str ∧ tired j = wrc) (hhf : held = 0 ↔ ¬ 0 ≤ hf) :
    ∃ T', f_X9_minute ice salt br cold wm tot ly air ch held hf sw sf how strong fl tired who pace at_ = some (ice - mlS ice (flS wm ly (cdS ice salt br cold)), br + mlS ice (flS wm ly (cdS ice salt br cold)), cdS ice salt br cold, w1S w s f ly tot wm (flS wm ly (cdS ice salt br cold)), tot + ofS (l1S w s ly tot wm (flS wm ly (cdS ice salt br cold))) (pbS who pace str wrc (stS w air tot)), l1S w s ly tot wm (flS wm ly (cdS ice salt br cold)) - ofS (l1S w s ly tot wm (flS wm ly (cdS ice salt br cold))) (pbS who pace str wrc (stS w air tot)), arS f air ch (stS w air tot) (pbS who pace str wrc (stS w air tot)), chS ch (stS w air tot) (pbS who pace str wrc (stS w air tot)), hdS who pace str wrc (stS w air tot) held, fsS who pace str wrc (stS w air tot) held hf at_, sfS sf sw at_ (stS w (arS f air ch (stS w air tot) (pbS who pace str wrc (stS w air tot))) (tot + ofS (l1S w s ly tot wm (flS wm ly (cdS ice salt br cold))) (pbS who pace str wrc (stS w air tot)))), upd fl k (fl k + ofS (l1S w s ly tot wm (flS wm ly (cdS ice salt br cold))) (pbS who pace str wrc (stS w air tot))), T') ∧ ∀ c, c < 4 → T' c = wvS (tuS who pace str wrc (stS w air tot)) (pbS who pace str wrc (stS w air tot)) c (tired c) := by
  have h10 : ¬ (1 : Int32) = 0 := by decide
  unfold f_X9_minute
  rw [m_stiff h2 d0, eb1]
  unfold pbS tuS hdS fsS
  by_cases c1 : who = 4
  · simp only [if_pos c1]
    rw [if_pos (show (4 : Int32) ≤ who by rw [c1]; decide)]
    unfold f_X9_minute_L41 f_X9_minute_L54
    rw [if_pos rfl, if_pos (show (4 : Int32) ≤ who by rw [c1]; decide)]
    obtain ⟨T', e1, e2⟩ := m_99 (salt := salt) (sw := sw) (who := who) (at_ := at_) (st := stS w air tot) (can := 0) (pb := 0) (air := air) (ch := ch) (held := held) (hf := hf) (sf := sf) (strong := strong) (fl := fl) (tired := tired) h2 h3 h4 d0 d1 d2 d3 d4 d5 hc0 k hk hs
    exact ⟨T', e1, fun c hc => by rw [e2 c hc, if_pos rfl]⟩
  · obtain ⟨j, hj, hwj, hst, htr⟩ := hwho.resolve_left c1
    have hin : ¬ (who < 0 ∨ 4 ≤ who.toNatClampNeg) := by rw [hwj]; exact n_in hj (by decide)
    have hcl : who.toNatClampNeg = j := by rw [hwj]; exact nI_clamp (by omega)
    have h4n : ¬ (4 : Int32) ≤ who := by rw [hwj]; exact nI_ge hj (by decide)
    simp only [if_neg c1]
    rw [if_neg h4n]
    by_cases c2 : pace ≤ 0
    · simp only [if_pos c2]
      unfold f_X9_minute_L41 f_X9_minute_L54
      rw [if_pos rfl, if_neg h4n, if_pos c2]
      obtain ⟨T', e1, e2⟩ := m_99 (salt := salt) (sw := sw) (who := who) (at_ := at_) (st := stS w air tot) (can := 0) (pb := 0) (air := air) (ch := ch) (held := held) (hf := hf) (sf := sf) (strong := strong) (fl := fl) (tired := tired) h2 h3 h4 d0 d1 d2 d3 d4 d5 hc0 k hk hs
      exact ⟨T', e1, fun c hc => by rw [e2 c hc, if_pos rfl]⟩
    · simp only [if_neg c2]
      rw [gd_ok hin, gd_ok hin, hcl, hst, htr]
      by_cases c3 : str - wrc < stS w air tot + 4 * pace
      · simp only [if_pos c3]
        unfold f_X9_minute_L41 f_X9_minute_L54
        rw [if_pos rfl, if_neg h4n, if_neg c2, if_pos rfl]
        by_cases c4 : 0 ≤ hf
        · rw [if_pos c4, if_neg (fun h => (hhf.mp h) c4)]
          obtain ⟨T', e1, e2⟩ := m_99 (salt := salt) (sw := sw) (who := who) (at_ := at_) (st := stS w air tot) (can := 0) (pb := 0) (air := air) (ch := ch) (held := held + 1) (hf := hf) (sf := sf) (strong := strong) (fl := fl) (tired := tired) h2 h3 h4 d0 d1 d2 d3 d4 d5 hc0 k hk hs
          exact ⟨T', e1, fun c hc => by rw [e2 c hc, if_pos rfl]⟩
        · rw [if_neg c4, if_pos (hhf.mpr c4)]
          obtain ⟨T', e1, e2⟩ := m_99 (salt := salt) (sw := sw) (who := who) (at_ := at_) (st := stS w air tot) (can := 0) (pb := 0) (air := air) (ch := ch) (held := held + 1) (hf := at_) (sf := sf) (strong := strong) (fl := fl) (tired := tired) h2 h3 h4 d0 d1 d2 d3 d4 d5 hc0 k hk hs
          exact ⟨T', e1, fun c hc => by rw [e2 c hc, if_pos rfl]⟩
      · simp only [if_neg c3]
        rw [if_neg h10]
        unfold f_X9_minute_L54
        rw [if_neg h4n, if_neg c2, if_neg h10]
        obtain ⟨T', e1, e2⟩ := m_99 (salt := salt) (sw := sw) (who := who) (at_ := at_) (st := stS w air tot) (can := 1) (pb := pace) (air := air) (ch := ch) (held := held) (hf := hf) (sf := sf) (strong := strong) (fl := fl) (tired := tired) h2 h3 h4 d0 d1 d2 d3 d4 d5 hc0 k hk hs
        exact ⟨T', e1, fun c hc => by rw [e2 c hc, if_neg h10]⟩
/-! what stays true of a RUN -/
def MI (w s f ice salt br cold ly tot : Int32) : Prop := (100 ≤ w.toInt ∧ w.toInt ≤ 2000) ∧ (0 ≤ s.toInt ∧ s.toInt ≤ 600) ∧ (0 ≤ f.toInt ∧ f.toInt ≤ 400) ∧ (0 ≤ ice.toInt ∧ 0 ≤ br.toInt ∧ ice.toInt + br.toInt ≤ 9000) ∧ (0 ≤ salt.toInt ∧ salt.toInt ≤ 100000) ∧ (0 ≤ cold.toInt ∧ cold.toInt ≤ 210) ∧ (0 ≤ ly.toInt ∧ 0 ≤ tot.toInt ∧ ly.toInt + tot.toInt ≤ w.toInt - 1)
theorem fl_nn (wm ly cd : Int32) : 0 ≤ (flS wm ly cd).toInt := by
  unfold flS
  split
  · next h => rw [t_lt, i0] at h; omega
  · decide
theorem cd_rng {w s f ice salt br cold ly tot : Int32} (h : MI w s f ice salt br cold ly tot) : 0 ≤ (cdS ice salt br cold).toInt ∧ (cdS ice salt br cold).toInt ≤ 210 := by
  obtain ⟨-, -, -, ⟨a1, a2, a3⟩, ⟨b1, b2⟩, ⟨c1, c2⟩, -⟩ := h
  unfold cdS
  split
  · split
    · next h => rw [t_lt, i0] at h; rw [t_sb (by rw [i5]; omega) (by rw [i5]; omega), i5] at h ⊢; omega
    · decide
  · next h =>
    rw [t_le, i0] at h
    have e1 : (ice + br).toInt = ice.toInt + br.toInt := t_ad (by omega) (by omega)
    have e2 : (ice + br + salt).toInt = ice.toInt + br.toInt + salt.toInt := by rw [t_ad (by omega) (by omega), e1]
    have e3 : (900 * salt).toInt = 900 * salt.toInt := by rw [t_ml (by rw [i900]; omega) (by rw [i900]; omega), i900]
    have e4 : 0 ≤ (cqS ice salt br).toInt := by
      unfold cqS
      rw [t_dv (by omega) (by omega), e2, e3]
      exact Int.ediv_nonneg (by omega) (by omega)
    split
    · next h2 => rw [t_lt, i210] at h2; omega
    · decide
theorem l1_rng {w s f ice salt br cold ly tot wm fl : Int32} (h : MI w s f ice salt br cold ly tot) (hf : 0 ≤ fl.toInt) : ly.toInt ≤ (l1S w s ly tot wm fl).toInt ∧ (l1S w s ly tot wm fl).toInt + tot.toInt ≤ w.toInt - 1 := by
  obtain ⟨⟨w1, w2⟩, -, -, -, -, -, ⟨l1, l2, l3⟩⟩ := h
  unfold l1S
  have e1 : (w - tot).toInt = w.toInt - tot.toInt := t_sb (by omega) (by omega)
  have e2 : (w - tot - ly).toInt = w.toInt - tot.toInt - ly.toInt := by rw [t_sb (by omega) (by omega), e1]
  have e3 : (w - tot - ly - 1).toInt = w.toInt - tot.toInt - ly.toInt - 1 := by rw [t_sb (by rw [i1]; omega) (by rw [i1]; omega), e2, i1]
  have e4 : (fl / 80).toInt = fl.toInt / 80 := by rw [t_dv hf (by decide), i80]
  have hh := t_hi fl
  split
  · split
    · rw [t_ad (by omega) (by omega), e3]; omega
    · next h2 => rw [t_lt, e3, e4] at h2; rw [t_ad (by omega) (by omega), e4]; omega
  · omega
theorem of_rng {ly pb : Int32} (h0 : 0 ≤ ly.toInt) (p0 : 0 ≤ pb.toInt) (p9 : pb.toInt ≤ 9) : 0 ≤ (ofS ly pb).toInt ∧ (ofS ly pb).toInt ≤ ly.toInt := by
  unfold ofS
  have e : (4 * pb).toInt = 4 * pb.toInt := by rw [t_ml (by rw [i4]; omega) (by rw [i4]; omega), i4]
  split
  · omega
  · next h => rw [t_lt, e] at h; rw [e]; omega
theorem pb_rng {who pace str wrc st : Int32} (h9 : pace.toInt ≤ 9) : 0 ≤ (pbS who pace str wrc st).toInt ∧ (pbS who pace str wrc st).toInt ≤ 9 := by
  unfold pbS
  split
  · decide
  · split
    · decide
    · next h =>
      rw [t_le, i0] at h
      split
      · decide
      · omega
theorem ml_rng {ice fl : Int32} (h0 : 0 ≤ ice.toInt) (hf : 0 ≤ fl.toInt) : 0 ≤ (mlS ice fl).toInt ∧ (mlS ice fl).toInt ≤ ice.toInt := by
  unfold mlS
  have hh := t_hi fl
  have e4 : (fl / 80).toInt = fl.toInt / 80 := by rw [t_dv hf (by decide), i80]
  have e5 : (fl / 80 + 3).toInt = fl.toInt / 80 + 3 := by rw [t_ad (by rw [e4, i3]; omega) (by rw [e4, i3]; omega), e4, i3]
  split
  · next h => rw [t_lt, e5] at h; rw [e5]; omega
  · omega
theorem sz_ex {ly : Int32} (h0 : 0 ≤ ly.toInt) (h1 : ly.toInt ≤ 10000) : ∃ k, 10 ≤ k ∧ k ≤ 60 ∧ szS ly = nI k := by
  have e : (10 + ly).toInt = 10 + ly.toInt := by rw [t_ad (by rw [i10]; omega) (by rw [i10]; omega), i10]
  unfold szS
  by_cases h : 10 + ly < 60
  · rw [if_pos h]
    rw [t_lt, e, i60] at h
    refine ⟨(10 + ly.toInt).toNat, by omega, by omega, ?_⟩
    rw [t_eq, e, t_n _ (by omega)]; omega
  · rw [if_neg h]; exact ⟨60, by omega, by omega, rfl⟩
theorem mi_d {w s f ice salt br cold ly tot : Int32} (h : MI w s f ice salt br cold ly tot) (wm : Int32) : (¬ w = 0) ∧ (¬ 10 + ly = 0) ∧ (¬ w - tot - ly = 0) ∧ (¬ w - tot - l1S w s ly tot wm (flS wm ly (cdS ice salt br cold)) = 0) ∧ (¬ w + s + f = 0) ∧ (¬ ice ≤ 0 → ¬ ice + br + salt = 0) ∧ ∃ k, 10 ≤ k ∧ k ≤ 60 ∧ szS (l1S w s ly tot wm (flS wm ly (cdS ice salt br cold))) = nI k := by
  have hl := l1_rng (wm := wm) h (fl_nn wm ly (cdS ice salt br cold))
  generalize l1S w s ly tot wm (flS wm ly (cdS ice salt br cold)) = L1 at hl ⊢
  obtain ⟨⟨w1, w2⟩, ⟨s1, s2⟩, ⟨f1, f2⟩, ⟨a1, a2, a3⟩, ⟨b1, b2⟩, ⟨c1, c2⟩, ⟨l1, l2, l3⟩⟩ := h
  have e1 : (w - tot).toInt = w.toInt - tot.toInt := t_sb (by omega) (by omega)
  have e2 : (w - tot - ly).toInt = w.toInt - tot.toInt - ly.toInt := by rw [t_sb (by omega) (by omega), e1]
  have e3 : (w - tot - L1).toInt = w.toInt - tot.toInt - L1.toInt := by rw [t_sb (by omega) (by omega), e1]
  have e4 : (w + s).toInt = w.toInt + s.toInt := t_ad (by omega) (by omega)
  have e5 : (w + s + f).toInt = w.toInt + s.toInt + f.toInt := by rw [t_ad (by omega) (by omega), e4]
  have e6 : (ice + br).toInt = ice.toInt + br.toInt := t_ad (by omega) (by omega)
  have e7 : (ice + br + salt).toInt = ice.toInt + br.toInt + salt.toInt := by rw [t_ad (by omega) (by omega), e6]
  have e8 : (10 + ly).toInt = 10 + ly.toInt := by rw [t_ad (by rw [i10]; omega) (by rw [i10]; omega), i10]
  refine ⟨fun h => ?_, fun h => ?_, fun h => ?_, fun h => ?_, fun h => ?_, fun h0 h => ?_, sz_ex (by omega) (by omega)⟩
  · rw [t_eq, i0] at h; omega
  · rw [t_eq, i0, e8] at h; omega
  · rw [t_eq, i0, e2] at h; omega
  · rw [t_eq, i0, e3] at h; omega
  · rw [t_eq, i0, e5] at h; omega
  · rw [t_le, i0] at h0; rw [t_eq, i0, e7] at h; omega
theorem mi_step {w s f ice salt br cold ly tot : Int32} (h : MI w s f ice salt br cold ly tot) (wm pb : Int32) (p0 : 0 ≤ pb.toInt) (p9 : pb.toInt ≤ 9) : MI w s f (ice - mlS ice (flS wm ly (cdS ice salt br cold))) salt (br + mlS ice (flS wm ly (cdS ice salt br cold))) (cdS ice salt br cold) (l1S w s ly tot wm (flS wm ly (cdS ice salt br cold)) - ofS (l1S w s ly tot wm (flS wm ly (cdS ice salt br cold))) pb) (tot + ofS (l1S w s ly tot wm (flS wm ly (cdS ice salt br cold))) pb) := by
  have hf := fl_nn wm ly (cdS ice salt br cold)
  have hl := l1_rng (wm := wm) h hf
  have hcd := cd_rng h
  have hml := ml_rng h.2.2.2.1.1 hf
  generalize flS wm ly (cdS ice salt br cold) = FL at hf hl hml ⊢
  generalize l1S w s ly tot wm FL = L1 at hl ⊢
  obtain ⟨⟨w1, w2⟩, ⟨s1, s2⟩, ⟨f1, f2⟩, ⟨a1, a2, a3⟩, ⟨b1, b2⟩, ⟨c1, c2⟩, ⟨l1, l2, l3⟩⟩ := h
  have ho := of_rng (ly := L1) (by omega) p0 p9
  generalize ofS L1 pb = OF at ho ⊢
  generalize mlS ice FL = ML at hml ⊢
  have e1 : (ice - ML).toInt = ice.toInt - ML.toInt := t_sb (by omega) (by omega)
  have e2 : (br + ML).toInt = br.toInt + ML.toInt := t_ad (by omega) (by omega)
  have e3 : (L1 - OF).toInt = L1.toInt - OF.toInt := t_sb (by omega) (by omega)
  have e4 : (tot + OF).toInt = tot.toInt + OF.toInt := t_ad (by omega) (by omega)
  unfold MI
  rw [e1, e2, e3, e4]
  omega
