/-! grams: none below 0, their sum is FROZEN -/
def sI (g : Nat → Int32) : Nat → Int
  | 0 => 0
  | n + 1 => sI g n + (g n).toInt
theorem sI_upd (g : Nat → Int32) (k : Nat) (v : Int32) : ∀ n, sI (upd g k v) n = if k < n then sI g n - (g k).toInt + v.toInt else sI g n := by
  intro n
  induction n with
  | zero => rfl
  | succ n ih =>
    show sI (upd g k v) n + (upd g k v n).toInt = _
    rw [ih, upd_at]
    show _ = if k < n + 1 then sI g n + (g n).toInt - (g k).toInt + v.toInt else sI g n + (g n).toInt
    by_cases h1 : k < n
    · rw [if_pos h1, if_pos (show k < n + 1 by omega), if_neg (show ¬ n = k by omega)]; omega
    · rw [if_neg h1]
      by_cases h2 : n = k
      · subst h2; rw [if_pos rfl, if_pos (show n < n + 1 by omega)]; omega
      · rw [if_neg h2, if_neg (show ¬ k < n + 1 by omega)]
theorem sI_nn {g : Nat → Int32} : ∀ n, (∀ k, k < n → 0 ≤ (g k).toInt) → 0 ≤ sI g n ∧ ∀ k, k < n → (g k).toInt ≤ sI g n := by
  intro n
  induction n with
  | zero => intro h; exact ⟨Int.le_refl 0, fun k hk => absurd hk (Nat.not_lt_zero k)⟩
  | succ n ih =>
    intro h
    obtain ⟨h1, h2⟩ := ih (fun k hk => h k (by omega))
    have h3 := h n (by omega)
    refine ⟨by show 0 ≤ sI g n + (g n).toInt; omega, fun k hk => ?_⟩
    show (g k).toInt ≤ sI g n + (g n).toInt
    by_cases e : k = n
    · subst e; omega
    · have := h2 k (by omega); omega
def GI (g : Nat → Int32) (tot : Int32) : Prop := (∀ k, k < 64 → 0 ≤ (g k).toInt) ∧ sI g 64 = tot.toInt
theorem GI_add {g : Nat → Int32} {tot of : Int32} (h : GI g tot) (k : Nat) (hk : k < 64) (h0 : 0 ≤ of.toInt) (h1 : tot.toInt + of.toInt ≤ 100000) : GI (upd g k (g k + of)) (tot + of) := by
  obtain ⟨a, b⟩ := h
  obtain ⟨n1, n2⟩ := sI_nn 64 a
  have hk2 := n2 k hk
  have hk0 := a k hk
  have e1 : (g k + of).toInt = (g k).toInt + of.toInt := t_ad (by omega) (by omega)
  have e2 : (tot + of).toInt = tot.toInt + of.toInt := t_ad (by omega) (by omega)
  refine ⟨fun j hj => ?_, ?_⟩
  · rw [upd_at]
    split
    · rw [e1]; omega
    · exact a j hj
  · rw [sI_upd, if_pos hk, e1, e2]; omega
def SF (hb : Nat → Int32) (sf sw : Int32) (t : Nat) : Prop := (0 ≤ sf ∧ ∃ n, n < t ∧ sf = nI n ∧ ¬ hb n < sw ∧ ∀ m, m < n → hb m < sw) ∨ (sf = -6 ∧ ∀ m, m < t → hb m < sw)
theorem SF_step {hb : Nat → Int32} {sf sw : Int32} {t : Nat} (ht : t < 117) (h : SF hb sf sw t) (v : Int32) : SF (upd hb t v) (sfS sf sw (nI t) v) sw (t + 1) := by
  unfold sfS
  rcases h with ⟨h0, n, hn, e, h1, h2⟩ | ⟨e, h2⟩
  · rw [if_pos h0]
    refine Or.inl ⟨h0, n, by omega, e, ?_, fun m hm => ?_⟩
    · rw [upd_at, if_neg (show ¬ n = t by omega)]; exact h1
    · rw [upd_at, if_neg (show ¬ m = t by omega)]; exact h2 m hm
  · rw [if_neg (show ¬ 0 ≤ sf by rw [e]; decide)]
    by_cases c : v < sw
    · rw [if_pos c]
      refine Or.inr ⟨e, fun m hm => ?_⟩
      rw [upd_at]
      split
      · exact c
      · exact h2 m (by omega)
    · rw [if_neg c]
      refine Or.inl ⟨nI_pos' (by omega), t, by omega, rfl, ?_, fun m hm => ?_⟩
      · rw [upd_at, if_pos rfl]; exact c
      · rw [upd_at, if_neg (show ¬ m = t by omega)]; exact h2 m hm
/-- a RUN on both sides behind t MINUTES -/
def RI (w s f sw : Int32) (t : Nat) (held first ice salt br cold ly tot : Int32) (g fl wr tr hb : Nat → Int32) (sf : Int32) : Prop :=
  MI w s f ice salt br cold ly tot ∧ ag 64 g fl ∧ ag 4 wr tr ∧ (∀ c, c < 4 → 0 ≤ (wr c).toInt ∧ (wr c).toInt ≤ 4 * t) ∧ (0 ≤ held.toInt ∧ held.toInt ≤ t) ∧ (held = 0 ↔ ¬ 0 ≤ first) ∧ GI g tot ∧ SF hb sf sw t
theorem pb4 {child p str x st : Int32} (h : child = 4) : pbS child p str x st = 0 := by unfold pbS; rw [if_pos h]
theorem tu4 {child p str x st : Int32} (h : child = 4) : tuS child p str x st = 4 := by unfold tuS; rw [if_pos h]
theorem hd4 {child p str x st hd : Int32} (h : child = 4) : hdS child p str x st hd = hd := by unfold hdS; rw [if_pos h]
theorem fs4 {child p str x st hd fs t : Int32} (h : child = 4) : fsS child p str x st hd fs t = fs := by unfold fsS; rw [if_pos h]
theorem hd_rng {child p str x st hd : Int32} {t : Nat} (ht : t < 117) (h : 0 ≤ hd.toInt ∧ hd.toInt ≤ t) : 0 ≤ (hdS child p str x st hd).toInt ∧ (hdS child p str x st hd).toInt ≤ ((t + 1 : Nat) : Int) := by
  unfold hdS
  split
  · omega
  · split
    · omega
    · split
      · rw [t_ad (by rw [i1]; omega) (by rw [i1]; omega), i1]; omega
      · omega
theorem hf_step {child p str x st hd fs : Int32} {t : Nat} (ht : t < 117) (h : 0 ≤ hd.toInt ∧ hd.toInt ≤ t) (hf : hd = 0 ↔ ¬ 0 ≤ fs) : hdS child p str x st hd = 0 ↔ ¬ 0 ≤ fsS child p str x st hd fs (nI t) := by
  unfold hdS fsS
  split
  · exact hf
  · split
    · exact hf
    · split
      · have e : (hd + 1).toInt = hd.toInt + 1 := by rw [t_ad (by rw [i1]; omega) (by rw [i1]; omega), i1]
        constructor
        · intro h2; rw [t_eq, e, i0] at h2; omega
        · intro h2
          exfalso
          apply h2
          by_cases c : hd = 0
          · rw [if_pos c]; exact nI_pos' (by omega)
          · rw [if_neg c]
            by_cases d : 0 ≤ fs
            · exact d
            · exact absurd (hf.mpr d) c
      · exact hf
theorem min2 {w s f sw : Int32} {t : Nat} {held first ice salt br cold wm ly air ch tot sf : Int32} {g fl wr tr hb how strong : Nat → Int32} (h2 : how 2 = w) (h3 : how 3 = s) (h4 : how 4 = f) (hR : RI w s f sw t held first ice salt br cold ly tot g fl wr tr hb sf) (ht : t < 117) (child pace pace' str : Int32) (h9 : pace.toInt ≤ 9) (hch : child = 4 ∨ (pace' = pace ∧ ∃ j, j < 4 ∧ child = nI j ∧ strong j = str)) :
    ∃ (held' first' ice' br' cold' wm' ly' air' ch' tot' sf' : Int32) (g' fl' wr' tr' hb' : Nat → Int32), f_X5_passMinute (nI t) held first ice salt br cold w s f wm ly air ch tot g wr hb child pace str = some (nI (t + 1), held', first', ice', br', cold', wm', ly', air', ch', tot', g', wr', hb') ∧ f_X9_minute ice salt br cold wm tot ly air ch held first sw sf how strong fl tr child pace' (nI t) = some (ice', br', cold', wm', tot', ly', air', ch', held', first', sf', fl', tr') ∧ RI w s f sw (t + 1) held' first' ice' salt br' cold' ly' tot' g' fl' wr' tr' hb' sf' := by
  obtain ⟨hM, hg, hw, hwr, hh, hhf, hG, hSF⟩ := hR
  obtain ⟨d0, d1, d2, d3, d4, d5, k, k10, k60, hs⟩ := mi_d hM wm
  have hk : k < 64 := by omega
  have hc0 : 0 ≤ cold.toInt := hM.2.2.2.2.2.1.1
  have hwr' : ∀ c, c < 4 → 0 ≤ (wr c).toInt ∧ (wr c).toInt ≤ 100000 := fun c hc => by
    have := hwr c hc
    omega
  -- both sides at one wrc
  suffices H : ∃ wrc : Int32, (child = 4 ∨ f_X1_weariness wr child = some wrc) ∧ (child = 4 ∨ ∃ j, j < 4 ∧ child = nI j ∧ strong j = str ∧ tr j = wrc) ∧ pbS child pace' str wrc (stS w air tot) = pbS child pace str wrc (stS w air tot) ∧ tuS child pace' str wrc (stS w air tot) = tuS child pace str wrc (stS w air tot) ∧ hdS child pace' str wrc (stS w air tot) held = hdS child pace str wrc (stS w air tot) held ∧ fsS child pace' str wrc (stS w air tot) held first (nI t) = fsS child pace str wrc (stS w air tot) held first (nI t) by
    obtain ⟨wrc, hwc, hwho, e1, e2, e3, e4⟩ := H
    have hpb := pb_rng (who := child) (str := str) (wrc := wrc) (st := stS w air tot) h9
    obtain ⟨wr', p1, p2⟩ := e_pass (who := tuS child pace str wrc (stS w air tot)) hwr' hpb.1 hpb.2
    have hc := c_min (nI t) held first ice salt br cold w s f wm ly air ch tot g wr hb wr' child pace str wrc k t hk hs hwc p1 ht rfl _ rfl
    rw [nI_1] at hc
    obtain ⟨T', q1, q2⟩ := m_min ice salt br cold wm tot ly air ch held first sw sf how strong fl tr child pace' (nI t) str wrc h2 h3 h4 d0 d1 d2 d3 d4 d5 hc0 k hk hs hwho hhf
    rw [e1, e3, e4] at q1
    rw [e1, e2] at q2
    refine ⟨_, _, _, _, _, _, _, _, _, _, _, _, _, _, _, _, hc, q1, ?_⟩
    have hst := mi_step hM wm (pbS child pace str wrc (stS w air tot)) hpb.1 hpb.2
    refine ⟨hst, ?_, fun c hc4 => ?_, fun c hc4 => ?_, hd_rng ht hh, hf_step ht hh hhf, ?_, SF_step ht hSF _⟩
    · rw [hg k hk]; exact ag_up hg k _
    · rw [p2 c hc4, q2 c hc4, hw c hc4]
    · rw [p2 c hc4]
      have := wv_rng (who := tuS child pace str wrc (stS w air tot)) (pb := pbS child pace str wrc (stS w air tot)) c (B := 4 * t) (by omega) (hwr c hc4).1 (hwr c hc4).2 hpb.1 hpb.2
      omega
    · have hl := l1_rng (wm := wm) hM (fl_nn wm ly (cdS ice salt br cold))
      have hly := hM.2.2.2.2.2.2
      have hw2 := hM.1
      have ho := of_rng (ly := l1S w s ly tot wm (flS wm ly (cdS ice salt br cold))) (by omega) hpb.1 hpb.2
      exact GI_add hG k hk ho.1 (by omega)
  rcases hch with h | ⟨hp, j, hj, hcj, hsj⟩
  · exact ⟨0, Or.inl h, Or.inl h, by rw [pb4 h, pb4 h], by rw [tu4 h, tu4 h], by rw [hd4 h, hd4 h], by rw [fs4 h, fs4 h]⟩
  · exact ⟨wr j, Or.inr (e_wear j hj hcj), Or.inr ⟨j, hj, hcj, hsj, (hw j hj).symm⟩, by rw [hp], by rw [hp], by rw [hp], by rw [hp]⟩
