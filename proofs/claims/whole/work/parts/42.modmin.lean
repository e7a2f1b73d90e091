/-! how TIRED a CHILD is behind a MINUTE -/
def wvS (who pb : Int32) (c : Nat) (v : Int32) : Int32 := if nI c = who then v + pb / 2 else if v ≤ 0 then 0 else v - 1
theorem i0 : (0 : Int32).toInt = 0 := rfl
theorem i1 : (1 : Int32).toInt = 1 := rfl
theorem i2 : (2 : Int32).toInt = 2 := rfl
theorem i3 : (3 : Int32).toInt = 3 := rfl
theorem i4 : (4 : Int32).toInt = 4 := rfl
theorem i5 : (5 : Int32).toInt = 5 := rfl
theorem i10 : (10 : Int32).toInt = 10 := rfl
theorem i60 : (60 : Int32).toInt = 60 := rfl
theorem i80 : (80 : Int32).toInt = 80 := rfl
theorem i100 : (100 : Int32).toInt = 100 := rfl
theorem i210 : (210 : Int32).toInt = 210 := rfl
theorem i900 : (900 : Int32).toInt = 900 := rfl
theorem im1 : (-1 : Int32).toInt = -1 := rfl
theorem pb_half {pb : Int32} (h0 : 0 ≤ pb.toInt) (h9 : pb.toInt ≤ 9) : (pb / 2).toInt = pb.toInt / 2 := by rw [t_dv h0 (by decide), i2]
theorem wv_cls {v pb who : Int32} (c : Nat) (h0 : 0 ≤ v.toInt) (h1 : v.toInt ≤ 100000) (p0 : 0 ≤ pb.toInt) (p9 : pb.toInt ≤ 9) : (if (0 : Int32) < (v + (if nI c = who then pb / 2 else (-1 : Int32))) then (v + (if nI c = who then pb / 2 else (-1 : Int32))) else (0 : Int32)) = wvS who pb c v := by
  unfold wvS
  have hh := pb_half p0 p9
  by_cases hc : nI c = who
  · simp only [if_pos hc]
    have hs : (v + pb / 2).toInt = v.toInt + pb.toInt / 2 := by rw [t_ad (by omega) (by omega), hh]
    by_cases hp : (0 : Int32) < v + pb / 2
    · rw [if_pos hp]
    · rw [if_neg hp]
      rw [t_lt, i0, hs] at hp
      rw [t_eq, i0, hs]; omega
  · simp only [if_neg hc]
    have hs : (v + (-1)).toInt = v.toInt - 1 := by rw [t_ad (by rw [im1]; omega) (by rw [im1]; omega), im1]; omega
    have hs2 : (v - 1).toInt = v.toInt - 1 := by rw [t_sb (by rw [i1]; omega) (by rw [i1]; omega), i1]
    by_cases hp : (0 : Int32) < v + (-1)
    · rw [if_pos hp]
      rw [t_lt, i0, hs] at hp
      rw [if_neg (by rw [t_le, i0]; omega), t_eq, hs, hs2]
    · rw [if_neg hp]
      rw [t_lt, i0, hs] at hp
      split
      · rfl
      · next h => rw [t_le, i0] at h; rw [t_eq, i0, hs2]; omega
theorem wv_rng {v pb who : Int32} (c : Nat) {B : Int} (hB : B ≤ 100000) (h0 : 0 ≤ v.toInt) (h1 : v.toInt ≤ B) (p0 : 0 ≤ pb.toInt) (p9 : pb.toInt ≤ 9) : 0 ≤ (wvS who pb c v).toInt ∧ (wvS who pb c v).toInt ≤ B + 4 := by
  unfold wvS
  have hh := pb_half p0 p9
  split
  · rw [t_ad (by omega) (by omega), hh]; omega
  · split
    · rw [i0]; omega
    · next h => rw [t_le, i0] at h; rw [t_sb (by rw [i1]; omega) (by rw [i1]; omega), i1]; omega
theorem FU_gt {n : Nat} (h : n < 2000) : n < FU := h
theorem e_pass {wr : Nat → Int32} {who pb : Int32} (h : ∀ c, c < 4 → 0 ≤ (wr c).toInt ∧ (wr c).toInt ≤ 100000) (p0 : 0 ≤ pb.toInt) (p9 : pb.toInt ≤ 9) : ∃ wr', f_X1_pass wr who pb = some wr' ∧ ∀ c, c < 4 → wr' c = wvS who pb c (wr c) := by
  have L := loop_up (fun fu i w => f_X1_pass_L2 fu who pb i w) 4 (fun j w => upd w j (wvS who pb j (w j))) (fun w => some w) (fun j w => ∀ c, c < 4 → w c = if c < j then wvS who pb c (wr c) else wr c)
    (fun fu j w hj hI => by
      show f_X1_pass_L2 (fu + 1) who pb (nI j) w = f_X1_pass_L2 fu who pb (nI (j + 1)) (upd w j (wvS who pb j (w j)))
      have hwj : w j = wr j := by rw [hI j hj, if_neg (by omega)]
      have hv := wv_cls (v := w j) (who := who) j (by rw [hwj]; exact (h j hj).1) (by rw [hwj]; exact (h j hj).2) p0 p9
      rw [f_X1_pass_L2, if_neg (show ¬ (4 : Int32) ≤ nI j from nI_ge hj (by decide))]
      unfold f_X1_pass_L19
      by_cases hc : nI j = who
      · simp only [if_pos hc] at hv
        rw [if_pos hc, e_wear j hj rfl, eb1, hv, e_put j hj (by decide) rfl, eb1, nI_1]
      · simp only [if_neg hc] at hv
        rw [if_neg hc, e_wear j hj rfl, eb1, hv, e_put j hj (by decide) rfl, eb1, nI_1])
    (fun j w hj hI c hc => by
      show upd w j (wvS who pb j (w j)) c = _
      rw [upd_at]
      have hwj : w j = wr j := by rw [hI j hj, if_neg (by omega)]
      by_cases e : c = j
      · subst e; rw [if_pos rfl, if_pos (by omega), hwj]
      · rw [if_neg e, hI c hc]
        by_cases h2 : c < j
        · rw [if_pos h2, if_pos (by omega)]
        · rw [if_neg h2, if_neg (by omega)])
    (fun fu w hI => by
      show f_X1_pass_L2 (fu + 1) who pb (nI 4) w = some w
      rw [f_X1_pass_L2, if_pos (show (4 : Int32) ≤ nI 4 by decide)])
    4 FU 0 wr rfl (FU_gt (by decide)) (fun c hc => by rw [if_neg (by omega)])
  refine ⟨_, L.1, fun c hc => ?_⟩
  rw [L.2 c hc, if_pos hc]
/-! the model's small methods -/
theorem k8_2 {α : Type} {x : Option α} : gd (¬ ((2 : Int32) < 0 ∨ 8 ≤ ((2 : Int32)).toNatClampNeg)) x = x := gd_ok (by decide)
theorem k8_3 {α : Type} {x : Option α} : gd (¬ ((3 : Int32) < 0 ∨ 8 ≤ ((3 : Int32)).toNatClampNeg)) x = x := gd_ok (by decide)
theorem k8_4 {α : Type} {x : Option α} : gd (¬ ((4 : Int32) < 0 ∨ 8 ≤ ((4 : Int32)).toNatClampNeg)) x = x := gd_ok (by decide)
theorem cl2 : ((2 : Int32)).toNatClampNeg = 2 := rfl
theorem cl3 : ((3 : Int32)).toNatClampNeg = 3 := rfl
theorem cl4 : ((4 : Int32)).toNatClampNeg = 4 := rfl
theorem m_line {w s : Int32} {tot ly : Int32} {how : Nat → Int32} (h2 : how 2 = w) (h3 : how 3 = s) (hd : ¬ w - tot - ly = 0) : f_X9_lineNow tot ly how = some (lnS w s ly tot) := by
  unfold f_X9_lineNow lnS
  rw [k8_3, k8_2, cl2, cl3, h2, h3, gd_ok hd]
theorem m_stiff {w : Int32} {tot air : Int32} {how : Nat → Int32} (h2 : how 2 = w) (hd : ¬ w = 0) : f_X9_stiffNow tot air how = some (stS w air tot) := by
  unfold f_X9_stiffNow stS
  rw [k8_2, cl2, h2, gd_ok hd]
theorem m_coldOf {ice salt br : Int32} (hd : ¬ ice + br + salt = 0) : f_X9_coldOf ice salt br = some (if cqS ice salt br < 210 then cqS ice salt br else 210) := by
  unfold f_X9_coldOf
  rw [gd_ok hd]
  show (if cqS ice salt br ≤ 210 then some (cqS ice salt br) else some 210) = _
  by_cases h : cqS ice salt br < 210
  · rw [if_pos h, if_pos (by rw [t_le]; rw [t_lt] at h; omega)]
  · rw [if_neg h]
    split
    · next h2 =>
      congr 1
      rw [t_lt] at h; rw [t_le] at h2; rw [t_eq]; omega
    · rfl
theorem m_freeze {w s f : Int32} {ice br cd wm tot ly : Int32} {how : Nat → Int32} (h2 : how 2 = w) (h3 : how 3 = s) (h4 : how 4 = f) (d1 : ¬ 10 + ly = 0) (d2 : ¬ w - tot - ly = 0) (d3 : ¬ w - tot - l1S w s ly tot wm (flS wm ly cd) = 0) (d4 : ¬ w + s + f = 0) :
    f_X9_freeze ice br cd wm tot ly how = some (ice - mlS ice (flS wm ly cd), br + mlS ice (flS wm ly cd), w1S w s f ly tot wm (flS wm ly cd), l1S w s ly tot wm (flS wm ly cd)) := by
  have key : ∀ fl ml : Int32, (¬ w - tot - l1S w s ly tot wm fl = 0) → f_X9_freeze_L54 cd tot how ml fl ice br wm ly = some (ice - ml, br + ml, w1S w s f ly tot wm fl, l1S w s ly tot wm fl) := by
    intro fl ml d3
    unfold f_X9_freeze_L54
    rw [m_line h2 h3 d2, eb1]
    unfold w1S
    by_cases hc : wm ≤ -(lnS w s ly tot)
    · rw [if_pos hc, k8_2, cl2, h2, if_pos hc]
      have hl : l1S w s ly tot wm fl = ly + (if w - tot - ly - 1 < fl / 80 then w - tot - ly - 1 else fl / 80) := by unfold l1S; rw [if_pos hc]
      rw [hl] at d3 ⊢
      unfold f_X9_freeze_L183
      by_cases hb : w - tot - ly - 1 < fl / 80
      · simp only [if_pos hb] at d3 ⊢
        rw [if_neg (by rw [t_le]; rw [t_lt] at hb; omega), m_line h2 h3 d3]; rfl
      · simp only [if_neg hb] at d3 ⊢
        rw [if_pos (by rw [t_le]; rw [t_lt] at hb; omega), m_line h2 h3 d3]; rfl
    · rw [if_neg hc, k8_2, k8_3, k8_4, cl2, cl3, cl4, h2, h3, h4, gd_ok d4, eb1, if_neg hc]
      have hl : l1S w s ly tot wm fl = ly := by unfold l1S; rw [if_neg hc]
      rw [hl]
      by_cases hb : -(lnS w s ly tot) < wm - 10 * fl / (w + s + f)
      · rw [if_pos hb, if_pos (by rw [t_le]; rw [t_lt] at hb; omega)]
      · rw [if_neg hb]
        split
        · next h6 =>
          have : wm - 10 * fl / (w + s + f) = -(lnS w s ly tot) := by rw [t_lt] at hb; rw [t_le] at h6; rw [t_eq]; omega
          rw [this]
        · rfl
  have key2 : ∀ fl : Int32, (¬ w - tot - l1S w s ly tot wm fl = 0) → f_X9_freeze_L30 cd tot how fl ice br wm ly = some (ice - mlS ice fl, br + mlS ice fl, w1S w s f ly tot wm fl, l1S w s ly tot wm fl) := by
    intro fl d3
    unfold f_X9_freeze_L30 mlS
    by_cases hb : fl / 80 + 3 < ice
    · rw [if_pos hb, if_pos (by rw [t_le]; rw [t_lt] at hb; omega), key fl _ d3]
    · rw [if_neg hb]
      split
      · next h6 =>
        have : fl / 80 + 3 = ice := by rw [t_lt] at hb; rw [t_le] at h6; rw [t_eq]; omega
        rw [this, key fl _ d3]
      · rw [key fl _ d3]
  unfold f_X9_freeze
  rw [gd_ok d1]
  show (if 0 ≤ fqS wm ly cd then f_X9_freeze_L30 cd tot how (fqS wm ly cd) ice br wm ly else f_X9_freeze_L30 cd tot how 0 ice br wm ly) = _
  by_cases hq : 0 < fqS wm ly cd
  · have e : flS wm ly cd = fqS wm ly cd := by unfold flS; rw [if_pos hq]
    rw [e] at d3 ⊢
    rw [if_pos (by rw [t_le]; rw [t_lt] at hq; omega), key2 _ d3]
  · have e : flS wm ly cd = 0 := by unfold flS; rw [if_neg hq]
    rw [e] at d3 ⊢
    split
    · next h6 =>
      have : fqS wm ly cd = 0 := by rw [t_lt] at hq; rw [t_le] at h6; rw [t_eq]; omega
      rw [this, key2 _ d3]
    · rw [key2 _ d3]
theorem m_scrape {f tot ly air ch pb st : Int32} {how fl : Nat → Int32} (h4 : how 4 = f) (k : Nat) (hk : k < 64) (hs : szS ly = nI k) :
    f_X9_scrape tot ly air ch how fl pb st = some (tot + ofS ly pb, ly - ofS ly pb, arS f air ch st pb, chS ch st pb, upd fl k (fl k + ofS ly pb)) := by
  have k45 : ∀ of : Int32, f_X9_scrape_L45 how (nI k) pb st of tot ly air ch fl = some (tot + of, ly - of, arS f air ch st pb, chS ch st pb, upd fl k (fl k + of)) := by
    intro of
    unfold f_X9_scrape_L45
    rw [gd_ok (n_in hk (by decide)), gd_ok (n_in hk (by decide)), k8_4, cl4, h4, nI_clamp (by omega)]
    have k134 : ∀ (a b c : Int32) (g : Nat → Int32), f_X9_scrape_L134 how pb st a b c ch g = some (a, b, c, chS ch st pb, g) := by
      intro a b c g
      unfold f_X9_scrape_L134 chS
      have z : ch + 0 = ch := Int32.add_zero ch
      split
      · rw [z]
      · split
        · rw [z]
        · rfl
    unfold arS
    by_cases c1 : f < 50
    · rw [if_pos c1, if_pos c1, k134]
    · rw [if_neg c1, if_neg c1]
      by_cases c2 : st < 10
      · rw [if_pos c2, if_pos c2, k134]
      · rw [if_neg c2, if_neg c2]
        by_cases c3 : 8 ≤ ch
        · rw [if_pos c3, if_pos c3, k134]
        · rw [if_neg c3, if_neg c3]
          by_cases c4 : air + pb / 3 < 100
          · rw [if_pos c4, if_pos (by rw [t_le]; rw [t_lt] at c4; omega), k134]
          · rw [if_neg c4]
            split
            · next h6 =>
              have : air + pb / 3 = 100 := by rw [t_lt] at c4; rw [t_le] at h6; rw [t_eq]; omega
              rw [this, k134]
            · rw [k134]
  have k20 : ∀ of : Int32, f_X9_scrape_L20 how of pb st tot ly air ch fl = some (tot + of, ly - of, arS f air ch st pb, chS ch st pb, upd fl k (fl k + of)) := by
    intro of
    unfold f_X9_scrape_L20
    unfold szS at hs
    by_cases c1 : 10 + ly < 60
    · rw [if_pos c1] at hs
      rw [if_pos (by rw [t_le]; rw [t_lt] at c1; omega), hs, k45]
    · rw [if_neg c1] at hs
      split
      · next h6 =>
        have : 10 + ly = 60 := by rw [t_lt] at c1; rw [t_le] at h6; rw [t_eq]; omega
        rw [this, hs, k45]
      · rw [hs, k45]
  unfold f_X9_scrape ofS
  by_cases c1 : ly < 4 * pb
  · rw [if_pos c1, if_neg (by rw [t_le]; rw [t_lt] at c1; omega), k20]
  · rw [if_neg c1, if_pos (by rw [t_le]; rw [t_lt] at c1; omega), k20]
