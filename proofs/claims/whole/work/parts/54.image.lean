/-! IMAGE, RESTORE -/
def Rec (n s : Nat → Int32) (p m : Int32) (w a l : Nat → Int32) (c : Int32) (d : Nat → Int32) (how strong : Nat → Int32) (mparts : Int32) (plan : Nat → Int32) (msw : Int32) (box : Nat → Int32) : Prop := RP n s p m w a l how strong mparts plan ∧ BX c d msw box
theorem mS_ag {le le' : Nat → Int32} (h : ag 20 le le') : ∀ n, n ≤ 20 → mS le n = mS le' n := by
  intro n
  induction n with
  | zero => intro _; rfl
  | succ n ih => intro hn; show mS le n + (le n).toNatClampNeg = mS le' n + (le' n).toNatClampNeg; rw [ih (by omega), h n (by omega)]
theorem Rec_cong {n s : Nat → Int32} {p m : Int32} {w a l : Nat → Int32} {c : Int32} {d : Nat → Int32} {un us : Nat → Int32} {up um : Int32} {uw ua ul : Nat → Int32} {uc : Int32} {ud : Nat → Int32} {how strong how' strong' plan plan' box box' : Nat → Int32} {mparts msw : Int32} (h : Rec n s p m w a l c d how strong mparts plan msw box) (g1 : ag 8 un n) (g2 : ag 4 us s) (g3 : ag 20 uw w) (g4 : ag 20 ua a) (g5 : ag 20 ul l) (g6 : ag 40 ud d) (k1 : ag 8 how' how) (k2 : ag 4 strong' strong) (k3 : ag 60 plan' plan) (k4 : ag 40 box' box) (ep : up = p) (em : um = m) (ec : uc = c) : Rec un us up um uw ua ul uc ud how' strong' mparts plan' msw box' := by
  obtain ⟨⟨hnum, hf, hst, N, e1, e2, hPL, hM, e3⟩, B, hB, e4, e5, hbx⟩ := h
  have hmS : mS ul N = mS l N := mS_ag g5 N hPL.1
  refine ⟨⟨ag_tr g1 (ag_tr hnum (ag_sy k1)), ?_, ag_tr g2 (ag_tr hst (ag_sy k2)), N, ep.trans e1, e2, ⟨hPL.1, fun q hq => ?_⟩, by rw [hmS]; exact hM, by rw [hmS]; exact em.trans e3⟩, B, hB, ec.trans e4, e5, fun j hj => ?_⟩
  · intro j hj; rw [k1 j hj]; exact hf j hj
  · have hN := hPL.1
    have := hPL.2 q hq
    rw [g3 q (by omega), g4 q (by omega), g5 q (by omega), k3 (3 * q) (by omega), k3 (3 * q + 1) (by omega), k3 (3 * q + 2) (by omega)]
    exact this
  · rw [g6 j (by omega), k4 j (by omega)]; exact hbx j hj
theorem e_copyFrom (n s : Nat → Int32) (p m : Int32) (w a l : Nat → Int32) (c : Int32) (d : Nat → Int32) (un us : Nat → Int32) (up um : Int32) (uw ua ul : Nat → Int32) (uc : Int32) (ud : Nat → Int32) : ∃ n' s' w' a' l' d', f_X4_copyFrom n s p m w a l c d un us up um uw ua ul uc ud = some (n', s', up, um, w', a', l', uc, d') ∧ ag 8 n' un ∧ ag 4 s' us ∧ ag 20 w' uw ∧ ag 20 a' ua ∧ ag 20 l' ul ∧ ag 40 d' ud := by
  obtain ⟨n', b1, q1⟩ := e_copy (m := 8) (by decide) un n
  obtain ⟨s', b2, q2⟩ := e_copy (m := 4) (by decide) us s
  obtain ⟨w', b3, q3⟩ := e_copy (m := 20) (by decide) uw w
  obtain ⟨a', b4, q4⟩ := e_copy (m := 20) (by decide) ua a
  obtain ⟨l', b5, q5⟩ := e_copy (m := 20) (by decide) ul l
  obtain ⟨d', b6, q6⟩ := e_copy (m := 40) (by decide) ud d
  refine ⟨n', s', w', a', l', d', ?_, q1, q2, q3, q4, q5, q6⟩
  unfold f_X4_copyFrom f_X7_copyFrom f_X6_copyFrom
  rw [b1, eb1, b2, eb1, b3, eb1, b4, eb1, b5, eb1, eb5, b6, eb1, eb2]
def blk (im : Nat → Int32) (b : Nat) (src : Nat → Int32) (n : Nat) : Nat → Int32 := fun q => if b ≤ q ∧ q < b + n then src (q - b) else im q
theorem blk0 (im : Nat → Int32) (b : Nat) (src : Nat → Int32) : blk im b src 0 = im := by
  funext q
  unfold blk
  rw [if_neg (by omega)]
theorem blkS (im : Nat → Int32) (b : Nat) (src : Nat → Int32) (n : Nat) : upd (blk im b src n) (b + n) (src n) = blk im b src (n + 1) := by
  funext q
  rw [upd_at]
  unfold blk
  by_cases e : q = b + n
  · rw [if_pos e, if_pos (by omega), e, Nat.add_sub_cancel_left]
  · rw [if_neg e]
    by_cases c : b ≤ q ∧ q < b + n
    · rw [if_pos c, if_pos (by omega)]
    · rw [if_neg c, if_neg (by omega)]
theorem blk_in {im src : Nat → Int32} {b n j : Nat} (h : j < n) : blk im b src n (b + j) = src j := by
  unfold blk
  rw [if_pos (by omega), Nat.add_sub_cancel_left]
theorem blk_out {im src : Nat → Int32} {b n q : Nat} (h : q < b ∨ b + n ≤ q) : blk im b src n q = im q := by
  unfold blk
  rw [if_neg (by omega)]
theorem im_L19 (mparts msw : Int32) (how strong plan box : Nat → Int32) (K : Nat) (hK : K < 2) (y1 : Int32) (im kept : Nat → Int32) : f_X9_image_L19 mparts msw how strong plan box FU y1 (nI (115 * K)) 0 im kept = f_X9_image_L47 mparts msw how strong plan box FU y1 (nI (115 * K)) 0 (blk im (115 * K) how 8) kept := by
  have key : ∀ t k fu, k + t = 8 → t < fu → f_X9_image_L19 mparts msw how strong plan box fu y1 (nI (115 * K)) (nI k) (blk im (115 * K) how k) kept = f_X9_image_L47 mparts msw how strong plan box FU y1 (nI (115 * K)) 0 (blk im (115 * K) how 8) kept := by
    intro t
    induction t with
    | zero =>
      intro k fu hk f
      obtain ⟨fu, rfl⟩ : ∃ k, fu = k + 1 := ⟨fu - 1, by omega⟩
      have e : k = 8 := by omega
      subst e
      rw [f_X9_image_L19, if_pos (show (8 : Int32) ≤ nI 8 by decide)]
    | succ t ih =>
      intro k fu hk f
      obtain ⟨fu, rfl⟩ : ∃ k, fu = k + 1 := ⟨fu - 1, by omega⟩
      rw [f_X9_image_L19, if_neg (show ¬ (8 : Int32) ≤ nI k from nI_ge (show k < 8 by omega) (by decide)), gd_ok (n_in (show k < 8 by omega) (by decide)), nI_add, gd_ok (n_in (show 115 * K + k < 230 by omega) (by decide)), nI_clamp (show k < 2 ^ 31 by omega), nI_clamp (show 115 * K + k < 2 ^ 31 by omega), nI_1, blkS]
      exact ih (k + 1) fu (by omega) (by omega)
  have h := key 8 0 FU (by omega) (FU_gt (by decide))
  rw [blk0] at h
  exact h
theorem im_L47 (mparts msw : Int32) (how strong plan box : Nat → Int32) (K : Nat) (hK : K < 2) (y1 : Int32) (im kept : Nat → Int32) : f_X9_image_L47 mparts msw how strong plan box FU y1 (nI (115 * K)) 0 im kept = f_X9_image_L77 mparts msw how strong plan box FU y1 (nI (115 * K)) 0 (blk im (115 * K + 8) strong 4) kept := by
  have key : ∀ t k fu, k + t = 4 → t < fu → f_X9_image_L47 mparts msw how strong plan box fu y1 (nI (115 * K)) (nI k) (blk im (115 * K + 8) strong k) kept = f_X9_image_L77 mparts msw how strong plan box FU y1 (nI (115 * K)) 0 (blk im (115 * K + 8) strong 4) kept := by
    intro t
    induction t with
    | zero =>
      intro k fu hk f
      obtain ⟨fu, rfl⟩ : ∃ k, fu = k + 1 := ⟨fu - 1, by omega⟩
      have e : k = 4 := by omega
      subst e
      rw [f_X9_image_L47, if_pos (show (4 : Int32) ≤ nI 4 by decide)]
    | succ t ih =>
      intro k fu hk f
      obtain ⟨fu, rfl⟩ : ∃ k, fu = k + 1 := ⟨fu - 1, by omega⟩
      rw [f_X9_image_L47, if_neg (show ¬ (4 : Int32) ≤ nI k from nI_ge (show k < 4 by omega) (by decide)), gd_ok (n_in (show k < 4 by omega) (by decide)), show nI (115 * K) + 8 = nI (115 * K + 8) from nI_add _ 8, nI_add, gd_ok (n_in (show 115 * K + 8 + k < 230 by omega) (by decide)), nI_clamp (show k < 2 ^ 31 by omega), nI_clamp (show 115 * K + 8 + k < 2 ^ 31 by omega), nI_1, blkS]
      exact ih (k + 1) fu (by omega) (by omega)
  have h := key 4 0 FU (by omega) (FU_gt (by decide))
  rw [blk0] at h
  exact h
theorem im_L77 (mparts msw : Int32) (how strong plan box : Nat → Int32) (K : Nat) (hK : K < 2) (y1 : Int32) (im kept : Nat → Int32) : f_X9_image_L77 mparts msw how strong plan box FU y1 (nI (115 * K)) 0 im kept = f_X9_image_L108 mparts msw how strong plan box FU y1 (nI (115 * K)) 0 (blk im (115 * K + 12) plan 60) kept := by
  have key : ∀ t k fu, k + t = 60 → t < fu → f_X9_image_L77 mparts msw how strong plan box fu y1 (nI (115 * K)) (nI k) (blk im (115 * K + 12) plan k) kept = f_X9_image_L108 mparts msw how strong plan box FU y1 (nI (115 * K)) 0 (blk im (115 * K + 12) plan 60) kept := by
    intro t
    induction t with
    | zero =>
      intro k fu hk f
      obtain ⟨fu, rfl⟩ : ∃ k, fu = k + 1 := ⟨fu - 1, by omega⟩
      have e : k = 60 := by omega
      subst e
      rw [f_X9_image_L77, if_pos (show (60 : Int32) ≤ nI 60 by decide)]
    | succ t ih =>
      intro k fu hk f
      obtain ⟨fu, rfl⟩ : ∃ k, fu = k + 1 := ⟨fu - 1, by omega⟩
      rw [f_X9_image_L77, if_neg (show ¬ (60 : Int32) ≤ nI k from nI_ge (show k < 60 by omega) (by decide)), gd_ok (n_in (show k < 60 by omega) (by decide)), show nI (115 * K) + 12 = nI (115 * K + 12) from nI_add _ 12, nI_add, gd_ok (n_in (show 115 * K + 12 + k < 230 by omega) (by decide)), nI_clamp (show k < 2 ^ 31 by omega), nI_clamp (show 115 * K + 12 + k < 2 ^ 31 by omega), nI_1, blkS]
      exact ih (k + 1) fu (by omega) (by omega)
  have h := key 60 0 FU (by omega) (FU_gt (by decide))
  rw [blk0] at h
  exact h
theorem im_L108 (mparts msw : Int32) (how strong plan box : Nat → Int32) (K : Nat) (hK : K < 2) (im kept : Nat → Int32) : f_X9_image_L108 mparts msw how strong plan box FU (nI K) (nI (115 * K)) 0 im kept = some (1, upd (upd (blk im (115 * K + 72) box 40) (115 * K + 112) mparts) (115 * K + 113) msw, upd kept K 1) := by
  have key : ∀ t k fu, k + t = 40 → t < fu → f_X9_image_L108 mparts msw how strong plan box fu (nI K) (nI (115 * K)) (nI k) (blk im (115 * K + 72) box k) kept = some (1, upd (upd (blk im (115 * K + 72) box 40) (115 * K + 112) mparts) (115 * K + 113) msw, upd kept K 1) := by
    intro t
    induction t with
    | zero =>
      intro k fu hk f
      obtain ⟨fu, rfl⟩ : ∃ k, fu = k + 1 := ⟨fu - 1, by omega⟩
      have e : k = 40 := by omega
      subst e
      rw [f_X9_image_L108, if_pos (show (40 : Int32) ≤ nI 40 by decide), show nI (115 * K) + 112 = nI (115 * K + 112) from nI_add _ 112, show nI (115 * K) + 113 = nI (115 * K + 113) from nI_add _ 113, gd_ok (n_in (show 115 * K + 112 < 230 by omega) (by decide)), gd_ok (n_in (show 115 * K + 113 < 230 by omega) (by decide)), gd_ok (n_in hK (by decide)), nI_clamp (show 115 * K + 112 < 2 ^ 31 by omega), nI_clamp (show 115 * K + 113 < 2 ^ 31 by omega), nI_clamp (show K < 2 ^ 31 by omega)]
      rfl
    | succ t ih =>
      intro k fu hk f
      obtain ⟨fu, rfl⟩ : ∃ k, fu = k + 1 := ⟨fu - 1, by omega⟩
      rw [f_X9_image_L108, if_neg (show ¬ (40 : Int32) ≤ nI k from nI_ge (show k < 40 by omega) (by decide)), gd_ok (n_in (show k < 40 by omega) (by decide)), show nI (115 * K) + 72 = nI (115 * K + 72) from nI_add _ 72, nI_add, gd_ok (n_in (show 115 * K + 72 + k < 230 by omega) (by decide)), nI_clamp (show k < 2 ^ 31 by omega), nI_clamp (show 115 * K + 72 + k < 2 ^ 31 by omega), nI_1, blkS]
      exact ih (k + 1) fu (by omega) (by omega)
  have h := key 40 0 FU (by omega) (FU_gt (by decide))
  rw [blk0] at h
  exact h
def IMG (K : Nat) (im how strong plan box : Nat → Int32) (mparts msw : Int32) : Nat → Int32 := upd (upd (blk (blk (blk (blk im (115 * K) how 8) (115 * K + 8) strong 4) (115 * K + 12) plan 60) (115 * K + 72) box 40) (115 * K + 112) mparts) (115 * K + 113) msw
theorem m_image (mparts msw : Int32) (how strong plan box : Nat → Int32) (K : Nat) (hK : K < 2) (im kept : Nat → Int32) : f_X9_image mparts msw how strong plan box im kept (nI K) = some (1, IMG K im how strong plan box mparts msw, upd kept K 1) := by
  unfold f_X9_image
  rw [m_in1 (nI_pos (by omega)) (show ¬ (1 : Int32) < nI K from nI_nlt (show K ≤ 1 by omega) (by decide)), eb1, if_neg (show ¬ (1 : Int32) = 0 by decide), show (115 : Int32) * nI K = nI (115 * K) from pk_mul 115 K, im_L19 _ _ _ _ _ _ K hK, im_L47 _ _ _ _ _ _ K hK, im_L77 _ _ _ _ _ _ K hK, im_L108 _ _ _ _ _ _ K hK]
  rfl
theorem IMG_how {K : Nat} {im how strong plan box : Nat → Int32} {mparts msw : Int32} : ag 8 (fun j => IMG K im how strong plan box mparts msw (115 * K + j)) how := fun j hj => by
  show IMG K im how strong plan box mparts msw (115 * K + j) = how j
  unfold IMG
  rw [upd_at, if_neg (by omega), upd_at, if_neg (by omega), blk_out (by omega), blk_out (by omega), blk_out (by omega), blk_in hj]
theorem IMG_strong {K : Nat} {im how strong plan box : Nat → Int32} {mparts msw : Int32} : ag 4 (fun j => IMG K im how strong plan box mparts msw (115 * K + 8 + j)) strong := fun j hj => by
  show IMG K im how strong plan box mparts msw (115 * K + 8 + j) = strong j
  unfold IMG
  rw [upd_at, if_neg (by omega), upd_at, if_neg (by omega), blk_out (by omega), blk_out (by omega), blk_in hj]
theorem IMG_plan {K : Nat} {im how strong plan box : Nat → Int32} {mparts msw : Int32} : ag 60 (fun j => IMG K im how strong plan box mparts msw (115 * K + 12 + j)) plan := fun j hj => by
  show IMG K im how strong plan box mparts msw (115 * K + 12 + j) = plan j
  unfold IMG
  rw [upd_at, if_neg (by omega), upd_at, if_neg (by omega), blk_out (by omega), blk_in hj]
theorem IMG_box {K : Nat} {im how strong plan box : Nat → Int32} {mparts msw : Int32} : ag 40 (fun j => IMG K im how strong plan box mparts msw (115 * K + 72 + j)) box := fun j hj => by
  show IMG K im how strong plan box mparts msw (115 * K + 72 + j) = box j
  unfold IMG
  rw [upd_at, if_neg (by omega), upd_at, if_neg (by omega), blk_in hj]
theorem IMG_parts {K : Nat} {im how strong plan box : Nat → Int32} {mparts msw : Int32} : IMG K im how strong plan box mparts msw (115 * K + 112) = mparts := by
  unfold IMG
  rw [upd_at, if_neg (by omega), upd_at, if_pos rfl]
theorem IMG_sw {K : Nat} {im how strong plan box : Nat → Int32} {mparts msw : Int32} : IMG K im how strong plan box mparts msw (115 * K + 113) = msw := by
  unfold IMG
  rw [upd_at, if_pos rfl]
theorem IMG_out {K : Nat} {im how strong plan box : Nat → Int32} {mparts msw : Int32} {q : Nat} (h : q < 115 * K ∨ 115 * K + 114 ≤ q) : IMG K im how strong plan box mparts msw q = im q := by
  unfold IMG
  rw [upd_at, if_neg (by omega), upd_at, if_neg (by omega), blk_out (by omega), blk_out (by omega), blk_out (by omega), blk_out (by omega)]
def IB (image : Nat → Int32) (K : Nat) (n s : Nat → Int32) (p m : Int32) (w a l : Nat → Int32) (c : Int32) (d : Nat → Int32) : Prop := Rec n s p m w a l c d (fun j => image (115 * K + j)) (fun j => image (115 * K + 8 + j)) (image (115 * K + 112)) (fun j => image (115 * K + 12 + j)) (image (115 * K + 113)) (fun j => image (115 * K + 72 + j))
def KI (image kept : Nat → Int32) (K : Nat) (holds : Int32) (n s : Nat → Int32) (p m : Int32) (w a l : Nat → Int32) (c : Int32) (d : Nat → Int32) : Prop := (kept K = 0 ∧ holds = 0) ∨ (kept K = 1 ∧ holds = 1 ∧ IB image K n s p m w a l c d)
theorem IB_new {n s : Nat → Int32} {p m : Int32} {w a l : Nat → Int32} {c : Int32} {d : Nat → Int32} {un us : Nat → Int32} {up um : Int32} {uw ua ul : Nat → Int32} {uc : Int32} {ud : Nat → Int32} {how strong plan box im : Nat → Int32} {mparts msw : Int32} {K : Nat} (h : Rec n s p m w a l c d how strong mparts plan msw box) (g1 : ag 8 un n) (g2 : ag 4 us s) (g3 : ag 20 uw w) (g4 : ag 20 ua a) (g5 : ag 20 ul l) (g6 : ag 40 ud d) (ep : up = p) (em : um = m) (ec : uc = c) : IB (IMG K im how strong plan box mparts msw) K un us up um uw ua ul uc ud := by
  unfold IB
  rw [IMG_parts, IMG_sw]
  exact Rec_cong h g1 g2 g3 g4 g5 g6 IMG_how IMG_strong IMG_plan IMG_box ep em ec
theorem KI_old {n s : Nat → Int32} {p m : Int32} {w a l : Nat → Int32} {c : Int32} {d : Nat → Int32} {how strong plan box im kept : Nat → Int32} {mparts msw : Int32} {K J : Nat} {hd : Int32} (hJ : J = 0 ∧ K = 1 ∨ J = 1 ∧ K = 0) (h : KI im kept J hd n s p m w a l c d) : KI (IMG K im how strong plan box mparts msw) (upd kept K 1) J hd n s p m w a l c d := by
  unfold KI
  rw [upd_at, if_neg (by omega)]
  rcases h with h | ⟨h1, h2, h3⟩
  · exact Or.inl h
  · refine Or.inr ⟨h1, h2, ?_⟩
    unfold IB
    unfold IB at h3
    rw [IMG_out (by omega), IMG_out (by omega)]
    exact Rec_cong h3 ag_rf ag_rf ag_rf ag_rf ag_rf ag_rf (fun j hj => IMG_out (by omega)) (fun j hj => IMG_out (by omega)) (fun j hj => IMG_out (by omega)) (fun j hj => IMG_out (by omega)) rfl rfl rfl
set_option maxHeartbeats 1000000 in
theorem s_image {n s : Nat → Int32} {p m : Int32} {w a l : Nat → Int32} {c : Int32} {d : Nat → Int32} {zn zs : Nat → Int32} {zp zm : Int32} {zw za zl : Nat → Int32} {zc : Int32} {zd : Nat → Int32} {qn qs : Nat → Int32} {qp qm : Int32} {qw qa ql : Nat → Int32} {qc : Int32} {qd : Nat → Int32} {zh qh : Int32} {how strong plan box image kept : Nat → Int32} {mparts msw : Int32} (hR : Rec n s p m w a l c d how strong mparts plan msw box) (h0 : KI image kept 0 zh zn zs zp zm zw za zl zc zd) (h1 : KI image kept 1 qh qn qs qp qm qw qa ql qc qd) (x1 : Int32) : ∃ r zh' zn' zs' zp' zm' zw' za' zl' zc' zd' qh' qn' qs' qp' qm' qw' qa' ql' qc' qd' image' kept', f_X8_image n s p m w a l c d zh zn zs zp zm zw za zl zc zd qh qn qs qp qm qw qa ql qc qd x1 = some (r, zh', zn', zs', zp', zm', zw', za', zl', zc', zd', qh', qn', qs', qp', qm', qw', qa', ql', qc', qd') ∧ f_X9_image mparts msw how strong plan box image kept x1 = some (r, image', kept') ∧ KI image' kept' 0 zh' zn' zs' zp' zm' zw' za' zl' zc' zd' ∧ KI image' kept' 1 qh' qn' qs' qp' qm' qw' qa' ql' qc' qd' := by
  unfold f_X8_image
  by_cases a1 : x1 < 0
  · unfold f_X9_image
    rw [if_pos a1, m_in0 (Or.inl a1), eb1, if_pos rfl]
    exact ⟨_, _, _, _, _, _, _, _, _, _, _, _, _, _, _, _, _, _, _, _, _, _, _, rfl, rfl, h0, h1⟩
  by_cases a2 : 1 < x1
  · unfold f_X9_image
    rw [if_neg a1, if_neg (show ¬ x1 ≤ 1 by rw [t_le]; rw [t_lt] at a2; omega), m_in0 (Or.inr a2), eb1, if_pos rfl]
    exact ⟨_, _, _, _, _, _, _, _, _, _, _, _, _, _, _, _, _, _, _, _, _, _, _, rfl, rfl, h0, h1⟩
  rw [if_neg a1, if_pos (show x1 ≤ 1 by rw [t_le]; rw [t_lt] at a2; omega)]
  by_cases b : x1 = 0
  · obtain ⟨n', s', w', a', l', d', e, g1, g2, g3, g4, g5, g6⟩ := e_copyFrom zn zs zp zm zw za zl zc zd n s p m w a l c d
    rw [if_pos b, e, eb9, b, show (0 : Int32) = nI 0 from rfl, m_image _ _ _ _ _ _ 0 (by omega)]
    exact ⟨_, _, _, _, _, _, _, _, _, _, _, _, _, _, _, _, _, _, _, _, _, _, _, rfl, rfl, Or.inr ⟨rfl, rfl, IB_new hR g1 g2 g3 g4 g5 g6 rfl rfl rfl⟩, KI_old (Or.inr ⟨rfl, rfl⟩) h1⟩
  · have b1 : x1 = 1 := by
      rw [t_lt, i0] at a1
      rw [t_lt, i1] at a2
      rw [t_eq, i0] at b
      rw [t_eq, i1]
      omega
    obtain ⟨n', s', w', a', l', d', e, g1, g2, g3, g4, g5, g6⟩ := e_copyFrom qn qs qp qm qw qa ql qc qd n s p m w a l c d
    rw [if_neg b, e, eb9, b1, show (1 : Int32) = nI 1 from rfl, m_image _ _ _ _ _ _ 1 (by omega)]
    exact ⟨_, _, _, _, _, _, _, _, _, _, _, _, _, _, _, _, _, _, _, _, _, _, _, rfl, rfl, KI_old (Or.inl ⟨rfl, rfl⟩) h0, Or.inr ⟨rfl, rfl, IB_new hR g1 g2 g3 g4 g5 g6 rfl rfl rfl⟩⟩
theorem rs_L31 (image kept : Nat → Int32) (K : Nat) (hK : K < 2) (mparts msw : Int32) (how strong plan box : Nat → Int32) : f_X9_restore_L31 image kept FU (nI (115 * K)) 0 mparts msw how strong plan box = f_X9_restore_L59 image kept FU (nI (115 * K)) 0 mparts msw (blk how 0 (fun j => image (115 * K + j)) 8) strong plan box := by
  have key : ∀ t k fu, k + t = 8 → t < fu → f_X9_restore_L31 image kept fu (nI (115 * K)) (nI k) mparts msw (blk how 0 (fun j => image (115 * K + j)) k) strong plan box = f_X9_restore_L59 image kept FU (nI (115 * K)) 0 mparts msw (blk how 0 (fun j => image (115 * K + j)) 8) strong plan box := by
    intro t
    induction t with
    | zero =>
      intro k fu hk f
      obtain ⟨fu, rfl⟩ : ∃ k, fu = k + 1 := ⟨fu - 1, by omega⟩
      have e : k = 8 := by omega
      subst e
      rw [f_X9_restore_L31, if_pos (show (8 : Int32) ≤ nI 8 by decide)]
    | succ t ih =>
      intro k fu hk f
      obtain ⟨fu, rfl⟩ : ∃ k, fu = k + 1 := ⟨fu - 1, by omega⟩
      have hb := blkS how 0 (fun j => image (115 * K + j)) k
      rw [Nat.zero_add] at hb
      rw [f_X9_restore_L31, if_neg (show ¬ (8 : Int32) ≤ nI k from nI_ge (show k < 8 by omega) (by decide)), nI_add, gd_ok (n_in (show 115 * K + k < 230 by omega) (by decide)), gd_ok (n_in (show k < 8 by omega) (by decide)), nI_clamp (show k < 2 ^ 31 by omega), nI_clamp (show 115 * K + k < 2 ^ 31 by omega), nI_1, hb]
      exact ih (k + 1) fu (by omega) (by omega)
  have h := key 8 0 FU (by omega) (FU_gt (by decide))
  rw [blk0] at h
  exact h
theorem rs_L59 (image kept : Nat → Int32) (K : Nat) (hK : K < 2) (mparts msw : Int32) (how strong plan box : Nat → Int32) : f_X9_restore_L59 image kept FU (nI (115 * K)) 0 mparts msw how strong plan box = f_X9_restore_L89 image kept FU (nI (115 * K)) 0 mparts msw how (blk strong 0 (fun j => image (115 * K + 8 + j)) 4) plan box := by
  have key : ∀ t k fu, k + t = 4 → t < fu → f_X9_restore_L59 image kept fu (nI (115 * K)) (nI k) mparts msw how (blk strong 0 (fun j => image (115 * K + 8 + j)) k) plan box = f_X9_restore_L89 image kept FU (nI (115 * K)) 0 mparts msw how (blk strong 0 (fun j => image (115 * K + 8 + j)) 4) plan box := by
    intro t
    induction t with
    | zero =>
      intro k fu hk f
      obtain ⟨fu, rfl⟩ : ∃ k, fu = k + 1 := ⟨fu - 1, by omega⟩
      have e : k = 4 := by omega
      subst e
      rw [f_X9_restore_L59, if_pos (show (4 : Int32) ≤ nI 4 by decide)]
    | succ t ih =>
      intro k fu hk f
      obtain ⟨fu, rfl⟩ : ∃ k, fu = k + 1 := ⟨fu - 1, by omega⟩
      have hb := blkS strong 0 (fun j => image (115 * K + 8 + j)) k
      rw [Nat.zero_add] at hb
      rw [f_X9_restore_L59, if_neg (show ¬ (4 : Int32) ≤ nI k from nI_ge (show k < 4 by omega) (by decide)), show nI (115 * K) + 8 = nI (115 * K + 8) from nI_add _ 8, nI_add, gd_ok (n_in (show 115 * K + 8 + k < 230 by omega) (by decide)), gd_ok (n_in (show k < 4 by omega) (by decide)), nI_clamp (show k < 2 ^ 31 by omega), nI_clamp (show 115 * K + 8 + k < 2 ^ 31 by omega), nI_1, hb]
      exact ih (k + 1) fu (by omega) (by omega)
  have h := key 4 0 FU (by omega) (FU_gt (by decide))
  rw [blk0] at h
  exact h
theorem rs_L89 (image kept : Nat → Int32) (K : Nat) (hK : K < 2) (mparts msw : Int32) (how strong plan box : Nat → Int32) : f_X9_restore_L89 image kept FU (nI (115 * K)) 0 mparts msw how strong plan box = f_X9_restore_L120 image kept FU (nI (115 * K)) 0 mparts msw how strong (blk plan 0 (fun j => image (115 * K + 12 + j)) 60) box := by
  have key : ∀ t k fu, k + t = 60 → t < fu → f_X9_restore_L89 image kept fu (nI (115 * K)) (nI k) mparts msw how strong (blk plan 0 (fun j => image (115 * K + 12 + j)) k) box = f_X9_restore_L120 image kept FU (nI (115 * K)) 0 mparts msw how strong (blk plan 0 (fun j => image (115 * K + 12 + j)) 60) box := by
    intro t
    induction t with
    | zero =>
      intro k fu hk f
      obtain ⟨fu, rfl⟩ : ∃ k, fu = k + 1 := ⟨fu - 1, by omega⟩
      have e : k = 60 := by omega
      subst e
      rw [f_X9_restore_L89, if_pos (show (60 : Int32) ≤ nI 60 by decide)]
    | succ t ih =>
      intro k fu hk f
      obtain ⟨fu, rfl⟩ : ∃ k, fu = k + 1 := ⟨fu - 1, by omega⟩
      have hb := blkS plan 0 (fun j => image (115 * K + 12 + j)) k
      rw [Nat.zero_add] at hb
      rw [f_X9_restore_L89, if_neg (show ¬ (60 : Int32) ≤ nI k from nI_ge (show k < 60 by omega) (by decide)), show nI (115 * K) + 12 = nI (115 * K + 12) from nI_add _ 12, nI_add, gd_ok (n_in (show 115 * K + 12 + k < 230 by omega) (by decide)), gd_ok (n_in (show k < 60 by omega) (by decide)), nI_clamp (show k < 2 ^ 31 by omega), nI_clamp (show 115 * K + 12 + k < 2 ^ 31 by omega), nI_1, hb]
      exact ih (k + 1) fu (by omega) (by omega)
  have h := key 60 0 FU (by omega) (FU_gt (by decide))
  rw [blk0] at h
  exact h
theorem rs_L120 (image kept : Nat → Int32) (K : Nat) (hK : K < 2) (mparts msw : Int32) (how strong plan box : Nat → Int32) : f_X9_restore_L120 image kept FU (nI (115 * K)) 0 mparts msw how strong plan box = some (1, image (115 * K + 112), image (115 * K + 113), how, strong, plan, blk box 0 (fun j => image (115 * K + 72 + j)) 40) := by
  have key : ∀ t k fu, k + t = 40 → t < fu → f_X9_restore_L120 image kept fu (nI (115 * K)) (nI k) mparts msw how strong plan (blk box 0 (fun j => image (115 * K + 72 + j)) k) = some (1, image (115 * K + 112), image (115 * K + 113), how, strong, plan, blk box 0 (fun j => image (115 * K + 72 + j)) 40) := by
    intro t
    induction t with
    | zero =>
      intro k fu hk f
      obtain ⟨fu, rfl⟩ : ∃ k, fu = k + 1 := ⟨fu - 1, by omega⟩
      have e : k = 40 := by omega
      subst e
      rw [f_X9_restore_L120, if_pos (show (40 : Int32) ≤ nI 40 by decide), show nI (115 * K) + 112 = nI (115 * K + 112) from nI_add _ 112, show nI (115 * K) + 113 = nI (115 * K + 113) from nI_add _ 113, gd_ok (n_in (show 115 * K + 112 < 230 by omega) (by decide)), gd_ok (n_in (show 115 * K + 113 < 230 by omega) (by decide)), nI_clamp (show 115 * K + 112 < 2 ^ 31 by omega), nI_clamp (show 115 * K + 113 < 2 ^ 31 by omega)]
    | succ t ih =>
      intro k fu hk f
      obtain ⟨fu, rfl⟩ : ∃ k, fu = k + 1 := ⟨fu - 1, by omega⟩
      have hb := blkS box 0 (fun j => image (115 * K + 72 + j)) k
      rw [Nat.zero_add] at hb
      rw [f_X9_restore_L120, if_neg (show ¬ (40 : Int32) ≤ nI k from nI_ge (show k < 40 by omega) (by decide)), show nI (115 * K) + 72 = nI (115 * K + 72) from nI_add _ 72, nI_add, gd_ok (n_in (show 115 * K + 72 + k < 230 by omega) (by decide)), gd_ok (n_in (show k < 40 by omega) (by decide)), nI_clamp (show k < 2 ^ 31 by omega), nI_clamp (show 115 * K + 72 + k < 2 ^ 31 by omega), nI_1, hb]
      exact ih (k + 1) fu (by omega) (by omega)
  have h := key 40 0 FU (by omega) (FU_gt (by decide))
  rw [blk0] at h
  exact h
theorem blk_ag (f g : Nat → Int32) (n : Nat) : ag n (blk f 0 g n) g := fun j hj => by
  have h := blk_in (im := f) (src := g) (b := 0) (n := n) hj
  rw [Nat.zero_add] at h
  exact h
theorem m_restore {how strong plan box image kept : Nat → Int32} {mparts msw : Int32} (K : Nat) (hK : K < 2) (hk : ¬ kept K = 0) : f_X9_restore mparts msw how strong plan box image kept (nI K) = some (1, image (115 * K + 112), image (115 * K + 113), blk how 0 (fun j => image (115 * K + j)) 8, blk strong 0 (fun j => image (115 * K + 8 + j)) 4, blk plan 0 (fun j => image (115 * K + 12 + j)) 60, blk box 0 (fun j => image (115 * K + 72 + j)) 40) := by
  unfold f_X9_restore
  rw [m_in1 (nI_pos (by omega)) (show ¬ (1 : Int32) < nI K from nI_nlt (show K ≤ 1 by omega) (by decide)), eb1, if_neg (show ¬ (1 : Int32) = 0 by decide), gd_ok (n_in hK (by decide)), nI_clamp (show K < 2 ^ 31 by omega), if_neg hk, show (115 : Int32) * nI K = nI (115 * K) from pk_mul 115 K, rs_L31 _ _ K hK, rs_L59 _ _ K hK, rs_L89 _ _ K hK, rs_L120 _ _ K hK]
theorem m_restore0 {how strong plan box image kept : Nat → Int32} {mparts msw : Int32} (K : Nat) (hK : K < 2) (hk : kept K = 0) : f_X9_restore mparts msw how strong plan box image kept (nI K) = some (-3, mparts, msw, how, strong, plan, box) := by
  unfold f_X9_restore
  rw [m_in1 (nI_pos (by omega)) (show ¬ (1 : Int32) < nI K from nI_nlt (show K ≤ 1 by omega) (by decide)), eb1, if_neg (show ¬ (1 : Int32) = 0 by decide), gd_ok (n_in hK (by decide)), nI_clamp (show K < 2 ^ 31 by omega), if_pos hk]
set_option maxHeartbeats 1000000 in
theorem s_restore {n s : Nat → Int32} {p m : Int32} {w a l : Nat → Int32} {c : Int32} {d : Nat → Int32} {zn zs : Nat → Int32} {zp zm : Int32} {zw za zl : Nat → Int32} {zc : Int32} {zd : Nat → Int32} {qn qs : Nat → Int32} {qp qm : Int32} {qw qa ql : Nat → Int32} {qc : Int32} {qd : Nat → Int32} {zh qh : Int32} {how strong plan box image kept : Nat → Int32} {mparts msw : Int32} (hR : Rec n s p m w a l c d how strong mparts plan msw box) (h0 : KI image kept 0 zh zn zs zp zm zw za zl zc zd) (h1 : KI image kept 1 qh qn qs qp qm qw qa ql qc qd) (x1 : Int32) : ∃ r n' s' p' m' w' a' l' c' d' mparts' msw' how' strong' plan' box', f_X8_restore n s p m w a l c d zh zn zs zp zm zw za zl zc zd qh qn qs qp qm qw qa ql qc qd x1 = some (r, n', s', p', m', w', a', l', c', d') ∧ f_X9_restore mparts msw how strong plan box image kept x1 = some (r, mparts', msw', how', strong', plan', box') ∧ Rec n' s' p' m' w' a' l' c' d' how' strong' mparts' plan' msw' box' := by
  unfold f_X8_restore
  by_cases a1 : x1 < 0
  · unfold f_X9_restore
    rw [if_pos a1, m_in0 (Or.inl a1), eb1, if_pos rfl]
    exact ⟨_, _, _, _, _, _, _, _, _, _, _, _, _, _, _, _, rfl, rfl, hR⟩
  by_cases a2 : 1 < x1
  · unfold f_X9_restore
    rw [if_neg a1, if_neg (show ¬ x1 ≤ 1 by rw [t_le]; rw [t_lt] at a2; omega), m_in0 (Or.inr a2), eb1, if_pos rfl]
    exact ⟨_, _, _, _, _, _, _, _, _, _, _, _, _, _, _, _, rfl, rfl, hR⟩
  rw [if_neg a1, if_pos (show x1 ≤ 1 by rw [t_le]; rw [t_lt] at a2; omega)]
  by_cases b : x1 = 0
  · rw [if_pos b]
    rcases h0 with ⟨k0, k1⟩ | ⟨k0, k1, k2⟩
    · rw [if_pos k1, b, show (0 : Int32) = nI 0 from rfl, m_restore0 0 (by omega) k0]
      exact ⟨_, _, _, _, _, _, _, _, _, _, _, _, _, _, _, _, rfl, rfl, hR⟩
    · obtain ⟨n', s', w', a', l', d', e, g1, g2, g3, g4, g5, g6⟩ := e_copyFrom n s p m w a l c d zn zs zp zm zw za zl zc zd
      rw [if_neg (by rw [k1]; decide), e, eb9, b, show (0 : Int32) = nI 0 from rfl, m_restore 0 (by omega) (by rw [k0]; decide)]
      exact ⟨_, _, _, _, _, _, _, _, _, _, _, _, _, _, _, _, rfl, rfl, Rec_cong k2 g1 g2 g3 g4 g5 g6 (blk_ag _ _ _) (blk_ag _ _ _) (blk_ag _ _ _) (blk_ag _ _ _) rfl rfl rfl⟩
  · have b1 : x1 = 1 := by
      rw [t_lt, i0] at a1
      rw [t_lt, i1] at a2
      rw [t_eq, i0] at b
      rw [t_eq, i1]
      omega
    rw [if_neg b]
    rcases h1 with ⟨k0, k1⟩ | ⟨k0, k1, k2⟩
    · rw [if_pos k1, b1, show (1 : Int32) = nI 1 from rfl, m_restore0 1 (by omega) k0]
      exact ⟨_, _, _, _, _, _, _, _, _, _, _, _, _, _, _, _, rfl, rfl, hR⟩
    · obtain ⟨n', s', w', a', l', d', e, g1, g2, g3, g4, g5, g6⟩ := e_copyFrom n s p m w a l c d qn qs qp qm qw qa ql qc qd
      rw [if_neg (by rw [k1]; decide), e, eb9, b1, show (1 : Int32) = nI 1 from rfl, m_restore 1 (by omega) (by rw [k0]; decide)]
      exact ⟨_, _, _, _, _, _, _, _, _, _, _, _, _, _, _, _, rfl, rfl, Rec_cong k2 g1 g2 g3 g4 g5 g6 (blk_ag _ _ _) (blk_ag _ _ _) (blk_ag _ _ _) (blk_ag _ _ _) rfl rfl rfl⟩
