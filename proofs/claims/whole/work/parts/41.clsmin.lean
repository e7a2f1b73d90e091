/-! binds over some -/
theorem eb1 {α β : Type} {a : α} {k : α → Option β} : Option.bind (some a) k = k a := rfl
theorem eb2 {α1 α2 β : Type} {k : α1 → α2 → Option β} {a1 : α1} {a2 : α2} : bd2 (some (a1, a2)) k = k a1 a2 := rfl
theorem eb3 {α1 α2 α3 β : Type} {k : α1 → α2 → α3 → Option β} {a1 : α1} {a2 : α2} {a3 : α3} : bd3 (some (a1, a2, a3)) k = k a1 a2 a3 := rfl
theorem eb4 {α1 α2 α3 α4 β : Type} {k : α1 → α2 → α3 → α4 → Option β} {a1 : α1} {a2 : α2} {a3 : α3} {a4 : α4} : bd4 (some (a1, a2, a3, a4)) k = k a1 a2 a3 a4 := rfl
theorem eb5 {α1 α2 α3 α4 α5 β : Type} {k : α1 → α2 → α3 → α4 → α5 → Option β} {a1 : α1} {a2 : α2} {a3 : α3} {a4 : α4} {a5 : α5} : bd5 (some (a1, a2, a3, a4, a5)) k = k a1 a2 a3 a4 a5 := rfl
theorem eb6 {α1 α2 α3 α4 α5 α6 β : Type} {k : α1 → α2 → α3 → α4 → α5 → α6 → Option β} {a1 : α1} {a2 : α2} {a3 : α3} {a4 : α4} {a5 : α5} {a6 : α6} : bd6 (some (a1, a2, a3, a4, a5, a6)) k = k a1 a2 a3 a4 a5 a6 := rfl
theorem eb7 {α1 α2 α3 α4 α5 α6 α7 β : Type} {k : α1 → α2 → α3 → α4 → α5 → α6 → α7 → Option β} {a1 : α1} {a2 : α2} {a3 : α3} {a4 : α4} {a5 : α5} {a6 : α6} {a7 : α7} : bd7 (some (a1, a2, a3, a4, a5, a6, a7)) k = k a1 a2 a3 a4 a5 a6 a7 := rfl
theorem eb8 {α1 α2 α3 α4 α5 α6 α7 α8 β : Type} {k : α1 → α2 → α3 → α4 → α5 → α6 → α7 → α8 → Option β} {a1 : α1} {a2 : α2} {a3 : α3} {a4 : α4} {a5 : α5} {a6 : α6} {a7 : α7} {a8 : α8} : bd8 (some (a1, a2, a3, a4, a5, a6, a7, a8)) k = k a1 a2 a3 a4 a5 a6 a7 a8 := rfl
theorem eb9 {α1 α2 α3 α4 α5 α6 α7 α8 α9 β : Type} {k : α1 → α2 → α3 → α4 → α5 → α6 → α7 → α8 → α9 → Option β} {a1 : α1} {a2 : α2} {a3 : α3} {a4 : α4} {a5 : α5} {a6 : α6} {a7 : α7} {a8 : α8} {a9 : α9} : bd9 (some (a1, a2, a3, a4, a5, a6, a7, a8, a9)) k = k a1 a2 a3 a4 a5 a6 a7 a8 a9 := rfl
theorem eb10 {α1 α2 α3 α4 α5 α6 α7 α8 α9 α10 β : Type} {k : α1 → α2 → α3 → α4 → α5 → α6 → α7 → α8 → α9 → α10 → Option β} {a1 : α1} {a2 : α2} {a3 : α3} {a4 : α4} {a5 : α5} {a6 : α6} {a7 : α7} {a8 : α8} {a9 : α9} {a10 : α10} : bd10 (some (a1, a2, a3, a4, a5, a6, a7, a8, a9, a10)) k = k a1 a2 a3 a4 a5 a6 a7 a8 a9 a10 := rfl
theorem eb11 {α1 α2 α3 α4 α5 α6 α7 α8 α9 α10 α11 β : Type} {k : α1 → α2 → α3 → α4 → α5 → α6 → α7 → α8 → α9 → α10 → α11 → Option β} {a1 : α1} {a2 : α2} {a3 : α3} {a4 : α4} {a5 : α5} {a6 : α6} {a7 : α7} {a8 : α8} {a9 : α9} {a10 : α10} {a11 : α11} : bd11 (some (a1, a2, a3, a4, a5, a6, a7, a8, a9, a10, a11)) k = k a1 a2 a3 a4 a5 a6 a7 a8 a9 a10 a11 := rfl
theorem eb12 {α1 α2 α3 α4 α5 α6 α7 α8 α9 α10 α11 α12 β : Type} {k : α1 → α2 → α3 → α4 → α5 → α6 → α7 → α8 → α9 → α10 → α11 → α12 → Option β} {a1 : α1} {a2 : α2} {a3 : α3} {a4 : α4} {a5 : α5} {a6 : α6} {a7 : α7} {a8 : α8} {a9 : α9} {a10 : α10} {a11 : α11} {a12 : α12} : bd12 (some (a1, a2, a3, a4, a5, a6, a7, a8, a9, a10, a11, a12)) k = k a1 a2 a3 a4 a5 a6 a7 a8 a9 a10 a11 a12 := rfl
theorem eb13 {α1 α2 α3 α4 α5 α6 α7 α8 α9 α10 α11 α12 α13 β : Type} {k : α1 → α2 → α3 → α4 → α5 → α6 → α7 → α8 → α9 → α10 → α11 → α12 → α13 → Option β} {a1 : α1} {a2 : α2} {a3 : α3} {a4 : α4} {a5 : α5} {a6 : α6} {a7 : α7} {a8 : α8} {a9 : α9} {a10 : α10} {a11 : α11} {a12 : α12} {a13 : α13} : bd13 (some (a1, a2, a3, a4, a5, a6, a7, a8, a9, a10, a11, a12, a13)) k = k a1 a2 a3 a4 a5 a6 a7 a8 a9 a10 a11 a12 a13 := rfl
theorem eb14 {α1 α2 α3 α4 α5 α6 α7 α8 α9 α10 α11 α12 α13 α14 β : Type} {k : α1 → α2 → α3 → α4 → α5 → α6 → α7 → α8 → α9 → α10 → α11 → α12 → α13 → α14 → Option β} {a1 : α1} {a2 : α2} {a3 : α3} {a4 : α4} {a5 : α5} {a6 : α6} {a7 : α7} {a8 : α8} {a9 : α9} {a10 : α10} {a11 : α11} {a12 : α12} {a13 : α13} {a14 : α14} : bd14 (some (a1, a2, a3, a4, a5, a6, a7, a8, a9, a10, a11, a12, a13, a14)) k = k a1 a2 a3 a4 a5 a6 a7 a8 a9 a10 a11 a12 a13 a14 := rfl
theorem eb15 {α1 α2 α3 α4 α5 α6 α7 α8 α9 α10 α11 α12 α13 α14 α15 β : Type} {k : α1 → α2 → α3 → α4 → α5 → α6 → α7 → α8 → α9 → α10 → α11 → α12 → α13 → α14 → α15 → Option β} {a1 : α1} {a2 : α2} {a3 : α3} {a4 : α4} {a5 : α5} {a6 : α6} {a7 : α7} {a8 : α8} {a9 : α9} {a10 : α10} {a11 : α11} {a12 : α12} {a13 : α13} {a14 : α14} {a15 : α15} : bd15 (some (a1, a2, a3, a4, a5, a6, a7, a8, a9, a10, a11, a12, a13, a14, a15)) k = k a1 a2 a3 a4 a5 a6 a7 a8 a9 a10 a11 a12 a13 a14 a15 := rfl
theorem eb16 {α1 α2 α3 α4 α5 α6 α7 α8 α9 α10 α11 α12 α13 α14 α15 α16 β : Type} {k : α1 → α2 → α3 → α4 → α5 → α6 → α7 → α8 → α9 → α10 → α11 → α12 → α13 → α14 → α15 → α16 → Option β} {a1 : α1} {a2 : α2} {a3 : α3} {a4 : α4} {a5 : α5} {a6 : α6} {a7 : α7} {a8 : α8} {a9 : α9} {a10 : α10} {a11 : α11} {a12 : α12} {a13 : α13} {a14 : α14} {a15 : α15} {a16 : α16} : bd16 (some (a1, a2, a3, a4, a5, a6, a7, a8, a9, a10, a11, a12, a13, a14, a15, a16)) k = k a1 a2 a3 a4 a5 a6 a7 a8 a9 a10 a11 a12 a13 a14 a15 a16 := rfl
theorem eb17 {α1 α2 α3 α4 α5 α6 α7 α8 α9 α10 α11 α12 α13 α14 α15 α16 α17 β : Type} {k : α1 → α2 → α3 → α4 → α5 → α6 → α7 → α8 → α9 → α10 → α11 → α12 → α13 → α14 → α15 → α16 → α17 → Option β} {a1 : α1} {a2 : α2} {a3 : α3} {a4 : α4} {a5 : α5} {a6 : α6} {a7 : α7} {a8 : α8} {a9 : α9} {a10 : α10} {a11 : α11} {a12 : α12} {a13 : α13} {a14 : α14} {a15 : α15} {a16 : α16} {a17 : α17} : bd17 (some (a1, a2, a3, a4, a5, a6, a7, a8, a9, a10, a11, a12, a13, a14, a15, a16, a17)) k = k a1 a2 a3 a4 a5 a6 a7 a8 a9 a10 a11 a12 a13 a14 a15 a16 a17 := rfl
theorem eb18 {α1 α2 α3 α4 α5 α6 α7 α8 α9 α10 α11 α12 α13 α14 α15 α16 α17 α18 β : Type} {k : α1 → α2 → α3 → α4 → α5 → α6 → α7 → α8 → α9 → α10 → α11 → α12 → α13 → α14 → α15 → α16 → α17 → α18 → Option β} {a1 : α1} {a2 : α2} {a3 : α3} {a4 : α4} {a5 : α5} {a6 : α6} {a7 : α7} {a8 : α8} {a9 : α9} {a10 : α10} {a11 : α11} {a12 : α12} {a13 : α13} {a14 : α14} {a15 : α15} {a16 : α16} {a17 : α17} {a18 : α18} : bd18 (some (a1, a2, a3, a4, a5, a6, a7, a8, a9, a10, a11, a12, a13, a14, a15, a16, a17, a18)) k = k a1 a2 a3 a4 a5 a6 a7 a8 a9 a10 a11 a12 a13 a14 a15 a16 a17 a18 := rfl
theorem eb19 {α1 α2 α3 α4 α5 α6 α7 α8 α9 α10 α11 α12 α13 α14 α15 α16 α17 α18 α19 β : Type} {k : α1 → α2 → α3 → α4 → α5 → α6 → α7 → α8 → α9 → α10 → α11 → α12 → α13 → α14 → α15 → α16 → α17 → α18 → α19 → Option β} {a1 : α1} {a2 : α2} {a3 : α3} {a4 : α4} {a5 : α5} {a6 : α6} {a7 : α7} {a8 : α8} {a9 : α9} {a10 : α10} {a11 : α11} {a12 : α12} {a13 : α13} {a14 : α14} {a15 : α15} {a16 : α16} {a17 : α17} {a18 : α18} {a19 : α19} : bd19 (some (a1, a2, a3, a4, a5, a6, a7, a8, a9, a10, a11, a12, a13, a14, a15, a16, a17, a18, a19)) k = k a1 a2 a3 a4 a5 a6 a7 a8 a9 a10 a11 a12 a13 a14 a15 a16 a17 a18 a19 := rfl
theorem eb20 {α1 α2 α3 α4 α5 α6 α7 α8 α9 α10 α11 α12 α13 α14 α15 α16 α17 α18 α19 α20 β : Type} {k : α1 → α2 → α3 → α4 → α5 → α6 → α7 → α8 → α9 → α10 → α11 → α12 → α13 → α14 → α15 → α16 → α17 → α18 → α19 → α20 → Option β} {a1 : α1} {a2 : α2} {a3 : α3} {a4 : α4} {a5 : α5} {a6 : α6} {a7 : α7} {a8 : α8} {a9 : α9} {a10 : α10} {a11 : α11} {a12 : α12} {a13 : α13} {a14 : α14} {a15 : α15} {a16 : α16} {a17 : α17} {a18 : α18} {a19 : α19} {a20 : α20} : bd20 (some (a1, a2, a3, a4, a5, a6, a7, a8, a9, a10, a11, a12, a13, a14, a15, a16, a17, a18, a19, a20)) k = k a1 a2 a3 a4 a5 a6 a7 a8 a9 a10 a11 a12 a13 a14 a15 a16 a17 a18 a19 a20 := rfl
theorem eb21 {α1 α2 α3 α4 α5 α6 α7 α8 α9 α10 α11 α12 α13 α14 α15 α16 α17 α18 α19 α20 α21 β : Type} {k : α1 → α2 → α3 → α4 → α5 → α6 → α7 → α8 → α9 → α10 → α11 → α12 → α13 → α14 → α15 → α16 → α17 → α18 → α19 → α20 → α21 → Option β} {a1 : α1} {a2 : α2} {a3 : α3} {a4 : α4} {a5 : α5} {a6 : α6} {a7 : α7} {a8 : α8} {a9 : α9} {a10 : α10} {a11 : α11} {a12 : α12} {a13 : α13} {a14 : α14} {a15 : α15} {a16 : α16} {a17 : α17} {a18 : α18} {a19 : α19} {a20 : α20} {a21 : α21} : bd21 (some (a1, a2, a3, a4, a5, a6, a7, a8, a9, a10, a11, a12, a13, a14, a15, a16, a17, a18, a19, a20, a21)) k = k a1 a2 a3 a4 a5 a6 a7 a8 a9 a10 a11 a12 a13 a14 a15 a16 a17 a18 a19 a20 a21 := rfl
theorem eb22 {α1 α2 α3 α4 α5 α6 α7 α8 α9 α10 α11 α12 α13 α14 α15 α16 α17 α18 α19 α20 α21 α22 β : Type} {k : α1 → α2 → α3 → α4 → α5 → α6 → α7 → α8 → α9 → α10 → α11 → α12 → α13 → α14 → α15 → α16 → α17 → α18 → α19 → α20 → α21 → α22 → Option β} {a1 : α1} {a2 : α2} {a3 : α3} {a4 : α4} {a5 : α5} {a6 : α6} {a7 : α7} {a8 : α8} {a9 : α9} {a10 : α10} {a11 : α11} {a12 : α12} {a13 : α13} {a14 : α14} {a15 : α15} {a16 : α16} {a17 : α17} {a18 : α18} {a19 : α19} {a20 : α20} {a21 : α21} {a22 : α22} : bd22 (some (a1, a2, a3, a4, a5, a6, a7, a8, a9, a10, a11, a12, a13, a14, a15, a16, a17, a18, a19, a20, a21, a22)) k = k a1 a2 a3 a4 a5 a6 a7 a8 a9 a10 a11 a12 a13 a14 a15 a16 a17 a18 a19 a20 a21 a22 := rfl
/-! the class's small methods in closed form -/
theorem e_quot (a b : Int32) : f_X8_quotient a b = some (a / b) := by
  unfold f_X8_quotient
  split
  · next h => rw [h, Int32.div_zero]
  · next h => exact gd_ok h
theorem e_at {n : Nat} {f : Nat → Int32} {i : Int32} (j : Nat) (hj : j < n) (hn : n < 2147483648) (hi : i = nI j) : f_X8_at n f i = some (f j) := by
  subst hi
  unfold f_X8_at
  rw [if_neg (nI_pos (by omega)), if_neg (show ¬ Int32.ofNat n ≤ nI j from nI_ge hj (by omega)), gd_ok (n_in hj hn), nI_clamp (by omega)]
theorem e_at4 (f : Nat → Int32) : f_X8_at 4 f 4 = some 0 := by
  unfold f_X8_at
  rw [if_neg (by decide), if_pos (by decide)]
theorem e_put {n : Nat} {f : Nat → Int32} {i v : Int32} (j : Nat) (hj : j < n) (hn : n < 2147483648) (hi : i = nI j) : f_X8_put n f i v = some (upd f j v) := by
  subst hi
  unfold f_X8_put
  rw [if_neg (nI_pos (by omega)), if_neg (show ¬ Int32.ofNat n ≤ nI j from nI_ge hj (by omega)), gd_ok (n_in hj hn), nI_clamp (by omega)]
theorem e_num {f : Nat → Int32} {i : Int32} (j : Nat) (hj : j < 8) (hi : i = nI j) : f_X4_number f i = some (f j) := by
  unfold f_X4_number
  rw [e_at j hj (by decide) hi]; rfl
theorem e_wear {f : Nat → Int32} {i : Int32} (j : Nat) (hj : j < 4) (hi : i = nI j) : f_X1_weariness f i = some (f j) := by
  unfold f_X1_weariness
  rw [e_at j hj (by decide) hi]; rfl
theorem e_grams {f : Nat → Int32} {i : Int32} (j : Nat) (hj : j < 64) (hi : i = nI j) : f_X2_gramsOf f i = some (f j) := by
  unfold f_X2_gramsOf
  rw [e_at j hj (by decide) hi]; rfl
theorem e_code {f : Nat → Int32} {i : Int32} (j : Nat) (hj : j < 40) (hi : i = nI j) : f_X6_codeAt f i = some (f j) := by
  unfold f_X6_codeAt
  rw [e_at j hj (by decide) hi]; rfl
theorem e_digit {f : Nat → Int32} {i : Int32} (j : Nat) (hj : j < 40) (hi : i = nI j) : f_X6_digitAt f i = some (f j - 48) := by
  unfold f_X6_digitAt
  rw [e_code j hj hi]; rfl
theorem e_fadd {t : Int32} {f : Nat → Int32} {i v : Int32} (j : Nat) (hj : j < 64) (hi : i = nI j) : f_X2_add t f i v = some (t + v, upd f j (f j + v)) := by
  unfold f_X2_add
  rw [e_at j hj (by decide) hi, eb1, e_put j hj (by decide) hi]; rfl
/-! a MINUTE's numbers -/
def stS (w air tot : Int32) : Int32 := 100 * tot / w + air / 5
def lnS (w s ly tot : Int32) : Int32 := 54 * s / (w - tot - ly)
def cqS (ice salt br : Int32) : Int32 := 900 * salt / (ice + br + salt)
def cdS (ice salt br cold : Int32) : Int32 := if ice ≤ 0 then (if 0 < cold - 5 then cold - 5 else 0) else (if cqS ice salt br < 210 then cqS ice salt br else 210)
def fqS (wm ly cd : Int32) : Int32 := 120 * (wm + cd) / (10 + ly)
def flS (wm ly cd : Int32) : Int32 := if 0 < fqS wm ly cd then fqS wm ly cd else 0
def mlS (ice fl : Int32) : Int32 := if fl / 80 + 3 < ice then fl / 80 + 3 else ice
def l1S (w s ly tot wm fl : Int32) : Int32 := if wm ≤ -(lnS w s ly tot) then ly + (if w - tot - ly - 1 < fl / 80 then w - tot - ly - 1 else fl / 80) else ly
def w1S (w s f ly tot wm fl : Int32) : Int32 := if wm ≤ -(lnS w s ly tot) then -(lnS w s (l1S w s ly tot wm fl) tot) else (if -(lnS w s ly tot) < wm - 10 * fl / (w + s + f) then wm - 10 * fl / (w + s + f) else -(lnS w s ly tot))
def ofS (ly pb : Int32) : Int32 := if ly < 4 * pb then ly else 4 * pb
def szS (ly : Int32) : Int32 := if 10 + ly < 60 then 10 + ly else 60
def arS (fat air ch st pb : Int32) : Int32 := if fat < 50 then air else if st < 10 then air else if 8 ≤ ch then air else (if air + pb / 3 < 100 then air + pb / 3 else 100)
def chS (ch st pb : Int32) : Int32 := if pb < 6 then ch else if st < 50 then ch else ch + 1
theorem e_line (w s ly tot : Int32) : f_X0_line w s ly tot = some (lnS w s ly tot) := by
  unfold f_X0_line f_X0_liquid lnS
  rw [eb1, e_quot]; rfl
theorem e_stiff (w air tot : Int32) : f_X0_stiff w air tot = some (stS w air tot) := by
  unfold f_X0_stiff stS
  rw [e_quot]; rfl
theorem e_flow (wm ly cd : Int32) : f_X0_flow wm ly cd = some (flS wm ly cd) := by
  unfold f_X0_flow flS fqS
  rw [e_quot]; rfl
theorem e_settle (ice salt br cold : Int32) : f_X3_settle ice salt br cold = some (cdS ice salt br cold) := by
  unfold f_X3_settle cdS cqS
  split
  · rfl
  · rw [e_quot]; rfl
theorem e_melt (ice br fl : Int32) : f_X3_melt ice br fl = some (ice - mlS ice fl, br + mlS ice fl) := rfl
theorem e_give (w s f wm ly tot fl : Int32) : f_X0_giveWarmth w s f wm ly tot fl = some (w1S w s f ly tot wm fl, l1S w s ly tot wm fl) := by
  unfold f_X0_giveWarmth
  rw [e_line, eb1]
  unfold w1S
  split
  · next h =>
    unfold f_X0_liquid
    rw [eb1, e_line, eb1]
    unfold l1S
    rw [if_pos h]
  · next h =>
    rw [eb1, e_quot, eb1]
    unfold l1S
    rw [if_neg h]
theorem e_scrape {ly tot pb : Int32} {g : Nat → Int32} (k : Nat) (hk : k < 64) (hs : szS ly = nI k) : f_X0_scrape ly tot g pb = some (ly - ofS ly pb, tot + ofS ly pb, upd g k (g k + ofS ly pb)) := by
  unfold f_X0_scrape
  rw [e_fadd k hk (show (if ((10 : Int32) + ly) < (60 : Int32) then ((10 : Int32) + ly) else (60 : Int32)) = nI k from hs)]
  rfl
theorem e_beat (fat air ch pb st : Int32) : f_X0_beat fat air ch pb st = some (arS fat air ch st pb, chS ch st pb) := by
  unfold f_X0_beat arS f_X0_beat_L41 chS
  split
  · split
    · rfl
    · split <;> rfl
  · split
    · split
      · rfl
      · split <;> rfl
    · split
      · split
        · rfl
        · split <;> rfl
      · split
        · rfl
        · split <;> rfl
/-- MINUTE of the class, behind the decision who turns -/
theorem c_108 (salt w s f pb child st tu t held first ice br cold wm ly air ch tot : Int32) (g wr hb wr' : Nat → Int32) (k n : Nat) (hk : k < 64) (hs : szS (l1S w s ly tot wm (flS wm ly (cdS ice salt br cold))) = nI k) (hw : f_X1_pass wr (if tu = 0 then 4 else child) pb = some wr') (hn : n < 117) (ht : t = nI n) :
    f_X5_passMinute_L108 salt w s f pb child st tu t held first ice br cold wm ly air ch tot g wr hb =
      some (t + 1, held, first, ice - mlS ice (flS wm ly (cdS ice salt br cold)), br + mlS ice (flS wm ly (cdS ice salt br cold)), cdS ice salt br cold, w1S w s f ly tot wm (flS wm ly (cdS ice salt br cold)), l1S w s ly tot wm (flS wm ly (cdS ice salt br cold)) - ofS (l1S w s ly tot wm (flS wm ly (cdS ice salt br cold))) pb, arS f air ch st pb, chS ch st pb, tot + ofS (l1S w s ly tot wm (flS wm ly (cdS ice salt br cold))) pb, upd g k (g k + ofS (l1S w s ly tot wm (flS wm ly (cdS ice salt br cold))) pb), wr', upd hb n (stS w (arS f air ch st pb) (tot + ofS (l1S w s ly tot wm (flS wm ly (cdS ice salt br cold))) pb))) := by
  unfold f_X5_passMinute_L108
  rw [e_settle, eb1, e_flow, eb1, e_melt, eb2, e_give, eb2, e_scrape k hk hs, eb3, e_beat, eb2]
  unfold f_X5_passMinute_L185
  split
  · next h =>
    rw [if_pos h] at hw
    rw [hw, eb1, e_stiff, eb1, e_put n hn (by decide) ht]; rfl
  · next h =>
    rw [if_neg h] at hw
    rw [hw, eb1, e_stiff, eb1, e_put n hn (by decide) ht]; rfl
/-- whether CHILD turns, and what it makes of PACE, HELD, the first HELD -/
def pbS (child pace str wrc st : Int32) : Int32 := if child = 4 then 0 else if pace ≤ 0 then 0 else if str - wrc < st + 4 * pace then 0 else pace
def tuS (child pace str wrc st : Int32) : Int32 := if child = 4 then 4 else if pace ≤ 0 then 4 else if str - wrc < st + 4 * pace then 4 else child
def hdS (child pace str wrc st held : Int32) : Int32 := if child = 4 then held else if pace ≤ 0 then held else if str - wrc < st + 4 * pace then held + 1 else held
def fsS (child pace str wrc st held first t : Int32) : Int32 := if child = 4 then first else if pace ≤ 0 then first else if str - wrc < st + 4 * pace then (if held = 0 then t else first) else first
theorem c_min (t held first ice salt br cold w s f wm ly air ch tot : Int32) (g wr hb wr' : Nat → Int32) (child pace str wrc : Int32) (k n : Nat) (hk : k < 64) (hs : szS (l1S w s ly tot wm (flS wm ly (cdS ice salt br cold))) = nI k) (hwc : child = 4 ∨ f_X1_weariness wr child = some wrc) (hw : f_X1_pass wr (tuS child pace str wrc (stS w air tot)) (pbS child pace str wrc (stS w air tot)) = some wr') (hn : n < 117) (ht : t = nI n) (R : Int32 × Int32 × Int32 × Int32 × Int32 × Int32 × Int32 × Int32 × Int32 × Int32 × Int32 × (Nat → Int32) × (Nat → Int32) × (Nat → Int32))
    (hR : R = (t + 1, hdS child pace str wrc (stS w air tot) held, fsS child pace str wrc (stS w air tot) held first t, ice - mlS ice (flS wm ly (cdS ice salt br cold)), br + mlS ice (flS wm ly (cdS ice salt br cold)), cdS ice salt br cold, w1S w s f ly tot wm (flS wm ly (cdS ice salt br cold)), l1S w s ly tot wm (flS wm ly (cdS ice salt br cold)) - ofS (l1S w s ly tot wm (flS wm ly (cdS ice salt br cold))) (pbS child pace str wrc (stS w air tot)), arS f air ch (stS w air tot) (pbS child pace str wrc (stS w air tot)), chS ch (stS w air tot) (pbS child pace str wrc (stS w air tot)), tot + ofS (l1S w s ly tot wm (flS wm ly (cdS ice salt br cold))) (pbS child pace str wrc (stS w air tot)), upd g k (g k + ofS (l1S w s ly tot wm (flS wm ly (cdS ice salt br cold))) (pbS child pace str wrc (stS w air tot))), wr', upd hb n (stS w (arS f air ch (stS w air tot) (pbS child pace str wrc (stS w air tot))) (tot + ofS (l1S w s ly tot wm (flS wm ly (cdS ice salt br cold))) (pbS child pace str wrc (stS w air tot)))))) :
    f_X5_passMinute t held first ice salt br cold w s f wm ly air ch tot g wr hb child pace str = some R := by
  subst hR
  have h10 : ¬ (1 : Int32) = 0 := by decide
  unfold f_X5_passMinute
  rw [e_stiff, eb1]
  unfold pbS tuS at hw
  unfold pbS hdS fsS
  by_cases c1 : child = 4
  · rw [if_pos c1] at hw
    rw [if_pos c1] at hw
    rw [if_pos c1]
    simp only [if_pos c1]
    unfold f_X5_passMinute_L23 f_X5_passMinute_L54
    rw [if_pos rfl, if_pos rfl, if_pos rfl]
    exact c_108 _ _ _ _ _ _ _ _ _ _ _ _ _ _ _ _ _ _ _ _ _ _ _ k n hk hs (by rw [if_pos rfl]; exact hw) hn ht
  · have hwc := hwc.resolve_left c1
    simp only [if_neg c1] at hw ⊢
    by_cases c2 : pace ≤ 0
    · simp only [if_pos c2] at hw ⊢
      unfold f_X5_passMinute_L23 f_X5_passMinute_L54
      rw [if_pos rfl, if_pos rfl, if_pos rfl]
      exact c_108 _ _ _ _ _ _ _ _ _ _ _ _ _ _ _ _ _ _ _ _ _ _ _ k n hk hs (by rw [if_pos rfl]; exact hw) hn ht
    · simp only [if_neg c2] at hw ⊢
      unfold f_X5_passMinute_L23
      rw [if_neg h10, hwc, eb1]
      by_cases c3 : str - wrc < stS w air tot + 4 * pace
      · simp only [if_pos c3] at hw ⊢
        unfold f_X5_passMinute_L54
        rw [if_neg h10, if_pos rfl]
        by_cases c4 : held = 0
        · simp only [if_pos c4]
          unfold f_X5_passMinute_L85
          rw [if_pos rfl]
          exact c_108 _ _ _ _ _ _ _ _ _ _ _ _ _ _ _ _ _ _ _ _ _ _ _ k n hk hs (by rw [if_pos rfl]; exact hw) hn ht
        · simp only [if_neg c4]
          unfold f_X5_passMinute_L85
          rw [if_pos rfl]
          exact c_108 _ _ _ _ _ _ _ _ _ _ _ _ _ _ _ _ _ _ _ _ _ _ _ k n hk hs (by rw [if_pos rfl]; exact hw) hn ht
      · simp only [if_neg c3] at hw ⊢
        unfold f_X5_passMinute_L54
        rw [if_neg h10, if_neg h10, if_neg h10]
        exact c_108 _ _ _ _ _ _ _ _ _ _ _ _ _ _ _ _ _ _ _ _ _ _ _ k n hk hs (by rw [if_neg h10]; exact hw) hn ht

