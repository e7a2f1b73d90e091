/-! numbers: Int32 by its integer -/
theorem t_ad {a b : Int32} (h1 : -2147483648 ≤ a.toInt + b.toInt) (h2 : a.toInt + b.toInt ≤ 2147483647) : (a + b).toInt = a.toInt + b.toInt := by
  rw [Int32.toInt_add]; exact Int.bmod_eq_of_le (by omega) (by omega)
theorem t_sb {a b : Int32} (h1 : -2147483648 ≤ a.toInt - b.toInt) (h2 : a.toInt - b.toInt ≤ 2147483647) : (a - b).toInt = a.toInt - b.toInt := by
  rw [Int32.toInt_sub]; exact Int.bmod_eq_of_le (by omega) (by omega)
theorem t_ml {a b : Int32} (h1 : -2147483648 ≤ a.toInt * b.toInt) (h2 : a.toInt * b.toInt ≤ 2147483647) : (a * b).toInt = a.toInt * b.toInt := by
  rw [Int32.toInt_mul]; exact Int.bmod_eq_of_le (by omega) (by omega)
theorem t_ng {a : Int32} (h1 : -2147483647 ≤ a.toInt) : (-a).toInt = -a.toInt := by
  have h2 := a.toInt_lt
  rw [Int32.toInt_neg]; exact Int.bmod_eq_of_le (by omega) (by omega)
theorem t_dv {a b : Int32} (ha : 0 ≤ a.toInt) (hb : 0 < b.toInt) : (a / b).toInt = a.toInt / b.toInt := by
  rw [Int32.toInt_div_of_ne_right _ _ (fun h => by rw [h] at hb; exact absurd hb (by decide)), Int.tdiv_eq_ediv_of_nonneg ha]
theorem t_lt {a b : Int32} : a < b ↔ a.toInt < b.toInt := Int32.lt_iff_toInt_lt
theorem t_le {a b : Int32} : a ≤ b ↔ a.toInt ≤ b.toInt := Int32.le_iff_toInt_le
theorem t_eq {a b : Int32} : a = b ↔ a.toInt = b.toInt := Int32.toInt_inj.symm
theorem t_hi (a : Int32) : a.toInt ≤ 2147483647 := by have := a.toInt_lt; omega
theorem t_lo (a : Int32) : -2147483648 ≤ a.toInt := by have := a.le_toInt; omega
theorem t_lit (n : Nat) (h : n < 2147483648) : (Int32.ofNat n).toInt = n := Int32.toInt_ofNat_of_lt h
theorem t_n (n : Nat) (h : n < 2147483648) : (nI n).toInt = n := Int32.toInt_ofNat_of_lt h
theorem t_of {x : Int32} (h : 0 ≤ x.toInt) : x = nI x.toInt.toNat := by
  apply Int32.toInt_inj.mp
  have := t_hi x
  rw [t_n _ (by omega)]
  omega
theorem t_cl {x : Int32} {j : Nat} (h : x.toInt = j) : x.toNatClampNeg = j := by
  show x.toInt.toNat = j
  omega
theorem t_in {x : Int32} {n : Nat} (h0 : 0 ≤ x.toInt) (h1 : x.toInt < n) : ¬ (x < 0 ∨ n ≤ x.toNatClampNeg) := by
  intro h
  rcases h with h | h
  · rw [t_lt] at h
    have : (0 : Int32).toInt = 0 := rfl
    omega
  · have : x.toNatClampNeg = x.toInt.toNat := rfl
    omega
theorem n_in {j n : Nat} (h : j < n) (hn : n < 2147483648) : ¬ (nI j < 0 ∨ n ≤ (nI j).toNatClampNeg) := vp_in_nI h hn
/-! loops that count up, and down -/
def itr {σ : Type} (step : Nat → σ → σ) : Nat → Nat → σ → σ
  | _, 0, s => s
  | j, n + 1, s => itr step (j + 1) n (step j s)
theorem itr_last {σ : Type} (step : Nat → σ → σ) : ∀ (n j : Nat) (s : σ), itr step j (n + 1) s = step (j + n) (itr step j n s) := by
  intro n
  induction n with
  | zero => intro j s; rfl
  | succ n ih =>
    intro j s
    rw [itr, ih, itr]
    congr 1
    omega
theorem loop_up {σ R : Type} (F : Nat → Int32 → σ → Option R) (N : Nat) (step : Nat → σ → σ) (fin : σ → Option R) (Inv : Nat → σ → Prop)
    (hs : ∀ fu j s, j < N → Inv j s → F (fu + 1) (nI j) s = F fu (nI (j + 1)) (step j s)) (hi : ∀ j s, j < N → Inv j s → Inv (j + 1) (step j s)) (he : ∀ fu s, Inv N s → F (fu + 1) (nI N) s = fin s) :
    ∀ (n fu j : Nat) (s : σ), j + n = N → n < fu → Inv j s → F fu (nI j) s = fin (itr step j n s) ∧ Inv N (itr step j n s) := by
  intro n
  induction n with
  | zero =>
    intro fu j s hj hf hI
    obtain ⟨fu, rfl⟩ : ∃ k, fu = k + 1 := ⟨fu - 1, by omega⟩
    have : j = N := by omega
    subst this
    exact ⟨he fu s hI, hI⟩
  | succ n ih =>
    intro fu j s hj hf hI
    obtain ⟨fu, rfl⟩ : ∃ k, fu = k + 1 := ⟨fu - 1, by omega⟩
    rw [hs fu j s (by omega) hI]
    exact ih fu (j + 1) (step j s) (by omega) (by omega) (hi j s (by omega) hI)
/-- arrays that agree below n -/
def ag (n : Nat) (f g : Nat → Int32) : Prop := ∀ k, k < n → f k = g k
theorem ag_rf {n : Nat} {f : Nat → Int32} : ag n f f := fun _ _ => rfl
theorem ag_sy {n : Nat} {f g : Nat → Int32} (h : ag n f g) : ag n g f := fun k hk => (h k hk).symm
theorem ag_tr {n : Nat} {f g h : Nat → Int32} (h1 : ag n f g) (h2 : ag n g h) : ag n f h := fun k hk => (h1 k hk).trans (h2 k hk)
theorem ag_up {n : Nat} {f g : Nat → Int32} (h : ag n f g) (j : Nat) (v : Int32) : ag n (upd f j v) (upd g j v) := fun k hk => by
  unfold upd
  split
  · rfl
  · exact h k hk
theorem upd_at (f : Nat → Int32) (k : Nat) (x : Int32) (j : Nat) : upd f k x j = if j = k then x else f j := rfl
