theorem len_small {args : Array Value} {s : State} {tm : Term} {v : Value} (h : (Term.length tm).eval args s none [] s = some v) : ∃ (t : Nat) (cell : Cell), tm.eval args s none [] s = some (.ref t) ∧ s.heap[t]? = some cell ∧ v = .int cell.slots.size.toInt32 ∧ cell.slots.size < 2 ^ 31 := by
  obtain ⟨t, cell, ht, hat, hv⟩ := Term.length_spec h
  obtain ⟨hcell, -, -, -⟩ := State.arrayAt?_spec hat
  refine ⟨t, cell, ht, hcell, hv, ?_⟩
  simp only [Term.eval, ht, hat, Option.bind_eq_bind, Option.bind_some] at h
  by_cases hlt : cell.slots.size < 2147483648
  · exact hlt
  · simp [hlt] at h
theorem sx_row {args : Array Value} {s : State} {n : String} {N : Nat} {r : List Int32} {A : Nat → Prop} (hN : N < 2 ^ 31) (hlay : (Cond.laysStatic RX8 n "[I").before args s = true) (hini : (Cond.initialized RX8).before args s = true) (harr : (Cond.arrayOf (.static RX8 n "[I") .int).before args s = true) (hlen : (Cond.eq (.length (.static RX8 n "[I")) (.int (Int32.ofNat N))).before args s = true) (hel : ∀ j : Nat, j < N → (Cond.eq (.elem (.static RX8 n "[I") (.int (Int32.ofNat j))) (.int (r.getD j 0))).before args s = true) (hex : (Cond.exactly (.static RX8 n "[I") "[I").before args s = true) (hA : ∀ a : Nat, a < s.heap.size → ¬ A a) : ∃ t : Nat, va_Z RX8 n "[I" (.ref t) A s s.heap ∧ va_T .int t N (fun j => .int (r.getD j 0)) A s s.heap ∧ ∃ cell : Cell, s.heap[t]? = some cell ∧ cell.slots.size = N ∧ s.vm.findClass "[I" = some cell.cls := by
  obtain ⟨t, ht, hT⟩ := va_Tof (A := A) (f := fun j => .int (r.getD j 0)) hN harr (va_eqt hlen) (fun j hj => va_eqt (hel j hj)) hA
  obtain ⟨t2, cell, ht2, hcell, hv, hsz⟩ := len_small (va_eqt hlen)
  cases ht.symm.trans ht2
  obtain ⟨a, c, cell2, k, q1, q2, q3, q4, q5, q6, -⟩ := Cond.exactly_spec (args := args) (first := s) (o := none) (s := s) (idx := []) hex
  cases ht.symm.trans q1
  cases hcell.symm.trans q3
  refine ⟨t, va_Zof hlay hini ht hA, hT, cell, hcell, ?_, by rw [q6]; exact q2⟩
  have e : Int32.ofNat N = Int32.ofNat cell.slots.size := Value.int.inj hv
  have e2 : (nI N).toInt = (nI cell.slots.size).toInt := congrArg Int32.toInt e
  rw [t_n _ (by omega), t_n _ (by omega)] at e2
  omega
set_option maxRecDepth 100000 in
set_option maxHeartbeats 4000000 in
theorem hg0 {s : State} {b : Nat} (hts : ∀ w ∈ lw_tbl, w.before #[Value.ref b] s = true) (hgv : (Jvm.Cond.and given_1 narrow_1).before #[Value.ref b] s = true) : ∃ dC dI cI cZ ts, HG (dC, dI) cI cZ ts (fun q : Nat => s.heap.size ≤ q) s := by
  have hT : TW s := TW.init hts
  have hs := flat_of_before _ hgv
  have hA : ∀ a : Nat, a < s.heap.size → ¬ (fun q : Nat => s.heap.size ≤ q) a := fun a ha => Nat.not_le.mpr ha
  obtain ⟨t0, r0⟩ := sx_row (n := "LEAST") (N := 8) (r := trow 0) (args := #[Value.ref b]) (by decide) (hts _ (mt2 (List.mem_of_getElem? (i := 8) rfl))) (wd_1_1 hT) (hs (.arrayOf (.static "SaltIceCream" "LEAST" "[I") .int) (by decide +kernel)) (hs (.eq (.length (.static "SaltIceCream" "LEAST" "[I")) (.int (8 : Int32))) (by decide +kernel)) (fun j hj => match j, hj with | 0, _ => hs (.eq (.elem (.static "SaltIceCream" "LEAST" "[I") (.int (0 : Int32))) (.int (0 : Int32))) (by decide +kernel) | 1, _ => hs (.eq (.elem (.static "SaltIceCream" "LEAST" "[I") (.int (1 : Int32))) (.int (0 : Int32))) (by decide +kernel) | 2, _ => hs (.eq (.elem (.static "SaltIceCream" "LEAST" "[I") (.int (2 : Int32))) (.int (100 : Int32))) (by decide +kernel) | 3, _ => hs (.eq (.elem (.static "SaltIceCream" "LEAST" "[I") (.int (3 : Int32))) (.int (0 : Int32))) (by decide +kernel) | 4, _ => hs (.eq (.elem (.static "SaltIceCream" "LEAST" "[I") (.int (4 : Int32))) (.int (0 : Int32))) (by decide +kernel) | 5, _ => hs (.eq (.elem (.static "SaltIceCream" "LEAST" "[I") (.int (5 : Int32))) (.int (0 : Int32))) (by decide +kernel) | 6, _ => hs (.eq (.elem (.static "SaltIceCream" "LEAST" "[I") (.int (6 : Int32))) (.int (1 : Int32))) (by decide +kernel) | 7, _ => hs (.eq (.elem (.static "SaltIceCream" "LEAST" "[I") (.int (7 : Int32))) (.int (0 : Int32))) (by decide +kernel)) (hs (.exactly (.static "SaltIceCream" "LEAST" "[I") "[I") (by decide +kernel)) hA
  obtain ⟨t1, r1⟩ := sx_row (n := "MOST") (N := 8) (r := trow 1) (args := #[Value.ref b]) (by decide) (hts _ (mt2 (List.mem_of_getElem? (i := 13) rfl))) (wd_1_1 hT) (hs (.arrayOf (.static "SaltIceCream" "MOST" "[I") .int) (by decide +kernel)) (hs (.eq (.length (.static "SaltIceCream" "MOST" "[I")) (.int (8 : Int32))) (by decide +kernel)) (fun j hj => match j, hj with | 0, _ => hs (.eq (.elem (.static "SaltIceCream" "MOST" "[I") (.int (0 : Int32))) (.int (9000 : Int32))) (by decide +kernel) | 1, _ => hs (.eq (.elem (.static "SaltIceCream" "MOST" "[I") (.int (1 : Int32))) (.int (3000 : Int32))) (by decide +kernel) | 2, _ => hs (.eq (.elem (.static "SaltIceCream" "MOST" "[I") (.int (2 : Int32))) (.int (2000 : Int32))) (by decide +kernel) | 3, _ => hs (.eq (.elem (.static "SaltIceCream" "MOST" "[I") (.int (3 : Int32))) (.int (600 : Int32))) (by decide +kernel) | 4, _ => hs (.eq (.elem (.static "SaltIceCream" "MOST" "[I") (.int (4 : Int32))) (.int (400 : Int32))) (by decide +kernel) | 5, _ => hs (.eq (.elem (.static "SaltIceCream" "MOST" "[I") (.int (5 : Int32))) (.int (300 : Int32))) (by decide +kernel) | 6, _ => hs (.eq (.elem (.static "SaltIceCream" "MOST" "[I") (.int (6 : Int32))) (.int (900 : Int32))) (by decide +kernel) | 7, _ => hs (.eq (.elem (.static "SaltIceCream" "MOST" "[I") (.int (7 : Int32))) (.int (9 : Int32))) (by decide +kernel)) (hs (.exactly (.static "SaltIceCream" "MOST" "[I") "[I") (by decide +kernel)) hA
  obtain ⟨t2, r2⟩ := sx_row (n := "AT_FIRST") (N := 8) (r := trow 2) (args := #[Value.ref b]) (by decide) (hts _ (mt1 (List.mem_of_getElem? (i := 43) rfl))) (wd_1_1 hT) (hs (.arrayOf (.static "SaltIceCream" "AT_FIRST" "[I") .int) (by decide +kernel)) (hs (.eq (.length (.static "SaltIceCream" "AT_FIRST" "[I")) (.int (8 : Int32))) (by decide +kernel)) (fun j hj => match j, hj with | 0, _ => hs (.eq (.elem (.static "SaltIceCream" "AT_FIRST" "[I") (.int (0 : Int32))) (.int (3000 : Int32))) (by decide +kernel) | 1, _ => hs (.eq (.elem (.static "SaltIceCream" "AT_FIRST" "[I") (.int (1 : Int32))) (.int (1000 : Int32))) (by decide +kernel) | 2, _ => hs (.eq (.elem (.static "SaltIceCream" "AT_FIRST" "[I") (.int (2 : Int32))) (.int (600 : Int32))) (by decide +kernel) | 3, _ => hs (.eq (.elem (.static "SaltIceCream" "AT_FIRST" "[I") (.int (3 : Int32))) (.int (150 : Int32))) (by decide +kernel) | 4, _ => hs (.eq (.elem (.static "SaltIceCream" "AT_FIRST" "[I") (.int (4 : Int32))) (.int (120 : Int32))) (by decide +kernel) | 5, _ => hs (.eq (.elem (.static "SaltIceCream" "AT_FIRST" "[I") (.int (5 : Int32))) (.int (100 : Int32))) (by decide +kernel) | 6, _ => hs (.eq (.elem (.static "SaltIceCream" "AT_FIRST" "[I") (.int (6 : Int32))) (.int (300 : Int32))) (by decide +kernel) | 7, _ => hs (.eq (.elem (.static "SaltIceCream" "AT_FIRST" "[I") (.int (7 : Int32))) (.int (2 : Int32))) (by decide +kernel)) (hs (.exactly (.static "SaltIceCream" "AT_FIRST" "[I") "[I") (by decide +kernel)) hA
  obtain ⟨t3, r3⟩ := sx_row (n := "STRONG_AT_FIRST") (N := 4) (r := trow 3) (args := #[Value.ref b]) (by decide) (hts _ (mt1 (List.mem_of_getElem? (i := 52) rfl))) (wd_1_1 hT) (hs (.arrayOf (.static "SaltIceCream" "STRONG_AT_FIRST" "[I") .int) (by decide +kernel)) (hs (.eq (.length (.static "SaltIceCream" "STRONG_AT_FIRST" "[I")) (.int (4 : Int32))) (by decide +kernel)) (fun j hj => match j, hj with | 0, _ => hs (.eq (.elem (.static "SaltIceCream" "STRONG_AT_FIRST" "[I") (.int (0 : Int32))) (.int (90 : Int32))) (by decide +kernel) | 1, _ => hs (.eq (.elem (.static "SaltIceCream" "STRONG_AT_FIRST" "[I") (.int (1 : Int32))) (.int (80 : Int32))) (by decide +kernel) | 2, _ => hs (.eq (.elem (.static "SaltIceCream" "STRONG_AT_FIRST" "[I") (.int (2 : Int32))) (.int (70 : Int32))) (by decide +kernel) | 3, _ => hs (.eq (.elem (.static "SaltIceCream" "STRONG_AT_FIRST" "[I") (.int (3 : Int32))) (.int (60 : Int32))) (by decide +kernel)) (hs (.exactly (.static "SaltIceCream" "STRONG_AT_FIRST" "[I") "[I") (by decide +kernel)) hA
  obtain ⟨c0, d0, k0⟩ := u_known (ws := goodT) (args := #[Value.ref b]) (hT.hts _) igX0 (wd_1_137 hT)
  obtain ⟨c1, d1, k1⟩ := u_known (ws := goodT) (args := #[Value.ref b]) (hT.hts _) igX1 (wd_1_190 hT)
  obtain ⟨c2, d2, k2⟩ := u_known (ws := goodT) (args := #[Value.ref b]) (hT.hts _) igX2 (wd_1_143 hT)
  obtain ⟨c3, d3, k3⟩ := u_known (ws := goodT) (args := #[Value.ref b]) (hT.hts _) igX3 (wd_1_114 hT)
  obtain ⟨c4, d4, k4⟩ := u_known (ws := goodT) (args := #[Value.ref b]) (hT.hts _) igX4 (wd_1_37 hT)
  obtain ⟨c5, d5, k5⟩ := u_known (ws := goodT) (args := #[Value.ref b]) (hT.hts _) igX5 (wd_1_108 hT)
  obtain ⟨c6, d6, k6⟩ := u_known (ws := goodT) (args := #[Value.ref b]) (hT.hts _) igX6 (wd_1_21 hT)
  obtain ⟨c7, d7, k7⟩ := u_known (ws := goodT) (args := #[Value.ref b]) (hT.hts _) igX7 (wd_1_54 hT)
  obtain ⟨c8, d8, k8⟩ := u_known (ws := goodT) (args := #[Value.ref b]) (hT.hts _) igX8 (wd_1_13 hT)
  obtain ⟨c9, d9, k9⟩ := u_known (ws := goodT) (args := #[Value.ref b]) (hT.hts _) igX9 (wd_3_127 hT)
  obtain ⟨cI, kI, mI, f1, f2, f3⟩ := Cond.arrayClass_spec (args := #[Value.ref b]) (first := s) (o := none) (s := s) (idx := []) (wd_1_35 hT)
  obtain ⟨cZ, kZ, mZ, z1, z2, z3⟩ := Cond.arrayClass_spec (args := #[Value.ref b]) (first := s) (o := none) (s := s) (idx := []) (wd_3_217 hT)
  refine ⟨(fun c => match c with | 0 => c0 | 1 => c1 | 2 => c2 | 3 => c3 | 4 => c4 | 5 => c5 | 6 => c6 | 7 => c7 | 8 => c8 | _ => c9), (fun c => match c with | 0 => d0 | 1 => d1 | 2 => d2 | 3 => d3 | 4 => d4 | 5 => d5 | 6 => d6 | 7 => d7 | 8 => d8 | _ => d9), cI, cZ, (fun k => match k with | 0 => t0 | 1 => t1 | 2 => t2 | _ => t3), ⟨fun c q hq => ?_, fun k q hk => ?_⟩, hT, fun k hk => ?_, fun q h => h⟩
  · match c, hq with
    | 0, hq =>
      have e : q = (RX0, TX0, 8) := (Option.some.inj hq).symm
      subst e
      exact k0
    | 1, hq =>
      have e : q = (RX1, TX1, 1) := (Option.some.inj hq).symm
      subst e
      exact k1
    | 2, hq =>
      have e : q = (RX2, TX2, 2) := (Option.some.inj hq).symm
      subst e
      exact k2
    | 3, hq =>
      have e : q = (RX3, TX3, 4) := (Option.some.inj hq).symm
      subst e
      exact k3
    | 4, hq =>
      have e : q = (RX4, TX4, 5) := (Option.some.inj hq).symm
      subst e
      exact k4
    | 5, hq =>
      have e : q = (RX5, TX5, 7) := (Option.some.inj hq).symm
      subst e
      exact k5
    | 6, hq =>
      have e : q = (RX6, TX6, 2) := (Option.some.inj hq).symm
      subst e
      exact k6
    | 7, hq =>
      have e : q = (RX7, TX7, 5) := (Option.some.inj hq).symm
      subst e
      exact k7
    | 8, hq =>
      have e : q = (RX8, TX8, 5) := (Option.some.inj hq).symm
      subst e
      exact k8
    | 9, hq =>
      have e : q = (RX9, TX9, 28) := (Option.some.inj hq).symm
      subst e
      exact k9
    | n + 10, hq =>
      have e : vwCl[n + 10]? = none := rfl
      rw [e] at hq
      cases hq
  · match k, hk with
    | 0, hk =>
      have e : q = (cI, .int) := (Option.some.inj hk).symm
      subst e
      exact ⟨fun n z => ⟨(fun k h => by cases h), kI, f2, mI, f3⟩, f1⟩
    | 1, hk =>
      have e : q = (cZ, .boolean) := (Option.some.inj hk).symm
      subst e
      exact ⟨fun n z => ⟨(fun k h => by cases h), kZ, z2, mZ, z3⟩, z1⟩
    | n + 2, hk =>
      have e : (kT cI cZ)[n + 2]? = none := rfl
      rw [e] at hk
      cases hk
  · match k, hk with
    | 0, _ => exact r0
    | 1, _ => exact r1
    | 2, _ => exact r2
    | 3, _ => exact r3
