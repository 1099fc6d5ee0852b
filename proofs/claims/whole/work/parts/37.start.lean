section START
theorem tb_m {w : Cond} (i : Nat) (h : tables_1[i]? = some w) : w ∈ lw_tbl := List.mem_append.mpr (Or.inr (List.mem_of_getElem? h))
theorem zA_of {args : Array Value} {s : State} {tm : Term} {N : Nat} {f : Int → Int} {A : Nat → Prop} (hN : N < 2 ^ 31) (harr : (Cond.arrayOf tm .int).before args s = true) (hlen : (Cond.eq (.length tm) (.int (Int32.ofNat N))).before args s = true) (hel : ∀ j : Nat, j < N → (Cond.eq (.elem tm (.int (Int32.ofNat j))) (.int (iI (f (j : Int))))).before args s = true) (hex : (Cond.exactly tm "[I").before args s = true) (hA : ∀ a : Nat, a < s.heap.size → ¬ A a) :
    ∃ t : Nat, tm.eval args s none [] s = some (.ref t) ∧ zA t N f A s s.heap ∧ ∃ cell : Cell, s.heap[t]? = some cell ∧ s.vm.findClass "[I" = some cell.cls := by
  obtain ⟨t, ht, cell, h1, h2, h3, h4, h5, h6, h7⟩ := va_Tof (f := fun j => .int (iI (f (j : Int)))) (A := A) hN harr (va_eqt hlen) (fun j hj => va_eqt (hel j hj)) hA
  have hv := va_eqt hlen
  obtain ⟨b, c2, e1, e2, -⟩ := Term.length_spec hv
  obtain ⟨e3, -, -, -⟩ := State.arrayAt?_spec e2
  have eb : b = t := by
    have := e1.symm.trans ht
    injection this with this
    injection this
  subst eb
  have ec : c2 = cell := Option.some.inj (e3.symm.trans h1)
  subst ec
  have hsz : c2.slots.size < 2 ^ 31 := by
    simp only [Term.eval, e1, e2, Option.bind_eq_bind, Option.bind_some] at hv
    by_cases hlt : c2.slots.size < 2147483648
    · exact hlt
    · simp [hlt] at hv
  have hn : c2.slots.size = N := by
    have h := congrArg Int32.toInt h5
    rw [show c2.slots.size.toInt32 = Int32.ofNat c2.slots.size from rfl, Int32.toInt_ofNat_small hsz, Int32.toInt_ofNat_small hN] at h
    omega
  obtain ⟨a, c0, c3, k, q1, q2, q3, q4, q5, q6, -⟩ := Cond.exactly_spec (args := args) (first := s) (o := none) (s := s) (idx := []) (t := tm) (cls := "[I") hex
  have ea : a = b := by
    have := q1.symm.trans ht
    injection this with this
    injection this
  subst ea
  have ec : c3 = c2 := Option.some.inj (q3.symm.trans h1)
  subst ec
  exact ⟨a, ht, ⟨c3, h1, h2, h3, hn, h6, h7⟩, c3, h1, by rw [q6]; exact q2⟩
theorem zT_of {args : Array Value} {s : State} {C nm : String} {N : Nat} {f : Int → Int} {A : Nat → Prop} (hl : (Cond.laysStatic C nm "[I").before args s = true) (hini : (Cond.initialized C).before args s = true) (hN : N < 2 ^ 31) (harr : (Cond.arrayOf (.static C nm "[I") .int).before args s = true) (hlen : (Cond.eq (.length (.static C nm "[I")) (.int (Int32.ofNat N))).before args s = true) (hel : ∀ j : Nat, j < N → (Cond.eq (.elem (.static C nm "[I") (.int (Int32.ofNat j))) (.int (iI (f (j : Int))))).before args s = true) (hex : (Cond.exactly (.static C nm "[I") "[I").before args s = true) (hA : ∀ a : Nat, a < s.heap.size → ¬ A a) :
    ∃ t : Nat, zT (t, C, nm, N, f) A s s.heap ∧ ∃ cell : Cell, s.heap[t]? = some cell ∧ s.vm.findClass "[I" = some cell.cls := by
  obtain ⟨t, ht, hz, hc⟩ := zA_of hN harr hlen hel hex hA
  exact ⟨t, ⟨va_Zref hl hini ht hA, hz⟩, hc⟩
theorem z_t5 {args : Array Value} {s : State} {A : Nat → Prop} (hts : ∀ w ∈ lw_tbl, w.before args s = true) (hg : ∀ w ∈ flatC (Jvm.Cond.and given_1 narrow_1), w.before args s = true) (hA : ∀ a : Nat, a < s.heap.size → ¬ A a) : ∃ t : Nat, zT (t, "CaseLine$Machine", "AT_FIRST", 4, s0) A s s.heap ∧ ∃ cell : Cell, s.heap[t]? = some cell ∧ s.vm.findClass "[I" = some cell.cls :=
  zT_of (hts _ (tb_m 58 (by decide +kernel))) (hts _ (tb_m 4 (by decide +kernel))) (by omega) (hg _ (by decide +kernel)) (hg _ (by decide +kernel)) (fun j hj => match j, hj with | 0, _ => hg _ (by decide +kernel) | 1, _ => hg _ (by decide +kernel) | 2, _ => hg _ (by decide +kernel) | 3, _ => hg _ (by decide +kernel) | n + 4, h => absurd h (by omega)) (hg _ (by decide +kernel)) hA
theorem z_t6 {args : Array Value} {s : State} {A : Nat → Prop} (hts : ∀ w ∈ lw_tbl, w.before args s = true) (hg : ∀ w ∈ flatC (Jvm.Cond.and given_1 narrow_1), w.before args s = true) (hA : ∀ a : Nat, a < s.heap.size → ¬ A a) : ∃ t : Nat, zT (t, "CaseLine", "RULE_AT_FIRST", 6, ru0) A s s.heap ∧ ∃ cell : Cell, s.heap[t]? = some cell ∧ s.vm.findClass "[I" = some cell.cls :=
  zT_of (hts _ (tb_m 269 (by decide +kernel))) (hts _ (tb_m 1 (by decide +kernel))) (by omega) (hg _ (by decide +kernel)) (hg _ (by decide +kernel)) (fun j hj => match j, hj with | 0, _ => hg _ (by decide +kernel) | 1, _ => hg _ (by decide +kernel) | 2, _ => hg _ (by decide +kernel) | 3, _ => hg _ (by decide +kernel) | 4, _ => hg _ (by decide +kernel) | 5, _ => hg _ (by decide +kernel) | n + 6, h => absurd h (by omega)) (hg _ (by decide +kernel)) hA
theorem z_t3 {args : Array Value} {s : State} {A : Nat → Prop} (hts : ∀ w ∈ lw_tbl, w.before args s = true) (hg : ∀ w ∈ flatC (Jvm.Cond.and given_1 narrow_1), w.before args s = true) (hA : ∀ a : Nat, a < s.heap.size → ¬ A a) : ∃ t : Nat, zT (t, "CaseLine$Machine", "LEAST", 4, mLo) A s s.heap ∧ ∃ cell : Cell, s.heap[t]? = some cell ∧ s.vm.findClass "[I" = some cell.cls :=
  zT_of (hts _ (tb_m 327 (by decide +kernel))) (hts _ (tb_m 4 (by decide +kernel))) (by omega) (hg _ (by decide +kernel)) (hg _ (by decide +kernel)) (fun j hj => match j, hj with | 0, _ => hg _ (by decide +kernel) | 1, _ => hg _ (by decide +kernel) | 2, _ => hg _ (by decide +kernel) | 3, _ => hg _ (by decide +kernel) | n + 4, h => absurd h (by omega)) (hg _ (by decide +kernel)) hA
theorem z_t4 {args : Array Value} {s : State} {A : Nat → Prop} (hts : ∀ w ∈ lw_tbl, w.before args s = true) (hg : ∀ w ∈ flatC (Jvm.Cond.and given_1 narrow_1), w.before args s = true) (hA : ∀ a : Nat, a < s.heap.size → ¬ A a) : ∃ t : Nat, zT (t, "CaseLine$Machine", "MOST", 4, mHi) A s s.heap ∧ ∃ cell : Cell, s.heap[t]? = some cell ∧ s.vm.findClass "[I" = some cell.cls :=
  zT_of (hts _ (tb_m 329 (by decide +kernel))) (hts _ (tb_m 4 (by decide +kernel))) (by omega) (hg _ (by decide +kernel)) (hg _ (by decide +kernel)) (fun j hj => match j, hj with | 0, _ => hg _ (by decide +kernel) | 1, _ => hg _ (by decide +kernel) | 2, _ => hg _ (by decide +kernel) | 3, _ => hg _ (by decide +kernel) | n + 4, h => absurd h (by omega)) (hg _ (by decide +kernel)) hA
theorem z_t1 {args : Array Value} {s : State} {A : Nat → Prop} (hts : ∀ w ∈ lw_tbl, w.before args s = true) (hg : ∀ w ∈ flatC (Jvm.Cond.and given_1 narrow_1), w.before args s = true) (hA : ∀ a : Nat, a < s.heap.size → ¬ A a) : ∃ t : Nat, zT (t, "CaseLine", "RULE_LEAST", 6, ruLo) A s s.heap ∧ ∃ cell : Cell, s.heap[t]? = some cell ∧ s.vm.findClass "[I" = some cell.cls :=
  zT_of (hts _ (tb_m 458 (by decide +kernel))) (hts _ (tb_m 1 (by decide +kernel))) (by omega) (hg _ (by decide +kernel)) (hg _ (by decide +kernel)) (fun j hj => match j, hj with | 0, _ => hg _ (by decide +kernel) | 1, _ => hg _ (by decide +kernel) | 2, _ => hg _ (by decide +kernel) | 3, _ => hg _ (by decide +kernel) | 4, _ => hg _ (by decide +kernel) | 5, _ => hg _ (by decide +kernel) | n + 6, h => absurd h (by omega)) (hg _ (by decide +kernel)) hA
theorem z_t2 {args : Array Value} {s : State} {A : Nat → Prop} (hts : ∀ w ∈ lw_tbl, w.before args s = true) (hg : ∀ w ∈ flatC (Jvm.Cond.and given_1 narrow_1), w.before args s = true) (hA : ∀ a : Nat, a < s.heap.size → ¬ A a) : ∃ t : Nat, zT (t, "CaseLine", "RULE_MOST", 6, ruHi) A s s.heap ∧ ∃ cell : Cell, s.heap[t]? = some cell ∧ s.vm.findClass "[I" = some cell.cls :=
  zT_of (hts _ (tb_m 460 (by decide +kernel))) (hts _ (tb_m 1 (by decide +kernel))) (by omega) (hg _ (by decide +kernel)) (hg _ (by decide +kernel)) (fun j hj => match j, hj with | 0, _ => hg _ (by decide +kernel) | 1, _ => hg _ (by decide +kernel) | 2, _ => hg _ (by decide +kernel) | 3, _ => hg _ (by decide +kernel) | 4, _ => hg _ (by decide +kernel) | 5, _ => hg _ (by decide +kernel) | n + 6, h => absurd h (by omega)) (hg _ (by decide +kernel)) hA
theorem nw_of {args : Array Value} {s : State} (hts : ∀ w ∈ lw_tbl, w.before args s = true) : NWs s := ⟨va_Nw.of rfl (hts _ (tb_m 30 (by decide +kernel))), va_Nw.of rfl (hts _ (tb_m 203 (by decide +kernel))), va_Nw.of rfl (hts _ (tb_m 325 (by decide +kernel))), va_Nw.of rfl (hts _ (tb_m 377 (by decide +kernel))), va_Nw.of rfl (hts _ (tb_m 415 (by decide +kernel))), va_Nw.of rfl (hts _ (tb_m 487 (by decide +kernel))), va_Nw.of rfl (hts _ (tb_m 560 (by decide +kernel))), va_Nw.of rfl (hts _ (tb_m 580 (by decide +kernel))), va_Nw.of rfl (hts _ (tb_m 684 (by decide +kernel))), va_Nw.of rfl (hts _ (tb_m 740 (by decide +kernel))), va_Nw.of rfl (hts _ (tb_m 745 (by decide +kernel))), va_Nw.of rfl (hts _ (tb_m 275 (by decide +kernel))), va_AO.of (hts _ (tb_m 27 (by decide +kernel)))⟩
theorem k_of {args : Array Value} {s : State} (hts : ∀ w ∈ lw_tbl, w.before args s = true) : ∃ E : Ev, va_K E.1 vwCl (tysE E) s := by
  obtain ⟨c0, i0, k0⟩ := u_known (C := RX0) (T := TX0) (N := 9) (n := 9) hts (fun w h => (wl_X00 w h).1) (hts _ (tb_m 158 (by decide +kernel)))
  obtain ⟨c1, i1, k1⟩ := u_known (C := RX1) (T := TX1) (N := 9) (n := 9) hts (fun w h => (wl_X10 w h).1) (hts _ (tb_m 21 (by decide +kernel)))
  obtain ⟨c2, i2, k2⟩ := u_known (C := RX2) (T := TX2) (N := 4) (n := 4) hts (fun w h => (wl_X20 w h).1) (hts _ (tb_m 29 (by decide +kernel)))
  obtain ⟨c3, i3, k3⟩ := u_known (C := RX3) (T := TX3) (N := 14) (n := 14) hts (fun w h => (wl_X30 w h).1) (hts _ (tb_m 48 (by decide +kernel)))
  obtain ⟨c4, i4, k4⟩ := u_known (C := RX4) (T := TX4) (N := 12) (n := 12) hts (fun w h => (wl_X40 w h).1) (hts _ (tb_m 202 (by decide +kernel)))
  obtain ⟨c5, i5, k5⟩ := u_known (C := RX5) (T := TX5) (N := 5) (n := 5) hts (fun w h => (wl_X50 w h).1) (hts _ (tb_m 246 (by decide +kernel)))
  obtain ⟨c6, i6, k6⟩ := u_known (C := RX6) (T := TX6) (N := 6) (n := 6) hts (fun w h => (wl_X60 w h).1) (hts _ (tb_m 13 (by decide +kernel)))
  obtain ⟨c7, i7, k7⟩ := u_known (C := RX7) (T := TX7) (N := 43) (n := 43) hts (fun w h => (wl_X70 w h).1) (hts _ (tb_m 779 (by decide +kernel)))
  obtain ⟨dC, dI, hKc⟩ : ∃ (dC : Nat → ClassId) (dI : Nat → Nat → Nat), ∀ (k : Nat) (q : vw_C), vwCl[k]? = some q → u_Kn s q.1 q.2.1 q.2.2 (dC k) (dI k) := by
    refine ⟨fun k => if k = 0 then c0 else if k = 1 then c1 else if k = 2 then c2 else if k = 3 then c3 else if k = 4 then c4 else if k = 5 then c5 else if k = 6 then c6 else c7, fun k => if k = 0 then i0 else if k = 1 then i1 else if k = 2 then i2 else if k = 3 then i3 else if k = 4 then i4 else if k = 5 then i5 else if k = 6 then i6 else i7, ?_⟩
    intro k q hq
    match k, hq with
    | 0, hq => cases hq; exact k0
    | 1, hq => cases hq; exact k1
    | 2, hq => cases hq; exact k2
    | 3, hq => cases hq; exact k3
    | 4, hq => cases hq; exact k4
    | 5, hq => cases hq; exact k5
    | 6, hq => cases hq; exact k6
    | 7, hq => cases hq; exact k7
    | k + 8, hq => simp [vwCl] at hq
  obtain ⟨cI, kI, mI, aI1, aI2, aI3⟩ := Cond.arrayClass_spec (args := args) (first := s) (o := none) (s := s) (idx := []) (hts (.arrayClass .int) (tb_m 47 (by decide +kernel)))
  obtain ⟨cZ, kZ, mZ, aZ1, aZ2, aZ3⟩ := Cond.arrayClass_spec (args := args) (first := s) (o := none) (s := s) (idx := []) (hts (.arrayClass .boolean) (tb_m 200 (by decide +kernel)))
  obtain ⟨mM, cM, kM, b1, b2, b3, b4, b5⟩ := Cond.arrayOver_spec (args := args) (first := s) (o := none) (s := s) (idx := []) (n := RX3) (hts (.arrayOver (.object RX3)) (tb_m 27 (by decide +kernel)))
  refine ⟨((dC, dI), cI, cZ, cM), hKc, ?_⟩
  intro k q hq
  match k, hq with
  | 0, hq => cases hq; exact ⟨fun n z => ⟨(fun k h => by cases h), kI, aI2, mI, aI3⟩, aI1⟩
  | 1, hq => cases hq; exact ⟨fun n z => ⟨(fun k h => by cases h), kZ, aZ2, mZ, aZ3⟩, aZ1⟩
  | 2, hq => cases hq; exact ⟨fun n z => ⟨(fun k h => by cases h), kM, b3, mM, b4⟩, kM, mM, b3, b4, b1, b5⟩
  | k + 3, hq => simp at hq
end START
