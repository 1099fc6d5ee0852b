section FACE2
theorem sI_6 (f : Int → Int) (k : Nat) : sI f ((k : Int) + 1) = sI f (k : Int) + f (k : Int) := sI_s f (by omega)
def oF (g : Int → Int → Int) (j : Int) : Int := bI (g j 1 ≠ 0 ∨ g j 2 ≠ 0) + g j 0

def sp_supply (so n x so' : Int) : Prop := if ¬ (1 ≤ n ∧ n ≤ 1000) then x = -1 ∧ so' = so else if 100000 < so + n then x = -3 ∧ so' = so else x = so + n ∧ so' = so + n
def f_cause (ld : Int → Int) (what : Int) : Int := if 0 ≤ what ∧ what ≤ 7 then ld what else -1
def sp_confirm (M : Int) (g : Int → Int → Int) (i x : Int) (g' : Int → Int → Int) : Prop := if 0 ≤ i ∧ i < M then x = g i 7 ∧ g' = ug g i (up (g i) 7 0) else x = -1 ∧ g' = g
def f_about (M : Int) (g : Int → Int → Int) (i what : Int) : Int :=
  if ¬ ((0 ≤ i ∧ i < M) ∧ 0 ≤ what ∧ what ≤ 7) then -1 else if what = 0 then g i 9 else if what = 1 then g i 4 else if what = 2 then g i 5 else if what = 3 then g i 6 else if what = 4 then bI (g i 1 ≠ 0 ∨ g i 2 ≠ 0) else if what = 5 then g i 0 else if what = 6 then g i 7 else g i 10
def sp_fault (M ti nf : Int) (fm fa fb : Int → Int) (i a b x nf' : Int) (fm' fa' fb' : Int → Int) : Prop :=
  if ¬ ((0 ≤ i ∧ i < M) ∧ 0 ≤ a ∧ a ≤ b ∧ b ≤ 9999) then x = -1 ∧ nf' = nf ∧ fm' = fm ∧ fa' = fa ∧ fb' = fb else if a < ti then x = -2 ∧ nf' = nf ∧ fm' = fm ∧ fa' = fa ∧ fb' = fb else sFault nf fm fa fb i a b x nf' fm' fa' fb'
def mLo (k : Int) : Int := if k = 0 ∨ k = 3 then 1 else 0
def mHi (k : Int) : Int := if k = 0 then 5 else if k = 3 then 20 else 99
theorem mLo_b (k : Int) : 0 ≤ mLo k ∧ mLo k ≤ 1 := by unfold mLo; split <;> omega
theorem mHi_b (k : Int) : 5 ≤ mHi k ∧ mHi k ≤ 99 := by unfold mHi; (repeat' split) <;> omega
theorem mHi_3 (k : Int) : (k = 3 → mHi k = 20) ∧ (k = 0 → mHi k = 5) := by unfold mHi; (repeat' split) <;> omega
def sp_set (M : Int) (g S : Int → Int → Int) (i what v x : Int) (S' : Int → Int → Int) : Prop :=
  if ¬ ((0 ≤ i ∧ i < M) ∧ ((0 ≤ what ∧ what ≤ 3) ∧ mLo what ≤ v ∧ v ≤ mHi what) ∧ ¬ (what = 3 ∧ i = M - 1)) then x = -1 ∧ S' = S else if what = 3 ∧ v < g i 0 then x = -2 ∧ S' = S else x = S i what ∧ S' = ug S i (up (S i) what v)
def f_book (M ti so ta go sl : Int) (g : Int → Int → Int) (what : Int) : Int :=
  if what = 0 then ti else if what = 1 then so else if what = 2 then ta else if what = 3 then go else if what = 4 then sI (fun j => g j 5) M else if what = 5 then sI (fun j => g j 6) M else if what = 6 then sI (oF g) M else if what = 7 then sl else -1

set_option maxHeartbeats 4000000 in
set_option maxRecDepth 100000 in
theorem c_X6_supply (E : Ev) (x0 : Nat) (h0 : Nat) (a3 : Nat) (a4 : Nat) (a5 : Nat) (lo : Int) (v : Nat) (ma : Nat) (fo : Nat) (la : Nat) (M : Int) (ti : Int) (so : Int) (ta : Int) (go : Int) (sl : Int) (n : Int) (hM : 2 ≤ M ∧ M ≤ 6) (hti : 0 ≤ ti ∧ ti ≤ 10000) (hso : 0 ≤ so ∧ so ≤ 100000) (hgo : 0 ≤ go ∧ go ≤ 20000) (h_n : -2147483648 ≤ n ∧ n ≤ 2147483647) : MI yX6_supply wsX6_supply ({ frames := 1, cells := 0, slots := 0, locals := 22 } : Room) E [] 0 0 [.ref x0, .int (iI n)] [(x0, oo 6 [.ref v, .ref h0, .ref a3, .ref a4, .ref a5, .int (iI lo)]), (v, oo 1 [.ref ma, .int (iI M), .ref fo, .ref la, .int (iI ti), .int (iI so), .int (iI ta), .int (iI go), .int (iI sl)])] (fun r u => ∃ (x : Int), ∃ (so' : Int), sp_supply so n x so' ∧ r = iI x ∧ u = [(x0, oo 6 [.ref v, .ref h0, .ref a3, .ref a4, .ref a5, .int (iI lo)]), (v, oo 1 [.ref ma, .int (iI M), .ref fo, .ref la, .int (iI ti), .int (iI so'), .int (iI ta), .int (iI go), .int (iI sl)])]) := by
  refine MI.of (cc := cX6_supply) (maxL := 2) (own := RX6) (by decide) rfl rfl rfl (Nat.le_of_ble_eq_true rfl) [(0, .ref x0), (1, .int (iI n))] rfl ?_
  intro X hin2 hRet
  refine g_iload_n 1 dX6_supply_0 rfl rfl ?_
  refine g_iconst dX6_supply_1 ?_
  refine g_sipush dX6_supply_2 rfl ?_
  refine g_callS_i (n := 3) (As := [.int (iI n), .int (iI 1), .int (iI 1000)]) (wr := [(x0, oo 6 [.ref v, .ref h0, .ref a3, .ref a4, .ref a5, .int (iI lo)]), (v, oo 1 [.ref ma, .int (iI M), .ref fo, .ref la, .int (iI ti), .int (iI so), .int (iI ta), .int (iI go), .int (iI sl)])]) [] (c_X6_within E n 1 1000 (by omega) (by omega) (by omega)) [] [0, 1] gX6_supply_X6_within rfl ⟨rfl, by decide +kernel⟩ ⟨by decide, by decide⟩ rfl rfl rfl rfl rfl (by decide) rfl (by decide) (by decide) (fun _ h => absurd h List.not_mem_nil) dX6_supply_5 rfl (Nat.le_of_ble_eq_true rfl) ⟨by decide, by decide⟩ (fun r u p_1 => ?_)
  obtain ⟨rfl, rfl⟩ := p_1
  refine g_perm (ws1 := [(x0, oo 6 [.ref v, .ref h0, .ref a3, .ref a4, .ref a5, .int (iI lo)]), (v, oo 1 [.ref ma, .int (iI M), .ref fo, .ref la, .int (iI ti), .int (iI so), .int (iI ta), .int (iI go), .int (iI sl)])]) [0, 1] rfl (by decide) rfl ?_
  refine g_if_ne_b (tgt := 13) dX6_supply_8 rfl (fun c_2 => ?_) (fun c_2 => ?_)
  · refine g_aload_n 0 dX6_supply_13 rfl rfl ?_
    refine g_get (C := RX6) (T := TX6) (N := 6) 0 0 (fun _ h => List.mem_cons_of_mem _ (List.mem_append_left _ (List.mem_append_right _ h))) (List.mem_of_getElem? (i := 1) rfl) rfl rfl (by decide) rfl rfl dX6_supply_14 ?_
    refine g_get (C := RX1) (T := TX1) (N := 9) 1 5 (fun _ h => List.mem_cons_of_mem _ (List.mem_append_right _ h)) (List.mem_of_getElem? (i := 2) rfl) rfl rfl (by decide) rfl rfl dX6_supply_17 ?_
    refine g_iload_n 1 dX6_supply_20 rfl rfl ?_
    refine g_iadd dX6_supply_21 ?_
    refine g_ldc (index := 95) 100000 (List.mem_of_getElem? (i := 3) rfl) dX6_supply_22 rfl ?_
    refine g_icmp_le (tgt := 30) (by unfold R32; omega) (by unfold R32; omega) dX6_supply_24 rfl (fun c_3 => ?_) (fun c_3 => ?_)
    · refine g_aload_n 0 dX6_supply_30 rfl rfl ?_
      refine g_get (C := RX6) (T := TX6) (N := 6) 0 0 (fun _ h => List.mem_cons_of_mem _ (List.mem_append_left _ (List.mem_append_right _ h))) (List.mem_of_getElem? (i := 1) rfl) rfl rfl (by decide) rfl rfl dX6_supply_31 ?_
      refine g_dup dX6_supply_34 rfl ?_
      refine g_get (C := RX1) (T := TX1) (N := 9) 1 5 (fun _ h => List.mem_cons_of_mem _ (List.mem_append_right _ h)) (List.mem_of_getElem? (i := 2) rfl) rfl rfl (by decide) rfl rfl dX6_supply_35 ?_
      refine g_iload_n 1 dX6_supply_38 rfl rfl ?_
      refine g_iadd dX6_supply_39 ?_
      refine g_put (C := RX1) (T := TX1) (N := 9) (ws1 := [(x0, oo 6 [.ref v, .ref h0, .ref a3, .ref a4, .ref a5, .int (iI lo)]), (v, oo 1 [.ref ma, .int (iI M), .ref fo, .ref la, .int (iI ti), .int (iI (so + n)), .int (iI ta), .int (iI go), .int (iI sl)])]) 1 5 (fun _ h => List.mem_cons_of_mem _ (List.mem_append_right _ h)) tyX1 tyX1_ok nmX1 (List.mem_of_getElem? (i := 2) rfl) rfl rfl (by decide) rfl (tyX1_ok 5 (by decide)) rfl rfl (by first | decide | exact Nat.le_of_ble_eq_true rfl) dX6_supply_40 rfl rfl ?_
      refine g_aload_n 0 dX6_supply_43 rfl rfl ?_
      refine g_get (C := RX6) (T := TX6) (N := 6) 0 0 (fun _ h => List.mem_cons_of_mem _ (List.mem_append_left _ (List.mem_append_right _ h))) (List.mem_of_getElem? (i := 1) rfl) rfl rfl (by decide) rfl rfl dX6_supply_44 ?_
      refine g_get (C := RX1) (T := TX1) (N := 9) 1 5 (fun _ h => List.mem_cons_of_mem _ (List.mem_append_right _ h)) (List.mem_of_getElem? (i := 2) rfl) rfl rfl (by decide) rfl rfl dX6_supply_47 ?_
      exact g_iret hRet dX6_supply_50 rfl ⟨(so + n), (so + n), (by unfold sp_supply; rw [if_neg (by omega), if_neg (by omega)]; exact ⟨rfl, rfl⟩), rfl, rfl⟩
    · refine g_bipush dX6_supply_27 rfl ?_
      exact g_iret hRet dX6_supply_29 rfl ⟨(-3), so, (by unfold sp_supply; rw [if_neg (by omega), if_pos (by omega)]; exact ⟨rfl, rfl⟩), rfl, rfl⟩
  · refine g_iconst dX6_supply_11 ?_
    exact g_iret hRet dX6_supply_12 rfl ⟨(-1), so, (by unfold sp_supply; rw [if_pos (by omega)]; exact ⟨rfl, rfl⟩), rfl, rfl⟩

set_option maxHeartbeats 4000000 in
set_option maxRecDepth 100000 in
theorem c_X6_cause (E : Ev) (x0 : Nat) (h0 : Nat) (a3 : Nat) (a4 : Nat) (a5 : Nat) (lo : Int) (v : Nat) (ma : Nat) (fo : Nat) (la : Nat) (M : Int) (ti : Int) (so : Int) (ta : Int) (go : Int) (sl : Int) (ld : Int → Int) (what : Int) (hM : 2 ≤ M ∧ M ≤ 6) (hti : 0 ≤ ti ∧ ti ≤ 10000) (hso : 0 ≤ so ∧ so ≤ 100000) (hgo : 0 ≤ go ∧ go ≤ 20000) (h_what : -2147483648 ≤ what ∧ what ≤ 2147483647) : MI yX6_cause wsX6_cause ({ frames := 1, cells := 0, slots := 0, locals := 22 } : Room) E [] 0 0 [.ref x0, .int (iI what)] [(x0, oo 6 [.ref v, .ref h0, .ref a3, .ref a4, .ref a5, .int (iI lo)]), (v, oo 1 [.ref ma, .int (iI M), .ref fo, .ref la, .int (iI ti), .int (iI so), .int (iI ta), .int (iI go), .int (iI sl)]), (la, aI E 8 ld)] (fun r u => r = iI (f_cause ld what) ∧ u = [(x0, oo 6 [.ref v, .ref h0, .ref a3, .ref a4, .ref a5, .int (iI lo)]), (v, oo 1 [.ref ma, .int (iI M), .ref fo, .ref la, .int (iI ti), .int (iI so), .int (iI ta), .int (iI go), .int (iI sl)]), (la, aI E 8 ld)]) := by
  refine MI.of (cc := cX6_cause) (maxL := 2) (own := RX6) (by decide) rfl rfl rfl (Nat.le_of_ble_eq_true rfl) [(0, .ref x0), (1, .int (iI what))] rfl ?_
  intro X hin2 hRet
  refine g_iload_n 1 dX6_cause_0 rfl rfl ?_
  refine g_iconst dX6_cause_1 ?_
  refine g_bipush dX6_cause_2 rfl ?_
  refine g_callS_i (n := 3) (As := [.int (iI what), .int (iI 0), .int (iI 7)]) (wr := [(x0, oo 6 [.ref v, .ref h0, .ref a3, .ref a4, .ref a5, .int (iI lo)]), (v, oo 1 [.ref ma, .int (iI M), .ref fo, .ref la, .int (iI ti), .int (iI so), .int (iI ta), .int (iI go), .int (iI sl)]), (la, aI E 8 ld)]) [] (c_X6_within E what 0 7 (by omega) (by omega) (by omega)) [] [0, 1, 2] gX6_cause_X6_within rfl ⟨rfl, by decide +kernel⟩ ⟨by decide, by decide⟩ rfl rfl rfl rfl rfl (by decide) rfl (by decide) (by decide) (fun _ h => absurd h List.not_mem_nil) dX6_cause_4 rfl (Nat.le_of_ble_eq_true rfl) ⟨by decide, by decide⟩ (fun r u p_1 => ?_)
  obtain ⟨rfl, rfl⟩ := p_1
  refine g_perm (ws1 := [(x0, oo 6 [.ref v, .ref h0, .ref a3, .ref a4, .ref a5, .int (iI lo)]), (v, oo 1 [.ref ma, .int (iI M), .ref fo, .ref la, .int (iI ti), .int (iI so), .int (iI ta), .int (iI go), .int (iI sl)]), (la, aI E 8 ld)]) [0, 1, 2] rfl (by decide) rfl ?_
  refine g_if_ne_b (tgt := 12) dX6_cause_7 rfl (fun c_2 => ?_) (fun c_2 => ?_)
  · refine g_aload_n 0 dX6_cause_12 rfl rfl ?_
    refine g_get (C := RX6) (T := TX6) (N := 6) 0 0 (fun _ h => List.mem_cons_of_mem _ (List.mem_append_left _ (List.mem_append_right _ h))) (List.mem_of_getElem? (i := 1) rfl) rfl rfl (by decide) rfl rfl dX6_cause_13 ?_
    refine g_get (C := RX1) (T := TX1) (N := 9) 1 3 (fun _ h => List.mem_cons_of_mem _ (List.mem_append_right _ h)) (List.mem_of_getElem? (i := 2) rfl) rfl rfl (by decide) rfl rfl dX6_cause_16 ?_
    refine g_iload_n 1 dX6_cause_19 rfl rfl ?_
    refine g_iald 2 dX6_cause_20 rfl (by decide) (by omega) (by omega) ?_
    exact g_iret hRet dX6_cause_21 rfl ⟨(congrArg iI (by unfold f_cause; first | (rw [if_pos (by omega)]; done) | (rw [if_neg (by omega)]; done))), rfl⟩
  · refine g_iconst dX6_cause_10 ?_
    exact g_iret hRet dX6_cause_11 rfl ⟨(congrArg iI (by unfold f_cause; first | (rw [if_pos (by omega)]; done) | (rw [if_neg (by omega)]; done))), rfl⟩

set_option maxHeartbeats 4000000 in
set_option maxRecDepth 100000 in
theorem c_X1_allRejected (E : Ev) (v : Nat) (ma : Nat) (fo : Nat) (la : Nat) (M : Int) (ti : Int) (so : Int) (ta : Int) (go : Int) (sl : Int) (mq : Int → Option Nat) (ad : Int → Nat) (sd : Int → Nat) (g : Int → Int → Int) (hM : 2 ≤ M ∧ M ≤ 6) (hti : 0 ≤ ti ∧ ti ≤ 10000) (hso : 0 ≤ so ∧ so ≤ 100000) (hgo : 0 ≤ go ∧ go ≤ 20000) (hmq : ∀ k, 0 ≤ k → k < 6 → mq k = some (ad k)) (hgk : ∀ j, 0 ≤ j → j < 6 → mOk (g j)) : MI yX1_allRejected wsX1_allRejected ({ frames := 2, cells := 0, slots := 0, locals := 41 } : Room) E [] 0 0 [.ref v] [(v, oo 1 [.ref ma, .int (iI M), .ref fo, .ref la, .int (iI ti), .int (iI so), .int (iI ta), .int (iI go), .int (iI sl)]), (ma, aM E 6 mq), (ad 0, oo 3 (fMa 0 .null (sd 0) (g 0))), (ad 1, oo 3 (fMa 1 (.ref (ad 0)) (sd 1) (g 1))), (ad 2, oo 3 (fMa 2 (.ref (ad 1)) (sd 2) (g 2))), (ad 3, oo 3 (fMa 3 (.ref (ad 2)) (sd 3) (g 3))), (ad 4, oo 3 (fMa 4 (.ref (ad 3)) (sd 4) (g 4))), (ad 5, oo 3 (fMa 5 (.ref (ad 4)) (sd 5) (g 5)))] (fun r u => r = iI (sI (fun j => g j 5) M) ∧ u = [(v, oo 1 [.ref ma, .int (iI M), .ref fo, .ref la, .int (iI ti), .int (iI so), .int (iI ta), .int (iI go), .int (iI sl)]), (ma, aM E 6 mq), (ad 0, oo 3 (fMa 0 .null (sd 0) (g 0))), (ad 1, oo 3 (fMa 1 (.ref (ad 0)) (sd 1) (g 1))), (ad 2, oo 3 (fMa 2 (.ref (ad 1)) (sd 2) (g 2))), (ad 3, oo 3 (fMa 3 (.ref (ad 2)) (sd 3) (g 3))), (ad 4, oo 3 (fMa 4 (.ref (ad 3)) (sd 4) (g 4))), (ad 5, oo 3 (fMa 5 (.ref (ad 4)) (sd 5) (g 5)))]) := by
  refine MI.of (cc := cX1_allRejected) (maxL := 3) (own := RX1) (by decide) rfl rfl rfl (Nat.le_of_ble_eq_true rfl) [(0, .ref v)] rfl ?_
  intro X hin2 hRet
  have K7_N : ∀ (w : Int) (hw : w + sI (fun j => g j 5) 0 = sI (fun j => g j 5) M), G X ({ frames := 2, cells := 0, slots := 0, locals := 41 } : Room) cX1_allRejected 3 RX1 wsX1_allRejected E [] 0 0 [(v, oo 1 [.ref ma, .int (iI M), .ref fo, .ref la, .int (iI ti), .int (iI so), .int (iI ta), .int (iI go), .int (iI sl)]), (ma, aM E 6 mq), (ad 0, oo 3 (fMa 0 .null (sd 0) (g 0))), (ad 1, oo 3 (fMa 1 (.ref (ad 0)) (sd 1) (g 1))), (ad 2, oo 3 (fMa 2 (.ref (ad 1)) (sd 2) (g 2))), (ad 3, oo 3 (fMa 3 (.ref (ad 2)) (sd 3) (g 3))), (ad 4, oo 3 (fMa 4 (.ref (ad 3)) (sd 4) (g 4))), (ad 5, oo 3 (fMa 5 (.ref (ad 4)) (sd 5) (g 5)))] [(0, .ref v), (1, .int (iI w)), (2, .null)] 7 [] := by
    intro w hw
    refine g_aload_nN 2 dX1_allRejected_7 rfl rfl ?_
    refine g_ifnullN (tgt := 26) dX1_allRejected_8 rfl ?_
    refine g_iload_n 1 dX1_allRejected_26 rfl rfl ?_
    exact g_iret hRet dX1_allRejected_27 rfl ⟨(congrArg iI (by have e9 := sI_0 (fun j => g j 5); omega)), rfl⟩
  have K7_0 : ∀ (w : Int) (hw : w + sI (fun j => g j 5) 1 = sI (fun j => g j 5) M), G X ({ frames := 2, cells := 0, slots := 0, locals := 41 } : Room) cX1_allRejected 3 RX1 wsX1_allRejected E [] 0 0 [(v, oo 1 [.ref ma, .int (iI M), .ref fo, .ref la, .int (iI ti), .int (iI so), .int (iI ta), .int (iI go), .int (iI sl)]), (ma, aM E 6 mq), (ad 0, oo 3 (fMa 0 .null (sd 0) (g 0))), (ad 1, oo 3 (fMa 1 (.ref (ad 0)) (sd 1) (g 1))), (ad 2, oo 3 (fMa 2 (.ref (ad 1)) (sd 2) (g 2))), (ad 3, oo 3 (fMa 3 (.ref (ad 2)) (sd 3) (g 3))), (ad 4, oo 3 (fMa 4 (.ref (ad 3)) (sd 4) (g 4))), (ad 5, oo 3 (fMa 5 (.ref (ad 4)) (sd 5) (g 5)))] [(0, .ref v), (1, .int (iI w)), (2, .ref (ad 0))] 7 [] := by
    intro w hw
    refine g_aload_n 2 dX1_allRejected_7 rfl rfl ?_
    refine g_ifnull dX1_allRejected_8 ?_
    refine g_iload_n 1 dX1_allRejected_11 rfl rfl ?_
    refine g_aload_n 2 dX1_allRejected_12 rfl rfl ?_
    refine g_get (v := .int (iI ((g 0) 5))) (C := RX3) (T := TX3) (N := 14) 2 8 (fun _ h => List.mem_cons_of_mem _ (List.mem_append_left _ (List.mem_append_right _ h))) (List.mem_of_getElem? (i := 1) rfl) rfl rfl (by decide) rfl rfl dX1_allRejected_13 ?_
    refine g_iadd dX1_allRejected_16 ?_
    refine g_istore_n (lv1 := [(1, .int (iI (w + ((g 0) 5)))), (0, .ref v), (2, .ref (ad 0))]) dX1_allRejected_17 rfl (by decide) rfl ?_
    refine g_aload_n 2 dX1_allRejected_18 rfl rfl ?_
    refine g_get (v := .null) (C := RX3) (T := TX3) (N := 14) 2 1 (fun _ h => List.mem_cons_of_mem _ (List.mem_append_left _ (List.mem_append_right _ h))) (List.mem_of_getElem? (i := 2) rfl) rfl rfl (by decide) rfl rfl dX1_allRejected_19 ?_
    refine g_astore_nN (lv1 := [(2, .null), (1, .int (iI (w + ((g 0) 5)))), (0, .ref v)]) dX1_allRejected_22 rfl (by decide) rfl ?_
    refine g_goto (tgt := 7) dX1_allRejected_23 rfl ?_
    refine g_lv (lv1 := [(0, .ref v), (1, .int (iI (w + ((g 0) 5)))), (2, .null)]) [2, 1, 0] rfl ?_
    exact K7_N (w + ((g 0) 5)) (by have e9 : sI (fun j => g j 5) 1 = sI (fun j => g j 5) 0 + g 0 5 := sI_s (fun j => g j 5) (i := 0) (by omega); omega)
  have K7_1 : ∀ (w : Int) (hw : w + sI (fun j => g j 5) 2 = sI (fun j => g j 5) M), G X ({ frames := 2, cells := 0, slots := 0, locals := 41 } : Room) cX1_allRejected 3 RX1 wsX1_allRejected E [] 0 0 [(v, oo 1 [.ref ma, .int (iI M), .ref fo, .ref la, .int (iI ti), .int (iI so), .int (iI ta), .int (iI go), .int (iI sl)]), (ma, aM E 6 mq), (ad 0, oo 3 (fMa 0 .null (sd 0) (g 0))), (ad 1, oo 3 (fMa 1 (.ref (ad 0)) (sd 1) (g 1))), (ad 2, oo 3 (fMa 2 (.ref (ad 1)) (sd 2) (g 2))), (ad 3, oo 3 (fMa 3 (.ref (ad 2)) (sd 3) (g 3))), (ad 4, oo 3 (fMa 4 (.ref (ad 3)) (sd 4) (g 4))), (ad 5, oo 3 (fMa 5 (.ref (ad 4)) (sd 5) (g 5)))] [(0, .ref v), (1, .int (iI w)), (2, .ref (ad 1))] 7 [] := by
    intro w hw
    refine g_aload_n 2 dX1_allRejected_7 rfl rfl ?_
    refine g_ifnull dX1_allRejected_8 ?_
    refine g_iload_n 1 dX1_allRejected_11 rfl rfl ?_
    refine g_aload_n 2 dX1_allRejected_12 rfl rfl ?_
    refine g_get (v := .int (iI ((g 1) 5))) (C := RX3) (T := TX3) (N := 14) 3 8 (fun _ h => List.mem_cons_of_mem _ (List.mem_append_left _ (List.mem_append_right _ h))) (List.mem_of_getElem? (i := 1) rfl) rfl rfl (by decide) rfl rfl dX1_allRejected_13 ?_
    refine g_iadd dX1_allRejected_16 ?_
    refine g_istore_n (lv1 := [(1, .int (iI (w + ((g 1) 5)))), (0, .ref v), (2, .ref (ad 1))]) dX1_allRejected_17 rfl (by decide) rfl ?_
    refine g_aload_n 2 dX1_allRejected_18 rfl rfl ?_
    refine g_get (v := .ref (ad 0)) (C := RX3) (T := TX3) (N := 14) 3 1 (fun _ h => List.mem_cons_of_mem _ (List.mem_append_left _ (List.mem_append_right _ h))) (List.mem_of_getElem? (i := 2) rfl) rfl rfl (by decide) rfl rfl dX1_allRejected_19 ?_
    refine g_astore_n (lv1 := [(2, .ref (ad 0)), (1, .int (iI (w + ((g 1) 5)))), (0, .ref v)]) dX1_allRejected_22 rfl (by decide) rfl ?_
    refine g_goto (tgt := 7) dX1_allRejected_23 rfl ?_
    refine g_lv (lv1 := [(0, .ref v), (1, .int (iI (w + ((g 1) 5)))), (2, .ref (ad 0))]) [2, 1, 0] rfl ?_
    exact K7_0 (w + ((g 1) 5)) (by have e9 : sI (fun j => g j 5) 2 = sI (fun j => g j 5) 1 + g 1 5 := sI_s (fun j => g j 5) (i := 1) (by omega); omega)
  have K7_2 : ∀ (w : Int) (hw : w + sI (fun j => g j 5) 3 = sI (fun j => g j 5) M), G X ({ frames := 2, cells := 0, slots := 0, locals := 41 } : Room) cX1_allRejected 3 RX1 wsX1_allRejected E [] 0 0 [(v, oo 1 [.ref ma, .int (iI M), .ref fo, .ref la, .int (iI ti), .int (iI so), .int (iI ta), .int (iI go), .int (iI sl)]), (ma, aM E 6 mq), (ad 0, oo 3 (fMa 0 .null (sd 0) (g 0))), (ad 1, oo 3 (fMa 1 (.ref (ad 0)) (sd 1) (g 1))), (ad 2, oo 3 (fMa 2 (.ref (ad 1)) (sd 2) (g 2))), (ad 3, oo 3 (fMa 3 (.ref (ad 2)) (sd 3) (g 3))), (ad 4, oo 3 (fMa 4 (.ref (ad 3)) (sd 4) (g 4))), (ad 5, oo 3 (fMa 5 (.ref (ad 4)) (sd 5) (g 5)))] [(0, .ref v), (1, .int (iI w)), (2, .ref (ad 2))] 7 [] := by
    intro w hw
    refine g_aload_n 2 dX1_allRejected_7 rfl rfl ?_
    refine g_ifnull dX1_allRejected_8 ?_
    refine g_iload_n 1 dX1_allRejected_11 rfl rfl ?_
    refine g_aload_n 2 dX1_allRejected_12 rfl rfl ?_
    refine g_get (v := .int (iI ((g 2) 5))) (C := RX3) (T := TX3) (N := 14) 4 8 (fun _ h => List.mem_cons_of_mem _ (List.mem_append_left _ (List.mem_append_right _ h))) (List.mem_of_getElem? (i := 1) rfl) rfl rfl (by decide) rfl rfl dX1_allRejected_13 ?_
    refine g_iadd dX1_allRejected_16 ?_
    refine g_istore_n (lv1 := [(1, .int (iI (w + ((g 2) 5)))), (0, .ref v), (2, .ref (ad 2))]) dX1_allRejected_17 rfl (by decide) rfl ?_
    refine g_aload_n 2 dX1_allRejected_18 rfl rfl ?_
    refine g_get (v := .ref (ad 1)) (C := RX3) (T := TX3) (N := 14) 4 1 (fun _ h => List.mem_cons_of_mem _ (List.mem_append_left _ (List.mem_append_right _ h))) (List.mem_of_getElem? (i := 2) rfl) rfl rfl (by decide) rfl rfl dX1_allRejected_19 ?_
    refine g_astore_n (lv1 := [(2, .ref (ad 1)), (1, .int (iI (w + ((g 2) 5)))), (0, .ref v)]) dX1_allRejected_22 rfl (by decide) rfl ?_
    refine g_goto (tgt := 7) dX1_allRejected_23 rfl ?_
    refine g_lv (lv1 := [(0, .ref v), (1, .int (iI (w + ((g 2) 5)))), (2, .ref (ad 1))]) [2, 1, 0] rfl ?_
    exact K7_1 (w + ((g 2) 5)) (by have e9 : sI (fun j => g j 5) 3 = sI (fun j => g j 5) 2 + g 2 5 := sI_s (fun j => g j 5) (i := 2) (by omega); omega)
  have K7_3 : ∀ (w : Int) (hw : w + sI (fun j => g j 5) 4 = sI (fun j => g j 5) M), G X ({ frames := 2, cells := 0, slots := 0, locals := 41 } : Room) cX1_allRejected 3 RX1 wsX1_allRejected E [] 0 0 [(v, oo 1 [.ref ma, .int (iI M), .ref fo, .ref la, .int (iI ti), .int (iI so), .int (iI ta), .int (iI go), .int (iI sl)]), (ma, aM E 6 mq), (ad 0, oo 3 (fMa 0 .null (sd 0) (g 0))), (ad 1, oo 3 (fMa 1 (.ref (ad 0)) (sd 1) (g 1))), (ad 2, oo 3 (fMa 2 (.ref (ad 1)) (sd 2) (g 2))), (ad 3, oo 3 (fMa 3 (.ref (ad 2)) (sd 3) (g 3))), (ad 4, oo 3 (fMa 4 (.ref (ad 3)) (sd 4) (g 4))), (ad 5, oo 3 (fMa 5 (.ref (ad 4)) (sd 5) (g 5)))] [(0, .ref v), (1, .int (iI w)), (2, .ref (ad 3))] 7 [] := by
    intro w hw
    refine g_aload_n 2 dX1_allRejected_7 rfl rfl ?_
    refine g_ifnull dX1_allRejected_8 ?_
    refine g_iload_n 1 dX1_allRejected_11 rfl rfl ?_
    refine g_aload_n 2 dX1_allRejected_12 rfl rfl ?_
    refine g_get (v := .int (iI ((g 3) 5))) (C := RX3) (T := TX3) (N := 14) 5 8 (fun _ h => List.mem_cons_of_mem _ (List.mem_append_left _ (List.mem_append_right _ h))) (List.mem_of_getElem? (i := 1) rfl) rfl rfl (by decide) rfl rfl dX1_allRejected_13 ?_
    refine g_iadd dX1_allRejected_16 ?_
    refine g_istore_n (lv1 := [(1, .int (iI (w + ((g 3) 5)))), (0, .ref v), (2, .ref (ad 3))]) dX1_allRejected_17 rfl (by decide) rfl ?_
    refine g_aload_n 2 dX1_allRejected_18 rfl rfl ?_
    refine g_get (v := .ref (ad 2)) (C := RX3) (T := TX3) (N := 14) 5 1 (fun _ h => List.mem_cons_of_mem _ (List.mem_append_left _ (List.mem_append_right _ h))) (List.mem_of_getElem? (i := 2) rfl) rfl rfl (by decide) rfl rfl dX1_allRejected_19 ?_
    refine g_astore_n (lv1 := [(2, .ref (ad 2)), (1, .int (iI (w + ((g 3) 5)))), (0, .ref v)]) dX1_allRejected_22 rfl (by decide) rfl ?_
    refine g_goto (tgt := 7) dX1_allRejected_23 rfl ?_
    refine g_lv (lv1 := [(0, .ref v), (1, .int (iI (w + ((g 3) 5)))), (2, .ref (ad 2))]) [2, 1, 0] rfl ?_
    exact K7_2 (w + ((g 3) 5)) (by have e9 : sI (fun j => g j 5) 4 = sI (fun j => g j 5) 3 + g 3 5 := sI_s (fun j => g j 5) (i := 3) (by omega); omega)
  have K7_4 : ∀ (w : Int) (hw : w + sI (fun j => g j 5) 5 = sI (fun j => g j 5) M), G X ({ frames := 2, cells := 0, slots := 0, locals := 41 } : Room) cX1_allRejected 3 RX1 wsX1_allRejected E [] 0 0 [(v, oo 1 [.ref ma, .int (iI M), .ref fo, .ref la, .int (iI ti), .int (iI so), .int (iI ta), .int (iI go), .int (iI sl)]), (ma, aM E 6 mq), (ad 0, oo 3 (fMa 0 .null (sd 0) (g 0))), (ad 1, oo 3 (fMa 1 (.ref (ad 0)) (sd 1) (g 1))), (ad 2, oo 3 (fMa 2 (.ref (ad 1)) (sd 2) (g 2))), (ad 3, oo 3 (fMa 3 (.ref (ad 2)) (sd 3) (g 3))), (ad 4, oo 3 (fMa 4 (.ref (ad 3)) (sd 4) (g 4))), (ad 5, oo 3 (fMa 5 (.ref (ad 4)) (sd 5) (g 5)))] [(0, .ref v), (1, .int (iI w)), (2, .ref (ad 4))] 7 [] := by
    intro w hw
    refine g_aload_n 2 dX1_allRejected_7 rfl rfl ?_
    refine g_ifnull dX1_allRejected_8 ?_
    refine g_iload_n 1 dX1_allRejected_11 rfl rfl ?_
    refine g_aload_n 2 dX1_allRejected_12 rfl rfl ?_
    refine g_get (v := .int (iI ((g 4) 5))) (C := RX3) (T := TX3) (N := 14) 6 8 (fun _ h => List.mem_cons_of_mem _ (List.mem_append_left _ (List.mem_append_right _ h))) (List.mem_of_getElem? (i := 1) rfl) rfl rfl (by decide) rfl rfl dX1_allRejected_13 ?_
    refine g_iadd dX1_allRejected_16 ?_
    refine g_istore_n (lv1 := [(1, .int (iI (w + ((g 4) 5)))), (0, .ref v), (2, .ref (ad 4))]) dX1_allRejected_17 rfl (by decide) rfl ?_
    refine g_aload_n 2 dX1_allRejected_18 rfl rfl ?_
    refine g_get (v := .ref (ad 3)) (C := RX3) (T := TX3) (N := 14) 6 1 (fun _ h => List.mem_cons_of_mem _ (List.mem_append_left _ (List.mem_append_right _ h))) (List.mem_of_getElem? (i := 2) rfl) rfl rfl (by decide) rfl rfl dX1_allRejected_19 ?_
    refine g_astore_n (lv1 := [(2, .ref (ad 3)), (1, .int (iI (w + ((g 4) 5)))), (0, .ref v)]) dX1_allRejected_22 rfl (by decide) rfl ?_
    refine g_goto (tgt := 7) dX1_allRejected_23 rfl ?_
    refine g_lv (lv1 := [(0, .ref v), (1, .int (iI (w + ((g 4) 5)))), (2, .ref (ad 3))]) [2, 1, 0] rfl ?_
    exact K7_3 (w + ((g 4) 5)) (by have e9 : sI (fun j => g j 5) 5 = sI (fun j => g j 5) 4 + g 4 5 := sI_s (fun j => g j 5) (i := 4) (by omega); omega)
  have K7_5 : ∀ (w : Int) (hw : w + sI (fun j => g j 5) 6 = sI (fun j => g j 5) M), G X ({ frames := 2, cells := 0, slots := 0, locals := 41 } : Room) cX1_allRejected 3 RX1 wsX1_allRejected E [] 0 0 [(v, oo 1 [.ref ma, .int (iI M), .ref fo, .ref la, .int (iI ti), .int (iI so), .int (iI ta), .int (iI go), .int (iI sl)]), (ma, aM E 6 mq), (ad 0, oo 3 (fMa 0 .null (sd 0) (g 0))), (ad 1, oo 3 (fMa 1 (.ref (ad 0)) (sd 1) (g 1))), (ad 2, oo 3 (fMa 2 (.ref (ad 1)) (sd 2) (g 2))), (ad 3, oo 3 (fMa 3 (.ref (ad 2)) (sd 3) (g 3))), (ad 4, oo 3 (fMa 4 (.ref (ad 3)) (sd 4) (g 4))), (ad 5, oo 3 (fMa 5 (.ref (ad 4)) (sd 5) (g 5)))] [(0, .ref v), (1, .int (iI w)), (2, .ref (ad 5))] 7 [] := by
    intro w hw
    refine g_aload_n 2 dX1_allRejected_7 rfl rfl ?_
    refine g_ifnull dX1_allRejected_8 ?_
    refine g_iload_n 1 dX1_allRejected_11 rfl rfl ?_
    refine g_aload_n 2 dX1_allRejected_12 rfl rfl ?_
    refine g_get (v := .int (iI ((g 5) 5))) (C := RX3) (T := TX3) (N := 14) 7 8 (fun _ h => List.mem_cons_of_mem _ (List.mem_append_left _ (List.mem_append_right _ h))) (List.mem_of_getElem? (i := 1) rfl) rfl rfl (by decide) rfl rfl dX1_allRejected_13 ?_
    refine g_iadd dX1_allRejected_16 ?_
    refine g_istore_n (lv1 := [(1, .int (iI (w + ((g 5) 5)))), (0, .ref v), (2, .ref (ad 5))]) dX1_allRejected_17 rfl (by decide) rfl ?_
    refine g_aload_n 2 dX1_allRejected_18 rfl rfl ?_
    refine g_get (v := .ref (ad 4)) (C := RX3) (T := TX3) (N := 14) 7 1 (fun _ h => List.mem_cons_of_mem _ (List.mem_append_left _ (List.mem_append_right _ h))) (List.mem_of_getElem? (i := 2) rfl) rfl rfl (by decide) rfl rfl dX1_allRejected_19 ?_
    refine g_astore_n (lv1 := [(2, .ref (ad 4)), (1, .int (iI (w + ((g 5) 5)))), (0, .ref v)]) dX1_allRejected_22 rfl (by decide) rfl ?_
    refine g_goto (tgt := 7) dX1_allRejected_23 rfl ?_
    refine g_lv (lv1 := [(0, .ref v), (1, .int (iI (w + ((g 5) 5)))), (2, .ref (ad 4))]) [2, 1, 0] rfl ?_
    exact K7_4 (w + ((g 5) 5)) (by have e9 : sI (fun j => g j 5) 6 = sI (fun j => g j 5) 5 + g 5 5 := sI_s (fun j => g j 5) (i := 5) (by omega); omega)
  refine g_iconst dX1_allRejected_0 ?_
  refine g_istore_n (lv1 := [(1, .int (iI 0)), (0, .ref v)]) dX1_allRejected_1 rfl (by decide) rfl ?_
  refine g_aload_n 1 dX1_allRejected_2 rfl rfl ?_
  refine g_callV_q (n := 0) (As := []) (wr := [(ad 0, oo 3 (fMa 0 .null (sd 0) (g 0))), (ad 1, oo 3 (fMa 1 (.ref (ad 0)) (sd 1) (g 1))), (ad 2, oo 3 (fMa 2 (.ref (ad 1)) (sd 2) (g 2))), (ad 3, oo 3 (fMa 3 (.ref (ad 2)) (sd 3) (g 3))), (ad 4, oo 3 (fMa 4 (.ref (ad 3)) (sd 4) (g 4))), (ad 5, oo 3 (fMa 5 (.ref (ad 4)) (sd 5) (g 5)))]) (C := RX1) [] (c_X1_last E v ma fo la M ti so ta go sl mq ad (by omega) (by omega) (by omega) (by omega) (by exact hmq)) [0, 1] [2, 3, 4, 5, 6, 7] 0 rfl rfl gX1_allRejected_X1_last rfl ⟨rfl, by decide +kernel⟩ ⟨by decide, by decide⟩ rfl rfl rfl rfl rfl (by decide) rfl (by decide) (by decide) (fun _ h => absurd h List.not_mem_nil) dX1_allRejected_3 rfl (Nat.le_of_ble_eq_true rfl) ⟨by decide, by decide⟩ (fun r u p_1 => ?_)
  obtain ⟨rfl, rfl⟩ := p_1
  refine g_perm (ws1 := [(v, oo 1 [.ref ma, .int (iI M), .ref fo, .ref la, .int (iI ti), .int (iI so), .int (iI ta), .int (iI go), .int (iI sl)]), (ma, aM E 6 mq), (ad 0, oo 3 (fMa 0 .null (sd 0) (g 0))), (ad 1, oo 3 (fMa 1 (.ref (ad 0)) (sd 1) (g 1))), (ad 2, oo 3 (fMa 2 (.ref (ad 1)) (sd 2) (g 2))), (ad 3, oo 3 (fMa 3 (.ref (ad 2)) (sd 3) (g 3))), (ad 4, oo 3 (fMa 4 (.ref (ad 3)) (sd 4) (g 4))), (ad 5, oo 3 (fMa 5 (.ref (ad 4)) (sd 5) (g 5)))]) [6, 7, 0, 1, 2, 3, 4, 5] rfl (by decide) rfl ?_
  rcases (show M = 2 ∨ M = 3 ∨ M = 4 ∨ M = 5 ∨ M = 6 by omega) with hMk | hMk | hMk | hMk | hMk
  · refine g_as (st1 := [.ref (ad 1)]) ?_ rfl rfl (by rw [hMk]; rfl)
    refine g_astore_n (lv1 := [(2, .ref (ad 1)), (1, .int (iI 0)), (0, .ref v)]) dX1_allRejected_6 rfl (by decide) rfl ?_
    refine g_lv (lv1 := [(0, .ref v), (1, .int (iI 0)), (2, .ref (ad 1))]) [2, 1, 0] rfl ?_
    exact K7_1 0 (by rw [show M = 2 by omega]; omega)
  · refine g_as (st1 := [.ref (ad 2)]) ?_ rfl rfl (by rw [hMk]; rfl)
    refine g_astore_n (lv1 := [(2, .ref (ad 2)), (1, .int (iI 0)), (0, .ref v)]) dX1_allRejected_6 rfl (by decide) rfl ?_
    refine g_lv (lv1 := [(0, .ref v), (1, .int (iI 0)), (2, .ref (ad 2))]) [2, 1, 0] rfl ?_
    exact K7_2 0 (by rw [show M = 3 by omega]; omega)
  · refine g_as (st1 := [.ref (ad 3)]) ?_ rfl rfl (by rw [hMk]; rfl)
    refine g_astore_n (lv1 := [(2, .ref (ad 3)), (1, .int (iI 0)), (0, .ref v)]) dX1_allRejected_6 rfl (by decide) rfl ?_
    refine g_lv (lv1 := [(0, .ref v), (1, .int (iI 0)), (2, .ref (ad 3))]) [2, 1, 0] rfl ?_
    exact K7_3 0 (by rw [show M = 4 by omega]; omega)
  · refine g_as (st1 := [.ref (ad 4)]) ?_ rfl rfl (by rw [hMk]; rfl)
    refine g_astore_n (lv1 := [(2, .ref (ad 4)), (1, .int (iI 0)), (0, .ref v)]) dX1_allRejected_6 rfl (by decide) rfl ?_
    refine g_lv (lv1 := [(0, .ref v), (1, .int (iI 0)), (2, .ref (ad 4))]) [2, 1, 0] rfl ?_
    exact K7_4 0 (by rw [show M = 5 by omega]; omega)
  · refine g_as (st1 := [.ref (ad 5)]) ?_ rfl rfl (by rw [hMk]; rfl)
    refine g_astore_n (lv1 := [(2, .ref (ad 5)), (1, .int (iI 0)), (0, .ref v)]) dX1_allRejected_6 rfl (by decide) rfl ?_
    refine g_lv (lv1 := [(0, .ref v), (1, .int (iI 0)), (2, .ref (ad 5))]) [2, 1, 0] rfl ?_
    exact K7_5 0 (by rw [show M = 6 by omega]; omega)

set_option maxHeartbeats 4000000 in
set_option maxRecDepth 100000 in
theorem c_X1_allSampled (E : Ev) (v : Nat) (ma : Nat) (fo : Nat) (la : Nat) (M : Int) (ti : Int) (so : Int) (ta : Int) (go : Int) (sl : Int) (mq : Int → Option Nat) (ad : Int → Nat) (sd : Int → Nat) (g : Int → Int → Int) (hM : 2 ≤ M ∧ M ≤ 6) (hti : 0 ≤ ti ∧ ti ≤ 10000) (hso : 0 ≤ so ∧ so ≤ 100000) (hgo : 0 ≤ go ∧ go ≤ 20000) (hmq : ∀ k, 0 ≤ k → k < 6 → mq k = some (ad k)) (hgk : ∀ j, 0 ≤ j → j < 6 → mOk (g j)) : MI yX1_allSampled wsX1_allSampled ({ frames := 2, cells := 0, slots := 0, locals := 41 } : Room) E [] 0 0 [.ref v] [(v, oo 1 [.ref ma, .int (iI M), .ref fo, .ref la, .int (iI ti), .int (iI so), .int (iI ta), .int (iI go), .int (iI sl)]), (ma, aM E 6 mq), (ad 0, oo 3 (fMa 0 .null (sd 0) (g 0))), (ad 1, oo 3 (fMa 1 (.ref (ad 0)) (sd 1) (g 1))), (ad 2, oo 3 (fMa 2 (.ref (ad 1)) (sd 2) (g 2))), (ad 3, oo 3 (fMa 3 (.ref (ad 2)) (sd 3) (g 3))), (ad 4, oo 3 (fMa 4 (.ref (ad 3)) (sd 4) (g 4))), (ad 5, oo 3 (fMa 5 (.ref (ad 4)) (sd 5) (g 5)))] (fun r u => r = iI (sI (fun j => g j 6) M) ∧ u = [(v, oo 1 [.ref ma, .int (iI M), .ref fo, .ref la, .int (iI ti), .int (iI so), .int (iI ta), .int (iI go), .int (iI sl)]), (ma, aM E 6 mq), (ad 0, oo 3 (fMa 0 .null (sd 0) (g 0))), (ad 1, oo 3 (fMa 1 (.ref (ad 0)) (sd 1) (g 1))), (ad 2, oo 3 (fMa 2 (.ref (ad 1)) (sd 2) (g 2))), (ad 3, oo 3 (fMa 3 (.ref (ad 2)) (sd 3) (g 3))), (ad 4, oo 3 (fMa 4 (.ref (ad 3)) (sd 4) (g 4))), (ad 5, oo 3 (fMa 5 (.ref (ad 4)) (sd 5) (g 5)))]) := by
  refine MI.of (cc := cX1_allSampled) (maxL := 3) (own := RX1) (by decide) rfl rfl rfl (Nat.le_of_ble_eq_true rfl) [(0, .ref v)] rfl ?_
  intro X hin2 hRet
  have K7_N : ∀ (w : Int) (hw : w + sI (fun j => g j 6) 0 = sI (fun j => g j 6) M), G X ({ frames := 2, cells := 0, slots := 0, locals := 41 } : Room) cX1_allSampled 3 RX1 wsX1_allSampled E [] 0 0 [(v, oo 1 [.ref ma, .int (iI M), .ref fo, .ref la, .int (iI ti), .int (iI so), .int (iI ta), .int (iI go), .int (iI sl)]), (ma, aM E 6 mq), (ad 0, oo 3 (fMa 0 .null (sd 0) (g 0))), (ad 1, oo 3 (fMa 1 (.ref (ad 0)) (sd 1) (g 1))), (ad 2, oo 3 (fMa 2 (.ref (ad 1)) (sd 2) (g 2))), (ad 3, oo 3 (fMa 3 (.ref (ad 2)) (sd 3) (g 3))), (ad 4, oo 3 (fMa 4 (.ref (ad 3)) (sd 4) (g 4))), (ad 5, oo 3 (fMa 5 (.ref (ad 4)) (sd 5) (g 5)))] [(0, .ref v), (1, .int (iI w)), (2, .null)] 7 [] := by
    intro w hw
    refine g_aload_nN 2 dX1_allSampled_7 rfl rfl ?_
    refine g_ifnullN (tgt := 26) dX1_allSampled_8 rfl ?_
    refine g_iload_n 1 dX1_allSampled_26 rfl rfl ?_
    exact g_iret hRet dX1_allSampled_27 rfl ⟨(congrArg iI (by have e9 := sI_0 (fun j => g j 6); omega)), rfl⟩
  have K7_0 : ∀ (w : Int) (hw : w + sI (fun j => g j 6) 1 = sI (fun j => g j 6) M), G X ({ frames := 2, cells := 0, slots := 0, locals := 41 } : Room) cX1_allSampled 3 RX1 wsX1_allSampled E [] 0 0 [(v, oo 1 [.ref ma, .int (iI M), .ref fo, .ref la, .int (iI ti), .int (iI so), .int (iI ta), .int (iI go), .int (iI sl)]), (ma, aM E 6 mq), (ad 0, oo 3 (fMa 0 .null (sd 0) (g 0))), (ad 1, oo 3 (fMa 1 (.ref (ad 0)) (sd 1) (g 1))), (ad 2, oo 3 (fMa 2 (.ref (ad 1)) (sd 2) (g 2))), (ad 3, oo 3 (fMa 3 (.ref (ad 2)) (sd 3) (g 3))), (ad 4, oo 3 (fMa 4 (.ref (ad 3)) (sd 4) (g 4))), (ad 5, oo 3 (fMa 5 (.ref (ad 4)) (sd 5) (g 5)))] [(0, .ref v), (1, .int (iI w)), (2, .ref (ad 0))] 7 [] := by
    intro w hw
    refine g_aload_n 2 dX1_allSampled_7 rfl rfl ?_
    refine g_ifnull dX1_allSampled_8 ?_
    refine g_iload_n 1 dX1_allSampled_11 rfl rfl ?_
    refine g_aload_n 2 dX1_allSampled_12 rfl rfl ?_
    refine g_get (v := .int (iI ((g 0) 6))) (C := RX3) (T := TX3) (N := 14) 2 9 (fun _ h => List.mem_cons_of_mem _ (List.mem_append_left _ (List.mem_append_right _ h))) (List.mem_of_getElem? (i := 1) rfl) rfl rfl (by decide) rfl rfl dX1_allSampled_13 ?_
    refine g_iadd dX1_allSampled_16 ?_
    refine g_istore_n (lv1 := [(1, .int (iI (w + ((g 0) 6)))), (0, .ref v), (2, .ref (ad 0))]) dX1_allSampled_17 rfl (by decide) rfl ?_
    refine g_aload_n 2 dX1_allSampled_18 rfl rfl ?_
    refine g_get (v := .null) (C := RX3) (T := TX3) (N := 14) 2 1 (fun _ h => List.mem_cons_of_mem _ (List.mem_append_left _ (List.mem_append_right _ h))) (List.mem_of_getElem? (i := 2) rfl) rfl rfl (by decide) rfl rfl dX1_allSampled_19 ?_
    refine g_astore_nN (lv1 := [(2, .null), (1, .int (iI (w + ((g 0) 6)))), (0, .ref v)]) dX1_allSampled_22 rfl (by decide) rfl ?_
    refine g_goto (tgt := 7) dX1_allSampled_23 rfl ?_
    refine g_lv (lv1 := [(0, .ref v), (1, .int (iI (w + ((g 0) 6)))), (2, .null)]) [2, 1, 0] rfl ?_
    exact K7_N (w + ((g 0) 6)) (by have e9 : sI (fun j => g j 6) 1 = sI (fun j => g j 6) 0 + g 0 6 := sI_s (fun j => g j 6) (i := 0) (by omega); omega)
  have K7_1 : ∀ (w : Int) (hw : w + sI (fun j => g j 6) 2 = sI (fun j => g j 6) M), G X ({ frames := 2, cells := 0, slots := 0, locals := 41 } : Room) cX1_allSampled 3 RX1 wsX1_allSampled E [] 0 0 [(v, oo 1 [.ref ma, .int (iI M), .ref fo, .ref la, .int (iI ti), .int (iI so), .int (iI ta), .int (iI go), .int (iI sl)]), (ma, aM E 6 mq), (ad 0, oo 3 (fMa 0 .null (sd 0) (g 0))), (ad 1, oo 3 (fMa 1 (.ref (ad 0)) (sd 1) (g 1))), (ad 2, oo 3 (fMa 2 (.ref (ad 1)) (sd 2) (g 2))), (ad 3, oo 3 (fMa 3 (.ref (ad 2)) (sd 3) (g 3))), (ad 4, oo 3 (fMa 4 (.ref (ad 3)) (sd 4) (g 4))), (ad 5, oo 3 (fMa 5 (.ref (ad 4)) (sd 5) (g 5)))] [(0, .ref v), (1, .int (iI w)), (2, .ref (ad 1))] 7 [] := by
    intro w hw
    refine g_aload_n 2 dX1_allSampled_7 rfl rfl ?_
    refine g_ifnull dX1_allSampled_8 ?_
    refine g_iload_n 1 dX1_allSampled_11 rfl rfl ?_
    refine g_aload_n 2 dX1_allSampled_12 rfl rfl ?_
    refine g_get (v := .int (iI ((g 1) 6))) (C := RX3) (T := TX3) (N := 14) 3 9 (fun _ h => List.mem_cons_of_mem _ (List.mem_append_left _ (List.mem_append_right _ h))) (List.mem_of_getElem? (i := 1) rfl) rfl rfl (by decide) rfl rfl dX1_allSampled_13 ?_
    refine g_iadd dX1_allSampled_16 ?_
    refine g_istore_n (lv1 := [(1, .int (iI (w + ((g 1) 6)))), (0, .ref v), (2, .ref (ad 1))]) dX1_allSampled_17 rfl (by decide) rfl ?_
    refine g_aload_n 2 dX1_allSampled_18 rfl rfl ?_
    refine g_get (v := .ref (ad 0)) (C := RX3) (T := TX3) (N := 14) 3 1 (fun _ h => List.mem_cons_of_mem _ (List.mem_append_left _ (List.mem_append_right _ h))) (List.mem_of_getElem? (i := 2) rfl) rfl rfl (by decide) rfl rfl dX1_allSampled_19 ?_
    refine g_astore_n (lv1 := [(2, .ref (ad 0)), (1, .int (iI (w + ((g 1) 6)))), (0, .ref v)]) dX1_allSampled_22 rfl (by decide) rfl ?_
    refine g_goto (tgt := 7) dX1_allSampled_23 rfl ?_
    refine g_lv (lv1 := [(0, .ref v), (1, .int (iI (w + ((g 1) 6)))), (2, .ref (ad 0))]) [2, 1, 0] rfl ?_
    exact K7_0 (w + ((g 1) 6)) (by have e9 : sI (fun j => g j 6) 2 = sI (fun j => g j 6) 1 + g 1 6 := sI_s (fun j => g j 6) (i := 1) (by omega); omega)
  have K7_2 : ∀ (w : Int) (hw : w + sI (fun j => g j 6) 3 = sI (fun j => g j 6) M), G X ({ frames := 2, cells := 0, slots := 0, locals := 41 } : Room) cX1_allSampled 3 RX1 wsX1_allSampled E [] 0 0 [(v, oo 1 [.ref ma, .int (iI M), .ref fo, .ref la, .int (iI ti), .int (iI so), .int (iI ta), .int (iI go), .int (iI sl)]), (ma, aM E 6 mq), (ad 0, oo 3 (fMa 0 .null (sd 0) (g 0))), (ad 1, oo 3 (fMa 1 (.ref (ad 0)) (sd 1) (g 1))), (ad 2, oo 3 (fMa 2 (.ref (ad 1)) (sd 2) (g 2))), (ad 3, oo 3 (fMa 3 (.ref (ad 2)) (sd 3) (g 3))), (ad 4, oo 3 (fMa 4 (.ref (ad 3)) (sd 4) (g 4))), (ad 5, oo 3 (fMa 5 (.ref (ad 4)) (sd 5) (g 5)))] [(0, .ref v), (1, .int (iI w)), (2, .ref (ad 2))] 7 [] := by
    intro w hw
    refine g_aload_n 2 dX1_allSampled_7 rfl rfl ?_
    refine g_ifnull dX1_allSampled_8 ?_
    refine g_iload_n 1 dX1_allSampled_11 rfl rfl ?_
    refine g_aload_n 2 dX1_allSampled_12 rfl rfl ?_
    refine g_get (v := .int (iI ((g 2) 6))) (C := RX3) (T := TX3) (N := 14) 4 9 (fun _ h => List.mem_cons_of_mem _ (List.mem_append_left _ (List.mem_append_right _ h))) (List.mem_of_getElem? (i := 1) rfl) rfl rfl (by decide) rfl rfl dX1_allSampled_13 ?_
    refine g_iadd dX1_allSampled_16 ?_
    refine g_istore_n (lv1 := [(1, .int (iI (w + ((g 2) 6)))), (0, .ref v), (2, .ref (ad 2))]) dX1_allSampled_17 rfl (by decide) rfl ?_
    refine g_aload_n 2 dX1_allSampled_18 rfl rfl ?_
    refine g_get (v := .ref (ad 1)) (C := RX3) (T := TX3) (N := 14) 4 1 (fun _ h => List.mem_cons_of_mem _ (List.mem_append_left _ (List.mem_append_right _ h))) (List.mem_of_getElem? (i := 2) rfl) rfl rfl (by decide) rfl rfl dX1_allSampled_19 ?_
    refine g_astore_n (lv1 := [(2, .ref (ad 1)), (1, .int (iI (w + ((g 2) 6)))), (0, .ref v)]) dX1_allSampled_22 rfl (by decide) rfl ?_
    refine g_goto (tgt := 7) dX1_allSampled_23 rfl ?_
    refine g_lv (lv1 := [(0, .ref v), (1, .int (iI (w + ((g 2) 6)))), (2, .ref (ad 1))]) [2, 1, 0] rfl ?_
    exact K7_1 (w + ((g 2) 6)) (by have e9 : sI (fun j => g j 6) 3 = sI (fun j => g j 6) 2 + g 2 6 := sI_s (fun j => g j 6) (i := 2) (by omega); omega)
  have K7_3 : ∀ (w : Int) (hw : w + sI (fun j => g j 6) 4 = sI (fun j => g j 6) M), G X ({ frames := 2, cells := 0, slots := 0, locals := 41 } : Room) cX1_allSampled 3 RX1 wsX1_allSampled E [] 0 0 [(v, oo 1 [.ref ma, .int (iI M), .ref fo, .ref la, .int (iI ti), .int (iI so), .int (iI ta), .int (iI go), .int (iI sl)]), (ma, aM E 6 mq), (ad 0, oo 3 (fMa 0 .null (sd 0) (g 0))), (ad 1, oo 3 (fMa 1 (.ref (ad 0)) (sd 1) (g 1))), (ad 2, oo 3 (fMa 2 (.ref (ad 1)) (sd 2) (g 2))), (ad 3, oo 3 (fMa 3 (.ref (ad 2)) (sd 3) (g 3))), (ad 4, oo 3 (fMa 4 (.ref (ad 3)) (sd 4) (g 4))), (ad 5, oo 3 (fMa 5 (.ref (ad 4)) (sd 5) (g 5)))] [(0, .ref v), (1, .int (iI w)), (2, .ref (ad 3))] 7 [] := by
    intro w hw
    refine g_aload_n 2 dX1_allSampled_7 rfl rfl ?_
    refine g_ifnull dX1_allSampled_8 ?_
    refine g_iload_n 1 dX1_allSampled_11 rfl rfl ?_
    refine g_aload_n 2 dX1_allSampled_12 rfl rfl ?_
    refine g_get (v := .int (iI ((g 3) 6))) (C := RX3) (T := TX3) (N := 14) 5 9 (fun _ h => List.mem_cons_of_mem _ (List.mem_append_left _ (List.mem_append_right _ h))) (List.mem_of_getElem? (i := 1) rfl) rfl rfl (by decide) rfl rfl dX1_allSampled_13 ?_
    refine g_iadd dX1_allSampled_16 ?_
    refine g_istore_n (lv1 := [(1, .int (iI (w + ((g 3) 6)))), (0, .ref v), (2, .ref (ad 3))]) dX1_allSampled_17 rfl (by decide) rfl ?_
    refine g_aload_n 2 dX1_allSampled_18 rfl rfl ?_
    refine g_get (v := .ref (ad 2)) (C := RX3) (T := TX3) (N := 14) 5 1 (fun _ h => List.mem_cons_of_mem _ (List.mem_append_left _ (List.mem_append_right _ h))) (List.mem_of_getElem? (i := 2) rfl) rfl rfl (by decide) rfl rfl dX1_allSampled_19 ?_
    refine g_astore_n (lv1 := [(2, .ref (ad 2)), (1, .int (iI (w + ((g 3) 6)))), (0, .ref v)]) dX1_allSampled_22 rfl (by decide) rfl ?_
    refine g_goto (tgt := 7) dX1_allSampled_23 rfl ?_
    refine g_lv (lv1 := [(0, .ref v), (1, .int (iI (w + ((g 3) 6)))), (2, .ref (ad 2))]) [2, 1, 0] rfl ?_
    exact K7_2 (w + ((g 3) 6)) (by have e9 : sI (fun j => g j 6) 4 = sI (fun j => g j 6) 3 + g 3 6 := sI_s (fun j => g j 6) (i := 3) (by omega); omega)
  have K7_4 : ∀ (w : Int) (hw : w + sI (fun j => g j 6) 5 = sI (fun j => g j 6) M), G X ({ frames := 2, cells := 0, slots := 0, locals := 41 } : Room) cX1_allSampled 3 RX1 wsX1_allSampled E [] 0 0 [(v, oo 1 [.ref ma, .int (iI M), .ref fo, .ref la, .int (iI ti), .int (iI so), .int (iI ta), .int (iI go), .int (iI sl)]), (ma, aM E 6 mq), (ad 0, oo 3 (fMa 0 .null (sd 0) (g 0))), (ad 1, oo 3 (fMa 1 (.ref (ad 0)) (sd 1) (g 1))), (ad 2, oo 3 (fMa 2 (.ref (ad 1)) (sd 2) (g 2))), (ad 3, oo 3 (fMa 3 (.ref (ad 2)) (sd 3) (g 3))), (ad 4, oo 3 (fMa 4 (.ref (ad 3)) (sd 4) (g 4))), (ad 5, oo 3 (fMa 5 (.ref (ad 4)) (sd 5) (g 5)))] [(0, .ref v), (1, .int (iI w)), (2, .ref (ad 4))] 7 [] := by
    intro w hw
    refine g_aload_n 2 dX1_allSampled_7 rfl rfl ?_
    refine g_ifnull dX1_allSampled_8 ?_
    refine g_iload_n 1 dX1_allSampled_11 rfl rfl ?_
    refine g_aload_n 2 dX1_allSampled_12 rfl rfl ?_
    refine g_get (v := .int (iI ((g 4) 6))) (C := RX3) (T := TX3) (N := 14) 6 9 (fun _ h => List.mem_cons_of_mem _ (List.mem_append_left _ (List.mem_append_right _ h))) (List.mem_of_getElem? (i := 1) rfl) rfl rfl (by decide) rfl rfl dX1_allSampled_13 ?_
    refine g_iadd dX1_allSampled_16 ?_
    refine g_istore_n (lv1 := [(1, .int (iI (w + ((g 4) 6)))), (0, .ref v), (2, .ref (ad 4))]) dX1_allSampled_17 rfl (by decide) rfl ?_
    refine g_aload_n 2 dX1_allSampled_18 rfl rfl ?_
    refine g_get (v := .ref (ad 3)) (C := RX3) (T := TX3) (N := 14) 6 1 (fun _ h => List.mem_cons_of_mem _ (List.mem_append_left _ (List.mem_append_right _ h))) (List.mem_of_getElem? (i := 2) rfl) rfl rfl (by decide) rfl rfl dX1_allSampled_19 ?_
    refine g_astore_n (lv1 := [(2, .ref (ad 3)), (1, .int (iI (w + ((g 4) 6)))), (0, .ref v)]) dX1_allSampled_22 rfl (by decide) rfl ?_
    refine g_goto (tgt := 7) dX1_allSampled_23 rfl ?_
    refine g_lv (lv1 := [(0, .ref v), (1, .int (iI (w + ((g 4) 6)))), (2, .ref (ad 3))]) [2, 1, 0] rfl ?_
    exact K7_3 (w + ((g 4) 6)) (by have e9 : sI (fun j => g j 6) 5 = sI (fun j => g j 6) 4 + g 4 6 := sI_s (fun j => g j 6) (i := 4) (by omega); omega)
  have K7_5 : ∀ (w : Int) (hw : w + sI (fun j => g j 6) 6 = sI (fun j => g j 6) M), G X ({ frames := 2, cells := 0, slots := 0, locals := 41 } : Room) cX1_allSampled 3 RX1 wsX1_allSampled E [] 0 0 [(v, oo 1 [.ref ma, .int (iI M), .ref fo, .ref la, .int (iI ti), .int (iI so), .int (iI ta), .int (iI go), .int (iI sl)]), (ma, aM E 6 mq), (ad 0, oo 3 (fMa 0 .null (sd 0) (g 0))), (ad 1, oo 3 (fMa 1 (.ref (ad 0)) (sd 1) (g 1))), (ad 2, oo 3 (fMa 2 (.ref (ad 1)) (sd 2) (g 2))), (ad 3, oo 3 (fMa 3 (.ref (ad 2)) (sd 3) (g 3))), (ad 4, oo 3 (fMa 4 (.ref (ad 3)) (sd 4) (g 4))), (ad 5, oo 3 (fMa 5 (.ref (ad 4)) (sd 5) (g 5)))] [(0, .ref v), (1, .int (iI w)), (2, .ref (ad 5))] 7 [] := by
    intro w hw
    refine g_aload_n 2 dX1_allSampled_7 rfl rfl ?_
    refine g_ifnull dX1_allSampled_8 ?_
    refine g_iload_n 1 dX1_allSampled_11 rfl rfl ?_
    refine g_aload_n 2 dX1_allSampled_12 rfl rfl ?_
    refine g_get (v := .int (iI ((g 5) 6))) (C := RX3) (T := TX3) (N := 14) 7 9 (fun _ h => List.mem_cons_of_mem _ (List.mem_append_left _ (List.mem_append_right _ h))) (List.mem_of_getElem? (i := 1) rfl) rfl rfl (by decide) rfl rfl dX1_allSampled_13 ?_
    refine g_iadd dX1_allSampled_16 ?_
    refine g_istore_n (lv1 := [(1, .int (iI (w + ((g 5) 6)))), (0, .ref v), (2, .ref (ad 5))]) dX1_allSampled_17 rfl (by decide) rfl ?_
    refine g_aload_n 2 dX1_allSampled_18 rfl rfl ?_
    refine g_get (v := .ref (ad 4)) (C := RX3) (T := TX3) (N := 14) 7 1 (fun _ h => List.mem_cons_of_mem _ (List.mem_append_left _ (List.mem_append_right _ h))) (List.mem_of_getElem? (i := 2) rfl) rfl rfl (by decide) rfl rfl dX1_allSampled_19 ?_
    refine g_astore_n (lv1 := [(2, .ref (ad 4)), (1, .int (iI (w + ((g 5) 6)))), (0, .ref v)]) dX1_allSampled_22 rfl (by decide) rfl ?_
    refine g_goto (tgt := 7) dX1_allSampled_23 rfl ?_
    refine g_lv (lv1 := [(0, .ref v), (1, .int (iI (w + ((g 5) 6)))), (2, .ref (ad 4))]) [2, 1, 0] rfl ?_
    exact K7_4 (w + ((g 5) 6)) (by have e9 : sI (fun j => g j 6) 6 = sI (fun j => g j 6) 5 + g 5 6 := sI_s (fun j => g j 6) (i := 5) (by omega); omega)
  refine g_iconst dX1_allSampled_0 ?_
  refine g_istore_n (lv1 := [(1, .int (iI 0)), (0, .ref v)]) dX1_allSampled_1 rfl (by decide) rfl ?_
  refine g_aload_n 1 dX1_allSampled_2 rfl rfl ?_
  refine g_callV_q (n := 0) (As := []) (wr := [(ad 0, oo 3 (fMa 0 .null (sd 0) (g 0))), (ad 1, oo 3 (fMa 1 (.ref (ad 0)) (sd 1) (g 1))), (ad 2, oo 3 (fMa 2 (.ref (ad 1)) (sd 2) (g 2))), (ad 3, oo 3 (fMa 3 (.ref (ad 2)) (sd 3) (g 3))), (ad 4, oo 3 (fMa 4 (.ref (ad 3)) (sd 4) (g 4))), (ad 5, oo 3 (fMa 5 (.ref (ad 4)) (sd 5) (g 5)))]) (C := RX1) [] (c_X1_last E v ma fo la M ti so ta go sl mq ad (by omega) (by omega) (by omega) (by omega) (by exact hmq)) [0, 1] [2, 3, 4, 5, 6, 7] 0 rfl rfl gX1_allSampled_X1_last rfl ⟨rfl, by decide +kernel⟩ ⟨by decide, by decide⟩ rfl rfl rfl rfl rfl (by decide) rfl (by decide) (by decide) (fun _ h => absurd h List.not_mem_nil) dX1_allSampled_3 rfl (Nat.le_of_ble_eq_true rfl) ⟨by decide, by decide⟩ (fun r u p_1 => ?_)
  obtain ⟨rfl, rfl⟩ := p_1
  refine g_perm (ws1 := [(v, oo 1 [.ref ma, .int (iI M), .ref fo, .ref la, .int (iI ti), .int (iI so), .int (iI ta), .int (iI go), .int (iI sl)]), (ma, aM E 6 mq), (ad 0, oo 3 (fMa 0 .null (sd 0) (g 0))), (ad 1, oo 3 (fMa 1 (.ref (ad 0)) (sd 1) (g 1))), (ad 2, oo 3 (fMa 2 (.ref (ad 1)) (sd 2) (g 2))), (ad 3, oo 3 (fMa 3 (.ref (ad 2)) (sd 3) (g 3))), (ad 4, oo 3 (fMa 4 (.ref (ad 3)) (sd 4) (g 4))), (ad 5, oo 3 (fMa 5 (.ref (ad 4)) (sd 5) (g 5)))]) [6, 7, 0, 1, 2, 3, 4, 5] rfl (by decide) rfl ?_
  rcases (show M = 2 ∨ M = 3 ∨ M = 4 ∨ M = 5 ∨ M = 6 by omega) with hMk | hMk | hMk | hMk | hMk
  · refine g_as (st1 := [.ref (ad 1)]) ?_ rfl rfl (by rw [hMk]; rfl)
    refine g_astore_n (lv1 := [(2, .ref (ad 1)), (1, .int (iI 0)), (0, .ref v)]) dX1_allSampled_6 rfl (by decide) rfl ?_
    refine g_lv (lv1 := [(0, .ref v), (1, .int (iI 0)), (2, .ref (ad 1))]) [2, 1, 0] rfl ?_
    exact K7_1 0 (by rw [show M = 2 by omega]; omega)
  · refine g_as (st1 := [.ref (ad 2)]) ?_ rfl rfl (by rw [hMk]; rfl)
    refine g_astore_n (lv1 := [(2, .ref (ad 2)), (1, .int (iI 0)), (0, .ref v)]) dX1_allSampled_6 rfl (by decide) rfl ?_
    refine g_lv (lv1 := [(0, .ref v), (1, .int (iI 0)), (2, .ref (ad 2))]) [2, 1, 0] rfl ?_
    exact K7_2 0 (by rw [show M = 3 by omega]; omega)
  · refine g_as (st1 := [.ref (ad 3)]) ?_ rfl rfl (by rw [hMk]; rfl)
    refine g_astore_n (lv1 := [(2, .ref (ad 3)), (1, .int (iI 0)), (0, .ref v)]) dX1_allSampled_6 rfl (by decide) rfl ?_
    refine g_lv (lv1 := [(0, .ref v), (1, .int (iI 0)), (2, .ref (ad 3))]) [2, 1, 0] rfl ?_
    exact K7_3 0 (by rw [show M = 4 by omega]; omega)
  · refine g_as (st1 := [.ref (ad 4)]) ?_ rfl rfl (by rw [hMk]; rfl)
    refine g_astore_n (lv1 := [(2, .ref (ad 4)), (1, .int (iI 0)), (0, .ref v)]) dX1_allSampled_6 rfl (by decide) rfl ?_
    refine g_lv (lv1 := [(0, .ref v), (1, .int (iI 0)), (2, .ref (ad 4))]) [2, 1, 0] rfl ?_
    exact K7_4 0 (by rw [show M = 5 by omega]; omega)
  · refine g_as (st1 := [.ref (ad 5)]) ?_ rfl rfl (by rw [hMk]; rfl)
    refine g_astore_n (lv1 := [(2, .ref (ad 5)), (1, .int (iI 0)), (0, .ref v)]) dX1_allSampled_6 rfl (by decide) rfl ?_
    refine g_lv (lv1 := [(0, .ref v), (1, .int (iI 0)), (2, .ref (ad 5))]) [2, 1, 0] rfl ?_
    exact K7_5 0 (by rw [show M = 6 by omega]; omega)

set_option maxHeartbeats 4000000 in
set_option maxRecDepth 100000 in
theorem c_X6_confirm (E : Ev) (x0 : Nat) (h0 : Nat) (a3 : Nat) (a4 : Nat) (a5 : Nat) (lo : Int) (v : Nat) (ma : Nat) (fo : Nat) (la : Nat) (M : Int) (ti : Int) (so : Int) (ta : Int) (go : Int) (sl : Int) (mq : Int → Option Nat) (ad : Int → Nat) (sd : Int → Nat) (g : Int → Int → Int) (i : Int) (hM : 2 ≤ M ∧ M ≤ 6) (hti : 0 ≤ ti ∧ ti ≤ 10000) (hso : 0 ≤ so ∧ so ≤ 100000) (hgo : 0 ≤ go ∧ go ≤ 20000) (hmq : ∀ k, 0 ≤ k → k < 6 → mq k = some (ad k)) (hgk : ∀ j, 0 ≤ j → j < 6 → mOk (g j)) (h_i : -2147483648 ≤ i ∧ i ≤ 2147483647) : MI yX6_confirm wsX6_confirm ({ frames := 1, cells := 0, slots := 0, locals := 21 } : Room) E [] 0 0 [.ref x0, .int (iI i)] [(x0, oo 6 [.ref v, .ref h0, .ref a3, .ref a4, .ref a5, .int (iI lo)]), (v, oo 1 [.ref ma, .int (iI M), .ref fo, .ref la, .int (iI ti), .int (iI so), .int (iI ta), .int (iI go), .int (iI sl)]), (ma, aM E 6 mq), (ad 0, oo 3 (fMa 0 .null (sd 0) (g 0))), (ad 1, oo 3 (fMa 1 (.ref (ad 0)) (sd 1) (g 1))), (ad 2, oo 3 (fMa 2 (.ref (ad 1)) (sd 2) (g 2))), (ad 3, oo 3 (fMa 3 (.ref (ad 2)) (sd 3) (g 3))), (ad 4, oo 3 (fMa 4 (.ref (ad 3)) (sd 4) (g 4))), (ad 5, oo 3 (fMa 5 (.ref (ad 4)) (sd 5) (g 5)))] (fun r u => ∃ (x : Int), ∃ (g' : Int → Int → Int), sp_confirm M g i x g' ∧ r = iI x ∧ u = [(x0, oo 6 [.ref v, .ref h0, .ref a3, .ref a4, .ref a5, .int (iI lo)]), (v, oo 1 [.ref ma, .int (iI M), .ref fo, .ref la, .int (iI ti), .int (iI so), .int (iI ta), .int (iI go), .int (iI sl)]), (ma, aM E 6 mq), (ad 0, oo 3 (fMa 0 .null (sd 0) (g' 0))), (ad 1, oo 3 (fMa 1 (.ref (ad 0)) (sd 1) (g' 1))), (ad 2, oo 3 (fMa 2 (.ref (ad 1)) (sd 2) (g' 2))), (ad 3, oo 3 (fMa 3 (.ref (ad 2)) (sd 3) (g' 3))), (ad 4, oo 3 (fMa 4 (.ref (ad 3)) (sd 4) (g' 4))), (ad 5, oo 3 (fMa 5 (.ref (ad 4)) (sd 5) (g' 5)))]) := by
  refine MI.of (cc := cX6_confirm) (maxL := 4) (own := RX6) (by decide) rfl rfl rfl (Nat.le_of_ble_eq_true rfl) [(0, .ref x0), (1, .int (iI i))] rfl ?_
  intro X hin2 hRet
  refine g_aload_n 0 dX6_confirm_0 rfl rfl ?_
  refine g_get (C := RX6) (T := TX6) (N := 6) 0 0 (fun _ h => List.mem_cons_of_mem _ (List.mem_append_left _ (List.mem_append_left _ (List.mem_append_right _ h)))) (List.mem_of_getElem? (i := 1) rfl) rfl rfl (by decide) rfl rfl dX6_confirm_1 ?_
  refine g_iload_n 1 dX6_confirm_4 rfl rfl ?_
  refine g_callV_q (n := 1) (As := [.int (iI i)]) (wr := [(x0, oo 6 [.ref v, .ref h0, .ref a3, .ref a4, .ref a5, .int (iI lo)]), (ad 0, oo 3 (fMa 0 .null (sd 0) (g 0))), (ad 1, oo 3 (fMa 1 (.ref (ad 0)) (sd 1) (g 1))), (ad 2, oo 3 (fMa 2 (.ref (ad 1)) (sd 2) (g 2))), (ad 3, oo 3 (fMa 3 (.ref (ad 2)) (sd 3) (g 3))), (ad 4, oo 3 (fMa 4 (.ref (ad 3)) (sd 4) (g 4))), (ad 5, oo 3 (fMa 5 (.ref (ad 4)) (sd 5) (g 5)))]) (C := RX1) [] (c_X1_machineAt E v ma fo la M ti so ta go sl mq ad i (by omega) (by omega) (by omega) (by omega) (by exact hmq) (by omega)) [1, 2] [0, 3, 4, 5, 6, 7, 8] 0 rfl rfl gX6_confirm_X1_machineAt rfl ⟨rfl, by decide +kernel⟩ ⟨by decide, by decide⟩ rfl rfl rfl rfl rfl (by decide) rfl (by decide) (by decide) (fun _ h => absurd h List.not_mem_nil) dX6_confirm_5 rfl (Nat.le_of_ble_eq_true rfl) ⟨by decide, by decide⟩ (fun r u p_1 => ?_)
  obtain ⟨rfl, rfl⟩ := p_1
  refine g_perm (ws1 := [(x0, oo 6 [.ref v, .ref h0, .ref a3, .ref a4, .ref a5, .int (iI lo)]), (v, oo 1 [.ref ma, .int (iI M), .ref fo, .ref la, .int (iI ti), .int (iI so), .int (iI ta), .int (iI go), .int (iI sl)]), (ma, aM E 6 mq), (ad 0, oo 3 (fMa 0 .null (sd 0) (g 0))), (ad 1, oo 3 (fMa 1 (.ref (ad 0)) (sd 1) (g 1))), (ad 2, oo 3 (fMa 2 (.ref (ad 1)) (sd 2) (g 2))), (ad 3, oo 3 (fMa 3 (.ref (ad 2)) (sd 3) (g 3))), (ad 4, oo 3 (fMa 4 (.ref (ad 3)) (sd 4) (g 4))), (ad 5, oo 3 (fMa 5 (.ref (ad 4)) (sd 5) (g 5)))]) [0, 7, 8, 1, 2, 3, 4, 5, 6] rfl (by decide) rfl ?_
  rcases (show (i = 0 ∧ i < M) ∨ (i = 1 ∧ i < M) ∨ (i = 2 ∧ i < M) ∨ (i = 3 ∧ i < M) ∨ (i = 4 ∧ i < M) ∨ (i = 5 ∧ i < M) ∨ ¬ (0 ≤ i ∧ i < M) by omega) with hik | hik | hik | hik | hik | hik | hik
  · refine g_as (st1 := [.ref (ad 0)]) ?_ rfl rfl (by rw [if_pos (by omega), hik.1]; rfl)
    refine g_astore_n (lv1 := [(2, .ref (ad 0)), (0, .ref x0), (1, .int (iI i))]) dX6_confirm_8 rfl (by decide) rfl ?_
    refine g_aload_n 0 dX6_confirm_9 rfl rfl ?_
    refine g_ifnonnull (tgt := 15) dX6_confirm_10 rfl ?_
    refine g_aload_n 0 dX6_confirm_15 rfl rfl ?_
    refine g_get (v := .int (iI ((g 0) 7))) (C := RX3) (T := TX3) (N := 14) 3 10 (fun _ h => List.mem_cons_of_mem _ (List.mem_append_left _ (List.mem_append_right _ h))) (List.mem_of_getElem? (i := 2) rfl) rfl rfl (by decide) rfl rfl dX6_confirm_16 ?_
    refine g_istore_n (lv1 := [(3, .int (iI ((g 0) 7))), (2, .ref (ad 0)), (0, .ref x0), (1, .int (iI i))]) dX6_confirm_19 rfl (by decide) rfl ?_
    refine g_aload_n 1 dX6_confirm_20 rfl rfl ?_
    refine g_iconst dX6_confirm_21 ?_
    refine g_put (C := RX3) (T := TX3) (N := 14) (ws1 := [(x0, oo 6 [.ref v, .ref h0, .ref a3, .ref a4, .ref a5, .int (iI lo)]), (v, oo 1 [.ref ma, .int (iI M), .ref fo, .ref la, .int (iI ti), .int (iI so), .int (iI ta), .int (iI go), .int (iI sl)]), (ma, aM E 6 mq), (ad 0, oo 3 (fMa 0 .null (sd 0) (up (g 0) 7 0))), (ad 1, oo 3 (fMa 1 (.ref (ad 0)) (sd 1) (g 1))), (ad 2, oo 3 (fMa 2 (.ref (ad 1)) (sd 2) (g 2))), (ad 3, oo 3 (fMa 3 (.ref (ad 2)) (sd 3) (g 3))), (ad 4, oo 3 (fMa 4 (.ref (ad 3)) (sd 4) (g 4))), (ad 5, oo 3 (fMa 5 (.ref (ad 4)) (sd 5) (g 5)))]) 3 10 (fun _ h => List.mem_cons_of_mem _ (List.mem_append_left _ (List.mem_append_right _ h))) tyX3 tyX3_ok nmX3 (List.mem_of_getElem? (i := 2) rfl) rfl rfl (by decide) rfl (tyX3_ok 10 (by decide)) rfl rfl (by first | decide | exact Nat.le_of_ble_eq_true rfl) dX6_confirm_22 rfl rfl ?_
    refine g_iload_n 0 dX6_confirm_25 rfl rfl ?_
    exact g_iret hRet dX6_confirm_26 rfl ⟨((g 0) 7), (ug g 0 (up (g 0) 7 0)), (by unfold sp_confirm; rw [if_pos (by omega), hik.1]; exact ⟨rfl, rfl⟩), rfl, rfl⟩
  · refine g_as (st1 := [.ref (ad 1)]) ?_ rfl rfl (by rw [if_pos (by omega), hik.1]; rfl)
    refine g_astore_n (lv1 := [(2, .ref (ad 1)), (0, .ref x0), (1, .int (iI i))]) dX6_confirm_8 rfl (by decide) rfl ?_
    refine g_aload_n 0 dX6_confirm_9 rfl rfl ?_
    refine g_ifnonnull (tgt := 15) dX6_confirm_10 rfl ?_
    refine g_aload_n 0 dX6_confirm_15 rfl rfl ?_
    refine g_get (v := .int (iI ((g 1) 7))) (C := RX3) (T := TX3) (N := 14) 4 10 (fun _ h => List.mem_cons_of_mem _ (List.mem_append_left _ (List.mem_append_right _ h))) (List.mem_of_getElem? (i := 2) rfl) rfl rfl (by decide) rfl rfl dX6_confirm_16 ?_
    refine g_istore_n (lv1 := [(3, .int (iI ((g 1) 7))), (2, .ref (ad 1)), (0, .ref x0), (1, .int (iI i))]) dX6_confirm_19 rfl (by decide) rfl ?_
    refine g_aload_n 1 dX6_confirm_20 rfl rfl ?_
    refine g_iconst dX6_confirm_21 ?_
    refine g_put (C := RX3) (T := TX3) (N := 14) (ws1 := [(x0, oo 6 [.ref v, .ref h0, .ref a3, .ref a4, .ref a5, .int (iI lo)]), (v, oo 1 [.ref ma, .int (iI M), .ref fo, .ref la, .int (iI ti), .int (iI so), .int (iI ta), .int (iI go), .int (iI sl)]), (ma, aM E 6 mq), (ad 0, oo 3 (fMa 0 .null (sd 0) (g 0))), (ad 1, oo 3 (fMa 1 (.ref (ad 0)) (sd 1) (up (g 1) 7 0))), (ad 2, oo 3 (fMa 2 (.ref (ad 1)) (sd 2) (g 2))), (ad 3, oo 3 (fMa 3 (.ref (ad 2)) (sd 3) (g 3))), (ad 4, oo 3 (fMa 4 (.ref (ad 3)) (sd 4) (g 4))), (ad 5, oo 3 (fMa 5 (.ref (ad 4)) (sd 5) (g 5)))]) 4 10 (fun _ h => List.mem_cons_of_mem _ (List.mem_append_left _ (List.mem_append_right _ h))) tyX3 tyX3_ok nmX3 (List.mem_of_getElem? (i := 2) rfl) rfl rfl (by decide) rfl (tyX3_ok 10 (by decide)) rfl rfl (by first | decide | exact Nat.le_of_ble_eq_true rfl) dX6_confirm_22 rfl rfl ?_
    refine g_iload_n 0 dX6_confirm_25 rfl rfl ?_
    exact g_iret hRet dX6_confirm_26 rfl ⟨((g 1) 7), (ug g 1 (up (g 1) 7 0)), (by unfold sp_confirm; rw [if_pos (by omega), hik.1]; exact ⟨rfl, rfl⟩), rfl, rfl⟩
  · refine g_as (st1 := [.ref (ad 2)]) ?_ rfl rfl (by rw [if_pos (by omega), hik.1]; rfl)
    refine g_astore_n (lv1 := [(2, .ref (ad 2)), (0, .ref x0), (1, .int (iI i))]) dX6_confirm_8 rfl (by decide) rfl ?_
    refine g_aload_n 0 dX6_confirm_9 rfl rfl ?_
    refine g_ifnonnull (tgt := 15) dX6_confirm_10 rfl ?_
    refine g_aload_n 0 dX6_confirm_15 rfl rfl ?_
    refine g_get (v := .int (iI ((g 2) 7))) (C := RX3) (T := TX3) (N := 14) 5 10 (fun _ h => List.mem_cons_of_mem _ (List.mem_append_left _ (List.mem_append_right _ h))) (List.mem_of_getElem? (i := 2) rfl) rfl rfl (by decide) rfl rfl dX6_confirm_16 ?_
    refine g_istore_n (lv1 := [(3, .int (iI ((g 2) 7))), (2, .ref (ad 2)), (0, .ref x0), (1, .int (iI i))]) dX6_confirm_19 rfl (by decide) rfl ?_
    refine g_aload_n 1 dX6_confirm_20 rfl rfl ?_
    refine g_iconst dX6_confirm_21 ?_
    refine g_put (C := RX3) (T := TX3) (N := 14) (ws1 := [(x0, oo 6 [.ref v, .ref h0, .ref a3, .ref a4, .ref a5, .int (iI lo)]), (v, oo 1 [.ref ma, .int (iI M), .ref fo, .ref la, .int (iI ti), .int (iI so), .int (iI ta), .int (iI go), .int (iI sl)]), (ma, aM E 6 mq), (ad 0, oo 3 (fMa 0 .null (sd 0) (g 0))), (ad 1, oo 3 (fMa 1 (.ref (ad 0)) (sd 1) (g 1))), (ad 2, oo 3 (fMa 2 (.ref (ad 1)) (sd 2) (up (g 2) 7 0))), (ad 3, oo 3 (fMa 3 (.ref (ad 2)) (sd 3) (g 3))), (ad 4, oo 3 (fMa 4 (.ref (ad 3)) (sd 4) (g 4))), (ad 5, oo 3 (fMa 5 (.ref (ad 4)) (sd 5) (g 5)))]) 5 10 (fun _ h => List.mem_cons_of_mem _ (List.mem_append_left _ (List.mem_append_right _ h))) tyX3 tyX3_ok nmX3 (List.mem_of_getElem? (i := 2) rfl) rfl rfl (by decide) rfl (tyX3_ok 10 (by decide)) rfl rfl (by first | decide | exact Nat.le_of_ble_eq_true rfl) dX6_confirm_22 rfl rfl ?_
    refine g_iload_n 0 dX6_confirm_25 rfl rfl ?_
    exact g_iret hRet dX6_confirm_26 rfl ⟨((g 2) 7), (ug g 2 (up (g 2) 7 0)), (by unfold sp_confirm; rw [if_pos (by omega), hik.1]; exact ⟨rfl, rfl⟩), rfl, rfl⟩
  · refine g_as (st1 := [.ref (ad 3)]) ?_ rfl rfl (by rw [if_pos (by omega), hik.1]; rfl)
    refine g_astore_n (lv1 := [(2, .ref (ad 3)), (0, .ref x0), (1, .int (iI i))]) dX6_confirm_8 rfl (by decide) rfl ?_
    refine g_aload_n 0 dX6_confirm_9 rfl rfl ?_
    refine g_ifnonnull (tgt := 15) dX6_confirm_10 rfl ?_
    refine g_aload_n 0 dX6_confirm_15 rfl rfl ?_
    refine g_get (v := .int (iI ((g 3) 7))) (C := RX3) (T := TX3) (N := 14) 6 10 (fun _ h => List.mem_cons_of_mem _ (List.mem_append_left _ (List.mem_append_right _ h))) (List.mem_of_getElem? (i := 2) rfl) rfl rfl (by decide) rfl rfl dX6_confirm_16 ?_
    refine g_istore_n (lv1 := [(3, .int (iI ((g 3) 7))), (2, .ref (ad 3)), (0, .ref x0), (1, .int (iI i))]) dX6_confirm_19 rfl (by decide) rfl ?_
    refine g_aload_n 1 dX6_confirm_20 rfl rfl ?_
    refine g_iconst dX6_confirm_21 ?_
    refine g_put (C := RX3) (T := TX3) (N := 14) (ws1 := [(x0, oo 6 [.ref v, .ref h0, .ref a3, .ref a4, .ref a5, .int (iI lo)]), (v, oo 1 [.ref ma, .int (iI M), .ref fo, .ref la, .int (iI ti), .int (iI so), .int (iI ta), .int (iI go), .int (iI sl)]), (ma, aM E 6 mq), (ad 0, oo 3 (fMa 0 .null (sd 0) (g 0))), (ad 1, oo 3 (fMa 1 (.ref (ad 0)) (sd 1) (g 1))), (ad 2, oo 3 (fMa 2 (.ref (ad 1)) (sd 2) (g 2))), (ad 3, oo 3 (fMa 3 (.ref (ad 2)) (sd 3) (up (g 3) 7 0))), (ad 4, oo 3 (fMa 4 (.ref (ad 3)) (sd 4) (g 4))), (ad 5, oo 3 (fMa 5 (.ref (ad 4)) (sd 5) (g 5)))]) 6 10 (fun _ h => List.mem_cons_of_mem _ (List.mem_append_left _ (List.mem_append_right _ h))) tyX3 tyX3_ok nmX3 (List.mem_of_getElem? (i := 2) rfl) rfl rfl (by decide) rfl (tyX3_ok 10 (by decide)) rfl rfl (by first | decide | exact Nat.le_of_ble_eq_true rfl) dX6_confirm_22 rfl rfl ?_
    refine g_iload_n 0 dX6_confirm_25 rfl rfl ?_
    exact g_iret hRet dX6_confirm_26 rfl ⟨((g 3) 7), (ug g 3 (up (g 3) 7 0)), (by unfold sp_confirm; rw [if_pos (by omega), hik.1]; exact ⟨rfl, rfl⟩), rfl, rfl⟩
  · refine g_as (st1 := [.ref (ad 4)]) ?_ rfl rfl (by rw [if_pos (by omega), hik.1]; rfl)
    refine g_astore_n (lv1 := [(2, .ref (ad 4)), (0, .ref x0), (1, .int (iI i))]) dX6_confirm_8 rfl (by decide) rfl ?_
    refine g_aload_n 0 dX6_confirm_9 rfl rfl ?_
    refine g_ifnonnull (tgt := 15) dX6_confirm_10 rfl ?_
    refine g_aload_n 0 dX6_confirm_15 rfl rfl ?_
    refine g_get (v := .int (iI ((g 4) 7))) (C := RX3) (T := TX3) (N := 14) 7 10 (fun _ h => List.mem_cons_of_mem _ (List.mem_append_left _ (List.mem_append_right _ h))) (List.mem_of_getElem? (i := 2) rfl) rfl rfl (by decide) rfl rfl dX6_confirm_16 ?_
    refine g_istore_n (lv1 := [(3, .int (iI ((g 4) 7))), (2, .ref (ad 4)), (0, .ref x0), (1, .int (iI i))]) dX6_confirm_19 rfl (by decide) rfl ?_
    refine g_aload_n 1 dX6_confirm_20 rfl rfl ?_
    refine g_iconst dX6_confirm_21 ?_
    refine g_put (C := RX3) (T := TX3) (N := 14) (ws1 := [(x0, oo 6 [.ref v, .ref h0, .ref a3, .ref a4, .ref a5, .int (iI lo)]), (v, oo 1 [.ref ma, .int (iI M), .ref fo, .ref la, .int (iI ti), .int (iI so), .int (iI ta), .int (iI go), .int (iI sl)]), (ma, aM E 6 mq), (ad 0, oo 3 (fMa 0 .null (sd 0) (g 0))), (ad 1, oo 3 (fMa 1 (.ref (ad 0)) (sd 1) (g 1))), (ad 2, oo 3 (fMa 2 (.ref (ad 1)) (sd 2) (g 2))), (ad 3, oo 3 (fMa 3 (.ref (ad 2)) (sd 3) (g 3))), (ad 4, oo 3 (fMa 4 (.ref (ad 3)) (sd 4) (up (g 4) 7 0))), (ad 5, oo 3 (fMa 5 (.ref (ad 4)) (sd 5) (g 5)))]) 7 10 (fun _ h => List.mem_cons_of_mem _ (List.mem_append_left _ (List.mem_append_right _ h))) tyX3 tyX3_ok nmX3 (List.mem_of_getElem? (i := 2) rfl) rfl rfl (by decide) rfl (tyX3_ok 10 (by decide)) rfl rfl (by first | decide | exact Nat.le_of_ble_eq_true rfl) dX6_confirm_22 rfl rfl ?_
    refine g_iload_n 0 dX6_confirm_25 rfl rfl ?_
    exact g_iret hRet dX6_confirm_26 rfl ⟨((g 4) 7), (ug g 4 (up (g 4) 7 0)), (by unfold sp_confirm; rw [if_pos (by omega), hik.1]; exact ⟨rfl, rfl⟩), rfl, rfl⟩
  · refine g_as (st1 := [.ref (ad 5)]) ?_ rfl rfl (by rw [if_pos (by omega), hik.1]; rfl)
    refine g_astore_n (lv1 := [(2, .ref (ad 5)), (0, .ref x0), (1, .int (iI i))]) dX6_confirm_8 rfl (by decide) rfl ?_
    refine g_aload_n 0 dX6_confirm_9 rfl rfl ?_
    refine g_ifnonnull (tgt := 15) dX6_confirm_10 rfl ?_
    refine g_aload_n 0 dX6_confirm_15 rfl rfl ?_
    refine g_get (v := .int (iI ((g 5) 7))) (C := RX3) (T := TX3) (N := 14) 8 10 (fun _ h => List.mem_cons_of_mem _ (List.mem_append_left _ (List.mem_append_right _ h))) (List.mem_of_getElem? (i := 2) rfl) rfl rfl (by decide) rfl rfl dX6_confirm_16 ?_
    refine g_istore_n (lv1 := [(3, .int (iI ((g 5) 7))), (2, .ref (ad 5)), (0, .ref x0), (1, .int (iI i))]) dX6_confirm_19 rfl (by decide) rfl ?_
    refine g_aload_n 1 dX6_confirm_20 rfl rfl ?_
    refine g_iconst dX6_confirm_21 ?_
    refine g_put (C := RX3) (T := TX3) (N := 14) (ws1 := [(x0, oo 6 [.ref v, .ref h0, .ref a3, .ref a4, .ref a5, .int (iI lo)]), (v, oo 1 [.ref ma, .int (iI M), .ref fo, .ref la, .int (iI ti), .int (iI so), .int (iI ta), .int (iI go), .int (iI sl)]), (ma, aM E 6 mq), (ad 0, oo 3 (fMa 0 .null (sd 0) (g 0))), (ad 1, oo 3 (fMa 1 (.ref (ad 0)) (sd 1) (g 1))), (ad 2, oo 3 (fMa 2 (.ref (ad 1)) (sd 2) (g 2))), (ad 3, oo 3 (fMa 3 (.ref (ad 2)) (sd 3) (g 3))), (ad 4, oo 3 (fMa 4 (.ref (ad 3)) (sd 4) (g 4))), (ad 5, oo 3 (fMa 5 (.ref (ad 4)) (sd 5) (up (g 5) 7 0)))]) 8 10 (fun _ h => List.mem_cons_of_mem _ (List.mem_append_left _ (List.mem_append_right _ h))) tyX3 tyX3_ok nmX3 (List.mem_of_getElem? (i := 2) rfl) rfl rfl (by decide) rfl (tyX3_ok 10 (by decide)) rfl rfl (by first | decide | exact Nat.le_of_ble_eq_true rfl) dX6_confirm_22 rfl rfl ?_
    refine g_iload_n 0 dX6_confirm_25 rfl rfl ?_
    exact g_iret hRet dX6_confirm_26 rfl ⟨((g 5) 7), (ug g 5 (up (g 5) 7 0)), (by unfold sp_confirm; rw [if_pos (by omega), hik.1]; exact ⟨rfl, rfl⟩), rfl, rfl⟩
  · refine g_as (st1 := [.null]) ?_ rfl rfl (by rw [if_neg hik]; rfl)
    refine g_astore_nN (lv1 := [(2, .null), (0, .ref x0), (1, .int (iI i))]) dX6_confirm_8 rfl (by decide) rfl ?_
    refine g_aload_nN 0 dX6_confirm_9 rfl rfl ?_
    refine g_ifnonnullN dX6_confirm_10 ?_
    refine g_iconst dX6_confirm_13 ?_
    exact g_iret hRet dX6_confirm_14 rfl ⟨(-1), g, (by unfold sp_confirm; rw [if_neg (by omega)]; exact ⟨rfl, rfl⟩), rfl, rfl⟩

set_option maxHeartbeats 4000000 in
set_option maxRecDepth 100000 in
theorem c_X6_about (E : Ev) (x0 : Nat) (h0 : Nat) (a3 : Nat) (a4 : Nat) (a5 : Nat) (lo : Int) (v : Nat) (ma : Nat) (fo : Nat) (la : Nat) (M : Int) (ti : Int) (so : Int) (ta : Int) (go : Int) (sl : Int) (mq : Int → Option Nat) (ad : Int → Nat) (sd : Int → Nat) (g : Int → Int → Int) (i : Int) (what : Int) (hM : 2 ≤ M ∧ M ≤ 6) (hti : 0 ≤ ti ∧ ti ≤ 10000) (hso : 0 ≤ so ∧ so ≤ 100000) (hgo : 0 ≤ go ∧ go ≤ 20000) (hmq : ∀ k, 0 ≤ k → k < 6 → mq k = some (ad k)) (hgk : ∀ j, 0 ≤ j → j < 6 → mOk (g j)) (h_i : -2147483648 ≤ i ∧ i ≤ 2147483647) (h_what : -2147483648 ≤ what ∧ what ≤ 2147483647) : MI yX6_about wsX6_about ({ frames := 1, cells := 0, slots := 0, locals := 21 } : Room) E [] 0 0 [.ref x0, .int (iI i), .int (iI what)] [(x0, oo 6 [.ref v, .ref h0, .ref a3, .ref a4, .ref a5, .int (iI lo)]), (v, oo 1 [.ref ma, .int (iI M), .ref fo, .ref la, .int (iI ti), .int (iI so), .int (iI ta), .int (iI go), .int (iI sl)]), (ma, aM E 6 mq), (ad 0, oo 3 (fMa 0 .null (sd 0) (g 0))), (ad 1, oo 3 (fMa 1 (.ref (ad 0)) (sd 1) (g 1))), (ad 2, oo 3 (fMa 2 (.ref (ad 1)) (sd 2) (g 2))), (ad 3, oo 3 (fMa 3 (.ref (ad 2)) (sd 3) (g 3))), (ad 4, oo 3 (fMa 4 (.ref (ad 3)) (sd 4) (g 4))), (ad 5, oo 3 (fMa 5 (.ref (ad 4)) (sd 5) (g 5)))] (fun r u => r = iI (f_about M g i what) ∧ u = [(x0, oo 6 [.ref v, .ref h0, .ref a3, .ref a4, .ref a5, .int (iI lo)]), (v, oo 1 [.ref ma, .int (iI M), .ref fo, .ref la, .int (iI ti), .int (iI so), .int (iI ta), .int (iI go), .int (iI sl)]), (ma, aM E 6 mq), (ad 0, oo 3 (fMa 0 .null (sd 0) (g 0))), (ad 1, oo 3 (fMa 1 (.ref (ad 0)) (sd 1) (g 1))), (ad 2, oo 3 (fMa 2 (.ref (ad 1)) (sd 2) (g 2))), (ad 3, oo 3 (fMa 3 (.ref (ad 2)) (sd 3) (g 3))), (ad 4, oo 3 (fMa 4 (.ref (ad 3)) (sd 4) (g 4))), (ad 5, oo 3 (fMa 5 (.ref (ad 4)) (sd 5) (g 5)))]) := by
  refine MI.of (cc := cX6_about) (maxL := 4) (own := RX6) (by decide) rfl rfl rfl (Nat.le_of_ble_eq_true rfl) [(0, .ref x0), (1, .int (iI i)), (2, .int (iI what))] rfl ?_
  intro X hin2 hRet
  refine g_aload_n 0 dX6_about_0 rfl rfl ?_
  refine g_get (C := RX6) (T := TX6) (N := 6) 0 0 (fun _ h => List.mem_cons_of_mem _ (List.mem_append_left _ (List.mem_append_left _ (List.mem_append_right _ h)))) (List.mem_of_getElem? (i := 1) rfl) rfl rfl (by decide) rfl rfl dX6_about_1 ?_
  refine g_iload_n 1 dX6_about_4 rfl rfl ?_
  refine g_callV_q (n := 1) (As := [.int (iI i)]) (wr := [(x0, oo 6 [.ref v, .ref h0, .ref a3, .ref a4, .ref a5, .int (iI lo)]), (ad 0, oo 3 (fMa 0 .null (sd 0) (g 0))), (ad 1, oo 3 (fMa 1 (.ref (ad 0)) (sd 1) (g 1))), (ad 2, oo 3 (fMa 2 (.ref (ad 1)) (sd 2) (g 2))), (ad 3, oo 3 (fMa 3 (.ref (ad 2)) (sd 3) (g 3))), (ad 4, oo 3 (fMa 4 (.ref (ad 3)) (sd 4) (g 4))), (ad 5, oo 3 (fMa 5 (.ref (ad 4)) (sd 5) (g 5)))]) (C := RX1) [] (c_X1_machineAt E v ma fo la M ti so ta go sl mq ad i (by omega) (by omega) (by omega) (by omega) (by exact hmq) (by omega)) [1, 2] [0, 3, 4, 5, 6, 7, 8] 0 rfl rfl gX6_about_X1_machineAt rfl ⟨rfl, by decide +kernel⟩ ⟨by decide, by decide⟩ rfl rfl rfl rfl rfl (by decide) rfl (by decide) (by decide) (fun _ h => absurd h List.not_mem_nil) dX6_about_5 rfl (Nat.le_of_ble_eq_true rfl) ⟨by decide, by decide⟩ (fun r u p_1 => ?_)
  obtain ⟨rfl, rfl⟩ := p_1
  refine g_perm (ws1 := [(x0, oo 6 [.ref v, .ref h0, .ref a3, .ref a4, .ref a5, .int (iI lo)]), (v, oo 1 [.ref ma, .int (iI M), .ref fo, .ref la, .int (iI ti), .int (iI so), .int (iI ta), .int (iI go), .int (iI sl)]), (ma, aM E 6 mq), (ad 0, oo 3 (fMa 0 .null (sd 0) (g 0))), (ad 1, oo 3 (fMa 1 (.ref (ad 0)) (sd 1) (g 1))), (ad 2, oo 3 (fMa 2 (.ref (ad 1)) (sd 2) (g 2))), (ad 3, oo 3 (fMa 3 (.ref (ad 2)) (sd 3) (g 3))), (ad 4, oo 3 (fMa 4 (.ref (ad 3)) (sd 4) (g 4))), (ad 5, oo 3 (fMa 5 (.ref (ad 4)) (sd 5) (g 5)))]) [0, 7, 8, 1, 2, 3, 4, 5, 6] rfl (by decide) rfl ?_
  rcases (show (i = 0 ∧ i < M) ∨ (i = 1 ∧ i < M) ∨ (i = 2 ∧ i < M) ∨ (i = 3 ∧ i < M) ∨ (i = 4 ∧ i < M) ∨ (i = 5 ∧ i < M) ∨ ¬ (0 ≤ i ∧ i < M) by omega) with hik | hik | hik | hik | hik | hik | hik
  · refine g_as (st1 := [.ref (ad 0)]) ?_ rfl rfl (by rw [if_pos (by omega), hik.1]; rfl)
    refine g_astore_n (lv1 := [(3, .ref (ad 0)), (0, .ref x0), (1, .int (iI i)), (2, .int (iI what))]) dX6_about_8 rfl (by decide) rfl ?_
    refine g_aload_n 0 dX6_about_9 rfl rfl ?_
    refine g_ifnonnull (tgt := 15) dX6_about_10 rfl ?_
    refine g_iload_n 3 dX6_about_15 rfl rfl ?_
    rcases (show what = 0 ∨ what = 1 ∨ what = 2 ∨ what = 3 ∨ what = 4 ∨ what = 5 ∨ what = 6 ∨ what = 7 ∨ (what < 0 ∨ 7 < what) by omega) with c_2 | c_2 | c_2 | c_2 | c_2 | c_2 | c_2 | c_2 | c_2
    · refine g_tableIn (tgt := 64) (off := 48) (by unfold R32; omega) dX6_about_16 (by omega) (by rw [c_2]; rfl) rfl ?_
      refine g_aload_n 0 dX6_about_64 rfl rfl ?_
      refine g_get (v := .int (iI ((g 0) 9))) (C := RX3) (T := TX3) (N := 14) 3 12 (fun _ h => List.mem_cons_of_mem _ (List.mem_append_left _ (List.mem_append_right _ h))) (List.mem_of_getElem? (i := 2) rfl) rfl rfl (by decide) rfl rfl dX6_about_65 ?_
      exact g_iret hRet dX6_about_68 rfl ⟨(congrArg iI (by unfold f_about; first | (rw [if_pos (by omega)]; done) | (rw [hik.1]; (repeat' split) <;> first | rfl | (exfalso; omega)))), rfl⟩
    · refine g_tableIn (tgt := 69) (off := 53) (by unfold R32; omega) dX6_about_16 (by omega) (by rw [c_2]; rfl) rfl ?_
      refine g_aload_n 0 dX6_about_69 rfl rfl ?_
      refine g_get (v := .int (iI ((g 0) 4))) (C := RX3) (T := TX3) (N := 14) 3 7 (fun _ h => List.mem_cons_of_mem _ (List.mem_append_left _ (List.mem_append_right _ h))) (List.mem_of_getElem? (i := 3) rfl) rfl rfl (by decide) rfl rfl dX6_about_70 ?_
      exact g_iret hRet dX6_about_73 rfl ⟨(congrArg iI (by unfold f_about; first | (rw [if_pos (by omega)]; done) | (rw [hik.1]; (repeat' split) <;> first | rfl | (exfalso; omega)))), rfl⟩
    · refine g_tableIn (tgt := 74) (off := 58) (by unfold R32; omega) dX6_about_16 (by omega) (by rw [c_2]; rfl) rfl ?_
      refine g_aload_n 0 dX6_about_74 rfl rfl ?_
      refine g_get (v := .int (iI ((g 0) 5))) (C := RX3) (T := TX3) (N := 14) 3 8 (fun _ h => List.mem_cons_of_mem _ (List.mem_append_left _ (List.mem_append_right _ h))) (List.mem_of_getElem? (i := 4) rfl) rfl rfl (by decide) rfl rfl dX6_about_75 ?_
      exact g_iret hRet dX6_about_78 rfl ⟨(congrArg iI (by unfold f_about; first | (rw [if_pos (by omega)]; done) | (rw [hik.1]; (repeat' split) <;> first | rfl | (exfalso; omega)))), rfl⟩
    · refine g_tableIn (tgt := 79) (off := 63) (by unfold R32; omega) dX6_about_16 (by omega) (by rw [c_2]; rfl) rfl ?_
      refine g_aload_n 0 dX6_about_79 rfl rfl ?_
      refine g_get (v := .int (iI ((g 0) 6))) (C := RX3) (T := TX3) (N := 14) 3 9 (fun _ h => List.mem_cons_of_mem _ (List.mem_append_left _ (List.mem_append_right _ h))) (List.mem_of_getElem? (i := 5) rfl) rfl rfl (by decide) rfl rfl dX6_about_80 ?_
      exact g_iret hRet dX6_about_83 rfl ⟨(congrArg iI (by unfold f_about; first | (rw [if_pos (by omega)]; done) | (rw [hik.1]; (repeat' split) <;> first | rfl | (exfalso; omega)))), rfl⟩
    · refine g_tableIn (tgt := 84) (off := 68) (by unfold R32; omega) dX6_about_16 (by omega) (by rw [c_2]; rfl) rfl ?_
      refine g_aload_n 0 dX6_about_84 rfl rfl ?_
      refine g_callV_i (n := 0) (As := []) (wr := [(x0, oo 6 [.ref v, .ref h0, .ref a3, .ref a4, .ref a5, .int (iI lo)]), (v, oo 1 [.ref ma, .int (iI M), .ref fo, .ref la, .int (iI ti), .int (iI so), .int (iI ta), .int (iI go), .int (iI sl)]), (ma, aM E 6 mq), (ad 1, oo 3 (fMa 1 (.ref (ad 0)) (sd 1) (g 1))), (ad 2, oo 3 (fMa 2 (.ref (ad 1)) (sd 2) (g 2))), (ad 3, oo 3 (fMa 3 (.ref (ad 2)) (sd 3) (g 3))), (ad 4, oo 3 (fMa 4 (.ref (ad 3)) (sd 4) (g 4))), (ad 5, oo 3 (fMa 5 (.ref (ad 4)) (sd 5) (g 5)))]) (C := RX3) [] (c_X3_unitsInside E (ad 0) (sd 0) 0 .null (g 0) (by exact hgk 0 (by omega) (by omega))) [3] [0, 1, 2, 4, 5, 6, 7, 8] 0 rfl rfl gX6_about_X3_unitsInside rfl ⟨rfl, by decide +kernel⟩ ⟨by decide, by decide⟩ rfl rfl rfl rfl rfl (by decide) rfl (by decide) (by decide) (fun _ h => absurd h List.not_mem_nil) dX6_about_85 rfl (Nat.le_of_ble_eq_true rfl) ⟨by decide, by decide⟩ (fun r u p_3 => ?_)
      obtain ⟨rfl, rfl⟩ := p_3
      refine g_perm (ws1 := [(x0, oo 6 [.ref v, .ref h0, .ref a3, .ref a4, .ref a5, .int (iI lo)]), (v, oo 1 [.ref ma, .int (iI M), .ref fo, .ref la, .int (iI ti), .int (iI so), .int (iI ta), .int (iI go), .int (iI sl)]), (ma, aM E 6 mq), (ad 0, oo 3 (fMa 0 .null (sd 0) (g 0))), (ad 1, oo 3 (fMa 1 (.ref (ad 0)) (sd 1) (g 1))), (ad 2, oo 3 (fMa 2 (.ref (ad 1)) (sd 2) (g 2))), (ad 3, oo 3 (fMa 3 (.ref (ad 2)) (sd 3) (g 3))), (ad 4, oo 3 (fMa 4 (.ref (ad 3)) (sd 4) (g 4))), (ad 5, oo 3 (fMa 5 (.ref (ad 4)) (sd 5) (g 5)))]) [0, 1, 2, 8, 3, 4, 5, 6, 7] rfl (by decide) rfl ?_
      exact g_iret hRet dX6_about_88 rfl ⟨(congrArg iI (by unfold f_about; first | (rw [if_pos (by omega)]; done) | (rw [hik.1]; (repeat' split) <;> first | rfl | (exfalso; omega)))), rfl⟩
    · refine g_tableIn (tgt := 89) (off := 73) (by unfold R32; omega) dX6_about_16 (by omega) (by rw [c_2]; rfl) rfl ?_
      refine g_aload_n 0 dX6_about_89 rfl rfl ?_
      refine g_get (v := .int (iI ((g 0) 0))) (C := RX3) (T := TX3) (N := 14) 3 3 (fun _ h => List.mem_cons_of_mem _ (List.mem_append_left _ (List.mem_append_right _ h))) (List.mem_of_getElem? (i := 6) rfl) rfl rfl (by decide) rfl rfl dX6_about_90 ?_
      exact g_iret hRet dX6_about_93 rfl ⟨(congrArg iI (by unfold f_about; first | (rw [if_pos (by omega)]; done) | (rw [hik.1]; (repeat' split) <;> first | rfl | (exfalso; omega)))), rfl⟩
    · refine g_tableIn (tgt := 94) (off := 78) (by unfold R32; omega) dX6_about_16 (by omega) (by rw [c_2]; rfl) rfl ?_
      refine g_aload_n 0 dX6_about_94 rfl rfl ?_
      refine g_get (v := .int (iI ((g 0) 7))) (C := RX3) (T := TX3) (N := 14) 3 10 (fun _ h => List.mem_cons_of_mem _ (List.mem_append_left _ (List.mem_append_right _ h))) (List.mem_of_getElem? (i := 7) rfl) rfl rfl (by decide) rfl rfl dX6_about_95 ?_
      exact g_iret hRet dX6_about_98 rfl ⟨(congrArg iI (by unfold f_about; first | (rw [if_pos (by omega)]; done) | (rw [hik.1]; (repeat' split) <;> first | rfl | (exfalso; omega)))), rfl⟩
    · refine g_tableIn (tgt := 99) (off := 83) (by unfold R32; omega) dX6_about_16 (by omega) (by rw [c_2]; rfl) rfl ?_
      refine g_aload_n 0 dX6_about_99 rfl rfl ?_
      refine g_get (v := .int (iI ((g 0) 10))) (C := RX3) (T := TX3) (N := 14) 3 13 (fun _ h => List.mem_cons_of_mem _ (List.mem_append_left _ (List.mem_append_right _ h))) (List.mem_of_getElem? (i := 8) rfl) rfl rfl (by decide) rfl rfl dX6_about_100 ?_
      exact g_iret hRet dX6_about_103 rfl ⟨(congrArg iI (by unfold f_about; first | (rw [if_pos (by omega)]; done) | (rw [hik.1]; (repeat' split) <;> first | rfl | (exfalso; omega)))), rfl⟩
    · refine g_tableOut (tgt := 104) (by unfold R32; omega) dX6_about_16 c_2 rfl ?_
      refine g_iconst dX6_about_104 ?_
      exact g_iret hRet dX6_about_105 rfl ⟨(congrArg iI (by unfold f_about; first | (rw [if_pos (by omega)]; done) | (rw [hik.1]; (repeat' split) <;> first | rfl | (exfalso; omega)))), rfl⟩
  · refine g_as (st1 := [.ref (ad 1)]) ?_ rfl rfl (by rw [if_pos (by omega), hik.1]; rfl)
    refine g_astore_n (lv1 := [(3, .ref (ad 1)), (0, .ref x0), (1, .int (iI i)), (2, .int (iI what))]) dX6_about_8 rfl (by decide) rfl ?_
    refine g_aload_n 0 dX6_about_9 rfl rfl ?_
    refine g_ifnonnull (tgt := 15) dX6_about_10 rfl ?_
    refine g_iload_n 3 dX6_about_15 rfl rfl ?_
    rcases (show what = 0 ∨ what = 1 ∨ what = 2 ∨ what = 3 ∨ what = 4 ∨ what = 5 ∨ what = 6 ∨ what = 7 ∨ (what < 0 ∨ 7 < what) by omega) with c_4 | c_4 | c_4 | c_4 | c_4 | c_4 | c_4 | c_4 | c_4
    · refine g_tableIn (tgt := 64) (off := 48) (by unfold R32; omega) dX6_about_16 (by omega) (by rw [c_4]; rfl) rfl ?_
      refine g_aload_n 0 dX6_about_64 rfl rfl ?_
      refine g_get (v := .int (iI ((g 1) 9))) (C := RX3) (T := TX3) (N := 14) 4 12 (fun _ h => List.mem_cons_of_mem _ (List.mem_append_left _ (List.mem_append_right _ h))) (List.mem_of_getElem? (i := 2) rfl) rfl rfl (by decide) rfl rfl dX6_about_65 ?_
      exact g_iret hRet dX6_about_68 rfl ⟨(congrArg iI (by unfold f_about; first | (rw [if_pos (by omega)]; done) | (rw [hik.1]; (repeat' split) <;> first | rfl | (exfalso; omega)))), rfl⟩
    · refine g_tableIn (tgt := 69) (off := 53) (by unfold R32; omega) dX6_about_16 (by omega) (by rw [c_4]; rfl) rfl ?_
      refine g_aload_n 0 dX6_about_69 rfl rfl ?_
      refine g_get (v := .int (iI ((g 1) 4))) (C := RX3) (T := TX3) (N := 14) 4 7 (fun _ h => List.mem_cons_of_mem _ (List.mem_append_left _ (List.mem_append_right _ h))) (List.mem_of_getElem? (i := 3) rfl) rfl rfl (by decide) rfl rfl dX6_about_70 ?_
      exact g_iret hRet dX6_about_73 rfl ⟨(congrArg iI (by unfold f_about; first | (rw [if_pos (by omega)]; done) | (rw [hik.1]; (repeat' split) <;> first | rfl | (exfalso; omega)))), rfl⟩
    · refine g_tableIn (tgt := 74) (off := 58) (by unfold R32; omega) dX6_about_16 (by omega) (by rw [c_4]; rfl) rfl ?_
      refine g_aload_n 0 dX6_about_74 rfl rfl ?_
      refine g_get (v := .int (iI ((g 1) 5))) (C := RX3) (T := TX3) (N := 14) 4 8 (fun _ h => List.mem_cons_of_mem _ (List.mem_append_left _ (List.mem_append_right _ h))) (List.mem_of_getElem? (i := 4) rfl) rfl rfl (by decide) rfl rfl dX6_about_75 ?_
      exact g_iret hRet dX6_about_78 rfl ⟨(congrArg iI (by unfold f_about; first | (rw [if_pos (by omega)]; done) | (rw [hik.1]; (repeat' split) <;> first | rfl | (exfalso; omega)))), rfl⟩
    · refine g_tableIn (tgt := 79) (off := 63) (by unfold R32; omega) dX6_about_16 (by omega) (by rw [c_4]; rfl) rfl ?_
      refine g_aload_n 0 dX6_about_79 rfl rfl ?_
      refine g_get (v := .int (iI ((g 1) 6))) (C := RX3) (T := TX3) (N := 14) 4 9 (fun _ h => List.mem_cons_of_mem _ (List.mem_append_left _ (List.mem_append_right _ h))) (List.mem_of_getElem? (i := 5) rfl) rfl rfl (by decide) rfl rfl dX6_about_80 ?_
      exact g_iret hRet dX6_about_83 rfl ⟨(congrArg iI (by unfold f_about; first | (rw [if_pos (by omega)]; done) | (rw [hik.1]; (repeat' split) <;> first | rfl | (exfalso; omega)))), rfl⟩
    · refine g_tableIn (tgt := 84) (off := 68) (by unfold R32; omega) dX6_about_16 (by omega) (by rw [c_4]; rfl) rfl ?_
      refine g_aload_n 0 dX6_about_84 rfl rfl ?_
      refine g_callV_i (n := 0) (As := []) (wr := [(x0, oo 6 [.ref v, .ref h0, .ref a3, .ref a4, .ref a5, .int (iI lo)]), (v, oo 1 [.ref ma, .int (iI M), .ref fo, .ref la, .int (iI ti), .int (iI so), .int (iI ta), .int (iI go), .int (iI sl)]), (ma, aM E 6 mq), (ad 0, oo 3 (fMa 0 .null (sd 0) (g 0))), (ad 2, oo 3 (fMa 2 (.ref (ad 1)) (sd 2) (g 2))), (ad 3, oo 3 (fMa 3 (.ref (ad 2)) (sd 3) (g 3))), (ad 4, oo 3 (fMa 4 (.ref (ad 3)) (sd 4) (g 4))), (ad 5, oo 3 (fMa 5 (.ref (ad 4)) (sd 5) (g 5)))]) (C := RX3) [] (c_X3_unitsInside E (ad 1) (sd 1) 1 (.ref (ad 0)) (g 1) (by exact hgk 1 (by omega) (by omega))) [4] [0, 1, 2, 3, 5, 6, 7, 8] 0 rfl rfl gX6_about_X3_unitsInside rfl ⟨rfl, by decide +kernel⟩ ⟨by decide, by decide⟩ rfl rfl rfl rfl rfl (by decide) rfl (by decide) (by decide) (fun _ h => absurd h List.not_mem_nil) dX6_about_85 rfl (Nat.le_of_ble_eq_true rfl) ⟨by decide, by decide⟩ (fun r u p_5 => ?_)
      obtain ⟨rfl, rfl⟩ := p_5
      refine g_perm (ws1 := [(x0, oo 6 [.ref v, .ref h0, .ref a3, .ref a4, .ref a5, .int (iI lo)]), (v, oo 1 [.ref ma, .int (iI M), .ref fo, .ref la, .int (iI ti), .int (iI so), .int (iI ta), .int (iI go), .int (iI sl)]), (ma, aM E 6 mq), (ad 0, oo 3 (fMa 0 .null (sd 0) (g 0))), (ad 1, oo 3 (fMa 1 (.ref (ad 0)) (sd 1) (g 1))), (ad 2, oo 3 (fMa 2 (.ref (ad 1)) (sd 2) (g 2))), (ad 3, oo 3 (fMa 3 (.ref (ad 2)) (sd 3) (g 3))), (ad 4, oo 3 (fMa 4 (.ref (ad 3)) (sd 4) (g 4))), (ad 5, oo 3 (fMa 5 (.ref (ad 4)) (sd 5) (g 5)))]) [0, 1, 2, 3, 8, 4, 5, 6, 7] rfl (by decide) rfl ?_
      exact g_iret hRet dX6_about_88 rfl ⟨(congrArg iI (by unfold f_about; first | (rw [if_pos (by omega)]; done) | (rw [hik.1]; (repeat' split) <;> first | rfl | (exfalso; omega)))), rfl⟩
    · refine g_tableIn (tgt := 89) (off := 73) (by unfold R32; omega) dX6_about_16 (by omega) (by rw [c_4]; rfl) rfl ?_
      refine g_aload_n 0 dX6_about_89 rfl rfl ?_
      refine g_get (v := .int (iI ((g 1) 0))) (C := RX3) (T := TX3) (N := 14) 4 3 (fun _ h => List.mem_cons_of_mem _ (List.mem_append_left _ (List.mem_append_right _ h))) (List.mem_of_getElem? (i := 6) rfl) rfl rfl (by decide) rfl rfl dX6_about_90 ?_
      exact g_iret hRet dX6_about_93 rfl ⟨(congrArg iI (by unfold f_about; first | (rw [if_pos (by omega)]; done) | (rw [hik.1]; (repeat' split) <;> first | rfl | (exfalso; omega)))), rfl⟩
    · refine g_tableIn (tgt := 94) (off := 78) (by unfold R32; omega) dX6_about_16 (by omega) (by rw [c_4]; rfl) rfl ?_
      refine g_aload_n 0 dX6_about_94 rfl rfl ?_
      refine g_get (v := .int (iI ((g 1) 7))) (C := RX3) (T := TX3) (N := 14) 4 10 (fun _ h => List.mem_cons_of_mem _ (List.mem_append_left _ (List.mem_append_right _ h))) (List.mem_of_getElem? (i := 7) rfl) rfl rfl (by decide) rfl rfl dX6_about_95 ?_
      exact g_iret hRet dX6_about_98 rfl ⟨(congrArg iI (by unfold f_about; first | (rw [if_pos (by omega)]; done) | (rw [hik.1]; (repeat' split) <;> first | rfl | (exfalso; omega)))), rfl⟩
    · refine g_tableIn (tgt := 99) (off := 83) (by unfold R32; omega) dX6_about_16 (by omega) (by rw [c_4]; rfl) rfl ?_
      refine g_aload_n 0 dX6_about_99 rfl rfl ?_
      refine g_get (v := .int (iI ((g 1) 10))) (C := RX3) (T := TX3) (N := 14) 4 13 (fun _ h => List.mem_cons_of_mem _ (List.mem_append_left _ (List.mem_append_right _ h))) (List.mem_of_getElem? (i := 8) rfl) rfl rfl (by decide) rfl rfl dX6_about_100 ?_
      exact g_iret hRet dX6_about_103 rfl ⟨(congrArg iI (by unfold f_about; first | (rw [if_pos (by omega)]; done) | (rw [hik.1]; (repeat' split) <;> first | rfl | (exfalso; omega)))), rfl⟩
    · refine g_tableOut (tgt := 104) (by unfold R32; omega) dX6_about_16 c_4 rfl ?_
      refine g_iconst dX6_about_104 ?_
      exact g_iret hRet dX6_about_105 rfl ⟨(congrArg iI (by unfold f_about; first | (rw [if_pos (by omega)]; done) | (rw [hik.1]; (repeat' split) <;> first | rfl | (exfalso; omega)))), rfl⟩
  · refine g_as (st1 := [.ref (ad 2)]) ?_ rfl rfl (by rw [if_pos (by omega), hik.1]; rfl)
    refine g_astore_n (lv1 := [(3, .ref (ad 2)), (0, .ref x0), (1, .int (iI i)), (2, .int (iI what))]) dX6_about_8 rfl (by decide) rfl ?_
    refine g_aload_n 0 dX6_about_9 rfl rfl ?_
    refine g_ifnonnull (tgt := 15) dX6_about_10 rfl ?_
    refine g_iload_n 3 dX6_about_15 rfl rfl ?_
    rcases (show what = 0 ∨ what = 1 ∨ what = 2 ∨ what = 3 ∨ what = 4 ∨ what = 5 ∨ what = 6 ∨ what = 7 ∨ (what < 0 ∨ 7 < what) by omega) with c_6 | c_6 | c_6 | c_6 | c_6 | c_6 | c_6 | c_6 | c_6
    · refine g_tableIn (tgt := 64) (off := 48) (by unfold R32; omega) dX6_about_16 (by omega) (by rw [c_6]; rfl) rfl ?_
      refine g_aload_n 0 dX6_about_64 rfl rfl ?_
      refine g_get (v := .int (iI ((g 2) 9))) (C := RX3) (T := TX3) (N := 14) 5 12 (fun _ h => List.mem_cons_of_mem _ (List.mem_append_left _ (List.mem_append_right _ h))) (List.mem_of_getElem? (i := 2) rfl) rfl rfl (by decide) rfl rfl dX6_about_65 ?_
      exact g_iret hRet dX6_about_68 rfl ⟨(congrArg iI (by unfold f_about; first | (rw [if_pos (by omega)]; done) | (rw [hik.1]; (repeat' split) <;> first | rfl | (exfalso; omega)))), rfl⟩
    · refine g_tableIn (tgt := 69) (off := 53) (by unfold R32; omega) dX6_about_16 (by omega) (by rw [c_6]; rfl) rfl ?_
      refine g_aload_n 0 dX6_about_69 rfl rfl ?_
      refine g_get (v := .int (iI ((g 2) 4))) (C := RX3) (T := TX3) (N := 14) 5 7 (fun _ h => List.mem_cons_of_mem _ (List.mem_append_left _ (List.mem_append_right _ h))) (List.mem_of_getElem? (i := 3) rfl) rfl rfl (by decide) rfl rfl dX6_about_70 ?_
      exact g_iret hRet dX6_about_73 rfl ⟨(congrArg iI (by unfold f_about; first | (rw [if_pos (by omega)]; done) | (rw [hik.1]; (repeat' split) <;> first | rfl | (exfalso; omega)))), rfl⟩
    · refine g_tableIn (tgt := 74) (off := 58) (by unfold R32; omega) dX6_about_16 (by omega) (by rw [c_6]; rfl) rfl ?_
      refine g_aload_n 0 dX6_about_74 rfl rfl ?_
      refine g_get (v := .int (iI ((g 2) 5))) (C := RX3) (T := TX3) (N := 14) 5 8 (fun _ h => List.mem_cons_of_mem _ (List.mem_append_left _ (List.mem_append_right _ h))) (List.mem_of_getElem? (i := 4) rfl) rfl rfl (by decide) rfl rfl dX6_about_75 ?_
      exact g_iret hRet dX6_about_78 rfl ⟨(congrArg iI (by unfold f_about; first | (rw [if_pos (by omega)]; done) | (rw [hik.1]; (repeat' split) <;> first | rfl | (exfalso; omega)))), rfl⟩
    · refine g_tableIn (tgt := 79) (off := 63) (by unfold R32; omega) dX6_about_16 (by omega) (by rw [c_6]; rfl) rfl ?_
      refine g_aload_n 0 dX6_about_79 rfl rfl ?_
      refine g_get (v := .int (iI ((g 2) 6))) (C := RX3) (T := TX3) (N := 14) 5 9 (fun _ h => List.mem_cons_of_mem _ (List.mem_append_left _ (List.mem_append_right _ h))) (List.mem_of_getElem? (i := 5) rfl) rfl rfl (by decide) rfl rfl dX6_about_80 ?_
      exact g_iret hRet dX6_about_83 rfl ⟨(congrArg iI (by unfold f_about; first | (rw [if_pos (by omega)]; done) | (rw [hik.1]; (repeat' split) <;> first | rfl | (exfalso; omega)))), rfl⟩
    · refine g_tableIn (tgt := 84) (off := 68) (by unfold R32; omega) dX6_about_16 (by omega) (by rw [c_6]; rfl) rfl ?_
      refine g_aload_n 0 dX6_about_84 rfl rfl ?_
      refine g_callV_i (n := 0) (As := []) (wr := [(x0, oo 6 [.ref v, .ref h0, .ref a3, .ref a4, .ref a5, .int (iI lo)]), (v, oo 1 [.ref ma, .int (iI M), .ref fo, .ref la, .int (iI ti), .int (iI so), .int (iI ta), .int (iI go), .int (iI sl)]), (ma, aM E 6 mq), (ad 0, oo 3 (fMa 0 .null (sd 0) (g 0))), (ad 1, oo 3 (fMa 1 (.ref (ad 0)) (sd 1) (g 1))), (ad 3, oo 3 (fMa 3 (.ref (ad 2)) (sd 3) (g 3))), (ad 4, oo 3 (fMa 4 (.ref (ad 3)) (sd 4) (g 4))), (ad 5, oo 3 (fMa 5 (.ref (ad 4)) (sd 5) (g 5)))]) (C := RX3) [] (c_X3_unitsInside E (ad 2) (sd 2) 2 (.ref (ad 1)) (g 2) (by exact hgk 2 (by omega) (by omega))) [5] [0, 1, 2, 3, 4, 6, 7, 8] 0 rfl rfl gX6_about_X3_unitsInside rfl ⟨rfl, by decide +kernel⟩ ⟨by decide, by decide⟩ rfl rfl rfl rfl rfl (by decide) rfl (by decide) (by decide) (fun _ h => absurd h List.not_mem_nil) dX6_about_85 rfl (Nat.le_of_ble_eq_true rfl) ⟨by decide, by decide⟩ (fun r u p_7 => ?_)
      obtain ⟨rfl, rfl⟩ := p_7
      refine g_perm (ws1 := [(x0, oo 6 [.ref v, .ref h0, .ref a3, .ref a4, .ref a5, .int (iI lo)]), (v, oo 1 [.ref ma, .int (iI M), .ref fo, .ref la, .int (iI ti), .int (iI so), .int (iI ta), .int (iI go), .int (iI sl)]), (ma, aM E 6 mq), (ad 0, oo 3 (fMa 0 .null (sd 0) (g 0))), (ad 1, oo 3 (fMa 1 (.ref (ad 0)) (sd 1) (g 1))), (ad 2, oo 3 (fMa 2 (.ref (ad 1)) (sd 2) (g 2))), (ad 3, oo 3 (fMa 3 (.ref (ad 2)) (sd 3) (g 3))), (ad 4, oo 3 (fMa 4 (.ref (ad 3)) (sd 4) (g 4))), (ad 5, oo 3 (fMa 5 (.ref (ad 4)) (sd 5) (g 5)))]) [0, 1, 2, 3, 4, 8, 5, 6, 7] rfl (by decide) rfl ?_
      exact g_iret hRet dX6_about_88 rfl ⟨(congrArg iI (by unfold f_about; first | (rw [if_pos (by omega)]; done) | (rw [hik.1]; (repeat' split) <;> first | rfl | (exfalso; omega)))), rfl⟩
    · refine g_tableIn (tgt := 89) (off := 73) (by unfold R32; omega) dX6_about_16 (by omega) (by rw [c_6]; rfl) rfl ?_
      refine g_aload_n 0 dX6_about_89 rfl rfl ?_
      refine g_get (v := .int (iI ((g 2) 0))) (C := RX3) (T := TX3) (N := 14) 5 3 (fun _ h => List.mem_cons_of_mem _ (List.mem_append_left _ (List.mem_append_right _ h))) (List.mem_of_getElem? (i := 6) rfl) rfl rfl (by decide) rfl rfl dX6_about_90 ?_
      exact g_iret hRet dX6_about_93 rfl ⟨(congrArg iI (by unfold f_about; first | (rw [if_pos (by omega)]; done) | (rw [hik.1]; (repeat' split) <;> first | rfl | (exfalso; omega)))), rfl⟩
    · refine g_tableIn (tgt := 94) (off := 78) (by unfold R32; omega) dX6_about_16 (by omega) (by rw [c_6]; rfl) rfl ?_
      refine g_aload_n 0 dX6_about_94 rfl rfl ?_
      refine g_get (v := .int (iI ((g 2) 7))) (C := RX3) (T := TX3) (N := 14) 5 10 (fun _ h => List.mem_cons_of_mem _ (List.mem_append_left _ (List.mem_append_right _ h))) (List.mem_of_getElem? (i := 7) rfl) rfl rfl (by decide) rfl rfl dX6_about_95 ?_
      exact g_iret hRet dX6_about_98 rfl ⟨(congrArg iI (by unfold f_about; first | (rw [if_pos (by omega)]; done) | (rw [hik.1]; (repeat' split) <;> first | rfl | (exfalso; omega)))), rfl⟩
    · refine g_tableIn (tgt := 99) (off := 83) (by unfold R32; omega) dX6_about_16 (by omega) (by rw [c_6]; rfl) rfl ?_
      refine g_aload_n 0 dX6_about_99 rfl rfl ?_
      refine g_get (v := .int (iI ((g 2) 10))) (C := RX3) (T := TX3) (N := 14) 5 13 (fun _ h => List.mem_cons_of_mem _ (List.mem_append_left _ (List.mem_append_right _ h))) (List.mem_of_getElem? (i := 8) rfl) rfl rfl (by decide) rfl rfl dX6_about_100 ?_
      exact g_iret hRet dX6_about_103 rfl ⟨(congrArg iI (by unfold f_about; first | (rw [if_pos (by omega)]; done) | (rw [hik.1]; (repeat' split) <;> first | rfl | (exfalso; omega)))), rfl⟩
    · refine g_tableOut (tgt := 104) (by unfold R32; omega) dX6_about_16 c_6 rfl ?_
      refine g_iconst dX6_about_104 ?_
      exact g_iret hRet dX6_about_105 rfl ⟨(congrArg iI (by unfold f_about; first | (rw [if_pos (by omega)]; done) | (rw [hik.1]; (repeat' split) <;> first | rfl | (exfalso; omega)))), rfl⟩
  · refine g_as (st1 := [.ref (ad 3)]) ?_ rfl rfl (by rw [if_pos (by omega), hik.1]; rfl)
    refine g_astore_n (lv1 := [(3, .ref (ad 3)), (0, .ref x0), (1, .int (iI i)), (2, .int (iI what))]) dX6_about_8 rfl (by decide) rfl ?_
    refine g_aload_n 0 dX6_about_9 rfl rfl ?_
    refine g_ifnonnull (tgt := 15) dX6_about_10 rfl ?_
    refine g_iload_n 3 dX6_about_15 rfl rfl ?_
    rcases (show what = 0 ∨ what = 1 ∨ what = 2 ∨ what = 3 ∨ what = 4 ∨ what = 5 ∨ what = 6 ∨ what = 7 ∨ (what < 0 ∨ 7 < what) by omega) with c_8 | c_8 | c_8 | c_8 | c_8 | c_8 | c_8 | c_8 | c_8
    · refine g_tableIn (tgt := 64) (off := 48) (by unfold R32; omega) dX6_about_16 (by omega) (by rw [c_8]; rfl) rfl ?_
      refine g_aload_n 0 dX6_about_64 rfl rfl ?_
      refine g_get (v := .int (iI ((g 3) 9))) (C := RX3) (T := TX3) (N := 14) 6 12 (fun _ h => List.mem_cons_of_mem _ (List.mem_append_left _ (List.mem_append_right _ h))) (List.mem_of_getElem? (i := 2) rfl) rfl rfl (by decide) rfl rfl dX6_about_65 ?_
      exact g_iret hRet dX6_about_68 rfl ⟨(congrArg iI (by unfold f_about; first | (rw [if_pos (by omega)]; done) | (rw [hik.1]; (repeat' split) <;> first | rfl | (exfalso; omega)))), rfl⟩
    · refine g_tableIn (tgt := 69) (off := 53) (by unfold R32; omega) dX6_about_16 (by omega) (by rw [c_8]; rfl) rfl ?_
      refine g_aload_n 0 dX6_about_69 rfl rfl ?_
      refine g_get (v := .int (iI ((g 3) 4))) (C := RX3) (T := TX3) (N := 14) 6 7 (fun _ h => List.mem_cons_of_mem _ (List.mem_append_left _ (List.mem_append_right _ h))) (List.mem_of_getElem? (i := 3) rfl) rfl rfl (by decide) rfl rfl dX6_about_70 ?_
      exact g_iret hRet dX6_about_73 rfl ⟨(congrArg iI (by unfold f_about; first | (rw [if_pos (by omega)]; done) | (rw [hik.1]; (repeat' split) <;> first | rfl | (exfalso; omega)))), rfl⟩
    · refine g_tableIn (tgt := 74) (off := 58) (by unfold R32; omega) dX6_about_16 (by omega) (by rw [c_8]; rfl) rfl ?_
      refine g_aload_n 0 dX6_about_74 rfl rfl ?_
      refine g_get (v := .int (iI ((g 3) 5))) (C := RX3) (T := TX3) (N := 14) 6 8 (fun _ h => List.mem_cons_of_mem _ (List.mem_append_left _ (List.mem_append_right _ h))) (List.mem_of_getElem? (i := 4) rfl) rfl rfl (by decide) rfl rfl dX6_about_75 ?_
      exact g_iret hRet dX6_about_78 rfl ⟨(congrArg iI (by unfold f_about; first | (rw [if_pos (by omega)]; done) | (rw [hik.1]; (repeat' split) <;> first | rfl | (exfalso; omega)))), rfl⟩
    · refine g_tableIn (tgt := 79) (off := 63) (by unfold R32; omega) dX6_about_16 (by omega) (by rw [c_8]; rfl) rfl ?_
      refine g_aload_n 0 dX6_about_79 rfl rfl ?_
      refine g_get (v := .int (iI ((g 3) 6))) (C := RX3) (T := TX3) (N := 14) 6 9 (fun _ h => List.mem_cons_of_mem _ (List.mem_append_left _ (List.mem_append_right _ h))) (List.mem_of_getElem? (i := 5) rfl) rfl rfl (by decide) rfl rfl dX6_about_80 ?_
      exact g_iret hRet dX6_about_83 rfl ⟨(congrArg iI (by unfold f_about; first | (rw [if_pos (by omega)]; done) | (rw [hik.1]; (repeat' split) <;> first | rfl | (exfalso; omega)))), rfl⟩
    · refine g_tableIn (tgt := 84) (off := 68) (by unfold R32; omega) dX6_about_16 (by omega) (by rw [c_8]; rfl) rfl ?_
      refine g_aload_n 0 dX6_about_84 rfl rfl ?_
      refine g_callV_i (n := 0) (As := []) (wr := [(x0, oo 6 [.ref v, .ref h0, .ref a3, .ref a4, .ref a5, .int (iI lo)]), (v, oo 1 [.ref ma, .int (iI M), .ref fo, .ref la, .int (iI ti), .int (iI so), .int (iI ta), .int (iI go), .int (iI sl)]), (ma, aM E 6 mq), (ad 0, oo 3 (fMa 0 .null (sd 0) (g 0))), (ad 1, oo 3 (fMa 1 (.ref (ad 0)) (sd 1) (g 1))), (ad 2, oo 3 (fMa 2 (.ref (ad 1)) (sd 2) (g 2))), (ad 4, oo 3 (fMa 4 (.ref (ad 3)) (sd 4) (g 4))), (ad 5, oo 3 (fMa 5 (.ref (ad 4)) (sd 5) (g 5)))]) (C := RX3) [] (c_X3_unitsInside E (ad 3) (sd 3) 3 (.ref (ad 2)) (g 3) (by exact hgk 3 (by omega) (by omega))) [6] [0, 1, 2, 3, 4, 5, 7, 8] 0 rfl rfl gX6_about_X3_unitsInside rfl ⟨rfl, by decide +kernel⟩ ⟨by decide, by decide⟩ rfl rfl rfl rfl rfl (by decide) rfl (by decide) (by decide) (fun _ h => absurd h List.not_mem_nil) dX6_about_85 rfl (Nat.le_of_ble_eq_true rfl) ⟨by decide, by decide⟩ (fun r u p_9 => ?_)
      obtain ⟨rfl, rfl⟩ := p_9
      refine g_perm (ws1 := [(x0, oo 6 [.ref v, .ref h0, .ref a3, .ref a4, .ref a5, .int (iI lo)]), (v, oo 1 [.ref ma, .int (iI M), .ref fo, .ref la, .int (iI ti), .int (iI so), .int (iI ta), .int (iI go), .int (iI sl)]), (ma, aM E 6 mq), (ad 0, oo 3 (fMa 0 .null (sd 0) (g 0))), (ad 1, oo 3 (fMa 1 (.ref (ad 0)) (sd 1) (g 1))), (ad 2, oo 3 (fMa 2 (.ref (ad 1)) (sd 2) (g 2))), (ad 3, oo 3 (fMa 3 (.ref (ad 2)) (sd 3) (g 3))), (ad 4, oo 3 (fMa 4 (.ref (ad 3)) (sd 4) (g 4))), (ad 5, oo 3 (fMa 5 (.ref (ad 4)) (sd 5) (g 5)))]) [0, 1, 2, 3, 4, 5, 8, 6, 7] rfl (by decide) rfl ?_
      exact g_iret hRet dX6_about_88 rfl ⟨(congrArg iI (by unfold f_about; first | (rw [if_pos (by omega)]; done) | (rw [hik.1]; (repeat' split) <;> first | rfl | (exfalso; omega)))), rfl⟩
    · refine g_tableIn (tgt := 89) (off := 73) (by unfold R32; omega) dX6_about_16 (by omega) (by rw [c_8]; rfl) rfl ?_
      refine g_aload_n 0 dX6_about_89 rfl rfl ?_
      refine g_get (v := .int (iI ((g 3) 0))) (C := RX3) (T := TX3) (N := 14) 6 3 (fun _ h => List.mem_cons_of_mem _ (List.mem_append_left _ (List.mem_append_right _ h))) (List.mem_of_getElem? (i := 6) rfl) rfl rfl (by decide) rfl rfl dX6_about_90 ?_
      exact g_iret hRet dX6_about_93 rfl ⟨(congrArg iI (by unfold f_about; first | (rw [if_pos (by omega)]; done) | (rw [hik.1]; (repeat' split) <;> first | rfl | (exfalso; omega)))), rfl⟩
    · refine g_tableIn (tgt := 94) (off := 78) (by unfold R32; omega) dX6_about_16 (by omega) (by rw [c_8]; rfl) rfl ?_
      refine g_aload_n 0 dX6_about_94 rfl rfl ?_
      refine g_get (v := .int (iI ((g 3) 7))) (C := RX3) (T := TX3) (N := 14) 6 10 (fun _ h => List.mem_cons_of_mem _ (List.mem_append_left _ (List.mem_append_right _ h))) (List.mem_of_getElem? (i := 7) rfl) rfl rfl (by decide) rfl rfl dX6_about_95 ?_
      exact g_iret hRet dX6_about_98 rfl ⟨(congrArg iI (by unfold f_about; first | (rw [if_pos (by omega)]; done) | (rw [hik.1]; (repeat' split) <;> first | rfl | (exfalso; omega)))), rfl⟩
    · refine g_tableIn (tgt := 99) (off := 83) (by unfold R32; omega) dX6_about_16 (by omega) (by rw [c_8]; rfl) rfl ?_
      refine g_aload_n 0 dX6_about_99 rfl rfl ?_
      refine g_get (v := .int (iI ((g 3) 10))) (C := RX3) (T := TX3) (N := 14) 6 13 (fun _ h => List.mem_cons_of_mem _ (List.mem_append_left _ (List.mem_append_right _ h))) (List.mem_of_getElem? (i := 8) rfl) rfl rfl (by decide) rfl rfl dX6_about_100 ?_
      exact g_iret hRet dX6_about_103 rfl ⟨(congrArg iI (by unfold f_about; first | (rw [if_pos (by omega)]; done) | (rw [hik.1]; (repeat' split) <;> first | rfl | (exfalso; omega)))), rfl⟩
    · refine g_tableOut (tgt := 104) (by unfold R32; omega) dX6_about_16 c_8 rfl ?_
      refine g_iconst dX6_about_104 ?_
      exact g_iret hRet dX6_about_105 rfl ⟨(congrArg iI (by unfold f_about; first | (rw [if_pos (by omega)]; done) | (rw [hik.1]; (repeat' split) <;> first | rfl | (exfalso; omega)))), rfl⟩
  · refine g_as (st1 := [.ref (ad 4)]) ?_ rfl rfl (by rw [if_pos (by omega), hik.1]; rfl)
    refine g_astore_n (lv1 := [(3, .ref (ad 4)), (0, .ref x0), (1, .int (iI i)), (2, .int (iI what))]) dX6_about_8 rfl (by decide) rfl ?_
    refine g_aload_n 0 dX6_about_9 rfl rfl ?_
    refine g_ifnonnull (tgt := 15) dX6_about_10 rfl ?_
    refine g_iload_n 3 dX6_about_15 rfl rfl ?_
    rcases (show what = 0 ∨ what = 1 ∨ what = 2 ∨ what = 3 ∨ what = 4 ∨ what = 5 ∨ what = 6 ∨ what = 7 ∨ (what < 0 ∨ 7 < what) by omega) with c_10 | c_10 | c_10 | c_10 | c_10 | c_10 | c_10 | c_10 | c_10
    · refine g_tableIn (tgt := 64) (off := 48) (by unfold R32; omega) dX6_about_16 (by omega) (by rw [c_10]; rfl) rfl ?_
      refine g_aload_n 0 dX6_about_64 rfl rfl ?_
      refine g_get (v := .int (iI ((g 4) 9))) (C := RX3) (T := TX3) (N := 14) 7 12 (fun _ h => List.mem_cons_of_mem _ (List.mem_append_left _ (List.mem_append_right _ h))) (List.mem_of_getElem? (i := 2) rfl) rfl rfl (by decide) rfl rfl dX6_about_65 ?_
      exact g_iret hRet dX6_about_68 rfl ⟨(congrArg iI (by unfold f_about; first | (rw [if_pos (by omega)]; done) | (rw [hik.1]; (repeat' split) <;> first | rfl | (exfalso; omega)))), rfl⟩
    · refine g_tableIn (tgt := 69) (off := 53) (by unfold R32; omega) dX6_about_16 (by omega) (by rw [c_10]; rfl) rfl ?_
      refine g_aload_n 0 dX6_about_69 rfl rfl ?_
      refine g_get (v := .int (iI ((g 4) 4))) (C := RX3) (T := TX3) (N := 14) 7 7 (fun _ h => List.mem_cons_of_mem _ (List.mem_append_left _ (List.mem_append_right _ h))) (List.mem_of_getElem? (i := 3) rfl) rfl rfl (by decide) rfl rfl dX6_about_70 ?_
      exact g_iret hRet dX6_about_73 rfl ⟨(congrArg iI (by unfold f_about; first | (rw [if_pos (by omega)]; done) | (rw [hik.1]; (repeat' split) <;> first | rfl | (exfalso; omega)))), rfl⟩
    · refine g_tableIn (tgt := 74) (off := 58) (by unfold R32; omega) dX6_about_16 (by omega) (by rw [c_10]; rfl) rfl ?_
      refine g_aload_n 0 dX6_about_74 rfl rfl ?_
      refine g_get (v := .int (iI ((g 4) 5))) (C := RX3) (T := TX3) (N := 14) 7 8 (fun _ h => List.mem_cons_of_mem _ (List.mem_append_left _ (List.mem_append_right _ h))) (List.mem_of_getElem? (i := 4) rfl) rfl rfl (by decide) rfl rfl dX6_about_75 ?_
      exact g_iret hRet dX6_about_78 rfl ⟨(congrArg iI (by unfold f_about; first | (rw [if_pos (by omega)]; done) | (rw [hik.1]; (repeat' split) <;> first | rfl | (exfalso; omega)))), rfl⟩
    · refine g_tableIn (tgt := 79) (off := 63) (by unfold R32; omega) dX6_about_16 (by omega) (by rw [c_10]; rfl) rfl ?_
      refine g_aload_n 0 dX6_about_79 rfl rfl ?_
      refine g_get (v := .int (iI ((g 4) 6))) (C := RX3) (T := TX3) (N := 14) 7 9 (fun _ h => List.mem_cons_of_mem _ (List.mem_append_left _ (List.mem_append_right _ h))) (List.mem_of_getElem? (i := 5) rfl) rfl rfl (by decide) rfl rfl dX6_about_80 ?_
      exact g_iret hRet dX6_about_83 rfl ⟨(congrArg iI (by unfold f_about; first | (rw [if_pos (by omega)]; done) | (rw [hik.1]; (repeat' split) <;> first | rfl | (exfalso; omega)))), rfl⟩
    · refine g_tableIn (tgt := 84) (off := 68) (by unfold R32; omega) dX6_about_16 (by omega) (by rw [c_10]; rfl) rfl ?_
      refine g_aload_n 0 dX6_about_84 rfl rfl ?_
      refine g_callV_i (n := 0) (As := []) (wr := [(x0, oo 6 [.ref v, .ref h0, .ref a3, .ref a4, .ref a5, .int (iI lo)]), (v, oo 1 [.ref ma, .int (iI M), .ref fo, .ref la, .int (iI ti), .int (iI so), .int (iI ta), .int (iI go), .int (iI sl)]), (ma, aM E 6 mq), (ad 0, oo 3 (fMa 0 .null (sd 0) (g 0))), (ad 1, oo 3 (fMa 1 (.ref (ad 0)) (sd 1) (g 1))), (ad 2, oo 3 (fMa 2 (.ref (ad 1)) (sd 2) (g 2))), (ad 3, oo 3 (fMa 3 (.ref (ad 2)) (sd 3) (g 3))), (ad 5, oo 3 (fMa 5 (.ref (ad 4)) (sd 5) (g 5)))]) (C := RX3) [] (c_X3_unitsInside E (ad 4) (sd 4) 4 (.ref (ad 3)) (g 4) (by exact hgk 4 (by omega) (by omega))) [7] [0, 1, 2, 3, 4, 5, 6, 8] 0 rfl rfl gX6_about_X3_unitsInside rfl ⟨rfl, by decide +kernel⟩ ⟨by decide, by decide⟩ rfl rfl rfl rfl rfl (by decide) rfl (by decide) (by decide) (fun _ h => absurd h List.not_mem_nil) dX6_about_85 rfl (Nat.le_of_ble_eq_true rfl) ⟨by decide, by decide⟩ (fun r u p_11 => ?_)
      obtain ⟨rfl, rfl⟩ := p_11
      refine g_perm (ws1 := [(x0, oo 6 [.ref v, .ref h0, .ref a3, .ref a4, .ref a5, .int (iI lo)]), (v, oo 1 [.ref ma, .int (iI M), .ref fo, .ref la, .int (iI ti), .int (iI so), .int (iI ta), .int (iI go), .int (iI sl)]), (ma, aM E 6 mq), (ad 0, oo 3 (fMa 0 .null (sd 0) (g 0))), (ad 1, oo 3 (fMa 1 (.ref (ad 0)) (sd 1) (g 1))), (ad 2, oo 3 (fMa 2 (.ref (ad 1)) (sd 2) (g 2))), (ad 3, oo 3 (fMa 3 (.ref (ad 2)) (sd 3) (g 3))), (ad 4, oo 3 (fMa 4 (.ref (ad 3)) (sd 4) (g 4))), (ad 5, oo 3 (fMa 5 (.ref (ad 4)) (sd 5) (g 5)))]) [0, 1, 2, 3, 4, 5, 6, 8, 7] rfl (by decide) rfl ?_
      exact g_iret hRet dX6_about_88 rfl ⟨(congrArg iI (by unfold f_about; first | (rw [if_pos (by omega)]; done) | (rw [hik.1]; (repeat' split) <;> first | rfl | (exfalso; omega)))), rfl⟩
    · refine g_tableIn (tgt := 89) (off := 73) (by unfold R32; omega) dX6_about_16 (by omega) (by rw [c_10]; rfl) rfl ?_
      refine g_aload_n 0 dX6_about_89 rfl rfl ?_
      refine g_get (v := .int (iI ((g 4) 0))) (C := RX3) (T := TX3) (N := 14) 7 3 (fun _ h => List.mem_cons_of_mem _ (List.mem_append_left _ (List.mem_append_right _ h))) (List.mem_of_getElem? (i := 6) rfl) rfl rfl (by decide) rfl rfl dX6_about_90 ?_
      exact g_iret hRet dX6_about_93 rfl ⟨(congrArg iI (by unfold f_about; first | (rw [if_pos (by omega)]; done) | (rw [hik.1]; (repeat' split) <;> first | rfl | (exfalso; omega)))), rfl⟩
    · refine g_tableIn (tgt := 94) (off := 78) (by unfold R32; omega) dX6_about_16 (by omega) (by rw [c_10]; rfl) rfl ?_
      refine g_aload_n 0 dX6_about_94 rfl rfl ?_
      refine g_get (v := .int (iI ((g 4) 7))) (C := RX3) (T := TX3) (N := 14) 7 10 (fun _ h => List.mem_cons_of_mem _ (List.mem_append_left _ (List.mem_append_right _ h))) (List.mem_of_getElem? (i := 7) rfl) rfl rfl (by decide) rfl rfl dX6_about_95 ?_
      exact g_iret hRet dX6_about_98 rfl ⟨(congrArg iI (by unfold f_about; first | (rw [if_pos (by omega)]; done) | (rw [hik.1]; (repeat' split) <;> first | rfl | (exfalso; omega)))), rfl⟩
    · refine g_tableIn (tgt := 99) (off := 83) (by unfold R32; omega) dX6_about_16 (by omega) (by rw [c_10]; rfl) rfl ?_
      refine g_aload_n 0 dX6_about_99 rfl rfl ?_
      refine g_get (v := .int (iI ((g 4) 10))) (C := RX3) (T := TX3) (N := 14) 7 13 (fun _ h => List.mem_cons_of_mem _ (List.mem_append_left _ (List.mem_append_right _ h))) (List.mem_of_getElem? (i := 8) rfl) rfl rfl (by decide) rfl rfl dX6_about_100 ?_
      exact g_iret hRet dX6_about_103 rfl ⟨(congrArg iI (by unfold f_about; first | (rw [if_pos (by omega)]; done) | (rw [hik.1]; (repeat' split) <;> first | rfl | (exfalso; omega)))), rfl⟩
    · refine g_tableOut (tgt := 104) (by unfold R32; omega) dX6_about_16 c_10 rfl ?_
      refine g_iconst dX6_about_104 ?_
      exact g_iret hRet dX6_about_105 rfl ⟨(congrArg iI (by unfold f_about; first | (rw [if_pos (by omega)]; done) | (rw [hik.1]; (repeat' split) <;> first | rfl | (exfalso; omega)))), rfl⟩
  · refine g_as (st1 := [.ref (ad 5)]) ?_ rfl rfl (by rw [if_pos (by omega), hik.1]; rfl)
    refine g_astore_n (lv1 := [(3, .ref (ad 5)), (0, .ref x0), (1, .int (iI i)), (2, .int (iI what))]) dX6_about_8 rfl (by decide) rfl ?_
    refine g_aload_n 0 dX6_about_9 rfl rfl ?_
    refine g_ifnonnull (tgt := 15) dX6_about_10 rfl ?_
    refine g_iload_n 3 dX6_about_15 rfl rfl ?_
    rcases (show what = 0 ∨ what = 1 ∨ what = 2 ∨ what = 3 ∨ what = 4 ∨ what = 5 ∨ what = 6 ∨ what = 7 ∨ (what < 0 ∨ 7 < what) by omega) with c_12 | c_12 | c_12 | c_12 | c_12 | c_12 | c_12 | c_12 | c_12
    · refine g_tableIn (tgt := 64) (off := 48) (by unfold R32; omega) dX6_about_16 (by omega) (by rw [c_12]; rfl) rfl ?_
      refine g_aload_n 0 dX6_about_64 rfl rfl ?_
      refine g_get (v := .int (iI ((g 5) 9))) (C := RX3) (T := TX3) (N := 14) 8 12 (fun _ h => List.mem_cons_of_mem _ (List.mem_append_left _ (List.mem_append_right _ h))) (List.mem_of_getElem? (i := 2) rfl) rfl rfl (by decide) rfl rfl dX6_about_65 ?_
      exact g_iret hRet dX6_about_68 rfl ⟨(congrArg iI (by unfold f_about; first | (rw [if_pos (by omega)]; done) | (rw [hik.1]; (repeat' split) <;> first | rfl | (exfalso; omega)))), rfl⟩
    · refine g_tableIn (tgt := 69) (off := 53) (by unfold R32; omega) dX6_about_16 (by omega) (by rw [c_12]; rfl) rfl ?_
      refine g_aload_n 0 dX6_about_69 rfl rfl ?_
      refine g_get (v := .int (iI ((g 5) 4))) (C := RX3) (T := TX3) (N := 14) 8 7 (fun _ h => List.mem_cons_of_mem _ (List.mem_append_left _ (List.mem_append_right _ h))) (List.mem_of_getElem? (i := 3) rfl) rfl rfl (by decide) rfl rfl dX6_about_70 ?_
      exact g_iret hRet dX6_about_73 rfl ⟨(congrArg iI (by unfold f_about; first | (rw [if_pos (by omega)]; done) | (rw [hik.1]; (repeat' split) <;> first | rfl | (exfalso; omega)))), rfl⟩
    · refine g_tableIn (tgt := 74) (off := 58) (by unfold R32; omega) dX6_about_16 (by omega) (by rw [c_12]; rfl) rfl ?_
      refine g_aload_n 0 dX6_about_74 rfl rfl ?_
      refine g_get (v := .int (iI ((g 5) 5))) (C := RX3) (T := TX3) (N := 14) 8 8 (fun _ h => List.mem_cons_of_mem _ (List.mem_append_left _ (List.mem_append_right _ h))) (List.mem_of_getElem? (i := 4) rfl) rfl rfl (by decide) rfl rfl dX6_about_75 ?_
      exact g_iret hRet dX6_about_78 rfl ⟨(congrArg iI (by unfold f_about; first | (rw [if_pos (by omega)]; done) | (rw [hik.1]; (repeat' split) <;> first | rfl | (exfalso; omega)))), rfl⟩
    · refine g_tableIn (tgt := 79) (off := 63) (by unfold R32; omega) dX6_about_16 (by omega) (by rw [c_12]; rfl) rfl ?_
      refine g_aload_n 0 dX6_about_79 rfl rfl ?_
      refine g_get (v := .int (iI ((g 5) 6))) (C := RX3) (T := TX3) (N := 14) 8 9 (fun _ h => List.mem_cons_of_mem _ (List.mem_append_left _ (List.mem_append_right _ h))) (List.mem_of_getElem? (i := 5) rfl) rfl rfl (by decide) rfl rfl dX6_about_80 ?_
      exact g_iret hRet dX6_about_83 rfl ⟨(congrArg iI (by unfold f_about; first | (rw [if_pos (by omega)]; done) | (rw [hik.1]; (repeat' split) <;> first | rfl | (exfalso; omega)))), rfl⟩
    · refine g_tableIn (tgt := 84) (off := 68) (by unfold R32; omega) dX6_about_16 (by omega) (by rw [c_12]; rfl) rfl ?_
      refine g_aload_n 0 dX6_about_84 rfl rfl ?_
      refine g_callV_i (n := 0) (As := []) (wr := [(x0, oo 6 [.ref v, .ref h0, .ref a3, .ref a4, .ref a5, .int (iI lo)]), (v, oo 1 [.ref ma, .int (iI M), .ref fo, .ref la, .int (iI ti), .int (iI so), .int (iI ta), .int (iI go), .int (iI sl)]), (ma, aM E 6 mq), (ad 0, oo 3 (fMa 0 .null (sd 0) (g 0))), (ad 1, oo 3 (fMa 1 (.ref (ad 0)) (sd 1) (g 1))), (ad 2, oo 3 (fMa 2 (.ref (ad 1)) (sd 2) (g 2))), (ad 3, oo 3 (fMa 3 (.ref (ad 2)) (sd 3) (g 3))), (ad 4, oo 3 (fMa 4 (.ref (ad 3)) (sd 4) (g 4)))]) (C := RX3) [] (c_X3_unitsInside E (ad 5) (sd 5) 5 (.ref (ad 4)) (g 5) (by exact hgk 5 (by omega) (by omega))) [8] [0, 1, 2, 3, 4, 5, 6, 7] 0 rfl rfl gX6_about_X3_unitsInside rfl ⟨rfl, by decide +kernel⟩ ⟨by decide, by decide⟩ rfl rfl rfl rfl rfl (by decide) rfl (by decide) (by decide) (fun _ h => absurd h List.not_mem_nil) dX6_about_85 rfl (Nat.le_of_ble_eq_true rfl) ⟨by decide, by decide⟩ (fun r u p_13 => ?_)
      obtain ⟨rfl, rfl⟩ := p_13
      exact g_iret hRet dX6_about_88 rfl ⟨(congrArg iI (by unfold f_about; first | (rw [if_pos (by omega)]; done) | (rw [hik.1]; (repeat' split) <;> first | rfl | (exfalso; omega)))), rfl⟩
    · refine g_tableIn (tgt := 89) (off := 73) (by unfold R32; omega) dX6_about_16 (by omega) (by rw [c_12]; rfl) rfl ?_
      refine g_aload_n 0 dX6_about_89 rfl rfl ?_
      refine g_get (v := .int (iI ((g 5) 0))) (C := RX3) (T := TX3) (N := 14) 8 3 (fun _ h => List.mem_cons_of_mem _ (List.mem_append_left _ (List.mem_append_right _ h))) (List.mem_of_getElem? (i := 6) rfl) rfl rfl (by decide) rfl rfl dX6_about_90 ?_
      exact g_iret hRet dX6_about_93 rfl ⟨(congrArg iI (by unfold f_about; first | (rw [if_pos (by omega)]; done) | (rw [hik.1]; (repeat' split) <;> first | rfl | (exfalso; omega)))), rfl⟩
    · refine g_tableIn (tgt := 94) (off := 78) (by unfold R32; omega) dX6_about_16 (by omega) (by rw [c_12]; rfl) rfl ?_
      refine g_aload_n 0 dX6_about_94 rfl rfl ?_
      refine g_get (v := .int (iI ((g 5) 7))) (C := RX3) (T := TX3) (N := 14) 8 10 (fun _ h => List.mem_cons_of_mem _ (List.mem_append_left _ (List.mem_append_right _ h))) (List.mem_of_getElem? (i := 7) rfl) rfl rfl (by decide) rfl rfl dX6_about_95 ?_
      exact g_iret hRet dX6_about_98 rfl ⟨(congrArg iI (by unfold f_about; first | (rw [if_pos (by omega)]; done) | (rw [hik.1]; (repeat' split) <;> first | rfl | (exfalso; omega)))), rfl⟩
    · refine g_tableIn (tgt := 99) (off := 83) (by unfold R32; omega) dX6_about_16 (by omega) (by rw [c_12]; rfl) rfl ?_
      refine g_aload_n 0 dX6_about_99 rfl rfl ?_
      refine g_get (v := .int (iI ((g 5) 10))) (C := RX3) (T := TX3) (N := 14) 8 13 (fun _ h => List.mem_cons_of_mem _ (List.mem_append_left _ (List.mem_append_right _ h))) (List.mem_of_getElem? (i := 8) rfl) rfl rfl (by decide) rfl rfl dX6_about_100 ?_
      exact g_iret hRet dX6_about_103 rfl ⟨(congrArg iI (by unfold f_about; first | (rw [if_pos (by omega)]; done) | (rw [hik.1]; (repeat' split) <;> first | rfl | (exfalso; omega)))), rfl⟩
    · refine g_tableOut (tgt := 104) (by unfold R32; omega) dX6_about_16 c_12 rfl ?_
      refine g_iconst dX6_about_104 ?_
      exact g_iret hRet dX6_about_105 rfl ⟨(congrArg iI (by unfold f_about; first | (rw [if_pos (by omega)]; done) | (rw [hik.1]; (repeat' split) <;> first | rfl | (exfalso; omega)))), rfl⟩
  · refine g_as (st1 := [.null]) ?_ rfl rfl (by rw [if_neg hik]; rfl)
    refine g_astore_nN (lv1 := [(3, .null), (0, .ref x0), (1, .int (iI i)), (2, .int (iI what))]) dX6_about_8 rfl (by decide) rfl ?_
    refine g_aload_nN 0 dX6_about_9 rfl rfl ?_
    refine g_ifnonnullN dX6_about_10 ?_
    refine g_iconst dX6_about_13 ?_
    exact g_iret hRet dX6_about_14 rfl ⟨(congrArg iI (by unfold f_about; first | (rw [if_pos (by omega)]; done) | (rw [hik.1]; (repeat' split) <;> first | rfl | (exfalso; omega)))), rfl⟩

set_option maxHeartbeats 4000000 in
set_option maxRecDepth 100000 in
theorem c_X6_fault (E : Ev) (x0 : Nat) (h0 : Nat) (a3 : Nat) (a4 : Nat) (a5 : Nat) (lo : Int) (v : Nat) (ma : Nat) (fo : Nat) (la : Nat) (M : Int) (ti : Int) (so : Int) (ta : Int) (go : Int) (sl : Int) (mq : Int → Option Nat) (ad : Int → Nat) (f1 : Nat) (f2 : Nat) (f3 : Nat) (nf : Int) (fm : Int → Int) (fa : Int → Int) (fb : Int → Int) (i : Int) (a : Int) (b : Int) (hM : 2 ≤ M ∧ M ≤ 6) (hti : 0 ≤ ti ∧ ti ≤ 10000) (hso : 0 ≤ so ∧ so ≤ 100000) (hgo : 0 ≤ go ∧ go ≤ 20000) (hmq : ∀ k, 0 ≤ k → k < 6 → mq k = some (ad k)) (hnf : 0 ≤ nf ∧ nf ≤ 8) (hfm : ∀ k, 0 ≤ fm k ∧ fm k ≤ 5) (hfa : ∀ k, 0 ≤ fa k ∧ fa k ≤ 9999) (hfb : ∀ k, 0 ≤ fb k ∧ fb k ≤ 9999) (h_i : -2147483648 ≤ i ∧ i ≤ 2147483647) (h_a : -2147483648 ≤ a ∧ a ≤ 2147483647) (h_b : -2147483648 ≤ b ∧ b ≤ 2147483647) : MI yX6_fault wsX6_fault ({ frames := 1, cells := 0, slots := 0, locals := 23 } : Room) E [] 0 0 [.ref x0, .int (iI i), .int (iI a), .int (iI b)] [(x0, oo 6 [.ref v, .ref h0, .ref a3, .ref a4, .ref a5, .int (iI lo)]), (v, oo 1 [.ref ma, .int (iI M), .ref fo, .ref la, .int (iI ti), .int (iI so), .int (iI ta), .int (iI go), .int (iI sl)]), (ma, aM E 6 mq), (fo, oo 2 [.ref f1, .ref f2, .ref f3, .int (iI nf)]), (f1, aI E 8 fm), (f2, aI E 8 fa), (f3, aI E 8 fb)] (fun r u => ∃ (x : Int), ∃ (nf' : Int), ∃ (fm' : Int → Int), ∃ (fa' : Int → Int), ∃ (fb' : Int → Int), sp_fault M ti nf fm fa fb i a b x nf' fm' fa' fb' ∧ r = iI x ∧ u = [(x0, oo 6 [.ref v, .ref h0, .ref a3, .ref a4, .ref a5, .int (iI lo)]), (v, oo 1 [.ref ma, .int (iI M), .ref fo, .ref la, .int (iI ti), .int (iI so), .int (iI ta), .int (iI go), .int (iI sl)]), (ma, aM E 6 mq), (fo, oo 2 [.ref f1, .ref f2, .ref f3, .int (iI nf')]), (f1, aI E 8 fm'), (f2, aI E 8 fa'), (f3, aI E 8 fb')]) := by
  refine MI.of (cc := cX6_fault) (maxL := 4) (own := RX6) (by decide) rfl rfl rfl (Nat.le_of_ble_eq_true rfl) [(0, .ref x0), (1, .int (iI i)), (2, .int (iI a)), (3, .int (iI b))] rfl ?_
  intro X hin2 hRet
  refine g_aload_n 0 dX6_fault_0 rfl rfl ?_
  refine g_get (C := RX6) (T := TX6) (N := 6) 0 0 (fun _ h => List.mem_cons_of_mem _ (List.mem_append_left _ (List.mem_append_left _ (List.mem_append_right _ h)))) (List.mem_of_getElem? (i := 1) rfl) rfl rfl (by decide) rfl rfl dX6_fault_1 ?_
  refine g_iload_n 1 dX6_fault_4 rfl rfl ?_
  refine g_callV_q (n := 1) (As := [.int (iI i)]) (wr := [(x0, oo 6 [.ref v, .ref h0, .ref a3, .ref a4, .ref a5, .int (iI lo)]), (fo, oo 2 [.ref f1, .ref f2, .ref f3, .int (iI nf)]), (f1, aI E 8 fm), (f2, aI E 8 fa), (f3, aI E 8 fb)]) (C := RX1) [] (c_X1_machineAt E v ma fo la M ti so ta go sl mq ad i (by omega) (by omega) (by omega) (by omega) (by exact hmq) (by omega)) [1, 2] [0, 3, 4, 5, 6] 0 rfl rfl gX6_fault_X1_machineAt rfl ⟨rfl, by decide +kernel⟩ ⟨by decide, by decide⟩ rfl rfl rfl rfl rfl (by decide) rfl (by decide) (by decide) (fun _ h => absurd h List.not_mem_nil) dX6_fault_5 rfl (Nat.le_of_ble_eq_true rfl) ⟨by decide, by decide⟩ (fun r u p_1 => ?_)
  obtain ⟨rfl, rfl⟩ := p_1
  refine g_perm (ws1 := [(x0, oo 6 [.ref v, .ref h0, .ref a3, .ref a4, .ref a5, .int (iI lo)]), (v, oo 1 [.ref ma, .int (iI M), .ref fo, .ref la, .int (iI ti), .int (iI so), .int (iI ta), .int (iI go), .int (iI sl)]), (ma, aM E 6 mq), (fo, oo 2 [.ref f1, .ref f2, .ref f3, .int (iI nf)]), (f1, aI E 8 fm), (f2, aI E 8 fa), (f3, aI E 8 fb)]) [0, 5, 6, 1, 2, 3, 4] rfl (by decide) rfl ?_
  rcases (show (0 ≤ i ∧ i < M) ∨ ¬ (0 ≤ i ∧ i < M) by omega) with hik | hik
  · refine g_as (st1 := [.ref (ad i)]) ?_ rfl rfl (by rw [if_pos hik]; rfl)
    refine g_ifnull dX6_fault_8 ?_
    refine g_iload_n 2 dX6_fault_11 rfl rfl ?_
    refine g_if_lt (tgt := 27) (by unfold R32; omega) dX6_fault_12 rfl (fun c_2 => ?_) (fun c_2 => ?_)
    · refine g_iconst dX6_fault_27 ?_
      exact g_iret hRet dX6_fault_28 rfl ⟨(-1), nf, fm, fa, fb, (by unfold sp_fault; rw [if_pos (by omega)]; exact ⟨rfl, rfl, rfl, rfl, rfl⟩), rfl, rfl⟩
    · refine g_iload_n 3 dX6_fault_15 rfl rfl ?_
      refine g_iload_n 2 dX6_fault_16 rfl rfl ?_
      refine g_icmp_lt (tgt := 27) (by unfold R32; omega) (by unfold R32; omega) dX6_fault_17 rfl (fun c_3 => ?_) (fun c_3 => ?_)
      · refine g_iconst dX6_fault_27 ?_
        exact g_iret hRet dX6_fault_28 rfl ⟨(-1), nf, fm, fa, fb, (by unfold sp_fault; rw [if_pos (by omega)]; exact ⟨rfl, rfl, rfl, rfl, rfl⟩), rfl, rfl⟩
      · refine g_iload_n 3 dX6_fault_20 rfl rfl ?_
        refine g_sipush dX6_fault_21 rfl ?_
        refine g_icmp_lt (tgt := 29) (by unfold R32; omega) (by unfold R32; omega) dX6_fault_24 rfl (fun c_4 => ?_) (fun c_4 => ?_)
        · refine g_iload_n 2 dX6_fault_29 rfl rfl ?_
          refine g_aload_n 0 dX6_fault_30 rfl rfl ?_
          refine g_get (C := RX6) (T := TX6) (N := 6) 0 0 (fun _ h => List.mem_cons_of_mem _ (List.mem_append_left _ (List.mem_append_left _ (List.mem_append_right _ h)))) (List.mem_of_getElem? (i := 1) rfl) rfl rfl (by decide) rfl rfl dX6_fault_31 ?_
          refine g_get (C := RX1) (T := TX1) (N := 9) 1 4 (fun _ h => List.mem_cons_of_mem _ (List.mem_append_left _ (List.mem_append_right _ h))) (List.mem_of_getElem? (i := 2) rfl) rfl rfl (by decide) rfl rfl dX6_fault_34 ?_
          refine g_icmp_ge (tgt := 43) (by unfold R32; omega) (by unfold R32; omega) dX6_fault_37 rfl (fun c_5 => ?_) (fun c_5 => ?_)
          · refine g_aload_n 0 dX6_fault_43 rfl rfl ?_
            refine g_get (C := RX6) (T := TX6) (N := 6) 0 0 (fun _ h => List.mem_cons_of_mem _ (List.mem_append_left _ (List.mem_append_left _ (List.mem_append_right _ h)))) (List.mem_of_getElem? (i := 1) rfl) rfl rfl (by decide) rfl rfl dX6_fault_44 ?_
            refine g_get (C := RX1) (T := TX1) (N := 9) 1 2 (fun _ h => List.mem_cons_of_mem _ (List.mem_append_left _ (List.mem_append_right _ h))) (List.mem_of_getElem? (i := 3) rfl) rfl rfl (by decide) rfl rfl dX6_fault_47 ?_
            refine g_iload_n 1 dX6_fault_50 rfl rfl ?_
            refine g_iload_n 2 dX6_fault_51 rfl rfl ?_
            refine g_iload_n 3 dX6_fault_52 rfl rfl ?_
            refine g_callV_i (n := 3) (As := [.int (iI i), .int (iI a), .int (iI b)]) (wr := [(x0, oo 6 [.ref v, .ref h0, .ref a3, .ref a4, .ref a5, .int (iI lo)]), (v, oo 1 [.ref ma, .int (iI M), .ref fo, .ref la, .int (iI ti), .int (iI so), .int (iI ta), .int (iI go), .int (iI sl)]), (ma, aM E 6 mq)]) (C := RX2) [] (c_X2_add E fo f1 f2 f3 nf fm fa fb i a b (by omega) (by assumption) (by assumption) (by assumption)) [3, 4, 5, 6] [0, 1, 2] 0 rfl rfl gX6_fault_X2_add rfl ⟨rfl, by decide +kernel⟩ ⟨by decide, by decide⟩ rfl rfl rfl rfl rfl (by decide) rfl (by decide) (by decide) (fun _ h => absurd h List.not_mem_nil) dX6_fault_53 rfl (Nat.le_of_ble_eq_true rfl) ⟨by decide, by decide⟩ (fun r u p_6 => ?_)
            obtain ⟨x_7, nf_8, fm_9, fa_10, fb_11, fq, rfl, rfl⟩ := p_6
            exact g_iret hRet dX6_fault_56 rfl ⟨x_7, nf_8, fm_9, fa_10, fb_11, (by unfold sp_fault; rw [if_neg (by omega), if_neg (by omega)]; exact fq), rfl, rfl⟩
          · refine g_bipush dX6_fault_40 rfl ?_
            exact g_iret hRet dX6_fault_42 rfl ⟨(-2), nf, fm, fa, fb, (by unfold sp_fault; rw [if_neg (by omega), if_pos (by omega)]; exact ⟨rfl, rfl, rfl, rfl, rfl⟩), rfl, rfl⟩
        · refine g_iconst dX6_fault_27 ?_
          exact g_iret hRet dX6_fault_28 rfl ⟨(-1), nf, fm, fa, fb, (by unfold sp_fault; rw [if_pos (by omega)]; exact ⟨rfl, rfl, rfl, rfl, rfl⟩), rfl, rfl⟩
  · refine g_as (st1 := [.null]) ?_ rfl rfl (by rw [if_neg hik]; rfl)
    refine g_ifnullN (tgt := 27) dX6_fault_8 rfl ?_
    refine g_iconst dX6_fault_27 ?_
    exact g_iret hRet dX6_fault_28 rfl ⟨(-1), nf, fm, fa, fb, (by unfold sp_fault; rw [if_pos (by omega)]; exact ⟨rfl, rfl, rfl, rfl, rfl⟩), rfl, rfl⟩

end FACE2
