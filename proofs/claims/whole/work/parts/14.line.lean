section LINE
def fMa (n : Int) (ah : Value) (sa : Nat) (c : Int → Int) : List Value := [.int (iI n), ah, .ref sa, .int (iI (c 0)), .int (iI (c 1)), .int (iI (c 2)), .int (iI (c 3)), .int (iI (c 4)), .int (iI (c 5)), .int (iI (c 6)), .int (iI (c 7)), .int (iI (c 8)), .int (iI (c 9)), .int (iI (c 10))]
/-- a machine's numbers: 0 in the gap, 1 working, 2 holding, 3 ticks on the unit, 4 finished, 5 rejected, 6 sampled, 7 unconfirmed, 8 the oldest reject, 9 state, 10 ran -/
def mOk (c : Int → Int) : Prop := (0 ≤ c 0 ∧ c 0 ≤ 20) ∧ (0 ≤ c 1 ∧ c 1 ≤ 1) ∧ (0 ≤ c 2 ∧ c 2 ≤ 1) ∧ (0 ≤ c 3 ∧ c 3 ≤ 5) ∧ (0 ≤ c 7 ∧ c 7 ≤ 20000) ∧ (0 ≤ c 8 ∧ c 8 ≤ 10000) ∧ (-4 ≤ c 9 ∧ c 9 ≤ 4)
def sOk (s : Int → Int) : Prop := (1 ≤ s 0 ∧ s 0 ≤ 5) ∧ (0 ≤ s 1 ∧ s 1 ≤ 99) ∧ (0 ≤ s 2 ∧ s 2 ≤ 99) ∧ (1 ≤ s 3 ∧ s 3 ≤ 20)
def flB (fm fa fb : Int → Int) (k t : Int) : Nat → Bool
  | 0 => false
  | n + 1 => flB fm fa fb k t n || (decide (fm (n : Int) = k) && (decide (fa (n : Int) ≤ t) && decide (t ≤ fb (n : Int))))
def fl (fm fa fb : Int → Int) (k t n : Int) : Bool := flB fm fa fb k t n.toNat
theorem fl_s (fm fa fb : Int → Int) (k t : Int) {i : Int} (h : 0 ≤ i) : fl fm fa fb k t (i + 1) = (fl fm fa fb k t i || (decide (fm i = k) && (decide (fa i ≤ t) && decide (t ≤ fb i)))) := by
  unfold fl
  rw [show (i + 1).toNat = i.toNat + 1 by omega]
  show (flB fm fa fb k t i.toNat || (decide (fm (i.toNat : Int) = k) && (decide (fa (i.toNat : Int) ≤ t) && decide (t ≤ fb (i.toNat : Int))))) = _
  rw [show ((i.toNat : Nat) : Int) = i by omega]
theorem flB_mono (fm fa fb : Int → Int) (k t : Int) (a : Nat) (h : flB fm fa fb k t a = true) : ∀ d, flB fm fa fb k t (a + d) = true
  | 0 => h
  | d + 1 => by
    show (flB fm fa fb k t (a + d) || _) = true
    rw [flB_mono fm fa fb k t a h d]; rfl
theorem fl_mono {fm fa fb : Int → Int} {k t i n : Int} (h : fl fm fa fb k t i = true) (h0 : 0 ≤ i) (h1 : i ≤ n) : fl fm fa fb k t n = true := by
  unfold fl at *
  have := flB_mono fm fa fb k t i.toNat h (n.toNat - i.toNat)
  rwa [show i.toNat + (n.toNat - i.toNat) = n.toNat by omega] at this

set_option maxHeartbeats 4000000 in
set_option maxRecDepth 100000 in
theorem c_X3_unitsInside (E : Ev) (h : Nat) (sa : Nat) (n : Int) (ah : Value) (c : Int → Int) (hc : mOk c) : MI yX3_unitsInside wsX3_unitsInside ({ frames := 0, cells := 0, slots := 0, locals := 0 } : Room) E [] 0 0 [.ref h] [(h, oo 3 (fMa n ah sa c))] (fun r u => (r = iI (bI (c 1 ≠ 0 ∨ c 2 ≠ 0))) ∧ u = [(h, oo 3 (fMa n ah sa c))]) := by
  refine MI.of (cc := cX3_unitsInside) (maxL := 1) (own := RX3) (by decide) rfl rfl rfl (Nat.le_of_ble_eq_true rfl) [(0, .ref h)] rfl ?_
  intro X hin2 hRet
  refine g_aload_n 0 dX3_unitsInside_0 rfl rfl ?_
  refine g_get (v := .int (iI (c 1))) (C := RX3) (T := TX3) (N := 14) 0 4 (fun _ h => List.mem_cons_of_mem _ (List.mem_append_right _ h)) (List.mem_of_getElem? (i := 1) rfl) rfl rfl (by decide) rfl rfl dX3_unitsInside_1 ?_
  refine g_if_ne (tgt := 14) (by (try unfold mOk at *); (try unfold sOk at *); unfold R32; omega) dX3_unitsInside_4 rfl (fun c_1 => ?_) (fun c_1 => ?_)
  · refine g_aload_n 0 dX3_unitsInside_7 rfl rfl ?_
    refine g_get (v := .int (iI (c 2))) (C := RX3) (T := TX3) (N := 14) 0 5 (fun _ h => List.mem_cons_of_mem _ (List.mem_append_right _ h)) (List.mem_of_getElem? (i := 2) rfl) rfl rfl (by decide) rfl rfl dX3_unitsInside_8 ?_
    refine g_if_eq (tgt := 18) (by (try unfold mOk at *); (try unfold sOk at *); unfold R32; omega) dX3_unitsInside_11 rfl (fun c_2 => ?_) (fun c_2 => ?_)
    · refine g_iconst dX3_unitsInside_18 ?_
      exact g_iret hRet dX3_unitsInside_19 rfl ⟨(bI_f (by omega)), rfl⟩
    · refine g_iconst dX3_unitsInside_14 ?_
      refine g_goto (tgt := 19) dX3_unitsInside_15 rfl ?_
      exact g_iret hRet dX3_unitsInside_19 rfl ⟨(bI_t (by omega)), rfl⟩
  · refine g_iconst dX3_unitsInside_14 ?_
    refine g_goto (tgt := 19) dX3_unitsInside_15 rfl ?_
    exact g_iret hRet dX3_unitsInside_19 rfl ⟨(bI_t (by omega)), rfl⟩

set_option maxHeartbeats 4000000 in
set_option maxRecDepth 100000 in
theorem c_X3_waitsForWord (E : Ev) (h : Nat) (sa : Nat) (n : Int) (ah : Value) (c : Int → Int) (tick : Int) (hc : mOk c) (h_tick : -2147483648 ≤ tick ∧ tick ≤ 2147483647) (ht : 0 ≤ tick ∧ tick ≤ 10000) : MI yX3_waitsForWord wsX3_waitsForWord ({ frames := 0, cells := 0, slots := 0, locals := 0 } : Room) E [] 0 0 [.ref h, .int (iI tick)] [(h, oo 3 (fMa n ah sa c))] (fun r u => r = iI (bI (0 < c 7 ∧ 3 ≤ tick - c 8)) ∧ u = [(h, oo 3 (fMa n ah sa c))]) := by
  refine MI.of (cc := cX3_waitsForWord) (maxL := 2) (own := RX3) (by decide) rfl rfl rfl (Nat.le_of_ble_eq_true rfl) [(0, .ref h), (1, .int (iI tick))] rfl ?_
  intro X hin2 hRet
  refine g_aload_n 0 dX3_waitsForWord_0 rfl rfl ?_
  refine g_get (v := .int (iI (c 7))) (C := RX3) (T := TX3) (N := 14) 0 10 (fun _ h => List.mem_cons_of_mem _ (List.mem_append_right _ h)) (List.mem_of_getElem? (i := 1) rfl) rfl rfl (by decide) rfl rfl dX3_waitsForWord_1 ?_
  refine g_if_le (tgt := 21) (by (try unfold mOk at *); (try unfold sOk at *); unfold R32; omega) dX3_waitsForWord_4 rfl (fun c_1 => ?_) (fun c_1 => ?_)
  · refine g_iconst dX3_waitsForWord_21 ?_
    exact g_iret hRet dX3_waitsForWord_22 rfl ⟨(bI_f (by omega)), rfl⟩
  · refine g_iload_n 1 dX3_waitsForWord_7 rfl rfl ?_
    refine g_aload_n 0 dX3_waitsForWord_8 rfl rfl ?_
    refine g_get (v := .int (iI (c 8))) (C := RX3) (T := TX3) (N := 14) 0 11 (fun _ h => List.mem_cons_of_mem _ (List.mem_append_right _ h)) (List.mem_of_getElem? (i := 2) rfl) rfl rfl (by decide) rfl rfl dX3_waitsForWord_9 ?_
    refine g_isub dX3_waitsForWord_12 ?_
    refine g_iconst dX3_waitsForWord_13 ?_
    refine g_icmp_lt (tgt := 21) (by (try unfold mOk at *); (try unfold sOk at *); unfold R32; omega) (by (try unfold mOk at *); (try unfold sOk at *); unfold R32; omega) dX3_waitsForWord_14 rfl (fun c_2 => ?_) (fun c_2 => ?_)
    · refine g_iconst dX3_waitsForWord_21 ?_
      exact g_iret hRet dX3_waitsForWord_22 rfl ⟨(bI_f (by omega)), rfl⟩
    · refine g_iconst dX3_waitsForWord_17 ?_
      refine g_goto (tgt := 22) dX3_waitsForWord_18 rfl ?_
      exact g_iret hRet dX3_waitsForWord_22 rfl ⟨(bI_t (by omega)), rfl⟩

set_option maxHeartbeats 4000000 in
set_option maxRecDepth 100000 in
theorem c_X3_unitIsFinished (E : Ev) (h : Nat) (sa : Nat) (n : Int) (ah : Value) (c : Int → Int) (s : Int → Int) (hc : mOk c) (hs : sOk s) : MI yX3_unitIsFinished wsX3_unitIsFinished ({ frames := 0, cells := 0, slots := 0, locals := 0 } : Room) E [] 0 0 [.ref h] [(h, oo 3 (fMa n ah sa c)), (sa, aI E 4 s)] (fun r u => r = iI (bI (s 0 ≤ c 3)) ∧ u = [(h, oo 3 (fMa n ah sa c)), (sa, aI E 4 s)]) := by
  refine MI.of (cc := cX3_unitIsFinished) (maxL := 1) (own := RX3) (by decide) rfl rfl rfl (Nat.le_of_ble_eq_true rfl) [(0, .ref h)] rfl ?_
  intro X hin2 hRet
  refine g_aload_n 0 dX3_unitIsFinished_0 rfl rfl ?_
  refine g_get (v := .int (iI (c 3))) (C := RX3) (T := TX3) (N := 14) 0 6 (fun _ h => List.mem_cons_of_mem _ (List.mem_append_right _ h)) (List.mem_of_getElem? (i := 1) rfl) rfl rfl (by decide) rfl rfl dX3_unitIsFinished_1 ?_
  refine g_aload_n 0 dX3_unitIsFinished_4 rfl rfl ?_
  refine g_get (v := .ref sa) (C := RX3) (T := TX3) (N := 14) 0 2 (fun _ h => List.mem_cons_of_mem _ (List.mem_append_right _ h)) (List.mem_of_getElem? (i := 2) rfl) rfl rfl (by decide) rfl rfl dX3_unitIsFinished_5 ?_
  refine g_iconst dX3_unitIsFinished_8 ?_
  refine g_iald 1 dX3_unitIsFinished_9 rfl (by decide) (by omega) (by omega) ?_
  refine g_icmp_lt (tgt := 17) (by (try unfold mOk at *); (try unfold sOk at *); unfold R32; omega) (by (try unfold mOk at *); (try unfold sOk at *); unfold R32; omega) dX3_unitIsFinished_10 rfl (fun c_1 => ?_) (fun c_1 => ?_)
  · refine g_iconst dX3_unitIsFinished_17 ?_
    exact g_iret hRet dX3_unitIsFinished_18 rfl ⟨(bI_f (by omega)), rfl⟩
  · refine g_iconst dX3_unitIsFinished_13 ?_
    refine g_goto (tgt := 18) dX3_unitIsFinished_14 rfl ?_
    exact g_iret hRet dX3_unitIsFinished_18 rfl ⟨(bI_t (by omega)), rfl⟩

set_option maxHeartbeats 4000000 in
set_option maxRecDepth 100000 in
theorem c_X3_isEach (E : Ev) (h : Nat) (sa : Nat) (n : Int) (ah : Value) (c : Int → Int) (each : Int) (hc : mOk c) (h_each : -2147483648 ≤ each ∧ each ≤ 2147483647) (he : 0 ≤ each ∧ each ≤ 99) : MI yX3_isEach wsX3_isEach ({ frames := 0, cells := 0, slots := 0, locals := 0 } : Room) E [] 0 0 [.ref h, .int (iI each)] [(h, oo 3 (fMa n ah sa c))] (fun r u => r = iI (bI (each ≠ 0 ∧ rmI (c 4) each = 0)) ∧ u = [(h, oo 3 (fMa n ah sa c))]) := by
  refine MI.of (cc := cX3_isEach) (maxL := 2) (own := RX3) (by decide) rfl rfl rfl (Nat.le_of_ble_eq_true rfl) [(0, .ref h), (1, .int (iI each))] rfl ?_
  intro X hin2 hRet
  refine g_iload_n 1 dX3_isEach_0 rfl rfl ?_
  refine g_if_eq (tgt := 17) (by (try unfold mOk at *); (try unfold sOk at *); unfold R32; omega) dX3_isEach_1 rfl (fun c_1 => ?_) (fun c_1 => ?_)
  · refine g_iconst dX3_isEach_17 ?_
    exact g_iret hRet dX3_isEach_18 rfl ⟨(by first | exact bI_t ⟨by assumption, by assumption⟩ | exact bI_f (fun q => by first | exact absurd q.2 (by assumption) | exact absurd (by assumption) q.1)), rfl⟩
  · refine g_aload_n 0 dX3_isEach_4 rfl rfl ?_
    refine g_get (v := .int (iI (c 4))) (C := RX3) (T := TX3) (N := 14) 0 7 (fun _ h => List.mem_cons_of_mem _ (List.mem_append_right _ h)) (List.mem_of_getElem? (i := 1) rfl) rfl rfl (by decide) rfl rfl dX3_isEach_5 ?_
    refine g_iload_n 1 dX3_isEach_8 rfl rfl ?_
    refine g_irem dX3_isEach_9 (by unfold R32; omega) ?_
    refine g_if_ne_r (tgt := 17) dX3_isEach_10 rfl (fun c_2 => ?_) (fun c_2 => ?_)
    · refine g_iconst dX3_isEach_13 ?_
      refine g_goto (tgt := 18) dX3_isEach_14 rfl ?_
      exact g_iret hRet dX3_isEach_18 rfl ⟨(by first | exact bI_t ⟨by assumption, by assumption⟩ | exact bI_f (fun q => by first | exact absurd q.2 (by assumption) | exact absurd (by assumption) q.1)), rfl⟩
    · refine g_iconst dX3_isEach_17 ?_
      exact g_iret hRet dX3_isEach_18 rfl ⟨(by first | exact bI_t ⟨by assumption, by assumption⟩ | exact bI_f (fun q => by first | exact absurd q.2 (by assumption) | exact absurd (by assumption) q.1)), rfl⟩

set_option maxHeartbeats 4000000 in
set_option maxRecDepth 100000 in
theorem c_X3_reject (E : Ev) (h : Nat) (sa : Nat) (n : Int) (ah : Value) (c : Int → Int) (tick : Int) (hc : mOk c) (h_tick : -2147483648 ≤ tick ∧ tick ≤ 2147483647) : MV yX3_reject wsX3_reject ({ frames := 0, cells := 0, slots := 0, locals := 0 } : Room) E [] 0 0 [.ref h, .int (iI tick)] [(h, oo 3 (fMa n ah sa c))] (fun u => u = [(h, oo 3 (fMa n ah sa (up (up (up c 5 (c 5 + 1)) 8 (if c 7 = 0 then tick else c 8)) 7 (c 7 + 1))))]) := by
  refine MV.of (cc := cX3_reject) (maxL := 2) (own := RX3) (by decide) rfl rfl rfl (Nat.le_of_ble_eq_true rfl) [(0, .ref h), (1, .int (iI tick))] rfl ?_
  intro X hin2 hRet
  refine g_aload_n 0 dX3_reject_0 rfl rfl ?_
  refine g_dup dX3_reject_1 rfl ?_
  refine g_get (v := .int (iI (c 5))) (C := RX3) (T := TX3) (N := 14) 0 8 (fun _ h => List.mem_cons_of_mem _ (List.mem_append_right _ h)) (List.mem_of_getElem? (i := 1) rfl) rfl rfl (by decide) rfl rfl dX3_reject_2 ?_
  refine g_iconst dX3_reject_5 ?_
  refine g_iadd dX3_reject_6 ?_
  refine g_put (C := RX3) (T := TX3) (N := 14) (ws1 := [(h, oo 3 (fMa n ah sa (up c 5 ((c 5) + 1))))]) 0 8 (fun _ h => List.mem_cons_of_mem _ (List.mem_append_right _ h)) tyX3 tyX3_ok nmX3 (List.mem_of_getElem? (i := 1) rfl) rfl rfl (by decide) rfl (tyX3_ok 8 (by decide)) rfl rfl (by first | decide | exact Nat.le_of_ble_eq_true rfl) dX3_reject_7 rfl rfl ?_
  refine g_aload_n 0 dX3_reject_10 rfl rfl ?_
  refine g_get (v := .int (iI (c 7))) (C := RX3) (T := TX3) (N := 14) 0 10 (fun _ h => List.mem_cons_of_mem _ (List.mem_append_right _ h)) (List.mem_of_getElem? (i := 2) rfl) rfl rfl (by decide) rfl rfl dX3_reject_11 ?_
  refine g_if_ne (tgt := 22) (by (try unfold mOk at *); (try unfold sOk at *); unfold R32; omega) dX3_reject_14 rfl (fun c_1 => ?_) (fun c_1 => ?_)
  · refine g_aload_n 0 dX3_reject_17 rfl rfl ?_
    refine g_iload_n 1 dX3_reject_18 rfl rfl ?_
    refine g_put (C := RX3) (T := TX3) (N := 14) (ws1 := [(h, oo 3 (fMa n ah sa (up (up c 5 ((c 5) + 1)) 8 tick)))]) 0 11 (fun _ h => List.mem_cons_of_mem _ (List.mem_append_right _ h)) tyX3 tyX3_ok nmX3 (List.mem_of_getElem? (i := 3) rfl) rfl rfl (by decide) rfl (tyX3_ok 11 (by decide)) rfl rfl (by first | decide | exact Nat.le_of_ble_eq_true rfl) dX3_reject_19 rfl rfl ?_
    refine g_aload_n 0 dX3_reject_22 rfl rfl ?_
    refine g_dup dX3_reject_23 rfl ?_
    refine g_get (v := .int (iI (c 7))) (C := RX3) (T := TX3) (N := 14) 0 10 (fun _ h => List.mem_cons_of_mem _ (List.mem_append_right _ h)) (List.mem_of_getElem? (i := 2) rfl) rfl rfl (by decide) rfl rfl dX3_reject_24 ?_
    refine g_iconst dX3_reject_27 ?_
    refine g_iadd dX3_reject_28 ?_
    refine g_put (C := RX3) (T := TX3) (N := 14) (ws1 := [(h, oo 3 (fMa n ah sa (up (up (up c 5 ((c 5) + 1)) 8 tick) 7 ((c 7) + 1))))]) 0 10 (fun _ h => List.mem_cons_of_mem _ (List.mem_append_right _ h)) tyX3 tyX3_ok nmX3 (List.mem_of_getElem? (i := 2) rfl) rfl rfl (by decide) rfl (tyX3_ok 10 (by decide)) rfl rfl (by first | decide | exact Nat.le_of_ble_eq_true rfl) dX3_reject_29 rfl rfl ?_
    exact g_vret hRet dX3_reject_32 (by first | (rw [if_pos (by assumption)]; done) | (rw [if_neg (by assumption)]; rfl))
  · refine g_aload_n 0 dX3_reject_22 rfl rfl ?_
    refine g_dup dX3_reject_23 rfl ?_
    refine g_get (v := .int (iI (c 7))) (C := RX3) (T := TX3) (N := 14) 0 10 (fun _ h => List.mem_cons_of_mem _ (List.mem_append_right _ h)) (List.mem_of_getElem? (i := 2) rfl) rfl rfl (by decide) rfl rfl dX3_reject_24 ?_
    refine g_iconst dX3_reject_27 ?_
    refine g_iadd dX3_reject_28 ?_
    refine g_put (C := RX3) (T := TX3) (N := 14) (ws1 := [(h, oo 3 (fMa n ah sa (up (up c 5 ((c 5) + 1)) 7 ((c 7) + 1))))]) 0 10 (fun _ h => List.mem_cons_of_mem _ (List.mem_append_right _ h)) tyX3 tyX3_ok nmX3 (List.mem_of_getElem? (i := 2) rfl) rfl rfl (by decide) rfl (tyX3_ok 10 (by decide)) rfl rfl (by first | decide | exact Nat.le_of_ble_eq_true rfl) dX3_reject_29 rfl rfl ?_
    exact g_vret hRet dX3_reject_32 (by first | (rw [if_pos (by assumption)]; done) | (rw [if_neg (by assumption)]; rfl))

set_option maxHeartbeats 4000000 in
set_option maxRecDepth 100000 in
theorem c_giveOn_t (E : Ev) (h : Nat) (sa : Nat) (n : Int) (ah : Value) (c : Int → Int) (s : Int → Int) (hc : mOk c) (hs : sOk s) (hg : c 0 < s 3) : MI yX3_giveOn wsX3_giveOn ({ frames := 0, cells := 0, slots := 0, locals := 0 } : Room) E [] 0 0 [.ref h] [(h, oo 3 (fMa n ah sa c)), (sa, aI E 4 s)] (fun r u => r = iI 1 ∧ u = [(h, oo 3 (fMa n ah sa (up (up c 0 (c 0 + 1)) 2 0))), (sa, aI E 4 s)]) := by
  refine MI.of (cc := cX3_giveOn) (maxL := 1) (own := RX3) (by decide) rfl rfl rfl (Nat.le_of_ble_eq_true rfl) [(0, .ref h)] rfl ?_
  intro X hin2 hRet
  refine g_aload_n 0 dX3_giveOn_0 rfl rfl ?_
  refine g_get (v := .int (iI (c 0))) (C := RX3) (T := TX3) (N := 14) 0 3 (fun _ h => List.mem_cons_of_mem _ (List.mem_append_right _ h)) (List.mem_of_getElem? (i := 1) rfl) rfl rfl (by decide) rfl rfl dX3_giveOn_1 ?_
  refine g_aload_n 0 dX3_giveOn_4 rfl rfl ?_
  refine g_get (v := .ref sa) (C := RX3) (T := TX3) (N := 14) 0 2 (fun _ h => List.mem_cons_of_mem _ (List.mem_append_right _ h)) (List.mem_of_getElem? (i := 2) rfl) rfl rfl (by decide) rfl rfl dX3_giveOn_5 ?_
  refine g_iconst dX3_giveOn_8 ?_
  refine g_iald 1 dX3_giveOn_9 rfl (by decide) (by omega) (by omega) ?_
  refine g_icmp_lt (tgt := 15) (by (try unfold mOk at *); (try unfold sOk at *); unfold R32; omega) (by (try unfold mOk at *); (try unfold sOk at *); unfold R32; omega) dX3_giveOn_10 rfl (fun c_1 => ?_) (fun c_1 => ?_)
  · refine g_aload_n 0 dX3_giveOn_15 rfl rfl ?_
    refine g_dup dX3_giveOn_16 rfl ?_
    refine g_get (v := .int (iI (c 0))) (C := RX3) (T := TX3) (N := 14) 0 3 (fun _ h => List.mem_cons_of_mem _ (List.mem_append_right _ h)) (List.mem_of_getElem? (i := 1) rfl) rfl rfl (by decide) rfl rfl dX3_giveOn_17 ?_
    refine g_iconst dX3_giveOn_20 ?_
    refine g_iadd dX3_giveOn_21 ?_
    refine g_put (C := RX3) (T := TX3) (N := 14) (ws1 := [(h, oo 3 (fMa n ah sa (up c 0 ((c 0) + 1)))), (sa, aI E 4 s)]) 0 3 (fun _ h => List.mem_cons_of_mem _ (List.mem_append_right _ h)) tyX3 tyX3_ok nmX3 (List.mem_of_getElem? (i := 1) rfl) rfl rfl (by decide) rfl (tyX3_ok 3 (by decide)) rfl rfl (by first | decide | exact Nat.le_of_ble_eq_true rfl) dX3_giveOn_22 rfl rfl ?_
    refine g_aload_n 0 dX3_giveOn_25 rfl rfl ?_
    refine g_iconst dX3_giveOn_26 ?_
    refine g_put (C := RX3) (T := TX3) (N := 14) (ws1 := [(h, oo 3 (fMa n ah sa (up (up c 0 ((c 0) + 1)) 2 0))), (sa, aI E 4 s)]) 0 5 (fun _ h => List.mem_cons_of_mem _ (List.mem_append_right _ h)) tyX3 tyX3_ok nmX3 (List.mem_of_getElem? (i := 3) rfl) rfl rfl (by decide) rfl (tyX3_ok 5 (by decide)) rfl rfl (by first | decide | exact Nat.le_of_ble_eq_true rfl) dX3_giveOn_27 rfl rfl ?_
    refine g_iconst dX3_giveOn_30 ?_
    exact g_iret hRet dX3_giveOn_31 rfl ⟨rfl, rfl⟩
  · exact absurd hg (by assumption)

set_option maxHeartbeats 4000000 in
set_option maxRecDepth 100000 in
theorem c_giveOn_f (E : Ev) (h : Nat) (sa : Nat) (n : Int) (ah : Value) (c : Int → Int) (s : Int → Int) (hc : mOk c) (hs : sOk s) (hg : ¬ c 0 < s 3) : MI yX3_giveOn wsX3_giveOn ({ frames := 0, cells := 0, slots := 0, locals := 0 } : Room) E [] 0 0 [.ref h] [(h, oo 3 (fMa n ah sa c)), (sa, aI E 4 s)] (fun r u => r = iI 0 ∧ u = [(h, oo 3 (fMa n ah sa c)), (sa, aI E 4 s)]) := by
  refine MI.of (cc := cX3_giveOn) (maxL := 1) (own := RX3) (by decide) rfl rfl rfl (Nat.le_of_ble_eq_true rfl) [(0, .ref h)] rfl ?_
  intro X hin2 hRet
  refine g_aload_n 0 dX3_giveOn_0 rfl rfl ?_
  refine g_get (v := .int (iI (c 0))) (C := RX3) (T := TX3) (N := 14) 0 3 (fun _ h => List.mem_cons_of_mem _ (List.mem_append_right _ h)) (List.mem_of_getElem? (i := 1) rfl) rfl rfl (by decide) rfl rfl dX3_giveOn_1 ?_
  refine g_aload_n 0 dX3_giveOn_4 rfl rfl ?_
  refine g_get (v := .ref sa) (C := RX3) (T := TX3) (N := 14) 0 2 (fun _ h => List.mem_cons_of_mem _ (List.mem_append_right _ h)) (List.mem_of_getElem? (i := 2) rfl) rfl rfl (by decide) rfl rfl dX3_giveOn_5 ?_
  refine g_iconst dX3_giveOn_8 ?_
  refine g_iald 1 dX3_giveOn_9 rfl (by decide) (by omega) (by omega) ?_
  refine g_icmp_lt (tgt := 15) (by (try unfold mOk at *); (try unfold sOk at *); unfold R32; omega) (by (try unfold mOk at *); (try unfold sOk at *); unfold R32; omega) dX3_giveOn_10 rfl (fun c_1 => ?_) (fun c_1 => ?_)
  · exact absurd (by assumption) hg
  · refine g_iconst dX3_giveOn_13 ?_
    exact g_iret hRet dX3_giveOn_14 rfl ⟨rfl, rfl⟩

set_option maxHeartbeats 4000000 in
set_option maxRecDepth 100000 in
theorem c_passes_r (E : Ev) (h : Nat) (sa : Nat) (n : Int) (ah : Value) (c : Int → Int) (s : Int → Int) (tick : Int) (hc : mOk c) (hs : sOk s) (h_tick : -2147483648 ≤ tick ∧ tick ≤ 2147483647) (ht : 0 ≤ tick ∧ tick ≤ 10000) (hp : s 1 ≠ 0 ∧ rmI (c 4 + 1) (s 1) = 0) : MI yX3_passes wsX3_passes ({ frames := 1, cells := 0, slots := 0, locals := 21 } : Room) E [] 0 0 [.ref h, .int (iI tick)] [(h, oo 3 (fMa n ah sa c)), (sa, aI E 4 s)] (fun r u => r = iI 0 ∧ u = [(h, oo 3 (fMa n ah sa (up (up (up (up (up (up c 1 0) 3 0) 4 (c 4 + 1)) 5 (c 5 + 1)) 8 (if c 7 = 0 then tick else c 8)) 7 (c 7 + 1)))), (sa, aI E 4 s)]) := by
  refine MI.of (cc := cX3_passes) (maxL := 2) (own := RX3) (by decide) rfl rfl rfl (Nat.le_of_ble_eq_true rfl) [(0, .ref h), (1, .int (iI tick))] rfl ?_
  intro X hin2 hRet
  refine g_aload_n 0 dX3_passes_0 rfl rfl ?_
  refine g_iconst dX3_passes_1 ?_
  refine g_put (C := RX3) (T := TX3) (N := 14) (ws1 := [(h, oo 3 (fMa n ah sa (up c 1 0))), (sa, aI E 4 s)]) 0 4 (fun _ h => List.mem_cons_of_mem _ (List.mem_append_right _ h)) tyX3 tyX3_ok nmX3 (List.mem_of_getElem? (i := 1) rfl) rfl rfl (by decide) rfl (tyX3_ok 4 (by decide)) rfl rfl (by first | decide | exact Nat.le_of_ble_eq_true rfl) dX3_passes_2 rfl rfl ?_
  refine g_aload_n 0 dX3_passes_5 rfl rfl ?_
  refine g_iconst dX3_passes_6 ?_
  refine g_put (C := RX3) (T := TX3) (N := 14) (ws1 := [(h, oo 3 (fMa n ah sa (up (up c 1 0) 3 0))), (sa, aI E 4 s)]) 0 6 (fun _ h => List.mem_cons_of_mem _ (List.mem_append_right _ h)) tyX3 tyX3_ok nmX3 (List.mem_of_getElem? (i := 2) rfl) rfl rfl (by decide) rfl (tyX3_ok 6 (by decide)) rfl rfl (by first | decide | exact Nat.le_of_ble_eq_true rfl) dX3_passes_7 rfl rfl ?_
  refine g_aload_n 0 dX3_passes_10 rfl rfl ?_
  refine g_dup dX3_passes_11 rfl ?_
  refine g_get (v := .int (iI (c 4))) (C := RX3) (T := TX3) (N := 14) 0 7 (fun _ h => List.mem_cons_of_mem _ (List.mem_append_right _ h)) (List.mem_of_getElem? (i := 3) rfl) rfl rfl (by decide) rfl rfl dX3_passes_12 ?_
  refine g_iconst dX3_passes_15 ?_
  refine g_iadd dX3_passes_16 ?_
  refine g_put (C := RX3) (T := TX3) (N := 14) (ws1 := [(h, oo 3 (fMa n ah sa (up (up (up c 1 0) 3 0) 4 ((c 4) + 1)))), (sa, aI E 4 s)]) 0 7 (fun _ h => List.mem_cons_of_mem _ (List.mem_append_right _ h)) tyX3 tyX3_ok nmX3 (List.mem_of_getElem? (i := 3) rfl) rfl rfl (by decide) rfl (tyX3_ok 7 (by decide)) rfl rfl (by first | decide | exact Nat.le_of_ble_eq_true rfl) dX3_passes_17 rfl rfl ?_
  refine g_aload_n 0 dX3_passes_20 rfl rfl ?_
  refine g_aload_n 0 dX3_passes_21 rfl rfl ?_
  refine g_get (v := .ref sa) (C := RX3) (T := TX3) (N := 14) 0 2 (fun _ h => List.mem_cons_of_mem _ (List.mem_append_right _ h)) (List.mem_of_getElem? (i := 4) rfl) rfl rfl (by decide) rfl rfl dX3_passes_22 ?_
  refine g_iconst dX3_passes_25 ?_
  refine g_iald 1 dX3_passes_26 rfl (by decide) (by omega) (by omega) ?_
  refine g_callV_i (n := 1) (As := [.int (iI (s 1))]) (wr := [(sa, aI E 4 s)]) (C := RX3) [] (c_X3_isEach E h sa n ah (up (up (up c 1 0) 3 0) 4 ((c 4) + 1)) (s 1) (by unfold mOk at *; simp [up]; omega) (by unfold sOk at *; omega) (by unfold sOk at *; omega)) [0] [1] 0 rfl rfl gX3_passes_X3_isEach rfl ⟨rfl, by decide +kernel⟩ ⟨by decide, by decide⟩ rfl rfl rfl rfl rfl (by decide) rfl (by decide) (by decide) (fun _ h => absurd h List.not_mem_nil) dX3_passes_27 rfl (Nat.le_of_ble_eq_true rfl) ⟨by decide, by decide⟩ (fun r u p_1 => ?_)
  obtain ⟨rfl, rfl⟩ := p_1
  refine g_perm (ws1 := [(h, oo 3 (fMa n ah sa (up (up (up c 1 0) 3 0) 4 ((c 4) + 1)))), (sa, aI E 4 s)]) [1, 0] rfl (by decide) rfl ?_
  refine g_as (st1 := [.int (iI (bI ((s 1) ≠ 0 ∧ rmI (((c 4) + 1)) (s 1) = 0)))]) ?_ rfl rfl rfl
  refine g_if_eq_b (tgt := 40) dX3_passes_30 rfl (fun c_2 => ?_) (fun c_2 => ?_)
  · refine g_aload_n 0 dX3_passes_33 rfl rfl ?_
    refine g_iload_n 1 dX3_passes_34 rfl rfl ?_
    refine g_callV_v (n := 1) (As := [.int (iI tick)]) (wr := [(sa, aI E 4 s)]) (C := RX3) [] (c_X3_reject E h sa n ah (up (up (up c 1 0) 3 0) 4 ((c 4) + 1)) tick (by unfold mOk at *; simp [up]; omega) (by omega)) [0] [1] 0 rfl rfl gX3_passes_X3_reject rfl ⟨rfl, by decide +kernel⟩ ⟨by decide, by decide⟩ rfl rfl rfl rfl rfl (by decide) rfl (by decide) (by decide) (fun _ h => absurd h List.not_mem_nil) dX3_passes_35 rfl (Nat.le_of_ble_eq_true rfl) ⟨by decide, by decide⟩ (fun u p_3 => ?_)
    subst p_3
    refine g_perm (ws1 := [(h, oo 3 (fMa n ah sa (up (up (up (up (up (up c 1 0) 3 0) 4 ((c 4) + 1)) 5 ((((c 5))) + 1)) 8 (if (((c 7))) = 0 then tick else (((c 8))))) 7 ((((c 7))) + 1)))), (sa, aI E 4 s)]) [1, 0] rfl (by decide) rfl ?_
    refine g_iconst dX3_passes_38 ?_
    exact g_iret hRet dX3_passes_39 rfl ⟨rfl, rfl⟩
  · exact absurd hp (by assumption)

set_option maxHeartbeats 4000000 in
set_option maxRecDepth 100000 in
theorem c_passes_s (E : Ev) (h : Nat) (sa : Nat) (n : Int) (ah : Value) (c : Int → Int) (s : Int → Int) (tick : Int) (hc : mOk c) (hs : sOk s) (h_tick : -2147483648 ≤ tick ∧ tick ≤ 2147483647) (ht : 0 ≤ tick ∧ tick ≤ 10000) (hp : ¬ (s 1 ≠ 0 ∧ rmI (c 4 + 1) (s 1) = 0)) (hp2 : s 2 ≠ 0 ∧ rmI (c 4 + 1) (s 2) = 0) : MI yX3_passes wsX3_passes ({ frames := 1, cells := 0, slots := 0, locals := 21 } : Room) E [] 0 0 [.ref h, .int (iI tick)] [(h, oo 3 (fMa n ah sa c)), (sa, aI E 4 s)] (fun r u => r = iI 0 ∧ u = [(h, oo 3 (fMa n ah sa (up (up (up (up c 1 0) 3 0) 4 (c 4 + 1)) 6 (c 6 + 1)))), (sa, aI E 4 s)]) := by
  refine MI.of (cc := cX3_passes) (maxL := 2) (own := RX3) (by decide) rfl rfl rfl (Nat.le_of_ble_eq_true rfl) [(0, .ref h), (1, .int (iI tick))] rfl ?_
  intro X hin2 hRet
  refine g_aload_n 0 dX3_passes_0 rfl rfl ?_
  refine g_iconst dX3_passes_1 ?_
  refine g_put (C := RX3) (T := TX3) (N := 14) (ws1 := [(h, oo 3 (fMa n ah sa (up c 1 0))), (sa, aI E 4 s)]) 0 4 (fun _ h => List.mem_cons_of_mem _ (List.mem_append_right _ h)) tyX3 tyX3_ok nmX3 (List.mem_of_getElem? (i := 1) rfl) rfl rfl (by decide) rfl (tyX3_ok 4 (by decide)) rfl rfl (by first | decide | exact Nat.le_of_ble_eq_true rfl) dX3_passes_2 rfl rfl ?_
  refine g_aload_n 0 dX3_passes_5 rfl rfl ?_
  refine g_iconst dX3_passes_6 ?_
  refine g_put (C := RX3) (T := TX3) (N := 14) (ws1 := [(h, oo 3 (fMa n ah sa (up (up c 1 0) 3 0))), (sa, aI E 4 s)]) 0 6 (fun _ h => List.mem_cons_of_mem _ (List.mem_append_right _ h)) tyX3 tyX3_ok nmX3 (List.mem_of_getElem? (i := 2) rfl) rfl rfl (by decide) rfl (tyX3_ok 6 (by decide)) rfl rfl (by first | decide | exact Nat.le_of_ble_eq_true rfl) dX3_passes_7 rfl rfl ?_
  refine g_aload_n 0 dX3_passes_10 rfl rfl ?_
  refine g_dup dX3_passes_11 rfl ?_
  refine g_get (v := .int (iI (c 4))) (C := RX3) (T := TX3) (N := 14) 0 7 (fun _ h => List.mem_cons_of_mem _ (List.mem_append_right _ h)) (List.mem_of_getElem? (i := 3) rfl) rfl rfl (by decide) rfl rfl dX3_passes_12 ?_
  refine g_iconst dX3_passes_15 ?_
  refine g_iadd dX3_passes_16 ?_
  refine g_put (C := RX3) (T := TX3) (N := 14) (ws1 := [(h, oo 3 (fMa n ah sa (up (up (up c 1 0) 3 0) 4 ((c 4) + 1)))), (sa, aI E 4 s)]) 0 7 (fun _ h => List.mem_cons_of_mem _ (List.mem_append_right _ h)) tyX3 tyX3_ok nmX3 (List.mem_of_getElem? (i := 3) rfl) rfl rfl (by decide) rfl (tyX3_ok 7 (by decide)) rfl rfl (by first | decide | exact Nat.le_of_ble_eq_true rfl) dX3_passes_17 rfl rfl ?_
  refine g_aload_n 0 dX3_passes_20 rfl rfl ?_
  refine g_aload_n 0 dX3_passes_21 rfl rfl ?_
  refine g_get (v := .ref sa) (C := RX3) (T := TX3) (N := 14) 0 2 (fun _ h => List.mem_cons_of_mem _ (List.mem_append_right _ h)) (List.mem_of_getElem? (i := 4) rfl) rfl rfl (by decide) rfl rfl dX3_passes_22 ?_
  refine g_iconst dX3_passes_25 ?_
  refine g_iald 1 dX3_passes_26 rfl (by decide) (by omega) (by omega) ?_
  refine g_callV_i (n := 1) (As := [.int (iI (s 1))]) (wr := [(sa, aI E 4 s)]) (C := RX3) [] (c_X3_isEach E h sa n ah (up (up (up c 1 0) 3 0) 4 ((c 4) + 1)) (s 1) (by unfold mOk at *; simp [up]; omega) (by unfold sOk at *; omega) (by unfold sOk at *; omega)) [0] [1] 0 rfl rfl gX3_passes_X3_isEach rfl ⟨rfl, by decide +kernel⟩ ⟨by decide, by decide⟩ rfl rfl rfl rfl rfl (by decide) rfl (by decide) (by decide) (fun _ h => absurd h List.not_mem_nil) dX3_passes_27 rfl (Nat.le_of_ble_eq_true rfl) ⟨by decide, by decide⟩ (fun r u p_1 => ?_)
  obtain ⟨rfl, rfl⟩ := p_1
  refine g_perm (ws1 := [(h, oo 3 (fMa n ah sa (up (up (up c 1 0) 3 0) 4 ((c 4) + 1)))), (sa, aI E 4 s)]) [1, 0] rfl (by decide) rfl ?_
  refine g_as (st1 := [.int (iI (bI ((s 1) ≠ 0 ∧ rmI (((c 4) + 1)) (s 1) = 0)))]) ?_ rfl rfl rfl
  refine g_if_eq_b (tgt := 40) dX3_passes_30 rfl (fun c_2 => ?_) (fun c_2 => ?_)
  · exact absurd (by assumption) hp
  · refine g_aload_n 0 dX3_passes_40 rfl rfl ?_
    refine g_aload_n 0 dX3_passes_41 rfl rfl ?_
    refine g_get (v := .ref sa) (C := RX3) (T := TX3) (N := 14) 0 2 (fun _ h => List.mem_cons_of_mem _ (List.mem_append_right _ h)) (List.mem_of_getElem? (i := 4) rfl) rfl rfl (by decide) rfl rfl dX3_passes_42 ?_
    refine g_iconst dX3_passes_45 ?_
    refine g_iald 1 dX3_passes_46 rfl (by decide) (by omega) (by omega) ?_
    refine g_callV_i (n := 1) (As := [.int (iI (s 2))]) (wr := [(sa, aI E 4 s)]) (C := RX3) [] (c_X3_isEach E h sa n ah (up (up (up c 1 0) 3 0) 4 ((c 4) + 1)) (s 2) (by unfold mOk at *; simp [up]; omega) (by unfold sOk at *; omega) (by unfold sOk at *; omega)) [0] [1] 0 rfl rfl gX3_passes_X3_isEach rfl ⟨rfl, by decide +kernel⟩ ⟨by decide, by decide⟩ rfl rfl rfl rfl rfl (by decide) rfl (by decide) (by decide) (fun _ h => absurd h List.not_mem_nil) dX3_passes_47 rfl (Nat.le_of_ble_eq_true rfl) ⟨by decide, by decide⟩ (fun r u p_3 => ?_)
    obtain ⟨rfl, rfl⟩ := p_3
    refine g_perm (ws1 := [(h, oo 3 (fMa n ah sa (up (up (up c 1 0) 3 0) 4 ((c 4) + 1)))), (sa, aI E 4 s)]) [1, 0] rfl (by decide) rfl ?_
    refine g_as (st1 := [.int (iI (bI ((s 2) ≠ 0 ∧ rmI (((c 4) + 1)) (s 2) = 0)))]) ?_ rfl rfl rfl
    refine g_if_eq_b (tgt := 65) dX3_passes_50 rfl (fun c_4 => ?_) (fun c_4 => ?_)
    · refine g_aload_n 0 dX3_passes_53 rfl rfl ?_
      refine g_dup dX3_passes_54 rfl ?_
      refine g_get (v := .int (iI ((up (up (up c 1 0) 3 0) 4 ((c 4) + 1)) 6))) (C := RX3) (T := TX3) (N := 14) 0 9 (fun _ h => List.mem_cons_of_mem _ (List.mem_append_right _ h)) (List.mem_of_getElem? (i := 5) rfl) rfl rfl (by decide) rfl rfl dX3_passes_55 ?_
      refine g_iconst dX3_passes_58 ?_
      refine g_iadd dX3_passes_59 ?_
      refine g_put (C := RX3) (T := TX3) (N := 14) (ws1 := [(h, oo 3 (fMa n ah sa (up (up (up (up c 1 0) 3 0) 4 ((c 4) + 1)) 6 (((up (up (up c 1 0) 3 0) 4 ((c 4) + 1)) 6) + 1)))), (sa, aI E 4 s)]) 0 9 (fun _ h => List.mem_cons_of_mem _ (List.mem_append_right _ h)) tyX3 tyX3_ok nmX3 (List.mem_of_getElem? (i := 5) rfl) rfl rfl (by decide) rfl (tyX3_ok 9 (by decide)) rfl rfl (by first | decide | exact Nat.le_of_ble_eq_true rfl) dX3_passes_60 rfl rfl ?_
      refine g_iconst dX3_passes_63 ?_
      exact g_iret hRet dX3_passes_64 rfl ⟨rfl, rfl⟩
    · exact absurd hp2 (by assumption)

set_option maxHeartbeats 4000000 in
set_option maxRecDepth 100000 in
theorem c_passes_o (E : Ev) (h : Nat) (sa : Nat) (n : Int) (ah : Value) (c : Int → Int) (s : Int → Int) (tick : Int) (hc : mOk c) (hs : sOk s) (h_tick : -2147483648 ≤ tick ∧ tick ≤ 2147483647) (ht : 0 ≤ tick ∧ tick ≤ 10000) (hp : ¬ (s 1 ≠ 0 ∧ rmI (c 4 + 1) (s 1) = 0)) (hp2 : ¬ (s 2 ≠ 0 ∧ rmI (c 4 + 1) (s 2) = 0)) : MI yX3_passes wsX3_passes ({ frames := 1, cells := 0, slots := 0, locals := 21 } : Room) E [] 0 0 [.ref h, .int (iI tick)] [(h, oo 3 (fMa n ah sa c)), (sa, aI E 4 s)] (fun r u => r = iI 1 ∧ u = [(h, oo 3 (fMa n ah sa (up (up (up c 1 0) 3 0) 4 (c 4 + 1)))), (sa, aI E 4 s)]) := by
  refine MI.of (cc := cX3_passes) (maxL := 2) (own := RX3) (by decide) rfl rfl rfl (Nat.le_of_ble_eq_true rfl) [(0, .ref h), (1, .int (iI tick))] rfl ?_
  intro X hin2 hRet
  refine g_aload_n 0 dX3_passes_0 rfl rfl ?_
  refine g_iconst dX3_passes_1 ?_
  refine g_put (C := RX3) (T := TX3) (N := 14) (ws1 := [(h, oo 3 (fMa n ah sa (up c 1 0))), (sa, aI E 4 s)]) 0 4 (fun _ h => List.mem_cons_of_mem _ (List.mem_append_right _ h)) tyX3 tyX3_ok nmX3 (List.mem_of_getElem? (i := 1) rfl) rfl rfl (by decide) rfl (tyX3_ok 4 (by decide)) rfl rfl (by first | decide | exact Nat.le_of_ble_eq_true rfl) dX3_passes_2 rfl rfl ?_
  refine g_aload_n 0 dX3_passes_5 rfl rfl ?_
  refine g_iconst dX3_passes_6 ?_
  refine g_put (C := RX3) (T := TX3) (N := 14) (ws1 := [(h, oo 3 (fMa n ah sa (up (up c 1 0) 3 0))), (sa, aI E 4 s)]) 0 6 (fun _ h => List.mem_cons_of_mem _ (List.mem_append_right _ h)) tyX3 tyX3_ok nmX3 (List.mem_of_getElem? (i := 2) rfl) rfl rfl (by decide) rfl (tyX3_ok 6 (by decide)) rfl rfl (by first | decide | exact Nat.le_of_ble_eq_true rfl) dX3_passes_7 rfl rfl ?_
  refine g_aload_n 0 dX3_passes_10 rfl rfl ?_
  refine g_dup dX3_passes_11 rfl ?_
  refine g_get (v := .int (iI (c 4))) (C := RX3) (T := TX3) (N := 14) 0 7 (fun _ h => List.mem_cons_of_mem _ (List.mem_append_right _ h)) (List.mem_of_getElem? (i := 3) rfl) rfl rfl (by decide) rfl rfl dX3_passes_12 ?_
  refine g_iconst dX3_passes_15 ?_
  refine g_iadd dX3_passes_16 ?_
  refine g_put (C := RX3) (T := TX3) (N := 14) (ws1 := [(h, oo 3 (fMa n ah sa (up (up (up c 1 0) 3 0) 4 ((c 4) + 1)))), (sa, aI E 4 s)]) 0 7 (fun _ h => List.mem_cons_of_mem _ (List.mem_append_right _ h)) tyX3 tyX3_ok nmX3 (List.mem_of_getElem? (i := 3) rfl) rfl rfl (by decide) rfl (tyX3_ok 7 (by decide)) rfl rfl (by first | decide | exact Nat.le_of_ble_eq_true rfl) dX3_passes_17 rfl rfl ?_
  refine g_aload_n 0 dX3_passes_20 rfl rfl ?_
  refine g_aload_n 0 dX3_passes_21 rfl rfl ?_
  refine g_get (v := .ref sa) (C := RX3) (T := TX3) (N := 14) 0 2 (fun _ h => List.mem_cons_of_mem _ (List.mem_append_right _ h)) (List.mem_of_getElem? (i := 4) rfl) rfl rfl (by decide) rfl rfl dX3_passes_22 ?_
  refine g_iconst dX3_passes_25 ?_
  refine g_iald 1 dX3_passes_26 rfl (by decide) (by omega) (by omega) ?_
  refine g_callV_i (n := 1) (As := [.int (iI (s 1))]) (wr := [(sa, aI E 4 s)]) (C := RX3) [] (c_X3_isEach E h sa n ah (up (up (up c 1 0) 3 0) 4 ((c 4) + 1)) (s 1) (by unfold mOk at *; simp [up]; omega) (by unfold sOk at *; omega) (by unfold sOk at *; omega)) [0] [1] 0 rfl rfl gX3_passes_X3_isEach rfl ⟨rfl, by decide +kernel⟩ ⟨by decide, by decide⟩ rfl rfl rfl rfl rfl (by decide) rfl (by decide) (by decide) (fun _ h => absurd h List.not_mem_nil) dX3_passes_27 rfl (Nat.le_of_ble_eq_true rfl) ⟨by decide, by decide⟩ (fun r u p_1 => ?_)
  obtain ⟨rfl, rfl⟩ := p_1
  refine g_perm (ws1 := [(h, oo 3 (fMa n ah sa (up (up (up c 1 0) 3 0) 4 ((c 4) + 1)))), (sa, aI E 4 s)]) [1, 0] rfl (by decide) rfl ?_
  refine g_as (st1 := [.int (iI (bI ((s 1) ≠ 0 ∧ rmI (((c 4) + 1)) (s 1) = 0)))]) ?_ rfl rfl rfl
  refine g_if_eq_b (tgt := 40) dX3_passes_30 rfl (fun c_2 => ?_) (fun c_2 => ?_)
  · exact absurd (by assumption) hp
  · refine g_aload_n 0 dX3_passes_40 rfl rfl ?_
    refine g_aload_n 0 dX3_passes_41 rfl rfl ?_
    refine g_get (v := .ref sa) (C := RX3) (T := TX3) (N := 14) 0 2 (fun _ h => List.mem_cons_of_mem _ (List.mem_append_right _ h)) (List.mem_of_getElem? (i := 4) rfl) rfl rfl (by decide) rfl rfl dX3_passes_42 ?_
    refine g_iconst dX3_passes_45 ?_
    refine g_iald 1 dX3_passes_46 rfl (by decide) (by omega) (by omega) ?_
    refine g_callV_i (n := 1) (As := [.int (iI (s 2))]) (wr := [(sa, aI E 4 s)]) (C := RX3) [] (c_X3_isEach E h sa n ah (up (up (up c 1 0) 3 0) 4 ((c 4) + 1)) (s 2) (by unfold mOk at *; simp [up]; omega) (by unfold sOk at *; omega) (by unfold sOk at *; omega)) [0] [1] 0 rfl rfl gX3_passes_X3_isEach rfl ⟨rfl, by decide +kernel⟩ ⟨by decide, by decide⟩ rfl rfl rfl rfl rfl (by decide) rfl (by decide) (by decide) (fun _ h => absurd h List.not_mem_nil) dX3_passes_47 rfl (Nat.le_of_ble_eq_true rfl) ⟨by decide, by decide⟩ (fun r u p_3 => ?_)
    obtain ⟨rfl, rfl⟩ := p_3
    refine g_perm (ws1 := [(h, oo 3 (fMa n ah sa (up (up (up c 1 0) 3 0) 4 ((c 4) + 1)))), (sa, aI E 4 s)]) [1, 0] rfl (by decide) rfl ?_
    refine g_as (st1 := [.int (iI (bI ((s 2) ≠ 0 ∧ rmI (((c 4) + 1)) (s 2) = 0)))]) ?_ rfl rfl rfl
    refine g_if_eq_b (tgt := 65) dX3_passes_50 rfl (fun c_4 => ?_) (fun c_4 => ?_)
    · exact absurd (by assumption) hp2
    · refine g_iconst dX3_passes_65 ?_
      exact g_iret hRet dX3_passes_66 rfl ⟨rfl, rfl⟩

set_option maxHeartbeats 4000000 in
set_option maxRecDepth 100000 in
theorem c_X2_clear (E : Ev) (fo : Nat) (f1 : Nat) (f2 : Nat) (f3 : Nat) (nf : Int)  : MV yX2_clear wsX2_clear ({ frames := 0, cells := 0, slots := 0, locals := 0 } : Room) E [] 0 0 [.ref fo] [(fo, oo 2 [.ref f1, .ref f2, .ref f3, .int (iI nf)])] (fun u => u = [(fo, oo 2 [.ref f1, .ref f2, .ref f3, .int (iI 0)])]) := by
  refine MV.of (cc := cX2_clear) (maxL := 1) (own := RX2) (by decide) rfl rfl rfl (Nat.le_of_ble_eq_true rfl) [(0, .ref fo)] rfl ?_
  intro X hin2 hRet
  refine g_aload_n 0 dX2_clear_0 rfl rfl ?_
  refine g_iconst dX2_clear_1 ?_
  refine g_put (C := RX2) (T := TX2) (N := 4) (ws1 := [(fo, oo 2 [.ref f1, .ref f2, .ref f3, .int (iI 0)])]) 0 3 (fun _ h => List.mem_cons_of_mem _ (List.mem_append_right _ h)) tyX2 tyX2_ok nmX2 (List.mem_of_getElem? (i := 1) rfl) rfl rfl (by decide) rfl (tyX2_ok 3 (by decide)) rfl rfl (by first | decide | exact Nat.le_of_ble_eq_true rfl) dX2_clear_2 rfl rfl ?_
  exact g_vret hRet dX2_clear_5 rfl

def sFault (nf : Int) (fm fa fb : Int → Int) (k a b x nf' : Int) (fm' fa' fb' : Int → Int) : Prop :=
  if 8 ≤ nf then x = -3 ∧ nf' = nf ∧ fm' = fm ∧ fa' = fa ∧ fb' = fb else x = nf + 1 ∧ nf' = nf + 1 ∧ fm' = up fm nf k ∧ fa' = up fa nf a ∧ fb' = up fb nf b

set_option maxHeartbeats 4000000 in
set_option maxRecDepth 100000 in
theorem c_X2_add (E : Ev) (fo : Nat) (f1 : Nat) (f2 : Nat) (f3 : Nat) (nf : Int) (fm : Int → Int) (fa : Int → Int) (fb : Int → Int) (k : Int) (a : Int) (b : Int) (hnf : 0 ≤ nf ∧ nf ≤ 8) (hfm : ∀ k, 0 ≤ fm k ∧ fm k ≤ 5) (hfa : ∀ k, 0 ≤ fa k ∧ fa k ≤ 9999) (hfb : ∀ k, 0 ≤ fb k ∧ fb k ≤ 9999) : MI yX2_add wsX2_add ({ frames := 0, cells := 0, slots := 0, locals := 0 } : Room) E [] 0 0 [.ref fo, .int (iI k), .int (iI a), .int (iI b)] [(fo, oo 2 [.ref f1, .ref f2, .ref f3, .int (iI nf)]), (f1, aI E 8 fm), (f2, aI E 8 fa), (f3, aI E 8 fb)] (fun r u => ∃ (x : Int), ∃ (nf' : Int), ∃ (fm' : Int → Int), ∃ (fa' : Int → Int), ∃ (fb' : Int → Int), sFault nf fm fa fb k a b x nf' fm' fa' fb' ∧ r = iI x ∧ u = [(fo, oo 2 [.ref f1, .ref f2, .ref f3, .int (iI nf')]), (f1, aI E 8 fm'), (f2, aI E 8 fa'), (f3, aI E 8 fb')]) := by
  refine MI.of (cc := cX2_add) (maxL := 4) (own := RX2) (by decide) rfl rfl rfl (Nat.le_of_ble_eq_true rfl) [(0, .ref fo), (1, .int (iI k)), (2, .int (iI a)), (3, .int (iI b))] rfl ?_
  intro X hin2 hRet
  refine g_aload_n 0 dX2_add_0 rfl rfl ?_
  refine g_get (C := RX2) (T := TX2) (N := 4) 0 3 (fun _ h => List.mem_cons_of_mem _ (List.mem_append_right _ h)) (List.mem_of_getElem? (i := 1) rfl) rfl rfl (by decide) rfl rfl dX2_add_1 ?_
  refine g_bipush dX2_add_4 rfl ?_
  refine g_icmp_lt (tgt := 12) (by unfold R32; omega) (by unfold R32; omega) dX2_add_6 rfl (fun c_1 => ?_) (fun c_1 => ?_)
  · refine g_aload_n 0 dX2_add_12 rfl rfl ?_
    refine g_get (C := RX2) (T := TX2) (N := 4) 0 0 (fun _ h => List.mem_cons_of_mem _ (List.mem_append_right _ h)) (List.mem_of_getElem? (i := 2) rfl) rfl rfl (by decide) rfl rfl dX2_add_13 ?_
    refine g_aload_n 0 dX2_add_16 rfl rfl ?_
    refine g_get (C := RX2) (T := TX2) (N := 4) 0 3 (fun _ h => List.mem_cons_of_mem _ (List.mem_append_right _ h)) (List.mem_of_getElem? (i := 1) rfl) rfl rfl (by decide) rfl rfl dX2_add_17 ?_
    refine g_iload_n 1 dX2_add_20 rfl rfl ?_
    refine g_iast (ws1 := [(fo, oo 2 [.ref f1, .ref f2, .ref f3, .int (iI nf)]), (f1, aI E 8 (up fm nf k)), (f2, aI E 8 fa), (f3, aI E 8 fb)]) 1 dX2_add_21 rfl rfl (by decide) (by omega) (by omega) ?_
    refine g_aload_n 0 dX2_add_22 rfl rfl ?_
    refine g_get (C := RX2) (T := TX2) (N := 4) 0 1 (fun _ h => List.mem_cons_of_mem _ (List.mem_append_right _ h)) (List.mem_of_getElem? (i := 3) rfl) rfl rfl (by decide) rfl rfl dX2_add_23 ?_
    refine g_aload_n 0 dX2_add_26 rfl rfl ?_
    refine g_get (C := RX2) (T := TX2) (N := 4) 0 3 (fun _ h => List.mem_cons_of_mem _ (List.mem_append_right _ h)) (List.mem_of_getElem? (i := 1) rfl) rfl rfl (by decide) rfl rfl dX2_add_27 ?_
    refine g_iload_n 2 dX2_add_30 rfl rfl ?_
    refine g_iast (ws1 := [(fo, oo 2 [.ref f1, .ref f2, .ref f3, .int (iI nf)]), (f1, aI E 8 (up fm nf k)), (f2, aI E 8 (up fa nf a)), (f3, aI E 8 fb)]) 2 dX2_add_31 rfl rfl (by decide) (by omega) (by omega) ?_
    refine g_aload_n 0 dX2_add_32 rfl rfl ?_
    refine g_get (C := RX2) (T := TX2) (N := 4) 0 2 (fun _ h => List.mem_cons_of_mem _ (List.mem_append_right _ h)) (List.mem_of_getElem? (i := 4) rfl) rfl rfl (by decide) rfl rfl dX2_add_33 ?_
    refine g_aload_n 0 dX2_add_36 rfl rfl ?_
    refine g_get (C := RX2) (T := TX2) (N := 4) 0 3 (fun _ h => List.mem_cons_of_mem _ (List.mem_append_right _ h)) (List.mem_of_getElem? (i := 1) rfl) rfl rfl (by decide) rfl rfl dX2_add_37 ?_
    refine g_iload_n 3 dX2_add_40 rfl rfl ?_
    refine g_iast (ws1 := [(fo, oo 2 [.ref f1, .ref f2, .ref f3, .int (iI nf)]), (f1, aI E 8 (up fm nf k)), (f2, aI E 8 (up fa nf a)), (f3, aI E 8 (up fb nf b))]) 3 dX2_add_41 rfl rfl (by decide) (by omega) (by omega) ?_
    refine g_aload_n 0 dX2_add_42 rfl rfl ?_
    refine g_dup dX2_add_43 rfl ?_
    refine g_get (C := RX2) (T := TX2) (N := 4) 0 3 (fun _ h => List.mem_cons_of_mem _ (List.mem_append_right _ h)) (List.mem_of_getElem? (i := 1) rfl) rfl rfl (by decide) rfl rfl dX2_add_44 ?_
    refine g_iconst dX2_add_47 ?_
    refine g_iadd dX2_add_48 ?_
    refine g_put (C := RX2) (T := TX2) (N := 4) (ws1 := [(fo, oo 2 [.ref f1, .ref f2, .ref f3, .int (iI (nf + 1))]), (f1, aI E 8 (up fm nf k)), (f2, aI E 8 (up fa nf a)), (f3, aI E 8 (up fb nf b))]) 0 3 (fun _ h => List.mem_cons_of_mem _ (List.mem_append_right _ h)) tyX2 tyX2_ok nmX2 (List.mem_of_getElem? (i := 1) rfl) rfl rfl (by decide) rfl (tyX2_ok 3 (by decide)) rfl rfl (by first | decide | exact Nat.le_of_ble_eq_true rfl) dX2_add_49 rfl rfl ?_
    refine g_aload_n 0 dX2_add_52 rfl rfl ?_
    refine g_get (C := RX2) (T := TX2) (N := 4) 0 3 (fun _ h => List.mem_cons_of_mem _ (List.mem_append_right _ h)) (List.mem_of_getElem? (i := 1) rfl) rfl rfl (by decide) rfl rfl dX2_add_53 ?_
    exact g_iret hRet dX2_add_56 rfl ⟨(nf + 1), (nf + 1), (up fm nf k), (up fa nf a), (up fb nf b), (by unfold sFault; rw [if_neg (by omega)]; exact ⟨rfl, rfl, rfl, rfl, rfl⟩), rfl, rfl⟩
  · refine g_bipush dX2_add_9 rfl ?_
    exact g_iret hRet dX2_add_11 rfl ⟨(-3), nf, fm, fa, fb, (by unfold sFault; rw [if_pos (by omega)]; exact ⟨rfl, rfl, rfl, rfl, rfl⟩), rfl, rfl⟩

set_option maxHeartbeats 4000000 in
set_option maxRecDepth 100000 in
theorem c_X2_stop (E : Ev) (fo : Nat) (f1 : Nat) (f2 : Nat) (f3 : Nat) (nf : Int) (fm : Int → Int) (fa : Int → Int) (fb : Int → Int) (k : Int) (t : Int) (hnf : 0 ≤ nf ∧ nf ≤ 8) (hfm : ∀ k, 0 ≤ fm k ∧ fm k ≤ 5) (hfa : ∀ k, 0 ≤ fa k ∧ fa k ≤ 9999) (hfb : ∀ k, 0 ≤ fb k ∧ fb k ≤ 9999) (hk : 0 ≤ k ∧ k ≤ 5) (ht : 0 ≤ t ∧ t ≤ 10000) : MI yX2_stop wsX2_stop ({ frames := 1, cells := 0, slots := 0, locals := 22 } : Room) E [] 0 0 [.ref fo, .int (iI k), .int (iI t)] [(fo, oo 2 [.ref f1, .ref f2, .ref f3, .int (iI nf)]), (f1, aI E 8 fm), (f2, aI E 8 fa), (f3, aI E 8 fb)] (fun r u => r = iI (bI (fl fm fa fb k t nf = true)) ∧ u = [(fo, oo 2 [.ref f1, .ref f2, .ref f3, .int (iI nf)]), (f1, aI E 8 fm), (f2, aI E 8 fa), (f3, aI E 8 fb)]) := by
  refine MI.of (cc := cX2_stop) (maxL := 4) (own := RX2) (by decide) rfl rfl rfl (Nat.le_of_ble_eq_true rfl) [(0, .ref fo), (1, .int (iI k)), (2, .int (iI t))] rfl ?_
  intro X hin2 hRet
  refine g_iconst dX2_stop_0 ?_
  refine g_istore_n (lv1 := [(3, .int (iI 0)), (0, .ref fo), (1, .int (iI k)), (2, .int (iI t))]) dX2_stop_1 rfl (by decide) rfl ?_
  refine g_lv (lv1 := [(0, .ref fo), (1, .int (iI k)), (2, .int (iI t)), (3, .int (iI 0))]) [1, 2, 3, 0] rfl ?_
  have L2 : ∀ (nn : Nat) (i : Int) (hi : 0 ≤ i ∧ i ≤ nf) (hf : fl fm fa fb k t i = false) (hm : nf - i < (nn : Int)), G X ({ frames := 1, cells := 0, slots := 0, locals := 22 } : Room) cX2_stop 4 RX2 wsX2_stop E [] 0 0 [(fo, oo 2 [.ref f1, .ref f2, .ref f3, .int (iI nf)]), (f1, aI E 8 fm), (f2, aI E 8 fa), (f3, aI E 8 fb)] [(0, .ref fo), (1, .int (iI k)), (2, .int (iI t)), (3, .int (iI i))] 2 [] := by
    intro nn
    induction nn with
    | zero => intro i hi hf hm; exfalso; omega
    | succ nn ih2 =>
      intro i hi hf hm
      refine g_iload_n 3 dX2_stop_2 rfl rfl ?_
      refine g_aload_n 0 dX2_stop_3 rfl rfl ?_
      refine g_get (C := RX2) (T := TX2) (N := 4) 0 3 (fun _ h => List.mem_cons_of_mem _ (List.mem_append_right _ h)) (List.mem_of_getElem? (i := 1) rfl) rfl rfl (by decide) rfl rfl dX2_stop_4 ?_
      refine g_icmp_ge (tgt := 47) (by unfold R32; omega) (by unfold R32; omega) dX2_stop_7 rfl (fun c_1 => ?_) (fun c_1 => ?_)
      · refine g_iconst dX2_stop_47 ?_
        exact g_iret hRet dX2_stop_48 rfl ⟨(by exact bI_f (by rw [show nf = i by omega, hf]; exact Bool.false_ne_true)), rfl⟩
      · refine g_aload_n 0 dX2_stop_10 rfl rfl ?_
        refine g_get (C := RX2) (T := TX2) (N := 4) 0 0 (fun _ h => List.mem_cons_of_mem _ (List.mem_append_right _ h)) (List.mem_of_getElem? (i := 2) rfl) rfl rfl (by decide) rfl rfl dX2_stop_11 ?_
        refine g_iload_n 3 dX2_stop_14 rfl rfl ?_
        refine g_iald 1 dX2_stop_15 rfl (by decide) (by omega) (by omega) ?_
        have q_2 := hfm i
        refine g_iload_n 1 dX2_stop_16 rfl rfl ?_
        refine g_icmp_ne (tgt := 41) (by unfold R32; omega) (by unfold R32; omega) dX2_stop_17 rfl (fun hk1 => ?_) (fun hk1 => ?_)
        · refine g_iload_n 2 dX2_stop_20 rfl rfl ?_
          refine g_aload_n 0 dX2_stop_21 rfl rfl ?_
          refine g_get (C := RX2) (T := TX2) (N := 4) 0 1 (fun _ h => List.mem_cons_of_mem _ (List.mem_append_right _ h)) (List.mem_of_getElem? (i := 3) rfl) rfl rfl (by decide) rfl rfl dX2_stop_22 ?_
          refine g_iload_n 3 dX2_stop_25 rfl rfl ?_
          refine g_iald 2 dX2_stop_26 rfl (by decide) (by omega) (by omega) ?_
          have q_3 := hfa i
          refine g_aload_n 0 dX2_stop_27 rfl rfl ?_
          refine g_get (C := RX2) (T := TX2) (N := 4) 0 2 (fun _ h => List.mem_cons_of_mem _ (List.mem_append_right _ h)) (List.mem_of_getElem? (i := 4) rfl) rfl rfl (by decide) rfl rfl dX2_stop_28 ?_
          refine g_iload_n 3 dX2_stop_31 rfl rfl ?_
          refine g_iald 3 dX2_stop_32 rfl (by decide) (by omega) (by omega) ?_
          have q_4 := hfb i
          refine g_callN_i (n := 3) (As := [.int (iI t), .int (iI (fa i)), .int (iI (fb i))]) (wr := [(fo, oo 2 [.ref f1, .ref f2, .ref f3, .int (iI nf)]), (f1, aI E 8 fm), (f2, aI E 8 fa), (f3, aI E 8 fb)]) [] (c_X6_within E t (fa i) (fb i) (by omega) (by omega) (by omega)) [] [0, 1, 2, 3] gX2_stop_X6_within_n25 (fun _ h => h.2.2.2.1) (List.mem_of_getElem? (i := 6) rfl) (List.mem_of_getElem? (i := 5) rfl) rfl (by decide +kernel) ⟨by decide, by decide⟩ rfl rfl rfl rfl rfl (by decide) rfl (by decide) (by decide) (fun _ h => absurd h List.not_mem_nil) dX2_stop_33 rfl (Nat.le_of_ble_eq_true rfl) ⟨by decide, by decide⟩ (fun r u p_5 => ?_)
          obtain ⟨rfl, rfl⟩ := p_5
          refine g_perm (ws1 := [(fo, oo 2 [.ref f1, .ref f2, .ref f3, .int (iI nf)]), (f1, aI E 8 fm), (f2, aI E 8 fa), (f3, aI E 8 fb)]) [0, 1, 2, 3] rfl (by decide) rfl ?_
          refine g_if_eq_b (tgt := 41) dX2_stop_36 rfl (fun hin => ?_) (fun hin => ?_)
          · refine g_iconst dX2_stop_39 ?_
            exact g_iret hRet dX2_stop_40 rfl ⟨(by exact bI_t (fl_mono (i := i + 1) (by rw [fl_s _ _ _ _ _ (by omega), hf, Bool.false_or]; simp only [Bool.and_eq_true, decide_eq_true_eq]; omega) (by omega) (by omega))), rfl⟩
          · refine g_iinc (lv1 := [(3, .int (iI (i + 1))), (0, .ref fo), (1, .int (iI k)), (2, .int (iI t))]) 3 dX2_stop_41 rfl (by decide) rfl ?_
            refine g_goto (tgt := 2) dX2_stop_44 rfl ?_
            refine g_lv (lv1 := [(0, .ref fo), (1, .int (iI k)), (2, .int (iI t)), (3, .int (iI (i + 1)))]) [1, 2, 3, 0] rfl ?_
            exact ih2 (i + 1) (by omega) (by rw [fl_s _ _ _ _ _ (by omega), hf, Bool.false_or]; simp only [Bool.and_eq_false_iff, decide_eq_false_iff_not]; omega) (by omega)
        · refine g_iinc (lv1 := [(3, .int (iI (i + 1))), (0, .ref fo), (1, .int (iI k)), (2, .int (iI t))]) 3 dX2_stop_41 rfl (by decide) rfl ?_
          refine g_goto (tgt := 2) dX2_stop_44 rfl ?_
          refine g_lv (lv1 := [(0, .ref fo), (1, .int (iI k)), (2, .int (iI t)), (3, .int (iI (i + 1)))]) [1, 2, 3, 0] rfl ?_
          exact ih2 (i + 1) (by omega) (by rw [fl_s _ _ _ _ _ (by omega), hf, Bool.false_or]; simp only [Bool.and_eq_false_iff, decide_eq_false_iff_not]; omega) (by omega)
  exact L2 _ 0 (by omega) (by rfl) (lt_nn _)

set_option maxHeartbeats 4000000 in
set_option maxRecDepth 100000 in
theorem c_X1_machineAt (E : Ev) (v : Nat) (ma : Nat) (fo : Nat) (la : Nat) (M : Int) (ti : Int) (so : Int) (ta : Int) (go : Int) (sl : Int) (mq : Int → Option Nat) (ad : Int → Nat) (i : Int) (hM : 2 ≤ M ∧ M ≤ 6) (hti : 0 ≤ ti ∧ ti ≤ 10000) (hso : 0 ≤ so ∧ so ≤ 100000) (hgo : 0 ≤ go ∧ go ≤ 20000) (hmq : ∀ k, 0 ≤ k → k < 6 → mq k = some (ad k)) (h_i : -2147483648 ≤ i ∧ i ≤ 2147483647) : MR yX1_machineAt wsX1_machineAt ({ frames := 0, cells := 0, slots := 0, locals := 0 } : Room) E [] 0 0 [.ref v, .int (iI i)] [(v, oo 1 [.ref ma, .int (iI M), .ref fo, .ref la, .int (iI ti), .int (iI so), .int (iI ta), .int (iI go), .int (iI sl)]), (ma, aM E 6 mq)] (fun r u => r = (if 0 ≤ i ∧ i < M then some (ad i) else none) ∧ u = [(v, oo 1 [.ref ma, .int (iI M), .ref fo, .ref la, .int (iI ti), .int (iI so), .int (iI ta), .int (iI go), .int (iI sl)]), (ma, aM E 6 mq)]) := by
  refine MR.of (cc := cX1_machineAt) (maxL := 2) (own := RX1) (by decide) rfl rfl rfl (Nat.le_of_ble_eq_true rfl) [(0, .ref v), (1, .int (iI i))] rfl ?_
  intro X hin2 hRet
  refine g_iload_n 1 dX1_machineAt_0 rfl rfl ?_
  refine g_if_lt (tgt := 27) (by unfold R32; omega) dX1_machineAt_1 rfl (fun c_1 => ?_) (fun c_1 => ?_)
  · refine g_null dX1_machineAt_27 ?_
    exact g_aret none hRet dX1_machineAt_28 rfl ⟨(by first | (rw [if_pos (by omega)]; exact hmq i (by omega) (by omega)) | (rw [if_neg (by omega)]; done)), rfl⟩
  · refine g_iload_n 1 dX1_machineAt_4 rfl rfl ?_
    refine g_aload_n 0 dX1_machineAt_5 rfl rfl ?_
    refine g_get (C := RX1) (T := TX1) (N := 9) 0 1 (fun _ h => List.mem_cons_of_mem _ (List.mem_append_right _ h)) (List.mem_of_getElem? (i := 1) rfl) rfl rfl (by decide) rfl rfl dX1_machineAt_6 ?_
    refine g_icmp_ge (tgt := 27) (by unfold R32; omega) (by unfold R32; omega) dX1_machineAt_9 rfl (fun c_2 => ?_) (fun c_2 => ?_)
    · refine g_null dX1_machineAt_27 ?_
      exact g_aret none hRet dX1_machineAt_28 rfl ⟨(by first | (rw [if_pos (by omega)]; exact hmq i (by omega) (by omega)) | (rw [if_neg (by omega)]; done)), rfl⟩
    · refine g_iload_n 1 dX1_machineAt_12 rfl rfl ?_
      refine g_bipush dX1_machineAt_13 rfl ?_
      refine g_icmp_ge (tgt := 27) (by unfold R32; omega) (by unfold R32; omega) dX1_machineAt_15 rfl (fun c_3 => ?_) (fun c_3 => ?_)
      · refine g_null dX1_machineAt_27 ?_
        exact g_aret none hRet dX1_machineAt_28 rfl ⟨(by first | (rw [if_pos (by omega)]; exact hmq i (by omega) (by omega)) | (rw [if_neg (by omega)]; done)), rfl⟩
      · refine g_aload_n 0 dX1_machineAt_18 rfl rfl ?_
        refine g_get (C := RX1) (T := TX1) (N := 9) 0 0 (fun _ h => List.mem_cons_of_mem _ (List.mem_append_right _ h)) (List.mem_of_getElem? (i := 2) rfl) rfl rfl (by decide) rfl rfl dX1_machineAt_19 ?_
        refine g_iload_n 1 dX1_machineAt_22 rfl rfl ?_
        refine g_aald 1 dX1_machineAt_23 rfl (by decide) (by omega) (by omega) ?_
        refine g_goto (tgt := 28) dX1_machineAt_24 rfl ?_
        exact g_aret (mq i) hRet dX1_machineAt_28 rfl ⟨(by first | (rw [if_pos (by omega)]; exact hmq i (by omega) (by omega)) | (rw [if_neg (by omega)]; done)), rfl⟩

set_option maxHeartbeats 4000000 in
set_option maxRecDepth 100000 in
theorem c_X1_last (E : Ev) (v : Nat) (ma : Nat) (fo : Nat) (la : Nat) (M : Int) (ti : Int) (so : Int) (ta : Int) (go : Int) (sl : Int) (mq : Int → Option Nat) (ad : Int → Nat) (hM : 2 ≤ M ∧ M ≤ 6) (hti : 0 ≤ ti ∧ ti ≤ 10000) (hso : 0 ≤ so ∧ so ≤ 100000) (hgo : 0 ≤ go ∧ go ≤ 20000) (hmq : ∀ k, 0 ≤ k → k < 6 → mq k = some (ad k)) : MR yX1_last wsX1_last ({ frames := 1, cells := 0, slots := 0, locals := 21 } : Room) E [] 0 0 [.ref v] [(v, oo 1 [.ref ma, .int (iI M), .ref fo, .ref la, .int (iI ti), .int (iI so), .int (iI ta), .int (iI go), .int (iI sl)]), (ma, aM E 6 mq)] (fun r u => r = (some (ad (M - 1))) ∧ u = [(v, oo 1 [.ref ma, .int (iI M), .ref fo, .ref la, .int (iI ti), .int (iI so), .int (iI ta), .int (iI go), .int (iI sl)]), (ma, aM E 6 mq)]) := by
  refine MR.of (cc := cX1_last) (maxL := 1) (own := RX1) (by decide) rfl rfl rfl (Nat.le_of_ble_eq_true rfl) [(0, .ref v)] rfl ?_
  intro X hin2 hRet
  refine g_aload_n 0 dX1_last_0 rfl rfl ?_
  refine g_aload_n 0 dX1_last_1 rfl rfl ?_
  refine g_get (C := RX1) (T := TX1) (N := 9) 0 1 (fun _ h => List.mem_cons_of_mem _ (List.mem_append_right _ h)) (List.mem_of_getElem? (i := 1) rfl) rfl rfl (by decide) rfl rfl dX1_last_2 ?_
  refine g_iconst dX1_last_5 ?_
  refine g_isub dX1_last_6 ?_
  refine g_callV_q (n := 1) (As := [.int (iI (M - 1))]) (wr := []) (C := RX1) [] (c_X1_machineAt E v ma fo la M ti so ta go sl mq ad (M - 1) (by omega) (by omega) (by omega) (by omega) (by exact hmq) (by omega)) [0, 1] [] 0 rfl rfl gX1_last_X1_machineAt rfl ⟨rfl, by decide +kernel⟩ ⟨by decide, by decide⟩ rfl rfl rfl rfl rfl (by decide) rfl (by decide) (by decide) (fun _ h => absurd h List.not_mem_nil) dX1_last_7 rfl (Nat.le_of_ble_eq_true rfl) ⟨by decide, by decide⟩ (fun r u p_1 => ?_)
  obtain ⟨rfl, rfl⟩ := p_1
  exact g_aret (if 0 ≤ (M - 1) ∧ (M - 1) < M then some (ad (M - 1)) else none) hRet dX1_last_10 rfl ⟨(by rw [if_pos (by omega)]), rfl⟩

set_option maxHeartbeats 4000000 in
set_option maxRecDepth 100000 in
theorem c_X1_isLast (E : Ev) (v : Nat) (ma : Nat) (fo : Nat) (la : Nat) (M : Int) (ti : Int) (so : Int) (ta : Int) (go : Int) (sl : Int) (h : Nat) (sa : Nat) (n : Int) (ah : Value) (c : Int → Int) (hM : 2 ≤ M ∧ M ≤ 6) (hti : 0 ≤ ti ∧ ti ≤ 10000) (hso : 0 ≤ so ∧ so ≤ 100000) (hgo : 0 ≤ go ∧ go ≤ 20000) (hn : 0 ≤ n ∧ n ≤ 5) : MI yX1_isLast wsX1_isLast ({ frames := 0, cells := 0, slots := 0, locals := 0 } : Room) E [] 0 0 [.ref v, .ref h] [(v, oo 1 [.ref ma, .int (iI M), .ref fo, .ref la, .int (iI ti), .int (iI so), .int (iI ta), .int (iI go), .int (iI sl)]), (h, oo 3 (fMa n ah sa c))] (fun r u => r = iI (bI (n = M - 1)) ∧ u = [(v, oo 1 [.ref ma, .int (iI M), .ref fo, .ref la, .int (iI ti), .int (iI so), .int (iI ta), .int (iI go), .int (iI sl)]), (h, oo 3 (fMa n ah sa c))]) := by
  refine MI.of (cc := cX1_isLast) (maxL := 2) (own := RX1) (by decide) rfl rfl rfl (Nat.le_of_ble_eq_true rfl) [(0, .ref v), (1, .ref h)] rfl ?_
  intro X hin2 hRet
  refine g_aload_n 1 dX1_isLast_0 rfl rfl ?_
  refine g_get (v := .int (iI n)) (C := RX3) (T := TX3) (N := 14) 1 0 (fun _ h => List.mem_cons_of_mem _ (List.mem_append_left _ (List.mem_append_right _ h))) (List.mem_of_getElem? (i := 1) rfl) rfl rfl (by decide) rfl rfl dX1_isLast_1 ?_
  refine g_aload_n 0 dX1_isLast_4 rfl rfl ?_
  refine g_get (C := RX1) (T := TX1) (N := 9) 0 1 (fun _ h => List.mem_cons_of_mem _ (List.mem_append_right _ h)) (List.mem_of_getElem? (i := 2) rfl) rfl rfl (by decide) rfl rfl dX1_isLast_5 ?_
  refine g_iconst dX1_isLast_8 ?_
  refine g_isub dX1_isLast_9 ?_
  refine g_icmp_ne (tgt := 17) (by unfold R32; omega) (by unfold R32; omega) dX1_isLast_10 rfl (fun c_1 => ?_) (fun c_1 => ?_)
  · refine g_iconst dX1_isLast_13 ?_
    refine g_goto (tgt := 18) dX1_isLast_14 rfl ?_
    exact g_iret hRet dX1_isLast_18 rfl ⟨(bI_t (by omega)), rfl⟩
  · refine g_iconst dX1_isLast_17 ?_
    exact g_iret hRet dX1_isLast_18 rfl ⟨(bI_f (by omega)), rfl⟩

set_option maxHeartbeats 4000000 in
set_option maxRecDepth 100000 in
theorem c_take_s0 (E : Ev) (v : Nat) (ma : Nat) (fo : Nat) (la : Nat) (M : Int) (ti : Int) (so : Int) (ta : Int) (go : Int) (sl : Int) (h : Nat) (sa : Nat) (n : Int) (c : Int → Int) (hM : 2 ≤ M ∧ M ≤ 6) (hti : 0 ≤ ti ∧ ti ≤ 10000) (hso : 0 ≤ so ∧ so ≤ 100000) (hgo : 0 ≤ go ∧ go ≤ 20000) (hc : mOk c) (ha : so = 0) : MI yX1_takeFor wsX1_takeFor ({ frames := 0, cells := 0, slots := 0, locals := 0 } : Room) E [] 0 0 [.ref v, .ref h] [(v, oo 1 [.ref ma, .int (iI M), .ref fo, .ref la, .int (iI ti), .int (iI so), .int (iI ta), .int (iI go), .int (iI sl)]), (h, oo 3 (fMa n .null sa c))] (fun r u => r = iI 0 ∧ u = [(v, oo 1 [.ref ma, .int (iI M), .ref fo, .ref la, .int (iI ti), .int (iI so), .int (iI ta), .int (iI go), .int (iI sl)]), (h, oo 3 (fMa n .null sa c))]) := by
  refine MI.of (cc := cX1_takeFor) (maxL := 2) (own := RX1) (by decide) rfl rfl rfl (Nat.le_of_ble_eq_true rfl) [(0, .ref v), (1, .ref h)] rfl ?_
  intro X hin2 hRet
  refine g_aload_n 1 dX1_takeFor_0 rfl rfl ?_
  refine g_get (v := .null) (C := RX3) (T := TX3) (N := 14) 1 1 (fun _ h => List.mem_cons_of_mem _ (List.mem_append_left _ (List.mem_append_right _ h))) (List.mem_of_getElem? (i := 1) rfl) rfl rfl (by decide) rfl rfl dX1_takeFor_1 ?_
  refine g_ifnonnullN dX1_takeFor_4 ?_
  refine g_aload_n 0 dX1_takeFor_7 rfl rfl ?_
  refine g_get (C := RX1) (T := TX1) (N := 9) 0 5 (fun _ h => List.mem_cons_of_mem _ (List.mem_append_right _ h)) (List.mem_of_getElem? (i := 2) rfl) rfl rfl (by decide) rfl rfl dX1_takeFor_8 ?_
  refine g_if_ne (tgt := 16) (by (try unfold mOk at *); (try unfold sOk at *); unfold R32; omega) dX1_takeFor_11 rfl (fun c_1 => ?_) (fun c_1 => ?_)
  · refine g_iconst dX1_takeFor_14 ?_
    exact g_iret hRet dX1_takeFor_15 rfl ⟨rfl, rfl⟩
  · exact absurd ha (by assumption)

set_option maxHeartbeats 4000000 in
set_option maxRecDepth 100000 in
theorem c_take_s1 (E : Ev) (v : Nat) (ma : Nat) (fo : Nat) (la : Nat) (M : Int) (ti : Int) (so : Int) (ta : Int) (go : Int) (sl : Int) (h : Nat) (sa : Nat) (n : Int) (c : Int → Int) (hM : 2 ≤ M ∧ M ≤ 6) (hti : 0 ≤ ti ∧ ti ≤ 10000) (hso : 0 ≤ so ∧ so ≤ 100000) (hgo : 0 ≤ go ∧ go ≤ 20000) (hc : mOk c) (ha : ¬ so = 0) : MI yX1_takeFor wsX1_takeFor ({ frames := 0, cells := 0, slots := 0, locals := 0 } : Room) E [] 0 0 [.ref v, .ref h] [(v, oo 1 [.ref ma, .int (iI M), .ref fo, .ref la, .int (iI ti), .int (iI so), .int (iI ta), .int (iI go), .int (iI sl)]), (h, oo 3 (fMa n .null sa c))] (fun r u => r = iI 1 ∧ u = [(v, oo 1 [.ref ma, .int (iI M), .ref fo, .ref la, .int (iI ti), .int (iI (so - 1)), .int (iI (ta + 1)), .int (iI go), .int (iI sl)]), (h, oo 3 (fMa n .null sa (up c 1 1)))]) := by
  refine MI.of (cc := cX1_takeFor) (maxL := 2) (own := RX1) (by decide) rfl rfl rfl (Nat.le_of_ble_eq_true rfl) [(0, .ref v), (1, .ref h)] rfl ?_
  intro X hin2 hRet
  refine g_aload_n 1 dX1_takeFor_0 rfl rfl ?_
  refine g_get (v := .null) (C := RX3) (T := TX3) (N := 14) 1 1 (fun _ h => List.mem_cons_of_mem _ (List.mem_append_left _ (List.mem_append_right _ h))) (List.mem_of_getElem? (i := 1) rfl) rfl rfl (by decide) rfl rfl dX1_takeFor_1 ?_
  refine g_ifnonnullN dX1_takeFor_4 ?_
  refine g_aload_n 0 dX1_takeFor_7 rfl rfl ?_
  refine g_get (C := RX1) (T := TX1) (N := 9) 0 5 (fun _ h => List.mem_cons_of_mem _ (List.mem_append_right _ h)) (List.mem_of_getElem? (i := 2) rfl) rfl rfl (by decide) rfl rfl dX1_takeFor_8 ?_
  refine g_if_ne (tgt := 16) (by (try unfold mOk at *); (try unfold sOk at *); unfold R32; omega) dX1_takeFor_11 rfl (fun c_1 => ?_) (fun c_1 => ?_)
  · exact absurd (by assumption) ha
  · refine g_aload_n 0 dX1_takeFor_16 rfl rfl ?_
    refine g_dup dX1_takeFor_17 rfl ?_
    refine g_get (C := RX1) (T := TX1) (N := 9) 0 5 (fun _ h => List.mem_cons_of_mem _ (List.mem_append_right _ h)) (List.mem_of_getElem? (i := 2) rfl) rfl rfl (by decide) rfl rfl dX1_takeFor_18 ?_
    refine g_iconst dX1_takeFor_21 ?_
    refine g_isub dX1_takeFor_22 ?_
    refine g_put (C := RX1) (T := TX1) (N := 9) (ws1 := [(v, oo 1 [.ref ma, .int (iI M), .ref fo, .ref la, .int (iI ti), .int (iI (so - 1)), .int (iI ta), .int (iI go), .int (iI sl)]), (h, oo 3 (fMa n .null sa c))]) 0 5 (fun _ h => List.mem_cons_of_mem _ (List.mem_append_right _ h)) tyX1 tyX1_ok nmX1 (List.mem_of_getElem? (i := 2) rfl) rfl rfl (by decide) rfl (tyX1_ok 5 (by decide)) rfl rfl (by first | decide | exact Nat.le_of_ble_eq_true rfl) dX1_takeFor_23 rfl rfl ?_
    refine g_aload_n 0 dX1_takeFor_26 rfl rfl ?_
    refine g_dup dX1_takeFor_27 rfl ?_
    refine g_get (C := RX1) (T := TX1) (N := 9) 0 6 (fun _ h => List.mem_cons_of_mem _ (List.mem_append_right _ h)) (List.mem_of_getElem? (i := 3) rfl) rfl rfl (by decide) rfl rfl dX1_takeFor_28 ?_
    refine g_iconst dX1_takeFor_31 ?_
    refine g_iadd dX1_takeFor_32 ?_
    refine g_put (C := RX1) (T := TX1) (N := 9) (ws1 := [(v, oo 1 [.ref ma, .int (iI M), .ref fo, .ref la, .int (iI ti), .int (iI (so - 1)), .int (iI (ta + 1)), .int (iI go), .int (iI sl)]), (h, oo 3 (fMa n .null sa c))]) 0 6 (fun _ h => List.mem_cons_of_mem _ (List.mem_append_right _ h)) tyX1 tyX1_ok nmX1 (List.mem_of_getElem? (i := 3) rfl) rfl rfl (by decide) rfl (tyX1_ok 6 (by decide)) rfl rfl (by first | decide | exact Nat.le_of_ble_eq_true rfl) dX1_takeFor_33 rfl rfl ?_
    refine g_goto (tgt := 64) dX1_takeFor_36 rfl ?_
    refine g_aload_n 1 dX1_takeFor_64 rfl rfl ?_
    refine g_iconst dX1_takeFor_65 ?_
    refine g_put (C := RX3) (T := TX3) (N := 14) (ws1 := [(v, oo 1 [.ref ma, .int (iI M), .ref fo, .ref la, .int (iI ti), .int (iI (so - 1)), .int (iI (ta + 1)), .int (iI go), .int (iI sl)]), (h, oo 3 (fMa n .null sa (up c 1 1)))]) 1 4 (fun _ h => List.mem_cons_of_mem _ (List.mem_append_left _ (List.mem_append_right _ h))) tyX3 tyX3_ok nmX3 (List.mem_of_getElem? (i := 5) rfl) rfl rfl (by decide) rfl (tyX3_ok 4 (by decide)) rfl rfl (by first | decide | exact Nat.le_of_ble_eq_true rfl) dX1_takeFor_66 rfl rfl ?_
    refine g_iconst dX1_takeFor_69 ?_
    exact g_iret hRet dX1_takeFor_70 rfl ⟨rfl, rfl⟩

set_option maxHeartbeats 4000000 in
set_option maxRecDepth 100000 in
theorem c_take_a0 (E : Ev) (v : Nat) (ma : Nat) (fo : Nat) (la : Nat) (M : Int) (ti : Int) (so : Int) (ta : Int) (go : Int) (sl : Int) (h : Nat) (sa : Nat) (n : Int) (c : Int → Int) (h2 : Nat) (sa2 : Nat) (n2 : Int) (ah : Value) (c2 : Int → Int) (hM : 2 ≤ M ∧ M ≤ 6) (hti : 0 ≤ ti ∧ ti ≤ 10000) (hso : 0 ≤ so ∧ so ≤ 100000) (hgo : 0 ≤ go ∧ go ≤ 20000) (hc : mOk c) (hc2 : mOk c2) (ha : c2 0 = 0) : MI yX1_takeFor wsX1_takeFor ({ frames := 0, cells := 0, slots := 0, locals := 0 } : Room) E [] 0 0 [.ref v, .ref h] [(v, oo 1 [.ref ma, .int (iI M), .ref fo, .ref la, .int (iI ti), .int (iI so), .int (iI ta), .int (iI go), .int (iI sl)]), (h, oo 3 (fMa n (.ref h2) sa c)), (h2, oo 3 (fMa n2 ah sa2 c2))] (fun r u => r = iI 0 ∧ u = [(v, oo 1 [.ref ma, .int (iI M), .ref fo, .ref la, .int (iI ti), .int (iI so), .int (iI ta), .int (iI go), .int (iI sl)]), (h, oo 3 (fMa n (.ref h2) sa c)), (h2, oo 3 (fMa n2 ah sa2 c2))]) := by
  refine MI.of (cc := cX1_takeFor) (maxL := 2) (own := RX1) (by decide) rfl rfl rfl (Nat.le_of_ble_eq_true rfl) [(0, .ref v), (1, .ref h)] rfl ?_
  intro X hin2 hRet
  refine g_aload_n 1 dX1_takeFor_0 rfl rfl ?_
  refine g_get (v := .ref h2) (C := RX3) (T := TX3) (N := 14) 1 1 (fun _ h => List.mem_cons_of_mem _ (List.mem_append_left _ (List.mem_append_right _ h))) (List.mem_of_getElem? (i := 1) rfl) rfl rfl (by decide) rfl rfl dX1_takeFor_1 ?_
  refine g_ifnonnull (tgt := 39) dX1_takeFor_4 rfl ?_
  refine g_aload_n 1 dX1_takeFor_39 rfl rfl ?_
  refine g_get (v := .ref h2) (C := RX3) (T := TX3) (N := 14) 1 1 (fun _ h => List.mem_cons_of_mem _ (List.mem_append_left _ (List.mem_append_right _ h))) (List.mem_of_getElem? (i := 1) rfl) rfl rfl (by decide) rfl rfl dX1_takeFor_40 ?_
  refine g_get (v := .int (iI (c2 0))) (C := RX3) (T := TX3) (N := 14) 2 3 (fun _ h => List.mem_cons_of_mem _ (List.mem_append_left _ (List.mem_append_right _ h))) (List.mem_of_getElem? (i := 4) rfl) rfl rfl (by decide) rfl rfl dX1_takeFor_43 ?_
  refine g_if_ne (tgt := 51) (by (try unfold mOk at *); (try unfold sOk at *); unfold R32; omega) dX1_takeFor_46 rfl (fun c_1 => ?_) (fun c_1 => ?_)
  · refine g_iconst dX1_takeFor_49 ?_
    exact g_iret hRet dX1_takeFor_50 rfl ⟨rfl, rfl⟩
  · exact absurd ha (by assumption)

set_option maxHeartbeats 4000000 in
set_option maxRecDepth 100000 in
theorem c_take_a1 (E : Ev) (v : Nat) (ma : Nat) (fo : Nat) (la : Nat) (M : Int) (ti : Int) (so : Int) (ta : Int) (go : Int) (sl : Int) (h : Nat) (sa : Nat) (n : Int) (c : Int → Int) (h2 : Nat) (sa2 : Nat) (n2 : Int) (ah : Value) (c2 : Int → Int) (hM : 2 ≤ M ∧ M ≤ 6) (hti : 0 ≤ ti ∧ ti ≤ 10000) (hso : 0 ≤ so ∧ so ≤ 100000) (hgo : 0 ≤ go ∧ go ≤ 20000) (hc : mOk c) (hc2 : mOk c2) (ha : ¬ c2 0 = 0) : MI yX1_takeFor wsX1_takeFor ({ frames := 0, cells := 0, slots := 0, locals := 0 } : Room) E [] 0 0 [.ref v, .ref h] [(v, oo 1 [.ref ma, .int (iI M), .ref fo, .ref la, .int (iI ti), .int (iI so), .int (iI ta), .int (iI go), .int (iI sl)]), (h, oo 3 (fMa n (.ref h2) sa c)), (h2, oo 3 (fMa n2 ah sa2 c2))] (fun r u => r = iI 1 ∧ u = [(v, oo 1 [.ref ma, .int (iI M), .ref fo, .ref la, .int (iI ti), .int (iI so), .int (iI ta), .int (iI go), .int (iI sl)]), (h, oo 3 (fMa n (.ref h2) sa (up c 1 1))), (h2, oo 3 (fMa n2 ah sa2 (up c2 0 (c2 0 - 1))))]) := by
  refine MI.of (cc := cX1_takeFor) (maxL := 2) (own := RX1) (by decide) rfl rfl rfl (Nat.le_of_ble_eq_true rfl) [(0, .ref v), (1, .ref h)] rfl ?_
  intro X hin2 hRet
  refine g_aload_n 1 dX1_takeFor_0 rfl rfl ?_
  refine g_get (v := .ref h2) (C := RX3) (T := TX3) (N := 14) 1 1 (fun _ h => List.mem_cons_of_mem _ (List.mem_append_left _ (List.mem_append_right _ h))) (List.mem_of_getElem? (i := 1) rfl) rfl rfl (by decide) rfl rfl dX1_takeFor_1 ?_
  refine g_ifnonnull (tgt := 39) dX1_takeFor_4 rfl ?_
  refine g_aload_n 1 dX1_takeFor_39 rfl rfl ?_
  refine g_get (v := .ref h2) (C := RX3) (T := TX3) (N := 14) 1 1 (fun _ h => List.mem_cons_of_mem _ (List.mem_append_left _ (List.mem_append_right _ h))) (List.mem_of_getElem? (i := 1) rfl) rfl rfl (by decide) rfl rfl dX1_takeFor_40 ?_
  refine g_get (v := .int (iI (c2 0))) (C := RX3) (T := TX3) (N := 14) 2 3 (fun _ h => List.mem_cons_of_mem _ (List.mem_append_left _ (List.mem_append_right _ h))) (List.mem_of_getElem? (i := 4) rfl) rfl rfl (by decide) rfl rfl dX1_takeFor_43 ?_
  refine g_if_ne (tgt := 51) (by (try unfold mOk at *); (try unfold sOk at *); unfold R32; omega) dX1_takeFor_46 rfl (fun c_1 => ?_) (fun c_1 => ?_)
  · exact absurd (by assumption) ha
  · refine g_aload_n 1 dX1_takeFor_51 rfl rfl ?_
    refine g_get (v := .ref h2) (C := RX3) (T := TX3) (N := 14) 1 1 (fun _ h => List.mem_cons_of_mem _ (List.mem_append_left _ (List.mem_append_right _ h))) (List.mem_of_getElem? (i := 1) rfl) rfl rfl (by decide) rfl rfl dX1_takeFor_52 ?_
    refine g_dup dX1_takeFor_55 rfl ?_
    refine g_get (v := .int (iI (c2 0))) (C := RX3) (T := TX3) (N := 14) 2 3 (fun _ h => List.mem_cons_of_mem _ (List.mem_append_left _ (List.mem_append_right _ h))) (List.mem_of_getElem? (i := 4) rfl) rfl rfl (by decide) rfl rfl dX1_takeFor_56 ?_
    refine g_iconst dX1_takeFor_59 ?_
    refine g_isub dX1_takeFor_60 ?_
    refine g_put (C := RX3) (T := TX3) (N := 14) (ws1 := [(v, oo 1 [.ref ma, .int (iI M), .ref fo, .ref la, .int (iI ti), .int (iI so), .int (iI ta), .int (iI go), .int (iI sl)]), (h, oo 3 (fMa n (.ref h2) sa c)), (h2, oo 3 (fMa n2 ah sa2 (up c2 0 ((c2 0) - 1))))]) 2 3 (fun _ h => List.mem_cons_of_mem _ (List.mem_append_left _ (List.mem_append_right _ h))) tyX3 tyX3_ok nmX3 (List.mem_of_getElem? (i := 4) rfl) rfl rfl (by decide) rfl (tyX3_ok 3 (by decide)) rfl rfl (by first | decide | exact Nat.le_of_ble_eq_true rfl) dX1_takeFor_61 rfl rfl ?_
    refine g_aload_n 1 dX1_takeFor_64 rfl rfl ?_
    refine g_iconst dX1_takeFor_65 ?_
    refine g_put (C := RX3) (T := TX3) (N := 14) (ws1 := [(v, oo 1 [.ref ma, .int (iI M), .ref fo, .ref la, .int (iI ti), .int (iI so), .int (iI ta), .int (iI go), .int (iI sl)]), (h, oo 3 (fMa n (.ref h2) sa (up c 1 1))), (h2, oo 3 (fMa n2 ah sa2 (up c2 0 ((c2 0) - 1))))]) 1 4 (fun _ h => List.mem_cons_of_mem _ (List.mem_append_left _ (List.mem_append_right _ h))) tyX3 tyX3_ok nmX3 (List.mem_of_getElem? (i := 5) rfl) rfl rfl (by decide) rfl (tyX3_ok 4 (by decide)) rfl rfl (by first | decide | exact Nat.le_of_ble_eq_true rfl) dX1_takeFor_66 rfl rfl ?_
    refine g_iconst dX1_takeFor_69 ?_
    exact g_iret hRet dX1_takeFor_70 rfl ⟨rfl, rfl⟩

def give1 (c : Int → Int) : Int → Int := if c 2 ≠ 0 then up (up c 0 (c 0 + 1)) 2 0 else c
def work1 (c : Int → Int) : Int → Int := up (if c 1 = 0 then up (give1 c) 1 1 else give1 c) 3 (c 3 + 1)
def sEnd (n M ti : Int) (s d c' : Int → Int) (gd : Int) : Prop :=
  if s 1 ≠ 0 ∧ rmI (d 4 + 1) (s 1) = 0 then c' = up (up (up (up (up (up d 1 0) 3 0) 4 (d 4 + 1)) 5 (d 5 + 1)) 8 (if d 7 = 0 then ti else d 8)) 7 (d 7 + 1) ∧ gd = 0 else if s 2 ≠ 0 ∧ rmI (d 4 + 1) (s 2) = 0 then c' = up (up (up (up d 1 0) 3 0) 4 (d 4 + 1)) 6 (d 6 + 1) ∧ gd = 0 else if n = M - 1 then c' = up (up (up d 1 0) 3 0) 4 (d 4 + 1) ∧ gd = 1 else c' = up (up (up (up d 1 0) 3 0) 4 (d 4 + 1)) 2 1 ∧ gd = 0
def sFin (n M ti : Int) (s d c' : Int → Int) (gd : Int) : Prop := if d 3 < s 0 then c' = d ∧ gd = 0 else sEnd n M ti s d c' gd
def sStep (flt : Bool) (n M ti av : Int) (s c : Int → Int) (x : Int) (c' : Int → Int) (tk gd : Int) : Prop :=
  if flt = true then x = 0 ∧ c' = c ∧ tk = 0 ∧ gd = 0 else if 0 < c 7 ∧ 3 ≤ ti - c 8 then x = 1 ∧ c' = c ∧ tk = 0 ∧ gd = 0 else if c 2 ≠ 0 ∧ ¬ c 0 < s 3 then x = 2 ∧ c' = c ∧ tk = 0 ∧ gd = 0 else if c 1 = 0 ∧ av = 0 then x = 4 ∧ c' = give1 c ∧ tk = 0 ∧ gd = 0 else x = 3 ∧ tk = (if c 1 = 0 then 1 else 0) ∧ sFin n M ti s (work1 c) c' gd
theorem em4 (p q r : Prop) : p ∨ (¬ p ∧ q) ∨ (¬ p ∧ ¬ q ∧ r) ∨ (¬ p ∧ ¬ q ∧ ¬ r) := by
  by_cases hp : p
  · exact Or.inl hp
  · by_cases hq : q
    · exact Or.inr (Or.inl ⟨hp, hq⟩)
    · by_cases hr : r
      · exact Or.inr (Or.inr (Or.inl ⟨hp, hq, hr⟩))
      · exact Or.inr (Or.inr (Or.inr ⟨hp, hq, hr⟩))
theorem give1_0 (c : Int → Int) : give1 c 0 = (if c 2 ≠ 0 then c 0 + 1 else c 0) := by unfold give1; split <;> rfl
theorem give1_2 (c : Int → Int) : give1 c 2 = 0 := by
  unfold give1; split
  · rfl
  · omega
theorem give1_o (c : Int → Int) (k : Int) (h0 : k ≠ 0) (h2 : k ≠ 2) : give1 c k = c k := by
  unfold give1; split
  · unfold up; rw [if_neg h2, if_neg h0]
  · rfl
theorem mOk_give {c : Int → Int} (h : mOk c) (h2 : c 2 ≠ 0 → c 0 < 20) : mOk (give1 c) := by
  unfold mOk at *
  rw [give1_0, give1_2, give1_o c 1 (by omega) (by omega), give1_o c 3 (by omega) (by omega), give1_o c 7 (by omega) (by omega), give1_o c 8 (by omega) (by omega), give1_o c 9 (by omega) (by omega)]
  by_cases q : c 2 ≠ 0
  · rw [if_pos q]; have := h2 q; omega
  · rw [if_neg q]; omega
theorem work1_o (c : Int → Int) (k : Int) (h1 : k ≠ 1) (h3 : k ≠ 3) : work1 c k = give1 c k := by
  unfold work1; split
  · unfold up; rw [if_neg h3, if_neg h1]
  · unfold up; rw [if_neg h3]
theorem work1_3 (c : Int → Int) : work1 c 3 = c 3 + 1 := rfl
theorem work1_1 (c : Int → Int) : work1 c 1 = if c 1 = 0 then 1 else c 1 := by
  unfold work1; split
  · rfl
  · show give1 c 1 = c 1
    exact give1_o c 1 (by omega) (by omega)
theorem mOk_work {c : Int → Int} (h : mOk c) (h2 : c 2 ≠ 0 → c 0 < 20) (h3 : c 3 ≤ 4) : mOk (work1 c) := by
  have g := mOk_give h h2
  unfold mOk at *
  rw [work1_3, work1_1, work1_o c 0 (by omega) (by omega), work1_o c 2 (by omega) (by omega), work1_o c 7 (by omega) (by omega), work1_o c 8 (by omega) (by omega), work1_o c 9 (by omega) (by omega)]
  split <;> omega

set_option maxHeartbeats 4000000 in
set_option maxRecDepth 100000 in
theorem c_fin (E : Ev) (v : Nat) (ma : Nat) (fo : Nat) (la : Nat) (M : Int) (ti : Int) (so : Int) (ta : Int) (go : Int) (sl : Int) (h : Nat) (sa : Nat) (n : Int) (ah : Value) (c : Int → Int) (s : Int → Int) (hM : 2 ≤ M ∧ M ≤ 6) (hti : 0 ≤ ti ∧ ti ≤ 10000) (hso : 0 ≤ so ∧ so ≤ 100000) (hgo : 0 ≤ go ∧ go ≤ 20000) (hn : 0 ≤ n ∧ n ≤ 5) (hc : mOk c) (hs : sOk s) : MV yX1_finishAt wsX1_finishAt ({ frames := 2, cells := 0, slots := 0, locals := 42 } : Room) E [] 0 0 [.ref v, .ref h] [(v, oo 1 [.ref ma, .int (iI M), .ref fo, .ref la, .int (iI ti), .int (iI so), .int (iI ta), .int (iI go), .int (iI sl)]), (h, oo 3 (fMa n ah sa c)), (sa, aI E 4 s)] (fun u => ∃ (c' : Int → Int), ∃ (gd : Int), sEnd n M ti s c c' gd ∧ u = [(v, oo 1 [.ref ma, .int (iI M), .ref fo, .ref la, .int (iI ti), .int (iI so), .int (iI ta), .int (iI (if gd = 0 then go else go + 1)), .int (iI sl)]), (h, oo 3 (fMa n ah sa c')), (sa, aI E 4 s)]) := by
  refine MV.of (cc := cX1_finishAt) (maxL := 2) (own := RX1) (by decide) rfl rfl rfl (Nat.le_of_ble_eq_true rfl) [(0, .ref v), (1, .ref h)] rfl ?_
  intro X hin2 hRet
  rcases (em4 (s 1 ≠ 0 ∧ rmI (c 4 + 1) (s 1) = 0) (s 2 ≠ 0 ∧ rmI (c 4 + 1) (s 2) = 0) (n = M - 1)) with hp | ⟨hp, hp2⟩ | ⟨hp, hp2, hl⟩ | ⟨hp, hp2, hl⟩
  · refine g_aload_n 1 dX1_finishAt_0 rfl rfl ?_
    refine g_aload_n 0 dX1_finishAt_1 rfl rfl ?_
    refine g_get (C := RX1) (T := TX1) (N := 9) 0 4 (fun _ h => List.mem_cons_of_mem _ (List.mem_append_left _ (List.mem_append_right _ h))) (List.mem_of_getElem? (i := 1) rfl) rfl rfl (by decide) rfl rfl dX1_finishAt_2 ?_
    refine g_callV_i (n := 1) (As := [.int (iI ti)]) (wr := [(v, oo 1 [.ref ma, .int (iI M), .ref fo, .ref la, .int (iI ti), .int (iI so), .int (iI ta), .int (iI go), .int (iI sl)])]) (C := RX3) [] (c_passes_r E h sa n ah c s ti (by omega) (by omega) (by omega) (by omega) (by exact hp)) [1, 2] [0] 0 rfl rfl gX1_finishAt_X3_passes rfl ⟨rfl, by decide +kernel⟩ ⟨by decide, by decide⟩ rfl rfl rfl rfl rfl (by decide) rfl (by decide) (by decide) (fun _ h => absurd h List.not_mem_nil) dX1_finishAt_5 rfl (Nat.le_of_ble_eq_true rfl) ⟨by decide, by decide⟩ (fun r u p_1 => ?_)
    obtain ⟨rfl, rfl⟩ := p_1
    refine g_if_ne (tgt := 12) (by unfold R32; omega) dX1_finishAt_8 rfl (fun _ => ?_) (fun q => absurd q (by decide))
    exact g_vret hRet dX1_finishAt_11 ⟨(up (up (up (up (up (up c 1 0) 3 0) 4 (c 4 + 1)) 5 (c 5 + 1)) 8 (if c 7 = 0 then ti else c 8)) 7 (c 7 + 1)), 0, (by unfold sEnd; first | (rw [if_pos hp]; exact ⟨rfl, rfl⟩) | (rw [if_neg hp, if_pos hp2]; exact ⟨rfl, rfl⟩)), rfl⟩
  · refine g_aload_n 1 dX1_finishAt_0 rfl rfl ?_
    refine g_aload_n 0 dX1_finishAt_1 rfl rfl ?_
    refine g_get (C := RX1) (T := TX1) (N := 9) 0 4 (fun _ h => List.mem_cons_of_mem _ (List.mem_append_left _ (List.mem_append_right _ h))) (List.mem_of_getElem? (i := 1) rfl) rfl rfl (by decide) rfl rfl dX1_finishAt_2 ?_
    refine g_callV_i (n := 1) (As := [.int (iI ti)]) (wr := [(v, oo 1 [.ref ma, .int (iI M), .ref fo, .ref la, .int (iI ti), .int (iI so), .int (iI ta), .int (iI go), .int (iI sl)])]) (C := RX3) [] (c_passes_s E h sa n ah c s ti (by omega) (by omega) (by omega) (by omega) (by exact hp) (by exact hp2)) [1, 2] [0] 0 rfl rfl gX1_finishAt_X3_passes rfl ⟨rfl, by decide +kernel⟩ ⟨by decide, by decide⟩ rfl rfl rfl rfl rfl (by decide) rfl (by decide) (by decide) (fun _ h => absurd h List.not_mem_nil) dX1_finishAt_5 rfl (Nat.le_of_ble_eq_true rfl) ⟨by decide, by decide⟩ (fun r u p_3 => ?_)
    obtain ⟨rfl, rfl⟩ := p_3
    refine g_if_ne (tgt := 12) (by unfold R32; omega) dX1_finishAt_8 rfl (fun _ => ?_) (fun q => absurd q (by decide))
    exact g_vret hRet dX1_finishAt_11 ⟨(up (up (up (up c 1 0) 3 0) 4 (c 4 + 1)) 6 (c 6 + 1)), 0, (by unfold sEnd; first | (rw [if_pos hp]; exact ⟨rfl, rfl⟩) | (rw [if_neg hp, if_pos hp2]; exact ⟨rfl, rfl⟩)), rfl⟩
  · refine g_aload_n 1 dX1_finishAt_0 rfl rfl ?_
    refine g_aload_n 0 dX1_finishAt_1 rfl rfl ?_
    refine g_get (C := RX1) (T := TX1) (N := 9) 0 4 (fun _ h => List.mem_cons_of_mem _ (List.mem_append_left _ (List.mem_append_right _ h))) (List.mem_of_getElem? (i := 1) rfl) rfl rfl (by decide) rfl rfl dX1_finishAt_2 ?_
    refine g_callV_i (n := 1) (As := [.int (iI ti)]) (wr := [(v, oo 1 [.ref ma, .int (iI M), .ref fo, .ref la, .int (iI ti), .int (iI so), .int (iI ta), .int (iI go), .int (iI sl)])]) (C := RX3) [] (c_passes_o E h sa n ah c s ti (by omega) (by omega) (by omega) (by omega) (by exact hp) (by exact hp2)) [1, 2] [0] 0 rfl rfl gX1_finishAt_X3_passes rfl ⟨rfl, by decide +kernel⟩ ⟨by decide, by decide⟩ rfl rfl rfl rfl rfl (by decide) rfl (by decide) (by decide) (fun _ h => absurd h List.not_mem_nil) dX1_finishAt_5 rfl (Nat.le_of_ble_eq_true rfl) ⟨by decide, by decide⟩ (fun r u p_5 => ?_)
    obtain ⟨rfl, rfl⟩ := p_5
    refine g_if_ne (tgt := 12) (by unfold R32; omega) dX1_finishAt_8 rfl (fun q => absurd q (by decide)) (fun _ => ?_)
    refine g_aload_n 0 dX1_finishAt_12 rfl rfl ?_
    refine g_aload_n 1 dX1_finishAt_13 rfl rfl ?_
    refine g_callV_i (n := 1) (As := [.ref h]) (wr := [(sa, aI E 4 s)]) (C := RX1) [] (c_X1_isLast E v ma fo la M ti so ta go sl h sa n ah (up (up (up c 1 0) 3 0) 4 (c 4 + 1)) (by omega) (by omega) (by omega) (by omega) (by omega)) [0, 1] [2] 0 rfl rfl gX1_finishAt_X1_isLast rfl ⟨rfl, by decide +kernel⟩ ⟨by decide, by decide⟩ rfl rfl rfl rfl rfl (by decide) rfl (by decide) (by decide) (fun _ h => absurd h List.not_mem_nil) dX1_finishAt_14 rfl (Nat.le_of_ble_eq_true rfl) ⟨by decide, by decide⟩ (fun r u p_7 => ?_)
    obtain ⟨rfl, rfl⟩ := p_7
    refine g_perm (ws1 := [(v, oo 1 [.ref ma, .int (iI M), .ref fo, .ref la, .int (iI ti), .int (iI so), .int (iI ta), .int (iI go), .int (iI sl)]), (h, oo 3 (fMa n ah sa (up (up (up c 1 0) 3 0) 4 (c 4 + 1)))), (sa, aI E 4 s)]) [1, 2, 0] rfl (by decide) rfl ?_
    refine g_if_eq_b (tgt := 33) dX1_finishAt_17 rfl (fun c_8 => ?_) (fun c_8 => ?_)
    · refine g_aload_n 0 dX1_finishAt_20 rfl rfl ?_
      refine g_dup dX1_finishAt_21 rfl ?_
      refine g_get (C := RX1) (T := TX1) (N := 9) 0 7 (fun _ h => List.mem_cons_of_mem _ (List.mem_append_left _ (List.mem_append_right _ h))) (List.mem_of_getElem? (i := 2) rfl) rfl rfl (by decide) rfl rfl dX1_finishAt_22 ?_
      refine g_iconst dX1_finishAt_25 ?_
      refine g_iadd dX1_finishAt_26 ?_
      refine g_put (C := RX1) (T := TX1) (N := 9) (ws1 := [(v, oo 1 [.ref ma, .int (iI M), .ref fo, .ref la, .int (iI ti), .int (iI so), .int (iI ta), .int (iI (go + 1)), .int (iI sl)]), (h, oo 3 (fMa n ah sa (up (up (up c 1 0) 3 0) 4 (c 4 + 1)))), (sa, aI E 4 s)]) 0 7 (fun _ h => List.mem_cons_of_mem _ (List.mem_append_left _ (List.mem_append_right _ h))) tyX1 tyX1_ok nmX1 (List.mem_of_getElem? (i := 2) rfl) rfl rfl (by decide) rfl (tyX1_ok 7 (by decide)) rfl rfl (by first | decide | exact Nat.le_of_ble_eq_true rfl) dX1_finishAt_27 rfl rfl ?_
      refine g_goto (tgt := 38) dX1_finishAt_30 rfl ?_
      exact g_vret hRet dX1_finishAt_38 ⟨(up (up (up c 1 0) 3 0) 4 (c 4 + 1)), 1, (by unfold sEnd; rw [if_neg hp, if_neg hp2]; first | (rw [if_pos hl]; exact ⟨rfl, rfl⟩) | (rw [if_neg hl]; exact ⟨rfl, rfl⟩)), rfl⟩
    · exact absurd hl (by assumption)
  · refine g_aload_n 1 dX1_finishAt_0 rfl rfl ?_
    refine g_aload_n 0 dX1_finishAt_1 rfl rfl ?_
    refine g_get (C := RX1) (T := TX1) (N := 9) 0 4 (fun _ h => List.mem_cons_of_mem _ (List.mem_append_left _ (List.mem_append_right _ h))) (List.mem_of_getElem? (i := 1) rfl) rfl rfl (by decide) rfl rfl dX1_finishAt_2 ?_
    refine g_callV_i (n := 1) (As := [.int (iI ti)]) (wr := [(v, oo 1 [.ref ma, .int (iI M), .ref fo, .ref la, .int (iI ti), .int (iI so), .int (iI ta), .int (iI go), .int (iI sl)])]) (C := RX3) [] (c_passes_o E h sa n ah c s ti (by omega) (by omega) (by omega) (by omega) (by exact hp) (by exact hp2)) [1, 2] [0] 0 rfl rfl gX1_finishAt_X3_passes rfl ⟨rfl, by decide +kernel⟩ ⟨by decide, by decide⟩ rfl rfl rfl rfl rfl (by decide) rfl (by decide) (by decide) (fun _ h => absurd h List.not_mem_nil) dX1_finishAt_5 rfl (Nat.le_of_ble_eq_true rfl) ⟨by decide, by decide⟩ (fun r u p_9 => ?_)
    obtain ⟨rfl, rfl⟩ := p_9
    refine g_if_ne (tgt := 12) (by unfold R32; omega) dX1_finishAt_8 rfl (fun q => absurd q (by decide)) (fun _ => ?_)
    refine g_aload_n 0 dX1_finishAt_12 rfl rfl ?_
    refine g_aload_n 1 dX1_finishAt_13 rfl rfl ?_
    refine g_callV_i (n := 1) (As := [.ref h]) (wr := [(sa, aI E 4 s)]) (C := RX1) [] (c_X1_isLast E v ma fo la M ti so ta go sl h sa n ah (up (up (up c 1 0) 3 0) 4 (c 4 + 1)) (by omega) (by omega) (by omega) (by omega) (by omega)) [0, 1] [2] 0 rfl rfl gX1_finishAt_X1_isLast rfl ⟨rfl, by decide +kernel⟩ ⟨by decide, by decide⟩ rfl rfl rfl rfl rfl (by decide) rfl (by decide) (by decide) (fun _ h => absurd h List.not_mem_nil) dX1_finishAt_14 rfl (Nat.le_of_ble_eq_true rfl) ⟨by decide, by decide⟩ (fun r u p_11 => ?_)
    obtain ⟨rfl, rfl⟩ := p_11
    refine g_perm (ws1 := [(v, oo 1 [.ref ma, .int (iI M), .ref fo, .ref la, .int (iI ti), .int (iI so), .int (iI ta), .int (iI go), .int (iI sl)]), (h, oo 3 (fMa n ah sa (up (up (up c 1 0) 3 0) 4 (c 4 + 1)))), (sa, aI E 4 s)]) [1, 2, 0] rfl (by decide) rfl ?_
    refine g_if_eq_b (tgt := 33) dX1_finishAt_17 rfl (fun c_12 => ?_) (fun c_12 => ?_)
    · exact absurd (by assumption) hl
    · refine g_aload_n 1 dX1_finishAt_33 rfl rfl ?_
      refine g_iconst dX1_finishAt_34 ?_
      refine g_put (C := RX3) (T := TX3) (N := 14) (ws1 := [(v, oo 1 [.ref ma, .int (iI M), .ref fo, .ref la, .int (iI ti), .int (iI so), .int (iI ta), .int (iI go), .int (iI sl)]), (h, oo 3 (fMa n ah sa (up (up (up (up c 1 0) 3 0) 4 (c 4 + 1)) 2 1))), (sa, aI E 4 s)]) 1 5 (fun _ h => List.mem_cons_of_mem _ (List.mem_append_right _ h)) tyX3 tyX3_ok nmX3 (List.mem_of_getElem? (i := 3) rfl) rfl rfl (by decide) rfl (tyX3_ok 5 (by decide)) rfl rfl (by first | decide | exact Nat.le_of_ble_eq_true rfl) dX1_finishAt_35 rfl rfl ?_
      exact g_vret hRet dX1_finishAt_38 ⟨(up (up (up (up c 1 0) 3 0) 4 (c 4 + 1)) 2 1), 0, (by unfold sEnd; rw [if_neg hp, if_neg hp2]; first | (rw [if_pos hl]; exact ⟨rfl, rfl⟩) | (rw [if_neg hl]; exact ⟨rfl, rfl⟩)), rfl⟩

set_option maxHeartbeats 4000000 in
set_option maxRecDepth 100000 in
theorem c_step_s (E : Ev) (v : Nat) (ma : Nat) (fo : Nat) (la : Nat) (M : Int) (ti : Int) (so : Int) (ta : Int) (go : Int) (sl : Int) (h : Nat) (sa : Nat) (n : Int) (c : Int → Int) (s : Int → Int) (f1 : Nat) (f2 : Nat) (f3 : Nat) (nf : Int) (fm : Int → Int) (fa : Int → Int) (fb : Int → Int) (hM : 2 ≤ M ∧ M ≤ 6) (hti : 0 ≤ ti ∧ ti ≤ 10000) (hso : 0 ≤ so ∧ so ≤ 100000) (hgo : 0 ≤ go ∧ go ≤ 20000) (hc : mOk c) (hc3 : c 3 ≤ 4) (hs : sOk s) (hn : 0 ≤ n ∧ n ≤ 5) (hnf : 0 ≤ nf ∧ nf ≤ 8) (hfm : ∀ k, 0 ≤ fm k ∧ fm k ≤ 5) (hfa : ∀ k, 0 ≤ fa k ∧ fa k ≤ 9999) (hfb : ∀ k, 0 ≤ fb k ∧ fb k ≤ 9999) : MI yX1_stepOf wsX1_stepOf ({ frames := 3, cells := 0, slots := 0, locals := 63 } : Room) E [] 0 0 [.ref v, .ref h] [(v, oo 1 [.ref ma, .int (iI M), .ref fo, .ref la, .int (iI ti), .int (iI so), .int (iI ta), .int (iI go), .int (iI sl)]), (h, oo 3 (fMa n .null sa c)), (sa, aI E 4 s), (fo, oo 2 [.ref f1, .ref f2, .ref f3, .int (iI nf)]), (f1, aI E 8 fm), (f2, aI E 8 fa), (f3, aI E 8 fb)] (fun r u => ∃ (x : Int), ∃ (c' : Int → Int), ∃ (tk : Int), ∃ (gd : Int), sStep (fl fm fa fb n ti nf) n M ti so s c x c' tk gd ∧ r = iI x ∧ u = [(v, oo 1 [.ref ma, .int (iI M), .ref fo, .ref la, .int (iI ti), .int (iI (if tk = 0 then so else so - 1)), .int (iI (if tk = 0 then ta else ta + 1)), .int (iI (if gd = 0 then go else go + 1)), .int (iI sl)]), (h, oo 3 (fMa n .null sa c')), (sa, aI E 4 s), (fo, oo 2 [.ref f1, .ref f2, .ref f3, .int (iI nf)]), (f1, aI E 8 fm), (f2, aI E 8 fa), (f3, aI E 8 fb)]) := by
  refine MI.of (cc := cX1_stepOf) (maxL := 2) (own := RX1) (by decide) rfl rfl rfl (Nat.le_of_ble_eq_true rfl) [(0, .ref v), (1, .ref h)] rfl ?_
  intro X hin2 hRet
  refine g_aload_n 0 dX1_stepOf_0 rfl rfl ?_
  refine g_get (C := RX1) (T := TX1) (N := 9) 0 2 (fun _ h => List.mem_cons_of_mem _ (List.mem_append_left _ (List.mem_append_left _ (List.mem_append_right _ h)))) (List.mem_of_getElem? (i := 1) rfl) rfl rfl (by decide) rfl rfl dX1_stepOf_1 ?_
  refine g_aload_n 1 dX1_stepOf_4 rfl rfl ?_
  refine g_get (v := .int (iI n)) (C := RX3) (T := TX3) (N := 14) 1 0 (fun _ h => List.mem_cons_of_mem _ (List.mem_append_left _ (List.mem_append_right _ h))) (List.mem_of_getElem? (i := 2) rfl) rfl rfl (by decide) rfl rfl dX1_stepOf_5 ?_
  refine g_aload_n 0 dX1_stepOf_8 rfl rfl ?_
  refine g_get (C := RX1) (T := TX1) (N := 9) 0 4 (fun _ h => List.mem_cons_of_mem _ (List.mem_append_left _ (List.mem_append_left _ (List.mem_append_right _ h)))) (List.mem_of_getElem? (i := 3) rfl) rfl rfl (by decide) rfl rfl dX1_stepOf_9 ?_
  refine g_callV_i (n := 2) (As := [.int (iI n), .int (iI ti)]) (wr := [(v, oo 1 [.ref ma, .int (iI M), .ref fo, .ref la, .int (iI ti), .int (iI so), .int (iI ta), .int (iI go), .int (iI sl)]), (h, oo 3 (fMa n .null sa c)), (sa, aI E 4 s)]) (C := RX2) [] (c_X2_stop E fo f1 f2 f3 nf fm fa fb n ti (by omega) (by omega) (by omega) (by omega) (by omega) (by omega)) [3, 4, 5, 6] [0, 1, 2] 0 rfl rfl gX1_stepOf_X2_stop rfl ⟨rfl, by decide +kernel⟩ ⟨by decide, by decide⟩ rfl rfl rfl rfl rfl (by decide) rfl (by decide) (by decide) (fun _ h => absurd h List.not_mem_nil) dX1_stepOf_12 rfl (Nat.le_of_ble_eq_true rfl) ⟨by decide, by decide⟩ (fun r u p_1 => ?_)
  obtain ⟨rfl, rfl⟩ := p_1
  refine g_if_eq_b (tgt := 20) dX1_stepOf_15 rfl (fun hflt => ?_) (fun hflt => ?_)
  · refine g_iconst dX1_stepOf_18 ?_
    exact g_iret hRet dX1_stepOf_19 rfl ⟨0, c, 0, 0, (by unfold sStep; rw [if_pos hflt]; exact ⟨rfl, rfl, rfl, rfl⟩), rfl, rfl⟩
  · refine g_aload_n 1 dX1_stepOf_20 rfl rfl ?_
    refine g_aload_n 0 dX1_stepOf_21 rfl rfl ?_
    refine g_get (C := RX1) (T := TX1) (N := 9) 0 4 (fun _ h => List.mem_cons_of_mem _ (List.mem_append_left _ (List.mem_append_left _ (List.mem_append_right _ h)))) (List.mem_of_getElem? (i := 3) rfl) rfl rfl (by decide) rfl rfl dX1_stepOf_22 ?_
    refine g_callV_i (n := 1) (As := [.int (iI ti)]) (wr := [(v, oo 1 [.ref ma, .int (iI M), .ref fo, .ref la, .int (iI ti), .int (iI so), .int (iI ta), .int (iI go), .int (iI sl)]), (sa, aI E 4 s), (fo, oo 2 [.ref f1, .ref f2, .ref f3, .int (iI nf)]), (f1, aI E 8 fm), (f2, aI E 8 fa), (f3, aI E 8 fb)]) (C := RX3) [] (c_X3_waitsForWord E h sa n .null c ti (by assumption) (by omega) (by omega)) [1] [0, 2, 3, 4, 5, 6] 0 rfl rfl gX1_stepOf_X3_waitsForWord rfl ⟨rfl, by decide +kernel⟩ ⟨by decide, by decide⟩ rfl rfl rfl rfl rfl (by decide) rfl (by decide) (by decide) (fun _ h => absurd h List.not_mem_nil) dX1_stepOf_25 rfl (Nat.le_of_ble_eq_true rfl) ⟨by decide, by decide⟩ (fun r u p_2 => ?_)
    obtain ⟨rfl, rfl⟩ := p_2
    refine g_perm (ws1 := [(v, oo 1 [.ref ma, .int (iI M), .ref fo, .ref la, .int (iI ti), .int (iI so), .int (iI ta), .int (iI go), .int (iI sl)]), (h, oo 3 (fMa n .null sa c)), (sa, aI E 4 s), (fo, oo 2 [.ref f1, .ref f2, .ref f3, .int (iI nf)]), (f1, aI E 8 fm), (f2, aI E 8 fa), (f3, aI E 8 fb)]) [0, 6, 1, 2, 3, 4, 5] rfl (by decide) rfl ?_
    refine g_if_eq_b (tgt := 33) dX1_stepOf_28 rfl (fun hwt => ?_) (fun hwt => ?_)
    · refine g_iconst dX1_stepOf_31 ?_
      exact g_iret hRet dX1_stepOf_32 rfl ⟨1, c, 0, 0, (by unfold sStep; rw [if_neg hflt, if_pos hwt]; exact ⟨rfl, rfl, rfl, rfl⟩), rfl, rfl⟩
    · refine g_aload_n 1 dX1_stepOf_33 rfl rfl ?_
      refine g_get (v := .int (iI (c 2))) (C := RX3) (T := TX3) (N := 14) 1 5 (fun _ h => List.mem_cons_of_mem _ (List.mem_append_left _ (List.mem_append_right _ h))) (List.mem_of_getElem? (i := 4) rfl) rfl rfl (by decide) rfl rfl dX1_stepOf_34 ?_
      refine g_if_eq (tgt := 49) (by unfold mOk at hc; unfold R32; omega) dX1_stepOf_37 rfl (fun c_3 => ?_) (fun c_3 => ?_)
      · have hD_4 : give1 c = c := by unfold give1; first | (rw [if_pos (by omega)]; done) | (rw [if_neg (by omega)]; done)
        refine g_as (ws1 := [(v, oo 1 [.ref ma, .int (iI M), .ref fo, .ref la, .int (iI ti), .int (iI so), .int (iI ta), .int (iI go), .int (iI sl)]), (h, oo 3 (fMa n .null sa (give1 c))), (sa, aI E 4 s), (fo, oo 2 [.ref f1, .ref f2, .ref f3, .int (iI nf)]), (f1, aI E 8 fm), (f2, aI E 8 fa), (f3, aI E 8 fb)]) ?_ (by rw [hD_4]) rfl rfl
        have hg1 := give1_o c 1 (by omega) (by omega)
        have hg3 := give1_o c 3 (by omega) (by omega)
        have hgm : mOk (give1 c) := mOk_give hc (fun q => by (try unfold sOk at hs); omega)
        refine g_aload_n 1 dX1_stepOf_49 rfl rfl ?_
        refine g_get (v := .int (iI ((give1 c) 1))) (C := RX3) (T := TX3) (N := 14) 1 4 (fun _ h => List.mem_cons_of_mem _ (List.mem_append_left _ (List.mem_append_right _ h))) (List.mem_of_getElem? (i := 5) rfl) rfl rfl (by decide) rfl rfl dX1_stepOf_50 ?_
        refine g_if_ne (tgt := 66) (by unfold mOk at hgm; unfold R32; omega) dX1_stepOf_53 rfl (fun c_5 => ?_) (fun c_5 => ?_)
        · refine g_aload_n 0 dX1_stepOf_56 rfl rfl ?_
          refine g_aload_n 1 dX1_stepOf_57 rfl rfl ?_
          rcases (Classical.em (so = 0)) with ha | ha
          · refine g_callV_i (n := 1) (As := [.ref h]) (wr := [(sa, aI E 4 s), (fo, oo 2 [.ref f1, .ref f2, .ref f3, .int (iI nf)]), (f1, aI E 8 fm), (f2, aI E 8 fa), (f3, aI E 8 fb)]) (C := RX1) [] (c_take_s0 E v ma fo la M ti so ta go sl h sa n (give1 c) (by omega) (by omega) (by omega) (by omega) (by assumption) (by assumption)) [0, 1] [2, 3, 4, 5, 6] 0 rfl rfl gX1_stepOf_X1_takeFor rfl ⟨rfl, by decide +kernel⟩ ⟨by decide, by decide⟩ rfl rfl rfl rfl rfl (by decide) rfl (by decide) (by decide) (fun _ h => absurd h List.not_mem_nil) dX1_stepOf_58 rfl (Nat.le_of_ble_eq_true rfl) ⟨by decide, by decide⟩ (fun r u p_6 => ?_)
            obtain ⟨rfl, rfl⟩ := p_6
            refine g_perm (ws1 := [(v, oo 1 [.ref ma, .int (iI M), .ref fo, .ref la, .int (iI ti), .int (iI so), .int (iI ta), .int (iI go), .int (iI sl)]), (h, oo 3 (fMa n .null sa (give1 c))), (sa, aI E 4 s), (fo, oo 2 [.ref f1, .ref f2, .ref f3, .int (iI nf)]), (f1, aI E 8 fm), (f2, aI E 8 fa), (f3, aI E 8 fb)]) [5, 6, 0, 1, 2, 3, 4] rfl (by decide) rfl ?_
            refine g_if_ne (tgt := 66) (by unfold R32; omega) dX1_stepOf_61 rfl (fun _ => ?_) (fun q => absurd q (by decide))
            refine g_iconst dX1_stepOf_64 ?_
            exact g_iret hRet dX1_stepOf_65 rfl ⟨4, (give1 c), 0, 0, (by unfold sStep; rw [if_neg hflt, if_neg hwt, if_neg (by omega), if_pos (by omega)]; exact ⟨rfl, rfl, rfl, rfl⟩), rfl, rfl⟩
          · refine g_callV_i (n := 1) (As := [.ref h]) (wr := [(sa, aI E 4 s), (fo, oo 2 [.ref f1, .ref f2, .ref f3, .int (iI nf)]), (f1, aI E 8 fm), (f2, aI E 8 fa), (f3, aI E 8 fb)]) (C := RX1) [] (c_take_s1 E v ma fo la M ti so ta go sl h sa n (give1 c) (by omega) (by omega) (by omega) (by omega) (by assumption) (by assumption)) [0, 1] [2, 3, 4, 5, 6] 0 rfl rfl gX1_stepOf_X1_takeFor rfl ⟨rfl, by decide +kernel⟩ ⟨by decide, by decide⟩ rfl rfl rfl rfl rfl (by decide) rfl (by decide) (by decide) (fun _ h => absurd h List.not_mem_nil) dX1_stepOf_58 rfl (Nat.le_of_ble_eq_true rfl) ⟨by decide, by decide⟩ (fun r u p_8 => ?_)
            obtain ⟨rfl, rfl⟩ := p_8
            refine g_perm (ws1 := [(v, oo 1 [.ref ma, .int (iI M), .ref fo, .ref la, .int (iI ti), .int (iI (so - 1)), .int (iI (ta + 1)), .int (iI go), .int (iI sl)]), (h, oo 3 (fMa n .null sa (up (give1 c) 1 1))), (sa, aI E 4 s), (fo, oo 2 [.ref f1, .ref f2, .ref f3, .int (iI nf)]), (f1, aI E 8 fm), (f2, aI E 8 fa), (f3, aI E 8 fb)]) [5, 6, 0, 1, 2, 3, 4] rfl (by decide) rfl ?_
            refine g_if_ne (tgt := 66) (by unfold R32; omega) dX1_stepOf_61 rfl (fun q => absurd q (by decide)) (fun _ => ?_)
            refine g_aload_n 1 dX1_stepOf_66 rfl rfl ?_
            refine g_dup dX1_stepOf_67 rfl ?_
            refine g_get (v := .int (iI ((give1 c) 3))) (C := RX3) (T := TX3) (N := 14) 1 6 (fun _ h => List.mem_cons_of_mem _ (List.mem_append_left _ (List.mem_append_right _ h))) (List.mem_of_getElem? (i := 6) rfl) rfl rfl (by decide) rfl rfl dX1_stepOf_68 ?_
            refine g_iconst dX1_stepOf_71 ?_
            refine g_iadd dX1_stepOf_72 ?_
            refine g_put (C := RX3) (T := TX3) (N := 14) (ws1 := [(v, oo 1 [.ref ma, .int (iI M), .ref fo, .ref la, .int (iI ti), .int (iI (so - 1)), .int (iI (ta + 1)), .int (iI go), .int (iI sl)]), (h, oo 3 (fMa n .null sa (up (up (give1 c) 1 1) 3 (((give1 c) 3) + 1)))), (sa, aI E 4 s), (fo, oo 2 [.ref f1, .ref f2, .ref f3, .int (iI nf)]), (f1, aI E 8 fm), (f2, aI E 8 fa), (f3, aI E 8 fb)]) 1 6 (fun _ h => List.mem_cons_of_mem _ (List.mem_append_left _ (List.mem_append_right _ h))) tyX3 tyX3_ok nmX3 (List.mem_of_getElem? (i := 6) rfl) rfl rfl (by decide) rfl (tyX3_ok 6 (by decide)) rfl rfl (by first | decide | exact Nat.le_of_ble_eq_true rfl) dX1_stepOf_73 rfl rfl ?_
            have hD_10 : work1 c = up (up (give1 c) 1 1) 3 (((give1 c) 3) + 1) := by unfold work1; first | (rw [if_pos (by omega), hg3]; done) | (rw [if_neg (by omega), hg3]; done)
            refine g_as (ws1 := [(v, oo 1 [.ref ma, .int (iI M), .ref fo, .ref la, .int (iI ti), .int (iI (so - 1)), .int (iI (ta + 1)), .int (iI go), .int (iI sl)]), (h, oo 3 (fMa n .null sa (work1 c))), (sa, aI E 4 s), (fo, oo 2 [.ref f1, .ref f2, .ref f3, .int (iI nf)]), (f1, aI E 8 fm), (f2, aI E 8 fa), (f3, aI E 8 fb)]) ?_ (by rw [hD_10]) rfl rfl
            have hw3 := work1_3 c
            have hwm : mOk (work1 c) := mOk_work hc (fun q => by (try unfold sOk at hs); omega) hc3
            refine g_aload_n 1 dX1_stepOf_76 rfl rfl ?_
            refine g_callV_i (n := 0) (As := []) (wr := [(v, oo 1 [.ref ma, .int (iI M), .ref fo, .ref la, .int (iI ti), .int (iI (so - 1)), .int (iI (ta + 1)), .int (iI go), .int (iI sl)]), (fo, oo 2 [.ref f1, .ref f2, .ref f3, .int (iI nf)]), (f1, aI E 8 fm), (f2, aI E 8 fa), (f3, aI E 8 fb)]) (C := RX3) [] (c_X3_unitIsFinished E h sa n .null (work1 c) s (by assumption) (by assumption)) [1, 2] [0, 3, 4, 5, 6] 0 rfl rfl gX1_stepOf_X3_unitIsFinished rfl ⟨rfl, by decide +kernel⟩ ⟨by decide, by decide⟩ rfl rfl rfl rfl rfl (by decide) rfl (by decide) (by decide) (fun _ h => absurd h List.not_mem_nil) dX1_stepOf_77 rfl (Nat.le_of_ble_eq_true rfl) ⟨by decide, by decide⟩ (fun r u p_11 => ?_)
            obtain ⟨rfl, rfl⟩ := p_11
            refine g_perm (ws1 := [(v, oo 1 [.ref ma, .int (iI M), .ref fo, .ref la, .int (iI ti), .int (iI (so - 1)), .int (iI (ta + 1)), .int (iI go), .int (iI sl)]), (h, oo 3 (fMa n .null sa (work1 c))), (sa, aI E 4 s), (fo, oo 2 [.ref f1, .ref f2, .ref f3, .int (iI nf)]), (f1, aI E 8 fm), (f2, aI E 8 fa), (f3, aI E 8 fb)]) [0, 5, 6, 1, 2, 3, 4] rfl (by decide) rfl ?_
            refine g_if_eq_b (tgt := 88) dX1_stepOf_80 rfl (fun hfn => ?_) (fun hfn => ?_)
            · refine g_aload_n 0 dX1_stepOf_83 rfl rfl ?_
              refine g_aload_n 1 dX1_stepOf_84 rfl rfl ?_
              refine g_callV_v (n := 1) (As := [.ref h]) (wr := [(fo, oo 2 [.ref f1, .ref f2, .ref f3, .int (iI nf)]), (f1, aI E 8 fm), (f2, aI E 8 fa), (f3, aI E 8 fb)]) (C := RX1) [] (c_fin E v ma fo la M ti (so - 1) (ta + 1) go sl h sa n .null (work1 c) s (by omega) (by omega) (by omega) (by omega) (by omega) (by assumption) (by assumption)) [0, 1, 2] [3, 4, 5, 6] 0 rfl rfl gX1_stepOf_X1_finishAt rfl ⟨rfl, by decide +kernel⟩ ⟨by decide, by decide⟩ rfl rfl rfl rfl rfl (by decide) rfl (by decide) (by decide) (fun _ h => absurd h List.not_mem_nil) dX1_stepOf_85 rfl (Nat.le_of_ble_eq_true rfl) ⟨by decide, by decide⟩ (fun u p_12 => ?_)
              obtain ⟨c_13, gd_14, fend, rfl⟩ := p_12
              refine g_perm (ws1 := [(v, oo 1 [.ref ma, .int (iI M), .ref fo, .ref la, .int (iI ti), .int (iI (so - 1)), .int (iI (ta + 1)), .int (iI (if gd_14 = 0 then go else go + 1)), .int (iI sl)]), (h, oo 3 (fMa n .null sa c_13)), (sa, aI E 4 s), (fo, oo 2 [.ref f1, .ref f2, .ref f3, .int (iI nf)]), (f1, aI E 8 fm), (f2, aI E 8 fa), (f3, aI E 8 fb)]) [4, 5, 6, 0, 1, 2, 3] rfl (by decide) rfl ?_
              refine g_iconst dX1_stepOf_88 ?_
              exact g_iret hRet dX1_stepOf_89 rfl ⟨3, c_13, 1, gd_14, (by unfold sStep; rw [if_neg hflt, if_neg hwt, if_neg (by omega), if_neg (by omega)]; refine ⟨rfl, ?_, ?_⟩; (first | rw [if_pos (by omega)] | rw [if_neg (by omega)]); unfold sFin; first | (rw [if_pos (by omega)]; exact ⟨rfl, rfl⟩) | (rw [if_neg (by omega)]; exact fend)), rfl, rfl⟩
            · refine g_iconst dX1_stepOf_88 ?_
              exact g_iret hRet dX1_stepOf_89 rfl ⟨3, (work1 c), 1, 0, (by unfold sStep; rw [if_neg hflt, if_neg hwt, if_neg (by omega), if_neg (by omega)]; refine ⟨rfl, ?_, ?_⟩; (first | rw [if_pos (by omega)] | rw [if_neg (by omega)]); unfold sFin; first | (rw [if_pos (by omega)]; exact ⟨rfl, rfl⟩) | (rw [if_neg (by omega)]; exact fend)), rfl, rfl⟩
        · refine g_aload_n 1 dX1_stepOf_66 rfl rfl ?_
          refine g_dup dX1_stepOf_67 rfl ?_
          refine g_get (v := .int (iI ((give1 c) 3))) (C := RX3) (T := TX3) (N := 14) 1 6 (fun _ h => List.mem_cons_of_mem _ (List.mem_append_left _ (List.mem_append_right _ h))) (List.mem_of_getElem? (i := 6) rfl) rfl rfl (by decide) rfl rfl dX1_stepOf_68 ?_
          refine g_iconst dX1_stepOf_71 ?_
          refine g_iadd dX1_stepOf_72 ?_
          refine g_put (C := RX3) (T := TX3) (N := 14) (ws1 := [(v, oo 1 [.ref ma, .int (iI M), .ref fo, .ref la, .int (iI ti), .int (iI so), .int (iI ta), .int (iI go), .int (iI sl)]), (h, oo 3 (fMa n .null sa (up (give1 c) 3 (((give1 c) 3) + 1)))), (sa, aI E 4 s), (fo, oo 2 [.ref f1, .ref f2, .ref f3, .int (iI nf)]), (f1, aI E 8 fm), (f2, aI E 8 fa), (f3, aI E 8 fb)]) 1 6 (fun _ h => List.mem_cons_of_mem _ (List.mem_append_left _ (List.mem_append_right _ h))) tyX3 tyX3_ok nmX3 (List.mem_of_getElem? (i := 6) rfl) rfl rfl (by decide) rfl (tyX3_ok 6 (by decide)) rfl rfl (by first | decide | exact Nat.le_of_ble_eq_true rfl) dX1_stepOf_73 rfl rfl ?_
          have hD_15 : work1 c = up (give1 c) 3 (((give1 c) 3) + 1) := by unfold work1; first | (rw [if_pos (by omega), hg3]; done) | (rw [if_neg (by omega), hg3]; done)
          refine g_as (ws1 := [(v, oo 1 [.ref ma, .int (iI M), .ref fo, .ref la, .int (iI ti), .int (iI so), .int (iI ta), .int (iI go), .int (iI sl)]), (h, oo 3 (fMa n .null sa (work1 c))), (sa, aI E 4 s), (fo, oo 2 [.ref f1, .ref f2, .ref f3, .int (iI nf)]), (f1, aI E 8 fm), (f2, aI E 8 fa), (f3, aI E 8 fb)]) ?_ (by rw [hD_15]) rfl rfl
          have hw3 := work1_3 c
          have hwm : mOk (work1 c) := mOk_work hc (fun q => by (try unfold sOk at hs); omega) hc3
          refine g_aload_n 1 dX1_stepOf_76 rfl rfl ?_
          refine g_callV_i (n := 0) (As := []) (wr := [(v, oo 1 [.ref ma, .int (iI M), .ref fo, .ref la, .int (iI ti), .int (iI so), .int (iI ta), .int (iI go), .int (iI sl)]), (fo, oo 2 [.ref f1, .ref f2, .ref f3, .int (iI nf)]), (f1, aI E 8 fm), (f2, aI E 8 fa), (f3, aI E 8 fb)]) (C := RX3) [] (c_X3_unitIsFinished E h sa n .null (work1 c) s (by assumption) (by assumption)) [1, 2] [0, 3, 4, 5, 6] 0 rfl rfl gX1_stepOf_X3_unitIsFinished rfl ⟨rfl, by decide +kernel⟩ ⟨by decide, by decide⟩ rfl rfl rfl rfl rfl (by decide) rfl (by decide) (by decide) (fun _ h => absurd h List.not_mem_nil) dX1_stepOf_77 rfl (Nat.le_of_ble_eq_true rfl) ⟨by decide, by decide⟩ (fun r u p_16 => ?_)
          obtain ⟨rfl, rfl⟩ := p_16
          refine g_perm (ws1 := [(v, oo 1 [.ref ma, .int (iI M), .ref fo, .ref la, .int (iI ti), .int (iI so), .int (iI ta), .int (iI go), .int (iI sl)]), (h, oo 3 (fMa n .null sa (work1 c))), (sa, aI E 4 s), (fo, oo 2 [.ref f1, .ref f2, .ref f3, .int (iI nf)]), (f1, aI E 8 fm), (f2, aI E 8 fa), (f3, aI E 8 fb)]) [0, 5, 6, 1, 2, 3, 4] rfl (by decide) rfl ?_
          refine g_if_eq_b (tgt := 88) dX1_stepOf_80 rfl (fun hfn => ?_) (fun hfn => ?_)
          · refine g_aload_n 0 dX1_stepOf_83 rfl rfl ?_
            refine g_aload_n 1 dX1_stepOf_84 rfl rfl ?_
            refine g_callV_v (n := 1) (As := [.ref h]) (wr := [(fo, oo 2 [.ref f1, .ref f2, .ref f3, .int (iI nf)]), (f1, aI E 8 fm), (f2, aI E 8 fa), (f3, aI E 8 fb)]) (C := RX1) [] (c_fin E v ma fo la M ti so ta go sl h sa n .null (work1 c) s (by omega) (by omega) (by omega) (by omega) (by omega) (by assumption) (by assumption)) [0, 1, 2] [3, 4, 5, 6] 0 rfl rfl gX1_stepOf_X1_finishAt rfl ⟨rfl, by decide +kernel⟩ ⟨by decide, by decide⟩ rfl rfl rfl rfl rfl (by decide) rfl (by decide) (by decide) (fun _ h => absurd h List.not_mem_nil) dX1_stepOf_85 rfl (Nat.le_of_ble_eq_true rfl) ⟨by decide, by decide⟩ (fun u p_17 => ?_)
            obtain ⟨c_18, gd_19, fend, rfl⟩ := p_17
            refine g_perm (ws1 := [(v, oo 1 [.ref ma, .int (iI M), .ref fo, .ref la, .int (iI ti), .int (iI so), .int (iI ta), .int (iI (if gd_19 = 0 then go else go + 1)), .int (iI sl)]), (h, oo 3 (fMa n .null sa c_18)), (sa, aI E 4 s), (fo, oo 2 [.ref f1, .ref f2, .ref f3, .int (iI nf)]), (f1, aI E 8 fm), (f2, aI E 8 fa), (f3, aI E 8 fb)]) [4, 5, 6, 0, 1, 2, 3] rfl (by decide) rfl ?_
            refine g_iconst dX1_stepOf_88 ?_
            exact g_iret hRet dX1_stepOf_89 rfl ⟨3, c_18, 0, gd_19, (by unfold sStep; rw [if_neg hflt, if_neg hwt, if_neg (by omega), if_neg (by omega)]; refine ⟨rfl, ?_, ?_⟩; (first | rw [if_pos (by omega)] | rw [if_neg (by omega)]); unfold sFin; first | (rw [if_pos (by omega)]; exact ⟨rfl, rfl⟩) | (rw [if_neg (by omega)]; exact fend)), rfl, rfl⟩
          · refine g_iconst dX1_stepOf_88 ?_
            exact g_iret hRet dX1_stepOf_89 rfl ⟨3, (work1 c), 0, 0, (by unfold sStep; rw [if_neg hflt, if_neg hwt, if_neg (by omega), if_neg (by omega)]; refine ⟨rfl, ?_, ?_⟩; (first | rw [if_pos (by omega)] | rw [if_neg (by omega)]); unfold sFin; first | (rw [if_pos (by omega)]; exact ⟨rfl, rfl⟩) | (rw [if_neg (by omega)]; exact fend)), rfl, rfl⟩
      · refine g_aload_n 1 dX1_stepOf_40 rfl rfl ?_
        rcases (Classical.em (c 0 < s 3)) with hg | hg
        · refine g_callV_i (n := 0) (As := []) (wr := [(v, oo 1 [.ref ma, .int (iI M), .ref fo, .ref la, .int (iI ti), .int (iI so), .int (iI ta), .int (iI go), .int (iI sl)]), (fo, oo 2 [.ref f1, .ref f2, .ref f3, .int (iI nf)]), (f1, aI E 8 fm), (f2, aI E 8 fa), (f3, aI E 8 fb)]) (C := RX3) [] (c_giveOn_t E h sa n .null c s (by assumption) (by omega) (by assumption)) [1, 2] [0, 3, 4, 5, 6] 0 rfl rfl gX1_stepOf_X3_giveOn rfl ⟨rfl, by decide +kernel⟩ ⟨by decide, by decide⟩ rfl rfl rfl rfl rfl (by decide) rfl (by decide) (by decide) (fun _ h => absurd h List.not_mem_nil) dX1_stepOf_41 rfl (Nat.le_of_ble_eq_true rfl) ⟨by decide, by decide⟩ (fun r u p_20 => ?_)
          obtain ⟨rfl, rfl⟩ := p_20
          refine g_perm (ws1 := [(v, oo 1 [.ref ma, .int (iI M), .ref fo, .ref la, .int (iI ti), .int (iI so), .int (iI ta), .int (iI go), .int (iI sl)]), (h, oo 3 (fMa n .null sa (up (up c 0 (c 0 + 1)) 2 0))), (sa, aI E 4 s), (fo, oo 2 [.ref f1, .ref f2, .ref f3, .int (iI nf)]), (f1, aI E 8 fm), (f2, aI E 8 fa), (f3, aI E 8 fb)]) [0, 5, 6, 1, 2, 3, 4] rfl (by decide) rfl ?_
          refine g_if_ne (tgt := 49) (by unfold R32; omega) dX1_stepOf_44 rfl (fun q => absurd q (by decide)) (fun _ => ?_)
          have hD_22 : give1 c = up (up c 0 (c 0 + 1)) 2 0 := by unfold give1; first | (rw [if_pos (by omega)]; done) | (rw [if_neg (by omega)]; done)
          refine g_as (ws1 := [(v, oo 1 [.ref ma, .int (iI M), .ref fo, .ref la, .int (iI ti), .int (iI so), .int (iI ta), .int (iI go), .int (iI sl)]), (h, oo 3 (fMa n .null sa (give1 c))), (sa, aI E 4 s), (fo, oo 2 [.ref f1, .ref f2, .ref f3, .int (iI nf)]), (f1, aI E 8 fm), (f2, aI E 8 fa), (f3, aI E 8 fb)]) ?_ (by rw [hD_22]) rfl rfl
          have hg1 := give1_o c 1 (by omega) (by omega)
          have hg3 := give1_o c 3 (by omega) (by omega)
          have hgm : mOk (give1 c) := mOk_give hc (fun q => by (try unfold sOk at hs); omega)
          refine g_aload_n 1 dX1_stepOf_49 rfl rfl ?_
          refine g_get (v := .int (iI ((give1 c) 1))) (C := RX3) (T := TX3) (N := 14) 1 4 (fun _ h => List.mem_cons_of_mem _ (List.mem_append_left _ (List.mem_append_right _ h))) (List.mem_of_getElem? (i := 5) rfl) rfl rfl (by decide) rfl rfl dX1_stepOf_50 ?_
          refine g_if_ne (tgt := 66) (by unfold mOk at hgm; unfold R32; omega) dX1_stepOf_53 rfl (fun c_23 => ?_) (fun c_23 => ?_)
          · refine g_aload_n 0 dX1_stepOf_56 rfl rfl ?_
            refine g_aload_n 1 dX1_stepOf_57 rfl rfl ?_
            rcases (Classical.em (so = 0)) with ha | ha
            · refine g_callV_i (n := 1) (As := [.ref h]) (wr := [(sa, aI E 4 s), (fo, oo 2 [.ref f1, .ref f2, .ref f3, .int (iI nf)]), (f1, aI E 8 fm), (f2, aI E 8 fa), (f3, aI E 8 fb)]) (C := RX1) [] (c_take_s0 E v ma fo la M ti so ta go sl h sa n (give1 c) (by omega) (by omega) (by omega) (by omega) (by assumption) (by assumption)) [0, 1] [2, 3, 4, 5, 6] 0 rfl rfl gX1_stepOf_X1_takeFor rfl ⟨rfl, by decide +kernel⟩ ⟨by decide, by decide⟩ rfl rfl rfl rfl rfl (by decide) rfl (by decide) (by decide) (fun _ h => absurd h List.not_mem_nil) dX1_stepOf_58 rfl (Nat.le_of_ble_eq_true rfl) ⟨by decide, by decide⟩ (fun r u p_24 => ?_)
              obtain ⟨rfl, rfl⟩ := p_24
              refine g_perm (ws1 := [(v, oo 1 [.ref ma, .int (iI M), .ref fo, .ref la, .int (iI ti), .int (iI so), .int (iI ta), .int (iI go), .int (iI sl)]), (h, oo 3 (fMa n .null sa (give1 c))), (sa, aI E 4 s), (fo, oo 2 [.ref f1, .ref f2, .ref f3, .int (iI nf)]), (f1, aI E 8 fm), (f2, aI E 8 fa), (f3, aI E 8 fb)]) [5, 6, 0, 1, 2, 3, 4] rfl (by decide) rfl ?_
              refine g_if_ne (tgt := 66) (by unfold R32; omega) dX1_stepOf_61 rfl (fun _ => ?_) (fun q => absurd q (by decide))
              refine g_iconst dX1_stepOf_64 ?_
              exact g_iret hRet dX1_stepOf_65 rfl ⟨4, (give1 c), 0, 0, (by unfold sStep; rw [if_neg hflt, if_neg hwt, if_neg (by omega), if_pos (by omega)]; exact ⟨rfl, rfl, rfl, rfl⟩), rfl, rfl⟩
            · refine g_callV_i (n := 1) (As := [.ref h]) (wr := [(sa, aI E 4 s), (fo, oo 2 [.ref f1, .ref f2, .ref f3, .int (iI nf)]), (f1, aI E 8 fm), (f2, aI E 8 fa), (f3, aI E 8 fb)]) (C := RX1) [] (c_take_s1 E v ma fo la M ti so ta go sl h sa n (give1 c) (by omega) (by omega) (by omega) (by omega) (by assumption) (by assumption)) [0, 1] [2, 3, 4, 5, 6] 0 rfl rfl gX1_stepOf_X1_takeFor rfl ⟨rfl, by decide +kernel⟩ ⟨by decide, by decide⟩ rfl rfl rfl rfl rfl (by decide) rfl (by decide) (by decide) (fun _ h => absurd h List.not_mem_nil) dX1_stepOf_58 rfl (Nat.le_of_ble_eq_true rfl) ⟨by decide, by decide⟩ (fun r u p_26 => ?_)
              obtain ⟨rfl, rfl⟩ := p_26
              refine g_perm (ws1 := [(v, oo 1 [.ref ma, .int (iI M), .ref fo, .ref la, .int (iI ti), .int (iI (so - 1)), .int (iI (ta + 1)), .int (iI go), .int (iI sl)]), (h, oo 3 (fMa n .null sa (up (give1 c) 1 1))), (sa, aI E 4 s), (fo, oo 2 [.ref f1, .ref f2, .ref f3, .int (iI nf)]), (f1, aI E 8 fm), (f2, aI E 8 fa), (f3, aI E 8 fb)]) [5, 6, 0, 1, 2, 3, 4] rfl (by decide) rfl ?_
              refine g_if_ne (tgt := 66) (by unfold R32; omega) dX1_stepOf_61 rfl (fun q => absurd q (by decide)) (fun _ => ?_)
              refine g_aload_n 1 dX1_stepOf_66 rfl rfl ?_
              refine g_dup dX1_stepOf_67 rfl ?_
              refine g_get (v := .int (iI ((give1 c) 3))) (C := RX3) (T := TX3) (N := 14) 1 6 (fun _ h => List.mem_cons_of_mem _ (List.mem_append_left _ (List.mem_append_right _ h))) (List.mem_of_getElem? (i := 6) rfl) rfl rfl (by decide) rfl rfl dX1_stepOf_68 ?_
              refine g_iconst dX1_stepOf_71 ?_
              refine g_iadd dX1_stepOf_72 ?_
              refine g_put (C := RX3) (T := TX3) (N := 14) (ws1 := [(v, oo 1 [.ref ma, .int (iI M), .ref fo, .ref la, .int (iI ti), .int (iI (so - 1)), .int (iI (ta + 1)), .int (iI go), .int (iI sl)]), (h, oo 3 (fMa n .null sa (up (up (give1 c) 1 1) 3 (((give1 c) 3) + 1)))), (sa, aI E 4 s), (fo, oo 2 [.ref f1, .ref f2, .ref f3, .int (iI nf)]), (f1, aI E 8 fm), (f2, aI E 8 fa), (f3, aI E 8 fb)]) 1 6 (fun _ h => List.mem_cons_of_mem _ (List.mem_append_left _ (List.mem_append_right _ h))) tyX3 tyX3_ok nmX3 (List.mem_of_getElem? (i := 6) rfl) rfl rfl (by decide) rfl (tyX3_ok 6 (by decide)) rfl rfl (by first | decide | exact Nat.le_of_ble_eq_true rfl) dX1_stepOf_73 rfl rfl ?_
              have hD_28 : work1 c = up (up (give1 c) 1 1) 3 (((give1 c) 3) + 1) := by unfold work1; first | (rw [if_pos (by omega), hg3]; done) | (rw [if_neg (by omega), hg3]; done)
              refine g_as (ws1 := [(v, oo 1 [.ref ma, .int (iI M), .ref fo, .ref la, .int (iI ti), .int (iI (so - 1)), .int (iI (ta + 1)), .int (iI go), .int (iI sl)]), (h, oo 3 (fMa n .null sa (work1 c))), (sa, aI E 4 s), (fo, oo 2 [.ref f1, .ref f2, .ref f3, .int (iI nf)]), (f1, aI E 8 fm), (f2, aI E 8 fa), (f3, aI E 8 fb)]) ?_ (by rw [hD_28]) rfl rfl
              have hw3 := work1_3 c
              have hwm : mOk (work1 c) := mOk_work hc (fun q => by (try unfold sOk at hs); omega) hc3
              refine g_aload_n 1 dX1_stepOf_76 rfl rfl ?_
              refine g_callV_i (n := 0) (As := []) (wr := [(v, oo 1 [.ref ma, .int (iI M), .ref fo, .ref la, .int (iI ti), .int (iI (so - 1)), .int (iI (ta + 1)), .int (iI go), .int (iI sl)]), (fo, oo 2 [.ref f1, .ref f2, .ref f3, .int (iI nf)]), (f1, aI E 8 fm), (f2, aI E 8 fa), (f3, aI E 8 fb)]) (C := RX3) [] (c_X3_unitIsFinished E h sa n .null (work1 c) s (by assumption) (by assumption)) [1, 2] [0, 3, 4, 5, 6] 0 rfl rfl gX1_stepOf_X3_unitIsFinished rfl ⟨rfl, by decide +kernel⟩ ⟨by decide, by decide⟩ rfl rfl rfl rfl rfl (by decide) rfl (by decide) (by decide) (fun _ h => absurd h List.not_mem_nil) dX1_stepOf_77 rfl (Nat.le_of_ble_eq_true rfl) ⟨by decide, by decide⟩ (fun r u p_29 => ?_)
              obtain ⟨rfl, rfl⟩ := p_29
              refine g_perm (ws1 := [(v, oo 1 [.ref ma, .int (iI M), .ref fo, .ref la, .int (iI ti), .int (iI (so - 1)), .int (iI (ta + 1)), .int (iI go), .int (iI sl)]), (h, oo 3 (fMa n .null sa (work1 c))), (sa, aI E 4 s), (fo, oo 2 [.ref f1, .ref f2, .ref f3, .int (iI nf)]), (f1, aI E 8 fm), (f2, aI E 8 fa), (f3, aI E 8 fb)]) [0, 5, 6, 1, 2, 3, 4] rfl (by decide) rfl ?_
              refine g_if_eq_b (tgt := 88) dX1_stepOf_80 rfl (fun hfn => ?_) (fun hfn => ?_)
              · refine g_aload_n 0 dX1_stepOf_83 rfl rfl ?_
                refine g_aload_n 1 dX1_stepOf_84 rfl rfl ?_
                refine g_callV_v (n := 1) (As := [.ref h]) (wr := [(fo, oo 2 [.ref f1, .ref f2, .ref f3, .int (iI nf)]), (f1, aI E 8 fm), (f2, aI E 8 fa), (f3, aI E 8 fb)]) (C := RX1) [] (c_fin E v ma fo la M ti (so - 1) (ta + 1) go sl h sa n .null (work1 c) s (by omega) (by omega) (by omega) (by omega) (by omega) (by assumption) (by assumption)) [0, 1, 2] [3, 4, 5, 6] 0 rfl rfl gX1_stepOf_X1_finishAt rfl ⟨rfl, by decide +kernel⟩ ⟨by decide, by decide⟩ rfl rfl rfl rfl rfl (by decide) rfl (by decide) (by decide) (fun _ h => absurd h List.not_mem_nil) dX1_stepOf_85 rfl (Nat.le_of_ble_eq_true rfl) ⟨by decide, by decide⟩ (fun u p_30 => ?_)
                obtain ⟨c_31, gd_32, fend, rfl⟩ := p_30
                refine g_perm (ws1 := [(v, oo 1 [.ref ma, .int (iI M), .ref fo, .ref la, .int (iI ti), .int (iI (so - 1)), .int (iI (ta + 1)), .int (iI (if gd_32 = 0 then go else go + 1)), .int (iI sl)]), (h, oo 3 (fMa n .null sa c_31)), (sa, aI E 4 s), (fo, oo 2 [.ref f1, .ref f2, .ref f3, .int (iI nf)]), (f1, aI E 8 fm), (f2, aI E 8 fa), (f3, aI E 8 fb)]) [4, 5, 6, 0, 1, 2, 3] rfl (by decide) rfl ?_
                refine g_iconst dX1_stepOf_88 ?_
                exact g_iret hRet dX1_stepOf_89 rfl ⟨3, c_31, 1, gd_32, (by unfold sStep; rw [if_neg hflt, if_neg hwt, if_neg (by omega), if_neg (by omega)]; refine ⟨rfl, ?_, ?_⟩; (first | rw [if_pos (by omega)] | rw [if_neg (by omega)]); unfold sFin; first | (rw [if_pos (by omega)]; exact ⟨rfl, rfl⟩) | (rw [if_neg (by omega)]; exact fend)), rfl, rfl⟩
              · refine g_iconst dX1_stepOf_88 ?_
                exact g_iret hRet dX1_stepOf_89 rfl ⟨3, (work1 c), 1, 0, (by unfold sStep; rw [if_neg hflt, if_neg hwt, if_neg (by omega), if_neg (by omega)]; refine ⟨rfl, ?_, ?_⟩; (first | rw [if_pos (by omega)] | rw [if_neg (by omega)]); unfold sFin; first | (rw [if_pos (by omega)]; exact ⟨rfl, rfl⟩) | (rw [if_neg (by omega)]; exact fend)), rfl, rfl⟩
          · refine g_aload_n 1 dX1_stepOf_66 rfl rfl ?_
            refine g_dup dX1_stepOf_67 rfl ?_
            refine g_get (v := .int (iI ((give1 c) 3))) (C := RX3) (T := TX3) (N := 14) 1 6 (fun _ h => List.mem_cons_of_mem _ (List.mem_append_left _ (List.mem_append_right _ h))) (List.mem_of_getElem? (i := 6) rfl) rfl rfl (by decide) rfl rfl dX1_stepOf_68 ?_
            refine g_iconst dX1_stepOf_71 ?_
            refine g_iadd dX1_stepOf_72 ?_
            refine g_put (C := RX3) (T := TX3) (N := 14) (ws1 := [(v, oo 1 [.ref ma, .int (iI M), .ref fo, .ref la, .int (iI ti), .int (iI so), .int (iI ta), .int (iI go), .int (iI sl)]), (h, oo 3 (fMa n .null sa (up (give1 c) 3 (((give1 c) 3) + 1)))), (sa, aI E 4 s), (fo, oo 2 [.ref f1, .ref f2, .ref f3, .int (iI nf)]), (f1, aI E 8 fm), (f2, aI E 8 fa), (f3, aI E 8 fb)]) 1 6 (fun _ h => List.mem_cons_of_mem _ (List.mem_append_left _ (List.mem_append_right _ h))) tyX3 tyX3_ok nmX3 (List.mem_of_getElem? (i := 6) rfl) rfl rfl (by decide) rfl (tyX3_ok 6 (by decide)) rfl rfl (by first | decide | exact Nat.le_of_ble_eq_true rfl) dX1_stepOf_73 rfl rfl ?_
            have hD_33 : work1 c = up (give1 c) 3 (((give1 c) 3) + 1) := by unfold work1; first | (rw [if_pos (by omega), hg3]; done) | (rw [if_neg (by omega), hg3]; done)
            refine g_as (ws1 := [(v, oo 1 [.ref ma, .int (iI M), .ref fo, .ref la, .int (iI ti), .int (iI so), .int (iI ta), .int (iI go), .int (iI sl)]), (h, oo 3 (fMa n .null sa (work1 c))), (sa, aI E 4 s), (fo, oo 2 [.ref f1, .ref f2, .ref f3, .int (iI nf)]), (f1, aI E 8 fm), (f2, aI E 8 fa), (f3, aI E 8 fb)]) ?_ (by rw [hD_33]) rfl rfl
            have hw3 := work1_3 c
            have hwm : mOk (work1 c) := mOk_work hc (fun q => by (try unfold sOk at hs); omega) hc3
            refine g_aload_n 1 dX1_stepOf_76 rfl rfl ?_
            refine g_callV_i (n := 0) (As := []) (wr := [(v, oo 1 [.ref ma, .int (iI M), .ref fo, .ref la, .int (iI ti), .int (iI so), .int (iI ta), .int (iI go), .int (iI sl)]), (fo, oo 2 [.ref f1, .ref f2, .ref f3, .int (iI nf)]), (f1, aI E 8 fm), (f2, aI E 8 fa), (f3, aI E 8 fb)]) (C := RX3) [] (c_X3_unitIsFinished E h sa n .null (work1 c) s (by assumption) (by assumption)) [1, 2] [0, 3, 4, 5, 6] 0 rfl rfl gX1_stepOf_X3_unitIsFinished rfl ⟨rfl, by decide +kernel⟩ ⟨by decide, by decide⟩ rfl rfl rfl rfl rfl (by decide) rfl (by decide) (by decide) (fun _ h => absurd h List.not_mem_nil) dX1_stepOf_77 rfl (Nat.le_of_ble_eq_true rfl) ⟨by decide, by decide⟩ (fun r u p_34 => ?_)
            obtain ⟨rfl, rfl⟩ := p_34
            refine g_perm (ws1 := [(v, oo 1 [.ref ma, .int (iI M), .ref fo, .ref la, .int (iI ti), .int (iI so), .int (iI ta), .int (iI go), .int (iI sl)]), (h, oo 3 (fMa n .null sa (work1 c))), (sa, aI E 4 s), (fo, oo 2 [.ref f1, .ref f2, .ref f3, .int (iI nf)]), (f1, aI E 8 fm), (f2, aI E 8 fa), (f3, aI E 8 fb)]) [0, 5, 6, 1, 2, 3, 4] rfl (by decide) rfl ?_
            refine g_if_eq_b (tgt := 88) dX1_stepOf_80 rfl (fun hfn => ?_) (fun hfn => ?_)
            · refine g_aload_n 0 dX1_stepOf_83 rfl rfl ?_
              refine g_aload_n 1 dX1_stepOf_84 rfl rfl ?_
              refine g_callV_v (n := 1) (As := [.ref h]) (wr := [(fo, oo 2 [.ref f1, .ref f2, .ref f3, .int (iI nf)]), (f1, aI E 8 fm), (f2, aI E 8 fa), (f3, aI E 8 fb)]) (C := RX1) [] (c_fin E v ma fo la M ti so ta go sl h sa n .null (work1 c) s (by omega) (by omega) (by omega) (by omega) (by omega) (by assumption) (by assumption)) [0, 1, 2] [3, 4, 5, 6] 0 rfl rfl gX1_stepOf_X1_finishAt rfl ⟨rfl, by decide +kernel⟩ ⟨by decide, by decide⟩ rfl rfl rfl rfl rfl (by decide) rfl (by decide) (by decide) (fun _ h => absurd h List.not_mem_nil) dX1_stepOf_85 rfl (Nat.le_of_ble_eq_true rfl) ⟨by decide, by decide⟩ (fun u p_35 => ?_)
              obtain ⟨c_36, gd_37, fend, rfl⟩ := p_35
              refine g_perm (ws1 := [(v, oo 1 [.ref ma, .int (iI M), .ref fo, .ref la, .int (iI ti), .int (iI so), .int (iI ta), .int (iI (if gd_37 = 0 then go else go + 1)), .int (iI sl)]), (h, oo 3 (fMa n .null sa c_36)), (sa, aI E 4 s), (fo, oo 2 [.ref f1, .ref f2, .ref f3, .int (iI nf)]), (f1, aI E 8 fm), (f2, aI E 8 fa), (f3, aI E 8 fb)]) [4, 5, 6, 0, 1, 2, 3] rfl (by decide) rfl ?_
              refine g_iconst dX1_stepOf_88 ?_
              exact g_iret hRet dX1_stepOf_89 rfl ⟨3, c_36, 0, gd_37, (by unfold sStep; rw [if_neg hflt, if_neg hwt, if_neg (by omega), if_neg (by omega)]; refine ⟨rfl, ?_, ?_⟩; (first | rw [if_pos (by omega)] | rw [if_neg (by omega)]); unfold sFin; first | (rw [if_pos (by omega)]; exact ⟨rfl, rfl⟩) | (rw [if_neg (by omega)]; exact fend)), rfl, rfl⟩
            · refine g_iconst dX1_stepOf_88 ?_
              exact g_iret hRet dX1_stepOf_89 rfl ⟨3, (work1 c), 0, 0, (by unfold sStep; rw [if_neg hflt, if_neg hwt, if_neg (by omega), if_neg (by omega)]; refine ⟨rfl, ?_, ?_⟩; (first | rw [if_pos (by omega)] | rw [if_neg (by omega)]); unfold sFin; first | (rw [if_pos (by omega)]; exact ⟨rfl, rfl⟩) | (rw [if_neg (by omega)]; exact fend)), rfl, rfl⟩
        · refine g_callV_i (n := 0) (As := []) (wr := [(v, oo 1 [.ref ma, .int (iI M), .ref fo, .ref la, .int (iI ti), .int (iI so), .int (iI ta), .int (iI go), .int (iI sl)]), (fo, oo 2 [.ref f1, .ref f2, .ref f3, .int (iI nf)]), (f1, aI E 8 fm), (f2, aI E 8 fa), (f3, aI E 8 fb)]) (C := RX3) [] (c_giveOn_f E h sa n .null c s (by assumption) (by omega) (by assumption)) [1, 2] [0, 3, 4, 5, 6] 0 rfl rfl gX1_stepOf_X3_giveOn rfl ⟨rfl, by decide +kernel⟩ ⟨by decide, by decide⟩ rfl rfl rfl rfl rfl (by decide) rfl (by decide) (by decide) (fun _ h => absurd h List.not_mem_nil) dX1_stepOf_41 rfl (Nat.le_of_ble_eq_true rfl) ⟨by decide, by decide⟩ (fun r u p_38 => ?_)
          obtain ⟨rfl, rfl⟩ := p_38
          refine g_perm (ws1 := [(v, oo 1 [.ref ma, .int (iI M), .ref fo, .ref la, .int (iI ti), .int (iI so), .int (iI ta), .int (iI go), .int (iI sl)]), (h, oo 3 (fMa n .null sa c)), (sa, aI E 4 s), (fo, oo 2 [.ref f1, .ref f2, .ref f3, .int (iI nf)]), (f1, aI E 8 fm), (f2, aI E 8 fa), (f3, aI E 8 fb)]) [0, 5, 6, 1, 2, 3, 4] rfl (by decide) rfl ?_
          refine g_if_ne (tgt := 49) (by unfold R32; omega) dX1_stepOf_44 rfl (fun _ => ?_) (fun q => absurd q (by decide))
          refine g_iconst dX1_stepOf_47 ?_
          exact g_iret hRet dX1_stepOf_48 rfl ⟨2, c, 0, 0, (by unfold sStep; rw [if_neg hflt, if_neg hwt, if_pos (by omega)]; exact ⟨rfl, rfl, rfl, rfl⟩), rfl, rfl⟩

set_option maxHeartbeats 4000000 in
set_option maxRecDepth 100000 in
theorem c_step_a (E : Ev) (v : Nat) (ma : Nat) (fo : Nat) (la : Nat) (M : Int) (ti : Int) (so : Int) (ta : Int) (go : Int) (sl : Int) (h : Nat) (sa : Nat) (n : Int) (c : Int → Int) (h2 : Nat) (sa2 : Nat) (n2 : Int) (ah : Value) (c2 : Int → Int) (s : Int → Int) (f1 : Nat) (f2 : Nat) (f3 : Nat) (nf : Int) (fm : Int → Int) (fa : Int → Int) (fb : Int → Int) (hM : 2 ≤ M ∧ M ≤ 6) (hti : 0 ≤ ti ∧ ti ≤ 10000) (hso : 0 ≤ so ∧ so ≤ 100000) (hgo : 0 ≤ go ∧ go ≤ 20000) (hc : mOk c) (hc3 : c 3 ≤ 4) (hs : sOk s) (hn : 0 ≤ n ∧ n ≤ 5) (hc2 : mOk c2) (hnf : 0 ≤ nf ∧ nf ≤ 8) (hfm : ∀ k, 0 ≤ fm k ∧ fm k ≤ 5) (hfa : ∀ k, 0 ≤ fa k ∧ fa k ≤ 9999) (hfb : ∀ k, 0 ≤ fb k ∧ fb k ≤ 9999) : MI yX1_stepOf wsX1_stepOf ({ frames := 3, cells := 0, slots := 0, locals := 63 } : Room) E [] 0 0 [.ref v, .ref h] [(v, oo 1 [.ref ma, .int (iI M), .ref fo, .ref la, .int (iI ti), .int (iI so), .int (iI ta), .int (iI go), .int (iI sl)]), (h, oo 3 (fMa n (.ref h2) sa c)), (h2, oo 3 (fMa n2 ah sa2 c2)), (sa, aI E 4 s), (fo, oo 2 [.ref f1, .ref f2, .ref f3, .int (iI nf)]), (f1, aI E 8 fm), (f2, aI E 8 fa), (f3, aI E 8 fb)] (fun r u => ∃ (x : Int), ∃ (c' : Int → Int), ∃ (tk : Int), ∃ (gd : Int), sStep (fl fm fa fb n ti nf) n M ti (c2 0) s c x c' tk gd ∧ r = iI x ∧ u = [(v, oo 1 [.ref ma, .int (iI M), .ref fo, .ref la, .int (iI ti), .int (iI so), .int (iI ta), .int (iI (if gd = 0 then go else go + 1)), .int (iI sl)]), (h, oo 3 (fMa n (.ref h2) sa c')), (h2, oo 3 (fMa n2 ah sa2 (up c2 0 (if tk = 0 then c2 0 else c2 0 - 1)))), (sa, aI E 4 s), (fo, oo 2 [.ref f1, .ref f2, .ref f3, .int (iI nf)]), (f1, aI E 8 fm), (f2, aI E 8 fa), (f3, aI E 8 fb)]) := by
  refine MI.of (cc := cX1_stepOf) (maxL := 2) (own := RX1) (by decide) rfl rfl rfl (Nat.le_of_ble_eq_true rfl) [(0, .ref v), (1, .ref h)] rfl ?_
  intro X hin2 hRet
  refine g_aload_n 0 dX1_stepOf_0 rfl rfl ?_
  refine g_get (C := RX1) (T := TX1) (N := 9) 0 2 (fun _ h => List.mem_cons_of_mem _ (List.mem_append_left _ (List.mem_append_left _ (List.mem_append_right _ h)))) (List.mem_of_getElem? (i := 1) rfl) rfl rfl (by decide) rfl rfl dX1_stepOf_1 ?_
  refine g_aload_n 1 dX1_stepOf_4 rfl rfl ?_
  refine g_get (v := .int (iI n)) (C := RX3) (T := TX3) (N := 14) 1 0 (fun _ h => List.mem_cons_of_mem _ (List.mem_append_left _ (List.mem_append_right _ h))) (List.mem_of_getElem? (i := 2) rfl) rfl rfl (by decide) rfl rfl dX1_stepOf_5 ?_
  refine g_aload_n 0 dX1_stepOf_8 rfl rfl ?_
  refine g_get (C := RX1) (T := TX1) (N := 9) 0 4 (fun _ h => List.mem_cons_of_mem _ (List.mem_append_left _ (List.mem_append_left _ (List.mem_append_right _ h)))) (List.mem_of_getElem? (i := 3) rfl) rfl rfl (by decide) rfl rfl dX1_stepOf_9 ?_
  refine g_callV_i (n := 2) (As := [.int (iI n), .int (iI ti)]) (wr := [(v, oo 1 [.ref ma, .int (iI M), .ref fo, .ref la, .int (iI ti), .int (iI so), .int (iI ta), .int (iI go), .int (iI sl)]), (h, oo 3 (fMa n (.ref h2) sa c)), (h2, oo 3 (fMa n2 ah sa2 c2)), (sa, aI E 4 s)]) (C := RX2) [] (c_X2_stop E fo f1 f2 f3 nf fm fa fb n ti (by omega) (by omega) (by omega) (by omega) (by omega) (by omega)) [4, 5, 6, 7] [0, 1, 2, 3] 0 rfl rfl gX1_stepOf_X2_stop rfl ⟨rfl, by decide +kernel⟩ ⟨by decide, by decide⟩ rfl rfl rfl rfl rfl (by decide) rfl (by decide) (by decide) (fun _ h => absurd h List.not_mem_nil) dX1_stepOf_12 rfl (Nat.le_of_ble_eq_true rfl) ⟨by decide, by decide⟩ (fun r u p_1 => ?_)
  obtain ⟨rfl, rfl⟩ := p_1
  refine g_if_eq_b (tgt := 20) dX1_stepOf_15 rfl (fun hflt => ?_) (fun hflt => ?_)
  · refine g_iconst dX1_stepOf_18 ?_
    exact g_iret hRet dX1_stepOf_19 rfl ⟨0, c, 0, 0, (by unfold sStep; rw [if_pos hflt]; exact ⟨rfl, rfl, rfl, rfl⟩), rfl, rfl⟩
  · refine g_aload_n 1 dX1_stepOf_20 rfl rfl ?_
    refine g_aload_n 0 dX1_stepOf_21 rfl rfl ?_
    refine g_get (C := RX1) (T := TX1) (N := 9) 0 4 (fun _ h => List.mem_cons_of_mem _ (List.mem_append_left _ (List.mem_append_left _ (List.mem_append_right _ h)))) (List.mem_of_getElem? (i := 3) rfl) rfl rfl (by decide) rfl rfl dX1_stepOf_22 ?_
    refine g_callV_i (n := 1) (As := [.int (iI ti)]) (wr := [(v, oo 1 [.ref ma, .int (iI M), .ref fo, .ref la, .int (iI ti), .int (iI so), .int (iI ta), .int (iI go), .int (iI sl)]), (h2, oo 3 (fMa n2 ah sa2 c2)), (sa, aI E 4 s), (fo, oo 2 [.ref f1, .ref f2, .ref f3, .int (iI nf)]), (f1, aI E 8 fm), (f2, aI E 8 fa), (f3, aI E 8 fb)]) (C := RX3) [] (c_X3_waitsForWord E h sa n (.ref h2) c ti (by assumption) (by omega) (by omega)) [1] [0, 2, 3, 4, 5, 6, 7] 0 rfl rfl gX1_stepOf_X3_waitsForWord rfl ⟨rfl, by decide +kernel⟩ ⟨by decide, by decide⟩ rfl rfl rfl rfl rfl (by decide) rfl (by decide) (by decide) (fun _ h => absurd h List.not_mem_nil) dX1_stepOf_25 rfl (Nat.le_of_ble_eq_true rfl) ⟨by decide, by decide⟩ (fun r u p_2 => ?_)
    obtain ⟨rfl, rfl⟩ := p_2
    refine g_perm (ws1 := [(v, oo 1 [.ref ma, .int (iI M), .ref fo, .ref la, .int (iI ti), .int (iI so), .int (iI ta), .int (iI go), .int (iI sl)]), (h, oo 3 (fMa n (.ref h2) sa c)), (h2, oo 3 (fMa n2 ah sa2 c2)), (sa, aI E 4 s), (fo, oo 2 [.ref f1, .ref f2, .ref f3, .int (iI nf)]), (f1, aI E 8 fm), (f2, aI E 8 fa), (f3, aI E 8 fb)]) [0, 7, 1, 2, 3, 4, 5, 6] rfl (by decide) rfl ?_
    refine g_if_eq_b (tgt := 33) dX1_stepOf_28 rfl (fun hwt => ?_) (fun hwt => ?_)
    · refine g_iconst dX1_stepOf_31 ?_
      exact g_iret hRet dX1_stepOf_32 rfl ⟨1, c, 0, 0, (by unfold sStep; rw [if_neg hflt, if_pos hwt]; exact ⟨rfl, rfl, rfl, rfl⟩), rfl, rfl⟩
    · refine g_aload_n 1 dX1_stepOf_33 rfl rfl ?_
      refine g_get (v := .int (iI (c 2))) (C := RX3) (T := TX3) (N := 14) 1 5 (fun _ h => List.mem_cons_of_mem _ (List.mem_append_left _ (List.mem_append_right _ h))) (List.mem_of_getElem? (i := 4) rfl) rfl rfl (by decide) rfl rfl dX1_stepOf_34 ?_
      refine g_if_eq (tgt := 49) (by unfold mOk at hc; unfold R32; omega) dX1_stepOf_37 rfl (fun c_3 => ?_) (fun c_3 => ?_)
      · have hD_4 : give1 c = c := by unfold give1; first | (rw [if_pos (by omega)]; done) | (rw [if_neg (by omega)]; done)
        refine g_as (ws1 := [(v, oo 1 [.ref ma, .int (iI M), .ref fo, .ref la, .int (iI ti), .int (iI so), .int (iI ta), .int (iI go), .int (iI sl)]), (h, oo 3 (fMa n (.ref h2) sa (give1 c))), (h2, oo 3 (fMa n2 ah sa2 c2)), (sa, aI E 4 s), (fo, oo 2 [.ref f1, .ref f2, .ref f3, .int (iI nf)]), (f1, aI E 8 fm), (f2, aI E 8 fa), (f3, aI E 8 fb)]) ?_ (by rw [hD_4]) rfl rfl
        have hg1 := give1_o c 1 (by omega) (by omega)
        have hg3 := give1_o c 3 (by omega) (by omega)
        have hgm : mOk (give1 c) := mOk_give hc (fun q => by (try unfold sOk at hs); omega)
        refine g_aload_n 1 dX1_stepOf_49 rfl rfl ?_
        refine g_get (v := .int (iI ((give1 c) 1))) (C := RX3) (T := TX3) (N := 14) 1 4 (fun _ h => List.mem_cons_of_mem _ (List.mem_append_left _ (List.mem_append_right _ h))) (List.mem_of_getElem? (i := 5) rfl) rfl rfl (by decide) rfl rfl dX1_stepOf_50 ?_
        refine g_if_ne (tgt := 66) (by unfold mOk at hgm; unfold R32; omega) dX1_stepOf_53 rfl (fun c_5 => ?_) (fun c_5 => ?_)
        · refine g_aload_n 0 dX1_stepOf_56 rfl rfl ?_
          refine g_aload_n 1 dX1_stepOf_57 rfl rfl ?_
          rcases (Classical.em (c2 0 = 0)) with ha | ha
          · refine g_callV_i (n := 1) (As := [.ref h]) (wr := [(sa, aI E 4 s), (fo, oo 2 [.ref f1, .ref f2, .ref f3, .int (iI nf)]), (f1, aI E 8 fm), (f2, aI E 8 fa), (f3, aI E 8 fb)]) (C := RX1) [] (c_take_a0 E v ma fo la M ti so ta go sl h sa n (give1 c) h2 sa2 n2 ah c2 (by omega) (by omega) (by omega) (by omega) (by assumption) (by assumption) (by assumption)) [0, 1, 2] [3, 4, 5, 6, 7] 0 rfl rfl gX1_stepOf_X1_takeFor rfl ⟨rfl, by decide +kernel⟩ ⟨by decide, by decide⟩ rfl rfl rfl rfl rfl (by decide) rfl (by decide) (by decide) (fun _ h => absurd h List.not_mem_nil) dX1_stepOf_58 rfl (Nat.le_of_ble_eq_true rfl) ⟨by decide, by decide⟩ (fun r u p_6 => ?_)
            obtain ⟨rfl, rfl⟩ := p_6
            refine g_perm (ws1 := [(v, oo 1 [.ref ma, .int (iI M), .ref fo, .ref la, .int (iI ti), .int (iI so), .int (iI ta), .int (iI go), .int (iI sl)]), (h, oo 3 (fMa n (.ref h2) sa (give1 c))), (h2, oo 3 (fMa n2 ah sa2 c2)), (sa, aI E 4 s), (fo, oo 2 [.ref f1, .ref f2, .ref f3, .int (iI nf)]), (f1, aI E 8 fm), (f2, aI E 8 fa), (f3, aI E 8 fb)]) [5, 6, 7, 0, 1, 2, 3, 4] rfl (by decide) rfl ?_
            refine g_if_ne (tgt := 66) (by unfold R32; omega) dX1_stepOf_61 rfl (fun _ => ?_) (fun q => absurd q (by decide))
            refine g_iconst dX1_stepOf_64 ?_
            exact g_iret hRet dX1_stepOf_65 rfl ⟨4, (give1 c), 0, 0, (by unfold sStep; rw [if_neg hflt, if_neg hwt, if_neg (by omega), if_pos (by omega)]; exact ⟨rfl, rfl, rfl, rfl⟩), rfl, rfl⟩
          · refine g_callV_i (n := 1) (As := [.ref h]) (wr := [(sa, aI E 4 s), (fo, oo 2 [.ref f1, .ref f2, .ref f3, .int (iI nf)]), (f1, aI E 8 fm), (f2, aI E 8 fa), (f3, aI E 8 fb)]) (C := RX1) [] (c_take_a1 E v ma fo la M ti so ta go sl h sa n (give1 c) h2 sa2 n2 ah c2 (by omega) (by omega) (by omega) (by omega) (by assumption) (by assumption) (by assumption)) [0, 1, 2] [3, 4, 5, 6, 7] 0 rfl rfl gX1_stepOf_X1_takeFor rfl ⟨rfl, by decide +kernel⟩ ⟨by decide, by decide⟩ rfl rfl rfl rfl rfl (by decide) rfl (by decide) (by decide) (fun _ h => absurd h List.not_mem_nil) dX1_stepOf_58 rfl (Nat.le_of_ble_eq_true rfl) ⟨by decide, by decide⟩ (fun r u p_8 => ?_)
            obtain ⟨rfl, rfl⟩ := p_8
            refine g_perm (ws1 := [(v, oo 1 [.ref ma, .int (iI M), .ref fo, .ref la, .int (iI ti), .int (iI so), .int (iI ta), .int (iI go), .int (iI sl)]), (h, oo 3 (fMa n (.ref h2) sa (up (give1 c) 1 1))), (h2, oo 3 (fMa n2 ah sa2 (up c2 0 (c2 0 - 1)))), (sa, aI E 4 s), (fo, oo 2 [.ref f1, .ref f2, .ref f3, .int (iI nf)]), (f1, aI E 8 fm), (f2, aI E 8 fa), (f3, aI E 8 fb)]) [5, 6, 7, 0, 1, 2, 3, 4] rfl (by decide) rfl ?_
            refine g_if_ne (tgt := 66) (by unfold R32; omega) dX1_stepOf_61 rfl (fun q => absurd q (by decide)) (fun _ => ?_)
            refine g_aload_n 1 dX1_stepOf_66 rfl rfl ?_
            refine g_dup dX1_stepOf_67 rfl ?_
            refine g_get (v := .int (iI ((give1 c) 3))) (C := RX3) (T := TX3) (N := 14) 1 6 (fun _ h => List.mem_cons_of_mem _ (List.mem_append_left _ (List.mem_append_right _ h))) (List.mem_of_getElem? (i := 6) rfl) rfl rfl (by decide) rfl rfl dX1_stepOf_68 ?_
            refine g_iconst dX1_stepOf_71 ?_
            refine g_iadd dX1_stepOf_72 ?_
            refine g_put (C := RX3) (T := TX3) (N := 14) (ws1 := [(v, oo 1 [.ref ma, .int (iI M), .ref fo, .ref la, .int (iI ti), .int (iI so), .int (iI ta), .int (iI go), .int (iI sl)]), (h, oo 3 (fMa n (.ref h2) sa (up (up (give1 c) 1 1) 3 (((give1 c) 3) + 1)))), (h2, oo 3 (fMa n2 ah sa2 (up c2 0 (c2 0 - 1)))), (sa, aI E 4 s), (fo, oo 2 [.ref f1, .ref f2, .ref f3, .int (iI nf)]), (f1, aI E 8 fm), (f2, aI E 8 fa), (f3, aI E 8 fb)]) 1 6 (fun _ h => List.mem_cons_of_mem _ (List.mem_append_left _ (List.mem_append_right _ h))) tyX3 tyX3_ok nmX3 (List.mem_of_getElem? (i := 6) rfl) rfl rfl (by decide) rfl (tyX3_ok 6 (by decide)) rfl rfl (by first | decide | exact Nat.le_of_ble_eq_true rfl) dX1_stepOf_73 rfl rfl ?_
            have hD_10 : work1 c = up (up (give1 c) 1 1) 3 (((give1 c) 3) + 1) := by unfold work1; first | (rw [if_pos (by omega), hg3]; done) | (rw [if_neg (by omega), hg3]; done)
            refine g_as (ws1 := [(v, oo 1 [.ref ma, .int (iI M), .ref fo, .ref la, .int (iI ti), .int (iI so), .int (iI ta), .int (iI go), .int (iI sl)]), (h, oo 3 (fMa n (.ref h2) sa (work1 c))), (h2, oo 3 (fMa n2 ah sa2 (up c2 0 (c2 0 - 1)))), (sa, aI E 4 s), (fo, oo 2 [.ref f1, .ref f2, .ref f3, .int (iI nf)]), (f1, aI E 8 fm), (f2, aI E 8 fa), (f3, aI E 8 fb)]) ?_ (by rw [hD_10]) rfl rfl
            have hw3 := work1_3 c
            have hwm : mOk (work1 c) := mOk_work hc (fun q => by (try unfold sOk at hs); omega) hc3
            refine g_aload_n 1 dX1_stepOf_76 rfl rfl ?_
            refine g_callV_i (n := 0) (As := []) (wr := [(v, oo 1 [.ref ma, .int (iI M), .ref fo, .ref la, .int (iI ti), .int (iI so), .int (iI ta), .int (iI go), .int (iI sl)]), (h2, oo 3 (fMa n2 ah sa2 (up c2 0 (c2 0 - 1)))), (fo, oo 2 [.ref f1, .ref f2, .ref f3, .int (iI nf)]), (f1, aI E 8 fm), (f2, aI E 8 fa), (f3, aI E 8 fb)]) (C := RX3) [] (c_X3_unitIsFinished E h sa n (.ref h2) (work1 c) s (by assumption) (by assumption)) [1, 3] [0, 2, 4, 5, 6, 7] 0 rfl rfl gX1_stepOf_X3_unitIsFinished rfl ⟨rfl, by decide +kernel⟩ ⟨by decide, by decide⟩ rfl rfl rfl rfl rfl (by decide) rfl (by decide) (by decide) (fun _ h => absurd h List.not_mem_nil) dX1_stepOf_77 rfl (Nat.le_of_ble_eq_true rfl) ⟨by decide, by decide⟩ (fun r u p_11 => ?_)
            obtain ⟨rfl, rfl⟩ := p_11
            refine g_perm (ws1 := [(v, oo 1 [.ref ma, .int (iI M), .ref fo, .ref la, .int (iI ti), .int (iI so), .int (iI ta), .int (iI go), .int (iI sl)]), (h, oo 3 (fMa n (.ref h2) sa (work1 c))), (h2, oo 3 (fMa n2 ah sa2 (up c2 0 (c2 0 - 1)))), (sa, aI E 4 s), (fo, oo 2 [.ref f1, .ref f2, .ref f3, .int (iI nf)]), (f1, aI E 8 fm), (f2, aI E 8 fa), (f3, aI E 8 fb)]) [0, 6, 1, 7, 2, 3, 4, 5] rfl (by decide) rfl ?_
            refine g_if_eq_b (tgt := 88) dX1_stepOf_80 rfl (fun hfn => ?_) (fun hfn => ?_)
            · refine g_aload_n 0 dX1_stepOf_83 rfl rfl ?_
              refine g_aload_n 1 dX1_stepOf_84 rfl rfl ?_
              refine g_callV_v (n := 1) (As := [.ref h]) (wr := [(h2, oo 3 (fMa n2 ah sa2 (up c2 0 (c2 0 - 1)))), (fo, oo 2 [.ref f1, .ref f2, .ref f3, .int (iI nf)]), (f1, aI E 8 fm), (f2, aI E 8 fa), (f3, aI E 8 fb)]) (C := RX1) [] (c_fin E v ma fo la M ti so ta go sl h sa n (.ref h2) (work1 c) s (by omega) (by omega) (by omega) (by omega) (by omega) (by assumption) (by assumption)) [0, 1, 3] [2, 4, 5, 6, 7] 0 rfl rfl gX1_stepOf_X1_finishAt rfl ⟨rfl, by decide +kernel⟩ ⟨by decide, by decide⟩ rfl rfl rfl rfl rfl (by decide) rfl (by decide) (by decide) (fun _ h => absurd h List.not_mem_nil) dX1_stepOf_85 rfl (Nat.le_of_ble_eq_true rfl) ⟨by decide, by decide⟩ (fun u p_12 => ?_)
              obtain ⟨c_13, gd_14, fend, rfl⟩ := p_12
              refine g_perm (ws1 := [(v, oo 1 [.ref ma, .int (iI M), .ref fo, .ref la, .int (iI ti), .int (iI so), .int (iI ta), .int (iI (if gd_14 = 0 then go else go + 1)), .int (iI sl)]), (h, oo 3 (fMa n (.ref h2) sa c_13)), (h2, oo 3 (fMa n2 ah sa2 (up c2 0 (c2 0 - 1)))), (sa, aI E 4 s), (fo, oo 2 [.ref f1, .ref f2, .ref f3, .int (iI nf)]), (f1, aI E 8 fm), (f2, aI E 8 fa), (f3, aI E 8 fb)]) [5, 6, 0, 7, 1, 2, 3, 4] rfl (by decide) rfl ?_
              refine g_iconst dX1_stepOf_88 ?_
              exact g_iret hRet dX1_stepOf_89 rfl ⟨3, c_13, 1, gd_14, (by unfold sStep; rw [if_neg hflt, if_neg hwt, if_neg (by omega), if_neg (by omega)]; refine ⟨rfl, ?_, ?_⟩; (first | rw [if_pos (by omega)] | rw [if_neg (by omega)]); unfold sFin; first | (rw [if_pos (by omega)]; exact ⟨rfl, rfl⟩) | (rw [if_neg (by omega)]; exact fend)), rfl, rfl⟩
            · refine g_iconst dX1_stepOf_88 ?_
              exact g_iret hRet dX1_stepOf_89 rfl ⟨3, (work1 c), 1, 0, (by unfold sStep; rw [if_neg hflt, if_neg hwt, if_neg (by omega), if_neg (by omega)]; refine ⟨rfl, ?_, ?_⟩; (first | rw [if_pos (by omega)] | rw [if_neg (by omega)]); unfold sFin; first | (rw [if_pos (by omega)]; exact ⟨rfl, rfl⟩) | (rw [if_neg (by omega)]; exact fend)), rfl, rfl⟩
        · refine g_aload_n 1 dX1_stepOf_66 rfl rfl ?_
          refine g_dup dX1_stepOf_67 rfl ?_
          refine g_get (v := .int (iI ((give1 c) 3))) (C := RX3) (T := TX3) (N := 14) 1 6 (fun _ h => List.mem_cons_of_mem _ (List.mem_append_left _ (List.mem_append_right _ h))) (List.mem_of_getElem? (i := 6) rfl) rfl rfl (by decide) rfl rfl dX1_stepOf_68 ?_
          refine g_iconst dX1_stepOf_71 ?_
          refine g_iadd dX1_stepOf_72 ?_
          refine g_put (C := RX3) (T := TX3) (N := 14) (ws1 := [(v, oo 1 [.ref ma, .int (iI M), .ref fo, .ref la, .int (iI ti), .int (iI so), .int (iI ta), .int (iI go), .int (iI sl)]), (h, oo 3 (fMa n (.ref h2) sa (up (give1 c) 3 (((give1 c) 3) + 1)))), (h2, oo 3 (fMa n2 ah sa2 c2)), (sa, aI E 4 s), (fo, oo 2 [.ref f1, .ref f2, .ref f3, .int (iI nf)]), (f1, aI E 8 fm), (f2, aI E 8 fa), (f3, aI E 8 fb)]) 1 6 (fun _ h => List.mem_cons_of_mem _ (List.mem_append_left _ (List.mem_append_right _ h))) tyX3 tyX3_ok nmX3 (List.mem_of_getElem? (i := 6) rfl) rfl rfl (by decide) rfl (tyX3_ok 6 (by decide)) rfl rfl (by first | decide | exact Nat.le_of_ble_eq_true rfl) dX1_stepOf_73 rfl rfl ?_
          have hD_15 : work1 c = up (give1 c) 3 (((give1 c) 3) + 1) := by unfold work1; first | (rw [if_pos (by omega), hg3]; done) | (rw [if_neg (by omega), hg3]; done)
          refine g_as (ws1 := [(v, oo 1 [.ref ma, .int (iI M), .ref fo, .ref la, .int (iI ti), .int (iI so), .int (iI ta), .int (iI go), .int (iI sl)]), (h, oo 3 (fMa n (.ref h2) sa (work1 c))), (h2, oo 3 (fMa n2 ah sa2 c2)), (sa, aI E 4 s), (fo, oo 2 [.ref f1, .ref f2, .ref f3, .int (iI nf)]), (f1, aI E 8 fm), (f2, aI E 8 fa), (f3, aI E 8 fb)]) ?_ (by rw [hD_15]) rfl rfl
          have hw3 := work1_3 c
          have hwm : mOk (work1 c) := mOk_work hc (fun q => by (try unfold sOk at hs); omega) hc3
          refine g_aload_n 1 dX1_stepOf_76 rfl rfl ?_
          refine g_callV_i (n := 0) (As := []) (wr := [(v, oo 1 [.ref ma, .int (iI M), .ref fo, .ref la, .int (iI ti), .int (iI so), .int (iI ta), .int (iI go), .int (iI sl)]), (h2, oo 3 (fMa n2 ah sa2 c2)), (fo, oo 2 [.ref f1, .ref f2, .ref f3, .int (iI nf)]), (f1, aI E 8 fm), (f2, aI E 8 fa), (f3, aI E 8 fb)]) (C := RX3) [] (c_X3_unitIsFinished E h sa n (.ref h2) (work1 c) s (by assumption) (by assumption)) [1, 3] [0, 2, 4, 5, 6, 7] 0 rfl rfl gX1_stepOf_X3_unitIsFinished rfl ⟨rfl, by decide +kernel⟩ ⟨by decide, by decide⟩ rfl rfl rfl rfl rfl (by decide) rfl (by decide) (by decide) (fun _ h => absurd h List.not_mem_nil) dX1_stepOf_77 rfl (Nat.le_of_ble_eq_true rfl) ⟨by decide, by decide⟩ (fun r u p_16 => ?_)
          obtain ⟨rfl, rfl⟩ := p_16
          refine g_perm (ws1 := [(v, oo 1 [.ref ma, .int (iI M), .ref fo, .ref la, .int (iI ti), .int (iI so), .int (iI ta), .int (iI go), .int (iI sl)]), (h, oo 3 (fMa n (.ref h2) sa (work1 c))), (h2, oo 3 (fMa n2 ah sa2 c2)), (sa, aI E 4 s), (fo, oo 2 [.ref f1, .ref f2, .ref f3, .int (iI nf)]), (f1, aI E 8 fm), (f2, aI E 8 fa), (f3, aI E 8 fb)]) [0, 6, 1, 7, 2, 3, 4, 5] rfl (by decide) rfl ?_
          refine g_if_eq_b (tgt := 88) dX1_stepOf_80 rfl (fun hfn => ?_) (fun hfn => ?_)
          · refine g_aload_n 0 dX1_stepOf_83 rfl rfl ?_
            refine g_aload_n 1 dX1_stepOf_84 rfl rfl ?_
            refine g_callV_v (n := 1) (As := [.ref h]) (wr := [(h2, oo 3 (fMa n2 ah sa2 c2)), (fo, oo 2 [.ref f1, .ref f2, .ref f3, .int (iI nf)]), (f1, aI E 8 fm), (f2, aI E 8 fa), (f3, aI E 8 fb)]) (C := RX1) [] (c_fin E v ma fo la M ti so ta go sl h sa n (.ref h2) (work1 c) s (by omega) (by omega) (by omega) (by omega) (by omega) (by assumption) (by assumption)) [0, 1, 3] [2, 4, 5, 6, 7] 0 rfl rfl gX1_stepOf_X1_finishAt rfl ⟨rfl, by decide +kernel⟩ ⟨by decide, by decide⟩ rfl rfl rfl rfl rfl (by decide) rfl (by decide) (by decide) (fun _ h => absurd h List.not_mem_nil) dX1_stepOf_85 rfl (Nat.le_of_ble_eq_true rfl) ⟨by decide, by decide⟩ (fun u p_17 => ?_)
            obtain ⟨c_18, gd_19, fend, rfl⟩ := p_17
            refine g_perm (ws1 := [(v, oo 1 [.ref ma, .int (iI M), .ref fo, .ref la, .int (iI ti), .int (iI so), .int (iI ta), .int (iI (if gd_19 = 0 then go else go + 1)), .int (iI sl)]), (h, oo 3 (fMa n (.ref h2) sa c_18)), (h2, oo 3 (fMa n2 ah sa2 c2)), (sa, aI E 4 s), (fo, oo 2 [.ref f1, .ref f2, .ref f3, .int (iI nf)]), (f1, aI E 8 fm), (f2, aI E 8 fa), (f3, aI E 8 fb)]) [5, 6, 0, 7, 1, 2, 3, 4] rfl (by decide) rfl ?_
            refine g_iconst dX1_stepOf_88 ?_
            exact g_iret hRet dX1_stepOf_89 rfl ⟨3, c_18, 0, gd_19, (by unfold sStep; rw [if_neg hflt, if_neg hwt, if_neg (by omega), if_neg (by omega)]; refine ⟨rfl, ?_, ?_⟩; (first | rw [if_pos (by omega)] | rw [if_neg (by omega)]); unfold sFin; first | (rw [if_pos (by omega)]; exact ⟨rfl, rfl⟩) | (rw [if_neg (by omega)]; exact fend)), rfl, rfl⟩
          · refine g_iconst dX1_stepOf_88 ?_
            exact g_iret hRet dX1_stepOf_89 rfl ⟨3, (work1 c), 0, 0, (by unfold sStep; rw [if_neg hflt, if_neg hwt, if_neg (by omega), if_neg (by omega)]; refine ⟨rfl, ?_, ?_⟩; (first | rw [if_pos (by omega)] | rw [if_neg (by omega)]); unfold sFin; first | (rw [if_pos (by omega)]; exact ⟨rfl, rfl⟩) | (rw [if_neg (by omega)]; exact fend)), rfl, rfl⟩
      · refine g_aload_n 1 dX1_stepOf_40 rfl rfl ?_
        rcases (Classical.em (c 0 < s 3)) with hg | hg
        · refine g_callV_i (n := 0) (As := []) (wr := [(v, oo 1 [.ref ma, .int (iI M), .ref fo, .ref la, .int (iI ti), .int (iI so), .int (iI ta), .int (iI go), .int (iI sl)]), (h2, oo 3 (fMa n2 ah sa2 c2)), (fo, oo 2 [.ref f1, .ref f2, .ref f3, .int (iI nf)]), (f1, aI E 8 fm), (f2, aI E 8 fa), (f3, aI E 8 fb)]) (C := RX3) [] (c_giveOn_t E h sa n (.ref h2) c s (by assumption) (by omega) (by assumption)) [1, 3] [0, 2, 4, 5, 6, 7] 0 rfl rfl gX1_stepOf_X3_giveOn rfl ⟨rfl, by decide +kernel⟩ ⟨by decide, by decide⟩ rfl rfl rfl rfl rfl (by decide) rfl (by decide) (by decide) (fun _ h => absurd h List.not_mem_nil) dX1_stepOf_41 rfl (Nat.le_of_ble_eq_true rfl) ⟨by decide, by decide⟩ (fun r u p_20 => ?_)
          obtain ⟨rfl, rfl⟩ := p_20
          refine g_perm (ws1 := [(v, oo 1 [.ref ma, .int (iI M), .ref fo, .ref la, .int (iI ti), .int (iI so), .int (iI ta), .int (iI go), .int (iI sl)]), (h, oo 3 (fMa n (.ref h2) sa (up (up c 0 (c 0 + 1)) 2 0))), (h2, oo 3 (fMa n2 ah sa2 c2)), (sa, aI E 4 s), (fo, oo 2 [.ref f1, .ref f2, .ref f3, .int (iI nf)]), (f1, aI E 8 fm), (f2, aI E 8 fa), (f3, aI E 8 fb)]) [0, 6, 1, 7, 2, 3, 4, 5] rfl (by decide) rfl ?_
          refine g_if_ne (tgt := 49) (by unfold R32; omega) dX1_stepOf_44 rfl (fun q => absurd q (by decide)) (fun _ => ?_)
          have hD_22 : give1 c = up (up c 0 (c 0 + 1)) 2 0 := by unfold give1; first | (rw [if_pos (by omega)]; done) | (rw [if_neg (by omega)]; done)
          refine g_as (ws1 := [(v, oo 1 [.ref ma, .int (iI M), .ref fo, .ref la, .int (iI ti), .int (iI so), .int (iI ta), .int (iI go), .int (iI sl)]), (h, oo 3 (fMa n (.ref h2) sa (give1 c))), (h2, oo 3 (fMa n2 ah sa2 c2)), (sa, aI E 4 s), (fo, oo 2 [.ref f1, .ref f2, .ref f3, .int (iI nf)]), (f1, aI E 8 fm), (f2, aI E 8 fa), (f3, aI E 8 fb)]) ?_ (by rw [hD_22]) rfl rfl
          have hg1 := give1_o c 1 (by omega) (by omega)
          have hg3 := give1_o c 3 (by omega) (by omega)
          have hgm : mOk (give1 c) := mOk_give hc (fun q => by (try unfold sOk at hs); omega)
          refine g_aload_n 1 dX1_stepOf_49 rfl rfl ?_
          refine g_get (v := .int (iI ((give1 c) 1))) (C := RX3) (T := TX3) (N := 14) 1 4 (fun _ h => List.mem_cons_of_mem _ (List.mem_append_left _ (List.mem_append_right _ h))) (List.mem_of_getElem? (i := 5) rfl) rfl rfl (by decide) rfl rfl dX1_stepOf_50 ?_
          refine g_if_ne (tgt := 66) (by unfold mOk at hgm; unfold R32; omega) dX1_stepOf_53 rfl (fun c_23 => ?_) (fun c_23 => ?_)
          · refine g_aload_n 0 dX1_stepOf_56 rfl rfl ?_
            refine g_aload_n 1 dX1_stepOf_57 rfl rfl ?_
            rcases (Classical.em (c2 0 = 0)) with ha | ha
            · refine g_callV_i (n := 1) (As := [.ref h]) (wr := [(sa, aI E 4 s), (fo, oo 2 [.ref f1, .ref f2, .ref f3, .int (iI nf)]), (f1, aI E 8 fm), (f2, aI E 8 fa), (f3, aI E 8 fb)]) (C := RX1) [] (c_take_a0 E v ma fo la M ti so ta go sl h sa n (give1 c) h2 sa2 n2 ah c2 (by omega) (by omega) (by omega) (by omega) (by assumption) (by assumption) (by assumption)) [0, 1, 2] [3, 4, 5, 6, 7] 0 rfl rfl gX1_stepOf_X1_takeFor rfl ⟨rfl, by decide +kernel⟩ ⟨by decide, by decide⟩ rfl rfl rfl rfl rfl (by decide) rfl (by decide) (by decide) (fun _ h => absurd h List.not_mem_nil) dX1_stepOf_58 rfl (Nat.le_of_ble_eq_true rfl) ⟨by decide, by decide⟩ (fun r u p_24 => ?_)
              obtain ⟨rfl, rfl⟩ := p_24
              refine g_perm (ws1 := [(v, oo 1 [.ref ma, .int (iI M), .ref fo, .ref la, .int (iI ti), .int (iI so), .int (iI ta), .int (iI go), .int (iI sl)]), (h, oo 3 (fMa n (.ref h2) sa (give1 c))), (h2, oo 3 (fMa n2 ah sa2 c2)), (sa, aI E 4 s), (fo, oo 2 [.ref f1, .ref f2, .ref f3, .int (iI nf)]), (f1, aI E 8 fm), (f2, aI E 8 fa), (f3, aI E 8 fb)]) [5, 6, 7, 0, 1, 2, 3, 4] rfl (by decide) rfl ?_
              refine g_if_ne (tgt := 66) (by unfold R32; omega) dX1_stepOf_61 rfl (fun _ => ?_) (fun q => absurd q (by decide))
              refine g_iconst dX1_stepOf_64 ?_
              exact g_iret hRet dX1_stepOf_65 rfl ⟨4, (give1 c), 0, 0, (by unfold sStep; rw [if_neg hflt, if_neg hwt, if_neg (by omega), if_pos (by omega)]; exact ⟨rfl, rfl, rfl, rfl⟩), rfl, rfl⟩
            · refine g_callV_i (n := 1) (As := [.ref h]) (wr := [(sa, aI E 4 s), (fo, oo 2 [.ref f1, .ref f2, .ref f3, .int (iI nf)]), (f1, aI E 8 fm), (f2, aI E 8 fa), (f3, aI E 8 fb)]) (C := RX1) [] (c_take_a1 E v ma fo la M ti so ta go sl h sa n (give1 c) h2 sa2 n2 ah c2 (by omega) (by omega) (by omega) (by omega) (by assumption) (by assumption) (by assumption)) [0, 1, 2] [3, 4, 5, 6, 7] 0 rfl rfl gX1_stepOf_X1_takeFor rfl ⟨rfl, by decide +kernel⟩ ⟨by decide, by decide⟩ rfl rfl rfl rfl rfl (by decide) rfl (by decide) (by decide) (fun _ h => absurd h List.not_mem_nil) dX1_stepOf_58 rfl (Nat.le_of_ble_eq_true rfl) ⟨by decide, by decide⟩ (fun r u p_26 => ?_)
              obtain ⟨rfl, rfl⟩ := p_26
              refine g_perm (ws1 := [(v, oo 1 [.ref ma, .int (iI M), .ref fo, .ref la, .int (iI ti), .int (iI so), .int (iI ta), .int (iI go), .int (iI sl)]), (h, oo 3 (fMa n (.ref h2) sa (up (give1 c) 1 1))), (h2, oo 3 (fMa n2 ah sa2 (up c2 0 (c2 0 - 1)))), (sa, aI E 4 s), (fo, oo 2 [.ref f1, .ref f2, .ref f3, .int (iI nf)]), (f1, aI E 8 fm), (f2, aI E 8 fa), (f3, aI E 8 fb)]) [5, 6, 7, 0, 1, 2, 3, 4] rfl (by decide) rfl ?_
              refine g_if_ne (tgt := 66) (by unfold R32; omega) dX1_stepOf_61 rfl (fun q => absurd q (by decide)) (fun _ => ?_)
              refine g_aload_n 1 dX1_stepOf_66 rfl rfl ?_
              refine g_dup dX1_stepOf_67 rfl ?_
              refine g_get (v := .int (iI ((give1 c) 3))) (C := RX3) (T := TX3) (N := 14) 1 6 (fun _ h => List.mem_cons_of_mem _ (List.mem_append_left _ (List.mem_append_right _ h))) (List.mem_of_getElem? (i := 6) rfl) rfl rfl (by decide) rfl rfl dX1_stepOf_68 ?_
              refine g_iconst dX1_stepOf_71 ?_
              refine g_iadd dX1_stepOf_72 ?_
              refine g_put (C := RX3) (T := TX3) (N := 14) (ws1 := [(v, oo 1 [.ref ma, .int (iI M), .ref fo, .ref la, .int (iI ti), .int (iI so), .int (iI ta), .int (iI go), .int (iI sl)]), (h, oo 3 (fMa n (.ref h2) sa (up (up (give1 c) 1 1) 3 (((give1 c) 3) + 1)))), (h2, oo 3 (fMa n2 ah sa2 (up c2 0 (c2 0 - 1)))), (sa, aI E 4 s), (fo, oo 2 [.ref f1, .ref f2, .ref f3, .int (iI nf)]), (f1, aI E 8 fm), (f2, aI E 8 fa), (f3, aI E 8 fb)]) 1 6 (fun _ h => List.mem_cons_of_mem _ (List.mem_append_left _ (List.mem_append_right _ h))) tyX3 tyX3_ok nmX3 (List.mem_of_getElem? (i := 6) rfl) rfl rfl (by decide) rfl (tyX3_ok 6 (by decide)) rfl rfl (by first | decide | exact Nat.le_of_ble_eq_true rfl) dX1_stepOf_73 rfl rfl ?_
              have hD_28 : work1 c = up (up (give1 c) 1 1) 3 (((give1 c) 3) + 1) := by unfold work1; first | (rw [if_pos (by omega), hg3]; done) | (rw [if_neg (by omega), hg3]; done)
              refine g_as (ws1 := [(v, oo 1 [.ref ma, .int (iI M), .ref fo, .ref la, .int (iI ti), .int (iI so), .int (iI ta), .int (iI go), .int (iI sl)]), (h, oo 3 (fMa n (.ref h2) sa (work1 c))), (h2, oo 3 (fMa n2 ah sa2 (up c2 0 (c2 0 - 1)))), (sa, aI E 4 s), (fo, oo 2 [.ref f1, .ref f2, .ref f3, .int (iI nf)]), (f1, aI E 8 fm), (f2, aI E 8 fa), (f3, aI E 8 fb)]) ?_ (by rw [hD_28]) rfl rfl
              have hw3 := work1_3 c
              have hwm : mOk (work1 c) := mOk_work hc (fun q => by (try unfold sOk at hs); omega) hc3
              refine g_aload_n 1 dX1_stepOf_76 rfl rfl ?_
              refine g_callV_i (n := 0) (As := []) (wr := [(v, oo 1 [.ref ma, .int (iI M), .ref fo, .ref la, .int (iI ti), .int (iI so), .int (iI ta), .int (iI go), .int (iI sl)]), (h2, oo 3 (fMa n2 ah sa2 (up c2 0 (c2 0 - 1)))), (fo, oo 2 [.ref f1, .ref f2, .ref f3, .int (iI nf)]), (f1, aI E 8 fm), (f2, aI E 8 fa), (f3, aI E 8 fb)]) (C := RX3) [] (c_X3_unitIsFinished E h sa n (.ref h2) (work1 c) s (by assumption) (by assumption)) [1, 3] [0, 2, 4, 5, 6, 7] 0 rfl rfl gX1_stepOf_X3_unitIsFinished rfl ⟨rfl, by decide +kernel⟩ ⟨by decide, by decide⟩ rfl rfl rfl rfl rfl (by decide) rfl (by decide) (by decide) (fun _ h => absurd h List.not_mem_nil) dX1_stepOf_77 rfl (Nat.le_of_ble_eq_true rfl) ⟨by decide, by decide⟩ (fun r u p_29 => ?_)
              obtain ⟨rfl, rfl⟩ := p_29
              refine g_perm (ws1 := [(v, oo 1 [.ref ma, .int (iI M), .ref fo, .ref la, .int (iI ti), .int (iI so), .int (iI ta), .int (iI go), .int (iI sl)]), (h, oo 3 (fMa n (.ref h2) sa (work1 c))), (h2, oo 3 (fMa n2 ah sa2 (up c2 0 (c2 0 - 1)))), (sa, aI E 4 s), (fo, oo 2 [.ref f1, .ref f2, .ref f3, .int (iI nf)]), (f1, aI E 8 fm), (f2, aI E 8 fa), (f3, aI E 8 fb)]) [0, 6, 1, 7, 2, 3, 4, 5] rfl (by decide) rfl ?_
              refine g_if_eq_b (tgt := 88) dX1_stepOf_80 rfl (fun hfn => ?_) (fun hfn => ?_)
              · refine g_aload_n 0 dX1_stepOf_83 rfl rfl ?_
                refine g_aload_n 1 dX1_stepOf_84 rfl rfl ?_
                refine g_callV_v (n := 1) (As := [.ref h]) (wr := [(h2, oo 3 (fMa n2 ah sa2 (up c2 0 (c2 0 - 1)))), (fo, oo 2 [.ref f1, .ref f2, .ref f3, .int (iI nf)]), (f1, aI E 8 fm), (f2, aI E 8 fa), (f3, aI E 8 fb)]) (C := RX1) [] (c_fin E v ma fo la M ti so ta go sl h sa n (.ref h2) (work1 c) s (by omega) (by omega) (by omega) (by omega) (by omega) (by assumption) (by assumption)) [0, 1, 3] [2, 4, 5, 6, 7] 0 rfl rfl gX1_stepOf_X1_finishAt rfl ⟨rfl, by decide +kernel⟩ ⟨by decide, by decide⟩ rfl rfl rfl rfl rfl (by decide) rfl (by decide) (by decide) (fun _ h => absurd h List.not_mem_nil) dX1_stepOf_85 rfl (Nat.le_of_ble_eq_true rfl) ⟨by decide, by decide⟩ (fun u p_30 => ?_)
                obtain ⟨c_31, gd_32, fend, rfl⟩ := p_30
                refine g_perm (ws1 := [(v, oo 1 [.ref ma, .int (iI M), .ref fo, .ref la, .int (iI ti), .int (iI so), .int (iI ta), .int (iI (if gd_32 = 0 then go else go + 1)), .int (iI sl)]), (h, oo 3 (fMa n (.ref h2) sa c_31)), (h2, oo 3 (fMa n2 ah sa2 (up c2 0 (c2 0 - 1)))), (sa, aI E 4 s), (fo, oo 2 [.ref f1, .ref f2, .ref f3, .int (iI nf)]), (f1, aI E 8 fm), (f2, aI E 8 fa), (f3, aI E 8 fb)]) [5, 6, 0, 7, 1, 2, 3, 4] rfl (by decide) rfl ?_
                refine g_iconst dX1_stepOf_88 ?_
                exact g_iret hRet dX1_stepOf_89 rfl ⟨3, c_31, 1, gd_32, (by unfold sStep; rw [if_neg hflt, if_neg hwt, if_neg (by omega), if_neg (by omega)]; refine ⟨rfl, ?_, ?_⟩; (first | rw [if_pos (by omega)] | rw [if_neg (by omega)]); unfold sFin; first | (rw [if_pos (by omega)]; exact ⟨rfl, rfl⟩) | (rw [if_neg (by omega)]; exact fend)), rfl, rfl⟩
              · refine g_iconst dX1_stepOf_88 ?_
                exact g_iret hRet dX1_stepOf_89 rfl ⟨3, (work1 c), 1, 0, (by unfold sStep; rw [if_neg hflt, if_neg hwt, if_neg (by omega), if_neg (by omega)]; refine ⟨rfl, ?_, ?_⟩; (first | rw [if_pos (by omega)] | rw [if_neg (by omega)]); unfold sFin; first | (rw [if_pos (by omega)]; exact ⟨rfl, rfl⟩) | (rw [if_neg (by omega)]; exact fend)), rfl, rfl⟩
          · refine g_aload_n 1 dX1_stepOf_66 rfl rfl ?_
            refine g_dup dX1_stepOf_67 rfl ?_
            refine g_get (v := .int (iI ((give1 c) 3))) (C := RX3) (T := TX3) (N := 14) 1 6 (fun _ h => List.mem_cons_of_mem _ (List.mem_append_left _ (List.mem_append_right _ h))) (List.mem_of_getElem? (i := 6) rfl) rfl rfl (by decide) rfl rfl dX1_stepOf_68 ?_
            refine g_iconst dX1_stepOf_71 ?_
            refine g_iadd dX1_stepOf_72 ?_
            refine g_put (C := RX3) (T := TX3) (N := 14) (ws1 := [(v, oo 1 [.ref ma, .int (iI M), .ref fo, .ref la, .int (iI ti), .int (iI so), .int (iI ta), .int (iI go), .int (iI sl)]), (h, oo 3 (fMa n (.ref h2) sa (up (give1 c) 3 (((give1 c) 3) + 1)))), (h2, oo 3 (fMa n2 ah sa2 c2)), (sa, aI E 4 s), (fo, oo 2 [.ref f1, .ref f2, .ref f3, .int (iI nf)]), (f1, aI E 8 fm), (f2, aI E 8 fa), (f3, aI E 8 fb)]) 1 6 (fun _ h => List.mem_cons_of_mem _ (List.mem_append_left _ (List.mem_append_right _ h))) tyX3 tyX3_ok nmX3 (List.mem_of_getElem? (i := 6) rfl) rfl rfl (by decide) rfl (tyX3_ok 6 (by decide)) rfl rfl (by first | decide | exact Nat.le_of_ble_eq_true rfl) dX1_stepOf_73 rfl rfl ?_
            have hD_33 : work1 c = up (give1 c) 3 (((give1 c) 3) + 1) := by unfold work1; first | (rw [if_pos (by omega), hg3]; done) | (rw [if_neg (by omega), hg3]; done)
            refine g_as (ws1 := [(v, oo 1 [.ref ma, .int (iI M), .ref fo, .ref la, .int (iI ti), .int (iI so), .int (iI ta), .int (iI go), .int (iI sl)]), (h, oo 3 (fMa n (.ref h2) sa (work1 c))), (h2, oo 3 (fMa n2 ah sa2 c2)), (sa, aI E 4 s), (fo, oo 2 [.ref f1, .ref f2, .ref f3, .int (iI nf)]), (f1, aI E 8 fm), (f2, aI E 8 fa), (f3, aI E 8 fb)]) ?_ (by rw [hD_33]) rfl rfl
            have hw3 := work1_3 c
            have hwm : mOk (work1 c) := mOk_work hc (fun q => by (try unfold sOk at hs); omega) hc3
            refine g_aload_n 1 dX1_stepOf_76 rfl rfl ?_
            refine g_callV_i (n := 0) (As := []) (wr := [(v, oo 1 [.ref ma, .int (iI M), .ref fo, .ref la, .int (iI ti), .int (iI so), .int (iI ta), .int (iI go), .int (iI sl)]), (h2, oo 3 (fMa n2 ah sa2 c2)), (fo, oo 2 [.ref f1, .ref f2, .ref f3, .int (iI nf)]), (f1, aI E 8 fm), (f2, aI E 8 fa), (f3, aI E 8 fb)]) (C := RX3) [] (c_X3_unitIsFinished E h sa n (.ref h2) (work1 c) s (by assumption) (by assumption)) [1, 3] [0, 2, 4, 5, 6, 7] 0 rfl rfl gX1_stepOf_X3_unitIsFinished rfl ⟨rfl, by decide +kernel⟩ ⟨by decide, by decide⟩ rfl rfl rfl rfl rfl (by decide) rfl (by decide) (by decide) (fun _ h => absurd h List.not_mem_nil) dX1_stepOf_77 rfl (Nat.le_of_ble_eq_true rfl) ⟨by decide, by decide⟩ (fun r u p_34 => ?_)
            obtain ⟨rfl, rfl⟩ := p_34
            refine g_perm (ws1 := [(v, oo 1 [.ref ma, .int (iI M), .ref fo, .ref la, .int (iI ti), .int (iI so), .int (iI ta), .int (iI go), .int (iI sl)]), (h, oo 3 (fMa n (.ref h2) sa (work1 c))), (h2, oo 3 (fMa n2 ah sa2 c2)), (sa, aI E 4 s), (fo, oo 2 [.ref f1, .ref f2, .ref f3, .int (iI nf)]), (f1, aI E 8 fm), (f2, aI E 8 fa), (f3, aI E 8 fb)]) [0, 6, 1, 7, 2, 3, 4, 5] rfl (by decide) rfl ?_
            refine g_if_eq_b (tgt := 88) dX1_stepOf_80 rfl (fun hfn => ?_) (fun hfn => ?_)
            · refine g_aload_n 0 dX1_stepOf_83 rfl rfl ?_
              refine g_aload_n 1 dX1_stepOf_84 rfl rfl ?_
              refine g_callV_v (n := 1) (As := [.ref h]) (wr := [(h2, oo 3 (fMa n2 ah sa2 c2)), (fo, oo 2 [.ref f1, .ref f2, .ref f3, .int (iI nf)]), (f1, aI E 8 fm), (f2, aI E 8 fa), (f3, aI E 8 fb)]) (C := RX1) [] (c_fin E v ma fo la M ti so ta go sl h sa n (.ref h2) (work1 c) s (by omega) (by omega) (by omega) (by omega) (by omega) (by assumption) (by assumption)) [0, 1, 3] [2, 4, 5, 6, 7] 0 rfl rfl gX1_stepOf_X1_finishAt rfl ⟨rfl, by decide +kernel⟩ ⟨by decide, by decide⟩ rfl rfl rfl rfl rfl (by decide) rfl (by decide) (by decide) (fun _ h => absurd h List.not_mem_nil) dX1_stepOf_85 rfl (Nat.le_of_ble_eq_true rfl) ⟨by decide, by decide⟩ (fun u p_35 => ?_)
              obtain ⟨c_36, gd_37, fend, rfl⟩ := p_35
              refine g_perm (ws1 := [(v, oo 1 [.ref ma, .int (iI M), .ref fo, .ref la, .int (iI ti), .int (iI so), .int (iI ta), .int (iI (if gd_37 = 0 then go else go + 1)), .int (iI sl)]), (h, oo 3 (fMa n (.ref h2) sa c_36)), (h2, oo 3 (fMa n2 ah sa2 c2)), (sa, aI E 4 s), (fo, oo 2 [.ref f1, .ref f2, .ref f3, .int (iI nf)]), (f1, aI E 8 fm), (f2, aI E 8 fa), (f3, aI E 8 fb)]) [5, 6, 0, 7, 1, 2, 3, 4] rfl (by decide) rfl ?_
              refine g_iconst dX1_stepOf_88 ?_
              exact g_iret hRet dX1_stepOf_89 rfl ⟨3, c_36, 0, gd_37, (by unfold sStep; rw [if_neg hflt, if_neg hwt, if_neg (by omega), if_neg (by omega)]; refine ⟨rfl, ?_, ?_⟩; (first | rw [if_pos (by omega)] | rw [if_neg (by omega)]); unfold sFin; first | (rw [if_pos (by omega)]; exact ⟨rfl, rfl⟩) | (rw [if_neg (by omega)]; exact fend)), rfl, rfl⟩
            · refine g_iconst dX1_stepOf_88 ?_
              exact g_iret hRet dX1_stepOf_89 rfl ⟨3, (work1 c), 0, 0, (by unfold sStep; rw [if_neg hflt, if_neg hwt, if_neg (by omega), if_neg (by omega)]; refine ⟨rfl, ?_, ?_⟩; (first | rw [if_pos (by omega)] | rw [if_neg (by omega)]); unfold sFin; first | (rw [if_pos (by omega)]; exact ⟨rfl, rfl⟩) | (rw [if_neg (by omega)]; exact fend)), rfl, rfl⟩
        · refine g_callV_i (n := 0) (As := []) (wr := [(v, oo 1 [.ref ma, .int (iI M), .ref fo, .ref la, .int (iI ti), .int (iI so), .int (iI ta), .int (iI go), .int (iI sl)]), (h2, oo 3 (fMa n2 ah sa2 c2)), (fo, oo 2 [.ref f1, .ref f2, .ref f3, .int (iI nf)]), (f1, aI E 8 fm), (f2, aI E 8 fa), (f3, aI E 8 fb)]) (C := RX3) [] (c_giveOn_f E h sa n (.ref h2) c s (by assumption) (by omega) (by assumption)) [1, 3] [0, 2, 4, 5, 6, 7] 0 rfl rfl gX1_stepOf_X3_giveOn rfl ⟨rfl, by decide +kernel⟩ ⟨by decide, by decide⟩ rfl rfl rfl rfl rfl (by decide) rfl (by decide) (by decide) (fun _ h => absurd h List.not_mem_nil) dX1_stepOf_41 rfl (Nat.le_of_ble_eq_true rfl) ⟨by decide, by decide⟩ (fun r u p_38 => ?_)
          obtain ⟨rfl, rfl⟩ := p_38
          refine g_perm (ws1 := [(v, oo 1 [.ref ma, .int (iI M), .ref fo, .ref la, .int (iI ti), .int (iI so), .int (iI ta), .int (iI go), .int (iI sl)]), (h, oo 3 (fMa n (.ref h2) sa c)), (h2, oo 3 (fMa n2 ah sa2 c2)), (sa, aI E 4 s), (fo, oo 2 [.ref f1, .ref f2, .ref f3, .int (iI nf)]), (f1, aI E 8 fm), (f2, aI E 8 fa), (f3, aI E 8 fb)]) [0, 6, 1, 7, 2, 3, 4, 5] rfl (by decide) rfl ?_
          refine g_if_ne (tgt := 49) (by unfold R32; omega) dX1_stepOf_44 rfl (fun _ => ?_) (fun q => absurd q (by decide))
          refine g_iconst dX1_stepOf_47 ?_
          exact g_iret hRet dX1_stepOf_48 rfl ⟨2, c, 0, 0, (by unfold sStep; rw [if_neg hflt, if_neg hwt, if_pos (by omega)]; exact ⟨rfl, rfl, rfl, rfl⟩), rfl, rfl⟩

end LINE
